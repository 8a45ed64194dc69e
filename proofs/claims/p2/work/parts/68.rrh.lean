/-! The reference reads a number. (rows laid by wip/whole/rr8.py) -/
theorem rD_by (t : List Nat) (ht : ∀ i, t.getD i 0 < 256) : ∀ (m q : Nat) (ds : List Nat), (∀ i, ds.getD i 0 < 256) → ∀ i, (rD t m q ds).2.2.getD i 0 < 256 := by
  intro m
  induction m with
  | zero => intro q ds h; exact h
  | succ m ih =>
    intro q ds h
    rw [rD]
    split
    · split
      · exact h
      · refine ih (q + 1) _ (fun i => ?_)
        by_cases q1 : i < ds.length + 1
        · rw [getD_snoc q1]
          split
          · exact h i
          · exact ht q
        · rw [gd0 (by simp only [List.length_append, List.length_cons, List.length_nil]; omega)]; decide
    · exact h
theorem RS.ws {σ0 σ σ' : Nat → Int32} {τ0 τ τ' : Nat → Nat → Int32} {t D d : List Nat} {q k qq db kd : Nat} (h : RS σ0 τ0 t q D k qq db σ τ) (hW : WS (rbg σ (nI kd)) τ d σ' τ') : RS σ0 τ0 t q d kd 0 0 σ' τ' := by
  obtain ⟨⟨⟨a1, a2, a3, a4, a5⟩, ⟨b1, b2, b3, b4, b5, b6⟩, h7, h8, h9, h10⟩, ⟨c1, c2⟩, c3, -⟩ := h
  obtain ⟨w1, w2, w3, w4, w5, w6⟩ := hW
  have e : ∀ i, i ≠ 10 → i ≠ 11 → i ≠ 12 → i ≠ 13 → σ' i = σ i := fun i i1 i2 i3 i4 => by
    rw [w1 i i1, rbg, pk_un i4, pk_un i3, pk_un i1, pk_un i2]
  refine ⟨⟨⟨?_, ?_, ?_, ?_, ?_⟩, ⟨?_, ?_, ?_, ?_, ?_, ?_⟩, fun j hj => ?_, h8, h9, ?_⟩, ⟨?_, c2⟩, ?_, ⟨w3, w5⟩, ?_, ?_, ?_⟩
  · rw [e 1 (by decide) (by decide) (by decide) (by decide)]; exact a1
  · rw [e 2 (by decide) (by decide) (by decide) (by decide)]; exact a2
  · rw [e 7 (by decide) (by decide) (by decide) (by decide)]; exact a3
  · rw [e 8 (by decide) (by decide) (by decide) (by decide)]; exact a4
  · rw [e 15 (by decide) (by decide) (by decide) (by decide)]; exact a5
  · rw [w2 3 (by decide)]; exact b1
  · rw [w2 4 (by decide)]; exact b2
  · rw [w2 5 (by decide)]; exact b3
  · rw [w2 6 (by decide)]; exact b4
  · rw [w2 14 (by decide)]; exact b5
  · rw [w2 20 (by decide)]; exact b6
  · rw [w2 0 (by decide)]; exact h7 j hj
  · rw [e 17 (by decide) (by decide) (by decide) (by decide)]; exact h10
  · rw [e 16 (by decide) (by decide) (by decide) (by decide)]; exact c1
  · rw [e 18 (by decide) (by decide) (by decide) (by decide)]; exact c3
  · rw [w1 11 (by decide)]; rfl
  · rw [w1 12 (by decide)]; rfl
  · rw [w1 13 (by decide)]; rfl
theorem RS.wf {σ0 σ : Nat → Int32} {τ0 τ : Nat → Nat → Int32} {t D : List Nat} {q k qq db : Nat} {kd : Int32} (h : RS σ0 τ0 t q D k qq db σ τ) : RG σ0 τ0 t 0 0 0 (rfail (rbg σ kd) 6 0) τ := by
  obtain ⟨h1, h2, h3, -⟩ := h
  rw [rfail, if_pos (show rbg σ kd 18 = 0 from h3)]
  exact ⟨((((((h1.upd (by omega)).upd (by omega)).upd (by omega)).upd (by omega)).upd (by omega)).upd (by omega)), ⟨q, h2.1, by have := h1.2.2.2.1; have := h2.2; omega⟩, by rw [pk_un (by decide), pk_us]; decide, by rw [pk_us]; rfl, rfl⟩
def rDs (t : List Nat) : Bool × Nat × List Nat := rD t (t.length - sgn0 t) (sgn0 t) []
/-- what the digits come to: taken up to q, or a fault at w -/
def nrO (t : List Nat) (q : Nat) (ds : List Nat) (bf : Option Nat) : Prop := (bf = none ∧ rDs t = (true, q, ds) ∧ ¬ hb t q = 46 ∧ (hb t (sgn0 t) = 46 ∨ isD (hb t (sgn0 t)) = true)) ∨ (∃ q1 ds1, bf = some ds1.length ∧ rDs t = (true, q1, ds1) ∧ hb t q1 = 46 ∧ isD (hb t (q1 + 1)) = true ∧ rD t (t.length - (q1 + 1)) (q1 + 1) ds1 = (true, q, ds))
def nrF (t : List Nat) (w : Nat) : Prop := (¬ hb t (sgn0 t) = 46 ∧ isD (hb t (sgn0 t)) = false ∧ w = sgn0 t) ∨ (∃ ds, rDs t = (false, w, ds)) ∨ (∃ q1 ds1, rDs t = (true, q1, ds1) ∧ hb t q1 = 46 ∧ ((isD (hb t (q1 + 1)) = false ∧ w = q1 + 1) ∨ ∃ ds, rD t (t.length - (q1 + 1)) (q1 + 1) ds1 = (false, w, ds)))
def bW (ds : List Nat) : Option Nat → Nat
  | none => ds.length
  | some w => w
/-- readNumber's end -/
def nuP (σ0 : Nat → Int32) (τ0 : Nat → Nat → Int32) (t : List Nat) (r : Option Value) (σ' : Nat → Int32) (τ' : Nat → Nat → Int32) : Prop := r = none ∧ ((∃ w m j, nrF t w ∧ RG σ0 τ0 t w m j σ' τ' ∧ m ≤ 250 ∧ j ≤ 20) ∨ (∃ q ds bf L, nrO t q ds bf ∧ trail ds (bW ds bf) L ∧ ds.length ≤ 18 ∧ ((9 < L - bW ds bf ∧ RG σ0 τ0 t 0 0 0 σ' τ') ∨ (L - bW ds bf ≤ 9 ∧ ∃ g, lead ds (bW ds bf) g ∧ RS σ0 τ0 t q (wN (decide (hb t 0 = 45)) bf.isSome ds g (bW ds bf) L) (if bf.isSome = true then 4 else 3) 0 0 σ' τ'))))
set_option maxRecDepth 100000 in
set_option maxHeartbeats 2000000 in
theorem rr_nt_w {X : ev_X} {c0 : Nat} {σ0 : Nat → Int32} {τ0 : Nat → Nat → Int32} {t D ds : List Nat} {q k qq db : Nat} {bel : Bool} (hbel : bel = decide (hb t 0 = 45)) {σ : Nat → Int32} {τ : Nat → Nat → Int32} (hO : nrO t q ds none) (hds : ds.length ≤ 18) (hby : ∀ i, ds.getD i 0 < 256) (hN : RN σ0 τ0 t q D k qq db ds none σ τ) : Rx X c0 m_Mod_readNumber 210 [.ref (c0 + 16), .int 0, .int (bi bel)] [] σ τ (nuP σ0 τ0 t) := by
  refine Rx.go (fun _ => rfl) ?_
  refine Rx.callE rfl rfl rfl rfl (rz_good hN.1.z) ?_
  show Rx X c0 m_Mod_readNumber 214 [.ref (c0 + 16), .int 0, .int (bi bel)] [.int 1] σ τ _
  refine Rx.go (fun _ => rfl) ?_
  show Rx X c0 m_Mod_readNumber 217 [.ref (c0 + 16), .int 0, .int (bi bel)] [] σ τ _
  refine Rx.go (fun _ => rfl) ?_
  refine Rx.go (fun _ => rfl) ?_
  refine Rx.go (fun _ => rfl) ?_
  refine Rx.callP rfl rfl rfl rfl (rx_wn_w X c0 ⟨hds, hN.2.2.1, hby⟩ bel 0 hN.2.1 hN.2.2.2) ?_
  rintro σ1 τ1 ⟨L, ht, (⟨e9, g, hg, hWS⟩ | ⟨e9, rfl, rfl⟩)⟩
  · exact Rx.ret rfl rfl ⟨rfl, Or.inr ⟨q, ds, none, L, hO, ht, hds, Or.inr ⟨e9, g, hg, hbel ▸ hN.1.ws (kd := 3) hWS⟩⟩⟩
  · exact Rx.ret rfl rfl ⟨rfl, Or.inr ⟨q, ds, none, L, hO, ht, hds, Or.inl ⟨e9, hN.1.wf⟩⟩⟩
set_option maxRecDepth 100000 in
set_option maxHeartbeats 2000000 in
theorem rr_nt_d {X : ev_X} {c0 : Nat} {σ0 : Nat → Int32} {τ0 : Nat → Nat → Int32} {t D ds : List Nat} {q k qq db W : Nat} {bel : Bool} (hbel : bel = decide (hb t 0 = 45)) {σ : Nat → Int32} {τ : Nat → Nat → Int32} (hO : nrO t q ds (some W)) (hds : ds.length ≤ 18) (hby : ∀ i, ds.getD i 0 < 256) (hW2 : W ≤ ds.length) (hN : RN σ0 τ0 t q D k qq db ds (some W) σ τ) : Rx X c0 m_Mod_readNumber 210 [.ref (c0 + 16), .int 0, .int (bi bel)] [] σ τ (nuP σ0 τ0 t) := by
  refine Rx.go (fun _ => rfl) ?_
  refine Rx.callE rfl rfl rfl rfl (rz_good hN.1.z) ?_
  show Rx X c0 m_Mod_readNumber 214 [.ref (c0 + 16), .int 0, .int (bi bel)] [.int 1] σ τ _
  refine Rx.go (fun _ => rfl) ?_
  show Rx X c0 m_Mod_readNumber 217 [.ref (c0 + 16), .int 0, .int (bi bel)] [] σ τ _
  refine Rx.go (fun _ => rfl) ?_
  refine Rx.go (fun _ => rfl) ?_
  refine Rx.go (fun _ => rfl) ?_
  refine Rx.callP rfl rfl rfl rfl (rx_wn_d X c0 (W := W) ⟨hds, hN.2.2.1, hby⟩ bel 0 hN.2.1 hW2 hN.2.2.2) ?_
  rintro σ1 τ1 ⟨L, ht, (⟨e9, g, hg, hWS⟩ | ⟨e9, rfl, rfl⟩)⟩
  · exact Rx.ret rfl rfl ⟨rfl, Or.inr ⟨q, ds, some W, L, hO, ht, hds, Or.inr ⟨e9, g, hg, hbel ▸ hN.1.ws (kd := 4) hWS⟩⟩⟩
  · exact Rx.ret rfl rfl ⟨rfl, Or.inr ⟨q, ds, some W, L, hO, ht, hds, Or.inl ⟨e9, hN.1.wf⟩⟩⟩
theorem rD_len (t : List Nat) : ∀ (m q : Nat) (ds : List Nat), ds.length ≤ (rD t m q ds).2.2.length := by
  intro m
  induction m with
  | zero => intro q ds; exact Nat.le_refl _
  | succ m ih =>
    intro q ds
    rw [rD]
    repeat' split
    all_goals first | exact Nat.le_refl _ | (have := ih (q + 1) (ds ++ [t.getD q 0]); simp only [List.length_append, List.length_cons, List.length_nil] at this; omega)
set_option maxRecDepth 100000 in
set_option maxHeartbeats 2000000 in
theorem rr_n43 {X : ev_X} {c0 : Nat} {σ0 : Nat → Int32} {τ0 : Nat → Nat → Int32} {t D : List Nat} {k qq db : Nat} (hD : D.length ≤ 250) {bel : Bool} (hbel : bel = decide (hb t 0 = 45)) {σ : Nat → Int32} {τ : Nat → Nat → Int32} (hS : RS σ0 τ0 t (sgn0 t) D k qq db σ τ) : Rx X c0 m_Mod_readNumber 43 [.ref (c0 + 16), .int 0, .int (bi bel)] [] σ τ (nuP σ0 τ0 t) := by
  have hsg := hS.pl
  refine Rx.go (fun _ => rfl) ?_
  refine Rx.callE rfl rfl rfl rfl (rz_here hS.z) ?_
  show Rx X c0 m_Mod_readNumber 47 [.ref (c0 + 16), .int 0, .int (bi bel)] [.int (hb t (sgn0 t))] σ τ _
  refine Rx.go (fun _ => rfl) ?_
  refine Rx.go (fun _ => rfl) ?_
  refine Rx.ite (fun c1 => ?_) (fun c1 => ?_)
  · replace c1 : (hb t (sgn0 t)) = 46 := of_decide_eq_true c1
    show Rx X c0 m_Mod_readNumber 68 [.ref (c0 + 16), .int 0, .int (bi bel)] [] σ τ _
    refine Rx.go (fun _ => rfl) ?_
    refine Rx.go (fun _ => rfl) ?_
    refine Rx.put rfl (by decide) rfl rfl ?_
    refine Rx.go (fun _ => rfl) ?_
    refine Rx.go (fun _ => rfl) ?_
    refine Rx.put rfl (by decide) rfl rfl ?_
    show Rx X c0 m_Mod_readNumber 78 [.ref (c0 + 16), .int 0, .int (bi bel)] [] (upd (upd σ 22 0) 23 (-1)) τ _
    refine rr_n1_l hD bel 0 (o0 := rDs t) ?_ ?_ ?_ ?_ (t.length - sgn0 t) (sgn0 t) [] _ _ (by omega) hsg (by decide) rfl (RN.start hS)
    · intro q ds σ' τ' e h1 h2 h3 h4 hN
      exact rr_nt_w hbel (Or.inl ⟨rfl, e.symm, h4, by first | exact Or.inl c1 | exact Or.inr c2⟩) h1 (by have := rD_by t hS.z.by (t.length - sgn0 t) (sgn0 t) [] (fun i => by simp); rw [show rD t (t.length - sgn0 t) (sgn0 t) [] = (true, q, ds) from e.symm] at this; exact this) hN
    · intro q ds σ' τ' e h1 h2 h3 h4 hN
      have hb1 : ∀ i, ds.getD i 0 < 256 := by have := rD_by t hS.z.by (t.length - sgn0 t) (sgn0 t) [] (fun i => by simp); rw [show rD t (t.length - sgn0 t) (sgn0 t) [] = (true, q, ds) from e.symm] at this; exact this
      refine rr_n2_l hD bel 0 (o0 := rD t (t.length - (q + 1)) (q + 1) ds) h1 ?_ ?_ (t.length - (q + 1)) (q + 1) ds _ _ (by omega) (by omega) h1 rfl hN
      · intro q2 ds2 σ2 τ2 e2 g1 g2 g3 hN2
        exact rr_nt_d hbel (Or.inr ⟨q, ds, rfl, e.symm, h3, h4, e2.symm⟩) g1 (by have := rD_by t hS.z.by (t.length - (q + 1)) (q + 1) ds hb1; rw [← e2] at this; exact this) (by have := rD_len t (t.length - (q + 1)) (q + 1) ds; rw [← e2] at this; exact this) hN2
      · intro w j ds2 σ2 τ2 e2 hG hj
        exact ⟨rfl, Or.inl ⟨w, _, j, Or.inr (Or.inr ⟨q, ds, e.symm, h3, Or.inr ⟨ds2, e2.symm⟩⟩), hG, hD, by omega⟩⟩
    · intro w j ds σ' τ' e hG hj
      exact ⟨rfl, Or.inl ⟨w, _, j, Or.inr (Or.inl ⟨ds, e.symm⟩), hG, hD, by omega⟩⟩
    · intro q j ds σ' τ' e h2 h3 h4 hG hj
      exact ⟨rfl, Or.inl ⟨q + 1, _, j, Or.inr (Or.inr ⟨q, ds, e.symm, h3, Or.inl ⟨h4, rfl⟩⟩), hG, hD, by omega⟩⟩
  · replace c1 : ¬ (hb t (sgn0 t)) = 46 := of_decide_eq_false c1
    show Rx X c0 m_Mod_readNumber 52 [.ref (c0 + 16), .int 0, .int (bi bel)] [] σ τ _
    refine Rx.go (fun _ => rfl) ?_
    refine Rx.callE rfl rfl rfl rfl (rz_here hS.z) ?_
    show Rx X c0 m_Mod_readNumber 56 [.ref (c0 + 16), .int 0, .int (bi bel)] [.int (hb t (sgn0 t))] σ τ _
    refine Rx.scallE rfl rfl rfl rfl (sx_Mod_isDigit X (hb t (sgn0 t))) ?_
    show Rx X c0 m_Mod_readNumber 59 [.ref (c0 + 16), .int 0, .int (bi bel)] [.int (bi (isD (hb t (sgn0 t))))] σ τ _
    refine Rx.go (fun _ => rfl) ?_
    refine Rx.ite (fun c2 => ?_) (fun c2 => ?_)
    · replace c2 : (isD (hb t (sgn0 t))) = true := bi_net c2
      show Rx X c0 m_Mod_readNumber 68 [.ref (c0 + 16), .int 0, .int (bi bel)] [] σ τ _
      refine Rx.go (fun _ => rfl) ?_
      refine Rx.go (fun _ => rfl) ?_
      refine Rx.put rfl (by decide) rfl rfl ?_
      refine Rx.go (fun _ => rfl) ?_
      refine Rx.go (fun _ => rfl) ?_
      refine Rx.put rfl (by decide) rfl rfl ?_
      show Rx X c0 m_Mod_readNumber 78 [.ref (c0 + 16), .int 0, .int (bi bel)] [] (upd (upd σ 22 0) 23 (-1)) τ _
      refine rr_n1_l hD bel 0 (o0 := rDs t) ?_ ?_ ?_ ?_ (t.length - sgn0 t) (sgn0 t) [] _ _ (by omega) hsg (by decide) rfl (RN.start hS)
      · intro q ds σ' τ' e h1 h2 h3 h4 hN
        exact rr_nt_w hbel (Or.inl ⟨rfl, e.symm, h4, by first | exact Or.inl c1 | exact Or.inr c2⟩) h1 (by have := rD_by t hS.z.by (t.length - sgn0 t) (sgn0 t) [] (fun i => by simp); rw [show rD t (t.length - sgn0 t) (sgn0 t) [] = (true, q, ds) from e.symm] at this; exact this) hN
      · intro q ds σ' τ' e h1 h2 h3 h4 hN
        have hb1 : ∀ i, ds.getD i 0 < 256 := by have := rD_by t hS.z.by (t.length - sgn0 t) (sgn0 t) [] (fun i => by simp); rw [show rD t (t.length - sgn0 t) (sgn0 t) [] = (true, q, ds) from e.symm] at this; exact this
        refine rr_n2_l hD bel 0 (o0 := rD t (t.length - (q + 1)) (q + 1) ds) h1 ?_ ?_ (t.length - (q + 1)) (q + 1) ds _ _ (by omega) (by omega) h1 rfl hN
        · intro q2 ds2 σ2 τ2 e2 g1 g2 g3 hN2
          exact rr_nt_d hbel (Or.inr ⟨q, ds, rfl, e.symm, h3, h4, e2.symm⟩) g1 (by have := rD_by t hS.z.by (t.length - (q + 1)) (q + 1) ds hb1; rw [← e2] at this; exact this) (by have := rD_len t (t.length - (q + 1)) (q + 1) ds; rw [← e2] at this; exact this) hN2
        · intro w j ds2 σ2 τ2 e2 hG hj
          exact ⟨rfl, Or.inl ⟨w, _, j, Or.inr (Or.inr ⟨q, ds, e.symm, h3, Or.inr ⟨ds2, e2.symm⟩⟩), hG, hD, by omega⟩⟩
      · intro w j ds σ' τ' e hG hj
        exact ⟨rfl, Or.inl ⟨w, _, j, Or.inr (Or.inl ⟨ds, e.symm⟩), hG, hD, by omega⟩⟩
      · intro q j ds σ' τ' e h2 h3 h4 hG hj
        exact ⟨rfl, Or.inl ⟨q + 1, _, j, Or.inr (Or.inr ⟨q, ds, e.symm, h3, Or.inl ⟨h4, rfl⟩⟩), hG, hD, by omega⟩⟩
    · replace c2 : (isD (hb t (sgn0 t))) = false := bi_nef c2
      show Rx X c0 m_Mod_readNumber 62 [.ref (c0 + 16), .int 0, .int (bi bel)] [] σ τ _
      refine Rx.go (fun _ => rfl) ?_
      refine Rx.go (fun _ => rfl) ?_
      refine Rx.callP rfl rfl rfl rfl (rs_ov_f false hS (fun h => Bool.false_ne_true h.2)) ?_
      intro σ27 τ27 hS27
      show Rx X c0 m_Mod_readNumber 67 [.ref (c0 + 16), .int 0, .int (bi bel)] [] σ27 τ27 _
      exact Rx.ret rfl rfl ⟨rfl, Or.inl ⟨_, _, _, Or.inl ⟨c1, c2, rfl⟩, hS27, hD, by omega⟩⟩
set_option maxRecDepth 100000 in
set_option maxHeartbeats 2000000 in
theorem rr_number {X : ev_X} {c0 : Nat} {σ0 : Nat → Int32} {τ0 : Nat → Nat → Int32} {t D : List Nat} {k qq db : Nat} (hD : D.length ≤ 250) {σ : Nat → Int32} {τ : Nat → Nat → Int32} (hS : RS σ0 τ0 t 0 D k qq db σ τ) : Rx X c0 m_Mod_readNumber 0 [.ref (c0 + 16), ev_dead, ev_dead] [] σ τ (nuP σ0 τ0 t) := by
  refine Rx.go (fun _ => rfl) ?_
  refine Rx.get rfl rfl ?_
  refine Rx.top (y := nI 0) hS.f16 ?_
  refine Rx.go (fun _ => rfl) ?_
  show Rx X c0 m_Mod_readNumber 5 [.ref (c0 + 16), .int (nI 0), ev_dead] [] σ τ _
  refine Rx.go (fun _ => rfl) ?_
  refine Rx.callE rfl rfl rfl rfl (rz_here hS.z) ?_
  show Rx X c0 m_Mod_readNumber 9 [.ref (c0 + 16), .int (nI 0), ev_dead] [.int (hb t 0)] σ τ _
  refine Rx.go (fun _ => rfl) ?_
  refine Rx.go (fun _ => rfl) ?_
  refine Rx.ite (fun c1 => ?_) (fun c1 => ?_)
  · replace c1 : ¬ (hb t 0) = 45 := of_decide_eq_true c1
    show Rx X c0 m_Mod_readNumber 18 [.ref (c0 + 16), .int (nI 0), ev_dead] [] σ τ _
    refine Rx.go (fun _ => rfl) ?_
    refine Rx.go (fun _ => rfl) ?_
    show Rx X c0 m_Mod_readNumber 20 [.ref (c0 + 16), .int (nI 0), .int 0] [] σ τ _
    refine Rx.go (fun _ => rfl) ?_
    refine Rx.go (fun _ => rfl) ?_
    show Rx X c0 m_Mod_readNumber 24 [.ref (c0 + 16), .int (nI 0), .int 0] [] σ τ _
    refine Rx.go (fun _ => rfl) ?_
    refine Rx.callE rfl rfl rfl rfl (rz_here hS.z) ?_
    show Rx X c0 m_Mod_readNumber 28 [.ref (c0 + 16), .int (nI 0), .int 0] [.int (hb t 0)] σ τ _
    refine Rx.go (fun _ => rfl) ?_
    refine Rx.go (fun _ => rfl) ?_
    refine Rx.ite (fun c2 => ?_) (fun c2 => ?_)
    · replace c2 : ¬ (hb t 0) = 43 := of_decide_eq_true c2
      show Rx X c0 m_Mod_readNumber 43 [.ref (c0 + 16), .int (nI 0), .int 0] [] σ τ _
      show Rx X c0 m_Mod_readNumber 43 [.ref (c0 + 16), .int (nI 0), .int 0] [] σ τ _
      have e0 : sgn0 t = 0 := if_neg (by simp [c1, c2])
      exact rr_n43 hD (bel := false) (by simp [c1]) (by rw [e0]; exact hS)
    · replace c2 : (hb t 0) = 43 := Classical.not_not.mp (of_decide_eq_false c2)
      show Rx X c0 m_Mod_readNumber 33 [.ref (c0 + 16), .int (nI 0), .int 0] [] σ τ _
      refine Rx.go (fun _ => rfl) ?_
      refine Rx.go (fun _ => rfl) ?_
      refine Rx.get rfl rfl ?_
      refine Rx.top (y := nI 0) hS.f16 ?_
      refine Rx.go (fun _ => rfl) ?_
      refine Rx.go (fun _ => rfl) ?_
      refine Rx.top (y := nI (0 + 1)) (nI_1 0) ?_
      refine Rx.put rfl (by decide) rfl rfl ?_
      have hS28 := hS.at1 (hb_in (by rw [c2]; decide))
      show Rx X c0 m_Mod_readNumber 43 [.ref (c0 + 16), .int (nI 0), .int 0] [] (upd σ 16 (nI (0 + 1))) τ _
      have e0 : sgn0 t = 1 := if_pos (by simp [c2])
      exact rr_n43 hD (bel := false) (by simp [c1]) (by rw [e0]; exact hS28)
  · replace c1 : (hb t 0) = 45 := Classical.not_not.mp (of_decide_eq_false c1)
    show Rx X c0 m_Mod_readNumber 14 [.ref (c0 + 16), .int (nI 0), ev_dead] [] σ τ _
    refine Rx.go (fun _ => rfl) ?_
    refine Rx.go (fun _ => rfl) ?_
    refine Rx.go (fun _ => rfl) ?_
    show Rx X c0 m_Mod_readNumber 20 [.ref (c0 + 16), .int (nI 0), .int 1] [] σ τ _
    refine Rx.go (fun _ => rfl) ?_
    refine Rx.go (fun _ => rfl) ?_
    show Rx X c0 m_Mod_readNumber 33 [.ref (c0 + 16), .int (nI 0), .int 1] [] σ τ _
    refine Rx.go (fun _ => rfl) ?_
    refine Rx.go (fun _ => rfl) ?_
    refine Rx.get rfl rfl ?_
    refine Rx.top (y := nI 0) hS.f16 ?_
    refine Rx.go (fun _ => rfl) ?_
    refine Rx.go (fun _ => rfl) ?_
    refine Rx.top (y := nI (0 + 1)) (nI_1 0) ?_
    refine Rx.put rfl (by decide) rfl rfl ?_
    have hS29 := hS.at1 (hb_in (by rw [c1]; decide))
    show Rx X c0 m_Mod_readNumber 43 [.ref (c0 + 16), .int (nI 0), .int 1] [] (upd σ 16 (nI (0 + 1))) τ _
    have e0 : sgn0 t = 1 := if_pos (by simp [c1])
    exact rr_n43 hD (bel := true) (by simp [c1]) (by rw [e0]; exact hS29)
