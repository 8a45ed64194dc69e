section
/-! The reference while it reads: RZ (before begin), RS, RG (a fault at w). -/
def RZ (σ0 : Nat → Int32) (τ0 : Nat → Nat → Int32) (t : List Nat) (p : Nat) (σ : Nat → Int32) (τ : Nat → Nat → Int32) : Prop := rsF σ0 τ0 t σ τ ∧ (σ 16 = nI p ∧ p ≤ t.length) ∧ σ 18 = 0
def RG (σ0 : Nat → Int32) (τ0 : Nat → Nat → Int32) (t : List Nat) (w m j : Nat) (σ : Nat → Int32) (τ : Nat → Nat → Int32) : Prop := rsF σ0 τ0 t σ τ ∧ (∃ p, σ 16 = nI p ∧ p ≤ 240 + j) ∧ σ 18 ≠ 0 ∧ σ 19 = nI w ∧ σ 10 = nI m
section RRR
variable {X : ev_X} {c0 : Nat} {σ0 σ : Nat → Int32} {τ0 τ : Nat → Nat → Int32} {t d : List Nat} {p k q db w m j : Nat}
theorem RS.z (h : RS σ0 τ0 t p d k q db σ τ) : RZ σ0 τ0 t p σ τ := ⟨h.1, h.2.1, h.2.2.1⟩
theorem RZ.tl (h : RZ σ0 τ0 t p σ τ) : t.length ≤ 240 := h.1.2.2.2.1
theorem RZ.by (h : RZ σ0 τ0 t p σ τ) (i : Nat) : t.getD i 0 < 256 := h.1.2.2.2.2.1 i
theorem RS.f16 (h : RS σ0 τ0 t p d k q db σ τ) : σ 16 = nI p := h.2.1.1
theorem RS.f17 (h : RS σ0 τ0 t p d k q db σ τ) : σ 17 = nI t.length := h.1.2.2.2.2.2
theorem RS.f10 (h : RS σ0 τ0 t p d k q db σ τ) : σ 10 = nI d.length := h.2.2.2.1.1
theorem RS.f12 (h : RS σ0 τ0 t p d k q db σ τ) : σ 12 = nI q := h.2.2.2.2.2.1
theorem RS.f13 (h : RS σ0 τ0 t p d k q db σ τ) : σ 13 = nI db := h.2.2.2.2.2.2
theorem RS.pl (h : RS σ0 τ0 t p d k q db σ τ) : p ≤ t.length := h.2.1.2
theorem rz_here (h : RZ σ0 τ0 t p σ τ) : Rx X c0 m_Mod_here 0 [.ref (c0 + 16)] [] σ τ (fun r σ' τ' => r = some (.int (hb t p)) ∧ σ' = σ ∧ τ' = τ) := by
  obtain ⟨⟨h1, h2, h3, h4, h5, h6⟩, ⟨h7, h8⟩, h9⟩ := h
  refine (rx_here X c0 σ τ (by rw [h7]; exact nI_pos (by omega)) (by rw [h6]; exact (nI_leI (by omega) (by decide)).mpr h4)).mono (fun r σ' τ' ⟨e1, e2⟩ => ⟨?_, e2⟩)
  rw [e1]
  unfold rhere hb
  rw [h6, h7]
  by_cases hp : p < t.length
  · rw [if_neg (by rw [nI_leI (by omega) (by omega)]; omega), if_pos hp, nI_clamp (by omega)]; rw [h3 p hp]
  · rw [if_pos (by rw [nI_leI (by omega) (by omega)]; omega), if_neg hp]
theorem rz_good (h : RZ σ0 τ0 t p σ τ) : Rx X c0 m_Mod_isGood 0 [.ref (c0 + 16)] [] σ τ (fun r σ' τ' => r = some (.int 1) ∧ σ' = σ ∧ τ' = τ) :=
  (rx_isGood X c0 σ τ).mono (fun r σ' τ' ⟨e1, e2⟩ => ⟨by rw [e1, h.2.2]; rfl, e2⟩)
theorem rg_good (h : RG σ0 τ0 t w m j σ τ) : Rx X c0 m_Mod_isGood 0 [.ref (c0 + 16)] [] σ τ (fun r σ' τ' => r = some (.int 0) ∧ σ' = σ ∧ τ' = τ) :=
  (rx_isGood X c0 σ τ).mono (fun r σ' τ' ⟨e1, e2⟩ => ⟨by rw [e1, bi_f (decide_eq_false h.2.2.1)], e2⟩)
/-- here, behind a fault: some int -/
theorem rg_here (h : RG σ0 τ0 t w m j σ τ) (hj : j ≤ 100) : Rx X c0 m_Mod_here 0 [.ref (c0 + 16)] [] σ τ (fun r σ' τ' => r = some (.int (rhere σ τ)) ∧ σ' = σ ∧ τ' = τ) := by
  obtain ⟨⟨h1, h2, h3, h4, h5, h6⟩, ⟨p, h7, h8⟩, h9⟩ := h
  exact rx_here X c0 σ τ (by rw [h7]; exact nI_pos (by omega)) (by rw [h6]; exact (nI_leI (by omega) (by decide)).mpr h4)
theorem rz_begin (b : Nat) (h : RZ σ0 τ0 t p σ τ) : Rx X c0 m_Mod_begin 0 [.ref (c0 + 16), .int (nI b)] [] σ τ (fun r σ' τ' => r = none ∧ RS σ0 τ0 t p [] b 0 0 σ' τ') := by
  obtain ⟨h1, h2, h3⟩ := h
  refine (rx_begin X c0 σ τ (nI b)).mono ?_
  rintro r σ' τ' ⟨rfl, rfl, rfl⟩
  exact ⟨rfl, (((h1.upd (by omega)).upd (by omega)).upd (by omega)).upd (by omega), ⟨h2.1, h2.2⟩, h3, ⟨rfl, fun j hj => absurd hj (Nat.not_lt_zero _)⟩, rfl, rfl, rfl⟩
theorem RS.g (h : RS σ0 τ0 t p d k q db σ τ) {c w : Int32} {wn : Nat} (hc : c ≠ 0) (hw : w = nI wn) : RG σ0 τ0 t wn d.length 0 (rfail σ c w) τ := by
  obtain ⟨h1, h2, h3, ⟨h4, h5⟩, -⟩ := h
  rw [rfail, if_pos h3]
  exact ⟨(h1.upd (by omega)).upd (by omega), ⟨p, by rw [pk_un (by decide), pk_un (by decide)]; exact h2.1, by have := h1.2.2.2.1; have := h2.2; omega⟩, by rw [pk_un (by decide), pk_us]; exact hc, by rw [pk_us]; exact hw, by rw [pk_un (by decide), pk_un (by decide)]; exact h4⟩
theorem rs_fl {c w : Int32} {wn : Nat} (h : RS σ0 τ0 t p d k q db σ τ) (hc : c ≠ 0) (hw : w = nI wn) : Rx X c0 m_Mod_fail 0 [.ref (c0 + 16), .int c, .int w] [] σ τ (fun r σ' τ' => r = none ∧ RG σ0 τ0 t wn d.length 0 σ' τ') :=
  (rx_fail X c0 σ τ c w).mono (fun r σ' τ' ⟨e1, e2, e3⟩ => ⟨e1, by rw [e2, e3]; exact h.g hc hw⟩)
theorem rg_fl {c x : Int32} (h : RG σ0 τ0 t w m j σ τ) : Rx X c0 m_Mod_fail 0 [.ref (c0 + 16), .int c, .int x] [] σ τ (fun r σ' τ' => r = none ∧ RG σ0 τ0 t w m j σ' τ') :=
  (rx_fail X c0 σ τ c x).mono (fun r σ' τ' ⟨e1, e2, e3⟩ => ⟨e1, by rw [e2, e3, rfail, if_neg h.2.2.1]; exact h⟩)
theorem rg_put (x : Int32) (h : RG σ0 τ0 t w m j σ τ) (hm : m < 260) : Rx X c0 m_Mod_put 0 [.ref (c0 + 16), .int x] [] σ τ (fun r σ' τ' => r = none ∧ RG σ0 τ0 t w (m + 1) j σ' τ') := by
  obtain ⟨h1, ⟨p, h2, h2'⟩, h3, h4, h5⟩ := h
  refine (rx_put X c0 σ τ x (by rw [h5]; exact nI_ix hm (by decide))).mono ?_
  rintro r σ' τ' ⟨rfl, rfl, rfl⟩
  exact ⟨rfl, (h1.upd (by omega)).upt (by omega), ⟨p, by rw [pk_un (by decide)]; exact h2, h2'⟩, by rw [pk_un (by decide)]; exact h3, by rw [pk_un (by decide)]; exact h4, by rw [pk_us, h5, nI_1]⟩
theorem RG.up {i : Nat} {x : Int32} (h : RG σ0 τ0 t w m j σ τ) (hi : i = 11 ∨ i = 12 ∨ i = 13) : RG σ0 τ0 t w m j (upd σ i x) τ := by
  obtain ⟨h1, ⟨p, h2, h2'⟩, h3, h4, h5⟩ := h
  exact ⟨h1.upd (by omega), ⟨p, by rw [pk_un (by omega)]; exact h2, h2'⟩, by rw [pk_un (by omega)]; exact h3, by rw [pk_un (by omega)]; exact h4, by rw [pk_un (by omega)]; exact h5⟩
theorem RG.at1 (h : RG σ0 τ0 t w m j σ τ) : RG σ0 τ0 t w m (j + 1) (upd σ 16 (σ 16 + 1)) τ := by
  obtain ⟨h1, ⟨p, h2, h2'⟩, h3, h4, h5⟩ := h
  exact ⟨h1.upd (by omega), ⟨p + 1, by rw [pk_us, h2, nI_1], by omega⟩, by rw [pk_un (by omega)]; exact h3, by rw [pk_un (by omega)]; exact h4, by rw [pk_un (by omega)]; exact h5⟩
/-- over -/
theorem rs_ov_t (h : RS σ0 τ0 t p d k q db σ τ) (hp : p < t.length) : Rx X c0 m_Mod_over 0 [.ref (c0 + 16), .int 1] [] σ τ (fun r σ' τ' => r = none ∧ RS σ0 τ0 t (p + 1) d k q db σ' τ') :=
  (rs_over true h).mono (fun r σ' τ' ⟨e1, e2⟩ => ⟨e1, by rw [if_pos hp, if_pos rfl] at e2; exact e2⟩)
theorem rs_ov_f (g : Bool) (h : RS σ0 τ0 t p d k q db σ τ) (hp : ¬ (p < t.length ∧ g = true)) : Rx X c0 m_Mod_over 0 [.ref (c0 + 16), .int (bi g)] [] σ τ (fun r σ' τ' => r = none ∧ RG σ0 τ0 t p d.length 0 σ' τ') := by
  refine (rx_over X c0 σ τ g).mono ?_
  rintro r σ' τ' ⟨rfl, rfl, rfl⟩
  refine ⟨rfl, ?_⟩
  have h16 := h.f16
  have h17 := h.f17
  have hl := h.z.tl
  have hpl := h.pl
  rw [rover, h16, h17]
  by_cases hlt : p < t.length
  · have hne : ¬ nI p = nI t.length := by rw [nI_eq (by omega) (by omega)]; omega
    rw [if_neg hne, if_neg (fun e => hp ⟨hlt, e⟩)]
    exact h.g (by decide) rfl
  · rw [if_pos (by rw [show p = t.length by omega])]
    exact h.g (by decide) (by rw [show p = t.length by omega])
theorem rg_ov (x : Bool) (h : RG σ0 τ0 t w m j σ τ) : Rx X c0 m_Mod_over 0 [.ref (c0 + 16), .int (bi x)] [] σ τ (fun r σ' τ' => r = none ∧ RG σ0 τ0 t w m (j + 1) σ' τ') := by
  have h2 : ∀ a b, RG σ0 τ0 t w m (j + 1) (rfail σ a b) τ := fun a b => by
    rw [rfail, if_neg h.2.2.1]
    obtain ⟨h1, ⟨p, h2, h2'⟩, h3⟩ := h
    exact ⟨h1, ⟨p, h2, by omega⟩, h3⟩
  refine (rx_over X c0 σ τ x).mono (fun r σ' τ' ⟨e1, e2, e3⟩ => ⟨e1, ?_⟩)
  rw [e2, e3, rover]
  split
  · exact h2 _ _
  · split
    · exact h.at1
    · exact h2 _ _
theorem RS.k1 {x : Nat} (h : RS σ0 τ0 t p d k q db σ τ) : RS σ0 τ0 t p d x q db (upd σ 11 (nI x)) τ := by
  obtain ⟨h1, h2, h3, ⟨h4, h5⟩, h6, h7, h8⟩ := h
  exact ⟨h1.upd (by omega), ⟨by rw [pk_un (by decide)]; exact h2.1, h2.2⟩, by rw [pk_un (by decide)]; exact h3, ⟨by rw [pk_un (by decide)]; exact h4, h5⟩, by rw [pk_us], by rw [pk_un (by decide)]; exact h7, by rw [pk_un (by decide)]; exact h8⟩
theorem RS.q1 {x : Nat} (h : RS σ0 τ0 t p d k q db σ τ) : RS σ0 τ0 t p d k x db (upd σ 12 (nI x)) τ := by
  obtain ⟨h1, h2, h3, ⟨h4, h5⟩, h6, h7, h8⟩ := h
  exact ⟨h1.upd (by omega), ⟨by rw [pk_un (by decide)]; exact h2.1, h2.2⟩, by rw [pk_un (by decide)]; exact h3, ⟨by rw [pk_un (by decide)]; exact h4, h5⟩, by rw [pk_un (by decide)]; exact h6, by rw [pk_us], by rw [pk_un (by decide)]; exact h8⟩
end RRR
/-- a reader's end: read on to o.2.1, or a fault at o.2.1 -/
def rQ {α : Type} (σ0 : Nat → Int32) (τ0 : Nat → Nat → Int32) (t : List Nat) (o : Bool × Nat × α) (G : Nat → α → (Nat → Int32) → (Nat → Nat → Int32) → Prop) (r : Option Value) (σ' : Nat → Int32) (τ' : Nat → Nat → Int32) : Prop := r = none ∧ if o.1 = true then G o.2.1 o.2.2 σ' τ' else ∃ m j, RG σ0 τ0 t o.2.1 m j σ' τ' ∧ m ≤ 250 ∧ j ≤ 20
theorem rQ_t {α : Type} {σ0 : Nat → Int32} {τ0 : Nat → Nat → Int32} {t : List Nat} {o : Bool × Nat × α} {G : Nat → α → (Nat → Int32) → (Nat → Nat → Int32) → Prop} {σ' : Nat → Int32} {τ' : Nat → Nat → Int32} {q : Nat} {b : α} (e : o = (true, q, b)) (h : G q b σ' τ') : rQ σ0 τ0 t o G none σ' τ' := by
  subst e
  exact ⟨rfl, by rw [if_pos rfl]; exact h⟩
theorem rQ_f {α : Type} {σ0 : Nat → Int32} {τ0 : Nat → Nat → Int32} {t : List Nat} {o : Bool × Nat × α} {G : Nat → α → (Nat → Int32) → (Nat → Nat → Int32) → Prop} {σ' : Nat → Int32} {τ' : Nat → Nat → Int32} {q m j : Nat} {b : α} (e : o = (false, q, b)) (h : RG σ0 τ0 t q m j σ' τ') (hm : m ≤ 250) (hj : j ≤ 20) : rQ σ0 τ0 t o G none σ' τ' := by
  subst e
  exact ⟨rfl, by rw [if_neg Bool.false_ne_true]; exact ⟨m, j, h, hm, hj⟩⟩
end
section
/-! The reference reads blanks. (rows laid by wip/whole/rr1.py) -/
set_option maxRecDepth 100000 in
set_option maxHeartbeats 2000000 in
theorem rr_bk_l {X : ev_X} {c0 : Nat} {σ0 : Nat → Int32} {τ0 : Nat → Nat → Int32} {t : List Nat} : ∀ (m q : Nat) (acc : List Nat) (σ : Nat → Int32) (τ : Nat → Nat → Int32) (hm : q + m = t.length) (ha : acc.length ≤ 60) (hS : RS σ0 τ0 t q ([95, 58] ++ acc) 1 0 acc.length σ τ), Rx X c0 m_Mod_readBlank 67 [.ref (c0 + 16)] [] σ τ (rQ σ0 τ0 t (sB t m q acc) (fun q b σ' τ' => RS σ0 τ0 t q ([95, 58] ++ b) 1 0 b.length σ' τ')) := by
  intro m
  induction m with
  | zero =>
    intro q acc σ τ hm ha hS
    have hl := hS.z.tl
    refine Rx.go (fun _ => rfl) ?_
    refine Rx.callE rfl rfl rfl rfl (rz_good hS.z) ?_
    show Rx X c0 m_Mod_readBlank 71 [.ref (c0 + 16)] [.int 1] σ τ _
    refine Rx.go (fun _ => rfl) ?_
    show Rx X c0 m_Mod_readBlank 74 [.ref (c0 + 16)] [] σ τ _
    refine Rx.go (fun _ => rfl) ?_
    refine Rx.callE rfl rfl rfl rfl (rz_here hS.z) ?_
    show Rx X c0 m_Mod_readBlank 78 [.ref (c0 + 16)] [.int (hb t q)] σ τ _
    refine Rx.scallE rfl rfl rfl rfl (sx_Mod_isW X (hb t q)) ?_
    show Rx X c0 m_Mod_readBlank 81 [.ref (c0 + 16)] [.int (bi (isW (hb t q)))] σ τ _
    refine Rx.go (fun _ => rfl) ?_
    refine Rx.ite (fun c1 => ?_) (fun c1 => ?_)
    · replace c1 : (isW (hb t q)) = false := bi_eqt c1
      show Rx X c0 m_Mod_readBlank 133 [.ref (c0 + 16)] [] σ τ _
      exact Rx.ret rfl rfl (rQ_t (b := acc) rfl hS)
    · replace c1 : (isW (hb t q)) = true := bi_eqf c1
      exact absurd c1 (by rw [hb_ge (show ¬ q < t.length by omega)]; decide)
  | succ m ih =>
    intro q acc σ τ hm ha hS
    have hl := hS.z.tl
    refine Rx.go (fun _ => rfl) ?_
    refine Rx.callE rfl rfl rfl rfl (rz_good hS.z) ?_
    show Rx X c0 m_Mod_readBlank 71 [.ref (c0 + 16)] [.int 1] σ τ _
    refine Rx.go (fun _ => rfl) ?_
    show Rx X c0 m_Mod_readBlank 74 [.ref (c0 + 16)] [] σ τ _
    refine Rx.go (fun _ => rfl) ?_
    refine Rx.callE rfl rfl rfl rfl (rz_here hS.z) ?_
    show Rx X c0 m_Mod_readBlank 78 [.ref (c0 + 16)] [.int (hb t q)] σ τ _
    refine Rx.scallE rfl rfl rfl rfl (sx_Mod_isW X (hb t q)) ?_
    show Rx X c0 m_Mod_readBlank 81 [.ref (c0 + 16)] [.int (bi (isW (hb t q)))] σ τ _
    refine Rx.go (fun _ => rfl) ?_
    refine Rx.ite (fun c1 => ?_) (fun c1 => ?_)
    · replace c1 : (isW (hb t q)) = false := bi_eqt c1
      show Rx X c0 m_Mod_readBlank 133 [.ref (c0 + 16)] [] σ τ _
      exact Rx.ret rfl rfl (rQ_t (show sB t (m + 1) q acc = (true, q, acc) from if_neg (by rw [c1]; decide)) hS)
    · replace c1 : (isW (hb t q)) = true := bi_eqf c1
      show Rx X c0 m_Mod_readBlank 84 [.ref (c0 + 16)] [] σ τ _
      refine Rx.go (fun _ => rfl) ?_
      refine Rx.get rfl rfl ?_
      refine Rx.top (y := nI acc.length) hS.f13 ?_
      refine Rx.go (fun _ => rfl) ?_
      refine Rx.go (fun _ => rfl) ?_
      refine Rx.ite (fun c2 => ?_) (fun c2 => ?_)
      · replace c2 : ¬ (nI acc.length) = 60 := of_decide_eq_true c2
        show Rx X c0 m_Mod_readBlank 102 [.ref (c0 + 16)] [] σ τ _
        refine Rx.go (fun _ => rfl) ?_
        refine Rx.go (fun _ => rfl) ?_
        refine Rx.callE rfl rfl rfl rfl (rz_here hS.z) ?_
        show Rx X c0 m_Mod_readBlank 107 [.ref (c0 + 16)] [.int (hb t q), .ref (c0 + 16)] σ τ _
        refine Rx.top (y := nI (t.getD q 0)) (hb_lt (by omega)) ?_
        refine Rx.callP rfl rfl rfl rfl (rs_put (t.getD q 0) hS (by first | omega | (simp only [List.length_append, List.length_cons, List.length_nil]; omega))) ?_
        intro σ1 τ1 hS1
        show Rx X c0 m_Mod_readBlank 110 [.ref (c0 + 16)] [] σ1 τ1 _
        refine Rx.go (fun _ => rfl) ?_
        refine Rx.go (fun _ => rfl) ?_
        refine Rx.get rfl rfl ?_
        refine Rx.top (y := nI acc.length) hS1.f13 ?_
        refine Rx.go (fun _ => rfl) ?_
        refine Rx.go (fun _ => rfl) ?_
        refine Rx.top (y := nI (acc.length + 1)) (nI_1 _) ?_
        refine Rx.put rfl (by decide) rfl rfl ?_
        have hS2 := hS1.db1 (x := (acc.length + 1))
        refine Rx.go (fun _ => rfl) ?_
        refine Rx.go (fun _ => rfl) ?_
        refine Rx.get rfl rfl ?_
        refine Rx.top (y := nI q) hS2.f16 ?_
        refine Rx.go (fun _ => rfl) ?_
        refine Rx.go (fun _ => rfl) ?_
        refine Rx.top (y := nI (q + 1)) (nI_1 _) ?_
        refine Rx.put rfl (by decide) rfl rfl ?_
        have hS3 := hS2.at1 (by omega)
        refine Rx.go (fun _ => rfl) ?_
        show Rx X c0 m_Mod_readBlank 67 [.ref (c0 + 16)] [] (upd (upd σ1 13 (nI (acc.length + 1))) 16 (nI (q + 1))) τ1 _
        rw [show sB t (m + 1) q acc = sB t m (q + 1) (acc ++ [t.getD q 0]) from (if_pos c1).trans (if_neg (fun e => c2 (by rw [e]; rfl)))]
        exact ih (q + 1) (acc ++ [t.getD q 0]) _ _ (by omega) (by have : acc.length ≠ 60 := fun e => c2 (by rw [e]; rfl); simp only [List.length_append, List.length_cons, List.length_nil]; omega) (by rw [← List.append_assoc, List.length_append]; exact hS3)
      · replace c2 : (nI acc.length) = 60 := Classical.not_not.mp (of_decide_eq_false c2)
        show Rx X c0 m_Mod_readBlank 93 [.ref (c0 + 16)] [] σ τ _
        refine Rx.go (fun _ => rfl) ?_
        refine Rx.go (fun _ => rfl) ?_
        refine Rx.go (fun _ => rfl) ?_
        refine Rx.get rfl rfl ?_
        refine Rx.top (y := nI q) hS.f16 ?_
        refine Rx.callP rfl rfl rfl rfl (rs_fl (wn := q) hS (by decide) rfl) ?_
        intro σ4 τ4 hS4
        show Rx X c0 m_Mod_readBlank 102 [.ref (c0 + 16)] [] σ4 τ4 _
        refine Rx.go (fun _ => rfl) ?_
        refine Rx.go (fun _ => rfl) ?_
        refine Rx.callE rfl rfl rfl rfl (rg_here hS4 (by omega)) ?_
        show Rx X c0 m_Mod_readBlank 107 [.ref (c0 + 16)] [.int (rhere σ4 τ4), .ref (c0 + 16)] σ4 τ4 _
        refine Rx.callP rfl rfl rfl rfl (rg_put _ hS4 (by first | omega | (simp only [List.length_append, List.length_cons, List.length_nil]; omega))) ?_
        intro σ5 τ5 hS5
        show Rx X c0 m_Mod_readBlank 110 [.ref (c0 + 16)] [] σ5 τ5 _
        refine Rx.go (fun _ => rfl) ?_
        refine Rx.go (fun _ => rfl) ?_
        refine Rx.get rfl rfl ?_
        refine Rx.go (fun _ => rfl) ?_
        refine Rx.go (fun _ => rfl) ?_
        refine Rx.put rfl (by decide) rfl rfl ?_
        have hS6 := hS5.up (i := 13) (x := (σ5 13) + 1) (by omega)
        refine Rx.go (fun _ => rfl) ?_
        refine Rx.go (fun _ => rfl) ?_
        refine Rx.get rfl rfl ?_
        refine Rx.go (fun _ => rfl) ?_
        refine Rx.go (fun _ => rfl) ?_
        refine Rx.put rfl (by decide) rfl rfl ?_
        have hS7 := hS6.at1
        refine Rx.go (fun _ => rfl) ?_
        refine Rx.go (fun _ => rfl) ?_
        refine Rx.callE rfl rfl rfl rfl (rg_good hS7) ?_
        show Rx X c0 m_Mod_readBlank 71 [.ref (c0 + 16)] [.int 0] (upd (upd σ5 13 ((σ5 13) + 1)) 16 (((upd σ5 13 ((σ5 13) + 1)) 16) + 1)) τ5 _
        refine Rx.go (fun _ => rfl) ?_
        show Rx X c0 m_Mod_readBlank 133 [.ref (c0 + 16)] [] (upd (upd σ5 13 ((σ5 13) + 1)) 16 (((upd σ5 13 ((σ5 13) + 1)) 16) + 1)) τ5 _
        exact Rx.ret rfl rfl (rQ_f (b := acc) (show sB t (m + 1) q acc = (false, q, acc) from (if_pos c1).trans (if_pos ((nI_eq (b := 60) (by omega) (by decide)).mp c2))) hS7 (by simp only [List.length_append, List.length_cons, List.length_nil]; omega) (by omega))
theorem sBk_2 {t : List Nat} (c1 : hb t 1 = 58) (c2 : isW (hb t 2) = false) : sBk t = (false, 2, []) := by
  have h1 := hb_in (t := t) (q := 1) (by rw [c1]; decide)
  unfold sBk
  rw [if_pos c1]
  have e : sB t (t.length - 2) 2 [] = (true, 2, []) := by
    cases h : t.length - 2 with
    | zero => rfl
    | succ m => exact if_neg (by rw [c2]; decide)
  rw [e]; rfl
theorem sB_gt (t : List Nat) : ∀ (m q : Nat) (acc : List Nat), 2 < q → 2 < (sB t m q acc).2.1 := by
  intro m
  induction m with
  | zero => intro q acc h; exact h
  | succ m ih =>
    intro q acc h
    rw [sB]
    repeat' split
    all_goals first | exact h | exact ih _ _ (by omega)
theorem sBk_1 {t : List Nat} (c1 : hb t 1 = 58) (c2 : isW (hb t 2) = true) : sBk t = sB t (t.length - 2) 2 [] := by
  have h1 := hb_in (t := t) (q := 2) (fun e => by rw [e] at c2; exact absurd c2 (by decide))
  unfold sBk
  rw [if_pos c1]
  unfold bkF
  rw [if_neg]
  rintro ⟨-, h⟩
  obtain ⟨m, hm⟩ : ∃ m, t.length - 2 = m + 1 := ⟨t.length - 3, by omega⟩
  rw [hm, show sB t (m + 1) 2 [] = sB t m 3 [t.getD 2 0] from (if_pos c2).trans (if_neg (by decide))] at h
  have := sB_gt t m 3 [t.getD 2 0] (by decide)
  omega
set_option maxRecDepth 100000 in
set_option maxHeartbeats 2000000 in
theorem rr_blank {X : ev_X} {c0 : Nat} {σ0 : Nat → Int32} {τ0 : Nat → Nat → Int32} {t : List Nat} {σ : Nat → Int32} {τ : Nat → Nat → Int32} (h0 : 0 < t.length) (hS : RZ σ0 τ0 t 0 σ τ) : Rx X c0 m_Mod_readBlank 0 [.ref (c0 + 16)] [] σ τ (rQ σ0 τ0 t (sBk t) (fun q b σ' τ' => RS σ0 τ0 t q ([95, 58] ++ b) 1 0 b.length σ' τ')) := by
  have hl := hS.tl
  refine Rx.go (fun _ => rfl) ?_
  refine Rx.go (fun _ => rfl) ?_
  refine Rx.callP rfl rfl rfl rfl (rz_begin 1 hS) ?_
  intro σ8 τ8 hS8
  show Rx X c0 m_Mod_readBlank 5 [.ref (c0 + 16)] [] σ8 τ8 _
  refine Rx.go (fun _ => rfl) ?_
  refine Rx.go (fun _ => rfl) ?_
  refine Rx.get rfl rfl ?_
  refine Rx.top (y := nI 0) hS8.f16 ?_
  refine Rx.go (fun _ => rfl) ?_
  refine Rx.go (fun _ => rfl) ?_
  refine Rx.top (y := nI (0 + 1)) (nI_1 0) ?_
  refine Rx.put rfl (by decide) rfl rfl ?_
  have hS9 := hS8.at1 h0
  refine Rx.go (fun _ => rfl) ?_
  refine Rx.go (fun _ => rfl) ?_
  refine Rx.callE rfl rfl rfl rfl (rz_here hS9.z) ?_
  show Rx X c0 m_Mod_readBlank 20 [.ref (c0 + 16)] [.int (hb t (0 + 1)), .ref (c0 + 16)] (upd σ8 16 (nI (0 + 1))) τ8 _
  refine Rx.go (fun _ => rfl) ?_
  refine Rx.go (fun _ => rfl) ?_
  refine Rx.ite (fun c1 => ?_) (fun c1 => ?_)
  · replace c1 : ¬ (hb t (0 + 1)) = 58 := of_decide_eq_true c1
    show Rx X c0 m_Mod_readBlank 29 [.ref (c0 + 16)] [.ref (c0 + 16)] (upd σ8 16 (nI (0 + 1))) τ8 _
    refine Rx.go (fun _ => rfl) ?_
    refine Rx.callP rfl rfl rfl rfl (rs_ov_f false hS9 (fun h => Bool.false_ne_true h.2)) ?_
    intro σ10 τ10 hS10
    show Rx X c0 m_Mod_readBlank 33 [.ref (c0 + 16)] [] σ10 τ10 _
    refine Rx.go (fun _ => rfl) ?_
    refine Rx.go (fun _ => rfl) ?_
    refine Rx.callP rfl rfl rfl rfl (rg_put _ hS10 (by first | omega | (simp only [List.length_append, List.length_cons, List.length_nil]; omega))) ?_
    intro σ11 τ11 hS11
    show Rx X c0 m_Mod_readBlank 39 [.ref (c0 + 16)] [] σ11 τ11 _
    refine Rx.go (fun _ => rfl) ?_
    refine Rx.go (fun _ => rfl) ?_
    refine Rx.callP rfl rfl rfl rfl (rg_put _ hS11 (by first | omega | (simp only [List.length_append, List.length_cons, List.length_nil]; omega))) ?_
    intro σ12 τ12 hS12
    show Rx X c0 m_Mod_readBlank 45 [.ref (c0 + 16)] [] σ12 τ12 _
    refine Rx.go (fun _ => rfl) ?_
    refine Rx.callE rfl rfl rfl rfl (rg_good hS12) ?_
    show Rx X c0 m_Mod_readBlank 49 [.ref (c0 + 16)] [.int 0] σ12 τ12 _
    refine Rx.go (fun _ => rfl) ?_
    show Rx X c0 m_Mod_readBlank 67 [.ref (c0 + 16)] [] σ12 τ12 _
    refine Rx.go (fun _ => rfl) ?_
    refine Rx.callE rfl rfl rfl rfl (rg_good hS12) ?_
    show Rx X c0 m_Mod_readBlank 71 [.ref (c0 + 16)] [.int 0] σ12 τ12 _
    refine Rx.go (fun _ => rfl) ?_
    show Rx X c0 m_Mod_readBlank 133 [.ref (c0 + 16)] [] σ12 τ12 _
    exact Rx.ret rfl rfl (rQ_f (b := []) (show sBk t = (false, 1, []) from if_neg c1) hS12 (by simp) (by omega))
  · replace c1 : (hb t (0 + 1)) = 58 := Classical.not_not.mp (of_decide_eq_false c1)
    show Rx X c0 m_Mod_readBlank 25 [.ref (c0 + 16)] [.ref (c0 + 16)] (upd σ8 16 (nI (0 + 1))) τ8 _
    refine Rx.go (fun _ => rfl) ?_
    refine Rx.go (fun _ => rfl) ?_
    refine Rx.callP rfl rfl rfl rfl (rs_ov_t hS9 (hb_in (by rw [c1]; decide))) ?_
    intro σ13 τ13 hS13
    show Rx X c0 m_Mod_readBlank 33 [.ref (c0 + 16)] [] σ13 τ13 _
    refine Rx.go (fun _ => rfl) ?_
    refine Rx.go (fun _ => rfl) ?_
    refine Rx.callP rfl rfl rfl rfl (rs_put 95 hS13 (by first | omega | (simp only [List.length_append, List.length_cons, List.length_nil]; omega))) ?_
    intro σ14 τ14 hS14
    show Rx X c0 m_Mod_readBlank 39 [.ref (c0 + 16)] [] σ14 τ14 _
    refine Rx.go (fun _ => rfl) ?_
    refine Rx.go (fun _ => rfl) ?_
    refine Rx.callP rfl rfl rfl rfl (rs_put 58 hS14 (by first | omega | (simp only [List.length_append, List.length_cons, List.length_nil]; omega))) ?_
    intro σ15 τ15 hS15
    show Rx X c0 m_Mod_readBlank 45 [.ref (c0 + 16)] [] σ15 τ15 _
    refine Rx.go (fun _ => rfl) ?_
    refine Rx.callE rfl rfl rfl rfl (rz_good hS15.z) ?_
    show Rx X c0 m_Mod_readBlank 49 [.ref (c0 + 16)] [.int 1] σ15 τ15 _
    refine Rx.go (fun _ => rfl) ?_
    show Rx X c0 m_Mod_readBlank 52 [.ref (c0 + 16)] [] σ15 τ15 _
    refine Rx.go (fun _ => rfl) ?_
    refine Rx.callE rfl rfl rfl rfl (rz_here hS15.z) ?_
    show Rx X c0 m_Mod_readBlank 56 [.ref (c0 + 16)] [.int (hb t ((0 + 1) + 1))] σ15 τ15 _
    refine Rx.scallE rfl rfl rfl rfl (sx_Mod_isW X (hb t ((0 + 1) + 1))) ?_
    show Rx X c0 m_Mod_readBlank 59 [.ref (c0 + 16)] [.int (bi (isW (hb t ((0 + 1) + 1))))] σ15 τ15 _
    refine Rx.go (fun _ => rfl) ?_
    refine Rx.ite (fun c2 => ?_) (fun c2 => ?_)
    · replace c2 : (isW (hb t ((0 + 1) + 1))) = true := bi_net c2
      show Rx X c0 m_Mod_readBlank 67 [.ref (c0 + 16)] [] σ15 τ15 _
      show Rx X c0 m_Mod_readBlank 67 [.ref (c0 + 16)] [] σ15 τ15 _
      rw [sBk_1 c1 c2]
      have h1 := hb_in (t := t) (q := 2) (fun e => by rw [e] at c2; exact absurd c2 (by decide))
      exact rr_bk_l (t.length - 2) 2 [] _ _ (by omega) (by decide) hS15
    · replace c2 : (isW (hb t ((0 + 1) + 1))) = false := bi_nef c2
      show Rx X c0 m_Mod_readBlank 62 [.ref (c0 + 16)] [] σ15 τ15 _
      refine Rx.go (fun _ => rfl) ?_
      refine Rx.go (fun _ => rfl) ?_
      refine Rx.callP rfl rfl rfl rfl (rs_ov_f false hS15 (fun h => Bool.false_ne_true h.2)) ?_
      intro σ16 τ16 hS16
      show Rx X c0 m_Mod_readBlank 67 [.ref (c0 + 16)] [] σ16 τ16 _
      refine Rx.go (fun _ => rfl) ?_
      refine Rx.callE rfl rfl rfl rfl (rg_good hS16) ?_
      show Rx X c0 m_Mod_readBlank 71 [.ref (c0 + 16)] [.int 0] σ16 τ16 _
      refine Rx.go (fun _ => rfl) ?_
      show Rx X c0 m_Mod_readBlank 133 [.ref (c0 + 16)] [] σ16 τ16 _
      exact Rx.ret rfl rfl (rQ_f (b := []) (sBk_2 c1 c2) hS16 (by simp) (by omega))
end
section
/-! The reference reads names. (rows laid by wip/whole/rr2.py) -/
theorem rs_ov_b {X : ev_X} {c0 : Nat} {σ0 σ : Nat → Int32} {τ0 τ : Nat → Nat → Int32} {t d : List Nat} {p k q db : Nat} {g : Bool} (hg : g = true) (h : RS σ0 τ0 t p d k q db σ τ) (hp : p < t.length) : Rx X c0 m_Mod_over 0 [.ref (c0 + 16), .int (bi g)] [] σ τ (fun r σ' τ' => r = none ∧ RS σ0 τ0 t (p + 1) d k q db σ' τ') := by
  subst hg
  exact rs_ov_t h hp
theorem nI_m : nI 4294967295 = -1 := by decide
theorem hb_put (t : List Nat) (q : Nat) : hb t q = nI (if q < t.length then t.getD q 0 else 4294967295) := by
  unfold hb
  split
  · rfl
  · exact nI_m.symm
theorem sNm_b {t : List Nat} {m q : Nat} {acc : List Nat} (hm : q + m = t.length) (c1 : ¬ (hb t q = 62 ∧ acc.length ≠ 0)) (c3 : q < t.length → ¬ acc.length = 60) (hg : ¬ (q < t.length ∧ isNB (hb t q) = true)) : sNm t m q acc = (false, q, acc) := by
  cases m with
  | zero => rw [sNm, show t.length = q by omega]
  | succ m =>
    have hq : q < t.length := by omega
    exact (if_neg c1).trans ((if_neg (c3 hq)).trans (if_neg (fun e => hg ⟨hq, e⟩)))
theorem sNm_l (t : List Nat) : ∀ (m q : Nat) (acc : List Nat), acc.length ≤ 60 → (sNm t m q acc).2.2.length ≤ 60 := by
  intro m
  induction m with
  | zero => intro q acc h; exact h
  | succ m ih =>
    intro q acc h
    rw [sNm]
    repeat' split
    all_goals first | exact h | (exact ih _ _ (by simp only [List.length_append, List.length_cons, List.length_nil]; omega))
theorem nm60 {t : List Nat} {m q : Nat} {acc : List Nat} (hm : q + m = t.length) (c1 : ¬ hb t q = 62) (e : acc.length = 60) (hlt : q < t.length) : sNm t m q acc = (false, q, acc) := by
  obtain ⟨m', rfl⟩ : ∃ m', m = m' + 1 := ⟨m - 1, by omega⟩
  exact (if_neg (fun h => c1 h.1)).trans (if_pos e)
theorem nm62 {t : List Nat} {m q : Nat} {acc : List Nat} (hm : q + m = t.length) (c1 : hb t q = 62) (hf : acc = [] → isNB (hb t q) = true) : sNm t m q acc = (true, q + 1, acc) := by
  have hlt := hb_in (t := t) (q := q) (by rw [c1]; decide)
  obtain ⟨m', rfl⟩ : ∃ m', m = m' + 1 := ⟨m - 1, by omega⟩
  refine if_pos ⟨c1, fun e => ?_⟩
  have := hf (List.length_eq_zero_iff.mp e)
  rw [c1] at this
  exact absurd this (by decide)
set_option maxRecDepth 100000 in
set_option maxHeartbeats 2000000 in
theorem rr_nm_l {X : ev_X} {c0 : Nat} {σ0 : Nat → Int32} {τ0 : Nat → Nat → Int32} {t : List Nat} {d0 : List Nat} {k qq db : Nat} (hd0 : d0.length ≤ 150) (hdb : db ≤ 1000) : ∀ (m q : Nat) (acc : List Nat) (σ : Nat → Int32) (τ : Nat → Nat → Int32) (hm : q + m = t.length) (ha : acc.length ≤ 60) (hf : acc = [] → isNB (hb t q) = true) (hS : RS σ0 τ0 t q (d0 ++ [60] ++ acc) k qq db σ τ), Rx X c0 m_Mod_readName 48 [.ref (c0 + 16), .int (nI acc.length)] [] σ τ (rQ σ0 τ0 t (sNm t m q acc) (fun q b σ' τ' => RS σ0 τ0 t q (d0 ++ [60] ++ b ++ [62]) k qq (db + b.length) σ' τ')) := by
  intro m
  induction m using Nat.strongRecOn with
  | ind m ih =>
  intro q acc σ τ hm ha hf hS
  have hl := hS.z.tl
  refine Rx.go (fun _ => rfl) ?_
  refine Rx.callE rfl rfl rfl rfl (rz_good hS.z) ?_
  show Rx X c0 m_Mod_readName 52 [.ref (c0 + 16), .int (nI acc.length)] [.int 1] σ τ _
  refine Rx.go (fun _ => rfl) ?_
  show Rx X c0 m_Mod_readName 55 [.ref (c0 + 16), .int (nI acc.length)] [] σ τ _
  refine Rx.go (fun _ => rfl) ?_
  refine Rx.callE rfl rfl rfl rfl (rz_here hS.z) ?_
  show Rx X c0 m_Mod_readName 59 [.ref (c0 + 16), .int (nI acc.length)] [.int (hb t q)] σ τ _
  refine Rx.go (fun _ => rfl) ?_
  refine Rx.go (fun _ => rfl) ?_
  refine Rx.ite (fun c1 => ?_) (fun c1 => ?_)
  · replace c1 : (hb t q) = 62 := of_decide_eq_true c1
    show Rx X c0 m_Mod_readName 115 [.ref (c0 + 16), .int (nI acc.length)] [] σ τ _
    refine Rx.go (fun _ => rfl) ?_
    refine Rx.callE rfl rfl rfl rfl (rz_good hS.z) ?_
    show Rx X c0 m_Mod_readName 119 [.ref (c0 + 16), .int (nI acc.length)] [.int 1] σ τ _
    refine Rx.go (fun _ => rfl) ?_
    show Rx X c0 m_Mod_readName 123 [.ref (c0 + 16), .int (nI acc.length)] [] σ τ _
    refine Rx.go (fun _ => rfl) ?_
    refine Rx.go (fun _ => rfl) ?_
    refine Rx.get rfl rfl ?_
    refine Rx.top (y := nI q) hS.f16 ?_
    refine Rx.go (fun _ => rfl) ?_
    refine Rx.go (fun _ => rfl) ?_
    refine Rx.top (y := nI (q + 1)) (nI_1 _) ?_
    refine Rx.put rfl (by decide) rfl rfl ?_
    have hS17 := hS.at1 (hb_in (by rw [c1]; decide))
    refine Rx.go (fun _ => rfl) ?_
    refine Rx.go (fun _ => rfl) ?_
    refine Rx.callP rfl rfl rfl rfl (rs_put 62 hS17 (by first | omega | (simp only [List.length_append, List.length_cons, List.length_nil]; omega))) ?_
    intro σ18 τ18 hS18
    show Rx X c0 m_Mod_readName 139 [.ref (c0 + 16), .int (nI acc.length)] [] σ18 τ18 _
    refine Rx.go (fun _ => rfl) ?_
    refine Rx.go (fun _ => rfl) ?_
    refine Rx.get rfl rfl ?_
    refine Rx.top (y := nI db) hS18.f13 ?_
    refine Rx.go (fun _ => rfl) ?_
    refine Rx.go (fun _ => rfl) ?_
    refine Rx.top (y := nI (db + acc.length)) (nI_add _ _) ?_
    refine Rx.put rfl (by decide) rfl rfl ?_
    have hS19 := hS18.db1 (x := (db + acc.length))
    exact Rx.ret rfl rfl (rQ_t (nm62 hm c1 hf) (by rw [show d0 ++ [60] ++ acc ++ [62] = d0 ++ [60] ++ acc ++ [62] from rfl]; exact hS19))
  · replace c1 : ¬ (hb t q) = 62 := of_decide_eq_false c1
    show Rx X c0 m_Mod_readName 64 [.ref (c0 + 16), .int (nI acc.length)] [] σ τ _
    refine Rx.go (fun _ => rfl) ?_
    refine Rx.get rfl rfl ?_
    refine Rx.top (y := nI q) hS.f16 ?_
    refine Rx.go (fun _ => rfl) ?_
    refine Rx.get rfl rfl ?_
    refine Rx.top (y := nI t.length) hS.f17 ?_
    refine Rx.go (fun _ => rfl) ?_
    refine Rx.ite (fun c2 => ?_) (fun c2 => ?_)
    · replace c2 : (nI t.length) ≤ (nI q) := of_decide_eq_true c2
      have hge : t.length ≤ q := (nI_leI (by omega) (by omega)).mp c2
      show Rx X c0 m_Mod_readName 90 [.ref (c0 + 16), .int (nI acc.length)] [] σ τ _
      refine Rx.go (fun _ => rfl) ?_
      refine Rx.go (fun _ => rfl) ?_
      refine Rx.callE rfl rfl rfl rfl (rz_here hS.z) ?_
      show Rx X c0 m_Mod_readName 95 [.ref (c0 + 16), .int (nI acc.length)] [.int (hb t q), .ref (c0 + 16)] σ τ _
      refine Rx.top (y := nI (if q < t.length then t.getD q 0 else 4294967295)) (hb_put t q) ?_
      refine Rx.callP rfl rfl rfl rfl (rs_put (if q < t.length then t.getD q 0 else 4294967295) hS (by first | omega | (simp only [List.length_append, List.length_cons, List.length_nil]; omega))) ?_
      intro σ20 τ20 hS20
      show Rx X c0 m_Mod_readName 98 [.ref (c0 + 16), .int (nI acc.length)] [] σ20 τ20 _
      refine Rx.go (fun _ => rfl) ?_
      refine Rx.go (fun _ => rfl) ?_
      refine Rx.callE rfl rfl rfl rfl (rz_here hS20.z) ?_
      show Rx X c0 m_Mod_readName 103 [.ref (c0 + 16), .int (nI acc.length)] [.int (hb t q), .ref (c0 + 16)] σ20 τ20 _
      refine Rx.scallE rfl rfl rfl rfl (sx_Mod_isNB X (hb t q)) ?_
      show Rx X c0 m_Mod_readName 106 [.ref (c0 + 16), .int (nI acc.length)] [.int (bi (isNB (hb t q))), .ref (c0 + 16)] σ20 τ20 _
      by_cases hg : q < t.length ∧ isNB (hb t q) = true
      · refine Rx.callP rfl rfl rfl rfl (rs_ov_b (g := isNB (hb t q)) hg.2 hS20 hg.1) ?_
        intro σ21 τ21 hS21
        show Rx X c0 m_Mod_readName 109 [.ref (c0 + 16), .int (nI acc.length)] [] σ21 τ21 _
        refine Rx.go (fun _ => rfl) ?_
        show Rx X c0 m_Mod_readName 112 [.ref (c0 + 16), .int ((nI acc.length) + 1)] [] σ21 τ21 _
        refine Rx.go (fun _ => rfl) ?_
        show Rx X c0 m_Mod_readName 48 [.ref (c0 + 16), .int ((nI acc.length) + 1)] [] σ21 τ21 _
        exact absurd hg.1 (by omega)
      refine Rx.callP rfl rfl rfl rfl (rs_ov_f (isNB (hb t q)) hS20 hg) ?_
      intro σ22 τ22 hS22
      show Rx X c0 m_Mod_readName 109 [.ref (c0 + 16), .int (nI acc.length)] [] σ22 τ22 _
      refine Rx.go (fun _ => rfl) ?_
      show Rx X c0 m_Mod_readName 112 [.ref (c0 + 16), .int ((nI acc.length) + 1)] [] σ22 τ22 _
      refine Rx.go (fun _ => rfl) ?_
      refine Rx.go (fun _ => rfl) ?_
      refine Rx.callE rfl rfl rfl rfl (rg_good hS22) ?_
      show Rx X c0 m_Mod_readName 52 [.ref (c0 + 16), .int ((nI acc.length) + 1)] [.int 0] σ22 τ22 _
      refine Rx.go (fun _ => rfl) ?_
      show Rx X c0 m_Mod_readName 115 [.ref (c0 + 16), .int ((nI acc.length) + 1)] [] σ22 τ22 _
      refine Rx.go (fun _ => rfl) ?_
      refine Rx.callE rfl rfl rfl rfl (rg_good hS22) ?_
      show Rx X c0 m_Mod_readName 119 [.ref (c0 + 16), .int ((nI acc.length) + 1)] [.int 0] σ22 τ22 _
      refine Rx.go (fun _ => rfl) ?_
      show Rx X c0 m_Mod_readName 122 [.ref (c0 + 16), .int ((nI acc.length) + 1)] [] σ22 τ22 _
      exact Rx.ret rfl rfl (rQ_f (b := acc) (sNm_b hm (fun h => c1 h.1) (fun hq => absurd hq (by omega)) hg) hS22 (by simp only [List.length_append, List.length_cons, List.length_nil]; omega) (by omega))
    · replace c2 : ¬ (nI t.length) ≤ (nI q) := of_decide_eq_false c2
      have hlt : q < t.length := Nat.lt_of_not_le (fun e => c2 ((nI_leI (by omega) (by omega)).mpr e))
      show Rx X c0 m_Mod_readName 75 [.ref (c0 + 16), .int (nI acc.length)] [] σ τ _
      refine Rx.go (fun _ => rfl) ?_
      refine Rx.go (fun _ => rfl) ?_
      refine Rx.go (fun _ => rfl) ?_
      refine Rx.ite (fun c3 => ?_) (fun c3 => ?_)
      · replace c3 : ¬ (nI acc.length) = 60 := of_decide_eq_true c3
        show Rx X c0 m_Mod_readName 90 [.ref (c0 + 16), .int (nI acc.length)] [] σ τ _
        refine Rx.go (fun _ => rfl) ?_
        refine Rx.go (fun _ => rfl) ?_
        refine Rx.callE rfl rfl rfl rfl (rz_here hS.z) ?_
        show Rx X c0 m_Mod_readName 95 [.ref (c0 + 16), .int (nI acc.length)] [.int (hb t q), .ref (c0 + 16)] σ τ _
        refine Rx.top (y := nI (if q < t.length then t.getD q 0 else 4294967295)) (hb_put t q) ?_
        refine Rx.callP rfl rfl rfl rfl (rs_put (if q < t.length then t.getD q 0 else 4294967295) hS (by first | omega | (simp only [List.length_append, List.length_cons, List.length_nil]; omega))) ?_
        intro σ23 τ23 hS23
        show Rx X c0 m_Mod_readName 98 [.ref (c0 + 16), .int (nI acc.length)] [] σ23 τ23 _
        refine Rx.go (fun _ => rfl) ?_
        refine Rx.go (fun _ => rfl) ?_
        refine Rx.callE rfl rfl rfl rfl (rz_here hS23.z) ?_
        show Rx X c0 m_Mod_readName 103 [.ref (c0 + 16), .int (nI acc.length)] [.int (hb t q), .ref (c0 + 16)] σ23 τ23 _
        refine Rx.scallE rfl rfl rfl rfl (sx_Mod_isNB X (hb t q)) ?_
        show Rx X c0 m_Mod_readName 106 [.ref (c0 + 16), .int (nI acc.length)] [.int (bi (isNB (hb t q))), .ref (c0 + 16)] σ23 τ23 _
        by_cases hg : q < t.length ∧ isNB (hb t q) = true
        · refine Rx.callP rfl rfl rfl rfl (rs_ov_b (g := isNB (hb t q)) hg.2 hS23 hg.1) ?_
          intro σ24 τ24 hS24
          show Rx X c0 m_Mod_readName 109 [.ref (c0 + 16), .int (nI acc.length)] [] σ24 τ24 _
          refine Rx.go (fun _ => rfl) ?_
          show Rx X c0 m_Mod_readName 112 [.ref (c0 + 16), .int ((nI acc.length) + 1)] [] σ24 τ24 _
          refine Rx.go (fun _ => rfl) ?_
          show Rx X c0 m_Mod_readName 48 [.ref (c0 + 16), .int ((nI acc.length) + 1)] [] σ24 τ24 _
          have e1 : (if q < t.length then t.getD q 0 else 4294967295) = t.getD q 0 := if_pos hg.1
          rw [e1] at hS24
          obtain ⟨m1, rfl⟩ : ∃ m1, m = m1 + 1 := ⟨m - 1, by omega⟩
          rw [show nI acc.length + 1 = nI (acc ++ [t.getD q 0]).length by rw [nI_1, List.length_append]; rfl, show sNm t (m1 + 1) q acc = sNm t m1 (q + 1) (acc ++ [t.getD q 0]) from (if_neg (fun h => c1 h.1)).trans ((if_neg (fun e => c3 (by rw [e]; rfl))).trans (if_pos hg.2))]
          exact ih m1 (by omega) (q + 1) (acc ++ [t.getD q 0]) _ _ (by omega) (by have : acc.length ≠ 60 := fun e => c3 (by rw [e]; rfl); simp only [List.length_append, List.length_cons, List.length_nil]; omega) (fun e => absurd e (by simp)) (by rw [← List.append_assoc]; exact hS24)
        refine Rx.callP rfl rfl rfl rfl (rs_ov_f (isNB (hb t q)) hS23 hg) ?_
        intro σ25 τ25 hS25
        show Rx X c0 m_Mod_readName 109 [.ref (c0 + 16), .int (nI acc.length)] [] σ25 τ25 _
        refine Rx.go (fun _ => rfl) ?_
        show Rx X c0 m_Mod_readName 112 [.ref (c0 + 16), .int ((nI acc.length) + 1)] [] σ25 τ25 _
        refine Rx.go (fun _ => rfl) ?_
        refine Rx.go (fun _ => rfl) ?_
        refine Rx.callE rfl rfl rfl rfl (rg_good hS25) ?_
        show Rx X c0 m_Mod_readName 52 [.ref (c0 + 16), .int ((nI acc.length) + 1)] [.int 0] σ25 τ25 _
        refine Rx.go (fun _ => rfl) ?_
        show Rx X c0 m_Mod_readName 115 [.ref (c0 + 16), .int ((nI acc.length) + 1)] [] σ25 τ25 _
        refine Rx.go (fun _ => rfl) ?_
        refine Rx.callE rfl rfl rfl rfl (rg_good hS25) ?_
        show Rx X c0 m_Mod_readName 119 [.ref (c0 + 16), .int ((nI acc.length) + 1)] [.int 0] σ25 τ25 _
        refine Rx.go (fun _ => rfl) ?_
        show Rx X c0 m_Mod_readName 122 [.ref (c0 + 16), .int ((nI acc.length) + 1)] [] σ25 τ25 _
        exact Rx.ret rfl rfl (rQ_f (b := acc) (sNm_b hm (fun h => c1 h.1) (fun _ => fun e => c3 (by rw [e]; rfl)) hg) hS25 (by simp only [List.length_append, List.length_cons, List.length_nil]; omega) (by omega))
      · replace c3 : (nI acc.length) = 60 := Classical.not_not.mp (of_decide_eq_false c3)
        show Rx X c0 m_Mod_readName 81 [.ref (c0 + 16), .int (nI acc.length)] [] σ τ _
        refine Rx.go (fun _ => rfl) ?_
        refine Rx.go (fun _ => rfl) ?_
        refine Rx.go (fun _ => rfl) ?_
        refine Rx.get rfl rfl ?_
        refine Rx.top (y := nI q) hS.f16 ?_
        refine Rx.callP rfl rfl rfl rfl (rs_fl (wn := q) hS (by decide) rfl) ?_
        intro σ26 τ26 hS26
        show Rx X c0 m_Mod_readName 90 [.ref (c0 + 16), .int (nI acc.length)] [] σ26 τ26 _
        refine Rx.go (fun _ => rfl) ?_
        refine Rx.go (fun _ => rfl) ?_
        refine Rx.callE rfl rfl rfl rfl (rg_here hS26 (by omega)) ?_
        show Rx X c0 m_Mod_readName 95 [.ref (c0 + 16), .int (nI acc.length)] [.int (rhere σ26 τ26), .ref (c0 + 16)] σ26 τ26 _
        refine Rx.callP rfl rfl rfl rfl (rg_put _ hS26 (by first | omega | (simp only [List.length_append, List.length_cons, List.length_nil]; omega))) ?_
        intro σ27 τ27 hS27
        show Rx X c0 m_Mod_readName 98 [.ref (c0 + 16), .int (nI acc.length)] [] σ27 τ27 _
        refine Rx.go (fun _ => rfl) ?_
        refine Rx.go (fun _ => rfl) ?_
        refine Rx.callE rfl rfl rfl rfl (rg_here hS27 (by omega)) ?_
        show Rx X c0 m_Mod_readName 103 [.ref (c0 + 16), .int (nI acc.length)] [.int (rhere σ27 τ27), .ref (c0 + 16)] σ27 τ27 _
        refine Rx.scallE rfl rfl rfl rfl (sx_Mod_isNB X (rhere σ27 τ27)) ?_
        show Rx X c0 m_Mod_readName 106 [.ref (c0 + 16), .int (nI acc.length)] [.int (bi (isNB (rhere σ27 τ27))), .ref (c0 + 16)] σ27 τ27 _
        refine Rx.callP rfl rfl rfl rfl (rg_ov (isNB (rhere σ27 τ27)) hS27) ?_
        intro σ28 τ28 hS28
        show Rx X c0 m_Mod_readName 109 [.ref (c0 + 16), .int (nI acc.length)] [] σ28 τ28 _
        refine Rx.go (fun _ => rfl) ?_
        show Rx X c0 m_Mod_readName 112 [.ref (c0 + 16), .int ((nI acc.length) + 1)] [] σ28 τ28 _
        refine Rx.go (fun _ => rfl) ?_
        refine Rx.go (fun _ => rfl) ?_
        refine Rx.callE rfl rfl rfl rfl (rg_good hS28) ?_
        show Rx X c0 m_Mod_readName 52 [.ref (c0 + 16), .int ((nI acc.length) + 1)] [.int 0] σ28 τ28 _
        refine Rx.go (fun _ => rfl) ?_
        show Rx X c0 m_Mod_readName 115 [.ref (c0 + 16), .int ((nI acc.length) + 1)] [] σ28 τ28 _
        refine Rx.go (fun _ => rfl) ?_
        refine Rx.callE rfl rfl rfl rfl (rg_good hS28) ?_
        show Rx X c0 m_Mod_readName 119 [.ref (c0 + 16), .int ((nI acc.length) + 1)] [.int 0] σ28 τ28 _
        refine Rx.go (fun _ => rfl) ?_
        show Rx X c0 m_Mod_readName 122 [.ref (c0 + 16), .int ((nI acc.length) + 1)] [] σ28 τ28 _
        exact Rx.ret rfl rfl (rQ_f (b := acc) (nm60 hm c1 ((nI_eq (b := 60) (by omega) (by decide)).mp c3) hlt) hS28 (by simp only [List.length_append, List.length_cons, List.length_nil]; omega) (by omega))
set_option maxRecDepth 100000 in
set_option maxHeartbeats 2000000 in
theorem rr_name {X : ev_X} {c0 : Nat} {σ0 : Nat → Int32} {τ0 : Nat → Nat → Int32} {t : List Nat} {d0 : List Nat} {q k qq db : Nat} {σ : Nat → Int32} {τ : Nat → Nat → Int32} (hd0 : d0.length ≤ 150) (hdb : db ≤ 1000) (hS : RS σ0 τ0 t q d0 k qq db σ τ) : Rx X c0 m_Mod_readName 0 [.ref (c0 + 16), ev_dead] [] σ τ (rQ σ0 τ0 t (sNa t q) (fun q b σ' τ' => RS σ0 τ0 t q (d0 ++ [60] ++ b ++ [62]) k qq (db + b.length) σ' τ')) := by
  have hl := hS.z.tl
  refine Rx.go (fun _ => rfl) ?_
  refine Rx.go (fun _ => rfl) ?_
  refine Rx.callE rfl rfl rfl rfl (rz_here hS.z) ?_
  show Rx X c0 m_Mod_readName 5 [.ref (c0 + 16), ev_dead] [.int (hb t q), .ref (c0 + 16)] σ τ _
  refine Rx.go (fun _ => rfl) ?_
  refine Rx.go (fun _ => rfl) ?_
  refine Rx.ite (fun c1 => ?_) (fun c1 => ?_)
  · replace c1 : ¬ (hb t q) = 60 := of_decide_eq_true c1
    show Rx X c0 m_Mod_readName 14 [.ref (c0 + 16), ev_dead] [.ref (c0 + 16)] σ τ _
    refine Rx.go (fun _ => rfl) ?_
    refine Rx.callP rfl rfl rfl rfl (rs_ov_f false hS (fun h => Bool.false_ne_true h.2)) ?_
    intro σ29 τ29 hS29
    show Rx X c0 m_Mod_readName 18 [.ref (c0 + 16), ev_dead] [] σ29 τ29 _
    refine Rx.go (fun _ => rfl) ?_
    refine Rx.go (fun _ => rfl) ?_
    refine Rx.callP rfl rfl rfl rfl (rg_put _ hS29 (by first | omega | (simp only [List.length_append, List.length_cons, List.length_nil]; omega))) ?_
    intro σ30 τ30 hS30
    show Rx X c0 m_Mod_readName 24 [.ref (c0 + 16), ev_dead] [] σ30 τ30 _
    refine Rx.go (fun _ => rfl) ?_
    refine Rx.go (fun _ => rfl) ?_
    show Rx X c0 m_Mod_readName 26 [.ref (c0 + 16), .int 0] [] σ30 τ30 _
    refine Rx.go (fun _ => rfl) ?_
    refine Rx.callE rfl rfl rfl rfl (rg_good hS30) ?_
    show Rx X c0 m_Mod_readName 30 [.ref (c0 + 16), .int 0] [.int 0] σ30 τ30 _
    refine Rx.go (fun _ => rfl) ?_
    show Rx X c0 m_Mod_readName 48 [.ref (c0 + 16), .int 0] [] σ30 τ30 _
    refine Rx.go (fun _ => rfl) ?_
    refine Rx.callE rfl rfl rfl rfl (rg_good hS30) ?_
    show Rx X c0 m_Mod_readName 52 [.ref (c0 + 16), .int 0] [.int 0] σ30 τ30 _
    refine Rx.go (fun _ => rfl) ?_
    show Rx X c0 m_Mod_readName 115 [.ref (c0 + 16), .int 0] [] σ30 τ30 _
    refine Rx.go (fun _ => rfl) ?_
    refine Rx.callE rfl rfl rfl rfl (rg_good hS30) ?_
    show Rx X c0 m_Mod_readName 119 [.ref (c0 + 16), .int 0] [.int 0] σ30 τ30 _
    refine Rx.go (fun _ => rfl) ?_
    show Rx X c0 m_Mod_readName 122 [.ref (c0 + 16), .int 0] [] σ30 τ30 _
    exact Rx.ret rfl rfl (rQ_f (b := []) (show sNa t q = (false, q, []) from if_neg c1) hS30 (by first | omega | (simp only [List.length_append, List.length_cons, List.length_nil]; omega)) (by omega))
  · replace c1 : (hb t q) = 60 := Classical.not_not.mp (of_decide_eq_false c1)
    show Rx X c0 m_Mod_readName 10 [.ref (c0 + 16), ev_dead] [.ref (c0 + 16)] σ τ _
    refine Rx.go (fun _ => rfl) ?_
    refine Rx.go (fun _ => rfl) ?_
    refine Rx.callP rfl rfl rfl rfl (rs_ov_t hS (hb_in (by rw [c1]; decide))) ?_
    intro σ31 τ31 hS31
    show Rx X c0 m_Mod_readName 18 [.ref (c0 + 16), ev_dead] [] σ31 τ31 _
    refine Rx.go (fun _ => rfl) ?_
    refine Rx.go (fun _ => rfl) ?_
    refine Rx.callP rfl rfl rfl rfl (rs_put 60 hS31 (by first | omega | (simp only [List.length_append, List.length_cons, List.length_nil]; omega))) ?_
    intro σ32 τ32 hS32
    show Rx X c0 m_Mod_readName 24 [.ref (c0 + 16), ev_dead] [] σ32 τ32 _
    refine Rx.go (fun _ => rfl) ?_
    refine Rx.go (fun _ => rfl) ?_
    show Rx X c0 m_Mod_readName 26 [.ref (c0 + 16), .int 0] [] σ32 τ32 _
    refine Rx.go (fun _ => rfl) ?_
    refine Rx.callE rfl rfl rfl rfl (rz_good hS32.z) ?_
    show Rx X c0 m_Mod_readName 30 [.ref (c0 + 16), .int 0] [.int 1] σ32 τ32 _
    refine Rx.go (fun _ => rfl) ?_
    show Rx X c0 m_Mod_readName 33 [.ref (c0 + 16), .int 0] [] σ32 τ32 _
    refine Rx.go (fun _ => rfl) ?_
    refine Rx.callE rfl rfl rfl rfl (rz_here hS32.z) ?_
    show Rx X c0 m_Mod_readName 37 [.ref (c0 + 16), .int 0] [.int (hb t (q + 1))] σ32 τ32 _
    refine Rx.scallE rfl rfl rfl rfl (sx_Mod_isNB X (hb t (q + 1))) ?_
    show Rx X c0 m_Mod_readName 40 [.ref (c0 + 16), .int 0] [.int (bi (isNB (hb t (q + 1))))] σ32 τ32 _
    refine Rx.go (fun _ => rfl) ?_
    refine Rx.ite (fun c2 => ?_) (fun c2 => ?_)
    · replace c2 : (isNB (hb t (q + 1))) = true := bi_net c2
      show Rx X c0 m_Mod_readName 48 [.ref (c0 + 16), .int 0] [] σ32 τ32 _
      show Rx X c0 m_Mod_readName 48 [.ref (c0 + 16), .int 0] [] σ32 τ32 _
      have hp1 := hb_in (t := t) (q := q) (by rw [c1]; decide)
      rw [show sNa t q = sNm t (t.length - (q + 1)) (q + 1) [] from if_pos c1]
      exact rr_nm_l hd0 hdb (t.length - (q + 1)) (q + 1) [] _ _ (by omega) (by decide) (fun _ => c2) (by rw [List.append_nil]; exact hS32)
    · replace c2 : (isNB (hb t (q + 1))) = false := bi_nef c2
      show Rx X c0 m_Mod_readName 43 [.ref (c0 + 16), .int 0] [] σ32 τ32 _
      refine Rx.go (fun _ => rfl) ?_
      refine Rx.go (fun _ => rfl) ?_
      refine Rx.callP rfl rfl rfl rfl (rs_ov_f false hS32 (fun h => Bool.false_ne_true h.2)) ?_
      intro σ33 τ33 hS33
      show Rx X c0 m_Mod_readName 48 [.ref (c0 + 16), .int 0] [] σ33 τ33 _
      refine Rx.go (fun _ => rfl) ?_
      refine Rx.callE rfl rfl rfl rfl (rg_good hS33) ?_
      show Rx X c0 m_Mod_readName 52 [.ref (c0 + 16), .int 0] [.int 0] σ33 τ33 _
      refine Rx.go (fun _ => rfl) ?_
      show Rx X c0 m_Mod_readName 115 [.ref (c0 + 16), .int 0] [] σ33 τ33 _
      refine Rx.go (fun _ => rfl) ?_
      refine Rx.callE rfl rfl rfl rfl (rg_good hS33) ?_
      show Rx X c0 m_Mod_readName 119 [.ref (c0 + 16), .int 0] [.int 0] σ33 τ33 _
      refine Rx.go (fun _ => rfl) ?_
      show Rx X c0 m_Mod_readName 122 [.ref (c0 + 16), .int 0] [] σ33 τ33 _
      have hp1 := hb_in (t := t) (q := q) (by rw [c1]; decide)
      exact Rx.ret rfl rfl (rQ_f (b := []) (show sNa t q = (false, q + 1, []) from (if_pos c1).trans (sNm_b (by omega) (fun h => h.2 rfl) (fun _ => by decide) (fun h => by rw [c2] at h; exact Bool.false_ne_true h.2))) hS33 (by simp only [List.length_append, List.length_cons, List.length_nil]; omega) (by omega))
end
section
/-! The reference reads items. (rows laid by wip/whole/rr3.py) -/
/-- one item at q, as it is written -/
def sIt (t : List Nat) (q : Nat) : Bool × Nat × List Nat := if hb t q = 92 then (if q + 1 = t.length then (false, q + 1, []) else if 0 ≤ esc (hb t (q + 1)) then (true, q + 2, [92, t.getD (q + 1) 0]) else (false, q, [])) else if hb t q < 32 then (false, q, []) else if 126 < hb t q then (false, q, []) else (true, q + 1, [t.getD q 0])
theorem i32_31 {b : Int32} : b ≤ 31 ↔ b < 32 := by
  rw [Int32.lt_iff_toInt_lt, Int32.le_iff_toInt_le, show (31 : Int32).toInt = 31 from rfl, show (32 : Int32).toInt = 32 from rfl]; omega
theorem i32_12 {b : Int32} : 127 ≤ b ↔ 126 < b := by
  rw [Int32.lt_iff_toInt_lt, Int32.le_iff_toInt_le, show (126 : Int32).toInt = 126 from rfl, show (127 : Int32).toInt = 127 from rfl]; omega
theorem esc_no {c : Int32} (h1 : ¬ c = 34) (h2 : ¬ c = 92) (h3 : ¬ c = 110) (h4 : ¬ c = 114) (h5 : ¬ c = 116) : ¬ 0 ≤ esc c := by
  rw [esc, if_neg h1, if_neg h2, if_neg h3, if_neg h4, if_neg h5]; decide
theorem esc_yes {c : Int32} (h : c = 34 ∨ c = 92 ∨ c = 110 ∨ c = 114 ∨ c = 116) : 0 ≤ esc c := by
  rcases h with rfl | rfl | rfl | rfl | rfl <;> decide
set_option maxRecDepth 100000 in
set_option maxHeartbeats 2000000 in
theorem rr_item {X : ev_X} {c0 : Nat} {σ0 : Nat → Int32} {τ0 : Nat → Nat → Int32} {t : List Nat} {D : List Nat} {q k qq db : Nat} {σ : Nat → Int32} {τ : Nat → Nat → Int32} (hD : D.length ≤ 200) (hS : RS σ0 τ0 t q D k qq db σ τ) : Rx X c0 m_Mod_readItem 0 [.ref (c0 + 16), ev_dead, ev_dead, ev_dead] [] σ τ (rQ σ0 τ0 t (sIt t q) (fun q b σ' τ' => RS σ0 τ0 t q (D ++ b) k qq db σ' τ')) := by
  have hl := hS.z.tl
  have hpl := hS.pl
  refine Rx.go (fun _ => rfl) ?_
  refine Rx.callE rfl rfl rfl rfl (rz_here hS.z) ?_
  show Rx X c0 m_Mod_readItem 4 [.ref (c0 + 16), ev_dead, ev_dead, ev_dead] [.int (hb t q)] σ τ _
  refine Rx.go (fun _ => rfl) ?_
  show Rx X c0 m_Mod_readItem 5 [.ref (c0 + 16), .int (hb t q), ev_dead, ev_dead] [] σ τ _
  refine Rx.go (fun _ => rfl) ?_
  refine Rx.go (fun _ => rfl) ?_
  refine Rx.go (fun _ => rfl) ?_
  refine Rx.ite (fun c1 => ?_) (fun c1 => ?_)
  · replace c1 : (hb t q) = 92 := of_decide_eq_true c1
    show Rx X c0 m_Mod_readItem 45 [.ref (c0 + 16), .int (hb t q), ev_dead, ev_dead] [] σ τ _
    refine Rx.go (fun _ => rfl) ?_
    refine Rx.go (fun _ => rfl) ?_
    refine Rx.get rfl rfl ?_
    refine Rx.top (y := nI q) hS.f16 ?_
    refine Rx.go (fun _ => rfl) ?_
    refine Rx.go (fun _ => rfl) ?_
    refine Rx.top (y := nI (q + 1)) (nI_1 _) ?_
    refine Rx.put rfl (by decide) rfl rfl ?_
    have hS17 := hS.at1 (hb_in (by rw [c1]; decide))
    refine Rx.go (fun _ => rfl) ?_
    refine Rx.callE rfl rfl rfl rfl (rz_here hS17.z) ?_
    show Rx X c0 m_Mod_readItem 59 [.ref (c0 + 16), .int (hb t q), ev_dead, ev_dead] [.int (hb t (q + 1))] (upd σ 16 (nI (q + 1))) τ _
    refine Rx.go (fun _ => rfl) ?_
    show Rx X c0 m_Mod_readItem 60 [.ref (c0 + 16), .int (hb t q), .int (hb t (q + 1)), ev_dead] [] (upd σ 16 (nI (q + 1))) τ _
    refine Rx.go (fun _ => rfl) ?_
    refine Rx.go (fun _ => rfl) ?_
    refine Rx.go (fun _ => rfl) ?_
    refine Rx.ite (fun c2 => ?_) (fun c2 => ?_)
    · replace c2 : (hb t (q + 1)) = 34 := of_decide_eq_true c2
      show Rx X c0 m_Mod_readItem 90 [.ref (c0 + 16), .int (hb t q), .int (hb t (q + 1)), ev_dead] [] (upd σ 16 (nI (q + 1))) τ _
      refine Rx.go (fun _ => rfl) ?_
      refine Rx.go (fun _ => rfl) ?_
      refine Rx.go (fun _ => rfl) ?_
      show Rx X c0 m_Mod_readItem 96 [.ref (c0 + 16), .int (hb t q), .int (hb t (q + 1)), .int 1] [] (upd σ 16 (nI (q + 1))) τ _
      have hyes : 0 ≤ esc (hb t (q + 1)) := esc_yes (Or.inl c2)
      refine Rx.go (fun _ => rfl) ?_
      refine Rx.get rfl rfl ?_
      refine Rx.top (y := nI (q + 1)) hS17.f16 ?_
      refine Rx.go (fun _ => rfl) ?_
      refine Rx.get rfl rfl ?_
      refine Rx.top (y := nI t.length) hS17.f17 ?_
      refine Rx.go (fun _ => rfl) ?_
      refine Rx.ite (fun c3 => ?_) (fun c3 => ?_)
      · replace c3 : ¬ (nI (q + 1)) = (nI t.length) := of_decide_eq_true c3
        have hne : ¬ q + 1 = t.length := fun e => c3 (by rw [e])
        have h92 := hb_in (t := t) (q := q) (by rw [c1]; decide)
        have hq1 : q + 1 < t.length := by omega
        show Rx X c0 m_Mod_readItem 119 [.ref (c0 + 16), .int (hb t q), .int (hb t (q + 1)), .int 1] [] (upd σ 16 (nI (q + 1))) τ _
        refine Rx.go (fun _ => rfl) ?_
        refine Rx.go (fun _ => rfl) ?_
        show Rx X c0 m_Mod_readItem 134 [.ref (c0 + 16), .int (hb t q), .int (hb t (q + 1)), .int 1] [] (upd σ 16 (nI (q + 1))) τ _
        refine Rx.go (fun _ => rfl) ?_
        refine Rx.go (fun _ => rfl) ?_
        refine Rx.callP rfl rfl rfl rfl (rs_put 92 hS17 (by first | omega | (simp only [List.length_append, List.length_cons, List.length_nil]; omega))) ?_
        intro σ18 τ18 hS18
        show Rx X c0 m_Mod_readItem 140 [.ref (c0 + 16), .int (hb t q), .int (hb t (q + 1)), .int 1] [] σ18 τ18 _
        refine Rx.go (fun _ => rfl) ?_
        refine Rx.go (fun _ => rfl) ?_
        refine Rx.top (y := nI (t.getD (q + 1) 0)) (hb_lt hq1) ?_
        refine Rx.callP rfl rfl rfl rfl (rs_put (t.getD (q + 1) 0) hS18 (by first | omega | (simp only [List.length_append, List.length_cons, List.length_nil]; omega))) ?_
        intro σ19 τ19 hS19
        show Rx X c0 m_Mod_readItem 145 [.ref (c0 + 16), .int (hb t q), .int (hb t (q + 1)), .int 1] [] σ19 τ19 _
        refine Rx.go (fun _ => rfl) ?_
        refine Rx.go (fun _ => rfl) ?_
        refine Rx.get rfl rfl ?_
        refine Rx.top (y := nI (q + 1)) hS19.f16 ?_
        refine Rx.go (fun _ => rfl) ?_
        refine Rx.go (fun _ => rfl) ?_
        refine Rx.top (y := nI (q + 1 + 1)) (nI_1 _) ?_
        refine Rx.put rfl (by decide) rfl rfl ?_
        have hS20 := hS19.at1 hq1
        exact Rx.ret rfl rfl (rQ_t (show sIt t q = (true, q + 2, [92, t.getD (q + 1) 0]) from (if_pos c1).trans ((if_neg hne).trans (if_pos hyes))) (by rw [show D ++ [92, t.getD (q + 1) 0] = D ++ [92] ++ [t.getD (q + 1) 0] by simp]; exact hS20))
      · replace c3 : (nI (q + 1)) = (nI t.length) := Classical.not_not.mp (of_decide_eq_false c3)
        have heq : q + 1 = t.length := (nI_eq (by omega) (by omega)).mp c3
        show Rx X c0 m_Mod_readItem 107 [.ref (c0 + 16), .int (hb t q), .int (hb t (q + 1)), .int 1] [] (upd σ 16 (nI (q + 1))) τ _
        refine Rx.go (fun _ => rfl) ?_
        refine Rx.go (fun _ => rfl) ?_
        refine Rx.go (fun _ => rfl) ?_
        refine Rx.get rfl rfl ?_
        refine Rx.top (y := nI t.length) hS17.f17 ?_
        refine Rx.callP rfl rfl rfl rfl (rs_fl (wn := t.length) hS17 (by decide) rfl) ?_
        intro σ21 τ21 hS21
        show Rx X c0 m_Mod_readItem 116 [.ref (c0 + 16), .int (hb t q), .int (hb t (q + 1)), .int 1] [] σ21 τ21 _
        refine Rx.go (fun _ => rfl) ?_
        refine Rx.go (fun _ => rfl) ?_
        refine Rx.go (fun _ => rfl) ?_
        refine Rx.callP rfl rfl rfl rfl (rg_put _ hS21 (by first | omega | (simp only [List.length_append, List.length_cons, List.length_nil]; omega))) ?_
        intro σ22 τ22 hS22
        show Rx X c0 m_Mod_readItem 140 [.ref (c0 + 16), .int (hb t q), .int (hb t (q + 1)), .int 1] [] σ22 τ22 _
        refine Rx.go (fun _ => rfl) ?_
        refine Rx.go (fun _ => rfl) ?_
        refine Rx.callP rfl rfl rfl rfl (rg_put _ hS22 (by first | omega | (simp only [List.length_append, List.length_cons, List.length_nil]; omega))) ?_
        intro σ23 τ23 hS23
        show Rx X c0 m_Mod_readItem 145 [.ref (c0 + 16), .int (hb t q), .int (hb t (q + 1)), .int 1] [] σ23 τ23 _
        refine Rx.go (fun _ => rfl) ?_
        refine Rx.go (fun _ => rfl) ?_
        refine Rx.get rfl rfl ?_
        refine Rx.go (fun _ => rfl) ?_
        refine Rx.go (fun _ => rfl) ?_
        refine Rx.put rfl (by decide) rfl rfl ?_
        have hS24 := hS23.at1
        exact Rx.ret rfl rfl (rQ_f (b := []) (show sIt t q = (false, q + 1, []) from (if_pos c1).trans (if_pos heq)) (by rw [heq]; exact hS24) (by first | omega | (simp only [List.length_append, List.length_cons, List.length_nil]; omega)) (by omega))
    · replace c2 : ¬ (hb t (q + 1)) = 34 := of_decide_eq_false c2
      show Rx X c0 m_Mod_readItem 66 [.ref (c0 + 16), .int (hb t q), .int (hb t (q + 1)), ev_dead] [] (upd σ 16 (nI (q + 1))) τ _
      refine Rx.go (fun _ => rfl) ?_
      refine Rx.go (fun _ => rfl) ?_
      refine Rx.go (fun _ => rfl) ?_
      refine Rx.ite (fun c4 => ?_) (fun c4 => ?_)
      · replace c4 : (hb t (q + 1)) = 92 := of_decide_eq_true c4
        show Rx X c0 m_Mod_readItem 90 [.ref (c0 + 16), .int (hb t q), .int (hb t (q + 1)), ev_dead] [] (upd σ 16 (nI (q + 1))) τ _
        refine Rx.go (fun _ => rfl) ?_
        refine Rx.go (fun _ => rfl) ?_
        refine Rx.go (fun _ => rfl) ?_
        show Rx X c0 m_Mod_readItem 96 [.ref (c0 + 16), .int (hb t q), .int (hb t (q + 1)), .int 1] [] (upd σ 16 (nI (q + 1))) τ _
        have hyes : 0 ≤ esc (hb t (q + 1)) := esc_yes (Or.inr (Or.inl c4))
        refine Rx.go (fun _ => rfl) ?_
        refine Rx.get rfl rfl ?_
        refine Rx.top (y := nI (q + 1)) hS17.f16 ?_
        refine Rx.go (fun _ => rfl) ?_
        refine Rx.get rfl rfl ?_
        refine Rx.top (y := nI t.length) hS17.f17 ?_
        refine Rx.go (fun _ => rfl) ?_
        refine Rx.ite (fun c5 => ?_) (fun c5 => ?_)
        · replace c5 : ¬ (nI (q + 1)) = (nI t.length) := of_decide_eq_true c5
          have hne : ¬ q + 1 = t.length := fun e => c5 (by rw [e])
          have h92 := hb_in (t := t) (q := q) (by rw [c1]; decide)
          have hq1 : q + 1 < t.length := by omega
          show Rx X c0 m_Mod_readItem 119 [.ref (c0 + 16), .int (hb t q), .int (hb t (q + 1)), .int 1] [] (upd σ 16 (nI (q + 1))) τ _
          refine Rx.go (fun _ => rfl) ?_
          refine Rx.go (fun _ => rfl) ?_
          show Rx X c0 m_Mod_readItem 134 [.ref (c0 + 16), .int (hb t q), .int (hb t (q + 1)), .int 1] [] (upd σ 16 (nI (q + 1))) τ _
          refine Rx.go (fun _ => rfl) ?_
          refine Rx.go (fun _ => rfl) ?_
          refine Rx.callP rfl rfl rfl rfl (rs_put 92 hS17 (by first | omega | (simp only [List.length_append, List.length_cons, List.length_nil]; omega))) ?_
          intro σ25 τ25 hS25
          show Rx X c0 m_Mod_readItem 140 [.ref (c0 + 16), .int (hb t q), .int (hb t (q + 1)), .int 1] [] σ25 τ25 _
          refine Rx.go (fun _ => rfl) ?_
          refine Rx.go (fun _ => rfl) ?_
          refine Rx.top (y := nI (t.getD (q + 1) 0)) (hb_lt hq1) ?_
          refine Rx.callP rfl rfl rfl rfl (rs_put (t.getD (q + 1) 0) hS25 (by first | omega | (simp only [List.length_append, List.length_cons, List.length_nil]; omega))) ?_
          intro σ26 τ26 hS26
          show Rx X c0 m_Mod_readItem 145 [.ref (c0 + 16), .int (hb t q), .int (hb t (q + 1)), .int 1] [] σ26 τ26 _
          refine Rx.go (fun _ => rfl) ?_
          refine Rx.go (fun _ => rfl) ?_
          refine Rx.get rfl rfl ?_
          refine Rx.top (y := nI (q + 1)) hS26.f16 ?_
          refine Rx.go (fun _ => rfl) ?_
          refine Rx.go (fun _ => rfl) ?_
          refine Rx.top (y := nI (q + 1 + 1)) (nI_1 _) ?_
          refine Rx.put rfl (by decide) rfl rfl ?_
          have hS27 := hS26.at1 hq1
          exact Rx.ret rfl rfl (rQ_t (show sIt t q = (true, q + 2, [92, t.getD (q + 1) 0]) from (if_pos c1).trans ((if_neg hne).trans (if_pos hyes))) (by rw [show D ++ [92, t.getD (q + 1) 0] = D ++ [92] ++ [t.getD (q + 1) 0] by simp]; exact hS27))
        · replace c5 : (nI (q + 1)) = (nI t.length) := Classical.not_not.mp (of_decide_eq_false c5)
          have heq : q + 1 = t.length := (nI_eq (by omega) (by omega)).mp c5
          show Rx X c0 m_Mod_readItem 107 [.ref (c0 + 16), .int (hb t q), .int (hb t (q + 1)), .int 1] [] (upd σ 16 (nI (q + 1))) τ _
          refine Rx.go (fun _ => rfl) ?_
          refine Rx.go (fun _ => rfl) ?_
          refine Rx.go (fun _ => rfl) ?_
          refine Rx.get rfl rfl ?_
          refine Rx.top (y := nI t.length) hS17.f17 ?_
          refine Rx.callP rfl rfl rfl rfl (rs_fl (wn := t.length) hS17 (by decide) rfl) ?_
          intro σ28 τ28 hS28
          show Rx X c0 m_Mod_readItem 116 [.ref (c0 + 16), .int (hb t q), .int (hb t (q + 1)), .int 1] [] σ28 τ28 _
          refine Rx.go (fun _ => rfl) ?_
          refine Rx.go (fun _ => rfl) ?_
          refine Rx.go (fun _ => rfl) ?_
          refine Rx.callP rfl rfl rfl rfl (rg_put _ hS28 (by first | omega | (simp only [List.length_append, List.length_cons, List.length_nil]; omega))) ?_
          intro σ29 τ29 hS29
          show Rx X c0 m_Mod_readItem 140 [.ref (c0 + 16), .int (hb t q), .int (hb t (q + 1)), .int 1] [] σ29 τ29 _
          refine Rx.go (fun _ => rfl) ?_
          refine Rx.go (fun _ => rfl) ?_
          refine Rx.callP rfl rfl rfl rfl (rg_put _ hS29 (by first | omega | (simp only [List.length_append, List.length_cons, List.length_nil]; omega))) ?_
          intro σ30 τ30 hS30
          show Rx X c0 m_Mod_readItem 145 [.ref (c0 + 16), .int (hb t q), .int (hb t (q + 1)), .int 1] [] σ30 τ30 _
          refine Rx.go (fun _ => rfl) ?_
          refine Rx.go (fun _ => rfl) ?_
          refine Rx.get rfl rfl ?_
          refine Rx.go (fun _ => rfl) ?_
          refine Rx.go (fun _ => rfl) ?_
          refine Rx.put rfl (by decide) rfl rfl ?_
          have hS31 := hS30.at1
          exact Rx.ret rfl rfl (rQ_f (b := []) (show sIt t q = (false, q + 1, []) from (if_pos c1).trans (if_pos heq)) (by rw [heq]; exact hS31) (by first | omega | (simp only [List.length_append, List.length_cons, List.length_nil]; omega)) (by omega))
      · replace c4 : ¬ (hb t (q + 1)) = 92 := of_decide_eq_false c4
        show Rx X c0 m_Mod_readItem 72 [.ref (c0 + 16), .int (hb t q), .int (hb t (q + 1)), ev_dead] [] (upd σ 16 (nI (q + 1))) τ _
        refine Rx.go (fun _ => rfl) ?_
        refine Rx.go (fun _ => rfl) ?_
        refine Rx.go (fun _ => rfl) ?_
        refine Rx.ite (fun c6 => ?_) (fun c6 => ?_)
        · replace c6 : (hb t (q + 1)) = 110 := of_decide_eq_true c6
          show Rx X c0 m_Mod_readItem 90 [.ref (c0 + 16), .int (hb t q), .int (hb t (q + 1)), ev_dead] [] (upd σ 16 (nI (q + 1))) τ _
          refine Rx.go (fun _ => rfl) ?_
          refine Rx.go (fun _ => rfl) ?_
          refine Rx.go (fun _ => rfl) ?_
          show Rx X c0 m_Mod_readItem 96 [.ref (c0 + 16), .int (hb t q), .int (hb t (q + 1)), .int 1] [] (upd σ 16 (nI (q + 1))) τ _
          have hyes : 0 ≤ esc (hb t (q + 1)) := esc_yes (Or.inr (Or.inr (Or.inl c6)))
          refine Rx.go (fun _ => rfl) ?_
          refine Rx.get rfl rfl ?_
          refine Rx.top (y := nI (q + 1)) hS17.f16 ?_
          refine Rx.go (fun _ => rfl) ?_
          refine Rx.get rfl rfl ?_
          refine Rx.top (y := nI t.length) hS17.f17 ?_
          refine Rx.go (fun _ => rfl) ?_
          refine Rx.ite (fun c7 => ?_) (fun c7 => ?_)
          · replace c7 : ¬ (nI (q + 1)) = (nI t.length) := of_decide_eq_true c7
            have hne : ¬ q + 1 = t.length := fun e => c7 (by rw [e])
            have h92 := hb_in (t := t) (q := q) (by rw [c1]; decide)
            have hq1 : q + 1 < t.length := by omega
            show Rx X c0 m_Mod_readItem 119 [.ref (c0 + 16), .int (hb t q), .int (hb t (q + 1)), .int 1] [] (upd σ 16 (nI (q + 1))) τ _
            refine Rx.go (fun _ => rfl) ?_
            refine Rx.go (fun _ => rfl) ?_
            show Rx X c0 m_Mod_readItem 134 [.ref (c0 + 16), .int (hb t q), .int (hb t (q + 1)), .int 1] [] (upd σ 16 (nI (q + 1))) τ _
            refine Rx.go (fun _ => rfl) ?_
            refine Rx.go (fun _ => rfl) ?_
            refine Rx.callP rfl rfl rfl rfl (rs_put 92 hS17 (by first | omega | (simp only [List.length_append, List.length_cons, List.length_nil]; omega))) ?_
            intro σ32 τ32 hS32
            show Rx X c0 m_Mod_readItem 140 [.ref (c0 + 16), .int (hb t q), .int (hb t (q + 1)), .int 1] [] σ32 τ32 _
            refine Rx.go (fun _ => rfl) ?_
            refine Rx.go (fun _ => rfl) ?_
            refine Rx.top (y := nI (t.getD (q + 1) 0)) (hb_lt hq1) ?_
            refine Rx.callP rfl rfl rfl rfl (rs_put (t.getD (q + 1) 0) hS32 (by first | omega | (simp only [List.length_append, List.length_cons, List.length_nil]; omega))) ?_
            intro σ33 τ33 hS33
            show Rx X c0 m_Mod_readItem 145 [.ref (c0 + 16), .int (hb t q), .int (hb t (q + 1)), .int 1] [] σ33 τ33 _
            refine Rx.go (fun _ => rfl) ?_
            refine Rx.go (fun _ => rfl) ?_
            refine Rx.get rfl rfl ?_
            refine Rx.top (y := nI (q + 1)) hS33.f16 ?_
            refine Rx.go (fun _ => rfl) ?_
            refine Rx.go (fun _ => rfl) ?_
            refine Rx.top (y := nI (q + 1 + 1)) (nI_1 _) ?_
            refine Rx.put rfl (by decide) rfl rfl ?_
            have hS34 := hS33.at1 hq1
            exact Rx.ret rfl rfl (rQ_t (show sIt t q = (true, q + 2, [92, t.getD (q + 1) 0]) from (if_pos c1).trans ((if_neg hne).trans (if_pos hyes))) (by rw [show D ++ [92, t.getD (q + 1) 0] = D ++ [92] ++ [t.getD (q + 1) 0] by simp]; exact hS34))
          · replace c7 : (nI (q + 1)) = (nI t.length) := Classical.not_not.mp (of_decide_eq_false c7)
            have heq : q + 1 = t.length := (nI_eq (by omega) (by omega)).mp c7
            show Rx X c0 m_Mod_readItem 107 [.ref (c0 + 16), .int (hb t q), .int (hb t (q + 1)), .int 1] [] (upd σ 16 (nI (q + 1))) τ _
            refine Rx.go (fun _ => rfl) ?_
            refine Rx.go (fun _ => rfl) ?_
            refine Rx.go (fun _ => rfl) ?_
            refine Rx.get rfl rfl ?_
            refine Rx.top (y := nI t.length) hS17.f17 ?_
            refine Rx.callP rfl rfl rfl rfl (rs_fl (wn := t.length) hS17 (by decide) rfl) ?_
            intro σ35 τ35 hS35
            show Rx X c0 m_Mod_readItem 116 [.ref (c0 + 16), .int (hb t q), .int (hb t (q + 1)), .int 1] [] σ35 τ35 _
            refine Rx.go (fun _ => rfl) ?_
            refine Rx.go (fun _ => rfl) ?_
            refine Rx.go (fun _ => rfl) ?_
            refine Rx.callP rfl rfl rfl rfl (rg_put _ hS35 (by first | omega | (simp only [List.length_append, List.length_cons, List.length_nil]; omega))) ?_
            intro σ36 τ36 hS36
            show Rx X c0 m_Mod_readItem 140 [.ref (c0 + 16), .int (hb t q), .int (hb t (q + 1)), .int 1] [] σ36 τ36 _
            refine Rx.go (fun _ => rfl) ?_
            refine Rx.go (fun _ => rfl) ?_
            refine Rx.callP rfl rfl rfl rfl (rg_put _ hS36 (by first | omega | (simp only [List.length_append, List.length_cons, List.length_nil]; omega))) ?_
            intro σ37 τ37 hS37
            show Rx X c0 m_Mod_readItem 145 [.ref (c0 + 16), .int (hb t q), .int (hb t (q + 1)), .int 1] [] σ37 τ37 _
            refine Rx.go (fun _ => rfl) ?_
            refine Rx.go (fun _ => rfl) ?_
            refine Rx.get rfl rfl ?_
            refine Rx.go (fun _ => rfl) ?_
            refine Rx.go (fun _ => rfl) ?_
            refine Rx.put rfl (by decide) rfl rfl ?_
            have hS38 := hS37.at1
            exact Rx.ret rfl rfl (rQ_f (b := []) (show sIt t q = (false, q + 1, []) from (if_pos c1).trans (if_pos heq)) (by rw [heq]; exact hS38) (by first | omega | (simp only [List.length_append, List.length_cons, List.length_nil]; omega)) (by omega))
        · replace c6 : ¬ (hb t (q + 1)) = 110 := of_decide_eq_false c6
          show Rx X c0 m_Mod_readItem 78 [.ref (c0 + 16), .int (hb t q), .int (hb t (q + 1)), ev_dead] [] (upd σ 16 (nI (q + 1))) τ _
          refine Rx.go (fun _ => rfl) ?_
          refine Rx.go (fun _ => rfl) ?_
          refine Rx.go (fun _ => rfl) ?_
          refine Rx.ite (fun c8 => ?_) (fun c8 => ?_)
          · replace c8 : (hb t (q + 1)) = 114 := of_decide_eq_true c8
            show Rx X c0 m_Mod_readItem 90 [.ref (c0 + 16), .int (hb t q), .int (hb t (q + 1)), ev_dead] [] (upd σ 16 (nI (q + 1))) τ _
            refine Rx.go (fun _ => rfl) ?_
            refine Rx.go (fun _ => rfl) ?_
            refine Rx.go (fun _ => rfl) ?_
            show Rx X c0 m_Mod_readItem 96 [.ref (c0 + 16), .int (hb t q), .int (hb t (q + 1)), .int 1] [] (upd σ 16 (nI (q + 1))) τ _
            have hyes : 0 ≤ esc (hb t (q + 1)) := esc_yes (Or.inr (Or.inr (Or.inr (Or.inl c8))))
            refine Rx.go (fun _ => rfl) ?_
            refine Rx.get rfl rfl ?_
            refine Rx.top (y := nI (q + 1)) hS17.f16 ?_
            refine Rx.go (fun _ => rfl) ?_
            refine Rx.get rfl rfl ?_
            refine Rx.top (y := nI t.length) hS17.f17 ?_
            refine Rx.go (fun _ => rfl) ?_
            refine Rx.ite (fun c9 => ?_) (fun c9 => ?_)
            · replace c9 : ¬ (nI (q + 1)) = (nI t.length) := of_decide_eq_true c9
              have hne : ¬ q + 1 = t.length := fun e => c9 (by rw [e])
              have h92 := hb_in (t := t) (q := q) (by rw [c1]; decide)
              have hq1 : q + 1 < t.length := by omega
              show Rx X c0 m_Mod_readItem 119 [.ref (c0 + 16), .int (hb t q), .int (hb t (q + 1)), .int 1] [] (upd σ 16 (nI (q + 1))) τ _
              refine Rx.go (fun _ => rfl) ?_
              refine Rx.go (fun _ => rfl) ?_
              show Rx X c0 m_Mod_readItem 134 [.ref (c0 + 16), .int (hb t q), .int (hb t (q + 1)), .int 1] [] (upd σ 16 (nI (q + 1))) τ _
              refine Rx.go (fun _ => rfl) ?_
              refine Rx.go (fun _ => rfl) ?_
              refine Rx.callP rfl rfl rfl rfl (rs_put 92 hS17 (by first | omega | (simp only [List.length_append, List.length_cons, List.length_nil]; omega))) ?_
              intro σ39 τ39 hS39
              show Rx X c0 m_Mod_readItem 140 [.ref (c0 + 16), .int (hb t q), .int (hb t (q + 1)), .int 1] [] σ39 τ39 _
              refine Rx.go (fun _ => rfl) ?_
              refine Rx.go (fun _ => rfl) ?_
              refine Rx.top (y := nI (t.getD (q + 1) 0)) (hb_lt hq1) ?_
              refine Rx.callP rfl rfl rfl rfl (rs_put (t.getD (q + 1) 0) hS39 (by first | omega | (simp only [List.length_append, List.length_cons, List.length_nil]; omega))) ?_
              intro σ40 τ40 hS40
              show Rx X c0 m_Mod_readItem 145 [.ref (c0 + 16), .int (hb t q), .int (hb t (q + 1)), .int 1] [] σ40 τ40 _
              refine Rx.go (fun _ => rfl) ?_
              refine Rx.go (fun _ => rfl) ?_
              refine Rx.get rfl rfl ?_
              refine Rx.top (y := nI (q + 1)) hS40.f16 ?_
              refine Rx.go (fun _ => rfl) ?_
              refine Rx.go (fun _ => rfl) ?_
              refine Rx.top (y := nI (q + 1 + 1)) (nI_1 _) ?_
              refine Rx.put rfl (by decide) rfl rfl ?_
              have hS41 := hS40.at1 hq1
              exact Rx.ret rfl rfl (rQ_t (show sIt t q = (true, q + 2, [92, t.getD (q + 1) 0]) from (if_pos c1).trans ((if_neg hne).trans (if_pos hyes))) (by rw [show D ++ [92, t.getD (q + 1) 0] = D ++ [92] ++ [t.getD (q + 1) 0] by simp]; exact hS41))
            · replace c9 : (nI (q + 1)) = (nI t.length) := Classical.not_not.mp (of_decide_eq_false c9)
              have heq : q + 1 = t.length := (nI_eq (by omega) (by omega)).mp c9
              show Rx X c0 m_Mod_readItem 107 [.ref (c0 + 16), .int (hb t q), .int (hb t (q + 1)), .int 1] [] (upd σ 16 (nI (q + 1))) τ _
              refine Rx.go (fun _ => rfl) ?_
              refine Rx.go (fun _ => rfl) ?_
              refine Rx.go (fun _ => rfl) ?_
              refine Rx.get rfl rfl ?_
              refine Rx.top (y := nI t.length) hS17.f17 ?_
              refine Rx.callP rfl rfl rfl rfl (rs_fl (wn := t.length) hS17 (by decide) rfl) ?_
              intro σ42 τ42 hS42
              show Rx X c0 m_Mod_readItem 116 [.ref (c0 + 16), .int (hb t q), .int (hb t (q + 1)), .int 1] [] σ42 τ42 _
              refine Rx.go (fun _ => rfl) ?_
              refine Rx.go (fun _ => rfl) ?_
              refine Rx.go (fun _ => rfl) ?_
              refine Rx.callP rfl rfl rfl rfl (rg_put _ hS42 (by first | omega | (simp only [List.length_append, List.length_cons, List.length_nil]; omega))) ?_
              intro σ43 τ43 hS43
              show Rx X c0 m_Mod_readItem 140 [.ref (c0 + 16), .int (hb t q), .int (hb t (q + 1)), .int 1] [] σ43 τ43 _
              refine Rx.go (fun _ => rfl) ?_
              refine Rx.go (fun _ => rfl) ?_
              refine Rx.callP rfl rfl rfl rfl (rg_put _ hS43 (by first | omega | (simp only [List.length_append, List.length_cons, List.length_nil]; omega))) ?_
              intro σ44 τ44 hS44
              show Rx X c0 m_Mod_readItem 145 [.ref (c0 + 16), .int (hb t q), .int (hb t (q + 1)), .int 1] [] σ44 τ44 _
              refine Rx.go (fun _ => rfl) ?_
              refine Rx.go (fun _ => rfl) ?_
              refine Rx.get rfl rfl ?_
              refine Rx.go (fun _ => rfl) ?_
              refine Rx.go (fun _ => rfl) ?_
              refine Rx.put rfl (by decide) rfl rfl ?_
              have hS45 := hS44.at1
              exact Rx.ret rfl rfl (rQ_f (b := []) (show sIt t q = (false, q + 1, []) from (if_pos c1).trans (if_pos heq)) (by rw [heq]; exact hS45) (by first | omega | (simp only [List.length_append, List.length_cons, List.length_nil]; omega)) (by omega))
          · replace c8 : ¬ (hb t (q + 1)) = 114 := of_decide_eq_false c8
            show Rx X c0 m_Mod_readItem 84 [.ref (c0 + 16), .int (hb t q), .int (hb t (q + 1)), ev_dead] [] (upd σ 16 (nI (q + 1))) τ _
            refine Rx.go (fun _ => rfl) ?_
            refine Rx.go (fun _ => rfl) ?_
            refine Rx.go (fun _ => rfl) ?_
            refine Rx.ite (fun c10 => ?_) (fun c10 => ?_)
            · replace c10 : ¬ (hb t (q + 1)) = 116 := of_decide_eq_true c10
              show Rx X c0 m_Mod_readItem 94 [.ref (c0 + 16), .int (hb t q), .int (hb t (q + 1)), ev_dead] [] (upd σ 16 (nI (q + 1))) τ _
              refine Rx.go (fun _ => rfl) ?_
              refine Rx.go (fun _ => rfl) ?_
              show Rx X c0 m_Mod_readItem 96 [.ref (c0 + 16), .int (hb t q), .int (hb t (q + 1)), .int 0] [] (upd σ 16 (nI (q + 1))) τ _
              have hno : ¬ 0 ≤ esc (hb t (q + 1)) := esc_no c2 c4 c6 c8 c10
              refine Rx.go (fun _ => rfl) ?_
              refine Rx.get rfl rfl ?_
              refine Rx.top (y := nI (q + 1)) hS17.f16 ?_
              refine Rx.go (fun _ => rfl) ?_
              refine Rx.get rfl rfl ?_
              refine Rx.top (y := nI t.length) hS17.f17 ?_
              refine Rx.go (fun _ => rfl) ?_
              refine Rx.ite (fun c11 => ?_) (fun c11 => ?_)
              · replace c11 : ¬ (nI (q + 1)) = (nI t.length) := of_decide_eq_true c11
                have hne : ¬ q + 1 = t.length := fun e => c11 (by rw [e])
                have h92 := hb_in (t := t) (q := q) (by rw [c1]; decide)
                have hq1 : q + 1 < t.length := by omega
                show Rx X c0 m_Mod_readItem 119 [.ref (c0 + 16), .int (hb t q), .int (hb t (q + 1)), .int 0] [] (upd σ 16 (nI (q + 1))) τ _
                refine Rx.go (fun _ => rfl) ?_
                refine Rx.go (fun _ => rfl) ?_
                show Rx X c0 m_Mod_readItem 123 [.ref (c0 + 16), .int (hb t q), .int (hb t (q + 1)), .int 0] [] (upd σ 16 (nI (q + 1))) τ _
                refine Rx.go (fun _ => rfl) ?_
                refine Rx.go (fun _ => rfl) ?_
                refine Rx.go (fun _ => rfl) ?_
                refine Rx.get rfl rfl ?_
                refine Rx.top (y := nI (q + 1)) hS17.f16 ?_
                refine Rx.go (fun _ => rfl) ?_
                refine Rx.go (fun _ => rfl) ?_
                refine Rx.top (y := nI q) (nI_pred q) ?_
                refine Rx.callP rfl rfl rfl rfl (rs_fl (wn := q) hS17 (by decide) rfl) ?_
                intro σ46 τ46 hS46
                show Rx X c0 m_Mod_readItem 134 [.ref (c0 + 16), .int (hb t q), .int (hb t (q + 1)), .int 0] [] σ46 τ46 _
                refine Rx.go (fun _ => rfl) ?_
                refine Rx.go (fun _ => rfl) ?_
                refine Rx.callP rfl rfl rfl rfl (rg_put _ hS46 (by first | omega | (simp only [List.length_append, List.length_cons, List.length_nil]; omega))) ?_
                intro σ47 τ47 hS47
                show Rx X c0 m_Mod_readItem 140 [.ref (c0 + 16), .int (hb t q), .int (hb t (q + 1)), .int 0] [] σ47 τ47 _
                refine Rx.go (fun _ => rfl) ?_
                refine Rx.go (fun _ => rfl) ?_
                refine Rx.callP rfl rfl rfl rfl (rg_put _ hS47 (by first | omega | (simp only [List.length_append, List.length_cons, List.length_nil]; omega))) ?_
                intro σ48 τ48 hS48
                show Rx X c0 m_Mod_readItem 145 [.ref (c0 + 16), .int (hb t q), .int (hb t (q + 1)), .int 0] [] σ48 τ48 _
                refine Rx.go (fun _ => rfl) ?_
                refine Rx.go (fun _ => rfl) ?_
                refine Rx.get rfl rfl ?_
                refine Rx.go (fun _ => rfl) ?_
                refine Rx.go (fun _ => rfl) ?_
                refine Rx.put rfl (by decide) rfl rfl ?_
                have hS49 := hS48.at1
                exact Rx.ret rfl rfl (rQ_f (b := []) (show sIt t q = (false, q, []) from (if_pos c1).trans ((if_neg hne).trans (if_neg hno))) hS49 (by first | omega | (simp only [List.length_append, List.length_cons, List.length_nil]; omega)) (by omega))
              · replace c11 : (nI (q + 1)) = (nI t.length) := Classical.not_not.mp (of_decide_eq_false c11)
                have heq : q + 1 = t.length := (nI_eq (by omega) (by omega)).mp c11
                show Rx X c0 m_Mod_readItem 107 [.ref (c0 + 16), .int (hb t q), .int (hb t (q + 1)), .int 0] [] (upd σ 16 (nI (q + 1))) τ _
                refine Rx.go (fun _ => rfl) ?_
                refine Rx.go (fun _ => rfl) ?_
                refine Rx.go (fun _ => rfl) ?_
                refine Rx.get rfl rfl ?_
                refine Rx.top (y := nI t.length) hS17.f17 ?_
                refine Rx.callP rfl rfl rfl rfl (rs_fl (wn := t.length) hS17 (by decide) rfl) ?_
                intro σ50 τ50 hS50
                show Rx X c0 m_Mod_readItem 116 [.ref (c0 + 16), .int (hb t q), .int (hb t (q + 1)), .int 0] [] σ50 τ50 _
                refine Rx.go (fun _ => rfl) ?_
                refine Rx.go (fun _ => rfl) ?_
                refine Rx.go (fun _ => rfl) ?_
                refine Rx.callP rfl rfl rfl rfl (rg_put _ hS50 (by first | omega | (simp only [List.length_append, List.length_cons, List.length_nil]; omega))) ?_
                intro σ51 τ51 hS51
                show Rx X c0 m_Mod_readItem 140 [.ref (c0 + 16), .int (hb t q), .int (hb t (q + 1)), .int 0] [] σ51 τ51 _
                refine Rx.go (fun _ => rfl) ?_
                refine Rx.go (fun _ => rfl) ?_
                refine Rx.callP rfl rfl rfl rfl (rg_put _ hS51 (by first | omega | (simp only [List.length_append, List.length_cons, List.length_nil]; omega))) ?_
                intro σ52 τ52 hS52
                show Rx X c0 m_Mod_readItem 145 [.ref (c0 + 16), .int (hb t q), .int (hb t (q + 1)), .int 0] [] σ52 τ52 _
                refine Rx.go (fun _ => rfl) ?_
                refine Rx.go (fun _ => rfl) ?_
                refine Rx.get rfl rfl ?_
                refine Rx.go (fun _ => rfl) ?_
                refine Rx.go (fun _ => rfl) ?_
                refine Rx.put rfl (by decide) rfl rfl ?_
                have hS53 := hS52.at1
                exact Rx.ret rfl rfl (rQ_f (b := []) (show sIt t q = (false, q + 1, []) from (if_pos c1).trans (if_pos heq)) (by rw [heq]; exact hS53) (by first | omega | (simp only [List.length_append, List.length_cons, List.length_nil]; omega)) (by omega))
            · replace c10 : (hb t (q + 1)) = 116 := Classical.not_not.mp (of_decide_eq_false c10)
              show Rx X c0 m_Mod_readItem 90 [.ref (c0 + 16), .int (hb t q), .int (hb t (q + 1)), ev_dead] [] (upd σ 16 (nI (q + 1))) τ _
              refine Rx.go (fun _ => rfl) ?_
              refine Rx.go (fun _ => rfl) ?_
              refine Rx.go (fun _ => rfl) ?_
              show Rx X c0 m_Mod_readItem 96 [.ref (c0 + 16), .int (hb t q), .int (hb t (q + 1)), .int 1] [] (upd σ 16 (nI (q + 1))) τ _
              have hyes : 0 ≤ esc (hb t (q + 1)) := esc_yes (Or.inr (Or.inr (Or.inr (Or.inr c10))))
              refine Rx.go (fun _ => rfl) ?_
              refine Rx.get rfl rfl ?_
              refine Rx.top (y := nI (q + 1)) hS17.f16 ?_
              refine Rx.go (fun _ => rfl) ?_
              refine Rx.get rfl rfl ?_
              refine Rx.top (y := nI t.length) hS17.f17 ?_
              refine Rx.go (fun _ => rfl) ?_
              refine Rx.ite (fun c12 => ?_) (fun c12 => ?_)
              · replace c12 : ¬ (nI (q + 1)) = (nI t.length) := of_decide_eq_true c12
                have hne : ¬ q + 1 = t.length := fun e => c12 (by rw [e])
                have h92 := hb_in (t := t) (q := q) (by rw [c1]; decide)
                have hq1 : q + 1 < t.length := by omega
                show Rx X c0 m_Mod_readItem 119 [.ref (c0 + 16), .int (hb t q), .int (hb t (q + 1)), .int 1] [] (upd σ 16 (nI (q + 1))) τ _
                refine Rx.go (fun _ => rfl) ?_
                refine Rx.go (fun _ => rfl) ?_
                show Rx X c0 m_Mod_readItem 134 [.ref (c0 + 16), .int (hb t q), .int (hb t (q + 1)), .int 1] [] (upd σ 16 (nI (q + 1))) τ _
                refine Rx.go (fun _ => rfl) ?_
                refine Rx.go (fun _ => rfl) ?_
                refine Rx.callP rfl rfl rfl rfl (rs_put 92 hS17 (by first | omega | (simp only [List.length_append, List.length_cons, List.length_nil]; omega))) ?_
                intro σ54 τ54 hS54
                show Rx X c0 m_Mod_readItem 140 [.ref (c0 + 16), .int (hb t q), .int (hb t (q + 1)), .int 1] [] σ54 τ54 _
                refine Rx.go (fun _ => rfl) ?_
                refine Rx.go (fun _ => rfl) ?_
                refine Rx.top (y := nI (t.getD (q + 1) 0)) (hb_lt hq1) ?_
                refine Rx.callP rfl rfl rfl rfl (rs_put (t.getD (q + 1) 0) hS54 (by first | omega | (simp only [List.length_append, List.length_cons, List.length_nil]; omega))) ?_
                intro σ55 τ55 hS55
                show Rx X c0 m_Mod_readItem 145 [.ref (c0 + 16), .int (hb t q), .int (hb t (q + 1)), .int 1] [] σ55 τ55 _
                refine Rx.go (fun _ => rfl) ?_
                refine Rx.go (fun _ => rfl) ?_
                refine Rx.get rfl rfl ?_
                refine Rx.top (y := nI (q + 1)) hS55.f16 ?_
                refine Rx.go (fun _ => rfl) ?_
                refine Rx.go (fun _ => rfl) ?_
                refine Rx.top (y := nI (q + 1 + 1)) (nI_1 _) ?_
                refine Rx.put rfl (by decide) rfl rfl ?_
                have hS56 := hS55.at1 hq1
                exact Rx.ret rfl rfl (rQ_t (show sIt t q = (true, q + 2, [92, t.getD (q + 1) 0]) from (if_pos c1).trans ((if_neg hne).trans (if_pos hyes))) (by rw [show D ++ [92, t.getD (q + 1) 0] = D ++ [92] ++ [t.getD (q + 1) 0] by simp]; exact hS56))
              · replace c12 : (nI (q + 1)) = (nI t.length) := Classical.not_not.mp (of_decide_eq_false c12)
                have heq : q + 1 = t.length := (nI_eq (by omega) (by omega)).mp c12
                show Rx X c0 m_Mod_readItem 107 [.ref (c0 + 16), .int (hb t q), .int (hb t (q + 1)), .int 1] [] (upd σ 16 (nI (q + 1))) τ _
                refine Rx.go (fun _ => rfl) ?_
                refine Rx.go (fun _ => rfl) ?_
                refine Rx.go (fun _ => rfl) ?_
                refine Rx.get rfl rfl ?_
                refine Rx.top (y := nI t.length) hS17.f17 ?_
                refine Rx.callP rfl rfl rfl rfl (rs_fl (wn := t.length) hS17 (by decide) rfl) ?_
                intro σ57 τ57 hS57
                show Rx X c0 m_Mod_readItem 116 [.ref (c0 + 16), .int (hb t q), .int (hb t (q + 1)), .int 1] [] σ57 τ57 _
                refine Rx.go (fun _ => rfl) ?_
                refine Rx.go (fun _ => rfl) ?_
                refine Rx.go (fun _ => rfl) ?_
                refine Rx.callP rfl rfl rfl rfl (rg_put _ hS57 (by first | omega | (simp only [List.length_append, List.length_cons, List.length_nil]; omega))) ?_
                intro σ58 τ58 hS58
                show Rx X c0 m_Mod_readItem 140 [.ref (c0 + 16), .int (hb t q), .int (hb t (q + 1)), .int 1] [] σ58 τ58 _
                refine Rx.go (fun _ => rfl) ?_
                refine Rx.go (fun _ => rfl) ?_
                refine Rx.callP rfl rfl rfl rfl (rg_put _ hS58 (by first | omega | (simp only [List.length_append, List.length_cons, List.length_nil]; omega))) ?_
                intro σ59 τ59 hS59
                show Rx X c0 m_Mod_readItem 145 [.ref (c0 + 16), .int (hb t q), .int (hb t (q + 1)), .int 1] [] σ59 τ59 _
                refine Rx.go (fun _ => rfl) ?_
                refine Rx.go (fun _ => rfl) ?_
                refine Rx.get rfl rfl ?_
                refine Rx.go (fun _ => rfl) ?_
                refine Rx.go (fun _ => rfl) ?_
                refine Rx.put rfl (by decide) rfl rfl ?_
                have hS60 := hS59.at1
                exact Rx.ret rfl rfl (rQ_f (b := []) (show sIt t q = (false, q + 1, []) from (if_pos c1).trans (if_pos heq)) (by rw [heq]; exact hS60) (by first | omega | (simp only [List.length_append, List.length_cons, List.length_nil]; omega)) (by omega))
  · replace c1 : ¬ (hb t q) = 92 := of_decide_eq_false c1
    show Rx X c0 m_Mod_readItem 11 [.ref (c0 + 16), .int (hb t q), ev_dead, ev_dead] [] σ τ _
    refine Rx.go (fun _ => rfl) ?_
    refine Rx.go (fun _ => rfl) ?_
    refine Rx.go (fun _ => rfl) ?_
    refine Rx.go (fun _ => rfl) ?_
    refine Rx.ite (fun c13 => ?_) (fun c13 => ?_)
    · replace c13 : (hb t q) ≤ 31 := of_decide_eq_true c13
      show Rx X c0 m_Mod_readItem 28 [.ref (c0 + 16), .int (hb t q), ev_dead, ev_dead] [.ref (c0 + 16)] σ τ _
      refine Rx.go (fun _ => rfl) ?_
      refine Rx.callP rfl rfl rfl rfl (rs_ov_f false hS (fun h => Bool.false_ne_true h.2)) ?_
      intro σ61 τ61 hS61
      show Rx X c0 m_Mod_readItem 32 [.ref (c0 + 16), .int (hb t q), ev_dead, ev_dead] [] σ61 τ61 _
      refine Rx.go (fun _ => rfl) ?_
      refine Rx.callE rfl rfl rfl rfl (rg_good hS61) ?_
      show Rx X c0 m_Mod_readItem 36 [.ref (c0 + 16), .int (hb t q), ev_dead, ev_dead] [.int 0] σ61 τ61 _
      refine Rx.go (fun _ => rfl) ?_
      show Rx X c0 m_Mod_readItem 44 [.ref (c0 + 16), .int (hb t q), ev_dead, ev_dead] [] σ61 τ61 _
      exact Rx.ret rfl rfl (rQ_f (b := []) (show sIt t q = (false, q, []) from (if_neg c1).trans (if_pos (i32_31.mp c13))) hS61 (by first | omega | (simp only [List.length_append, List.length_cons, List.length_nil]; omega)) (by omega))
    · replace c13 : ¬ (hb t q) ≤ 31 := of_decide_eq_false c13
      show Rx X c0 m_Mod_readItem 18 [.ref (c0 + 16), .int (hb t q), ev_dead, ev_dead] [.ref (c0 + 16)] σ τ _
      refine Rx.go (fun _ => rfl) ?_
      refine Rx.go (fun _ => rfl) ?_
      refine Rx.go (fun _ => rfl) ?_
      refine Rx.ite (fun c14 => ?_) (fun c14 => ?_)
      · replace c14 : 127 ≤ (hb t q) := of_decide_eq_true c14
        show Rx X c0 m_Mod_readItem 28 [.ref (c0 + 16), .int (hb t q), ev_dead, ev_dead] [.ref (c0 + 16)] σ τ _
        refine Rx.go (fun _ => rfl) ?_
        refine Rx.callP rfl rfl rfl rfl (rs_ov_f false hS (fun h => Bool.false_ne_true h.2)) ?_
        intro σ62 τ62 hS62
        show Rx X c0 m_Mod_readItem 32 [.ref (c0 + 16), .int (hb t q), ev_dead, ev_dead] [] σ62 τ62 _
        refine Rx.go (fun _ => rfl) ?_
        refine Rx.callE rfl rfl rfl rfl (rg_good hS62) ?_
        show Rx X c0 m_Mod_readItem 36 [.ref (c0 + 16), .int (hb t q), ev_dead, ev_dead] [.int 0] σ62 τ62 _
        refine Rx.go (fun _ => rfl) ?_
        show Rx X c0 m_Mod_readItem 44 [.ref (c0 + 16), .int (hb t q), ev_dead, ev_dead] [] σ62 τ62 _
        exact Rx.ret rfl rfl (rQ_f (b := []) (show sIt t q = (false, q, []) from (if_neg c1).trans ((if_neg (fun h => c13 (i32_31.mpr h))).trans (if_pos (i32_12.mp c14)))) hS62 (by first | omega | (simp only [List.length_append, List.length_cons, List.length_nil]; omega)) (by omega))
      · replace c14 : ¬ 127 ≤ (hb t q) := of_decide_eq_false c14
        show Rx X c0 m_Mod_readItem 24 [.ref (c0 + 16), .int (hb t q), ev_dead, ev_dead] [.ref (c0 + 16)] σ τ _
        refine Rx.go (fun _ => rfl) ?_
        refine Rx.go (fun _ => rfl) ?_
        refine Rx.callP rfl rfl rfl rfl (rs_ov_t hS (hb_in (fun e => c13 (by rw [e]; decide)))) ?_
        intro σ63 τ63 hS63
        show Rx X c0 m_Mod_readItem 32 [.ref (c0 + 16), .int (hb t q), ev_dead, ev_dead] [] σ63 τ63 _
        refine Rx.go (fun _ => rfl) ?_
        refine Rx.callE rfl rfl rfl rfl (rz_good hS63.z) ?_
        show Rx X c0 m_Mod_readItem 36 [.ref (c0 + 16), .int (hb t q), ev_dead, ev_dead] [.int 1] σ63 τ63 _
        refine Rx.go (fun _ => rfl) ?_
        show Rx X c0 m_Mod_readItem 39 [.ref (c0 + 16), .int (hb t q), ev_dead, ev_dead] [] σ63 τ63 _
        refine Rx.go (fun _ => rfl) ?_
        refine Rx.go (fun _ => rfl) ?_
        refine Rx.top (y := nI (t.getD q 0)) (hb_lt (hb_in (fun e => c13 (by rw [e]; decide)))) ?_
        refine Rx.callP rfl rfl rfl rfl (rs_put (t.getD q 0) hS63 (by first | omega | (simp only [List.length_append, List.length_cons, List.length_nil]; omega))) ?_
        intro σ64 τ64 hS64
        show Rx X c0 m_Mod_readItem 44 [.ref (c0 + 16), .int (hb t q), ev_dead, ev_dead] [] σ64 τ64 _
        exact Rx.ret rfl rfl (rQ_t (show sIt t q = (true, q + 1, [t.getD q 0]) from (if_neg c1).trans ((if_neg (fun h => c13 (i32_31.mpr h))).trans (if_neg (fun h => c14 (i32_12.mpr h))))) hS64)
end
section
/-! The reference reads a text's items. (rows laid by wip/whole/rr4.py) -/
set_option maxRecDepth 100000 in
theorem esW_e : ∀ c : Nat, c < 256 → 0 ≤ esc (nI c) → esW (eN c) = [92, c] := by decide +kernel
set_option maxRecDepth 100000 in
theorem esW_p : ∀ c : Nat, c < 256 → ¬ nI c = 34 → ¬ nI c = 92 → ¬ nI c < 32 → esW c = [c] := by decide +kernel
theorem sI_f {t : List Nat} {m q : Nat} {acc : List Nat} (hm : t.length ≤ q + m) (hq : q ≤ t.length) (h34 : ¬ hb t q = 34) (h64 : q < t.length → ¬ acc.length = 64) (h : (sIt t q).1 = false) : sI t m q acc = (false, (sIt t q).2.1, acc) := by
  by_cases hlt : q < t.length
  · obtain ⟨m1, rfl⟩ : ∃ m1, m = m1 + 1 := ⟨m - 1, by omega⟩
    rw [sI, if_neg (by omega), if_neg h34, if_neg (h64 hlt)]
    unfold sIt at h ⊢
    by_cases c1 : hb t q = 92
    · rw [if_pos c1] at h
      simp only [if_pos c1]
      by_cases c2 : q + 1 = t.length
      · simp only [if_pos c2]
      · rw [if_neg c2] at h
        simp only [if_neg c2]
        by_cases c3 : 0 ≤ esc (hb t (q + 1))
        · rw [if_pos c3] at h; cases h
        · simp only [if_neg c3]
    · rw [if_neg c1] at h
      simp only [if_neg c1]
      by_cases c2 : hb t q < 32
      · simp only [if_pos c2]
      · rw [if_neg c2] at h
        simp only [if_neg c2]
        by_cases c3 : 126 < hb t q
        · simp only [if_pos c3]
        · rw [if_neg c3] at h; cases h
  · have hb1 : hb t q = -1 := hb_ge hlt
    have e : sIt t q = (false, q, []) := by
      unfold sIt
      rw [hb1]
      rfl
    rw [e]
    have hq2 : q = t.length := by omega
    cases m with
    | zero => rw [sI, hq2]
    | succ m => rw [sI, if_pos (by omega), hq2]
theorem sI_t {t : List Nat} {m q : Nat} {acc : List Nat} (hby : ∀ i, t.getD i 0 < 256) (hm : t.length ≤ q + m) (h34 : ¬ hb t q = 34) (h64 : ¬ acc.length = 64) (h : (sIt t q).1 = true) : ∃ i m1, m = m1 + 1 ∧ (sIt t q).2.2 = esW i ∧ sI t m q acc = sI t m1 (sIt t q).2.1 (acc ++ [i]) ∧ (sIt t q).2.1 ≤ t.length ∧ q < (sIt t q).2.1 := by
  have hlt : q < t.length := by
    by_cases hlt : q < t.length
    · exact hlt
    · have hb1 : hb t q = -1 := hb_ge hlt
      have e : sIt t q = (false, q, []) := by
        unfold sIt
        rw [hb1]
        rfl
      rw [e] at h; cases h
  obtain ⟨m1, rfl⟩ : ∃ m1, m = m1 + 1 := ⟨m - 1, by omega⟩
  rw [sI, if_neg (by omega), if_neg h34, if_neg h64]
  unfold sIt at h ⊢
  by_cases c1 : hb t q = 92
  · rw [if_pos c1] at h
    simp only [if_pos c1]
    by_cases c2 : q + 1 = t.length
    · rw [if_pos c2] at h; cases h
    · rw [if_neg c2] at h
      simp only [if_neg c2]
      by_cases c3 : 0 ≤ esc (hb t (q + 1))
      · simp only [if_pos c3]
        refine ⟨eN (t.getD (q + 1) 0), m1, rfl, ?_, rfl, by omega, by omega⟩
        rw [hb_lt (show q + 1 < t.length by omega)] at c3
        exact (esW_e _ (hby _) c3).symm
      · rw [if_neg c3] at h; cases h
  · rw [if_neg c1] at h
    simp only [if_neg c1]
    by_cases c2 : hb t q < 32
    · rw [if_pos c2] at h; cases h
    · rw [if_neg c2] at h
      simp only [if_neg c2]
      by_cases c3 : 126 < hb t q
      · rw [if_pos c3] at h; cases h
      · simp only [if_neg c3]
        refine ⟨t.getD q 0, m1, rfl, ?_, rfl, by omega, by omega⟩
        rw [hb_lt hlt] at h34 c1 c2
        exact (esW_p _ (hby _) h34 c1 c2).symm
theorem sI_64 {t : List Nat} {m q : Nat} {acc : List Nat} (hm : t.length ≤ q + m) (hlt : q < t.length) (h34 : ¬ hb t q = 34) (h64 : acc.length = 64) : sI t m q acc = (false, q, acc) := by
  obtain ⟨m1, rfl⟩ : ∃ m1, m = m1 + 1 := ⟨m - 1, by omega⟩
  rw [sI, if_neg (by omega), if_neg h34, if_pos h64]
theorem sI_34 {t : List Nat} {m q : Nat} {acc : List Nat} (hm : t.length ≤ q + m) (h34 : hb t q = 34) : sI t m q acc = (true, q + 1, acc) := by
  have hlt := hb_in (t := t) (q := q) (by rw [h34]; decide)
  obtain ⟨m1, rfl⟩ : ∃ m1, m = m1 + 1 := ⟨m - 1, by omega⟩
  rw [sI, if_neg (by omega), if_pos h34]
theorem sIt_lt {t : List Nat} {q : Nat} (h : (sIt t q).1 = true) : q < t.length := by
  by_cases hlt : q < t.length
  · exact hlt
  · have hb1 : hb t q = -1 := hb_ge hlt
    have e : sIt t q = (false, q, []) := by
      unfold sIt
      rw [hb1]
      rfl
    rw [e] at h; cases h
set_option maxRecDepth 100000 in
set_option maxHeartbeats 2000000 in
theorem rr_it_l {X : ev_X} {c0 : Nat} {σ0 : Nat → Int32} {τ0 : Nat → Nat → Int32} {t : List Nat} {Q : Option Value → (Nat → Int32) → (Nat → Nat → Int32) → Prop} {o0 : Bool × Nat × List Nat} (fv : Int32) (hK : ∀ {q : Nat} {acc : List Nat} {σ : Nat → Int32} {τ : Nat → Nat → Int32}, (true, q + 1, acc) = o0 → acc.length ≤ 64 → hb t q = 34 → RS σ0 τ0 t q ([34] ++ acc.flatMap esW) 5 0 acc.length σ τ → Rx X c0 m_Mod_readText 95 [.ref (c0 + 16), .int fv] [] σ τ Q) (hF : ∀ {w m j : Nat} {acc : List Nat} {σ : Nat → Int32} {τ : Nat → Nat → Int32}, (false, w, acc) = o0 → RG σ0 τ0 t w m j σ τ → m ≤ 250 → j ≤ 20 → Q none σ τ) : ∀ (m q : Nat) (acc : List Nat) (σ : Nat → Int32) (τ : Nat → Nat → Int32) (hm : t.length ≤ q + m) (hq : q ≤ t.length) (ha : acc.length ≤ 64) (ho : sI t m q acc = o0) (hS : RS σ0 τ0 t q ([34] ++ acc.flatMap esW) 5 0 acc.length σ τ), Rx X c0 m_Mod_readText 26 [.ref (c0 + 16), .int fv] [] σ τ Q := by
  intro m
  induction m using Nat.strongRecOn with
  | ind m ih =>
  intro q acc σ τ hm hq ha ho hS
  have hl := hS.z.tl
  refine Rx.go (fun _ => rfl) ?_
  refine Rx.callE rfl rfl rfl rfl (rz_good hS.z) ?_
  show Rx X c0 m_Mod_readText 30 [.ref (c0 + 16), .int fv] [.int 1] σ τ _
  refine Rx.go (fun _ => rfl) ?_
  show Rx X c0 m_Mod_readText 33 [.ref (c0 + 16), .int fv] [] σ τ _
  refine Rx.go (fun _ => rfl) ?_
  refine Rx.callE rfl rfl rfl rfl (rz_here hS.z) ?_
  show Rx X c0 m_Mod_readText 37 [.ref (c0 + 16), .int fv] [.int (hb t q)] σ τ _
  refine Rx.go (fun _ => rfl) ?_
  refine Rx.go (fun _ => rfl) ?_
  refine Rx.ite (fun c1 => ?_) (fun c1 => ?_)
  · replace c1 : (hb t q) = 34 := of_decide_eq_true c1
    show Rx X c0 m_Mod_readText 95 [.ref (c0 + 16), .int fv] [] σ τ _
    show Rx X c0 m_Mod_readText 95 [.ref (c0 + 16), .int fv] [] σ τ _
    exact hK ((sI_34 hm c1).symm.trans ho) ha c1 hS
  · replace c1 : ¬ (hb t q) = 34 := of_decide_eq_false c1
    show Rx X c0 m_Mod_readText 42 [.ref (c0 + 16), .int fv] [] σ τ _
    refine Rx.go (fun _ => rfl) ?_
    refine Rx.get rfl rfl ?_
    refine Rx.top (y := nI q) hS.f16 ?_
    refine Rx.go (fun _ => rfl) ?_
    refine Rx.get rfl rfl ?_
    refine Rx.top (y := nI t.length) hS.f17 ?_
    refine Rx.go (fun _ => rfl) ?_
    refine Rx.ite (fun c2 => ?_) (fun c2 => ?_)
    · replace c2 : (nI t.length) ≤ (nI q) := of_decide_eq_true c2
      have hge : t.length ≤ q := (nI_leI (by omega) (by omega)).mp c2
      show Rx X c0 m_Mod_readText 71 [.ref (c0 + 16), .int fv] [] σ τ _
      refine Rx.go (fun _ => rfl) ?_
      refine Rx.callE rfl rfl rfl rfl (rz_good hS.z) ?_
      show Rx X c0 m_Mod_readText 75 [.ref (c0 + 16), .int fv] [.int 1] σ τ _
      refine Rx.go (fun _ => rfl) ?_
      show Rx X c0 m_Mod_readText 78 [.ref (c0 + 16), .int fv] [] σ τ _
      refine Rx.go (fun _ => rfl) ?_
      refine Rx.call rfl rfl rfl rfl (rr_item (by have := fm_len acc; simp only [List.length_append, List.length_cons, List.length_nil]; omega) hS) ?_
      rintro v σ17 τ17 ⟨rfl, hq17⟩
      cases hI : (sIt t q).1
      · rw [hI, if_neg Bool.false_ne_true] at hq17
        obtain ⟨mm, jj, hS17, hmm, hjj⟩ := hq17
        have e0 := sI_f (acc := acc) hm hq c1 (fun hlt => absurd hlt (by omega)) hI
        show Rx X c0 m_Mod_readText 82 [.ref (c0 + 16), .int fv] [] σ17 τ17 _
        refine Rx.go (fun _ => rfl) ?_
        refine Rx.go (fun _ => rfl) ?_
        refine Rx.get rfl rfl ?_
        refine Rx.go (fun _ => rfl) ?_
        refine Rx.go (fun _ => rfl) ?_
        refine Rx.put rfl (by decide) rfl rfl ?_
        have hS18 := hS17.up (i := 13) (x := (σ17 13) + 1) (by omega)
        refine Rx.go (fun _ => rfl) ?_
        refine Rx.go (fun _ => rfl) ?_
        refine Rx.callE rfl rfl rfl rfl (rg_good hS18) ?_
        show Rx X c0 m_Mod_readText 30 [.ref (c0 + 16), .int fv] [.int 0] (upd σ17 13 ((σ17 13) + 1)) τ17 _
        refine Rx.go (fun _ => rfl) ?_
        show Rx X c0 m_Mod_readText 95 [.ref (c0 + 16), .int fv] [] (upd σ17 13 ((σ17 13) + 1)) τ17 _
        refine Rx.go (fun _ => rfl) ?_
        refine Rx.callE rfl rfl rfl rfl (rg_good hS18) ?_
        show Rx X c0 m_Mod_readText 99 [.ref (c0 + 16), .int fv] [.int 0] (upd σ17 13 ((σ17 13) + 1)) τ17 _
        refine Rx.go (fun _ => rfl) ?_
        show Rx X c0 m_Mod_readText 102 [.ref (c0 + 16), .int fv] [] (upd σ17 13 ((σ17 13) + 1)) τ17 _
        exact Rx.ret rfl rfl (hF (e0.symm.trans ho) hS18 (by omega) (by omega))
      exact absurd (sIt_lt hI) (by omega)
    · replace c2 : ¬ (nI t.length) ≤ (nI q) := of_decide_eq_false c2
      have hlt : q < t.length := Nat.lt_of_not_le (fun e => c2 ((nI_leI (by omega) (by omega)).mpr e))
      show Rx X c0 m_Mod_readText 53 [.ref (c0 + 16), .int fv] [] σ τ _
      refine Rx.go (fun _ => rfl) ?_
      refine Rx.get rfl rfl ?_
      refine Rx.top (y := nI acc.length) hS.f13 ?_
      refine Rx.go (fun _ => rfl) ?_
      refine Rx.go (fun _ => rfl) ?_
      refine Rx.ite (fun c3 => ?_) (fun c3 => ?_)
      · replace c3 : ¬ (nI acc.length) = 64 := of_decide_eq_true c3
        have d64 : ¬ acc.length = 64 := fun e => c3 (by rw [e]; rfl)
        show Rx X c0 m_Mod_readText 71 [.ref (c0 + 16), .int fv] [] σ τ _
        refine Rx.go (fun _ => rfl) ?_
        refine Rx.callE rfl rfl rfl rfl (rz_good hS.z) ?_
        show Rx X c0 m_Mod_readText 75 [.ref (c0 + 16), .int fv] [.int 1] σ τ _
        refine Rx.go (fun _ => rfl) ?_
        show Rx X c0 m_Mod_readText 78 [.ref (c0 + 16), .int fv] [] σ τ _
        refine Rx.go (fun _ => rfl) ?_
        refine Rx.call rfl rfl rfl rfl (rr_item (by have := fm_len acc; simp only [List.length_append, List.length_cons, List.length_nil]; omega) hS) ?_
        rintro v σ19 τ19 ⟨rfl, hq19⟩
        cases hI : (sIt t q).1
        · rw [hI, if_neg Bool.false_ne_true] at hq19
          obtain ⟨mm, jj, hS19, hmm, hjj⟩ := hq19
          have e0 := sI_f (acc := acc) hm hq c1 (fun _ => d64) hI
          show Rx X c0 m_Mod_readText 82 [.ref (c0 + 16), .int fv] [] σ19 τ19 _
          refine Rx.go (fun _ => rfl) ?_
          refine Rx.go (fun _ => rfl) ?_
          refine Rx.get rfl rfl ?_
          refine Rx.go (fun _ => rfl) ?_
          refine Rx.go (fun _ => rfl) ?_
          refine Rx.put rfl (by decide) rfl rfl ?_
          have hS20 := hS19.up (i := 13) (x := (σ19 13) + 1) (by omega)
          refine Rx.go (fun _ => rfl) ?_
          refine Rx.go (fun _ => rfl) ?_
          refine Rx.callE rfl rfl rfl rfl (rg_good hS20) ?_
          show Rx X c0 m_Mod_readText 30 [.ref (c0 + 16), .int fv] [.int 0] (upd σ19 13 ((σ19 13) + 1)) τ19 _
          refine Rx.go (fun _ => rfl) ?_
          show Rx X c0 m_Mod_readText 95 [.ref (c0 + 16), .int fv] [] (upd σ19 13 ((σ19 13) + 1)) τ19 _
          refine Rx.go (fun _ => rfl) ?_
          refine Rx.callE rfl rfl rfl rfl (rg_good hS20) ?_
          show Rx X c0 m_Mod_readText 99 [.ref (c0 + 16), .int fv] [.int 0] (upd σ19 13 ((σ19 13) + 1)) τ19 _
          refine Rx.go (fun _ => rfl) ?_
          show Rx X c0 m_Mod_readText 102 [.ref (c0 + 16), .int fv] [] (upd σ19 13 ((σ19 13) + 1)) τ19 _
          exact Rx.ret rfl rfl (hF (e0.symm.trans ho) hS20 (by omega) (by omega))
        rw [hI, if_pos rfl] at hq19
        obtain ⟨it, m1, e1, e2, e3, e4, e5⟩ := sI_t hS.z.by hm c1 d64 hI
        rw [e2] at hq19
        show Rx X c0 m_Mod_readText 82 [.ref (c0 + 16), .int fv] [] σ19 τ19 _
        refine Rx.go (fun _ => rfl) ?_
        refine Rx.go (fun _ => rfl) ?_
        refine Rx.get rfl rfl ?_
        refine Rx.top (y := nI acc.length) hq19.f13 ?_
        refine Rx.go (fun _ => rfl) ?_
        refine Rx.go (fun _ => rfl) ?_
        refine Rx.top (y := nI (acc.length + 1)) (nI_1 _) ?_
        refine Rx.put rfl (by decide) rfl rfl ?_
        have hS21 := hq19.db1 (x := (acc.length + 1))
        refine Rx.go (fun _ => rfl) ?_
        show Rx X c0 m_Mod_readText 26 [.ref (c0 + 16), .int fv] [] (upd σ19 13 (nI (acc.length + 1))) τ19 _
        exact ih m1 (by omega) _ (acc ++ [it]) _ _ (by omega) e4 (by have : acc.length ≠ 64 := d64; simp only [List.length_append, List.length_cons, List.length_nil]; omega) (e3.symm.trans ho) (by rw [List.flatMap_append, ← List.append_assoc, List.length_append]; simpa using hS21)
      · replace c3 : (nI acc.length) = 64 := Classical.not_not.mp (of_decide_eq_false c3)
        have d64 : acc.length = 64 := (nI_eq (b := 64) (by omega) (by decide)).mp c3
        show Rx X c0 m_Mod_readText 62 [.ref (c0 + 16), .int fv] [] σ τ _
        refine Rx.go (fun _ => rfl) ?_
        refine Rx.go (fun _ => rfl) ?_
        refine Rx.go (fun _ => rfl) ?_
        refine Rx.get rfl rfl ?_
        refine Rx.top (y := nI q) hS.f16 ?_
        refine Rx.callP rfl rfl rfl rfl (rs_fl (wn := q) hS (by decide) rfl) ?_
        intro σ22 τ22 hS22
        show Rx X c0 m_Mod_readText 71 [.ref (c0 + 16), .int fv] [] σ22 τ22 _
        refine Rx.go (fun _ => rfl) ?_
        refine Rx.callE rfl rfl rfl rfl (rg_good hS22) ?_
        show Rx X c0 m_Mod_readText 75 [.ref (c0 + 16), .int fv] [.int 0] σ22 τ22 _
        refine Rx.go (fun _ => rfl) ?_
        show Rx X c0 m_Mod_readText 82 [.ref (c0 + 16), .int fv] [] σ22 τ22 _
        refine Rx.go (fun _ => rfl) ?_
        refine Rx.go (fun _ => rfl) ?_
        refine Rx.get rfl rfl ?_
        refine Rx.go (fun _ => rfl) ?_
        refine Rx.go (fun _ => rfl) ?_
        refine Rx.put rfl (by decide) rfl rfl ?_
        have hS23 := hS22.up (i := 13) (x := (σ22 13) + 1) (by omega)
        refine Rx.go (fun _ => rfl) ?_
        refine Rx.go (fun _ => rfl) ?_
        refine Rx.callE rfl rfl rfl rfl (rg_good hS23) ?_
        show Rx X c0 m_Mod_readText 30 [.ref (c0 + 16), .int fv] [.int 0] (upd σ22 13 ((σ22 13) + 1)) τ22 _
        refine Rx.go (fun _ => rfl) ?_
        show Rx X c0 m_Mod_readText 95 [.ref (c0 + 16), .int fv] [] (upd σ22 13 ((σ22 13) + 1)) τ22 _
        refine Rx.go (fun _ => rfl) ?_
        refine Rx.callE rfl rfl rfl rfl (rg_good hS23) ?_
        show Rx X c0 m_Mod_readText 99 [.ref (c0 + 16), .int fv] [.int 0] (upd σ22 13 ((σ22 13) + 1)) τ22 _
        refine Rx.go (fun _ => rfl) ?_
        show Rx X c0 m_Mod_readText 102 [.ref (c0 + 16), .int fv] [] (upd σ22 13 ((σ22 13) + 1)) τ22 _
        exact Rx.ret rfl rfl (hF ((sI_64 hm hlt c1 d64).symm.trans ho) hS23 (by have := fm_len acc; simp only [List.length_append, List.length_cons, List.length_nil]; omega) (by omega))
end
section
/-! The reference reads a tag. (rows laid by wip/whole/rr5.py) -/
section TG
variable {t : List Nat} {m q run : Nat} {fs : Bool} {acc : List Nat}
theorem tg_e (hm : q + m = t.length) (hg : (isL (hb t q) || (isD (hb t q) && !fs)) = false) (hd : (decide (hb t q = 45) && decide (0 < run)) = false) (hr : 0 < run) : sT t m q run fs acc = (true, q, acc) := by
  cases m with
  | zero => rw [sT, if_neg (by omega), show t.length = q by omega]
  | succ m => rw [sT, if_pos (by rw [hg, hd]; simp [hr])]
theorem tg_f (hm : q + m = t.length) (hg : (isL (hb t q) || (isD (hb t q) && !fs)) = false) (hd : (decide (hb t q = 45) && decide (0 < run)) = false) (hr : run = 0) : sT t m q run fs acc = (false, q, acc) := by
  cases m with
  | zero => rw [sT, if_pos hr, show t.length = q by omega]
  | succ m =>
    rw [sT, if_neg (by rw [hr]; simp)]
    split
    · rfl
    · rw [if_pos (by rw [hg, hd]; rfl)]
theorem tg_x (hm : q + m = t.length) (hlt : q < t.length) (hgd : (isL (hb t q) || (isD (hb t q) && !fs)) = true ∨ (decide (hb t q = 45) && decide (0 < run)) = true) (hx : (decide (acc.length = 20) || ((isL (hb t q) || (isD (hb t q) && !fs)) && decide (run = 8))) = true) : sT t m q run fs acc = (false, q, acc) := by
  obtain ⟨m1, rfl⟩ : ∃ m1, m = m1 + 1 := ⟨m - 1, by omega⟩
  rw [sT, if_neg (by rcases hgd with h | h <;> rw [h] <;> simp), if_pos hx]
theorem tg_n {m1 : Nat} (hgd : (isL (hb t q) || (isD (hb t q) && !fs)) = true ∨ (decide (hb t q = 45) && decide (0 < run)) = true) (hx : ¬ (decide (acc.length = 20) || ((isL (hb t q) || (isD (hb t q) && !fs)) && decide (run = 8))) = true) : sT t (m1 + 1) q run fs acc = sT t m1 (q + 1) (if (decide (hb t q = 45) && decide (0 < run)) = true then 0 else run + 1) (fs && !(decide (hb t q = 45) && decide (0 < run))) (acc ++ [smlN (t.getD q 0)]) := by
  rw [sT, if_neg (by rcases hgd with h | h <;> rw [h] <;> simp), if_neg hx, if_neg (by rcases hgd with h | h <;> rw [h] <;> simp)]
theorem tg_lt (hgd : (isL (hb t q) || (isD (hb t q) && !fs)) = true ∨ (decide (hb t q = 45) && decide (0 < run)) = true) : q < t.length := by
  refine hb_in (fun e => ?_)
  rw [e] at hgd
  rcases hgd with h | h
  · simp [show isL (-1) = false by decide, show isD (-1) = false by decide] at h
  · simp at h
theorem sml_a {c : Nat} (hc : c < 256) (h1 : ¬ nI c < 65) (h2 : ¬ 90 < nI c) : nI c + 32 = nI (smlN c) := by
  have a : ¬ c < 65 := fun h => h1 ((nI_ltI (b := 65) (by omega) (by decide)).mpr h)
  have b : ¬ 90 < c := fun h => h2 ((nI_ltI (a := 90) (by decide) (by omega)).mpr h)
  rw [smlN, if_pos ⟨by omega, by omega⟩]
  exact nI_add c 32
theorem sml_b {c : Nat} (hc : c < 256) (h1 : nI c < 65 ∨ 90 < nI c) : nI c = nI (smlN c) := by
  rw [smlN, if_neg]
  rintro ⟨a, b⟩
  rcases h1 with h | h
  · exact absurd ((nI_ltI (b := 65) (by omega) (by decide)).mp h) (by omega)
  · exact absurd ((nI_ltI (a := 90) (by decide) (by omega)).mp h) (by omega)
end TG
set_option maxRecDepth 100000 in
set_option maxHeartbeats 2000000 in
theorem rr_tg_l {X : ev_X} {c0 : Nat} {σ0 : Nat → Int32} {τ0 : Nat → Nat → Int32} {t : List Nat} {D0 : List Nat} {qq db : Nat} (hD : D0.length ≤ 200) (hdb : db ≤ 1000) : ∀ (m q run : Nat) (fs : Bool) (acc : List Nat) (b5 b6 b7 : Value) (σ : Nat → Int32) (τ : Nat → Nat → Int32) (hm : q + m = t.length) (ha : acc.length ≤ 20) (hr : run ≤ 300 - m) (hS : RS σ0 τ0 t q (D0 ++ [64] ++ acc) 6 qq db σ τ), Rx X c0 m_Mod_readTag 31 [.ref (c0 + 16), .int (nI acc.length), .int (nI run), .int (bi fs), .int 1, b5, b6, b7] [] σ τ (rQ σ0 τ0 t (sT t m q run fs acc) (fun q b σ' τ' => RS σ0 τ0 t q (D0 ++ [64] ++ b) 6 qq (db + b.length) σ' τ')) := by
  intro m
  induction m using Nat.strongRecOn with
  | ind m ih =>
  intro q run fs acc b5 b6 b7 σ τ hm ha hr hS
  have hl := hS.z.tl
  refine Rx.go (fun _ => rfl) ?_
  refine Rx.go (fun _ => rfl) ?_
  show Rx X c0 m_Mod_readTag 36 [.ref (c0 + 16), .int (nI acc.length), .int (nI run), .int (bi fs), .int 1, b5, b6, b7] [] σ τ _
  refine Rx.go (fun _ => rfl) ?_
  refine Rx.callE rfl rfl rfl rfl (rz_good hS.z) ?_
  show Rx X c0 m_Mod_readTag 40 [.ref (c0 + 16), .int (nI acc.length), .int (nI run), .int (bi fs), .int 1, b5, b6, b7] [.int 1] σ τ _
  refine Rx.go (fun _ => rfl) ?_
  show Rx X c0 m_Mod_readTag 43 [.ref (c0 + 16), .int (nI acc.length), .int (nI run), .int (bi fs), .int 1, b5, b6, b7] [] σ τ _
  refine Rx.go (fun _ => rfl) ?_
  refine Rx.callE rfl rfl rfl rfl (rz_here hS.z) ?_
  show Rx X c0 m_Mod_readTag 47 [.ref (c0 + 16), .int (nI acc.length), .int (nI run), .int (bi fs), .int 1, b5, b6, b7] [.int (hb t q)] σ τ _
  refine Rx.go (fun _ => rfl) ?_
  show Rx X c0 m_Mod_readTag 49 [.ref (c0 + 16), .int (nI acc.length), .int (nI run), .int (bi fs), .int 1, .int (hb t q), b6, b7] [] σ τ _
  refine Rx.go (fun _ => rfl) ?_
  refine Rx.scallE rfl rfl rfl rfl (sx_Mod_isLetter X (hb t q)) ?_
  show Rx X c0 m_Mod_readTag 54 [.ref (c0 + 16), .int (nI acc.length), .int (nI run), .int (bi fs), .int 1, .int (hb t q), b6, b7] [.int (bi (isL (hb t q)))] σ τ _
  refine Rx.go (fun _ => rfl) ?_
  refine Rx.ite (fun c1 => ?_) (fun c1 => ?_)
  · replace c1 : (isL (hb t q)) = true := bi_net c1
    show Rx X c0 m_Mod_readTag 69 [.ref (c0 + 16), .int (nI acc.length), .int (nI run), .int (bi fs), .int 1, .int (hb t q), b6, b7] [] σ τ _
    refine Rx.go (fun _ => rfl) ?_
    refine Rx.go (fun _ => rfl) ?_
    refine Rx.go (fun _ => rfl) ?_
    show Rx X c0 m_Mod_readTag 76 [.ref (c0 + 16), .int (nI acc.length), .int (nI run), .int (bi fs), .int 1, .int (hb t q), .int 1, b7] [] σ τ _
    refine Rx.go (fun _ => rfl) ?_
    refine Rx.go (fun _ => rfl) ?_
    refine Rx.go (fun _ => rfl) ?_
    refine Rx.ite (fun c2 => ?_) (fun c2 => ?_)
    · replace c2 : ¬ (hb t q) = 45 := of_decide_eq_true c2
      show Rx X c0 m_Mod_readTag 91 [.ref (c0 + 16), .int (nI acc.length), .int (nI run), .int (bi fs), .int 1, .int (hb t q), .int 1, b7] [] σ τ _
      refine Rx.go (fun _ => rfl) ?_
      refine Rx.go (fun _ => rfl) ?_
      show Rx X c0 m_Mod_readTag 94 [.ref (c0 + 16), .int (nI acc.length), .int (nI run), .int (bi fs), .int 1, .int (hb t q), .int 1, .int 0] [] σ τ _
      have hg : (isL (hb t q) || (isD (hb t q) && !fs)) = true := by simp [c1]
      have hd : (decide (hb t q = 45) && decide (0 < run)) = false := by simp [c2]
      have hgd : (isL (hb t q) || (isD (hb t q) && !fs)) = true ∨ (decide (hb t q = 45) && decide (0 < run)) = true := Or.inl hg
      have hlt := tg_lt hgd
      refine Rx.go (fun _ => rfl) ?_
      refine Rx.go (fun _ => rfl) ?_
      show Rx X c0 m_Mod_readTag 119 [.ref (c0 + 16), .int (nI acc.length), .int (nI run), .int (bi fs), .int 1, .int (hb t q), .int 1, .int 0] [] σ τ _
      refine Rx.go (fun _ => rfl) ?_
      refine Rx.go (fun _ => rfl) ?_
      refine Rx.go (fun _ => rfl) ?_
      refine Rx.ite (fun c3 => ?_) (fun c3 => ?_)
      · replace c3 : (nI acc.length) = 20 := of_decide_eq_true c3
        have d20 : acc.length = 20 := (nI_eq (b := 20) (by omega) (by decide)).mp c3
        show Rx X c0 m_Mod_readTag 136 [.ref (c0 + 16), .int (nI acc.length), .int (nI run), .int (bi fs), .int 1, .int (hb t q), .int 1, .int 0] [] σ τ _
        refine Rx.go (fun _ => rfl) ?_
        refine Rx.go (fun _ => rfl) ?_
        refine Rx.go (fun _ => rfl) ?_
        refine Rx.get rfl rfl ?_
        refine Rx.top (y := nI q) hS.f16 ?_
        refine Rx.callP rfl rfl rfl rfl (rs_fl (wn := q) hS (by decide) rfl) ?_
        intro σ17 τ17 hS17
        show Rx X c0 m_Mod_readTag 145 [.ref (c0 + 16), .int (nI acc.length), .int (nI run), .int (bi fs), .int 1, .int (hb t q), .int 1, .int 0] [] σ17 τ17 _
        refine Rx.go (fun _ => rfl) ?_
        refine Rx.go (fun _ => rfl) ?_
        refine Rx.go (fun _ => rfl) ?_
        refine Rx.go (fun _ => rfl) ?_
        refine Rx.ite (fun c4 => ?_) (fun c4 => ?_)
        · replace c4 : (hb t q) < 65 := of_decide_eq_true c4
          show Rx X c0 m_Mod_readTag 168 [.ref (c0 + 16), .int (nI acc.length), .int (nI run), .int (bi fs), .int 1, .int (hb t q), .int 1, .int 0] [.ref (c0 + 16)] σ17 τ17 _
          refine Rx.go (fun _ => rfl) ?_
          refine Rx.callP rfl rfl rfl rfl (rg_put _ hS17 (by first | omega | (simp only [List.length_append, List.length_cons, List.length_nil]; omega))) ?_
          intro σ18 τ18 hS18
          show Rx X c0 m_Mod_readTag 173 [.ref (c0 + 16), .int (nI acc.length), .int (nI run), .int (bi fs), .int 1, .int (hb t q), .int 1, .int 0] [] σ18 τ18 _
          refine Rx.go (fun _ => rfl) ?_
          show Rx X c0 m_Mod_readTag 176 [.ref (c0 + 16), .int ((nI acc.length) + 1), .int (nI run), .int (bi fs), .int 1, .int (hb t q), .int 1, .int 0] [] σ18 τ18 _
          refine Rx.go (fun _ => rfl) ?_
          refine Rx.go (fun _ => rfl) ?_
          refine Rx.get rfl rfl ?_
          refine Rx.go (fun _ => rfl) ?_
          refine Rx.go (fun _ => rfl) ?_
          refine Rx.put rfl (by decide) rfl rfl ?_
          have hS19 := hS18.at1
          refine Rx.go (fun _ => rfl) ?_
          refine Rx.go (fun _ => rfl) ?_
          show Rx X c0 m_Mod_readTag 191 [.ref (c0 + 16), .int ((nI acc.length) + 1), .int (nI run), .int (bi fs), .int 1, .int (hb t q), .int 1, .int 0] [] (upd σ18 16 ((σ18 16) + 1)) τ18 _
          refine Rx.go (fun _ => rfl) ?_
          refine Rx.go (fun _ => rfl) ?_
          refine Rx.go (fun _ => rfl) ?_
          refine Rx.go (fun _ => rfl) ?_
          refine Rx.go (fun _ => rfl) ?_
          show Rx X c0 m_Mod_readTag 199 [.ref (c0 + 16), .int ((nI acc.length) + 1), .int ((nI run) + 1), .int (bi fs), .int 1, .int (hb t q), .int 1, .int 0] [] (upd σ18 16 ((σ18 16) + 1)) τ18 _
          refine Rx.go (fun _ => rfl) ?_
          refine Rx.go (fun _ => rfl) ?_
          refine Rx.ite (fun c5 => ?_) (fun c5 => ?_)
          · replace c5 : fs = false := bi_eqt c5
            show Rx X c0 m_Mod_readTag 212 [.ref (c0 + 16), .int ((nI acc.length) + 1), .int ((nI run) + 1), .int (bi fs), .int 1, .int (hb t q), .int 1, .int 0] [] (upd σ18 16 ((σ18 16) + 1)) τ18 _
            refine Rx.go (fun _ => rfl) ?_
            refine Rx.go (fun _ => rfl) ?_
            show Rx X c0 m_Mod_readTag 214 [.ref (c0 + 16), .int ((nI acc.length) + 1), .int ((nI run) + 1), .int 0, .int 1, .int (hb t q), .int 1, .int 0] [] (upd σ18 16 ((σ18 16) + 1)) τ18 _
            refine Rx.go (fun _ => rfl) ?_
            refine Rx.go (fun _ => rfl) ?_
            refine Rx.go (fun _ => rfl) ?_
            show Rx X c0 m_Mod_readTag 36 [.ref (c0 + 16), .int ((nI acc.length) + 1), .int ((nI run) + 1), .int 0, .int 1, .int (hb t q), .int 1, .int 0] [] (upd σ18 16 ((σ18 16) + 1)) τ18 _
            refine Rx.go (fun _ => rfl) ?_
            refine Rx.callE rfl rfl rfl rfl (rg_good hS19) ?_
            show Rx X c0 m_Mod_readTag 40 [.ref (c0 + 16), .int ((nI acc.length) + 1), .int ((nI run) + 1), .int 0, .int 1, .int (hb t q), .int 1, .int 0] [.int 0] (upd σ18 16 ((σ18 16) + 1)) τ18 _
            refine Rx.go (fun _ => rfl) ?_
            show Rx X c0 m_Mod_readTag 217 [.ref (c0 + 16), .int ((nI acc.length) + 1), .int ((nI run) + 1), .int 0, .int 1, .int (hb t q), .int 1, .int 0] [] (upd σ18 16 ((σ18 16) + 1)) τ18 _
            refine Rx.go (fun _ => rfl) ?_
            refine Rx.go (fun _ => rfl) ?_
            refine Rx.get rfl rfl ?_
            refine Rx.go (fun _ => rfl) ?_
            refine Rx.go (fun _ => rfl) ?_
            refine Rx.put rfl (by decide) rfl rfl ?_
            have hS20 := hS19.up (i := 13) (x := ((upd σ18 16 ((σ18 16) + 1)) 13) + ((nI acc.length) + 1)) (by omega)
            exact Rx.ret rfl rfl (rQ_f (b := acc) (tg_x hm hlt hgd (by rw [decide_eq_true d20]; rfl)) hS20 (by first | omega | (simp only [List.length_append, List.length_cons, List.length_nil]; omega)) (by omega))
          · replace c5 : fs = true := bi_eqf c5
            show Rx X c0 m_Mod_readTag 203 [.ref (c0 + 16), .int ((nI acc.length) + 1), .int ((nI run) + 1), .int (bi fs), .int 1, .int (hb t q), .int 1, .int 0] [] (upd σ18 16 ((σ18 16) + 1)) τ18 _
            refine Rx.go (fun _ => rfl) ?_
            refine Rx.go (fun _ => rfl) ?_
            show Rx X c0 m_Mod_readTag 208 [.ref (c0 + 16), .int ((nI acc.length) + 1), .int ((nI run) + 1), .int (bi fs), .int 1, .int (hb t q), .int 1, .int 0] [] (upd σ18 16 ((σ18 16) + 1)) τ18 _
            refine Rx.go (fun _ => rfl) ?_
            refine Rx.go (fun _ => rfl) ?_
            refine Rx.go (fun _ => rfl) ?_
            show Rx X c0 m_Mod_readTag 214 [.ref (c0 + 16), .int ((nI acc.length) + 1), .int ((nI run) + 1), .int 1, .int 1, .int (hb t q), .int 1, .int 0] [] (upd σ18 16 ((σ18 16) + 1)) τ18 _
            refine Rx.go (fun _ => rfl) ?_
            refine Rx.go (fun _ => rfl) ?_
            refine Rx.go (fun _ => rfl) ?_
            show Rx X c0 m_Mod_readTag 36 [.ref (c0 + 16), .int ((nI acc.length) + 1), .int ((nI run) + 1), .int 1, .int 1, .int (hb t q), .int 1, .int 0] [] (upd σ18 16 ((σ18 16) + 1)) τ18 _
            refine Rx.go (fun _ => rfl) ?_
            refine Rx.callE rfl rfl rfl rfl (rg_good hS19) ?_
            show Rx X c0 m_Mod_readTag 40 [.ref (c0 + 16), .int ((nI acc.length) + 1), .int ((nI run) + 1), .int 1, .int 1, .int (hb t q), .int 1, .int 0] [.int 0] (upd σ18 16 ((σ18 16) + 1)) τ18 _
            refine Rx.go (fun _ => rfl) ?_
            show Rx X c0 m_Mod_readTag 217 [.ref (c0 + 16), .int ((nI acc.length) + 1), .int ((nI run) + 1), .int 1, .int 1, .int (hb t q), .int 1, .int 0] [] (upd σ18 16 ((σ18 16) + 1)) τ18 _
            refine Rx.go (fun _ => rfl) ?_
            refine Rx.go (fun _ => rfl) ?_
            refine Rx.get rfl rfl ?_
            refine Rx.go (fun _ => rfl) ?_
            refine Rx.go (fun _ => rfl) ?_
            refine Rx.put rfl (by decide) rfl rfl ?_
            have hS21 := hS19.up (i := 13) (x := ((upd σ18 16 ((σ18 16) + 1)) 13) + ((nI acc.length) + 1)) (by omega)
            exact Rx.ret rfl rfl (rQ_f (b := acc) (tg_x hm hlt hgd (by rw [decide_eq_true d20]; rfl)) hS21 (by first | omega | (simp only [List.length_append, List.length_cons, List.length_nil]; omega)) (by omega))
        · replace c4 : ¬ (hb t q) < 65 := of_decide_eq_false c4
          show Rx X c0 m_Mod_readTag 153 [.ref (c0 + 16), .int (nI acc.length), .int (nI run), .int (bi fs), .int 1, .int (hb t q), .int 1, .int 0] [.ref (c0 + 16)] σ17 τ17 _
          refine Rx.go (fun _ => rfl) ?_
          refine Rx.go (fun _ => rfl) ?_
          refine Rx.go (fun _ => rfl) ?_
          refine Rx.ite (fun c6 => ?_) (fun c6 => ?_)
          · replace c6 : 90 < (hb t q) := of_decide_eq_true c6
            show Rx X c0 m_Mod_readTag 168 [.ref (c0 + 16), .int (nI acc.length), .int (nI run), .int (bi fs), .int 1, .int (hb t q), .int 1, .int 0] [.ref (c0 + 16)] σ17 τ17 _
            refine Rx.go (fun _ => rfl) ?_
            refine Rx.callP rfl rfl rfl rfl (rg_put _ hS17 (by first | omega | (simp only [List.length_append, List.length_cons, List.length_nil]; omega))) ?_
            intro σ22 τ22 hS22
            show Rx X c0 m_Mod_readTag 173 [.ref (c0 + 16), .int (nI acc.length), .int (nI run), .int (bi fs), .int 1, .int (hb t q), .int 1, .int 0] [] σ22 τ22 _
            refine Rx.go (fun _ => rfl) ?_
            show Rx X c0 m_Mod_readTag 176 [.ref (c0 + 16), .int ((nI acc.length) + 1), .int (nI run), .int (bi fs), .int 1, .int (hb t q), .int 1, .int 0] [] σ22 τ22 _
            refine Rx.go (fun _ => rfl) ?_
            refine Rx.go (fun _ => rfl) ?_
            refine Rx.get rfl rfl ?_
            refine Rx.go (fun _ => rfl) ?_
            refine Rx.go (fun _ => rfl) ?_
            refine Rx.put rfl (by decide) rfl rfl ?_
            have hS23 := hS22.at1
            refine Rx.go (fun _ => rfl) ?_
            refine Rx.go (fun _ => rfl) ?_
            show Rx X c0 m_Mod_readTag 191 [.ref (c0 + 16), .int ((nI acc.length) + 1), .int (nI run), .int (bi fs), .int 1, .int (hb t q), .int 1, .int 0] [] (upd σ22 16 ((σ22 16) + 1)) τ22 _
            refine Rx.go (fun _ => rfl) ?_
            refine Rx.go (fun _ => rfl) ?_
            refine Rx.go (fun _ => rfl) ?_
            refine Rx.go (fun _ => rfl) ?_
            refine Rx.go (fun _ => rfl) ?_
            show Rx X c0 m_Mod_readTag 199 [.ref (c0 + 16), .int ((nI acc.length) + 1), .int ((nI run) + 1), .int (bi fs), .int 1, .int (hb t q), .int 1, .int 0] [] (upd σ22 16 ((σ22 16) + 1)) τ22 _
            refine Rx.go (fun _ => rfl) ?_
            refine Rx.go (fun _ => rfl) ?_
            refine Rx.ite (fun c7 => ?_) (fun c7 => ?_)
            · replace c7 : fs = false := bi_eqt c7
              show Rx X c0 m_Mod_readTag 212 [.ref (c0 + 16), .int ((nI acc.length) + 1), .int ((nI run) + 1), .int (bi fs), .int 1, .int (hb t q), .int 1, .int 0] [] (upd σ22 16 ((σ22 16) + 1)) τ22 _
              refine Rx.go (fun _ => rfl) ?_
              refine Rx.go (fun _ => rfl) ?_
              show Rx X c0 m_Mod_readTag 214 [.ref (c0 + 16), .int ((nI acc.length) + 1), .int ((nI run) + 1), .int 0, .int 1, .int (hb t q), .int 1, .int 0] [] (upd σ22 16 ((σ22 16) + 1)) τ22 _
              refine Rx.go (fun _ => rfl) ?_
              refine Rx.go (fun _ => rfl) ?_
              refine Rx.go (fun _ => rfl) ?_
              show Rx X c0 m_Mod_readTag 36 [.ref (c0 + 16), .int ((nI acc.length) + 1), .int ((nI run) + 1), .int 0, .int 1, .int (hb t q), .int 1, .int 0] [] (upd σ22 16 ((σ22 16) + 1)) τ22 _
              refine Rx.go (fun _ => rfl) ?_
              refine Rx.callE rfl rfl rfl rfl (rg_good hS23) ?_
              show Rx X c0 m_Mod_readTag 40 [.ref (c0 + 16), .int ((nI acc.length) + 1), .int ((nI run) + 1), .int 0, .int 1, .int (hb t q), .int 1, .int 0] [.int 0] (upd σ22 16 ((σ22 16) + 1)) τ22 _
              refine Rx.go (fun _ => rfl) ?_
              show Rx X c0 m_Mod_readTag 217 [.ref (c0 + 16), .int ((nI acc.length) + 1), .int ((nI run) + 1), .int 0, .int 1, .int (hb t q), .int 1, .int 0] [] (upd σ22 16 ((σ22 16) + 1)) τ22 _
              refine Rx.go (fun _ => rfl) ?_
              refine Rx.go (fun _ => rfl) ?_
              refine Rx.get rfl rfl ?_
              refine Rx.go (fun _ => rfl) ?_
              refine Rx.go (fun _ => rfl) ?_
              refine Rx.put rfl (by decide) rfl rfl ?_
              have hS24 := hS23.up (i := 13) (x := ((upd σ22 16 ((σ22 16) + 1)) 13) + ((nI acc.length) + 1)) (by omega)
              exact Rx.ret rfl rfl (rQ_f (b := acc) (tg_x hm hlt hgd (by rw [decide_eq_true d20]; rfl)) hS24 (by first | omega | (simp only [List.length_append, List.length_cons, List.length_nil]; omega)) (by omega))
            · replace c7 : fs = true := bi_eqf c7
              show Rx X c0 m_Mod_readTag 203 [.ref (c0 + 16), .int ((nI acc.length) + 1), .int ((nI run) + 1), .int (bi fs), .int 1, .int (hb t q), .int 1, .int 0] [] (upd σ22 16 ((σ22 16) + 1)) τ22 _
              refine Rx.go (fun _ => rfl) ?_
              refine Rx.go (fun _ => rfl) ?_
              show Rx X c0 m_Mod_readTag 208 [.ref (c0 + 16), .int ((nI acc.length) + 1), .int ((nI run) + 1), .int (bi fs), .int 1, .int (hb t q), .int 1, .int 0] [] (upd σ22 16 ((σ22 16) + 1)) τ22 _
              refine Rx.go (fun _ => rfl) ?_
              refine Rx.go (fun _ => rfl) ?_
              refine Rx.go (fun _ => rfl) ?_
              show Rx X c0 m_Mod_readTag 214 [.ref (c0 + 16), .int ((nI acc.length) + 1), .int ((nI run) + 1), .int 1, .int 1, .int (hb t q), .int 1, .int 0] [] (upd σ22 16 ((σ22 16) + 1)) τ22 _
              refine Rx.go (fun _ => rfl) ?_
              refine Rx.go (fun _ => rfl) ?_
              refine Rx.go (fun _ => rfl) ?_
              show Rx X c0 m_Mod_readTag 36 [.ref (c0 + 16), .int ((nI acc.length) + 1), .int ((nI run) + 1), .int 1, .int 1, .int (hb t q), .int 1, .int 0] [] (upd σ22 16 ((σ22 16) + 1)) τ22 _
              refine Rx.go (fun _ => rfl) ?_
              refine Rx.callE rfl rfl rfl rfl (rg_good hS23) ?_
              show Rx X c0 m_Mod_readTag 40 [.ref (c0 + 16), .int ((nI acc.length) + 1), .int ((nI run) + 1), .int 1, .int 1, .int (hb t q), .int 1, .int 0] [.int 0] (upd σ22 16 ((σ22 16) + 1)) τ22 _
              refine Rx.go (fun _ => rfl) ?_
              show Rx X c0 m_Mod_readTag 217 [.ref (c0 + 16), .int ((nI acc.length) + 1), .int ((nI run) + 1), .int 1, .int 1, .int (hb t q), .int 1, .int 0] [] (upd σ22 16 ((σ22 16) + 1)) τ22 _
              refine Rx.go (fun _ => rfl) ?_
              refine Rx.go (fun _ => rfl) ?_
              refine Rx.get rfl rfl ?_
              refine Rx.go (fun _ => rfl) ?_
              refine Rx.go (fun _ => rfl) ?_
              refine Rx.put rfl (by decide) rfl rfl ?_
              have hS25 := hS23.up (i := 13) (x := ((upd σ22 16 ((σ22 16) + 1)) 13) + ((nI acc.length) + 1)) (by omega)
              exact Rx.ret rfl rfl (rQ_f (b := acc) (tg_x hm hlt hgd (by rw [decide_eq_true d20]; rfl)) hS25 (by first | omega | (simp only [List.length_append, List.length_cons, List.length_nil]; omega)) (by omega))
          · replace c6 : ¬ 90 < (hb t q) := of_decide_eq_false c6
            show Rx X c0 m_Mod_readTag 160 [.ref (c0 + 16), .int (nI acc.length), .int (nI run), .int (bi fs), .int 1, .int (hb t q), .int 1, .int 0] [.ref (c0 + 16)] σ17 τ17 _
            refine Rx.go (fun _ => rfl) ?_
            refine Rx.go (fun _ => rfl) ?_
            refine Rx.go (fun _ => rfl) ?_
            refine Rx.go (fun _ => rfl) ?_
            refine Rx.callP rfl rfl rfl rfl (rg_put _ hS17 (by first | omega | (simp only [List.length_append, List.length_cons, List.length_nil]; omega))) ?_
            intro σ26 τ26 hS26
            show Rx X c0 m_Mod_readTag 173 [.ref (c0 + 16), .int (nI acc.length), .int (nI run), .int (bi fs), .int 1, .int (hb t q), .int 1, .int 0] [] σ26 τ26 _
            refine Rx.go (fun _ => rfl) ?_
            show Rx X c0 m_Mod_readTag 176 [.ref (c0 + 16), .int ((nI acc.length) + 1), .int (nI run), .int (bi fs), .int 1, .int (hb t q), .int 1, .int 0] [] σ26 τ26 _
            refine Rx.go (fun _ => rfl) ?_
            refine Rx.go (fun _ => rfl) ?_
            refine Rx.get rfl rfl ?_
            refine Rx.go (fun _ => rfl) ?_
            refine Rx.go (fun _ => rfl) ?_
            refine Rx.put rfl (by decide) rfl rfl ?_
            have hS27 := hS26.at1
            refine Rx.go (fun _ => rfl) ?_
            refine Rx.go (fun _ => rfl) ?_
            show Rx X c0 m_Mod_readTag 191 [.ref (c0 + 16), .int ((nI acc.length) + 1), .int (nI run), .int (bi fs), .int 1, .int (hb t q), .int 1, .int 0] [] (upd σ26 16 ((σ26 16) + 1)) τ26 _
            refine Rx.go (fun _ => rfl) ?_
            refine Rx.go (fun _ => rfl) ?_
            refine Rx.go (fun _ => rfl) ?_
            refine Rx.go (fun _ => rfl) ?_
            refine Rx.go (fun _ => rfl) ?_
            show Rx X c0 m_Mod_readTag 199 [.ref (c0 + 16), .int ((nI acc.length) + 1), .int ((nI run) + 1), .int (bi fs), .int 1, .int (hb t q), .int 1, .int 0] [] (upd σ26 16 ((σ26 16) + 1)) τ26 _
            refine Rx.go (fun _ => rfl) ?_
            refine Rx.go (fun _ => rfl) ?_
            refine Rx.ite (fun c8 => ?_) (fun c8 => ?_)
            · replace c8 : fs = false := bi_eqt c8
              show Rx X c0 m_Mod_readTag 212 [.ref (c0 + 16), .int ((nI acc.length) + 1), .int ((nI run) + 1), .int (bi fs), .int 1, .int (hb t q), .int 1, .int 0] [] (upd σ26 16 ((σ26 16) + 1)) τ26 _
              refine Rx.go (fun _ => rfl) ?_
              refine Rx.go (fun _ => rfl) ?_
              show Rx X c0 m_Mod_readTag 214 [.ref (c0 + 16), .int ((nI acc.length) + 1), .int ((nI run) + 1), .int 0, .int 1, .int (hb t q), .int 1, .int 0] [] (upd σ26 16 ((σ26 16) + 1)) τ26 _
              refine Rx.go (fun _ => rfl) ?_
              refine Rx.go (fun _ => rfl) ?_
              refine Rx.go (fun _ => rfl) ?_
              show Rx X c0 m_Mod_readTag 36 [.ref (c0 + 16), .int ((nI acc.length) + 1), .int ((nI run) + 1), .int 0, .int 1, .int (hb t q), .int 1, .int 0] [] (upd σ26 16 ((σ26 16) + 1)) τ26 _
              refine Rx.go (fun _ => rfl) ?_
              refine Rx.callE rfl rfl rfl rfl (rg_good hS27) ?_
              show Rx X c0 m_Mod_readTag 40 [.ref (c0 + 16), .int ((nI acc.length) + 1), .int ((nI run) + 1), .int 0, .int 1, .int (hb t q), .int 1, .int 0] [.int 0] (upd σ26 16 ((σ26 16) + 1)) τ26 _
              refine Rx.go (fun _ => rfl) ?_
              show Rx X c0 m_Mod_readTag 217 [.ref (c0 + 16), .int ((nI acc.length) + 1), .int ((nI run) + 1), .int 0, .int 1, .int (hb t q), .int 1, .int 0] [] (upd σ26 16 ((σ26 16) + 1)) τ26 _
              refine Rx.go (fun _ => rfl) ?_
              refine Rx.go (fun _ => rfl) ?_
              refine Rx.get rfl rfl ?_
              refine Rx.go (fun _ => rfl) ?_
              refine Rx.go (fun _ => rfl) ?_
              refine Rx.put rfl (by decide) rfl rfl ?_
              have hS28 := hS27.up (i := 13) (x := ((upd σ26 16 ((σ26 16) + 1)) 13) + ((nI acc.length) + 1)) (by omega)
              exact Rx.ret rfl rfl (rQ_f (b := acc) (tg_x hm hlt hgd (by rw [decide_eq_true d20]; rfl)) hS28 (by first | omega | (simp only [List.length_append, List.length_cons, List.length_nil]; omega)) (by omega))
            · replace c8 : fs = true := bi_eqf c8
              show Rx X c0 m_Mod_readTag 203 [.ref (c0 + 16), .int ((nI acc.length) + 1), .int ((nI run) + 1), .int (bi fs), .int 1, .int (hb t q), .int 1, .int 0] [] (upd σ26 16 ((σ26 16) + 1)) τ26 _
              refine Rx.go (fun _ => rfl) ?_
              refine Rx.go (fun _ => rfl) ?_
              show Rx X c0 m_Mod_readTag 208 [.ref (c0 + 16), .int ((nI acc.length) + 1), .int ((nI run) + 1), .int (bi fs), .int 1, .int (hb t q), .int 1, .int 0] [] (upd σ26 16 ((σ26 16) + 1)) τ26 _
              refine Rx.go (fun _ => rfl) ?_
              refine Rx.go (fun _ => rfl) ?_
              refine Rx.go (fun _ => rfl) ?_
              show Rx X c0 m_Mod_readTag 214 [.ref (c0 + 16), .int ((nI acc.length) + 1), .int ((nI run) + 1), .int 1, .int 1, .int (hb t q), .int 1, .int 0] [] (upd σ26 16 ((σ26 16) + 1)) τ26 _
              refine Rx.go (fun _ => rfl) ?_
              refine Rx.go (fun _ => rfl) ?_
              refine Rx.go (fun _ => rfl) ?_
              show Rx X c0 m_Mod_readTag 36 [.ref (c0 + 16), .int ((nI acc.length) + 1), .int ((nI run) + 1), .int 1, .int 1, .int (hb t q), .int 1, .int 0] [] (upd σ26 16 ((σ26 16) + 1)) τ26 _
              refine Rx.go (fun _ => rfl) ?_
              refine Rx.callE rfl rfl rfl rfl (rg_good hS27) ?_
              show Rx X c0 m_Mod_readTag 40 [.ref (c0 + 16), .int ((nI acc.length) + 1), .int ((nI run) + 1), .int 1, .int 1, .int (hb t q), .int 1, .int 0] [.int 0] (upd σ26 16 ((σ26 16) + 1)) τ26 _
              refine Rx.go (fun _ => rfl) ?_
              show Rx X c0 m_Mod_readTag 217 [.ref (c0 + 16), .int ((nI acc.length) + 1), .int ((nI run) + 1), .int 1, .int 1, .int (hb t q), .int 1, .int 0] [] (upd σ26 16 ((σ26 16) + 1)) τ26 _
              refine Rx.go (fun _ => rfl) ?_
              refine Rx.go (fun _ => rfl) ?_
              refine Rx.get rfl rfl ?_
              refine Rx.go (fun _ => rfl) ?_
              refine Rx.go (fun _ => rfl) ?_
              refine Rx.put rfl (by decide) rfl rfl ?_
              have hS29 := hS27.up (i := 13) (x := ((upd σ26 16 ((σ26 16) + 1)) 13) + ((nI acc.length) + 1)) (by omega)
              exact Rx.ret rfl rfl (rQ_f (b := acc) (tg_x hm hlt hgd (by rw [decide_eq_true d20]; rfl)) hS29 (by first | omega | (simp only [List.length_append, List.length_cons, List.length_nil]; omega)) (by omega))
      · replace c3 : ¬ (nI acc.length) = 20 := of_decide_eq_false c3
        have d20 : ¬ acc.length = 20 := fun e => c3 (by rw [e]; rfl)
        show Rx X c0 m_Mod_readTag 125 [.ref (c0 + 16), .int (nI acc.length), .int (nI run), .int (bi fs), .int 1, .int (hb t q), .int 1, .int 0] [] σ τ _
        refine Rx.go (fun _ => rfl) ?_
        refine Rx.go (fun _ => rfl) ?_
        show Rx X c0 m_Mod_readTag 130 [.ref (c0 + 16), .int (nI acc.length), .int (nI run), .int (bi fs), .int 1, .int (hb t q), .int 1, .int 0] [] σ τ _
        refine Rx.go (fun _ => rfl) ?_
        refine Rx.go (fun _ => rfl) ?_
        refine Rx.go (fun _ => rfl) ?_
        refine Rx.ite (fun c9 => ?_) (fun c9 => ?_)
        · replace c9 : ¬ (nI run) = 8 := of_decide_eq_true c9
          have d8 : ¬ run = 8 := fun e => c9 (by rw [e]; rfl)
          show Rx X c0 m_Mod_readTag 145 [.ref (c0 + 16), .int (nI acc.length), .int (nI run), .int (bi fs), .int 1, .int (hb t q), .int 1, .int 0] [] σ τ _
          refine Rx.go (fun _ => rfl) ?_
          refine Rx.go (fun _ => rfl) ?_
          refine Rx.go (fun _ => rfl) ?_
          refine Rx.go (fun _ => rfl) ?_
          refine Rx.ite (fun c10 => ?_) (fun c10 => ?_)
          · replace c10 : (hb t q) < 65 := of_decide_eq_true c10
            show Rx X c0 m_Mod_readTag 168 [.ref (c0 + 16), .int (nI acc.length), .int (nI run), .int (bi fs), .int 1, .int (hb t q), .int 1, .int 0] [.ref (c0 + 16)] σ τ _
            refine Rx.go (fun _ => rfl) ?_
            refine Rx.top (y := nI (smlN (t.getD q 0))) (by rw [hb_lt hlt]; exact sml_b (hS.z.by q) (Or.inl (by rw [← hb_lt hlt]; exact c10))) ?_
            refine Rx.callP rfl rfl rfl rfl (rs_put (smlN (t.getD q 0)) hS (by first | omega | (simp only [List.length_append, List.length_cons, List.length_nil]; omega))) ?_
            intro σ30 τ30 hS30
            show Rx X c0 m_Mod_readTag 173 [.ref (c0 + 16), .int (nI acc.length), .int (nI run), .int (bi fs), .int 1, .int (hb t q), .int 1, .int 0] [] σ30 τ30 _
            refine Rx.go (fun _ => rfl) ?_
            show Rx X c0 m_Mod_readTag 176 [.ref (c0 + 16), .int ((nI acc.length) + 1), .int (nI run), .int (bi fs), .int 1, .int (hb t q), .int 1, .int 0] [] σ30 τ30 _
            refine Rx.go (fun _ => rfl) ?_
            refine Rx.go (fun _ => rfl) ?_
            refine Rx.get rfl rfl ?_
            refine Rx.top (y := nI q) hS30.f16 ?_
            refine Rx.go (fun _ => rfl) ?_
            refine Rx.go (fun _ => rfl) ?_
            refine Rx.top (y := nI (q + 1)) (nI_1 _) ?_
            refine Rx.put rfl (by decide) rfl rfl ?_
            have hS31 := hS30.at1 hlt
            refine Rx.go (fun _ => rfl) ?_
            refine Rx.go (fun _ => rfl) ?_
            show Rx X c0 m_Mod_readTag 191 [.ref (c0 + 16), .int ((nI acc.length) + 1), .int (nI run), .int (bi fs), .int 1, .int (hb t q), .int 1, .int 0] [] (upd σ30 16 (nI (q + 1))) τ30 _
            refine Rx.go (fun _ => rfl) ?_
            refine Rx.go (fun _ => rfl) ?_
            refine Rx.go (fun _ => rfl) ?_
            refine Rx.go (fun _ => rfl) ?_
            refine Rx.go (fun _ => rfl) ?_
            show Rx X c0 m_Mod_readTag 199 [.ref (c0 + 16), .int ((nI acc.length) + 1), .int ((nI run) + 1), .int (bi fs), .int 1, .int (hb t q), .int 1, .int 0] [] (upd σ30 16 (nI (q + 1))) τ30 _
            refine Rx.go (fun _ => rfl) ?_
            refine Rx.go (fun _ => rfl) ?_
            refine Rx.ite (fun c11 => ?_) (fun c11 => ?_)
            · replace c11 : fs = false := bi_eqt c11
              show Rx X c0 m_Mod_readTag 212 [.ref (c0 + 16), .int ((nI acc.length) + 1), .int ((nI run) + 1), .int (bi fs), .int 1, .int (hb t q), .int 1, .int 0] [] (upd σ30 16 (nI (q + 1))) τ30 _
              refine Rx.go (fun _ => rfl) ?_
              refine Rx.go (fun _ => rfl) ?_
              show Rx X c0 m_Mod_readTag 214 [.ref (c0 + 16), .int ((nI acc.length) + 1), .int ((nI run) + 1), .int 0, .int 1, .int (hb t q), .int 1, .int 0] [] (upd σ30 16 (nI (q + 1))) τ30 _
              refine Rx.go (fun _ => rfl) ?_
              show Rx X c0 m_Mod_readTag 31 [.ref (c0 + 16), .int ((nI acc.length) + 1), .int ((nI run) + 1), .int 0, .int 1, .int (hb t q), .int 1, .int 0] [] (upd σ30 16 (nI (q + 1))) τ30 _
              rw [show nI run + 1 = nI (run + 1) from nI_1 run]
              obtain ⟨m1, rfl⟩ : ∃ m1, m = m1 + 1 := ⟨m - 1, by omega⟩
              have e1 : sT t (m1 + 1) q run fs acc = sT t m1 (q + 1) (run + 1) false (acc ++ [smlN (t.getD q 0)]) := by rw [tg_n hgd (by rw [decide_eq_false d20, decide_eq_false d8]; simp), hd]; first | rfl | simp [hg, c11]
              rw [e1, show nI acc.length + 1 = nI (acc ++ [smlN (t.getD q 0)]).length by rw [nI_1, List.length_append]; rfl]
              exact ih m1 (by omega) (q + 1) (run + 1) false (acc ++ [smlN (t.getD q 0)]) _ _ _ _ _ (by omega) (by simp only [List.length_append, List.length_cons, List.length_nil]; omega) (by omega) (by rw [← List.append_assoc]; exact hS31)
            · replace c11 : fs = true := bi_eqf c11
              show Rx X c0 m_Mod_readTag 203 [.ref (c0 + 16), .int ((nI acc.length) + 1), .int ((nI run) + 1), .int (bi fs), .int 1, .int (hb t q), .int 1, .int 0] [] (upd σ30 16 (nI (q + 1))) τ30 _
              refine Rx.go (fun _ => rfl) ?_
              refine Rx.go (fun _ => rfl) ?_
              show Rx X c0 m_Mod_readTag 208 [.ref (c0 + 16), .int ((nI acc.length) + 1), .int ((nI run) + 1), .int (bi fs), .int 1, .int (hb t q), .int 1, .int 0] [] (upd σ30 16 (nI (q + 1))) τ30 _
              refine Rx.go (fun _ => rfl) ?_
              refine Rx.go (fun _ => rfl) ?_
              refine Rx.go (fun _ => rfl) ?_
              show Rx X c0 m_Mod_readTag 214 [.ref (c0 + 16), .int ((nI acc.length) + 1), .int ((nI run) + 1), .int 1, .int 1, .int (hb t q), .int 1, .int 0] [] (upd σ30 16 (nI (q + 1))) τ30 _
              refine Rx.go (fun _ => rfl) ?_
              show Rx X c0 m_Mod_readTag 31 [.ref (c0 + 16), .int ((nI acc.length) + 1), .int ((nI run) + 1), .int 1, .int 1, .int (hb t q), .int 1, .int 0] [] (upd σ30 16 (nI (q + 1))) τ30 _
              rw [show nI run + 1 = nI (run + 1) from nI_1 run]
              obtain ⟨m1, rfl⟩ : ∃ m1, m = m1 + 1 := ⟨m - 1, by omega⟩
              have e1 : sT t (m1 + 1) q run fs acc = sT t m1 (q + 1) (run + 1) true (acc ++ [smlN (t.getD q 0)]) := by rw [tg_n hgd (by rw [decide_eq_false d20, decide_eq_false d8]; simp), hd]; first | rfl | simp [hg, c11]
              rw [e1, show nI acc.length + 1 = nI (acc ++ [smlN (t.getD q 0)]).length by rw [nI_1, List.length_append]; rfl]
              exact ih m1 (by omega) (q + 1) (run + 1) true (acc ++ [smlN (t.getD q 0)]) _ _ _ _ _ (by omega) (by simp only [List.length_append, List.length_cons, List.length_nil]; omega) (by omega) (by rw [← List.append_assoc]; exact hS31)
          · replace c10 : ¬ (hb t q) < 65 := of_decide_eq_false c10
            show Rx X c0 m_Mod_readTag 153 [.ref (c0 + 16), .int (nI acc.length), .int (nI run), .int (bi fs), .int 1, .int (hb t q), .int 1, .int 0] [.ref (c0 + 16)] σ τ _
            refine Rx.go (fun _ => rfl) ?_
            refine Rx.go (fun _ => rfl) ?_
            refine Rx.go (fun _ => rfl) ?_
            refine Rx.ite (fun c12 => ?_) (fun c12 => ?_)
            · replace c12 : 90 < (hb t q) := of_decide_eq_true c12
              show Rx X c0 m_Mod_readTag 168 [.ref (c0 + 16), .int (nI acc.length), .int (nI run), .int (bi fs), .int 1, .int (hb t q), .int 1, .int 0] [.ref (c0 + 16)] σ τ _
              refine Rx.go (fun _ => rfl) ?_
              refine Rx.top (y := nI (smlN (t.getD q 0))) (by rw [hb_lt hlt]; exact sml_b (hS.z.by q) (Or.inr (by rw [← hb_lt hlt]; exact c12))) ?_
              refine Rx.callP rfl rfl rfl rfl (rs_put (smlN (t.getD q 0)) hS (by first | omega | (simp only [List.length_append, List.length_cons, List.length_nil]; omega))) ?_
              intro σ32 τ32 hS32
              show Rx X c0 m_Mod_readTag 173 [.ref (c0 + 16), .int (nI acc.length), .int (nI run), .int (bi fs), .int 1, .int (hb t q), .int 1, .int 0] [] σ32 τ32 _
              refine Rx.go (fun _ => rfl) ?_
              show Rx X c0 m_Mod_readTag 176 [.ref (c0 + 16), .int ((nI acc.length) + 1), .int (nI run), .int (bi fs), .int 1, .int (hb t q), .int 1, .int 0] [] σ32 τ32 _
              refine Rx.go (fun _ => rfl) ?_
              refine Rx.go (fun _ => rfl) ?_
              refine Rx.get rfl rfl ?_
              refine Rx.top (y := nI q) hS32.f16 ?_
              refine Rx.go (fun _ => rfl) ?_
              refine Rx.go (fun _ => rfl) ?_
              refine Rx.top (y := nI (q + 1)) (nI_1 _) ?_
              refine Rx.put rfl (by decide) rfl rfl ?_
              have hS33 := hS32.at1 hlt
              refine Rx.go (fun _ => rfl) ?_
              refine Rx.go (fun _ => rfl) ?_
              show Rx X c0 m_Mod_readTag 191 [.ref (c0 + 16), .int ((nI acc.length) + 1), .int (nI run), .int (bi fs), .int 1, .int (hb t q), .int 1, .int 0] [] (upd σ32 16 (nI (q + 1))) τ32 _
              refine Rx.go (fun _ => rfl) ?_
              refine Rx.go (fun _ => rfl) ?_
              refine Rx.go (fun _ => rfl) ?_
              refine Rx.go (fun _ => rfl) ?_
              refine Rx.go (fun _ => rfl) ?_
              show Rx X c0 m_Mod_readTag 199 [.ref (c0 + 16), .int ((nI acc.length) + 1), .int ((nI run) + 1), .int (bi fs), .int 1, .int (hb t q), .int 1, .int 0] [] (upd σ32 16 (nI (q + 1))) τ32 _
              refine Rx.go (fun _ => rfl) ?_
              refine Rx.go (fun _ => rfl) ?_
              refine Rx.ite (fun c13 => ?_) (fun c13 => ?_)
              · replace c13 : fs = false := bi_eqt c13
                show Rx X c0 m_Mod_readTag 212 [.ref (c0 + 16), .int ((nI acc.length) + 1), .int ((nI run) + 1), .int (bi fs), .int 1, .int (hb t q), .int 1, .int 0] [] (upd σ32 16 (nI (q + 1))) τ32 _
                refine Rx.go (fun _ => rfl) ?_
                refine Rx.go (fun _ => rfl) ?_
                show Rx X c0 m_Mod_readTag 214 [.ref (c0 + 16), .int ((nI acc.length) + 1), .int ((nI run) + 1), .int 0, .int 1, .int (hb t q), .int 1, .int 0] [] (upd σ32 16 (nI (q + 1))) τ32 _
                refine Rx.go (fun _ => rfl) ?_
                show Rx X c0 m_Mod_readTag 31 [.ref (c0 + 16), .int ((nI acc.length) + 1), .int ((nI run) + 1), .int 0, .int 1, .int (hb t q), .int 1, .int 0] [] (upd σ32 16 (nI (q + 1))) τ32 _
                rw [show nI run + 1 = nI (run + 1) from nI_1 run]
                obtain ⟨m1, rfl⟩ : ∃ m1, m = m1 + 1 := ⟨m - 1, by omega⟩
                have e1 : sT t (m1 + 1) q run fs acc = sT t m1 (q + 1) (run + 1) false (acc ++ [smlN (t.getD q 0)]) := by rw [tg_n hgd (by rw [decide_eq_false d20, decide_eq_false d8]; simp), hd]; first | rfl | simp [hg, c13]
                rw [e1, show nI acc.length + 1 = nI (acc ++ [smlN (t.getD q 0)]).length by rw [nI_1, List.length_append]; rfl]
                exact ih m1 (by omega) (q + 1) (run + 1) false (acc ++ [smlN (t.getD q 0)]) _ _ _ _ _ (by omega) (by simp only [List.length_append, List.length_cons, List.length_nil]; omega) (by omega) (by rw [← List.append_assoc]; exact hS33)
              · replace c13 : fs = true := bi_eqf c13
                show Rx X c0 m_Mod_readTag 203 [.ref (c0 + 16), .int ((nI acc.length) + 1), .int ((nI run) + 1), .int (bi fs), .int 1, .int (hb t q), .int 1, .int 0] [] (upd σ32 16 (nI (q + 1))) τ32 _
                refine Rx.go (fun _ => rfl) ?_
                refine Rx.go (fun _ => rfl) ?_
                show Rx X c0 m_Mod_readTag 208 [.ref (c0 + 16), .int ((nI acc.length) + 1), .int ((nI run) + 1), .int (bi fs), .int 1, .int (hb t q), .int 1, .int 0] [] (upd σ32 16 (nI (q + 1))) τ32 _
                refine Rx.go (fun _ => rfl) ?_
                refine Rx.go (fun _ => rfl) ?_
                refine Rx.go (fun _ => rfl) ?_
                show Rx X c0 m_Mod_readTag 214 [.ref (c0 + 16), .int ((nI acc.length) + 1), .int ((nI run) + 1), .int 1, .int 1, .int (hb t q), .int 1, .int 0] [] (upd σ32 16 (nI (q + 1))) τ32 _
                refine Rx.go (fun _ => rfl) ?_
                show Rx X c0 m_Mod_readTag 31 [.ref (c0 + 16), .int ((nI acc.length) + 1), .int ((nI run) + 1), .int 1, .int 1, .int (hb t q), .int 1, .int 0] [] (upd σ32 16 (nI (q + 1))) τ32 _
                rw [show nI run + 1 = nI (run + 1) from nI_1 run]
                obtain ⟨m1, rfl⟩ : ∃ m1, m = m1 + 1 := ⟨m - 1, by omega⟩
                have e1 : sT t (m1 + 1) q run fs acc = sT t m1 (q + 1) (run + 1) true (acc ++ [smlN (t.getD q 0)]) := by rw [tg_n hgd (by rw [decide_eq_false d20, decide_eq_false d8]; simp), hd]; first | rfl | simp [hg, c13]
                rw [e1, show nI acc.length + 1 = nI (acc ++ [smlN (t.getD q 0)]).length by rw [nI_1, List.length_append]; rfl]
                exact ih m1 (by omega) (q + 1) (run + 1) true (acc ++ [smlN (t.getD q 0)]) _ _ _ _ _ (by omega) (by simp only [List.length_append, List.length_cons, List.length_nil]; omega) (by omega) (by rw [← List.append_assoc]; exact hS33)
            · replace c12 : ¬ 90 < (hb t q) := of_decide_eq_false c12
              show Rx X c0 m_Mod_readTag 160 [.ref (c0 + 16), .int (nI acc.length), .int (nI run), .int (bi fs), .int 1, .int (hb t q), .int 1, .int 0] [.ref (c0 + 16)] σ τ _
              refine Rx.go (fun _ => rfl) ?_
              refine Rx.go (fun _ => rfl) ?_
              refine Rx.go (fun _ => rfl) ?_
              refine Rx.go (fun _ => rfl) ?_
              refine Rx.top (y := nI (smlN (t.getD q 0))) (by rw [hb_lt hlt]; exact sml_a (hS.z.by q) (by rw [← hb_lt hlt]; exact c10) (by rw [← hb_lt hlt]; exact c12)) ?_
              refine Rx.callP rfl rfl rfl rfl (rs_put (smlN (t.getD q 0)) hS (by first | omega | (simp only [List.length_append, List.length_cons, List.length_nil]; omega))) ?_
              intro σ34 τ34 hS34
              show Rx X c0 m_Mod_readTag 173 [.ref (c0 + 16), .int (nI acc.length), .int (nI run), .int (bi fs), .int 1, .int (hb t q), .int 1, .int 0] [] σ34 τ34 _
              refine Rx.go (fun _ => rfl) ?_
              show Rx X c0 m_Mod_readTag 176 [.ref (c0 + 16), .int ((nI acc.length) + 1), .int (nI run), .int (bi fs), .int 1, .int (hb t q), .int 1, .int 0] [] σ34 τ34 _
              refine Rx.go (fun _ => rfl) ?_
              refine Rx.go (fun _ => rfl) ?_
              refine Rx.get rfl rfl ?_
              refine Rx.top (y := nI q) hS34.f16 ?_
              refine Rx.go (fun _ => rfl) ?_
              refine Rx.go (fun _ => rfl) ?_
              refine Rx.top (y := nI (q + 1)) (nI_1 _) ?_
              refine Rx.put rfl (by decide) rfl rfl ?_
              have hS35 := hS34.at1 hlt
              refine Rx.go (fun _ => rfl) ?_
              refine Rx.go (fun _ => rfl) ?_
              show Rx X c0 m_Mod_readTag 191 [.ref (c0 + 16), .int ((nI acc.length) + 1), .int (nI run), .int (bi fs), .int 1, .int (hb t q), .int 1, .int 0] [] (upd σ34 16 (nI (q + 1))) τ34 _
              refine Rx.go (fun _ => rfl) ?_
              refine Rx.go (fun _ => rfl) ?_
              refine Rx.go (fun _ => rfl) ?_
              refine Rx.go (fun _ => rfl) ?_
              refine Rx.go (fun _ => rfl) ?_
              show Rx X c0 m_Mod_readTag 199 [.ref (c0 + 16), .int ((nI acc.length) + 1), .int ((nI run) + 1), .int (bi fs), .int 1, .int (hb t q), .int 1, .int 0] [] (upd σ34 16 (nI (q + 1))) τ34 _
              refine Rx.go (fun _ => rfl) ?_
              refine Rx.go (fun _ => rfl) ?_
              refine Rx.ite (fun c14 => ?_) (fun c14 => ?_)
              · replace c14 : fs = false := bi_eqt c14
                show Rx X c0 m_Mod_readTag 212 [.ref (c0 + 16), .int ((nI acc.length) + 1), .int ((nI run) + 1), .int (bi fs), .int 1, .int (hb t q), .int 1, .int 0] [] (upd σ34 16 (nI (q + 1))) τ34 _
                refine Rx.go (fun _ => rfl) ?_
                refine Rx.go (fun _ => rfl) ?_
                show Rx X c0 m_Mod_readTag 214 [.ref (c0 + 16), .int ((nI acc.length) + 1), .int ((nI run) + 1), .int 0, .int 1, .int (hb t q), .int 1, .int 0] [] (upd σ34 16 (nI (q + 1))) τ34 _
                refine Rx.go (fun _ => rfl) ?_
                show Rx X c0 m_Mod_readTag 31 [.ref (c0 + 16), .int ((nI acc.length) + 1), .int ((nI run) + 1), .int 0, .int 1, .int (hb t q), .int 1, .int 0] [] (upd σ34 16 (nI (q + 1))) τ34 _
                rw [show nI run + 1 = nI (run + 1) from nI_1 run]
                obtain ⟨m1, rfl⟩ : ∃ m1, m = m1 + 1 := ⟨m - 1, by omega⟩
                have e1 : sT t (m1 + 1) q run fs acc = sT t m1 (q + 1) (run + 1) false (acc ++ [smlN (t.getD q 0)]) := by rw [tg_n hgd (by rw [decide_eq_false d20, decide_eq_false d8]; simp), hd]; first | rfl | simp [hg, c14]
                rw [e1, show nI acc.length + 1 = nI (acc ++ [smlN (t.getD q 0)]).length by rw [nI_1, List.length_append]; rfl]
                exact ih m1 (by omega) (q + 1) (run + 1) false (acc ++ [smlN (t.getD q 0)]) _ _ _ _ _ (by omega) (by simp only [List.length_append, List.length_cons, List.length_nil]; omega) (by omega) (by rw [← List.append_assoc]; exact hS35)
              · replace c14 : fs = true := bi_eqf c14
                show Rx X c0 m_Mod_readTag 203 [.ref (c0 + 16), .int ((nI acc.length) + 1), .int ((nI run) + 1), .int (bi fs), .int 1, .int (hb t q), .int 1, .int 0] [] (upd σ34 16 (nI (q + 1))) τ34 _
                refine Rx.go (fun _ => rfl) ?_
                refine Rx.go (fun _ => rfl) ?_
                show Rx X c0 m_Mod_readTag 208 [.ref (c0 + 16), .int ((nI acc.length) + 1), .int ((nI run) + 1), .int (bi fs), .int 1, .int (hb t q), .int 1, .int 0] [] (upd σ34 16 (nI (q + 1))) τ34 _
                refine Rx.go (fun _ => rfl) ?_
                refine Rx.go (fun _ => rfl) ?_
                refine Rx.go (fun _ => rfl) ?_
                show Rx X c0 m_Mod_readTag 214 [.ref (c0 + 16), .int ((nI acc.length) + 1), .int ((nI run) + 1), .int 1, .int 1, .int (hb t q), .int 1, .int 0] [] (upd σ34 16 (nI (q + 1))) τ34 _
                refine Rx.go (fun _ => rfl) ?_
                show Rx X c0 m_Mod_readTag 31 [.ref (c0 + 16), .int ((nI acc.length) + 1), .int ((nI run) + 1), .int 1, .int 1, .int (hb t q), .int 1, .int 0] [] (upd σ34 16 (nI (q + 1))) τ34 _
                rw [show nI run + 1 = nI (run + 1) from nI_1 run]
                obtain ⟨m1, rfl⟩ : ∃ m1, m = m1 + 1 := ⟨m - 1, by omega⟩
                have e1 : sT t (m1 + 1) q run fs acc = sT t m1 (q + 1) (run + 1) true (acc ++ [smlN (t.getD q 0)]) := by rw [tg_n hgd (by rw [decide_eq_false d20, decide_eq_false d8]; simp), hd]; first | rfl | simp [hg, c14]
                rw [e1, show nI acc.length + 1 = nI (acc ++ [smlN (t.getD q 0)]).length by rw [nI_1, List.length_append]; rfl]
                exact ih m1 (by omega) (q + 1) (run + 1) true (acc ++ [smlN (t.getD q 0)]) _ _ _ _ _ (by omega) (by simp only [List.length_append, List.length_cons, List.length_nil]; omega) (by omega) (by rw [← List.append_assoc]; exact hS35)
        · replace c9 : (nI run) = 8 := Classical.not_not.mp (of_decide_eq_false c9)
          have d8 : run = 8 := (nI_eq (b := 8) (by omega) (by decide)).mp c9
          show Rx X c0 m_Mod_readTag 136 [.ref (c0 + 16), .int (nI acc.length), .int (nI run), .int (bi fs), .int 1, .int (hb t q), .int 1, .int 0] [] σ τ _
          refine Rx.go (fun _ => rfl) ?_
          refine Rx.go (fun _ => rfl) ?_
          refine Rx.go (fun _ => rfl) ?_
          refine Rx.get rfl rfl ?_
          refine Rx.top (y := nI q) hS.f16 ?_
          refine Rx.callP rfl rfl rfl rfl (rs_fl (wn := q) hS (by decide) rfl) ?_
          intro σ36 τ36 hS36
          show Rx X c0 m_Mod_readTag 145 [.ref (c0 + 16), .int (nI acc.length), .int (nI run), .int (bi fs), .int 1, .int (hb t q), .int 1, .int 0] [] σ36 τ36 _
          refine Rx.go (fun _ => rfl) ?_
          refine Rx.go (fun _ => rfl) ?_
          refine Rx.go (fun _ => rfl) ?_
          refine Rx.go (fun _ => rfl) ?_
          refine Rx.ite (fun c15 => ?_) (fun c15 => ?_)
          · replace c15 : (hb t q) < 65 := of_decide_eq_true c15
            show Rx X c0 m_Mod_readTag 168 [.ref (c0 + 16), .int (nI acc.length), .int (nI run), .int (bi fs), .int 1, .int (hb t q), .int 1, .int 0] [.ref (c0 + 16)] σ36 τ36 _
            refine Rx.go (fun _ => rfl) ?_
            refine Rx.callP rfl rfl rfl rfl (rg_put _ hS36 (by first | omega | (simp only [List.length_append, List.length_cons, List.length_nil]; omega))) ?_
            intro σ37 τ37 hS37
            show Rx X c0 m_Mod_readTag 173 [.ref (c0 + 16), .int (nI acc.length), .int (nI run), .int (bi fs), .int 1, .int (hb t q), .int 1, .int 0] [] σ37 τ37 _
            refine Rx.go (fun _ => rfl) ?_
            show Rx X c0 m_Mod_readTag 176 [.ref (c0 + 16), .int ((nI acc.length) + 1), .int (nI run), .int (bi fs), .int 1, .int (hb t q), .int 1, .int 0] [] σ37 τ37 _
            refine Rx.go (fun _ => rfl) ?_
            refine Rx.go (fun _ => rfl) ?_
            refine Rx.get rfl rfl ?_
            refine Rx.go (fun _ => rfl) ?_
            refine Rx.go (fun _ => rfl) ?_
            refine Rx.put rfl (by decide) rfl rfl ?_
            have hS38 := hS37.at1
            refine Rx.go (fun _ => rfl) ?_
            refine Rx.go (fun _ => rfl) ?_
            show Rx X c0 m_Mod_readTag 191 [.ref (c0 + 16), .int ((nI acc.length) + 1), .int (nI run), .int (bi fs), .int 1, .int (hb t q), .int 1, .int 0] [] (upd σ37 16 ((σ37 16) + 1)) τ37 _
            refine Rx.go (fun _ => rfl) ?_
            refine Rx.go (fun _ => rfl) ?_
            refine Rx.go (fun _ => rfl) ?_
            refine Rx.go (fun _ => rfl) ?_
            refine Rx.go (fun _ => rfl) ?_
            show Rx X c0 m_Mod_readTag 199 [.ref (c0 + 16), .int ((nI acc.length) + 1), .int ((nI run) + 1), .int (bi fs), .int 1, .int (hb t q), .int 1, .int 0] [] (upd σ37 16 ((σ37 16) + 1)) τ37 _
            refine Rx.go (fun _ => rfl) ?_
            refine Rx.go (fun _ => rfl) ?_
            refine Rx.ite (fun c16 => ?_) (fun c16 => ?_)
            · replace c16 : fs = false := bi_eqt c16
              show Rx X c0 m_Mod_readTag 212 [.ref (c0 + 16), .int ((nI acc.length) + 1), .int ((nI run) + 1), .int (bi fs), .int 1, .int (hb t q), .int 1, .int 0] [] (upd σ37 16 ((σ37 16) + 1)) τ37 _
              refine Rx.go (fun _ => rfl) ?_
              refine Rx.go (fun _ => rfl) ?_
              show Rx X c0 m_Mod_readTag 214 [.ref (c0 + 16), .int ((nI acc.length) + 1), .int ((nI run) + 1), .int 0, .int 1, .int (hb t q), .int 1, .int 0] [] (upd σ37 16 ((σ37 16) + 1)) τ37 _
              refine Rx.go (fun _ => rfl) ?_
              refine Rx.go (fun _ => rfl) ?_
              refine Rx.go (fun _ => rfl) ?_
              show Rx X c0 m_Mod_readTag 36 [.ref (c0 + 16), .int ((nI acc.length) + 1), .int ((nI run) + 1), .int 0, .int 1, .int (hb t q), .int 1, .int 0] [] (upd σ37 16 ((σ37 16) + 1)) τ37 _
              refine Rx.go (fun _ => rfl) ?_
              refine Rx.callE rfl rfl rfl rfl (rg_good hS38) ?_
              show Rx X c0 m_Mod_readTag 40 [.ref (c0 + 16), .int ((nI acc.length) + 1), .int ((nI run) + 1), .int 0, .int 1, .int (hb t q), .int 1, .int 0] [.int 0] (upd σ37 16 ((σ37 16) + 1)) τ37 _
              refine Rx.go (fun _ => rfl) ?_
              show Rx X c0 m_Mod_readTag 217 [.ref (c0 + 16), .int ((nI acc.length) + 1), .int ((nI run) + 1), .int 0, .int 1, .int (hb t q), .int 1, .int 0] [] (upd σ37 16 ((σ37 16) + 1)) τ37 _
              refine Rx.go (fun _ => rfl) ?_
              refine Rx.go (fun _ => rfl) ?_
              refine Rx.get rfl rfl ?_
              refine Rx.go (fun _ => rfl) ?_
              refine Rx.go (fun _ => rfl) ?_
              refine Rx.put rfl (by decide) rfl rfl ?_
              have hS39 := hS38.up (i := 13) (x := ((upd σ37 16 ((σ37 16) + 1)) 13) + ((nI acc.length) + 1)) (by omega)
              exact Rx.ret rfl rfl (rQ_f (b := acc) (tg_x hm hlt hgd (by rw [hg, decide_eq_true d8]; simp)) hS39 (by first | omega | (simp only [List.length_append, List.length_cons, List.length_nil]; omega)) (by omega))
            · replace c16 : fs = true := bi_eqf c16
              show Rx X c0 m_Mod_readTag 203 [.ref (c0 + 16), .int ((nI acc.length) + 1), .int ((nI run) + 1), .int (bi fs), .int 1, .int (hb t q), .int 1, .int 0] [] (upd σ37 16 ((σ37 16) + 1)) τ37 _
              refine Rx.go (fun _ => rfl) ?_
              refine Rx.go (fun _ => rfl) ?_
              show Rx X c0 m_Mod_readTag 208 [.ref (c0 + 16), .int ((nI acc.length) + 1), .int ((nI run) + 1), .int (bi fs), .int 1, .int (hb t q), .int 1, .int 0] [] (upd σ37 16 ((σ37 16) + 1)) τ37 _
              refine Rx.go (fun _ => rfl) ?_
              refine Rx.go (fun _ => rfl) ?_
              refine Rx.go (fun _ => rfl) ?_
              show Rx X c0 m_Mod_readTag 214 [.ref (c0 + 16), .int ((nI acc.length) + 1), .int ((nI run) + 1), .int 1, .int 1, .int (hb t q), .int 1, .int 0] [] (upd σ37 16 ((σ37 16) + 1)) τ37 _
              refine Rx.go (fun _ => rfl) ?_
              refine Rx.go (fun _ => rfl) ?_
              refine Rx.go (fun _ => rfl) ?_
              show Rx X c0 m_Mod_readTag 36 [.ref (c0 + 16), .int ((nI acc.length) + 1), .int ((nI run) + 1), .int 1, .int 1, .int (hb t q), .int 1, .int 0] [] (upd σ37 16 ((σ37 16) + 1)) τ37 _
              refine Rx.go (fun _ => rfl) ?_
              refine Rx.callE rfl rfl rfl rfl (rg_good hS38) ?_
              show Rx X c0 m_Mod_readTag 40 [.ref (c0 + 16), .int ((nI acc.length) + 1), .int ((nI run) + 1), .int 1, .int 1, .int (hb t q), .int 1, .int 0] [.int 0] (upd σ37 16 ((σ37 16) + 1)) τ37 _
              refine Rx.go (fun _ => rfl) ?_
              show Rx X c0 m_Mod_readTag 217 [.ref (c0 + 16), .int ((nI acc.length) + 1), .int ((nI run) + 1), .int 1, .int 1, .int (hb t q), .int 1, .int 0] [] (upd σ37 16 ((σ37 16) + 1)) τ37 _
              refine Rx.go (fun _ => rfl) ?_
              refine Rx.go (fun _ => rfl) ?_
              refine Rx.get rfl rfl ?_
              refine Rx.go (fun _ => rfl) ?_
              refine Rx.go (fun _ => rfl) ?_
              refine Rx.put rfl (by decide) rfl rfl ?_
              have hS40 := hS38.up (i := 13) (x := ((upd σ37 16 ((σ37 16) + 1)) 13) + ((nI acc.length) + 1)) (by omega)
              exact Rx.ret rfl rfl (rQ_f (b := acc) (tg_x hm hlt hgd (by rw [hg, decide_eq_true d8]; simp)) hS40 (by first | omega | (simp only [List.length_append, List.length_cons, List.length_nil]; omega)) (by omega))
          · replace c15 : ¬ (hb t q) < 65 := of_decide_eq_false c15
            show Rx X c0 m_Mod_readTag 153 [.ref (c0 + 16), .int (nI acc.length), .int (nI run), .int (bi fs), .int 1, .int (hb t q), .int 1, .int 0] [.ref (c0 + 16)] σ36 τ36 _
            refine Rx.go (fun _ => rfl) ?_
            refine Rx.go (fun _ => rfl) ?_
            refine Rx.go (fun _ => rfl) ?_
            refine Rx.ite (fun c17 => ?_) (fun c17 => ?_)
            · replace c17 : 90 < (hb t q) := of_decide_eq_true c17
              show Rx X c0 m_Mod_readTag 168 [.ref (c0 + 16), .int (nI acc.length), .int (nI run), .int (bi fs), .int 1, .int (hb t q), .int 1, .int 0] [.ref (c0 + 16)] σ36 τ36 _
              refine Rx.go (fun _ => rfl) ?_
              refine Rx.callP rfl rfl rfl rfl (rg_put _ hS36 (by first | omega | (simp only [List.length_append, List.length_cons, List.length_nil]; omega))) ?_
              intro σ41 τ41 hS41
              show Rx X c0 m_Mod_readTag 173 [.ref (c0 + 16), .int (nI acc.length), .int (nI run), .int (bi fs), .int 1, .int (hb t q), .int 1, .int 0] [] σ41 τ41 _
              refine Rx.go (fun _ => rfl) ?_
              show Rx X c0 m_Mod_readTag 176 [.ref (c0 + 16), .int ((nI acc.length) + 1), .int (nI run), .int (bi fs), .int 1, .int (hb t q), .int 1, .int 0] [] σ41 τ41 _
              refine Rx.go (fun _ => rfl) ?_
              refine Rx.go (fun _ => rfl) ?_
              refine Rx.get rfl rfl ?_
              refine Rx.go (fun _ => rfl) ?_
              refine Rx.go (fun _ => rfl) ?_
              refine Rx.put rfl (by decide) rfl rfl ?_
              have hS42 := hS41.at1
              refine Rx.go (fun _ => rfl) ?_
              refine Rx.go (fun _ => rfl) ?_
              show Rx X c0 m_Mod_readTag 191 [.ref (c0 + 16), .int ((nI acc.length) + 1), .int (nI run), .int (bi fs), .int 1, .int (hb t q), .int 1, .int 0] [] (upd σ41 16 ((σ41 16) + 1)) τ41 _
              refine Rx.go (fun _ => rfl) ?_
              refine Rx.go (fun _ => rfl) ?_
              refine Rx.go (fun _ => rfl) ?_
              refine Rx.go (fun _ => rfl) ?_
              refine Rx.go (fun _ => rfl) ?_
              show Rx X c0 m_Mod_readTag 199 [.ref (c0 + 16), .int ((nI acc.length) + 1), .int ((nI run) + 1), .int (bi fs), .int 1, .int (hb t q), .int 1, .int 0] [] (upd σ41 16 ((σ41 16) + 1)) τ41 _
              refine Rx.go (fun _ => rfl) ?_
              refine Rx.go (fun _ => rfl) ?_
              refine Rx.ite (fun c18 => ?_) (fun c18 => ?_)
              · replace c18 : fs = false := bi_eqt c18
                show Rx X c0 m_Mod_readTag 212 [.ref (c0 + 16), .int ((nI acc.length) + 1), .int ((nI run) + 1), .int (bi fs), .int 1, .int (hb t q), .int 1, .int 0] [] (upd σ41 16 ((σ41 16) + 1)) τ41 _
                refine Rx.go (fun _ => rfl) ?_
                refine Rx.go (fun _ => rfl) ?_
                show Rx X c0 m_Mod_readTag 214 [.ref (c0 + 16), .int ((nI acc.length) + 1), .int ((nI run) + 1), .int 0, .int 1, .int (hb t q), .int 1, .int 0] [] (upd σ41 16 ((σ41 16) + 1)) τ41 _
                refine Rx.go (fun _ => rfl) ?_
                refine Rx.go (fun _ => rfl) ?_
                refine Rx.go (fun _ => rfl) ?_
                show Rx X c0 m_Mod_readTag 36 [.ref (c0 + 16), .int ((nI acc.length) + 1), .int ((nI run) + 1), .int 0, .int 1, .int (hb t q), .int 1, .int 0] [] (upd σ41 16 ((σ41 16) + 1)) τ41 _
                refine Rx.go (fun _ => rfl) ?_
                refine Rx.callE rfl rfl rfl rfl (rg_good hS42) ?_
                show Rx X c0 m_Mod_readTag 40 [.ref (c0 + 16), .int ((nI acc.length) + 1), .int ((nI run) + 1), .int 0, .int 1, .int (hb t q), .int 1, .int 0] [.int 0] (upd σ41 16 ((σ41 16) + 1)) τ41 _
                refine Rx.go (fun _ => rfl) ?_
                show Rx X c0 m_Mod_readTag 217 [.ref (c0 + 16), .int ((nI acc.length) + 1), .int ((nI run) + 1), .int 0, .int 1, .int (hb t q), .int 1, .int 0] [] (upd σ41 16 ((σ41 16) + 1)) τ41 _
                refine Rx.go (fun _ => rfl) ?_
                refine Rx.go (fun _ => rfl) ?_
                refine Rx.get rfl rfl ?_
                refine Rx.go (fun _ => rfl) ?_
                refine Rx.go (fun _ => rfl) ?_
                refine Rx.put rfl (by decide) rfl rfl ?_
                have hS43 := hS42.up (i := 13) (x := ((upd σ41 16 ((σ41 16) + 1)) 13) + ((nI acc.length) + 1)) (by omega)
                exact Rx.ret rfl rfl (rQ_f (b := acc) (tg_x hm hlt hgd (by rw [hg, decide_eq_true d8]; simp)) hS43 (by first | omega | (simp only [List.length_append, List.length_cons, List.length_nil]; omega)) (by omega))
              · replace c18 : fs = true := bi_eqf c18
                show Rx X c0 m_Mod_readTag 203 [.ref (c0 + 16), .int ((nI acc.length) + 1), .int ((nI run) + 1), .int (bi fs), .int 1, .int (hb t q), .int 1, .int 0] [] (upd σ41 16 ((σ41 16) + 1)) τ41 _
                refine Rx.go (fun _ => rfl) ?_
                refine Rx.go (fun _ => rfl) ?_
                show Rx X c0 m_Mod_readTag 208 [.ref (c0 + 16), .int ((nI acc.length) + 1), .int ((nI run) + 1), .int (bi fs), .int 1, .int (hb t q), .int 1, .int 0] [] (upd σ41 16 ((σ41 16) + 1)) τ41 _
                refine Rx.go (fun _ => rfl) ?_
                refine Rx.go (fun _ => rfl) ?_
                refine Rx.go (fun _ => rfl) ?_
                show Rx X c0 m_Mod_readTag 214 [.ref (c0 + 16), .int ((nI acc.length) + 1), .int ((nI run) + 1), .int 1, .int 1, .int (hb t q), .int 1, .int 0] [] (upd σ41 16 ((σ41 16) + 1)) τ41 _
                refine Rx.go (fun _ => rfl) ?_
                refine Rx.go (fun _ => rfl) ?_
                refine Rx.go (fun _ => rfl) ?_
                show Rx X c0 m_Mod_readTag 36 [.ref (c0 + 16), .int ((nI acc.length) + 1), .int ((nI run) + 1), .int 1, .int 1, .int (hb t q), .int 1, .int 0] [] (upd σ41 16 ((σ41 16) + 1)) τ41 _
                refine Rx.go (fun _ => rfl) ?_
                refine Rx.callE rfl rfl rfl rfl (rg_good hS42) ?_
                show Rx X c0 m_Mod_readTag 40 [.ref (c0 + 16), .int ((nI acc.length) + 1), .int ((nI run) + 1), .int 1, .int 1, .int (hb t q), .int 1, .int 0] [.int 0] (upd σ41 16 ((σ41 16) + 1)) τ41 _
                refine Rx.go (fun _ => rfl) ?_
                show Rx X c0 m_Mod_readTag 217 [.ref (c0 + 16), .int ((nI acc.length) + 1), .int ((nI run) + 1), .int 1, .int 1, .int (hb t q), .int 1, .int 0] [] (upd σ41 16 ((σ41 16) + 1)) τ41 _
                refine Rx.go (fun _ => rfl) ?_
                refine Rx.go (fun _ => rfl) ?_
                refine Rx.get rfl rfl ?_
                refine Rx.go (fun _ => rfl) ?_
                refine Rx.go (fun _ => rfl) ?_
                refine Rx.put rfl (by decide) rfl rfl ?_
                have hS44 := hS42.up (i := 13) (x := ((upd σ41 16 ((σ41 16) + 1)) 13) + ((nI acc.length) + 1)) (by omega)
                exact Rx.ret rfl rfl (rQ_f (b := acc) (tg_x hm hlt hgd (by rw [hg, decide_eq_true d8]; simp)) hS44 (by first | omega | (simp only [List.length_append, List.length_cons, List.length_nil]; omega)) (by omega))
            · replace c17 : ¬ 90 < (hb t q) := of_decide_eq_false c17
              show Rx X c0 m_Mod_readTag 160 [.ref (c0 + 16), .int (nI acc.length), .int (nI run), .int (bi fs), .int 1, .int (hb t q), .int 1, .int 0] [.ref (c0 + 16)] σ36 τ36 _
              refine Rx.go (fun _ => rfl) ?_
              refine Rx.go (fun _ => rfl) ?_
              refine Rx.go (fun _ => rfl) ?_
              refine Rx.go (fun _ => rfl) ?_
              refine Rx.callP rfl rfl rfl rfl (rg_put _ hS36 (by first | omega | (simp only [List.length_append, List.length_cons, List.length_nil]; omega))) ?_
              intro σ45 τ45 hS45
              show Rx X c0 m_Mod_readTag 173 [.ref (c0 + 16), .int (nI acc.length), .int (nI run), .int (bi fs), .int 1, .int (hb t q), .int 1, .int 0] [] σ45 τ45 _
              refine Rx.go (fun _ => rfl) ?_
              show Rx X c0 m_Mod_readTag 176 [.ref (c0 + 16), .int ((nI acc.length) + 1), .int (nI run), .int (bi fs), .int 1, .int (hb t q), .int 1, .int 0] [] σ45 τ45 _
              refine Rx.go (fun _ => rfl) ?_
              refine Rx.go (fun _ => rfl) ?_
              refine Rx.get rfl rfl ?_
              refine Rx.go (fun _ => rfl) ?_
              refine Rx.go (fun _ => rfl) ?_
              refine Rx.put rfl (by decide) rfl rfl ?_
              have hS46 := hS45.at1
              refine Rx.go (fun _ => rfl) ?_
              refine Rx.go (fun _ => rfl) ?_
              show Rx X c0 m_Mod_readTag 191 [.ref (c0 + 16), .int ((nI acc.length) + 1), .int (nI run), .int (bi fs), .int 1, .int (hb t q), .int 1, .int 0] [] (upd σ45 16 ((σ45 16) + 1)) τ45 _
              refine Rx.go (fun _ => rfl) ?_
              refine Rx.go (fun _ => rfl) ?_
              refine Rx.go (fun _ => rfl) ?_
              refine Rx.go (fun _ => rfl) ?_
              refine Rx.go (fun _ => rfl) ?_
              show Rx X c0 m_Mod_readTag 199 [.ref (c0 + 16), .int ((nI acc.length) + 1), .int ((nI run) + 1), .int (bi fs), .int 1, .int (hb t q), .int 1, .int 0] [] (upd σ45 16 ((σ45 16) + 1)) τ45 _
              refine Rx.go (fun _ => rfl) ?_
              refine Rx.go (fun _ => rfl) ?_
              refine Rx.ite (fun c19 => ?_) (fun c19 => ?_)
              · replace c19 : fs = false := bi_eqt c19
                show Rx X c0 m_Mod_readTag 212 [.ref (c0 + 16), .int ((nI acc.length) + 1), .int ((nI run) + 1), .int (bi fs), .int 1, .int (hb t q), .int 1, .int 0] [] (upd σ45 16 ((σ45 16) + 1)) τ45 _
                refine Rx.go (fun _ => rfl) ?_
                refine Rx.go (fun _ => rfl) ?_
                show Rx X c0 m_Mod_readTag 214 [.ref (c0 + 16), .int ((nI acc.length) + 1), .int ((nI run) + 1), .int 0, .int 1, .int (hb t q), .int 1, .int 0] [] (upd σ45 16 ((σ45 16) + 1)) τ45 _
                refine Rx.go (fun _ => rfl) ?_
                refine Rx.go (fun _ => rfl) ?_
                refine Rx.go (fun _ => rfl) ?_
                show Rx X c0 m_Mod_readTag 36 [.ref (c0 + 16), .int ((nI acc.length) + 1), .int ((nI run) + 1), .int 0, .int 1, .int (hb t q), .int 1, .int 0] [] (upd σ45 16 ((σ45 16) + 1)) τ45 _
                refine Rx.go (fun _ => rfl) ?_
                refine Rx.callE rfl rfl rfl rfl (rg_good hS46) ?_
                show Rx X c0 m_Mod_readTag 40 [.ref (c0 + 16), .int ((nI acc.length) + 1), .int ((nI run) + 1), .int 0, .int 1, .int (hb t q), .int 1, .int 0] [.int 0] (upd σ45 16 ((σ45 16) + 1)) τ45 _
                refine Rx.go (fun _ => rfl) ?_
                show Rx X c0 m_Mod_readTag 217 [.ref (c0 + 16), .int ((nI acc.length) + 1), .int ((nI run) + 1), .int 0, .int 1, .int (hb t q), .int 1, .int 0] [] (upd σ45 16 ((σ45 16) + 1)) τ45 _
                refine Rx.go (fun _ => rfl) ?_
                refine Rx.go (fun _ => rfl) ?_
                refine Rx.get rfl rfl ?_
                refine Rx.go (fun _ => rfl) ?_
                refine Rx.go (fun _ => rfl) ?_
                refine Rx.put rfl (by decide) rfl rfl ?_
                have hS47 := hS46.up (i := 13) (x := ((upd σ45 16 ((σ45 16) + 1)) 13) + ((nI acc.length) + 1)) (by omega)
                exact Rx.ret rfl rfl (rQ_f (b := acc) (tg_x hm hlt hgd (by rw [hg, decide_eq_true d8]; simp)) hS47 (by first | omega | (simp only [List.length_append, List.length_cons, List.length_nil]; omega)) (by omega))
              · replace c19 : fs = true := bi_eqf c19
                show Rx X c0 m_Mod_readTag 203 [.ref (c0 + 16), .int ((nI acc.length) + 1), .int ((nI run) + 1), .int (bi fs), .int 1, .int (hb t q), .int 1, .int 0] [] (upd σ45 16 ((σ45 16) + 1)) τ45 _
                refine Rx.go (fun _ => rfl) ?_
                refine Rx.go (fun _ => rfl) ?_
                show Rx X c0 m_Mod_readTag 208 [.ref (c0 + 16), .int ((nI acc.length) + 1), .int ((nI run) + 1), .int (bi fs), .int 1, .int (hb t q), .int 1, .int 0] [] (upd σ45 16 ((σ45 16) + 1)) τ45 _
                refine Rx.go (fun _ => rfl) ?_
                refine Rx.go (fun _ => rfl) ?_
                refine Rx.go (fun _ => rfl) ?_
                show Rx X c0 m_Mod_readTag 214 [.ref (c0 + 16), .int ((nI acc.length) + 1), .int ((nI run) + 1), .int 1, .int 1, .int (hb t q), .int 1, .int 0] [] (upd σ45 16 ((σ45 16) + 1)) τ45 _
                refine Rx.go (fun _ => rfl) ?_
                refine Rx.go (fun _ => rfl) ?_
                refine Rx.go (fun _ => rfl) ?_
                show Rx X c0 m_Mod_readTag 36 [.ref (c0 + 16), .int ((nI acc.length) + 1), .int ((nI run) + 1), .int 1, .int 1, .int (hb t q), .int 1, .int 0] [] (upd σ45 16 ((σ45 16) + 1)) τ45 _
                refine Rx.go (fun _ => rfl) ?_
                refine Rx.callE rfl rfl rfl rfl (rg_good hS46) ?_
                show Rx X c0 m_Mod_readTag 40 [.ref (c0 + 16), .int ((nI acc.length) + 1), .int ((nI run) + 1), .int 1, .int 1, .int (hb t q), .int 1, .int 0] [.int 0] (upd σ45 16 ((σ45 16) + 1)) τ45 _
                refine Rx.go (fun _ => rfl) ?_
                show Rx X c0 m_Mod_readTag 217 [.ref (c0 + 16), .int ((nI acc.length) + 1), .int ((nI run) + 1), .int 1, .int 1, .int (hb t q), .int 1, .int 0] [] (upd σ45 16 ((σ45 16) + 1)) τ45 _
                refine Rx.go (fun _ => rfl) ?_
                refine Rx.go (fun _ => rfl) ?_
                refine Rx.get rfl rfl ?_
                refine Rx.go (fun _ => rfl) ?_
                refine Rx.go (fun _ => rfl) ?_
                refine Rx.put rfl (by decide) rfl rfl ?_
                have hS48 := hS46.up (i := 13) (x := ((upd σ45 16 ((σ45 16) + 1)) 13) + ((nI acc.length) + 1)) (by omega)
                exact Rx.ret rfl rfl (rQ_f (b := acc) (tg_x hm hlt hgd (by rw [hg, decide_eq_true d8]; simp)) hS48 (by first | omega | (simp only [List.length_append, List.length_cons, List.length_nil]; omega)) (by omega))
    · replace c2 : (hb t q) = 45 := Classical.not_not.mp (of_decide_eq_false c2)
      show Rx X c0 m_Mod_readTag 83 [.ref (c0 + 16), .int (nI acc.length), .int (nI run), .int (bi fs), .int 1, .int (hb t q), .int 1, b7] [] σ τ _
      refine Rx.go (fun _ => rfl) ?_
      refine Rx.go (fun _ => rfl) ?_
      refine Rx.ite (fun c20 => ?_) (fun c20 => ?_)
      · replace c20 : (nI run) ≤ 0 := of_decide_eq_true c20
        have dr : ¬ 0 < run := by have := (nI_leI (b := 0) (by omega) (by decide)).mp c20; omega
        show Rx X c0 m_Mod_readTag 91 [.ref (c0 + 16), .int (nI acc.length), .int (nI run), .int (bi fs), .int 1, .int (hb t q), .int 1, b7] [] σ τ _
        refine Rx.go (fun _ => rfl) ?_
        refine Rx.go (fun _ => rfl) ?_
        show Rx X c0 m_Mod_readTag 94 [.ref (c0 + 16), .int (nI acc.length), .int (nI run), .int (bi fs), .int 1, .int (hb t q), .int 1, .int 0] [] σ τ _
        have hg : (isL (hb t q) || (isD (hb t q) && !fs)) = true := by simp [c1]
        have hd : (decide (hb t q = 45) && decide (0 < run)) = false := by simp [c2, dr]
        have hgd : (isL (hb t q) || (isD (hb t q) && !fs)) = true ∨ (decide (hb t q = 45) && decide (0 < run)) = true := Or.inl hg
        have hlt := tg_lt hgd
        refine Rx.go (fun _ => rfl) ?_
        refine Rx.go (fun _ => rfl) ?_
        show Rx X c0 m_Mod_readTag 119 [.ref (c0 + 16), .int (nI acc.length), .int (nI run), .int (bi fs), .int 1, .int (hb t q), .int 1, .int 0] [] σ τ _
        refine Rx.go (fun _ => rfl) ?_
        refine Rx.go (fun _ => rfl) ?_
        refine Rx.go (fun _ => rfl) ?_
        refine Rx.ite (fun c21 => ?_) (fun c21 => ?_)
        · replace c21 : (nI acc.length) = 20 := of_decide_eq_true c21
          have d20 : acc.length = 20 := (nI_eq (b := 20) (by omega) (by decide)).mp c21
          show Rx X c0 m_Mod_readTag 136 [.ref (c0 + 16), .int (nI acc.length), .int (nI run), .int (bi fs), .int 1, .int (hb t q), .int 1, .int 0] [] σ τ _
          refine Rx.go (fun _ => rfl) ?_
          refine Rx.go (fun _ => rfl) ?_
          refine Rx.go (fun _ => rfl) ?_
          refine Rx.get rfl rfl ?_
          refine Rx.top (y := nI q) hS.f16 ?_
          refine Rx.callP rfl rfl rfl rfl (rs_fl (wn := q) hS (by decide) rfl) ?_
          intro σ49 τ49 hS49
          show Rx X c0 m_Mod_readTag 145 [.ref (c0 + 16), .int (nI acc.length), .int (nI run), .int (bi fs), .int 1, .int (hb t q), .int 1, .int 0] [] σ49 τ49 _
          refine Rx.go (fun _ => rfl) ?_
          refine Rx.go (fun _ => rfl) ?_
          refine Rx.go (fun _ => rfl) ?_
          refine Rx.go (fun _ => rfl) ?_
          refine Rx.ite (fun c22 => ?_) (fun c22 => ?_)
          · replace c22 : (hb t q) < 65 := of_decide_eq_true c22
            show Rx X c0 m_Mod_readTag 168 [.ref (c0 + 16), .int (nI acc.length), .int (nI run), .int (bi fs), .int 1, .int (hb t q), .int 1, .int 0] [.ref (c0 + 16)] σ49 τ49 _
            refine Rx.go (fun _ => rfl) ?_
            refine Rx.callP rfl rfl rfl rfl (rg_put _ hS49 (by first | omega | (simp only [List.length_append, List.length_cons, List.length_nil]; omega))) ?_
            intro σ50 τ50 hS50
            show Rx X c0 m_Mod_readTag 173 [.ref (c0 + 16), .int (nI acc.length), .int (nI run), .int (bi fs), .int 1, .int (hb t q), .int 1, .int 0] [] σ50 τ50 _
            refine Rx.go (fun _ => rfl) ?_
            show Rx X c0 m_Mod_readTag 176 [.ref (c0 + 16), .int ((nI acc.length) + 1), .int (nI run), .int (bi fs), .int 1, .int (hb t q), .int 1, .int 0] [] σ50 τ50 _
            refine Rx.go (fun _ => rfl) ?_
            refine Rx.go (fun _ => rfl) ?_
            refine Rx.get rfl rfl ?_
            refine Rx.go (fun _ => rfl) ?_
            refine Rx.go (fun _ => rfl) ?_
            refine Rx.put rfl (by decide) rfl rfl ?_
            have hS51 := hS50.at1
            refine Rx.go (fun _ => rfl) ?_
            refine Rx.go (fun _ => rfl) ?_
            show Rx X c0 m_Mod_readTag 191 [.ref (c0 + 16), .int ((nI acc.length) + 1), .int (nI run), .int (bi fs), .int 1, .int (hb t q), .int 1, .int 0] [] (upd σ50 16 ((σ50 16) + 1)) τ50 _
            refine Rx.go (fun _ => rfl) ?_
            refine Rx.go (fun _ => rfl) ?_
            refine Rx.go (fun _ => rfl) ?_
            refine Rx.go (fun _ => rfl) ?_
            refine Rx.go (fun _ => rfl) ?_
            show Rx X c0 m_Mod_readTag 199 [.ref (c0 + 16), .int ((nI acc.length) + 1), .int ((nI run) + 1), .int (bi fs), .int 1, .int (hb t q), .int 1, .int 0] [] (upd σ50 16 ((σ50 16) + 1)) τ50 _
            refine Rx.go (fun _ => rfl) ?_
            refine Rx.go (fun _ => rfl) ?_
            refine Rx.ite (fun c23 => ?_) (fun c23 => ?_)
            · replace c23 : fs = false := bi_eqt c23
              show Rx X c0 m_Mod_readTag 212 [.ref (c0 + 16), .int ((nI acc.length) + 1), .int ((nI run) + 1), .int (bi fs), .int 1, .int (hb t q), .int 1, .int 0] [] (upd σ50 16 ((σ50 16) + 1)) τ50 _
              refine Rx.go (fun _ => rfl) ?_
              refine Rx.go (fun _ => rfl) ?_
              show Rx X c0 m_Mod_readTag 214 [.ref (c0 + 16), .int ((nI acc.length) + 1), .int ((nI run) + 1), .int 0, .int 1, .int (hb t q), .int 1, .int 0] [] (upd σ50 16 ((σ50 16) + 1)) τ50 _
              refine Rx.go (fun _ => rfl) ?_
              refine Rx.go (fun _ => rfl) ?_
              refine Rx.go (fun _ => rfl) ?_
              show Rx X c0 m_Mod_readTag 36 [.ref (c0 + 16), .int ((nI acc.length) + 1), .int ((nI run) + 1), .int 0, .int 1, .int (hb t q), .int 1, .int 0] [] (upd σ50 16 ((σ50 16) + 1)) τ50 _
              refine Rx.go (fun _ => rfl) ?_
              refine Rx.callE rfl rfl rfl rfl (rg_good hS51) ?_
              show Rx X c0 m_Mod_readTag 40 [.ref (c0 + 16), .int ((nI acc.length) + 1), .int ((nI run) + 1), .int 0, .int 1, .int (hb t q), .int 1, .int 0] [.int 0] (upd σ50 16 ((σ50 16) + 1)) τ50 _
              refine Rx.go (fun _ => rfl) ?_
              show Rx X c0 m_Mod_readTag 217 [.ref (c0 + 16), .int ((nI acc.length) + 1), .int ((nI run) + 1), .int 0, .int 1, .int (hb t q), .int 1, .int 0] [] (upd σ50 16 ((σ50 16) + 1)) τ50 _
              refine Rx.go (fun _ => rfl) ?_
              refine Rx.go (fun _ => rfl) ?_
              refine Rx.get rfl rfl ?_
              refine Rx.go (fun _ => rfl) ?_
              refine Rx.go (fun _ => rfl) ?_
              refine Rx.put rfl (by decide) rfl rfl ?_
              have hS52 := hS51.up (i := 13) (x := ((upd σ50 16 ((σ50 16) + 1)) 13) + ((nI acc.length) + 1)) (by omega)
              exact Rx.ret rfl rfl (rQ_f (b := acc) (tg_x hm hlt hgd (by rw [decide_eq_true d20]; rfl)) hS52 (by first | omega | (simp only [List.length_append, List.length_cons, List.length_nil]; omega)) (by omega))
            · replace c23 : fs = true := bi_eqf c23
              show Rx X c0 m_Mod_readTag 203 [.ref (c0 + 16), .int ((nI acc.length) + 1), .int ((nI run) + 1), .int (bi fs), .int 1, .int (hb t q), .int 1, .int 0] [] (upd σ50 16 ((σ50 16) + 1)) τ50 _
              refine Rx.go (fun _ => rfl) ?_
              refine Rx.go (fun _ => rfl) ?_
              show Rx X c0 m_Mod_readTag 208 [.ref (c0 + 16), .int ((nI acc.length) + 1), .int ((nI run) + 1), .int (bi fs), .int 1, .int (hb t q), .int 1, .int 0] [] (upd σ50 16 ((σ50 16) + 1)) τ50 _
              refine Rx.go (fun _ => rfl) ?_
              refine Rx.go (fun _ => rfl) ?_
              refine Rx.go (fun _ => rfl) ?_
              show Rx X c0 m_Mod_readTag 214 [.ref (c0 + 16), .int ((nI acc.length) + 1), .int ((nI run) + 1), .int 1, .int 1, .int (hb t q), .int 1, .int 0] [] (upd σ50 16 ((σ50 16) + 1)) τ50 _
              refine Rx.go (fun _ => rfl) ?_
              refine Rx.go (fun _ => rfl) ?_
              refine Rx.go (fun _ => rfl) ?_
              show Rx X c0 m_Mod_readTag 36 [.ref (c0 + 16), .int ((nI acc.length) + 1), .int ((nI run) + 1), .int 1, .int 1, .int (hb t q), .int 1, .int 0] [] (upd σ50 16 ((σ50 16) + 1)) τ50 _
              refine Rx.go (fun _ => rfl) ?_
              refine Rx.callE rfl rfl rfl rfl (rg_good hS51) ?_
              show Rx X c0 m_Mod_readTag 40 [.ref (c0 + 16), .int ((nI acc.length) + 1), .int ((nI run) + 1), .int 1, .int 1, .int (hb t q), .int 1, .int 0] [.int 0] (upd σ50 16 ((σ50 16) + 1)) τ50 _
              refine Rx.go (fun _ => rfl) ?_
              show Rx X c0 m_Mod_readTag 217 [.ref (c0 + 16), .int ((nI acc.length) + 1), .int ((nI run) + 1), .int 1, .int 1, .int (hb t q), .int 1, .int 0] [] (upd σ50 16 ((σ50 16) + 1)) τ50 _
              refine Rx.go (fun _ => rfl) ?_
              refine Rx.go (fun _ => rfl) ?_
              refine Rx.get rfl rfl ?_
              refine Rx.go (fun _ => rfl) ?_
              refine Rx.go (fun _ => rfl) ?_
              refine Rx.put rfl (by decide) rfl rfl ?_
              have hS53 := hS51.up (i := 13) (x := ((upd σ50 16 ((σ50 16) + 1)) 13) + ((nI acc.length) + 1)) (by omega)
              exact Rx.ret rfl rfl (rQ_f (b := acc) (tg_x hm hlt hgd (by rw [decide_eq_true d20]; rfl)) hS53 (by first | omega | (simp only [List.length_append, List.length_cons, List.length_nil]; omega)) (by omega))
          · replace c22 : ¬ (hb t q) < 65 := of_decide_eq_false c22
            show Rx X c0 m_Mod_readTag 153 [.ref (c0 + 16), .int (nI acc.length), .int (nI run), .int (bi fs), .int 1, .int (hb t q), .int 1, .int 0] [.ref (c0 + 16)] σ49 τ49 _
            refine Rx.go (fun _ => rfl) ?_
            refine Rx.go (fun _ => rfl) ?_
            refine Rx.go (fun _ => rfl) ?_
            refine Rx.ite (fun c24 => ?_) (fun c24 => ?_)
            · replace c24 : 90 < (hb t q) := of_decide_eq_true c24
              show Rx X c0 m_Mod_readTag 168 [.ref (c0 + 16), .int (nI acc.length), .int (nI run), .int (bi fs), .int 1, .int (hb t q), .int 1, .int 0] [.ref (c0 + 16)] σ49 τ49 _
              refine Rx.go (fun _ => rfl) ?_
              refine Rx.callP rfl rfl rfl rfl (rg_put _ hS49 (by first | omega | (simp only [List.length_append, List.length_cons, List.length_nil]; omega))) ?_
              intro σ54 τ54 hS54
              show Rx X c0 m_Mod_readTag 173 [.ref (c0 + 16), .int (nI acc.length), .int (nI run), .int (bi fs), .int 1, .int (hb t q), .int 1, .int 0] [] σ54 τ54 _
              refine Rx.go (fun _ => rfl) ?_
              show Rx X c0 m_Mod_readTag 176 [.ref (c0 + 16), .int ((nI acc.length) + 1), .int (nI run), .int (bi fs), .int 1, .int (hb t q), .int 1, .int 0] [] σ54 τ54 _
              refine Rx.go (fun _ => rfl) ?_
              refine Rx.go (fun _ => rfl) ?_
              refine Rx.get rfl rfl ?_
              refine Rx.go (fun _ => rfl) ?_
              refine Rx.go (fun _ => rfl) ?_
              refine Rx.put rfl (by decide) rfl rfl ?_
              have hS55 := hS54.at1
              refine Rx.go (fun _ => rfl) ?_
              refine Rx.go (fun _ => rfl) ?_
              show Rx X c0 m_Mod_readTag 191 [.ref (c0 + 16), .int ((nI acc.length) + 1), .int (nI run), .int (bi fs), .int 1, .int (hb t q), .int 1, .int 0] [] (upd σ54 16 ((σ54 16) + 1)) τ54 _
              refine Rx.go (fun _ => rfl) ?_
              refine Rx.go (fun _ => rfl) ?_
              refine Rx.go (fun _ => rfl) ?_
              refine Rx.go (fun _ => rfl) ?_
              refine Rx.go (fun _ => rfl) ?_
              show Rx X c0 m_Mod_readTag 199 [.ref (c0 + 16), .int ((nI acc.length) + 1), .int ((nI run) + 1), .int (bi fs), .int 1, .int (hb t q), .int 1, .int 0] [] (upd σ54 16 ((σ54 16) + 1)) τ54 _
              refine Rx.go (fun _ => rfl) ?_
              refine Rx.go (fun _ => rfl) ?_
              refine Rx.ite (fun c25 => ?_) (fun c25 => ?_)
              · replace c25 : fs = false := bi_eqt c25
                show Rx X c0 m_Mod_readTag 212 [.ref (c0 + 16), .int ((nI acc.length) + 1), .int ((nI run) + 1), .int (bi fs), .int 1, .int (hb t q), .int 1, .int 0] [] (upd σ54 16 ((σ54 16) + 1)) τ54 _
                refine Rx.go (fun _ => rfl) ?_
                refine Rx.go (fun _ => rfl) ?_
                show Rx X c0 m_Mod_readTag 214 [.ref (c0 + 16), .int ((nI acc.length) + 1), .int ((nI run) + 1), .int 0, .int 1, .int (hb t q), .int 1, .int 0] [] (upd σ54 16 ((σ54 16) + 1)) τ54 _
                refine Rx.go (fun _ => rfl) ?_
                refine Rx.go (fun _ => rfl) ?_
                refine Rx.go (fun _ => rfl) ?_
                show Rx X c0 m_Mod_readTag 36 [.ref (c0 + 16), .int ((nI acc.length) + 1), .int ((nI run) + 1), .int 0, .int 1, .int (hb t q), .int 1, .int 0] [] (upd σ54 16 ((σ54 16) + 1)) τ54 _
                refine Rx.go (fun _ => rfl) ?_
                refine Rx.callE rfl rfl rfl rfl (rg_good hS55) ?_
                show Rx X c0 m_Mod_readTag 40 [.ref (c0 + 16), .int ((nI acc.length) + 1), .int ((nI run) + 1), .int 0, .int 1, .int (hb t q), .int 1, .int 0] [.int 0] (upd σ54 16 ((σ54 16) + 1)) τ54 _
                refine Rx.go (fun _ => rfl) ?_
                show Rx X c0 m_Mod_readTag 217 [.ref (c0 + 16), .int ((nI acc.length) + 1), .int ((nI run) + 1), .int 0, .int 1, .int (hb t q), .int 1, .int 0] [] (upd σ54 16 ((σ54 16) + 1)) τ54 _
                refine Rx.go (fun _ => rfl) ?_
                refine Rx.go (fun _ => rfl) ?_
                refine Rx.get rfl rfl ?_
                refine Rx.go (fun _ => rfl) ?_
                refine Rx.go (fun _ => rfl) ?_
                refine Rx.put rfl (by decide) rfl rfl ?_
                have hS56 := hS55.up (i := 13) (x := ((upd σ54 16 ((σ54 16) + 1)) 13) + ((nI acc.length) + 1)) (by omega)
                exact Rx.ret rfl rfl (rQ_f (b := acc) (tg_x hm hlt hgd (by rw [decide_eq_true d20]; rfl)) hS56 (by first | omega | (simp only [List.length_append, List.length_cons, List.length_nil]; omega)) (by omega))
              · replace c25 : fs = true := bi_eqf c25
                show Rx X c0 m_Mod_readTag 203 [.ref (c0 + 16), .int ((nI acc.length) + 1), .int ((nI run) + 1), .int (bi fs), .int 1, .int (hb t q), .int 1, .int 0] [] (upd σ54 16 ((σ54 16) + 1)) τ54 _
                refine Rx.go (fun _ => rfl) ?_
                refine Rx.go (fun _ => rfl) ?_
                show Rx X c0 m_Mod_readTag 208 [.ref (c0 + 16), .int ((nI acc.length) + 1), .int ((nI run) + 1), .int (bi fs), .int 1, .int (hb t q), .int 1, .int 0] [] (upd σ54 16 ((σ54 16) + 1)) τ54 _
                refine Rx.go (fun _ => rfl) ?_
                refine Rx.go (fun _ => rfl) ?_
                refine Rx.go (fun _ => rfl) ?_
                show Rx X c0 m_Mod_readTag 214 [.ref (c0 + 16), .int ((nI acc.length) + 1), .int ((nI run) + 1), .int 1, .int 1, .int (hb t q), .int 1, .int 0] [] (upd σ54 16 ((σ54 16) + 1)) τ54 _
                refine Rx.go (fun _ => rfl) ?_
                refine Rx.go (fun _ => rfl) ?_
                refine Rx.go (fun _ => rfl) ?_
                show Rx X c0 m_Mod_readTag 36 [.ref (c0 + 16), .int ((nI acc.length) + 1), .int ((nI run) + 1), .int 1, .int 1, .int (hb t q), .int 1, .int 0] [] (upd σ54 16 ((σ54 16) + 1)) τ54 _
                refine Rx.go (fun _ => rfl) ?_
                refine Rx.callE rfl rfl rfl rfl (rg_good hS55) ?_
                show Rx X c0 m_Mod_readTag 40 [.ref (c0 + 16), .int ((nI acc.length) + 1), .int ((nI run) + 1), .int 1, .int 1, .int (hb t q), .int 1, .int 0] [.int 0] (upd σ54 16 ((σ54 16) + 1)) τ54 _
                refine Rx.go (fun _ => rfl) ?_
                show Rx X c0 m_Mod_readTag 217 [.ref (c0 + 16), .int ((nI acc.length) + 1), .int ((nI run) + 1), .int 1, .int 1, .int (hb t q), .int 1, .int 0] [] (upd σ54 16 ((σ54 16) + 1)) τ54 _
                refine Rx.go (fun _ => rfl) ?_
                refine Rx.go (fun _ => rfl) ?_
                refine Rx.get rfl rfl ?_
                refine Rx.go (fun _ => rfl) ?_
                refine Rx.go (fun _ => rfl) ?_
                refine Rx.put rfl (by decide) rfl rfl ?_
                have hS57 := hS55.up (i := 13) (x := ((upd σ54 16 ((σ54 16) + 1)) 13) + ((nI acc.length) + 1)) (by omega)
                exact Rx.ret rfl rfl (rQ_f (b := acc) (tg_x hm hlt hgd (by rw [decide_eq_true d20]; rfl)) hS57 (by first | omega | (simp only [List.length_append, List.length_cons, List.length_nil]; omega)) (by omega))
            · replace c24 : ¬ 90 < (hb t q) := of_decide_eq_false c24
              show Rx X c0 m_Mod_readTag 160 [.ref (c0 + 16), .int (nI acc.length), .int (nI run), .int (bi fs), .int 1, .int (hb t q), .int 1, .int 0] [.ref (c0 + 16)] σ49 τ49 _
              refine Rx.go (fun _ => rfl) ?_
              refine Rx.go (fun _ => rfl) ?_
              refine Rx.go (fun _ => rfl) ?_
              refine Rx.go (fun _ => rfl) ?_
              refine Rx.callP rfl rfl rfl rfl (rg_put _ hS49 (by first | omega | (simp only [List.length_append, List.length_cons, List.length_nil]; omega))) ?_
              intro σ58 τ58 hS58
              show Rx X c0 m_Mod_readTag 173 [.ref (c0 + 16), .int (nI acc.length), .int (nI run), .int (bi fs), .int 1, .int (hb t q), .int 1, .int 0] [] σ58 τ58 _
              refine Rx.go (fun _ => rfl) ?_
              show Rx X c0 m_Mod_readTag 176 [.ref (c0 + 16), .int ((nI acc.length) + 1), .int (nI run), .int (bi fs), .int 1, .int (hb t q), .int 1, .int 0] [] σ58 τ58 _
              refine Rx.go (fun _ => rfl) ?_
              refine Rx.go (fun _ => rfl) ?_
              refine Rx.get rfl rfl ?_
              refine Rx.go (fun _ => rfl) ?_
              refine Rx.go (fun _ => rfl) ?_
              refine Rx.put rfl (by decide) rfl rfl ?_
              have hS59 := hS58.at1
              refine Rx.go (fun _ => rfl) ?_
              refine Rx.go (fun _ => rfl) ?_
              show Rx X c0 m_Mod_readTag 191 [.ref (c0 + 16), .int ((nI acc.length) + 1), .int (nI run), .int (bi fs), .int 1, .int (hb t q), .int 1, .int 0] [] (upd σ58 16 ((σ58 16) + 1)) τ58 _
              refine Rx.go (fun _ => rfl) ?_
              refine Rx.go (fun _ => rfl) ?_
              refine Rx.go (fun _ => rfl) ?_
              refine Rx.go (fun _ => rfl) ?_
              refine Rx.go (fun _ => rfl) ?_
              show Rx X c0 m_Mod_readTag 199 [.ref (c0 + 16), .int ((nI acc.length) + 1), .int ((nI run) + 1), .int (bi fs), .int 1, .int (hb t q), .int 1, .int 0] [] (upd σ58 16 ((σ58 16) + 1)) τ58 _
              refine Rx.go (fun _ => rfl) ?_
              refine Rx.go (fun _ => rfl) ?_
              refine Rx.ite (fun c26 => ?_) (fun c26 => ?_)
              · replace c26 : fs = false := bi_eqt c26
                show Rx X c0 m_Mod_readTag 212 [.ref (c0 + 16), .int ((nI acc.length) + 1), .int ((nI run) + 1), .int (bi fs), .int 1, .int (hb t q), .int 1, .int 0] [] (upd σ58 16 ((σ58 16) + 1)) τ58 _
                refine Rx.go (fun _ => rfl) ?_
                refine Rx.go (fun _ => rfl) ?_
                show Rx X c0 m_Mod_readTag 214 [.ref (c0 + 16), .int ((nI acc.length) + 1), .int ((nI run) + 1), .int 0, .int 1, .int (hb t q), .int 1, .int 0] [] (upd σ58 16 ((σ58 16) + 1)) τ58 _
                refine Rx.go (fun _ => rfl) ?_
                refine Rx.go (fun _ => rfl) ?_
                refine Rx.go (fun _ => rfl) ?_
                show Rx X c0 m_Mod_readTag 36 [.ref (c0 + 16), .int ((nI acc.length) + 1), .int ((nI run) + 1), .int 0, .int 1, .int (hb t q), .int 1, .int 0] [] (upd σ58 16 ((σ58 16) + 1)) τ58 _
                refine Rx.go (fun _ => rfl) ?_
                refine Rx.callE rfl rfl rfl rfl (rg_good hS59) ?_
                show Rx X c0 m_Mod_readTag 40 [.ref (c0 + 16), .int ((nI acc.length) + 1), .int ((nI run) + 1), .int 0, .int 1, .int (hb t q), .int 1, .int 0] [.int 0] (upd σ58 16 ((σ58 16) + 1)) τ58 _
                refine Rx.go (fun _ => rfl) ?_
                show Rx X c0 m_Mod_readTag 217 [.ref (c0 + 16), .int ((nI acc.length) + 1), .int ((nI run) + 1), .int 0, .int 1, .int (hb t q), .int 1, .int 0] [] (upd σ58 16 ((σ58 16) + 1)) τ58 _
                refine Rx.go (fun _ => rfl) ?_
                refine Rx.go (fun _ => rfl) ?_
                refine Rx.get rfl rfl ?_
                refine Rx.go (fun _ => rfl) ?_
                refine Rx.go (fun _ => rfl) ?_
                refine Rx.put rfl (by decide) rfl rfl ?_
                have hS60 := hS59.up (i := 13) (x := ((upd σ58 16 ((σ58 16) + 1)) 13) + ((nI acc.length) + 1)) (by omega)
                exact Rx.ret rfl rfl (rQ_f (b := acc) (tg_x hm hlt hgd (by rw [decide_eq_true d20]; rfl)) hS60 (by first | omega | (simp only [List.length_append, List.length_cons, List.length_nil]; omega)) (by omega))
              · replace c26 : fs = true := bi_eqf c26
                show Rx X c0 m_Mod_readTag 203 [.ref (c0 + 16), .int ((nI acc.length) + 1), .int ((nI run) + 1), .int (bi fs), .int 1, .int (hb t q), .int 1, .int 0] [] (upd σ58 16 ((σ58 16) + 1)) τ58 _
                refine Rx.go (fun _ => rfl) ?_
                refine Rx.go (fun _ => rfl) ?_
                show Rx X c0 m_Mod_readTag 208 [.ref (c0 + 16), .int ((nI acc.length) + 1), .int ((nI run) + 1), .int (bi fs), .int 1, .int (hb t q), .int 1, .int 0] [] (upd σ58 16 ((σ58 16) + 1)) τ58 _
                refine Rx.go (fun _ => rfl) ?_
                refine Rx.go (fun _ => rfl) ?_
                refine Rx.go (fun _ => rfl) ?_
                show Rx X c0 m_Mod_readTag 214 [.ref (c0 + 16), .int ((nI acc.length) + 1), .int ((nI run) + 1), .int 1, .int 1, .int (hb t q), .int 1, .int 0] [] (upd σ58 16 ((σ58 16) + 1)) τ58 _
                refine Rx.go (fun _ => rfl) ?_
                refine Rx.go (fun _ => rfl) ?_
                refine Rx.go (fun _ => rfl) ?_
                show Rx X c0 m_Mod_readTag 36 [.ref (c0 + 16), .int ((nI acc.length) + 1), .int ((nI run) + 1), .int 1, .int 1, .int (hb t q), .int 1, .int 0] [] (upd σ58 16 ((σ58 16) + 1)) τ58 _
                refine Rx.go (fun _ => rfl) ?_
                refine Rx.callE rfl rfl rfl rfl (rg_good hS59) ?_
                show Rx X c0 m_Mod_readTag 40 [.ref (c0 + 16), .int ((nI acc.length) + 1), .int ((nI run) + 1), .int 1, .int 1, .int (hb t q), .int 1, .int 0] [.int 0] (upd σ58 16 ((σ58 16) + 1)) τ58 _
                refine Rx.go (fun _ => rfl) ?_
                show Rx X c0 m_Mod_readTag 217 [.ref (c0 + 16), .int ((nI acc.length) + 1), .int ((nI run) + 1), .int 1, .int 1, .int (hb t q), .int 1, .int 0] [] (upd σ58 16 ((σ58 16) + 1)) τ58 _
                refine Rx.go (fun _ => rfl) ?_
                refine Rx.go (fun _ => rfl) ?_
                refine Rx.get rfl rfl ?_
                refine Rx.go (fun _ => rfl) ?_
                refine Rx.go (fun _ => rfl) ?_
                refine Rx.put rfl (by decide) rfl rfl ?_
                have hS61 := hS59.up (i := 13) (x := ((upd σ58 16 ((σ58 16) + 1)) 13) + ((nI acc.length) + 1)) (by omega)
                exact Rx.ret rfl rfl (rQ_f (b := acc) (tg_x hm hlt hgd (by rw [decide_eq_true d20]; rfl)) hS61 (by first | omega | (simp only [List.length_append, List.length_cons, List.length_nil]; omega)) (by omega))
        · replace c21 : ¬ (nI acc.length) = 20 := of_decide_eq_false c21
          have d20 : ¬ acc.length = 20 := fun e => c21 (by rw [e]; rfl)
          show Rx X c0 m_Mod_readTag 125 [.ref (c0 + 16), .int (nI acc.length), .int (nI run), .int (bi fs), .int 1, .int (hb t q), .int 1, .int 0] [] σ τ _
          refine Rx.go (fun _ => rfl) ?_
          refine Rx.go (fun _ => rfl) ?_
          show Rx X c0 m_Mod_readTag 130 [.ref (c0 + 16), .int (nI acc.length), .int (nI run), .int (bi fs), .int 1, .int (hb t q), .int 1, .int 0] [] σ τ _
          refine Rx.go (fun _ => rfl) ?_
          refine Rx.go (fun _ => rfl) ?_
          refine Rx.go (fun _ => rfl) ?_
          refine Rx.ite (fun c27 => ?_) (fun c27 => ?_)
          · replace c27 : ¬ (nI run) = 8 := of_decide_eq_true c27
            have d8 : ¬ run = 8 := fun e => c27 (by rw [e]; rfl)
            show Rx X c0 m_Mod_readTag 145 [.ref (c0 + 16), .int (nI acc.length), .int (nI run), .int (bi fs), .int 1, .int (hb t q), .int 1, .int 0] [] σ τ _
            refine Rx.go (fun _ => rfl) ?_
            refine Rx.go (fun _ => rfl) ?_
            refine Rx.go (fun _ => rfl) ?_
            refine Rx.go (fun _ => rfl) ?_
            refine Rx.ite (fun c28 => ?_) (fun c28 => ?_)
            · replace c28 : (hb t q) < 65 := of_decide_eq_true c28
              show Rx X c0 m_Mod_readTag 168 [.ref (c0 + 16), .int (nI acc.length), .int (nI run), .int (bi fs), .int 1, .int (hb t q), .int 1, .int 0] [.ref (c0 + 16)] σ τ _
              refine Rx.go (fun _ => rfl) ?_
              refine Rx.top (y := nI (smlN (t.getD q 0))) (by rw [hb_lt hlt]; exact sml_b (hS.z.by q) (Or.inl (by rw [← hb_lt hlt]; exact c28))) ?_
              refine Rx.callP rfl rfl rfl rfl (rs_put (smlN (t.getD q 0)) hS (by first | omega | (simp only [List.length_append, List.length_cons, List.length_nil]; omega))) ?_
              intro σ62 τ62 hS62
              show Rx X c0 m_Mod_readTag 173 [.ref (c0 + 16), .int (nI acc.length), .int (nI run), .int (bi fs), .int 1, .int (hb t q), .int 1, .int 0] [] σ62 τ62 _
              refine Rx.go (fun _ => rfl) ?_
              show Rx X c0 m_Mod_readTag 176 [.ref (c0 + 16), .int ((nI acc.length) + 1), .int (nI run), .int (bi fs), .int 1, .int (hb t q), .int 1, .int 0] [] σ62 τ62 _
              refine Rx.go (fun _ => rfl) ?_
              refine Rx.go (fun _ => rfl) ?_
              refine Rx.get rfl rfl ?_
              refine Rx.top (y := nI q) hS62.f16 ?_
              refine Rx.go (fun _ => rfl) ?_
              refine Rx.go (fun _ => rfl) ?_
              refine Rx.top (y := nI (q + 1)) (nI_1 _) ?_
              refine Rx.put rfl (by decide) rfl rfl ?_
              have hS63 := hS62.at1 hlt
              refine Rx.go (fun _ => rfl) ?_
              refine Rx.go (fun _ => rfl) ?_
              show Rx X c0 m_Mod_readTag 191 [.ref (c0 + 16), .int ((nI acc.length) + 1), .int (nI run), .int (bi fs), .int 1, .int (hb t q), .int 1, .int 0] [] (upd σ62 16 (nI (q + 1))) τ62 _
              refine Rx.go (fun _ => rfl) ?_
              refine Rx.go (fun _ => rfl) ?_
              refine Rx.go (fun _ => rfl) ?_
              refine Rx.go (fun _ => rfl) ?_
              refine Rx.go (fun _ => rfl) ?_
              show Rx X c0 m_Mod_readTag 199 [.ref (c0 + 16), .int ((nI acc.length) + 1), .int ((nI run) + 1), .int (bi fs), .int 1, .int (hb t q), .int 1, .int 0] [] (upd σ62 16 (nI (q + 1))) τ62 _
              refine Rx.go (fun _ => rfl) ?_
              refine Rx.go (fun _ => rfl) ?_
              refine Rx.ite (fun c29 => ?_) (fun c29 => ?_)
              · replace c29 : fs = false := bi_eqt c29
                show Rx X c0 m_Mod_readTag 212 [.ref (c0 + 16), .int ((nI acc.length) + 1), .int ((nI run) + 1), .int (bi fs), .int 1, .int (hb t q), .int 1, .int 0] [] (upd σ62 16 (nI (q + 1))) τ62 _
                refine Rx.go (fun _ => rfl) ?_
                refine Rx.go (fun _ => rfl) ?_
                show Rx X c0 m_Mod_readTag 214 [.ref (c0 + 16), .int ((nI acc.length) + 1), .int ((nI run) + 1), .int 0, .int 1, .int (hb t q), .int 1, .int 0] [] (upd σ62 16 (nI (q + 1))) τ62 _
                refine Rx.go (fun _ => rfl) ?_
                show Rx X c0 m_Mod_readTag 31 [.ref (c0 + 16), .int ((nI acc.length) + 1), .int ((nI run) + 1), .int 0, .int 1, .int (hb t q), .int 1, .int 0] [] (upd σ62 16 (nI (q + 1))) τ62 _
                rw [show nI run + 1 = nI (run + 1) from nI_1 run]
                obtain ⟨m1, rfl⟩ : ∃ m1, m = m1 + 1 := ⟨m - 1, by omega⟩
                have e1 : sT t (m1 + 1) q run fs acc = sT t m1 (q + 1) (run + 1) false (acc ++ [smlN (t.getD q 0)]) := by rw [tg_n hgd (by rw [decide_eq_false d20, decide_eq_false d8]; simp), hd]; first | rfl | simp [hg, c29]
                rw [e1, show nI acc.length + 1 = nI (acc ++ [smlN (t.getD q 0)]).length by rw [nI_1, List.length_append]; rfl]
                exact ih m1 (by omega) (q + 1) (run + 1) false (acc ++ [smlN (t.getD q 0)]) _ _ _ _ _ (by omega) (by simp only [List.length_append, List.length_cons, List.length_nil]; omega) (by omega) (by rw [← List.append_assoc]; exact hS63)
              · replace c29 : fs = true := bi_eqf c29
                show Rx X c0 m_Mod_readTag 203 [.ref (c0 + 16), .int ((nI acc.length) + 1), .int ((nI run) + 1), .int (bi fs), .int 1, .int (hb t q), .int 1, .int 0] [] (upd σ62 16 (nI (q + 1))) τ62 _
                refine Rx.go (fun _ => rfl) ?_
                refine Rx.go (fun _ => rfl) ?_
                show Rx X c0 m_Mod_readTag 208 [.ref (c0 + 16), .int ((nI acc.length) + 1), .int ((nI run) + 1), .int (bi fs), .int 1, .int (hb t q), .int 1, .int 0] [] (upd σ62 16 (nI (q + 1))) τ62 _
                refine Rx.go (fun _ => rfl) ?_
                refine Rx.go (fun _ => rfl) ?_
                refine Rx.go (fun _ => rfl) ?_
                show Rx X c0 m_Mod_readTag 214 [.ref (c0 + 16), .int ((nI acc.length) + 1), .int ((nI run) + 1), .int 1, .int 1, .int (hb t q), .int 1, .int 0] [] (upd σ62 16 (nI (q + 1))) τ62 _
                refine Rx.go (fun _ => rfl) ?_
                show Rx X c0 m_Mod_readTag 31 [.ref (c0 + 16), .int ((nI acc.length) + 1), .int ((nI run) + 1), .int 1, .int 1, .int (hb t q), .int 1, .int 0] [] (upd σ62 16 (nI (q + 1))) τ62 _
                rw [show nI run + 1 = nI (run + 1) from nI_1 run]
                obtain ⟨m1, rfl⟩ : ∃ m1, m = m1 + 1 := ⟨m - 1, by omega⟩
                have e1 : sT t (m1 + 1) q run fs acc = sT t m1 (q + 1) (run + 1) true (acc ++ [smlN (t.getD q 0)]) := by rw [tg_n hgd (by rw [decide_eq_false d20, decide_eq_false d8]; simp), hd]; first | rfl | simp [hg, c29]
                rw [e1, show nI acc.length + 1 = nI (acc ++ [smlN (t.getD q 0)]).length by rw [nI_1, List.length_append]; rfl]
                exact ih m1 (by omega) (q + 1) (run + 1) true (acc ++ [smlN (t.getD q 0)]) _ _ _ _ _ (by omega) (by simp only [List.length_append, List.length_cons, List.length_nil]; omega) (by omega) (by rw [← List.append_assoc]; exact hS63)
            · replace c28 : ¬ (hb t q) < 65 := of_decide_eq_false c28
              show Rx X c0 m_Mod_readTag 153 [.ref (c0 + 16), .int (nI acc.length), .int (nI run), .int (bi fs), .int 1, .int (hb t q), .int 1, .int 0] [.ref (c0 + 16)] σ τ _
              refine Rx.go (fun _ => rfl) ?_
              refine Rx.go (fun _ => rfl) ?_
              refine Rx.go (fun _ => rfl) ?_
              refine Rx.ite (fun c30 => ?_) (fun c30 => ?_)
              · replace c30 : 90 < (hb t q) := of_decide_eq_true c30
                show Rx X c0 m_Mod_readTag 168 [.ref (c0 + 16), .int (nI acc.length), .int (nI run), .int (bi fs), .int 1, .int (hb t q), .int 1, .int 0] [.ref (c0 + 16)] σ τ _
                refine Rx.go (fun _ => rfl) ?_
                refine Rx.top (y := nI (smlN (t.getD q 0))) (by rw [hb_lt hlt]; exact sml_b (hS.z.by q) (Or.inr (by rw [← hb_lt hlt]; exact c30))) ?_
                refine Rx.callP rfl rfl rfl rfl (rs_put (smlN (t.getD q 0)) hS (by first | omega | (simp only [List.length_append, List.length_cons, List.length_nil]; omega))) ?_
                intro σ64 τ64 hS64
                show Rx X c0 m_Mod_readTag 173 [.ref (c0 + 16), .int (nI acc.length), .int (nI run), .int (bi fs), .int 1, .int (hb t q), .int 1, .int 0] [] σ64 τ64 _
                refine Rx.go (fun _ => rfl) ?_
                show Rx X c0 m_Mod_readTag 176 [.ref (c0 + 16), .int ((nI acc.length) + 1), .int (nI run), .int (bi fs), .int 1, .int (hb t q), .int 1, .int 0] [] σ64 τ64 _
                refine Rx.go (fun _ => rfl) ?_
                refine Rx.go (fun _ => rfl) ?_
                refine Rx.get rfl rfl ?_
                refine Rx.top (y := nI q) hS64.f16 ?_
                refine Rx.go (fun _ => rfl) ?_
                refine Rx.go (fun _ => rfl) ?_
                refine Rx.top (y := nI (q + 1)) (nI_1 _) ?_
                refine Rx.put rfl (by decide) rfl rfl ?_
                have hS65 := hS64.at1 hlt
                refine Rx.go (fun _ => rfl) ?_
                refine Rx.go (fun _ => rfl) ?_
                show Rx X c0 m_Mod_readTag 191 [.ref (c0 + 16), .int ((nI acc.length) + 1), .int (nI run), .int (bi fs), .int 1, .int (hb t q), .int 1, .int 0] [] (upd σ64 16 (nI (q + 1))) τ64 _
                refine Rx.go (fun _ => rfl) ?_
                refine Rx.go (fun _ => rfl) ?_
                refine Rx.go (fun _ => rfl) ?_
                refine Rx.go (fun _ => rfl) ?_
                refine Rx.go (fun _ => rfl) ?_
                show Rx X c0 m_Mod_readTag 199 [.ref (c0 + 16), .int ((nI acc.length) + 1), .int ((nI run) + 1), .int (bi fs), .int 1, .int (hb t q), .int 1, .int 0] [] (upd σ64 16 (nI (q + 1))) τ64 _
                refine Rx.go (fun _ => rfl) ?_
                refine Rx.go (fun _ => rfl) ?_
                refine Rx.ite (fun c31 => ?_) (fun c31 => ?_)
                · replace c31 : fs = false := bi_eqt c31
                  show Rx X c0 m_Mod_readTag 212 [.ref (c0 + 16), .int ((nI acc.length) + 1), .int ((nI run) + 1), .int (bi fs), .int 1, .int (hb t q), .int 1, .int 0] [] (upd σ64 16 (nI (q + 1))) τ64 _
                  refine Rx.go (fun _ => rfl) ?_
                  refine Rx.go (fun _ => rfl) ?_
                  show Rx X c0 m_Mod_readTag 214 [.ref (c0 + 16), .int ((nI acc.length) + 1), .int ((nI run) + 1), .int 0, .int 1, .int (hb t q), .int 1, .int 0] [] (upd σ64 16 (nI (q + 1))) τ64 _
                  refine Rx.go (fun _ => rfl) ?_
                  show Rx X c0 m_Mod_readTag 31 [.ref (c0 + 16), .int ((nI acc.length) + 1), .int ((nI run) + 1), .int 0, .int 1, .int (hb t q), .int 1, .int 0] [] (upd σ64 16 (nI (q + 1))) τ64 _
                  rw [show nI run + 1 = nI (run + 1) from nI_1 run]
                  obtain ⟨m1, rfl⟩ : ∃ m1, m = m1 + 1 := ⟨m - 1, by omega⟩
                  have e1 : sT t (m1 + 1) q run fs acc = sT t m1 (q + 1) (run + 1) false (acc ++ [smlN (t.getD q 0)]) := by rw [tg_n hgd (by rw [decide_eq_false d20, decide_eq_false d8]; simp), hd]; first | rfl | simp [hg, c31]
                  rw [e1, show nI acc.length + 1 = nI (acc ++ [smlN (t.getD q 0)]).length by rw [nI_1, List.length_append]; rfl]
                  exact ih m1 (by omega) (q + 1) (run + 1) false (acc ++ [smlN (t.getD q 0)]) _ _ _ _ _ (by omega) (by simp only [List.length_append, List.length_cons, List.length_nil]; omega) (by omega) (by rw [← List.append_assoc]; exact hS65)
                · replace c31 : fs = true := bi_eqf c31
                  show Rx X c0 m_Mod_readTag 203 [.ref (c0 + 16), .int ((nI acc.length) + 1), .int ((nI run) + 1), .int (bi fs), .int 1, .int (hb t q), .int 1, .int 0] [] (upd σ64 16 (nI (q + 1))) τ64 _
                  refine Rx.go (fun _ => rfl) ?_
                  refine Rx.go (fun _ => rfl) ?_
                  show Rx X c0 m_Mod_readTag 208 [.ref (c0 + 16), .int ((nI acc.length) + 1), .int ((nI run) + 1), .int (bi fs), .int 1, .int (hb t q), .int 1, .int 0] [] (upd σ64 16 (nI (q + 1))) τ64 _
                  refine Rx.go (fun _ => rfl) ?_
                  refine Rx.go (fun _ => rfl) ?_
                  refine Rx.go (fun _ => rfl) ?_
                  show Rx X c0 m_Mod_readTag 214 [.ref (c0 + 16), .int ((nI acc.length) + 1), .int ((nI run) + 1), .int 1, .int 1, .int (hb t q), .int 1, .int 0] [] (upd σ64 16 (nI (q + 1))) τ64 _
                  refine Rx.go (fun _ => rfl) ?_
                  show Rx X c0 m_Mod_readTag 31 [.ref (c0 + 16), .int ((nI acc.length) + 1), .int ((nI run) + 1), .int 1, .int 1, .int (hb t q), .int 1, .int 0] [] (upd σ64 16 (nI (q + 1))) τ64 _
                  rw [show nI run + 1 = nI (run + 1) from nI_1 run]
                  obtain ⟨m1, rfl⟩ : ∃ m1, m = m1 + 1 := ⟨m - 1, by omega⟩
                  have e1 : sT t (m1 + 1) q run fs acc = sT t m1 (q + 1) (run + 1) true (acc ++ [smlN (t.getD q 0)]) := by rw [tg_n hgd (by rw [decide_eq_false d20, decide_eq_false d8]; simp), hd]; first | rfl | simp [hg, c31]
                  rw [e1, show nI acc.length + 1 = nI (acc ++ [smlN (t.getD q 0)]).length by rw [nI_1, List.length_append]; rfl]
                  exact ih m1 (by omega) (q + 1) (run + 1) true (acc ++ [smlN (t.getD q 0)]) _ _ _ _ _ (by omega) (by simp only [List.length_append, List.length_cons, List.length_nil]; omega) (by omega) (by rw [← List.append_assoc]; exact hS65)
              · replace c30 : ¬ 90 < (hb t q) := of_decide_eq_false c30
                show Rx X c0 m_Mod_readTag 160 [.ref (c0 + 16), .int (nI acc.length), .int (nI run), .int (bi fs), .int 1, .int (hb t q), .int 1, .int 0] [.ref (c0 + 16)] σ τ _
                refine Rx.go (fun _ => rfl) ?_
                refine Rx.go (fun _ => rfl) ?_
                refine Rx.go (fun _ => rfl) ?_
                refine Rx.go (fun _ => rfl) ?_
                refine Rx.top (y := nI (smlN (t.getD q 0))) (by rw [hb_lt hlt]; exact sml_a (hS.z.by q) (by rw [← hb_lt hlt]; exact c28) (by rw [← hb_lt hlt]; exact c30)) ?_
                refine Rx.callP rfl rfl rfl rfl (rs_put (smlN (t.getD q 0)) hS (by first | omega | (simp only [List.length_append, List.length_cons, List.length_nil]; omega))) ?_
                intro σ66 τ66 hS66
                show Rx X c0 m_Mod_readTag 173 [.ref (c0 + 16), .int (nI acc.length), .int (nI run), .int (bi fs), .int 1, .int (hb t q), .int 1, .int 0] [] σ66 τ66 _
                refine Rx.go (fun _ => rfl) ?_
                show Rx X c0 m_Mod_readTag 176 [.ref (c0 + 16), .int ((nI acc.length) + 1), .int (nI run), .int (bi fs), .int 1, .int (hb t q), .int 1, .int 0] [] σ66 τ66 _
                refine Rx.go (fun _ => rfl) ?_
                refine Rx.go (fun _ => rfl) ?_
                refine Rx.get rfl rfl ?_
                refine Rx.top (y := nI q) hS66.f16 ?_
                refine Rx.go (fun _ => rfl) ?_
                refine Rx.go (fun _ => rfl) ?_
                refine Rx.top (y := nI (q + 1)) (nI_1 _) ?_
                refine Rx.put rfl (by decide) rfl rfl ?_
                have hS67 := hS66.at1 hlt
                refine Rx.go (fun _ => rfl) ?_
                refine Rx.go (fun _ => rfl) ?_
                show Rx X c0 m_Mod_readTag 191 [.ref (c0 + 16), .int ((nI acc.length) + 1), .int (nI run), .int (bi fs), .int 1, .int (hb t q), .int 1, .int 0] [] (upd σ66 16 (nI (q + 1))) τ66 _
                refine Rx.go (fun _ => rfl) ?_
                refine Rx.go (fun _ => rfl) ?_
                refine Rx.go (fun _ => rfl) ?_
                refine Rx.go (fun _ => rfl) ?_
                refine Rx.go (fun _ => rfl) ?_
                show Rx X c0 m_Mod_readTag 199 [.ref (c0 + 16), .int ((nI acc.length) + 1), .int ((nI run) + 1), .int (bi fs), .int 1, .int (hb t q), .int 1, .int 0] [] (upd σ66 16 (nI (q + 1))) τ66 _
                refine Rx.go (fun _ => rfl) ?_
                refine Rx.go (fun _ => rfl) ?_
                refine Rx.ite (fun c32 => ?_) (fun c32 => ?_)
                · replace c32 : fs = false := bi_eqt c32
                  show Rx X c0 m_Mod_readTag 212 [.ref (c0 + 16), .int ((nI acc.length) + 1), .int ((nI run) + 1), .int (bi fs), .int 1, .int (hb t q), .int 1, .int 0] [] (upd σ66 16 (nI (q + 1))) τ66 _
                  refine Rx.go (fun _ => rfl) ?_
                  refine Rx.go (fun _ => rfl) ?_
                  show Rx X c0 m_Mod_readTag 214 [.ref (c0 + 16), .int ((nI acc.length) + 1), .int ((nI run) + 1), .int 0, .int 1, .int (hb t q), .int 1, .int 0] [] (upd σ66 16 (nI (q + 1))) τ66 _
                  refine Rx.go (fun _ => rfl) ?_
                  show Rx X c0 m_Mod_readTag 31 [.ref (c0 + 16), .int ((nI acc.length) + 1), .int ((nI run) + 1), .int 0, .int 1, .int (hb t q), .int 1, .int 0] [] (upd σ66 16 (nI (q + 1))) τ66 _
                  rw [show nI run + 1 = nI (run + 1) from nI_1 run]
                  obtain ⟨m1, rfl⟩ : ∃ m1, m = m1 + 1 := ⟨m - 1, by omega⟩
                  have e1 : sT t (m1 + 1) q run fs acc = sT t m1 (q + 1) (run + 1) false (acc ++ [smlN (t.getD q 0)]) := by rw [tg_n hgd (by rw [decide_eq_false d20, decide_eq_false d8]; simp), hd]; first | rfl | simp [hg, c32]
                  rw [e1, show nI acc.length + 1 = nI (acc ++ [smlN (t.getD q 0)]).length by rw [nI_1, List.length_append]; rfl]
                  exact ih m1 (by omega) (q + 1) (run + 1) false (acc ++ [smlN (t.getD q 0)]) _ _ _ _ _ (by omega) (by simp only [List.length_append, List.length_cons, List.length_nil]; omega) (by omega) (by rw [← List.append_assoc]; exact hS67)
                · replace c32 : fs = true := bi_eqf c32
                  show Rx X c0 m_Mod_readTag 203 [.ref (c0 + 16), .int ((nI acc.length) + 1), .int ((nI run) + 1), .int (bi fs), .int 1, .int (hb t q), .int 1, .int 0] [] (upd σ66 16 (nI (q + 1))) τ66 _
                  refine Rx.go (fun _ => rfl) ?_
                  refine Rx.go (fun _ => rfl) ?_
                  show Rx X c0 m_Mod_readTag 208 [.ref (c0 + 16), .int ((nI acc.length) + 1), .int ((nI run) + 1), .int (bi fs), .int 1, .int (hb t q), .int 1, .int 0] [] (upd σ66 16 (nI (q + 1))) τ66 _
                  refine Rx.go (fun _ => rfl) ?_
                  refine Rx.go (fun _ => rfl) ?_
                  refine Rx.go (fun _ => rfl) ?_
                  show Rx X c0 m_Mod_readTag 214 [.ref (c0 + 16), .int ((nI acc.length) + 1), .int ((nI run) + 1), .int 1, .int 1, .int (hb t q), .int 1, .int 0] [] (upd σ66 16 (nI (q + 1))) τ66 _
                  refine Rx.go (fun _ => rfl) ?_
                  show Rx X c0 m_Mod_readTag 31 [.ref (c0 + 16), .int ((nI acc.length) + 1), .int ((nI run) + 1), .int 1, .int 1, .int (hb t q), .int 1, .int 0] [] (upd σ66 16 (nI (q + 1))) τ66 _
                  rw [show nI run + 1 = nI (run + 1) from nI_1 run]
                  obtain ⟨m1, rfl⟩ : ∃ m1, m = m1 + 1 := ⟨m - 1, by omega⟩
                  have e1 : sT t (m1 + 1) q run fs acc = sT t m1 (q + 1) (run + 1) true (acc ++ [smlN (t.getD q 0)]) := by rw [tg_n hgd (by rw [decide_eq_false d20, decide_eq_false d8]; simp), hd]; first | rfl | simp [hg, c32]
                  rw [e1, show nI acc.length + 1 = nI (acc ++ [smlN (t.getD q 0)]).length by rw [nI_1, List.length_append]; rfl]
                  exact ih m1 (by omega) (q + 1) (run + 1) true (acc ++ [smlN (t.getD q 0)]) _ _ _ _ _ (by omega) (by simp only [List.length_append, List.length_cons, List.length_nil]; omega) (by omega) (by rw [← List.append_assoc]; exact hS67)
          · replace c27 : (nI run) = 8 := Classical.not_not.mp (of_decide_eq_false c27)
            have d8 : run = 8 := (nI_eq (b := 8) (by omega) (by decide)).mp c27
            show Rx X c0 m_Mod_readTag 136 [.ref (c0 + 16), .int (nI acc.length), .int (nI run), .int (bi fs), .int 1, .int (hb t q), .int 1, .int 0] [] σ τ _
            refine Rx.go (fun _ => rfl) ?_
            refine Rx.go (fun _ => rfl) ?_
            refine Rx.go (fun _ => rfl) ?_
            refine Rx.get rfl rfl ?_
            refine Rx.top (y := nI q) hS.f16 ?_
            refine Rx.callP rfl rfl rfl rfl (rs_fl (wn := q) hS (by decide) rfl) ?_
            intro σ68 τ68 hS68
            show Rx X c0 m_Mod_readTag 145 [.ref (c0 + 16), .int (nI acc.length), .int (nI run), .int (bi fs), .int 1, .int (hb t q), .int 1, .int 0] [] σ68 τ68 _
            refine Rx.go (fun _ => rfl) ?_
            refine Rx.go (fun _ => rfl) ?_
            refine Rx.go (fun _ => rfl) ?_
            refine Rx.go (fun _ => rfl) ?_
            refine Rx.ite (fun c33 => ?_) (fun c33 => ?_)
            · replace c33 : (hb t q) < 65 := of_decide_eq_true c33
              show Rx X c0 m_Mod_readTag 168 [.ref (c0 + 16), .int (nI acc.length), .int (nI run), .int (bi fs), .int 1, .int (hb t q), .int 1, .int 0] [.ref (c0 + 16)] σ68 τ68 _
              refine Rx.go (fun _ => rfl) ?_
              refine Rx.callP rfl rfl rfl rfl (rg_put _ hS68 (by first | omega | (simp only [List.length_append, List.length_cons, List.length_nil]; omega))) ?_
              intro σ69 τ69 hS69
              show Rx X c0 m_Mod_readTag 173 [.ref (c0 + 16), .int (nI acc.length), .int (nI run), .int (bi fs), .int 1, .int (hb t q), .int 1, .int 0] [] σ69 τ69 _
              refine Rx.go (fun _ => rfl) ?_
              show Rx X c0 m_Mod_readTag 176 [.ref (c0 + 16), .int ((nI acc.length) + 1), .int (nI run), .int (bi fs), .int 1, .int (hb t q), .int 1, .int 0] [] σ69 τ69 _
              refine Rx.go (fun _ => rfl) ?_
              refine Rx.go (fun _ => rfl) ?_
              refine Rx.get rfl rfl ?_
              refine Rx.go (fun _ => rfl) ?_
              refine Rx.go (fun _ => rfl) ?_
              refine Rx.put rfl (by decide) rfl rfl ?_
              have hS70 := hS69.at1
              refine Rx.go (fun _ => rfl) ?_
              refine Rx.go (fun _ => rfl) ?_
              show Rx X c0 m_Mod_readTag 191 [.ref (c0 + 16), .int ((nI acc.length) + 1), .int (nI run), .int (bi fs), .int 1, .int (hb t q), .int 1, .int 0] [] (upd σ69 16 ((σ69 16) + 1)) τ69 _
              refine Rx.go (fun _ => rfl) ?_
              refine Rx.go (fun _ => rfl) ?_
              refine Rx.go (fun _ => rfl) ?_
              refine Rx.go (fun _ => rfl) ?_
              refine Rx.go (fun _ => rfl) ?_
              show Rx X c0 m_Mod_readTag 199 [.ref (c0 + 16), .int ((nI acc.length) + 1), .int ((nI run) + 1), .int (bi fs), .int 1, .int (hb t q), .int 1, .int 0] [] (upd σ69 16 ((σ69 16) + 1)) τ69 _
              refine Rx.go (fun _ => rfl) ?_
              refine Rx.go (fun _ => rfl) ?_
              refine Rx.ite (fun c34 => ?_) (fun c34 => ?_)
              · replace c34 : fs = false := bi_eqt c34
                show Rx X c0 m_Mod_readTag 212 [.ref (c0 + 16), .int ((nI acc.length) + 1), .int ((nI run) + 1), .int (bi fs), .int 1, .int (hb t q), .int 1, .int 0] [] (upd σ69 16 ((σ69 16) + 1)) τ69 _
                refine Rx.go (fun _ => rfl) ?_
                refine Rx.go (fun _ => rfl) ?_
                show Rx X c0 m_Mod_readTag 214 [.ref (c0 + 16), .int ((nI acc.length) + 1), .int ((nI run) + 1), .int 0, .int 1, .int (hb t q), .int 1, .int 0] [] (upd σ69 16 ((σ69 16) + 1)) τ69 _
                refine Rx.go (fun _ => rfl) ?_
                refine Rx.go (fun _ => rfl) ?_
                refine Rx.go (fun _ => rfl) ?_
                show Rx X c0 m_Mod_readTag 36 [.ref (c0 + 16), .int ((nI acc.length) + 1), .int ((nI run) + 1), .int 0, .int 1, .int (hb t q), .int 1, .int 0] [] (upd σ69 16 ((σ69 16) + 1)) τ69 _
                refine Rx.go (fun _ => rfl) ?_
                refine Rx.callE rfl rfl rfl rfl (rg_good hS70) ?_
                show Rx X c0 m_Mod_readTag 40 [.ref (c0 + 16), .int ((nI acc.length) + 1), .int ((nI run) + 1), .int 0, .int 1, .int (hb t q), .int 1, .int 0] [.int 0] (upd σ69 16 ((σ69 16) + 1)) τ69 _
                refine Rx.go (fun _ => rfl) ?_
                show Rx X c0 m_Mod_readTag 217 [.ref (c0 + 16), .int ((nI acc.length) + 1), .int ((nI run) + 1), .int 0, .int 1, .int (hb t q), .int 1, .int 0] [] (upd σ69 16 ((σ69 16) + 1)) τ69 _
                refine Rx.go (fun _ => rfl) ?_
                refine Rx.go (fun _ => rfl) ?_
                refine Rx.get rfl rfl ?_
                refine Rx.go (fun _ => rfl) ?_
                refine Rx.go (fun _ => rfl) ?_
                refine Rx.put rfl (by decide) rfl rfl ?_
                have hS71 := hS70.up (i := 13) (x := ((upd σ69 16 ((σ69 16) + 1)) 13) + ((nI acc.length) + 1)) (by omega)
                exact Rx.ret rfl rfl (rQ_f (b := acc) (tg_x hm hlt hgd (by rw [hg, decide_eq_true d8]; simp)) hS71 (by first | omega | (simp only [List.length_append, List.length_cons, List.length_nil]; omega)) (by omega))
              · replace c34 : fs = true := bi_eqf c34
                show Rx X c0 m_Mod_readTag 203 [.ref (c0 + 16), .int ((nI acc.length) + 1), .int ((nI run) + 1), .int (bi fs), .int 1, .int (hb t q), .int 1, .int 0] [] (upd σ69 16 ((σ69 16) + 1)) τ69 _
                refine Rx.go (fun _ => rfl) ?_
                refine Rx.go (fun _ => rfl) ?_
                show Rx X c0 m_Mod_readTag 208 [.ref (c0 + 16), .int ((nI acc.length) + 1), .int ((nI run) + 1), .int (bi fs), .int 1, .int (hb t q), .int 1, .int 0] [] (upd σ69 16 ((σ69 16) + 1)) τ69 _
                refine Rx.go (fun _ => rfl) ?_
                refine Rx.go (fun _ => rfl) ?_
                refine Rx.go (fun _ => rfl) ?_
                show Rx X c0 m_Mod_readTag 214 [.ref (c0 + 16), .int ((nI acc.length) + 1), .int ((nI run) + 1), .int 1, .int 1, .int (hb t q), .int 1, .int 0] [] (upd σ69 16 ((σ69 16) + 1)) τ69 _
                refine Rx.go (fun _ => rfl) ?_
                refine Rx.go (fun _ => rfl) ?_
                refine Rx.go (fun _ => rfl) ?_
                show Rx X c0 m_Mod_readTag 36 [.ref (c0 + 16), .int ((nI acc.length) + 1), .int ((nI run) + 1), .int 1, .int 1, .int (hb t q), .int 1, .int 0] [] (upd σ69 16 ((σ69 16) + 1)) τ69 _
                refine Rx.go (fun _ => rfl) ?_
                refine Rx.callE rfl rfl rfl rfl (rg_good hS70) ?_
                show Rx X c0 m_Mod_readTag 40 [.ref (c0 + 16), .int ((nI acc.length) + 1), .int ((nI run) + 1), .int 1, .int 1, .int (hb t q), .int 1, .int 0] [.int 0] (upd σ69 16 ((σ69 16) + 1)) τ69 _
                refine Rx.go (fun _ => rfl) ?_
                show Rx X c0 m_Mod_readTag 217 [.ref (c0 + 16), .int ((nI acc.length) + 1), .int ((nI run) + 1), .int 1, .int 1, .int (hb t q), .int 1, .int 0] [] (upd σ69 16 ((σ69 16) + 1)) τ69 _
                refine Rx.go (fun _ => rfl) ?_
                refine Rx.go (fun _ => rfl) ?_
                refine Rx.get rfl rfl ?_
                refine Rx.go (fun _ => rfl) ?_
                refine Rx.go (fun _ => rfl) ?_
                refine Rx.put rfl (by decide) rfl rfl ?_
                have hS72 := hS70.up (i := 13) (x := ((upd σ69 16 ((σ69 16) + 1)) 13) + ((nI acc.length) + 1)) (by omega)
                exact Rx.ret rfl rfl (rQ_f (b := acc) (tg_x hm hlt hgd (by rw [hg, decide_eq_true d8]; simp)) hS72 (by first | omega | (simp only [List.length_append, List.length_cons, List.length_nil]; omega)) (by omega))
            · replace c33 : ¬ (hb t q) < 65 := of_decide_eq_false c33
              show Rx X c0 m_Mod_readTag 153 [.ref (c0 + 16), .int (nI acc.length), .int (nI run), .int (bi fs), .int 1, .int (hb t q), .int 1, .int 0] [.ref (c0 + 16)] σ68 τ68 _
              refine Rx.go (fun _ => rfl) ?_
              refine Rx.go (fun _ => rfl) ?_
              refine Rx.go (fun _ => rfl) ?_
              refine Rx.ite (fun c35 => ?_) (fun c35 => ?_)
              · replace c35 : 90 < (hb t q) := of_decide_eq_true c35
                show Rx X c0 m_Mod_readTag 168 [.ref (c0 + 16), .int (nI acc.length), .int (nI run), .int (bi fs), .int 1, .int (hb t q), .int 1, .int 0] [.ref (c0 + 16)] σ68 τ68 _
                refine Rx.go (fun _ => rfl) ?_
                refine Rx.callP rfl rfl rfl rfl (rg_put _ hS68 (by first | omega | (simp only [List.length_append, List.length_cons, List.length_nil]; omega))) ?_
                intro σ73 τ73 hS73
                show Rx X c0 m_Mod_readTag 173 [.ref (c0 + 16), .int (nI acc.length), .int (nI run), .int (bi fs), .int 1, .int (hb t q), .int 1, .int 0] [] σ73 τ73 _
                refine Rx.go (fun _ => rfl) ?_
                show Rx X c0 m_Mod_readTag 176 [.ref (c0 + 16), .int ((nI acc.length) + 1), .int (nI run), .int (bi fs), .int 1, .int (hb t q), .int 1, .int 0] [] σ73 τ73 _
                refine Rx.go (fun _ => rfl) ?_
                refine Rx.go (fun _ => rfl) ?_
                refine Rx.get rfl rfl ?_
                refine Rx.go (fun _ => rfl) ?_
                refine Rx.go (fun _ => rfl) ?_
                refine Rx.put rfl (by decide) rfl rfl ?_
                have hS74 := hS73.at1
                refine Rx.go (fun _ => rfl) ?_
                refine Rx.go (fun _ => rfl) ?_
                show Rx X c0 m_Mod_readTag 191 [.ref (c0 + 16), .int ((nI acc.length) + 1), .int (nI run), .int (bi fs), .int 1, .int (hb t q), .int 1, .int 0] [] (upd σ73 16 ((σ73 16) + 1)) τ73 _
                refine Rx.go (fun _ => rfl) ?_
                refine Rx.go (fun _ => rfl) ?_
                refine Rx.go (fun _ => rfl) ?_
                refine Rx.go (fun _ => rfl) ?_
                refine Rx.go (fun _ => rfl) ?_
                show Rx X c0 m_Mod_readTag 199 [.ref (c0 + 16), .int ((nI acc.length) + 1), .int ((nI run) + 1), .int (bi fs), .int 1, .int (hb t q), .int 1, .int 0] [] (upd σ73 16 ((σ73 16) + 1)) τ73 _
                refine Rx.go (fun _ => rfl) ?_
                refine Rx.go (fun _ => rfl) ?_
                refine Rx.ite (fun c36 => ?_) (fun c36 => ?_)
                · replace c36 : fs = false := bi_eqt c36
                  show Rx X c0 m_Mod_readTag 212 [.ref (c0 + 16), .int ((nI acc.length) + 1), .int ((nI run) + 1), .int (bi fs), .int 1, .int (hb t q), .int 1, .int 0] [] (upd σ73 16 ((σ73 16) + 1)) τ73 _
                  refine Rx.go (fun _ => rfl) ?_
                  refine Rx.go (fun _ => rfl) ?_
                  show Rx X c0 m_Mod_readTag 214 [.ref (c0 + 16), .int ((nI acc.length) + 1), .int ((nI run) + 1), .int 0, .int 1, .int (hb t q), .int 1, .int 0] [] (upd σ73 16 ((σ73 16) + 1)) τ73 _
                  refine Rx.go (fun _ => rfl) ?_
                  refine Rx.go (fun _ => rfl) ?_
                  refine Rx.go (fun _ => rfl) ?_
                  show Rx X c0 m_Mod_readTag 36 [.ref (c0 + 16), .int ((nI acc.length) + 1), .int ((nI run) + 1), .int 0, .int 1, .int (hb t q), .int 1, .int 0] [] (upd σ73 16 ((σ73 16) + 1)) τ73 _
                  refine Rx.go (fun _ => rfl) ?_
                  refine Rx.callE rfl rfl rfl rfl (rg_good hS74) ?_
                  show Rx X c0 m_Mod_readTag 40 [.ref (c0 + 16), .int ((nI acc.length) + 1), .int ((nI run) + 1), .int 0, .int 1, .int (hb t q), .int 1, .int 0] [.int 0] (upd σ73 16 ((σ73 16) + 1)) τ73 _
                  refine Rx.go (fun _ => rfl) ?_
                  show Rx X c0 m_Mod_readTag 217 [.ref (c0 + 16), .int ((nI acc.length) + 1), .int ((nI run) + 1), .int 0, .int 1, .int (hb t q), .int 1, .int 0] [] (upd σ73 16 ((σ73 16) + 1)) τ73 _
                  refine Rx.go (fun _ => rfl) ?_
                  refine Rx.go (fun _ => rfl) ?_
                  refine Rx.get rfl rfl ?_
                  refine Rx.go (fun _ => rfl) ?_
                  refine Rx.go (fun _ => rfl) ?_
                  refine Rx.put rfl (by decide) rfl rfl ?_
                  have hS75 := hS74.up (i := 13) (x := ((upd σ73 16 ((σ73 16) + 1)) 13) + ((nI acc.length) + 1)) (by omega)
                  exact Rx.ret rfl rfl (rQ_f (b := acc) (tg_x hm hlt hgd (by rw [hg, decide_eq_true d8]; simp)) hS75 (by first | omega | (simp only [List.length_append, List.length_cons, List.length_nil]; omega)) (by omega))
                · replace c36 : fs = true := bi_eqf c36
                  show Rx X c0 m_Mod_readTag 203 [.ref (c0 + 16), .int ((nI acc.length) + 1), .int ((nI run) + 1), .int (bi fs), .int 1, .int (hb t q), .int 1, .int 0] [] (upd σ73 16 ((σ73 16) + 1)) τ73 _
                  refine Rx.go (fun _ => rfl) ?_
                  refine Rx.go (fun _ => rfl) ?_
                  show Rx X c0 m_Mod_readTag 208 [.ref (c0 + 16), .int ((nI acc.length) + 1), .int ((nI run) + 1), .int (bi fs), .int 1, .int (hb t q), .int 1, .int 0] [] (upd σ73 16 ((σ73 16) + 1)) τ73 _
                  refine Rx.go (fun _ => rfl) ?_
                  refine Rx.go (fun _ => rfl) ?_
                  refine Rx.go (fun _ => rfl) ?_
                  show Rx X c0 m_Mod_readTag 214 [.ref (c0 + 16), .int ((nI acc.length) + 1), .int ((nI run) + 1), .int 1, .int 1, .int (hb t q), .int 1, .int 0] [] (upd σ73 16 ((σ73 16) + 1)) τ73 _
                  refine Rx.go (fun _ => rfl) ?_
                  refine Rx.go (fun _ => rfl) ?_
                  refine Rx.go (fun _ => rfl) ?_
                  show Rx X c0 m_Mod_readTag 36 [.ref (c0 + 16), .int ((nI acc.length) + 1), .int ((nI run) + 1), .int 1, .int 1, .int (hb t q), .int 1, .int 0] [] (upd σ73 16 ((σ73 16) + 1)) τ73 _
                  refine Rx.go (fun _ => rfl) ?_
                  refine Rx.callE rfl rfl rfl rfl (rg_good hS74) ?_
                  show Rx X c0 m_Mod_readTag 40 [.ref (c0 + 16), .int ((nI acc.length) + 1), .int ((nI run) + 1), .int 1, .int 1, .int (hb t q), .int 1, .int 0] [.int 0] (upd σ73 16 ((σ73 16) + 1)) τ73 _
                  refine Rx.go (fun _ => rfl) ?_
                  show Rx X c0 m_Mod_readTag 217 [.ref (c0 + 16), .int ((nI acc.length) + 1), .int ((nI run) + 1), .int 1, .int 1, .int (hb t q), .int 1, .int 0] [] (upd σ73 16 ((σ73 16) + 1)) τ73 _
                  refine Rx.go (fun _ => rfl) ?_
                  refine Rx.go (fun _ => rfl) ?_
                  refine Rx.get rfl rfl ?_
                  refine Rx.go (fun _ => rfl) ?_
                  refine Rx.go (fun _ => rfl) ?_
                  refine Rx.put rfl (by decide) rfl rfl ?_
                  have hS76 := hS74.up (i := 13) (x := ((upd σ73 16 ((σ73 16) + 1)) 13) + ((nI acc.length) + 1)) (by omega)
                  exact Rx.ret rfl rfl (rQ_f (b := acc) (tg_x hm hlt hgd (by rw [hg, decide_eq_true d8]; simp)) hS76 (by first | omega | (simp only [List.length_append, List.length_cons, List.length_nil]; omega)) (by omega))
              · replace c35 : ¬ 90 < (hb t q) := of_decide_eq_false c35
                show Rx X c0 m_Mod_readTag 160 [.ref (c0 + 16), .int (nI acc.length), .int (nI run), .int (bi fs), .int 1, .int (hb t q), .int 1, .int 0] [.ref (c0 + 16)] σ68 τ68 _
                refine Rx.go (fun _ => rfl) ?_
                refine Rx.go (fun _ => rfl) ?_
                refine Rx.go (fun _ => rfl) ?_
                refine Rx.go (fun _ => rfl) ?_
                refine Rx.callP rfl rfl rfl rfl (rg_put _ hS68 (by first | omega | (simp only [List.length_append, List.length_cons, List.length_nil]; omega))) ?_
                intro σ77 τ77 hS77
                show Rx X c0 m_Mod_readTag 173 [.ref (c0 + 16), .int (nI acc.length), .int (nI run), .int (bi fs), .int 1, .int (hb t q), .int 1, .int 0] [] σ77 τ77 _
                refine Rx.go (fun _ => rfl) ?_
                show Rx X c0 m_Mod_readTag 176 [.ref (c0 + 16), .int ((nI acc.length) + 1), .int (nI run), .int (bi fs), .int 1, .int (hb t q), .int 1, .int 0] [] σ77 τ77 _
                refine Rx.go (fun _ => rfl) ?_
                refine Rx.go (fun _ => rfl) ?_
                refine Rx.get rfl rfl ?_
                refine Rx.go (fun _ => rfl) ?_
                refine Rx.go (fun _ => rfl) ?_
                refine Rx.put rfl (by decide) rfl rfl ?_
                have hS78 := hS77.at1
                refine Rx.go (fun _ => rfl) ?_
                refine Rx.go (fun _ => rfl) ?_
                show Rx X c0 m_Mod_readTag 191 [.ref (c0 + 16), .int ((nI acc.length) + 1), .int (nI run), .int (bi fs), .int 1, .int (hb t q), .int 1, .int 0] [] (upd σ77 16 ((σ77 16) + 1)) τ77 _
                refine Rx.go (fun _ => rfl) ?_
                refine Rx.go (fun _ => rfl) ?_
                refine Rx.go (fun _ => rfl) ?_
                refine Rx.go (fun _ => rfl) ?_
                refine Rx.go (fun _ => rfl) ?_
                show Rx X c0 m_Mod_readTag 199 [.ref (c0 + 16), .int ((nI acc.length) + 1), .int ((nI run) + 1), .int (bi fs), .int 1, .int (hb t q), .int 1, .int 0] [] (upd σ77 16 ((σ77 16) + 1)) τ77 _
                refine Rx.go (fun _ => rfl) ?_
                refine Rx.go (fun _ => rfl) ?_
                refine Rx.ite (fun c37 => ?_) (fun c37 => ?_)
                · replace c37 : fs = false := bi_eqt c37
                  show Rx X c0 m_Mod_readTag 212 [.ref (c0 + 16), .int ((nI acc.length) + 1), .int ((nI run) + 1), .int (bi fs), .int 1, .int (hb t q), .int 1, .int 0] [] (upd σ77 16 ((σ77 16) + 1)) τ77 _
                  refine Rx.go (fun _ => rfl) ?_
                  refine Rx.go (fun _ => rfl) ?_
                  show Rx X c0 m_Mod_readTag 214 [.ref (c0 + 16), .int ((nI acc.length) + 1), .int ((nI run) + 1), .int 0, .int 1, .int (hb t q), .int 1, .int 0] [] (upd σ77 16 ((σ77 16) + 1)) τ77 _
                  refine Rx.go (fun _ => rfl) ?_
                  refine Rx.go (fun _ => rfl) ?_
                  refine Rx.go (fun _ => rfl) ?_
                  show Rx X c0 m_Mod_readTag 36 [.ref (c0 + 16), .int ((nI acc.length) + 1), .int ((nI run) + 1), .int 0, .int 1, .int (hb t q), .int 1, .int 0] [] (upd σ77 16 ((σ77 16) + 1)) τ77 _
                  refine Rx.go (fun _ => rfl) ?_
                  refine Rx.callE rfl rfl rfl rfl (rg_good hS78) ?_
                  show Rx X c0 m_Mod_readTag 40 [.ref (c0 + 16), .int ((nI acc.length) + 1), .int ((nI run) + 1), .int 0, .int 1, .int (hb t q), .int 1, .int 0] [.int 0] (upd σ77 16 ((σ77 16) + 1)) τ77 _
                  refine Rx.go (fun _ => rfl) ?_
                  show Rx X c0 m_Mod_readTag 217 [.ref (c0 + 16), .int ((nI acc.length) + 1), .int ((nI run) + 1), .int 0, .int 1, .int (hb t q), .int 1, .int 0] [] (upd σ77 16 ((σ77 16) + 1)) τ77 _
                  refine Rx.go (fun _ => rfl) ?_
                  refine Rx.go (fun _ => rfl) ?_
                  refine Rx.get rfl rfl ?_
                  refine Rx.go (fun _ => rfl) ?_
                  refine Rx.go (fun _ => rfl) ?_
                  refine Rx.put rfl (by decide) rfl rfl ?_
                  have hS79 := hS78.up (i := 13) (x := ((upd σ77 16 ((σ77 16) + 1)) 13) + ((nI acc.length) + 1)) (by omega)
                  exact Rx.ret rfl rfl (rQ_f (b := acc) (tg_x hm hlt hgd (by rw [hg, decide_eq_true d8]; simp)) hS79 (by first | omega | (simp only [List.length_append, List.length_cons, List.length_nil]; omega)) (by omega))
                · replace c37 : fs = true := bi_eqf c37
                  show Rx X c0 m_Mod_readTag 203 [.ref (c0 + 16), .int ((nI acc.length) + 1), .int ((nI run) + 1), .int (bi fs), .int 1, .int (hb t q), .int 1, .int 0] [] (upd σ77 16 ((σ77 16) + 1)) τ77 _
                  refine Rx.go (fun _ => rfl) ?_
                  refine Rx.go (fun _ => rfl) ?_
                  show Rx X c0 m_Mod_readTag 208 [.ref (c0 + 16), .int ((nI acc.length) + 1), .int ((nI run) + 1), .int (bi fs), .int 1, .int (hb t q), .int 1, .int 0] [] (upd σ77 16 ((σ77 16) + 1)) τ77 _
                  refine Rx.go (fun _ => rfl) ?_
                  refine Rx.go (fun _ => rfl) ?_
                  refine Rx.go (fun _ => rfl) ?_
                  show Rx X c0 m_Mod_readTag 214 [.ref (c0 + 16), .int ((nI acc.length) + 1), .int ((nI run) + 1), .int 1, .int 1, .int (hb t q), .int 1, .int 0] [] (upd σ77 16 ((σ77 16) + 1)) τ77 _
                  refine Rx.go (fun _ => rfl) ?_
                  refine Rx.go (fun _ => rfl) ?_
                  refine Rx.go (fun _ => rfl) ?_
                  show Rx X c0 m_Mod_readTag 36 [.ref (c0 + 16), .int ((nI acc.length) + 1), .int ((nI run) + 1), .int 1, .int 1, .int (hb t q), .int 1, .int 0] [] (upd σ77 16 ((σ77 16) + 1)) τ77 _
                  refine Rx.go (fun _ => rfl) ?_
                  refine Rx.callE rfl rfl rfl rfl (rg_good hS78) ?_
                  show Rx X c0 m_Mod_readTag 40 [.ref (c0 + 16), .int ((nI acc.length) + 1), .int ((nI run) + 1), .int 1, .int 1, .int (hb t q), .int 1, .int 0] [.int 0] (upd σ77 16 ((σ77 16) + 1)) τ77 _
                  refine Rx.go (fun _ => rfl) ?_
                  show Rx X c0 m_Mod_readTag 217 [.ref (c0 + 16), .int ((nI acc.length) + 1), .int ((nI run) + 1), .int 1, .int 1, .int (hb t q), .int 1, .int 0] [] (upd σ77 16 ((σ77 16) + 1)) τ77 _
                  refine Rx.go (fun _ => rfl) ?_
                  refine Rx.go (fun _ => rfl) ?_
                  refine Rx.get rfl rfl ?_
                  refine Rx.go (fun _ => rfl) ?_
                  refine Rx.go (fun _ => rfl) ?_
                  refine Rx.put rfl (by decide) rfl rfl ?_
                  have hS80 := hS78.up (i := 13) (x := ((upd σ77 16 ((σ77 16) + 1)) 13) + ((nI acc.length) + 1)) (by omega)
                  exact Rx.ret rfl rfl (rQ_f (b := acc) (tg_x hm hlt hgd (by rw [hg, decide_eq_true d8]; simp)) hS80 (by first | omega | (simp only [List.length_append, List.length_cons, List.length_nil]; omega)) (by omega))
      · replace c20 : ¬ (nI run) ≤ 0 := of_decide_eq_false c20
        have dr : 0 < run := Nat.pos_of_ne_zero (fun e => c20 (by rw [e]; exact Int32.le_refl _))
        show Rx X c0 m_Mod_readTag 87 [.ref (c0 + 16), .int (nI acc.length), .int (nI run), .int (bi fs), .int 1, .int (hb t q), .int 1, b7] [] σ τ _
        refine Rx.go (fun _ => rfl) ?_
        refine Rx.go (fun _ => rfl) ?_
        refine Rx.go (fun _ => rfl) ?_
        show Rx X c0 m_Mod_readTag 94 [.ref (c0 + 16), .int (nI acc.length), .int (nI run), .int (bi fs), .int 1, .int (hb t q), .int 1, .int 1] [] σ τ _
        have hg : (isL (hb t q) || (isD (hb t q) && !fs)) = true := by simp [c1]
        have hd : (decide (hb t q = 45) && decide (0 < run)) = true := by simp [c2, dr]
        exfalso
        rw [c2] at hg
        simp [L45, D45] at hg
  · replace c1 : (isL (hb t q)) = false := bi_nef c1
    show Rx X c0 m_Mod_readTag 57 [.ref (c0 + 16), .int (nI acc.length), .int (nI run), .int (bi fs), .int 1, .int (hb t q), b6, b7] [] σ τ _
    refine Rx.go (fun _ => rfl) ?_
    refine Rx.go (fun _ => rfl) ?_
    refine Rx.ite (fun c38 => ?_) (fun c38 => ?_)
    · replace c38 : fs = true := bi_net c38
      show Rx X c0 m_Mod_readTag 73 [.ref (c0 + 16), .int (nI acc.length), .int (nI run), .int (bi fs), .int 1, .int (hb t q), b6, b7] [] σ τ _
      refine Rx.go (fun _ => rfl) ?_
      refine Rx.go (fun _ => rfl) ?_
      show Rx X c0 m_Mod_readTag 76 [.ref (c0 + 16), .int (nI acc.length), .int (nI run), .int (bi fs), .int 1, .int (hb t q), .int 0, b7] [] σ τ _
      refine Rx.go (fun _ => rfl) ?_
      refine Rx.go (fun _ => rfl) ?_
      refine Rx.go (fun _ => rfl) ?_
      refine Rx.ite (fun c39 => ?_) (fun c39 => ?_)
      · replace c39 : ¬ (hb t q) = 45 := of_decide_eq_true c39
        show Rx X c0 m_Mod_readTag 91 [.ref (c0 + 16), .int (nI acc.length), .int (nI run), .int (bi fs), .int 1, .int (hb t q), .int 0, b7] [] σ τ _
        refine Rx.go (fun _ => rfl) ?_
        refine Rx.go (fun _ => rfl) ?_
        show Rx X c0 m_Mod_readTag 94 [.ref (c0 + 16), .int (nI acc.length), .int (nI run), .int (bi fs), .int 1, .int (hb t q), .int 0, .int 0] [] σ τ _
        have hg : (isL (hb t q) || (isD (hb t q) && !fs)) = false := by simp [c1, c38]
        have hd : (decide (hb t q = 45) && decide (0 < run)) = false := by simp [c39]
        refine Rx.go (fun _ => rfl) ?_
        refine Rx.go (fun _ => rfl) ?_
        show Rx X c0 m_Mod_readTag 99 [.ref (c0 + 16), .int (nI acc.length), .int (nI run), .int (bi fs), .int 1, .int (hb t q), .int 0, .int 0] [] σ τ _
        refine Rx.go (fun _ => rfl) ?_
        refine Rx.go (fun _ => rfl) ?_
        show Rx X c0 m_Mod_readTag 104 [.ref (c0 + 16), .int (nI acc.length), .int (nI run), .int (bi fs), .int 1, .int (hb t q), .int 0, .int 0] [] σ τ _
        refine Rx.go (fun _ => rfl) ?_
        refine Rx.go (fun _ => rfl) ?_
        refine Rx.ite (fun c40 => ?_) (fun c40 => ?_)
        · replace c40 : ¬ (nI run) = 0 := of_decide_eq_true c40
          have dz : 0 < run := Nat.pos_of_ne_zero (fun e => c40 (by rw [e]; rfl))
          show Rx X c0 m_Mod_readTag 113 [.ref (c0 + 16), .int (nI acc.length), .int (nI run), .int (bi fs), .int 1, .int (hb t q), .int 0, .int 0] [] σ τ _
          refine Rx.go (fun _ => rfl) ?_
          refine Rx.go (fun _ => rfl) ?_
          show Rx X c0 m_Mod_readTag 116 [.ref (c0 + 16), .int (nI acc.length), .int (nI run), .int (bi fs), .int 0, .int (hb t q), .int 0, .int 0] [] σ τ _
          refine Rx.go (fun _ => rfl) ?_
          refine Rx.go (fun _ => rfl) ?_
          refine Rx.go (fun _ => rfl) ?_
          show Rx X c0 m_Mod_readTag 217 [.ref (c0 + 16), .int (nI acc.length), .int (nI run), .int (bi fs), .int 0, .int (hb t q), .int 0, .int 0] [] σ τ _
          refine Rx.go (fun _ => rfl) ?_
          refine Rx.go (fun _ => rfl) ?_
          refine Rx.get rfl rfl ?_
          refine Rx.top (y := nI db) hS.f13 ?_
          refine Rx.go (fun _ => rfl) ?_
          refine Rx.go (fun _ => rfl) ?_
          refine Rx.top (y := nI (db + acc.length)) (nI_add _ _) ?_
          refine Rx.put rfl (by decide) rfl rfl ?_
          have hS81 := hS.db1 (x := (db + acc.length))
          exact Rx.ret rfl rfl (rQ_t (tg_e hm hg hd dz) hS81)
        · replace c40 : (nI run) = 0 := Classical.not_not.mp (of_decide_eq_false c40)
          have dz : run = 0 := (nI_eq (b := 0) (by omega) (by decide)).mp c40
          show Rx X c0 m_Mod_readTag 108 [.ref (c0 + 16), .int (nI acc.length), .int (nI run), .int (bi fs), .int 1, .int (hb t q), .int 0, .int 0] [] σ τ _
          refine Rx.go (fun _ => rfl) ?_
          refine Rx.go (fun _ => rfl) ?_
          refine Rx.callP rfl rfl rfl rfl (rs_ov_f false hS (fun h => Bool.false_ne_true h.2)) ?_
          intro σ82 τ82 hS82
          show Rx X c0 m_Mod_readTag 113 [.ref (c0 + 16), .int (nI acc.length), .int (nI run), .int (bi fs), .int 1, .int (hb t q), .int 0, .int 0] [] σ82 τ82 _
          refine Rx.go (fun _ => rfl) ?_
          refine Rx.go (fun _ => rfl) ?_
          show Rx X c0 m_Mod_readTag 116 [.ref (c0 + 16), .int (nI acc.length), .int (nI run), .int (bi fs), .int 0, .int (hb t q), .int 0, .int 0] [] σ82 τ82 _
          refine Rx.go (fun _ => rfl) ?_
          refine Rx.go (fun _ => rfl) ?_
          refine Rx.go (fun _ => rfl) ?_
          show Rx X c0 m_Mod_readTag 217 [.ref (c0 + 16), .int (nI acc.length), .int (nI run), .int (bi fs), .int 0, .int (hb t q), .int 0, .int 0] [] σ82 τ82 _
          refine Rx.go (fun _ => rfl) ?_
          refine Rx.go (fun _ => rfl) ?_
          refine Rx.get rfl rfl ?_
          refine Rx.go (fun _ => rfl) ?_
          refine Rx.go (fun _ => rfl) ?_
          refine Rx.put rfl (by decide) rfl rfl ?_
          have hS83 := hS82.up (i := 13) (x := (σ82 13) + (nI acc.length)) (by omega)
          exact Rx.ret rfl rfl (rQ_f (b := acc) (tg_f hm hg hd dz) hS83 (by first | omega | (simp only [List.length_append, List.length_cons, List.length_nil]; omega)) (by omega))
      · replace c39 : (hb t q) = 45 := Classical.not_not.mp (of_decide_eq_false c39)
        show Rx X c0 m_Mod_readTag 83 [.ref (c0 + 16), .int (nI acc.length), .int (nI run), .int (bi fs), .int 1, .int (hb t q), .int 0, b7] [] σ τ _
        refine Rx.go (fun _ => rfl) ?_
        refine Rx.go (fun _ => rfl) ?_
        refine Rx.ite (fun c41 => ?_) (fun c41 => ?_)
        · replace c41 : (nI run) ≤ 0 := of_decide_eq_true c41
          have dr : ¬ 0 < run := by have := (nI_leI (b := 0) (by omega) (by decide)).mp c41; omega
          show Rx X c0 m_Mod_readTag 91 [.ref (c0 + 16), .int (nI acc.length), .int (nI run), .int (bi fs), .int 1, .int (hb t q), .int 0, b7] [] σ τ _
          refine Rx.go (fun _ => rfl) ?_
          refine Rx.go (fun _ => rfl) ?_
          show Rx X c0 m_Mod_readTag 94 [.ref (c0 + 16), .int (nI acc.length), .int (nI run), .int (bi fs), .int 1, .int (hb t q), .int 0, .int 0] [] σ τ _
          have hg : (isL (hb t q) || (isD (hb t q) && !fs)) = false := by simp [c1, c38]
          have hd : (decide (hb t q = 45) && decide (0 < run)) = false := by simp [c39, dr]
          refine Rx.go (fun _ => rfl) ?_
          refine Rx.go (fun _ => rfl) ?_
          show Rx X c0 m_Mod_readTag 99 [.ref (c0 + 16), .int (nI acc.length), .int (nI run), .int (bi fs), .int 1, .int (hb t q), .int 0, .int 0] [] σ τ _
          refine Rx.go (fun _ => rfl) ?_
          refine Rx.go (fun _ => rfl) ?_
          show Rx X c0 m_Mod_readTag 104 [.ref (c0 + 16), .int (nI acc.length), .int (nI run), .int (bi fs), .int 1, .int (hb t q), .int 0, .int 0] [] σ τ _
          refine Rx.go (fun _ => rfl) ?_
          refine Rx.go (fun _ => rfl) ?_
          refine Rx.ite (fun c42 => ?_) (fun c42 => ?_)
          · replace c42 : ¬ (nI run) = 0 := of_decide_eq_true c42
            have dz : 0 < run := Nat.pos_of_ne_zero (fun e => c42 (by rw [e]; rfl))
            show Rx X c0 m_Mod_readTag 113 [.ref (c0 + 16), .int (nI acc.length), .int (nI run), .int (bi fs), .int 1, .int (hb t q), .int 0, .int 0] [] σ τ _
            refine Rx.go (fun _ => rfl) ?_
            refine Rx.go (fun _ => rfl) ?_
            show Rx X c0 m_Mod_readTag 116 [.ref (c0 + 16), .int (nI acc.length), .int (nI run), .int (bi fs), .int 0, .int (hb t q), .int 0, .int 0] [] σ τ _
            refine Rx.go (fun _ => rfl) ?_
            refine Rx.go (fun _ => rfl) ?_
            refine Rx.go (fun _ => rfl) ?_
            show Rx X c0 m_Mod_readTag 217 [.ref (c0 + 16), .int (nI acc.length), .int (nI run), .int (bi fs), .int 0, .int (hb t q), .int 0, .int 0] [] σ τ _
            refine Rx.go (fun _ => rfl) ?_
            refine Rx.go (fun _ => rfl) ?_
            refine Rx.get rfl rfl ?_
            refine Rx.top (y := nI db) hS.f13 ?_
            refine Rx.go (fun _ => rfl) ?_
            refine Rx.go (fun _ => rfl) ?_
            refine Rx.top (y := nI (db + acc.length)) (nI_add _ _) ?_
            refine Rx.put rfl (by decide) rfl rfl ?_
            have hS84 := hS.db1 (x := (db + acc.length))
            exact Rx.ret rfl rfl (rQ_t (tg_e hm hg hd dz) hS84)
          · replace c42 : (nI run) = 0 := Classical.not_not.mp (of_decide_eq_false c42)
            have dz : run = 0 := (nI_eq (b := 0) (by omega) (by decide)).mp c42
            show Rx X c0 m_Mod_readTag 108 [.ref (c0 + 16), .int (nI acc.length), .int (nI run), .int (bi fs), .int 1, .int (hb t q), .int 0, .int 0] [] σ τ _
            refine Rx.go (fun _ => rfl) ?_
            refine Rx.go (fun _ => rfl) ?_
            refine Rx.callP rfl rfl rfl rfl (rs_ov_f false hS (fun h => Bool.false_ne_true h.2)) ?_
            intro σ85 τ85 hS85
            show Rx X c0 m_Mod_readTag 113 [.ref (c0 + 16), .int (nI acc.length), .int (nI run), .int (bi fs), .int 1, .int (hb t q), .int 0, .int 0] [] σ85 τ85 _
            refine Rx.go (fun _ => rfl) ?_
            refine Rx.go (fun _ => rfl) ?_
            show Rx X c0 m_Mod_readTag 116 [.ref (c0 + 16), .int (nI acc.length), .int (nI run), .int (bi fs), .int 0, .int (hb t q), .int 0, .int 0] [] σ85 τ85 _
            refine Rx.go (fun _ => rfl) ?_
            refine Rx.go (fun _ => rfl) ?_
            refine Rx.go (fun _ => rfl) ?_
            show Rx X c0 m_Mod_readTag 217 [.ref (c0 + 16), .int (nI acc.length), .int (nI run), .int (bi fs), .int 0, .int (hb t q), .int 0, .int 0] [] σ85 τ85 _
            refine Rx.go (fun _ => rfl) ?_
            refine Rx.go (fun _ => rfl) ?_
            refine Rx.get rfl rfl ?_
            refine Rx.go (fun _ => rfl) ?_
            refine Rx.go (fun _ => rfl) ?_
            refine Rx.put rfl (by decide) rfl rfl ?_
            have hS86 := hS85.up (i := 13) (x := (σ85 13) + (nI acc.length)) (by omega)
            exact Rx.ret rfl rfl (rQ_f (b := acc) (tg_f hm hg hd dz) hS86 (by first | omega | (simp only [List.length_append, List.length_cons, List.length_nil]; omega)) (by omega))
        · replace c41 : ¬ (nI run) ≤ 0 := of_decide_eq_false c41
          have dr : 0 < run := Nat.pos_of_ne_zero (fun e => c41 (by rw [e]; exact Int32.le_refl _))
          show Rx X c0 m_Mod_readTag 87 [.ref (c0 + 16), .int (nI acc.length), .int (nI run), .int (bi fs), .int 1, .int (hb t q), .int 0, b7] [] σ τ _
          refine Rx.go (fun _ => rfl) ?_
          refine Rx.go (fun _ => rfl) ?_
          refine Rx.go (fun _ => rfl) ?_
          show Rx X c0 m_Mod_readTag 94 [.ref (c0 + 16), .int (nI acc.length), .int (nI run), .int (bi fs), .int 1, .int (hb t q), .int 0, .int 1] [] σ τ _
          have hg : (isL (hb t q) || (isD (hb t q) && !fs)) = false := by simp [c1, c38]
          have hd : (decide (hb t q = 45) && decide (0 < run)) = true := by simp [c39, dr]
          have hgd : (isL (hb t q) || (isD (hb t q) && !fs)) = true ∨ (decide (hb t q = 45) && decide (0 < run)) = true := Or.inr hd
          have hlt := tg_lt hgd
          refine Rx.go (fun _ => rfl) ?_
          refine Rx.go (fun _ => rfl) ?_
          show Rx X c0 m_Mod_readTag 99 [.ref (c0 + 16), .int (nI acc.length), .int (nI run), .int (bi fs), .int 1, .int (hb t q), .int 0, .int 1] [] σ τ _
          refine Rx.go (fun _ => rfl) ?_
          refine Rx.go (fun _ => rfl) ?_
          show Rx X c0 m_Mod_readTag 119 [.ref (c0 + 16), .int (nI acc.length), .int (nI run), .int (bi fs), .int 1, .int (hb t q), .int 0, .int 1] [] σ τ _
          refine Rx.go (fun _ => rfl) ?_
          refine Rx.go (fun _ => rfl) ?_
          refine Rx.go (fun _ => rfl) ?_
          refine Rx.ite (fun c43 => ?_) (fun c43 => ?_)
          · replace c43 : (nI acc.length) = 20 := of_decide_eq_true c43
            have d20 : acc.length = 20 := (nI_eq (b := 20) (by omega) (by decide)).mp c43
            show Rx X c0 m_Mod_readTag 136 [.ref (c0 + 16), .int (nI acc.length), .int (nI run), .int (bi fs), .int 1, .int (hb t q), .int 0, .int 1] [] σ τ _
            refine Rx.go (fun _ => rfl) ?_
            refine Rx.go (fun _ => rfl) ?_
            refine Rx.go (fun _ => rfl) ?_
            refine Rx.get rfl rfl ?_
            refine Rx.top (y := nI q) hS.f16 ?_
            refine Rx.callP rfl rfl rfl rfl (rs_fl (wn := q) hS (by decide) rfl) ?_
            intro σ87 τ87 hS87
            show Rx X c0 m_Mod_readTag 145 [.ref (c0 + 16), .int (nI acc.length), .int (nI run), .int (bi fs), .int 1, .int (hb t q), .int 0, .int 1] [] σ87 τ87 _
            refine Rx.go (fun _ => rfl) ?_
            refine Rx.go (fun _ => rfl) ?_
            refine Rx.go (fun _ => rfl) ?_
            refine Rx.go (fun _ => rfl) ?_
            refine Rx.ite (fun c44 => ?_) (fun c44 => ?_)
            · replace c44 : (hb t q) < 65 := of_decide_eq_true c44
              show Rx X c0 m_Mod_readTag 168 [.ref (c0 + 16), .int (nI acc.length), .int (nI run), .int (bi fs), .int 1, .int (hb t q), .int 0, .int 1] [.ref (c0 + 16)] σ87 τ87 _
              refine Rx.go (fun _ => rfl) ?_
              refine Rx.callP rfl rfl rfl rfl (rg_put _ hS87 (by first | omega | (simp only [List.length_append, List.length_cons, List.length_nil]; omega))) ?_
              intro σ88 τ88 hS88
              show Rx X c0 m_Mod_readTag 173 [.ref (c0 + 16), .int (nI acc.length), .int (nI run), .int (bi fs), .int 1, .int (hb t q), .int 0, .int 1] [] σ88 τ88 _
              refine Rx.go (fun _ => rfl) ?_
              show Rx X c0 m_Mod_readTag 176 [.ref (c0 + 16), .int ((nI acc.length) + 1), .int (nI run), .int (bi fs), .int 1, .int (hb t q), .int 0, .int 1] [] σ88 τ88 _
              refine Rx.go (fun _ => rfl) ?_
              refine Rx.go (fun _ => rfl) ?_
              refine Rx.get rfl rfl ?_
              refine Rx.go (fun _ => rfl) ?_
              refine Rx.go (fun _ => rfl) ?_
              refine Rx.put rfl (by decide) rfl rfl ?_
              have hS89 := hS88.at1
              refine Rx.go (fun _ => rfl) ?_
              refine Rx.go (fun _ => rfl) ?_
              show Rx X c0 m_Mod_readTag 197 [.ref (c0 + 16), .int ((nI acc.length) + 1), .int (nI run), .int (bi fs), .int 1, .int (hb t q), .int 0, .int 1] [] (upd σ88 16 ((σ88 16) + 1)) τ88 _
              refine Rx.go (fun _ => rfl) ?_
              refine Rx.go (fun _ => rfl) ?_
              show Rx X c0 m_Mod_readTag 199 [.ref (c0 + 16), .int ((nI acc.length) + 1), .int 0, .int (bi fs), .int 1, .int (hb t q), .int 0, .int 1] [] (upd σ88 16 ((σ88 16) + 1)) τ88 _
              refine Rx.go (fun _ => rfl) ?_
              refine Rx.go (fun _ => rfl) ?_
              refine Rx.ite (fun c45 => ?_) (fun c45 => ?_)
              · replace c45 : fs = false := bi_eqt c45
                exact Bool.noConfusion (c38.symm.trans c45)
              · replace c45 : fs = true := bi_eqf c45
                show Rx X c0 m_Mod_readTag 203 [.ref (c0 + 16), .int ((nI acc.length) + 1), .int 0, .int (bi fs), .int 1, .int (hb t q), .int 0, .int 1] [] (upd σ88 16 ((σ88 16) + 1)) τ88 _
                refine Rx.go (fun _ => rfl) ?_
                refine Rx.go (fun _ => rfl) ?_
                show Rx X c0 m_Mod_readTag 212 [.ref (c0 + 16), .int ((nI acc.length) + 1), .int 0, .int (bi fs), .int 1, .int (hb t q), .int 0, .int 1] [] (upd σ88 16 ((σ88 16) + 1)) τ88 _
                refine Rx.go (fun _ => rfl) ?_
                refine Rx.go (fun _ => rfl) ?_
                show Rx X c0 m_Mod_readTag 214 [.ref (c0 + 16), .int ((nI acc.length) + 1), .int 0, .int 0, .int 1, .int (hb t q), .int 0, .int 1] [] (upd σ88 16 ((σ88 16) + 1)) τ88 _
                refine Rx.go (fun _ => rfl) ?_
                refine Rx.go (fun _ => rfl) ?_
                refine Rx.go (fun _ => rfl) ?_
                show Rx X c0 m_Mod_readTag 36 [.ref (c0 + 16), .int ((nI acc.length) + 1), .int 0, .int 0, .int 1, .int (hb t q), .int 0, .int 1] [] (upd σ88 16 ((σ88 16) + 1)) τ88 _
                refine Rx.go (fun _ => rfl) ?_
                refine Rx.callE rfl rfl rfl rfl (rg_good hS89) ?_
                show Rx X c0 m_Mod_readTag 40 [.ref (c0 + 16), .int ((nI acc.length) + 1), .int 0, .int 0, .int 1, .int (hb t q), .int 0, .int 1] [.int 0] (upd σ88 16 ((σ88 16) + 1)) τ88 _
                refine Rx.go (fun _ => rfl) ?_
                show Rx X c0 m_Mod_readTag 217 [.ref (c0 + 16), .int ((nI acc.length) + 1), .int 0, .int 0, .int 1, .int (hb t q), .int 0, .int 1] [] (upd σ88 16 ((σ88 16) + 1)) τ88 _
                refine Rx.go (fun _ => rfl) ?_
                refine Rx.go (fun _ => rfl) ?_
                refine Rx.get rfl rfl ?_
                refine Rx.go (fun _ => rfl) ?_
                refine Rx.go (fun _ => rfl) ?_
                refine Rx.put rfl (by decide) rfl rfl ?_
                have hS90 := hS89.up (i := 13) (x := ((upd σ88 16 ((σ88 16) + 1)) 13) + ((nI acc.length) + 1)) (by omega)
                exact Rx.ret rfl rfl (rQ_f (b := acc) (tg_x hm hlt hgd (by rw [decide_eq_true d20]; rfl)) hS90 (by first | omega | (simp only [List.length_append, List.length_cons, List.length_nil]; omega)) (by omega))
            · replace c44 : ¬ (hb t q) < 65 := of_decide_eq_false c44
              show Rx X c0 m_Mod_readTag 153 [.ref (c0 + 16), .int (nI acc.length), .int (nI run), .int (bi fs), .int 1, .int (hb t q), .int 0, .int 1] [.ref (c0 + 16)] σ87 τ87 _
              refine Rx.go (fun _ => rfl) ?_
              refine Rx.go (fun _ => rfl) ?_
              refine Rx.go (fun _ => rfl) ?_
              refine Rx.ite (fun c46 => ?_) (fun c46 => ?_)
              · replace c46 : 90 < (hb t q) := of_decide_eq_true c46
                show Rx X c0 m_Mod_readTag 168 [.ref (c0 + 16), .int (nI acc.length), .int (nI run), .int (bi fs), .int 1, .int (hb t q), .int 0, .int 1] [.ref (c0 + 16)] σ87 τ87 _
                refine Rx.go (fun _ => rfl) ?_
                refine Rx.callP rfl rfl rfl rfl (rg_put _ hS87 (by first | omega | (simp only [List.length_append, List.length_cons, List.length_nil]; omega))) ?_
                intro σ91 τ91 hS91
                show Rx X c0 m_Mod_readTag 173 [.ref (c0 + 16), .int (nI acc.length), .int (nI run), .int (bi fs), .int 1, .int (hb t q), .int 0, .int 1] [] σ91 τ91 _
                refine Rx.go (fun _ => rfl) ?_
                show Rx X c0 m_Mod_readTag 176 [.ref (c0 + 16), .int ((nI acc.length) + 1), .int (nI run), .int (bi fs), .int 1, .int (hb t q), .int 0, .int 1] [] σ91 τ91 _
                refine Rx.go (fun _ => rfl) ?_
                refine Rx.go (fun _ => rfl) ?_
                refine Rx.get rfl rfl ?_
                refine Rx.go (fun _ => rfl) ?_
                refine Rx.go (fun _ => rfl) ?_
                refine Rx.put rfl (by decide) rfl rfl ?_
                have hS92 := hS91.at1
                refine Rx.go (fun _ => rfl) ?_
                refine Rx.go (fun _ => rfl) ?_
                show Rx X c0 m_Mod_readTag 197 [.ref (c0 + 16), .int ((nI acc.length) + 1), .int (nI run), .int (bi fs), .int 1, .int (hb t q), .int 0, .int 1] [] (upd σ91 16 ((σ91 16) + 1)) τ91 _
                refine Rx.go (fun _ => rfl) ?_
                refine Rx.go (fun _ => rfl) ?_
                show Rx X c0 m_Mod_readTag 199 [.ref (c0 + 16), .int ((nI acc.length) + 1), .int 0, .int (bi fs), .int 1, .int (hb t q), .int 0, .int 1] [] (upd σ91 16 ((σ91 16) + 1)) τ91 _
                refine Rx.go (fun _ => rfl) ?_
                refine Rx.go (fun _ => rfl) ?_
                refine Rx.ite (fun c47 => ?_) (fun c47 => ?_)
                · replace c47 : fs = false := bi_eqt c47
                  exact Bool.noConfusion (c38.symm.trans c47)
                · replace c47 : fs = true := bi_eqf c47
                  show Rx X c0 m_Mod_readTag 203 [.ref (c0 + 16), .int ((nI acc.length) + 1), .int 0, .int (bi fs), .int 1, .int (hb t q), .int 0, .int 1] [] (upd σ91 16 ((σ91 16) + 1)) τ91 _
                  refine Rx.go (fun _ => rfl) ?_
                  refine Rx.go (fun _ => rfl) ?_
                  show Rx X c0 m_Mod_readTag 212 [.ref (c0 + 16), .int ((nI acc.length) + 1), .int 0, .int (bi fs), .int 1, .int (hb t q), .int 0, .int 1] [] (upd σ91 16 ((σ91 16) + 1)) τ91 _
                  refine Rx.go (fun _ => rfl) ?_
                  refine Rx.go (fun _ => rfl) ?_
                  show Rx X c0 m_Mod_readTag 214 [.ref (c0 + 16), .int ((nI acc.length) + 1), .int 0, .int 0, .int 1, .int (hb t q), .int 0, .int 1] [] (upd σ91 16 ((σ91 16) + 1)) τ91 _
                  refine Rx.go (fun _ => rfl) ?_
                  refine Rx.go (fun _ => rfl) ?_
                  refine Rx.go (fun _ => rfl) ?_
                  show Rx X c0 m_Mod_readTag 36 [.ref (c0 + 16), .int ((nI acc.length) + 1), .int 0, .int 0, .int 1, .int (hb t q), .int 0, .int 1] [] (upd σ91 16 ((σ91 16) + 1)) τ91 _
                  refine Rx.go (fun _ => rfl) ?_
                  refine Rx.callE rfl rfl rfl rfl (rg_good hS92) ?_
                  show Rx X c0 m_Mod_readTag 40 [.ref (c0 + 16), .int ((nI acc.length) + 1), .int 0, .int 0, .int 1, .int (hb t q), .int 0, .int 1] [.int 0] (upd σ91 16 ((σ91 16) + 1)) τ91 _
                  refine Rx.go (fun _ => rfl) ?_
                  show Rx X c0 m_Mod_readTag 217 [.ref (c0 + 16), .int ((nI acc.length) + 1), .int 0, .int 0, .int 1, .int (hb t q), .int 0, .int 1] [] (upd σ91 16 ((σ91 16) + 1)) τ91 _
                  refine Rx.go (fun _ => rfl) ?_
                  refine Rx.go (fun _ => rfl) ?_
                  refine Rx.get rfl rfl ?_
                  refine Rx.go (fun _ => rfl) ?_
                  refine Rx.go (fun _ => rfl) ?_
                  refine Rx.put rfl (by decide) rfl rfl ?_
                  have hS93 := hS92.up (i := 13) (x := ((upd σ91 16 ((σ91 16) + 1)) 13) + ((nI acc.length) + 1)) (by omega)
                  exact Rx.ret rfl rfl (rQ_f (b := acc) (tg_x hm hlt hgd (by rw [decide_eq_true d20]; rfl)) hS93 (by first | omega | (simp only [List.length_append, List.length_cons, List.length_nil]; omega)) (by omega))
              · replace c46 : ¬ 90 < (hb t q) := of_decide_eq_false c46
                show Rx X c0 m_Mod_readTag 160 [.ref (c0 + 16), .int (nI acc.length), .int (nI run), .int (bi fs), .int 1, .int (hb t q), .int 0, .int 1] [.ref (c0 + 16)] σ87 τ87 _
                refine Rx.go (fun _ => rfl) ?_
                refine Rx.go (fun _ => rfl) ?_
                refine Rx.go (fun _ => rfl) ?_
                refine Rx.go (fun _ => rfl) ?_
                refine Rx.callP rfl rfl rfl rfl (rg_put _ hS87 (by first | omega | (simp only [List.length_append, List.length_cons, List.length_nil]; omega))) ?_
                intro σ94 τ94 hS94
                show Rx X c0 m_Mod_readTag 173 [.ref (c0 + 16), .int (nI acc.length), .int (nI run), .int (bi fs), .int 1, .int (hb t q), .int 0, .int 1] [] σ94 τ94 _
                refine Rx.go (fun _ => rfl) ?_
                show Rx X c0 m_Mod_readTag 176 [.ref (c0 + 16), .int ((nI acc.length) + 1), .int (nI run), .int (bi fs), .int 1, .int (hb t q), .int 0, .int 1] [] σ94 τ94 _
                refine Rx.go (fun _ => rfl) ?_
                refine Rx.go (fun _ => rfl) ?_
                refine Rx.get rfl rfl ?_
                refine Rx.go (fun _ => rfl) ?_
                refine Rx.go (fun _ => rfl) ?_
                refine Rx.put rfl (by decide) rfl rfl ?_
                have hS95 := hS94.at1
                refine Rx.go (fun _ => rfl) ?_
                refine Rx.go (fun _ => rfl) ?_
                show Rx X c0 m_Mod_readTag 197 [.ref (c0 + 16), .int ((nI acc.length) + 1), .int (nI run), .int (bi fs), .int 1, .int (hb t q), .int 0, .int 1] [] (upd σ94 16 ((σ94 16) + 1)) τ94 _
                refine Rx.go (fun _ => rfl) ?_
                refine Rx.go (fun _ => rfl) ?_
                show Rx X c0 m_Mod_readTag 199 [.ref (c0 + 16), .int ((nI acc.length) + 1), .int 0, .int (bi fs), .int 1, .int (hb t q), .int 0, .int 1] [] (upd σ94 16 ((σ94 16) + 1)) τ94 _
                refine Rx.go (fun _ => rfl) ?_
                refine Rx.go (fun _ => rfl) ?_
                refine Rx.ite (fun c48 => ?_) (fun c48 => ?_)
                · replace c48 : fs = false := bi_eqt c48
                  exact Bool.noConfusion (c38.symm.trans c48)
                · replace c48 : fs = true := bi_eqf c48
                  show Rx X c0 m_Mod_readTag 203 [.ref (c0 + 16), .int ((nI acc.length) + 1), .int 0, .int (bi fs), .int 1, .int (hb t q), .int 0, .int 1] [] (upd σ94 16 ((σ94 16) + 1)) τ94 _
                  refine Rx.go (fun _ => rfl) ?_
                  refine Rx.go (fun _ => rfl) ?_
                  show Rx X c0 m_Mod_readTag 212 [.ref (c0 + 16), .int ((nI acc.length) + 1), .int 0, .int (bi fs), .int 1, .int (hb t q), .int 0, .int 1] [] (upd σ94 16 ((σ94 16) + 1)) τ94 _
                  refine Rx.go (fun _ => rfl) ?_
                  refine Rx.go (fun _ => rfl) ?_
                  show Rx X c0 m_Mod_readTag 214 [.ref (c0 + 16), .int ((nI acc.length) + 1), .int 0, .int 0, .int 1, .int (hb t q), .int 0, .int 1] [] (upd σ94 16 ((σ94 16) + 1)) τ94 _
                  refine Rx.go (fun _ => rfl) ?_
                  refine Rx.go (fun _ => rfl) ?_
                  refine Rx.go (fun _ => rfl) ?_
                  show Rx X c0 m_Mod_readTag 36 [.ref (c0 + 16), .int ((nI acc.length) + 1), .int 0, .int 0, .int 1, .int (hb t q), .int 0, .int 1] [] (upd σ94 16 ((σ94 16) + 1)) τ94 _
                  refine Rx.go (fun _ => rfl) ?_
                  refine Rx.callE rfl rfl rfl rfl (rg_good hS95) ?_
                  show Rx X c0 m_Mod_readTag 40 [.ref (c0 + 16), .int ((nI acc.length) + 1), .int 0, .int 0, .int 1, .int (hb t q), .int 0, .int 1] [.int 0] (upd σ94 16 ((σ94 16) + 1)) τ94 _
                  refine Rx.go (fun _ => rfl) ?_
                  show Rx X c0 m_Mod_readTag 217 [.ref (c0 + 16), .int ((nI acc.length) + 1), .int 0, .int 0, .int 1, .int (hb t q), .int 0, .int 1] [] (upd σ94 16 ((σ94 16) + 1)) τ94 _
                  refine Rx.go (fun _ => rfl) ?_
                  refine Rx.go (fun _ => rfl) ?_
                  refine Rx.get rfl rfl ?_
                  refine Rx.go (fun _ => rfl) ?_
                  refine Rx.go (fun _ => rfl) ?_
                  refine Rx.put rfl (by decide) rfl rfl ?_
                  have hS96 := hS95.up (i := 13) (x := ((upd σ94 16 ((σ94 16) + 1)) 13) + ((nI acc.length) + 1)) (by omega)
                  exact Rx.ret rfl rfl (rQ_f (b := acc) (tg_x hm hlt hgd (by rw [decide_eq_true d20]; rfl)) hS96 (by first | omega | (simp only [List.length_append, List.length_cons, List.length_nil]; omega)) (by omega))
          · replace c43 : ¬ (nI acc.length) = 20 := of_decide_eq_false c43
            have d20 : ¬ acc.length = 20 := fun e => c43 (by rw [e]; rfl)
            show Rx X c0 m_Mod_readTag 125 [.ref (c0 + 16), .int (nI acc.length), .int (nI run), .int (bi fs), .int 1, .int (hb t q), .int 0, .int 1] [] σ τ _
            refine Rx.go (fun _ => rfl) ?_
            refine Rx.go (fun _ => rfl) ?_
            show Rx X c0 m_Mod_readTag 145 [.ref (c0 + 16), .int (nI acc.length), .int (nI run), .int (bi fs), .int 1, .int (hb t q), .int 0, .int 1] [] σ τ _
            refine Rx.go (fun _ => rfl) ?_
            refine Rx.go (fun _ => rfl) ?_
            refine Rx.go (fun _ => rfl) ?_
            refine Rx.go (fun _ => rfl) ?_
            refine Rx.ite (fun c49 => ?_) (fun c49 => ?_)
            · replace c49 : (hb t q) < 65 := of_decide_eq_true c49
              show Rx X c0 m_Mod_readTag 168 [.ref (c0 + 16), .int (nI acc.length), .int (nI run), .int (bi fs), .int 1, .int (hb t q), .int 0, .int 1] [.ref (c0 + 16)] σ τ _
              refine Rx.go (fun _ => rfl) ?_
              refine Rx.top (y := nI (smlN (t.getD q 0))) (by rw [hb_lt hlt]; exact sml_b (hS.z.by q) (Or.inl (by rw [← hb_lt hlt]; exact c49))) ?_
              refine Rx.callP rfl rfl rfl rfl (rs_put (smlN (t.getD q 0)) hS (by first | omega | (simp only [List.length_append, List.length_cons, List.length_nil]; omega))) ?_
              intro σ97 τ97 hS97
              show Rx X c0 m_Mod_readTag 173 [.ref (c0 + 16), .int (nI acc.length), .int (nI run), .int (bi fs), .int 1, .int (hb t q), .int 0, .int 1] [] σ97 τ97 _
              refine Rx.go (fun _ => rfl) ?_
              show Rx X c0 m_Mod_readTag 176 [.ref (c0 + 16), .int ((nI acc.length) + 1), .int (nI run), .int (bi fs), .int 1, .int (hb t q), .int 0, .int 1] [] σ97 τ97 _
              refine Rx.go (fun _ => rfl) ?_
              refine Rx.go (fun _ => rfl) ?_
              refine Rx.get rfl rfl ?_
              refine Rx.top (y := nI q) hS97.f16 ?_
              refine Rx.go (fun _ => rfl) ?_
              refine Rx.go (fun _ => rfl) ?_
              refine Rx.top (y := nI (q + 1)) (nI_1 _) ?_
              refine Rx.put rfl (by decide) rfl rfl ?_
              have hS98 := hS97.at1 hlt
              refine Rx.go (fun _ => rfl) ?_
              refine Rx.go (fun _ => rfl) ?_
              show Rx X c0 m_Mod_readTag 197 [.ref (c0 + 16), .int ((nI acc.length) + 1), .int (nI run), .int (bi fs), .int 1, .int (hb t q), .int 0, .int 1] [] (upd σ97 16 (nI (q + 1))) τ97 _
              refine Rx.go (fun _ => rfl) ?_
              refine Rx.go (fun _ => rfl) ?_
              show Rx X c0 m_Mod_readTag 199 [.ref (c0 + 16), .int ((nI acc.length) + 1), .int 0, .int (bi fs), .int 1, .int (hb t q), .int 0, .int 1] [] (upd σ97 16 (nI (q + 1))) τ97 _
              refine Rx.go (fun _ => rfl) ?_
              refine Rx.go (fun _ => rfl) ?_
              refine Rx.ite (fun c50 => ?_) (fun c50 => ?_)
              · replace c50 : fs = false := bi_eqt c50
                exact Bool.noConfusion (c38.symm.trans c50)
              · replace c50 : fs = true := bi_eqf c50
                show Rx X c0 m_Mod_readTag 203 [.ref (c0 + 16), .int ((nI acc.length) + 1), .int 0, .int (bi fs), .int 1, .int (hb t q), .int 0, .int 1] [] (upd σ97 16 (nI (q + 1))) τ97 _
                refine Rx.go (fun _ => rfl) ?_
                refine Rx.go (fun _ => rfl) ?_
                show Rx X c0 m_Mod_readTag 212 [.ref (c0 + 16), .int ((nI acc.length) + 1), .int 0, .int (bi fs), .int 1, .int (hb t q), .int 0, .int 1] [] (upd σ97 16 (nI (q + 1))) τ97 _
                refine Rx.go (fun _ => rfl) ?_
                refine Rx.go (fun _ => rfl) ?_
                show Rx X c0 m_Mod_readTag 214 [.ref (c0 + 16), .int ((nI acc.length) + 1), .int 0, .int 0, .int 1, .int (hb t q), .int 0, .int 1] [] (upd σ97 16 (nI (q + 1))) τ97 _
                refine Rx.go (fun _ => rfl) ?_
                show Rx X c0 m_Mod_readTag 31 [.ref (c0 + 16), .int ((nI acc.length) + 1), .int 0, .int 0, .int 1, .int (hb t q), .int 0, .int 1] [] (upd σ97 16 (nI (q + 1))) τ97 _
                obtain ⟨m1, rfl⟩ : ∃ m1, m = m1 + 1 := ⟨m - 1, by omega⟩
                have e1 : sT t (m1 + 1) q run fs acc = sT t m1 (q + 1) 0 false (acc ++ [smlN (t.getD q 0)]) := by rw [tg_n hgd (by rw [decide_eq_false d20, hg]; simp), hd]; first | rfl | simp [hg, c38, c50]
                rw [e1, show nI acc.length + 1 = nI (acc ++ [smlN (t.getD q 0)]).length by rw [nI_1, List.length_append]; rfl]
                exact ih m1 (by omega) (q + 1) 0 false (acc ++ [smlN (t.getD q 0)]) _ _ _ _ _ (by omega) (by simp only [List.length_append, List.length_cons, List.length_nil]; omega) (by omega) (by rw [← List.append_assoc]; exact hS98)
            · replace c49 : ¬ (hb t q) < 65 := of_decide_eq_false c49
              show Rx X c0 m_Mod_readTag 153 [.ref (c0 + 16), .int (nI acc.length), .int (nI run), .int (bi fs), .int 1, .int (hb t q), .int 0, .int 1] [.ref (c0 + 16)] σ τ _
              refine Rx.go (fun _ => rfl) ?_
              refine Rx.go (fun _ => rfl) ?_
              refine Rx.go (fun _ => rfl) ?_
              refine Rx.ite (fun c51 => ?_) (fun c51 => ?_)
              · replace c51 : 90 < (hb t q) := of_decide_eq_true c51
                show Rx X c0 m_Mod_readTag 168 [.ref (c0 + 16), .int (nI acc.length), .int (nI run), .int (bi fs), .int 1, .int (hb t q), .int 0, .int 1] [.ref (c0 + 16)] σ τ _
                refine Rx.go (fun _ => rfl) ?_
                refine Rx.top (y := nI (smlN (t.getD q 0))) (by rw [hb_lt hlt]; exact sml_b (hS.z.by q) (Or.inr (by rw [← hb_lt hlt]; exact c51))) ?_
                refine Rx.callP rfl rfl rfl rfl (rs_put (smlN (t.getD q 0)) hS (by first | omega | (simp only [List.length_append, List.length_cons, List.length_nil]; omega))) ?_
                intro σ99 τ99 hS99
                show Rx X c0 m_Mod_readTag 173 [.ref (c0 + 16), .int (nI acc.length), .int (nI run), .int (bi fs), .int 1, .int (hb t q), .int 0, .int 1] [] σ99 τ99 _
                refine Rx.go (fun _ => rfl) ?_
                show Rx X c0 m_Mod_readTag 176 [.ref (c0 + 16), .int ((nI acc.length) + 1), .int (nI run), .int (bi fs), .int 1, .int (hb t q), .int 0, .int 1] [] σ99 τ99 _
                refine Rx.go (fun _ => rfl) ?_
                refine Rx.go (fun _ => rfl) ?_
                refine Rx.get rfl rfl ?_
                refine Rx.top (y := nI q) hS99.f16 ?_
                refine Rx.go (fun _ => rfl) ?_
                refine Rx.go (fun _ => rfl) ?_
                refine Rx.top (y := nI (q + 1)) (nI_1 _) ?_
                refine Rx.put rfl (by decide) rfl rfl ?_
                have hS100 := hS99.at1 hlt
                refine Rx.go (fun _ => rfl) ?_
                refine Rx.go (fun _ => rfl) ?_
                show Rx X c0 m_Mod_readTag 197 [.ref (c0 + 16), .int ((nI acc.length) + 1), .int (nI run), .int (bi fs), .int 1, .int (hb t q), .int 0, .int 1] [] (upd σ99 16 (nI (q + 1))) τ99 _
                refine Rx.go (fun _ => rfl) ?_
                refine Rx.go (fun _ => rfl) ?_
                show Rx X c0 m_Mod_readTag 199 [.ref (c0 + 16), .int ((nI acc.length) + 1), .int 0, .int (bi fs), .int 1, .int (hb t q), .int 0, .int 1] [] (upd σ99 16 (nI (q + 1))) τ99 _
                refine Rx.go (fun _ => rfl) ?_
                refine Rx.go (fun _ => rfl) ?_
                refine Rx.ite (fun c52 => ?_) (fun c52 => ?_)
                · replace c52 : fs = false := bi_eqt c52
                  exact Bool.noConfusion (c38.symm.trans c52)
                · replace c52 : fs = true := bi_eqf c52
                  show Rx X c0 m_Mod_readTag 203 [.ref (c0 + 16), .int ((nI acc.length) + 1), .int 0, .int (bi fs), .int 1, .int (hb t q), .int 0, .int 1] [] (upd σ99 16 (nI (q + 1))) τ99 _
                  refine Rx.go (fun _ => rfl) ?_
                  refine Rx.go (fun _ => rfl) ?_
                  show Rx X c0 m_Mod_readTag 212 [.ref (c0 + 16), .int ((nI acc.length) + 1), .int 0, .int (bi fs), .int 1, .int (hb t q), .int 0, .int 1] [] (upd σ99 16 (nI (q + 1))) τ99 _
                  refine Rx.go (fun _ => rfl) ?_
                  refine Rx.go (fun _ => rfl) ?_
                  show Rx X c0 m_Mod_readTag 214 [.ref (c0 + 16), .int ((nI acc.length) + 1), .int 0, .int 0, .int 1, .int (hb t q), .int 0, .int 1] [] (upd σ99 16 (nI (q + 1))) τ99 _
                  refine Rx.go (fun _ => rfl) ?_
                  show Rx X c0 m_Mod_readTag 31 [.ref (c0 + 16), .int ((nI acc.length) + 1), .int 0, .int 0, .int 1, .int (hb t q), .int 0, .int 1] [] (upd σ99 16 (nI (q + 1))) τ99 _
                  obtain ⟨m1, rfl⟩ : ∃ m1, m = m1 + 1 := ⟨m - 1, by omega⟩
                  have e1 : sT t (m1 + 1) q run fs acc = sT t m1 (q + 1) 0 false (acc ++ [smlN (t.getD q 0)]) := by rw [tg_n hgd (by rw [decide_eq_false d20, hg]; simp), hd]; first | rfl | simp [hg, c38, c52]
                  rw [e1, show nI acc.length + 1 = nI (acc ++ [smlN (t.getD q 0)]).length by rw [nI_1, List.length_append]; rfl]
                  exact ih m1 (by omega) (q + 1) 0 false (acc ++ [smlN (t.getD q 0)]) _ _ _ _ _ (by omega) (by simp only [List.length_append, List.length_cons, List.length_nil]; omega) (by omega) (by rw [← List.append_assoc]; exact hS100)
              · replace c51 : ¬ 90 < (hb t q) := of_decide_eq_false c51
                show Rx X c0 m_Mod_readTag 160 [.ref (c0 + 16), .int (nI acc.length), .int (nI run), .int (bi fs), .int 1, .int (hb t q), .int 0, .int 1] [.ref (c0 + 16)] σ τ _
                refine Rx.go (fun _ => rfl) ?_
                refine Rx.go (fun _ => rfl) ?_
                refine Rx.go (fun _ => rfl) ?_
                refine Rx.go (fun _ => rfl) ?_
                refine Rx.top (y := nI (smlN (t.getD q 0))) (by rw [hb_lt hlt]; exact sml_a (hS.z.by q) (by rw [← hb_lt hlt]; exact c49) (by rw [← hb_lt hlt]; exact c51)) ?_
                refine Rx.callP rfl rfl rfl rfl (rs_put (smlN (t.getD q 0)) hS (by first | omega | (simp only [List.length_append, List.length_cons, List.length_nil]; omega))) ?_
                intro σ101 τ101 hS101
                show Rx X c0 m_Mod_readTag 173 [.ref (c0 + 16), .int (nI acc.length), .int (nI run), .int (bi fs), .int 1, .int (hb t q), .int 0, .int 1] [] σ101 τ101 _
                refine Rx.go (fun _ => rfl) ?_
                show Rx X c0 m_Mod_readTag 176 [.ref (c0 + 16), .int ((nI acc.length) + 1), .int (nI run), .int (bi fs), .int 1, .int (hb t q), .int 0, .int 1] [] σ101 τ101 _
                refine Rx.go (fun _ => rfl) ?_
                refine Rx.go (fun _ => rfl) ?_
                refine Rx.get rfl rfl ?_
                refine Rx.top (y := nI q) hS101.f16 ?_
                refine Rx.go (fun _ => rfl) ?_
                refine Rx.go (fun _ => rfl) ?_
                refine Rx.top (y := nI (q + 1)) (nI_1 _) ?_
                refine Rx.put rfl (by decide) rfl rfl ?_
                have hS102 := hS101.at1 hlt
                refine Rx.go (fun _ => rfl) ?_
                refine Rx.go (fun _ => rfl) ?_
                show Rx X c0 m_Mod_readTag 197 [.ref (c0 + 16), .int ((nI acc.length) + 1), .int (nI run), .int (bi fs), .int 1, .int (hb t q), .int 0, .int 1] [] (upd σ101 16 (nI (q + 1))) τ101 _
                refine Rx.go (fun _ => rfl) ?_
                refine Rx.go (fun _ => rfl) ?_
                show Rx X c0 m_Mod_readTag 199 [.ref (c0 + 16), .int ((nI acc.length) + 1), .int 0, .int (bi fs), .int 1, .int (hb t q), .int 0, .int 1] [] (upd σ101 16 (nI (q + 1))) τ101 _
                refine Rx.go (fun _ => rfl) ?_
                refine Rx.go (fun _ => rfl) ?_
                refine Rx.ite (fun c53 => ?_) (fun c53 => ?_)
                · replace c53 : fs = false := bi_eqt c53
                  exact Bool.noConfusion (c38.symm.trans c53)
                · replace c53 : fs = true := bi_eqf c53
                  show Rx X c0 m_Mod_readTag 203 [.ref (c0 + 16), .int ((nI acc.length) + 1), .int 0, .int (bi fs), .int 1, .int (hb t q), .int 0, .int 1] [] (upd σ101 16 (nI (q + 1))) τ101 _
                  refine Rx.go (fun _ => rfl) ?_
                  refine Rx.go (fun _ => rfl) ?_
                  show Rx X c0 m_Mod_readTag 212 [.ref (c0 + 16), .int ((nI acc.length) + 1), .int 0, .int (bi fs), .int 1, .int (hb t q), .int 0, .int 1] [] (upd σ101 16 (nI (q + 1))) τ101 _
                  refine Rx.go (fun _ => rfl) ?_
                  refine Rx.go (fun _ => rfl) ?_
                  show Rx X c0 m_Mod_readTag 214 [.ref (c0 + 16), .int ((nI acc.length) + 1), .int 0, .int 0, .int 1, .int (hb t q), .int 0, .int 1] [] (upd σ101 16 (nI (q + 1))) τ101 _
                  refine Rx.go (fun _ => rfl) ?_
                  show Rx X c0 m_Mod_readTag 31 [.ref (c0 + 16), .int ((nI acc.length) + 1), .int 0, .int 0, .int 1, .int (hb t q), .int 0, .int 1] [] (upd σ101 16 (nI (q + 1))) τ101 _
                  obtain ⟨m1, rfl⟩ : ∃ m1, m = m1 + 1 := ⟨m - 1, by omega⟩
                  have e1 : sT t (m1 + 1) q run fs acc = sT t m1 (q + 1) 0 false (acc ++ [smlN (t.getD q 0)]) := by rw [tg_n hgd (by rw [decide_eq_false d20, hg]; simp), hd]; first | rfl | simp [hg, c38, c53]
                  rw [e1, show nI acc.length + 1 = nI (acc ++ [smlN (t.getD q 0)]).length by rw [nI_1, List.length_append]; rfl]
                  exact ih m1 (by omega) (q + 1) 0 false (acc ++ [smlN (t.getD q 0)]) _ _ _ _ _ (by omega) (by simp only [List.length_append, List.length_cons, List.length_nil]; omega) (by omega) (by rw [← List.append_assoc]; exact hS102)
    · replace c38 : fs = false := bi_nef c38
      show Rx X c0 m_Mod_readTag 61 [.ref (c0 + 16), .int (nI acc.length), .int (nI run), .int (bi fs), .int 1, .int (hb t q), b6, b7] [] σ τ _
      refine Rx.go (fun _ => rfl) ?_
      refine Rx.scallE rfl rfl rfl rfl (sx_Mod_isDigit X (hb t q)) ?_
      show Rx X c0 m_Mod_readTag 66 [.ref (c0 + 16), .int (nI acc.length), .int (nI run), .int (bi fs), .int 1, .int (hb t q), b6, b7] [.int (bi (isD (hb t q)))] σ τ _
      refine Rx.go (fun _ => rfl) ?_
      refine Rx.ite (fun c54 => ?_) (fun c54 => ?_)
      · replace c54 : (isD (hb t q)) = false := bi_eqt c54
        show Rx X c0 m_Mod_readTag 73 [.ref (c0 + 16), .int (nI acc.length), .int (nI run), .int (bi fs), .int 1, .int (hb t q), b6, b7] [] σ τ _
        refine Rx.go (fun _ => rfl) ?_
        refine Rx.go (fun _ => rfl) ?_
        show Rx X c0 m_Mod_readTag 76 [.ref (c0 + 16), .int (nI acc.length), .int (nI run), .int (bi fs), .int 1, .int (hb t q), .int 0, b7] [] σ τ _
        refine Rx.go (fun _ => rfl) ?_
        refine Rx.go (fun _ => rfl) ?_
        refine Rx.go (fun _ => rfl) ?_
        refine Rx.ite (fun c55 => ?_) (fun c55 => ?_)
        · replace c55 : ¬ (hb t q) = 45 := of_decide_eq_true c55
          show Rx X c0 m_Mod_readTag 91 [.ref (c0 + 16), .int (nI acc.length), .int (nI run), .int (bi fs), .int 1, .int (hb t q), .int 0, b7] [] σ τ _
          refine Rx.go (fun _ => rfl) ?_
          refine Rx.go (fun _ => rfl) ?_
          show Rx X c0 m_Mod_readTag 94 [.ref (c0 + 16), .int (nI acc.length), .int (nI run), .int (bi fs), .int 1, .int (hb t q), .int 0, .int 0] [] σ τ _
          have hg : (isL (hb t q) || (isD (hb t q) && !fs)) = false := by simp [c1, c38, c54]
          have hd : (decide (hb t q = 45) && decide (0 < run)) = false := by simp [c55]
          refine Rx.go (fun _ => rfl) ?_
          refine Rx.go (fun _ => rfl) ?_
          show Rx X c0 m_Mod_readTag 99 [.ref (c0 + 16), .int (nI acc.length), .int (nI run), .int (bi fs), .int 1, .int (hb t q), .int 0, .int 0] [] σ τ _
          refine Rx.go (fun _ => rfl) ?_
          refine Rx.go (fun _ => rfl) ?_
          show Rx X c0 m_Mod_readTag 104 [.ref (c0 + 16), .int (nI acc.length), .int (nI run), .int (bi fs), .int 1, .int (hb t q), .int 0, .int 0] [] σ τ _
          refine Rx.go (fun _ => rfl) ?_
          refine Rx.go (fun _ => rfl) ?_
          refine Rx.ite (fun c56 => ?_) (fun c56 => ?_)
          · replace c56 : ¬ (nI run) = 0 := of_decide_eq_true c56
            have dz : 0 < run := Nat.pos_of_ne_zero (fun e => c56 (by rw [e]; rfl))
            show Rx X c0 m_Mod_readTag 113 [.ref (c0 + 16), .int (nI acc.length), .int (nI run), .int (bi fs), .int 1, .int (hb t q), .int 0, .int 0] [] σ τ _
            refine Rx.go (fun _ => rfl) ?_
            refine Rx.go (fun _ => rfl) ?_
            show Rx X c0 m_Mod_readTag 116 [.ref (c0 + 16), .int (nI acc.length), .int (nI run), .int (bi fs), .int 0, .int (hb t q), .int 0, .int 0] [] σ τ _
            refine Rx.go (fun _ => rfl) ?_
            refine Rx.go (fun _ => rfl) ?_
            refine Rx.go (fun _ => rfl) ?_
            show Rx X c0 m_Mod_readTag 217 [.ref (c0 + 16), .int (nI acc.length), .int (nI run), .int (bi fs), .int 0, .int (hb t q), .int 0, .int 0] [] σ τ _
            refine Rx.go (fun _ => rfl) ?_
            refine Rx.go (fun _ => rfl) ?_
            refine Rx.get rfl rfl ?_
            refine Rx.top (y := nI db) hS.f13 ?_
            refine Rx.go (fun _ => rfl) ?_
            refine Rx.go (fun _ => rfl) ?_
            refine Rx.top (y := nI (db + acc.length)) (nI_add _ _) ?_
            refine Rx.put rfl (by decide) rfl rfl ?_
            have hS103 := hS.db1 (x := (db + acc.length))
            exact Rx.ret rfl rfl (rQ_t (tg_e hm hg hd dz) hS103)
          · replace c56 : (nI run) = 0 := Classical.not_not.mp (of_decide_eq_false c56)
            have dz : run = 0 := (nI_eq (b := 0) (by omega) (by decide)).mp c56
            show Rx X c0 m_Mod_readTag 108 [.ref (c0 + 16), .int (nI acc.length), .int (nI run), .int (bi fs), .int 1, .int (hb t q), .int 0, .int 0] [] σ τ _
            refine Rx.go (fun _ => rfl) ?_
            refine Rx.go (fun _ => rfl) ?_
            refine Rx.callP rfl rfl rfl rfl (rs_ov_f false hS (fun h => Bool.false_ne_true h.2)) ?_
            intro σ104 τ104 hS104
            show Rx X c0 m_Mod_readTag 113 [.ref (c0 + 16), .int (nI acc.length), .int (nI run), .int (bi fs), .int 1, .int (hb t q), .int 0, .int 0] [] σ104 τ104 _
            refine Rx.go (fun _ => rfl) ?_
            refine Rx.go (fun _ => rfl) ?_
            show Rx X c0 m_Mod_readTag 116 [.ref (c0 + 16), .int (nI acc.length), .int (nI run), .int (bi fs), .int 0, .int (hb t q), .int 0, .int 0] [] σ104 τ104 _
            refine Rx.go (fun _ => rfl) ?_
            refine Rx.go (fun _ => rfl) ?_
            refine Rx.go (fun _ => rfl) ?_
            show Rx X c0 m_Mod_readTag 217 [.ref (c0 + 16), .int (nI acc.length), .int (nI run), .int (bi fs), .int 0, .int (hb t q), .int 0, .int 0] [] σ104 τ104 _
            refine Rx.go (fun _ => rfl) ?_
            refine Rx.go (fun _ => rfl) ?_
            refine Rx.get rfl rfl ?_
            refine Rx.go (fun _ => rfl) ?_
            refine Rx.go (fun _ => rfl) ?_
            refine Rx.put rfl (by decide) rfl rfl ?_
            have hS105 := hS104.up (i := 13) (x := (σ104 13) + (nI acc.length)) (by omega)
            exact Rx.ret rfl rfl (rQ_f (b := acc) (tg_f hm hg hd dz) hS105 (by first | omega | (simp only [List.length_append, List.length_cons, List.length_nil]; omega)) (by omega))
        · replace c55 : (hb t q) = 45 := Classical.not_not.mp (of_decide_eq_false c55)
          show Rx X c0 m_Mod_readTag 83 [.ref (c0 + 16), .int (nI acc.length), .int (nI run), .int (bi fs), .int 1, .int (hb t q), .int 0, b7] [] σ τ _
          refine Rx.go (fun _ => rfl) ?_
          refine Rx.go (fun _ => rfl) ?_
          refine Rx.ite (fun c57 => ?_) (fun c57 => ?_)
          · replace c57 : (nI run) ≤ 0 := of_decide_eq_true c57
            have dr : ¬ 0 < run := by have := (nI_leI (b := 0) (by omega) (by decide)).mp c57; omega
            show Rx X c0 m_Mod_readTag 91 [.ref (c0 + 16), .int (nI acc.length), .int (nI run), .int (bi fs), .int 1, .int (hb t q), .int 0, b7] [] σ τ _
            refine Rx.go (fun _ => rfl) ?_
            refine Rx.go (fun _ => rfl) ?_
            show Rx X c0 m_Mod_readTag 94 [.ref (c0 + 16), .int (nI acc.length), .int (nI run), .int (bi fs), .int 1, .int (hb t q), .int 0, .int 0] [] σ τ _
            have hg : (isL (hb t q) || (isD (hb t q) && !fs)) = false := by simp [c1, c38, c54]
            have hd : (decide (hb t q = 45) && decide (0 < run)) = false := by simp [c55, dr]
            refine Rx.go (fun _ => rfl) ?_
            refine Rx.go (fun _ => rfl) ?_
            show Rx X c0 m_Mod_readTag 99 [.ref (c0 + 16), .int (nI acc.length), .int (nI run), .int (bi fs), .int 1, .int (hb t q), .int 0, .int 0] [] σ τ _
            refine Rx.go (fun _ => rfl) ?_
            refine Rx.go (fun _ => rfl) ?_
            show Rx X c0 m_Mod_readTag 104 [.ref (c0 + 16), .int (nI acc.length), .int (nI run), .int (bi fs), .int 1, .int (hb t q), .int 0, .int 0] [] σ τ _
            refine Rx.go (fun _ => rfl) ?_
            refine Rx.go (fun _ => rfl) ?_
            refine Rx.ite (fun c58 => ?_) (fun c58 => ?_)
            · replace c58 : ¬ (nI run) = 0 := of_decide_eq_true c58
              have dz : 0 < run := Nat.pos_of_ne_zero (fun e => c58 (by rw [e]; rfl))
              show Rx X c0 m_Mod_readTag 113 [.ref (c0 + 16), .int (nI acc.length), .int (nI run), .int (bi fs), .int 1, .int (hb t q), .int 0, .int 0] [] σ τ _
              refine Rx.go (fun _ => rfl) ?_
              refine Rx.go (fun _ => rfl) ?_
              show Rx X c0 m_Mod_readTag 116 [.ref (c0 + 16), .int (nI acc.length), .int (nI run), .int (bi fs), .int 0, .int (hb t q), .int 0, .int 0] [] σ τ _
              refine Rx.go (fun _ => rfl) ?_
              refine Rx.go (fun _ => rfl) ?_
              refine Rx.go (fun _ => rfl) ?_
              show Rx X c0 m_Mod_readTag 217 [.ref (c0 + 16), .int (nI acc.length), .int (nI run), .int (bi fs), .int 0, .int (hb t q), .int 0, .int 0] [] σ τ _
              refine Rx.go (fun _ => rfl) ?_
              refine Rx.go (fun _ => rfl) ?_
              refine Rx.get rfl rfl ?_
              refine Rx.top (y := nI db) hS.f13 ?_
              refine Rx.go (fun _ => rfl) ?_
              refine Rx.go (fun _ => rfl) ?_
              refine Rx.top (y := nI (db + acc.length)) (nI_add _ _) ?_
              refine Rx.put rfl (by decide) rfl rfl ?_
              have hS106 := hS.db1 (x := (db + acc.length))
              exact Rx.ret rfl rfl (rQ_t (tg_e hm hg hd dz) hS106)
            · replace c58 : (nI run) = 0 := Classical.not_not.mp (of_decide_eq_false c58)
              have dz : run = 0 := (nI_eq (b := 0) (by omega) (by decide)).mp c58
              show Rx X c0 m_Mod_readTag 108 [.ref (c0 + 16), .int (nI acc.length), .int (nI run), .int (bi fs), .int 1, .int (hb t q), .int 0, .int 0] [] σ τ _
              refine Rx.go (fun _ => rfl) ?_
              refine Rx.go (fun _ => rfl) ?_
              refine Rx.callP rfl rfl rfl rfl (rs_ov_f false hS (fun h => Bool.false_ne_true h.2)) ?_
              intro σ107 τ107 hS107
              show Rx X c0 m_Mod_readTag 113 [.ref (c0 + 16), .int (nI acc.length), .int (nI run), .int (bi fs), .int 1, .int (hb t q), .int 0, .int 0] [] σ107 τ107 _
              refine Rx.go (fun _ => rfl) ?_
              refine Rx.go (fun _ => rfl) ?_
              show Rx X c0 m_Mod_readTag 116 [.ref (c0 + 16), .int (nI acc.length), .int (nI run), .int (bi fs), .int 0, .int (hb t q), .int 0, .int 0] [] σ107 τ107 _
              refine Rx.go (fun _ => rfl) ?_
              refine Rx.go (fun _ => rfl) ?_
              refine Rx.go (fun _ => rfl) ?_
              show Rx X c0 m_Mod_readTag 217 [.ref (c0 + 16), .int (nI acc.length), .int (nI run), .int (bi fs), .int 0, .int (hb t q), .int 0, .int 0] [] σ107 τ107 _
              refine Rx.go (fun _ => rfl) ?_
              refine Rx.go (fun _ => rfl) ?_
              refine Rx.get rfl rfl ?_
              refine Rx.go (fun _ => rfl) ?_
              refine Rx.go (fun _ => rfl) ?_
              refine Rx.put rfl (by decide) rfl rfl ?_
              have hS108 := hS107.up (i := 13) (x := (σ107 13) + (nI acc.length)) (by omega)
              exact Rx.ret rfl rfl (rQ_f (b := acc) (tg_f hm hg hd dz) hS108 (by first | omega | (simp only [List.length_append, List.length_cons, List.length_nil]; omega)) (by omega))
          · replace c57 : ¬ (nI run) ≤ 0 := of_decide_eq_false c57
            have dr : 0 < run := Nat.pos_of_ne_zero (fun e => c57 (by rw [e]; exact Int32.le_refl _))
            show Rx X c0 m_Mod_readTag 87 [.ref (c0 + 16), .int (nI acc.length), .int (nI run), .int (bi fs), .int 1, .int (hb t q), .int 0, b7] [] σ τ _
            refine Rx.go (fun _ => rfl) ?_
            refine Rx.go (fun _ => rfl) ?_
            refine Rx.go (fun _ => rfl) ?_
            show Rx X c0 m_Mod_readTag 94 [.ref (c0 + 16), .int (nI acc.length), .int (nI run), .int (bi fs), .int 1, .int (hb t q), .int 0, .int 1] [] σ τ _
            have hg : (isL (hb t q) || (isD (hb t q) && !fs)) = false := by simp [c1, c38, c54]
            have hd : (decide (hb t q = 45) && decide (0 < run)) = true := by simp [c55, dr]
            have hgd : (isL (hb t q) || (isD (hb t q) && !fs)) = true ∨ (decide (hb t q = 45) && decide (0 < run)) = true := Or.inr hd
            have hlt := tg_lt hgd
            refine Rx.go (fun _ => rfl) ?_
            refine Rx.go (fun _ => rfl) ?_
            show Rx X c0 m_Mod_readTag 99 [.ref (c0 + 16), .int (nI acc.length), .int (nI run), .int (bi fs), .int 1, .int (hb t q), .int 0, .int 1] [] σ τ _
            refine Rx.go (fun _ => rfl) ?_
            refine Rx.go (fun _ => rfl) ?_
            show Rx X c0 m_Mod_readTag 119 [.ref (c0 + 16), .int (nI acc.length), .int (nI run), .int (bi fs), .int 1, .int (hb t q), .int 0, .int 1] [] σ τ _
            refine Rx.go (fun _ => rfl) ?_
            refine Rx.go (fun _ => rfl) ?_
            refine Rx.go (fun _ => rfl) ?_
            refine Rx.ite (fun c59 => ?_) (fun c59 => ?_)
            · replace c59 : (nI acc.length) = 20 := of_decide_eq_true c59
              have d20 : acc.length = 20 := (nI_eq (b := 20) (by omega) (by decide)).mp c59
              show Rx X c0 m_Mod_readTag 136 [.ref (c0 + 16), .int (nI acc.length), .int (nI run), .int (bi fs), .int 1, .int (hb t q), .int 0, .int 1] [] σ τ _
              refine Rx.go (fun _ => rfl) ?_
              refine Rx.go (fun _ => rfl) ?_
              refine Rx.go (fun _ => rfl) ?_
              refine Rx.get rfl rfl ?_
              refine Rx.top (y := nI q) hS.f16 ?_
              refine Rx.callP rfl rfl rfl rfl (rs_fl (wn := q) hS (by decide) rfl) ?_
              intro σ109 τ109 hS109
              show Rx X c0 m_Mod_readTag 145 [.ref (c0 + 16), .int (nI acc.length), .int (nI run), .int (bi fs), .int 1, .int (hb t q), .int 0, .int 1] [] σ109 τ109 _
              refine Rx.go (fun _ => rfl) ?_
              refine Rx.go (fun _ => rfl) ?_
              refine Rx.go (fun _ => rfl) ?_
              refine Rx.go (fun _ => rfl) ?_
              refine Rx.ite (fun c60 => ?_) (fun c60 => ?_)
              · replace c60 : (hb t q) < 65 := of_decide_eq_true c60
                show Rx X c0 m_Mod_readTag 168 [.ref (c0 + 16), .int (nI acc.length), .int (nI run), .int (bi fs), .int 1, .int (hb t q), .int 0, .int 1] [.ref (c0 + 16)] σ109 τ109 _
                refine Rx.go (fun _ => rfl) ?_
                refine Rx.callP rfl rfl rfl rfl (rg_put _ hS109 (by first | omega | (simp only [List.length_append, List.length_cons, List.length_nil]; omega))) ?_
                intro σ110 τ110 hS110
                show Rx X c0 m_Mod_readTag 173 [.ref (c0 + 16), .int (nI acc.length), .int (nI run), .int (bi fs), .int 1, .int (hb t q), .int 0, .int 1] [] σ110 τ110 _
                refine Rx.go (fun _ => rfl) ?_
                show Rx X c0 m_Mod_readTag 176 [.ref (c0 + 16), .int ((nI acc.length) + 1), .int (nI run), .int (bi fs), .int 1, .int (hb t q), .int 0, .int 1] [] σ110 τ110 _
                refine Rx.go (fun _ => rfl) ?_
                refine Rx.go (fun _ => rfl) ?_
                refine Rx.get rfl rfl ?_
                refine Rx.go (fun _ => rfl) ?_
                refine Rx.go (fun _ => rfl) ?_
                refine Rx.put rfl (by decide) rfl rfl ?_
                have hS111 := hS110.at1
                refine Rx.go (fun _ => rfl) ?_
                refine Rx.go (fun _ => rfl) ?_
                show Rx X c0 m_Mod_readTag 197 [.ref (c0 + 16), .int ((nI acc.length) + 1), .int (nI run), .int (bi fs), .int 1, .int (hb t q), .int 0, .int 1] [] (upd σ110 16 ((σ110 16) + 1)) τ110 _
                refine Rx.go (fun _ => rfl) ?_
                refine Rx.go (fun _ => rfl) ?_
                show Rx X c0 m_Mod_readTag 199 [.ref (c0 + 16), .int ((nI acc.length) + 1), .int 0, .int (bi fs), .int 1, .int (hb t q), .int 0, .int 1] [] (upd σ110 16 ((σ110 16) + 1)) τ110 _
                refine Rx.go (fun _ => rfl) ?_
                refine Rx.go (fun _ => rfl) ?_
                refine Rx.ite (fun c61 => ?_) (fun c61 => ?_)
                · replace c61 : fs = false := bi_eqt c61
                  show Rx X c0 m_Mod_readTag 212 [.ref (c0 + 16), .int ((nI acc.length) + 1), .int 0, .int (bi fs), .int 1, .int (hb t q), .int 0, .int 1] [] (upd σ110 16 ((σ110 16) + 1)) τ110 _
                  refine Rx.go (fun _ => rfl) ?_
                  refine Rx.go (fun _ => rfl) ?_
                  show Rx X c0 m_Mod_readTag 214 [.ref (c0 + 16), .int ((nI acc.length) + 1), .int 0, .int 0, .int 1, .int (hb t q), .int 0, .int 1] [] (upd σ110 16 ((σ110 16) + 1)) τ110 _
                  refine Rx.go (fun _ => rfl) ?_
                  refine Rx.go (fun _ => rfl) ?_
                  refine Rx.go (fun _ => rfl) ?_
                  show Rx X c0 m_Mod_readTag 36 [.ref (c0 + 16), .int ((nI acc.length) + 1), .int 0, .int 0, .int 1, .int (hb t q), .int 0, .int 1] [] (upd σ110 16 ((σ110 16) + 1)) τ110 _
                  refine Rx.go (fun _ => rfl) ?_
                  refine Rx.callE rfl rfl rfl rfl (rg_good hS111) ?_
                  show Rx X c0 m_Mod_readTag 40 [.ref (c0 + 16), .int ((nI acc.length) + 1), .int 0, .int 0, .int 1, .int (hb t q), .int 0, .int 1] [.int 0] (upd σ110 16 ((σ110 16) + 1)) τ110 _
                  refine Rx.go (fun _ => rfl) ?_
                  show Rx X c0 m_Mod_readTag 217 [.ref (c0 + 16), .int ((nI acc.length) + 1), .int 0, .int 0, .int 1, .int (hb t q), .int 0, .int 1] [] (upd σ110 16 ((σ110 16) + 1)) τ110 _
                  refine Rx.go (fun _ => rfl) ?_
                  refine Rx.go (fun _ => rfl) ?_
                  refine Rx.get rfl rfl ?_
                  refine Rx.go (fun _ => rfl) ?_
                  refine Rx.go (fun _ => rfl) ?_
                  refine Rx.put rfl (by decide) rfl rfl ?_
                  have hS112 := hS111.up (i := 13) (x := ((upd σ110 16 ((σ110 16) + 1)) 13) + ((nI acc.length) + 1)) (by omega)
                  exact Rx.ret rfl rfl (rQ_f (b := acc) (tg_x hm hlt hgd (by rw [decide_eq_true d20]; rfl)) hS112 (by first | omega | (simp only [List.length_append, List.length_cons, List.length_nil]; omega)) (by omega))
                · replace c61 : fs = true := bi_eqf c61
                  exact Bool.noConfusion (c38.symm.trans c61)
              · replace c60 : ¬ (hb t q) < 65 := of_decide_eq_false c60
                show Rx X c0 m_Mod_readTag 153 [.ref (c0 + 16), .int (nI acc.length), .int (nI run), .int (bi fs), .int 1, .int (hb t q), .int 0, .int 1] [.ref (c0 + 16)] σ109 τ109 _
                refine Rx.go (fun _ => rfl) ?_
                refine Rx.go (fun _ => rfl) ?_
                refine Rx.go (fun _ => rfl) ?_
                refine Rx.ite (fun c62 => ?_) (fun c62 => ?_)
                · replace c62 : 90 < (hb t q) := of_decide_eq_true c62
                  show Rx X c0 m_Mod_readTag 168 [.ref (c0 + 16), .int (nI acc.length), .int (nI run), .int (bi fs), .int 1, .int (hb t q), .int 0, .int 1] [.ref (c0 + 16)] σ109 τ109 _
                  refine Rx.go (fun _ => rfl) ?_
                  refine Rx.callP rfl rfl rfl rfl (rg_put _ hS109 (by first | omega | (simp only [List.length_append, List.length_cons, List.length_nil]; omega))) ?_
                  intro σ113 τ113 hS113
                  show Rx X c0 m_Mod_readTag 173 [.ref (c0 + 16), .int (nI acc.length), .int (nI run), .int (bi fs), .int 1, .int (hb t q), .int 0, .int 1] [] σ113 τ113 _
                  refine Rx.go (fun _ => rfl) ?_
                  show Rx X c0 m_Mod_readTag 176 [.ref (c0 + 16), .int ((nI acc.length) + 1), .int (nI run), .int (bi fs), .int 1, .int (hb t q), .int 0, .int 1] [] σ113 τ113 _
                  refine Rx.go (fun _ => rfl) ?_
                  refine Rx.go (fun _ => rfl) ?_
                  refine Rx.get rfl rfl ?_
                  refine Rx.go (fun _ => rfl) ?_
                  refine Rx.go (fun _ => rfl) ?_
                  refine Rx.put rfl (by decide) rfl rfl ?_
                  have hS114 := hS113.at1
                  refine Rx.go (fun _ => rfl) ?_
                  refine Rx.go (fun _ => rfl) ?_
                  show Rx X c0 m_Mod_readTag 197 [.ref (c0 + 16), .int ((nI acc.length) + 1), .int (nI run), .int (bi fs), .int 1, .int (hb t q), .int 0, .int 1] [] (upd σ113 16 ((σ113 16) + 1)) τ113 _
                  refine Rx.go (fun _ => rfl) ?_
                  refine Rx.go (fun _ => rfl) ?_
                  show Rx X c0 m_Mod_readTag 199 [.ref (c0 + 16), .int ((nI acc.length) + 1), .int 0, .int (bi fs), .int 1, .int (hb t q), .int 0, .int 1] [] (upd σ113 16 ((σ113 16) + 1)) τ113 _
                  refine Rx.go (fun _ => rfl) ?_
                  refine Rx.go (fun _ => rfl) ?_
                  refine Rx.ite (fun c63 => ?_) (fun c63 => ?_)
                  · replace c63 : fs = false := bi_eqt c63
                    show Rx X c0 m_Mod_readTag 212 [.ref (c0 + 16), .int ((nI acc.length) + 1), .int 0, .int (bi fs), .int 1, .int (hb t q), .int 0, .int 1] [] (upd σ113 16 ((σ113 16) + 1)) τ113 _
                    refine Rx.go (fun _ => rfl) ?_
                    refine Rx.go (fun _ => rfl) ?_
                    show Rx X c0 m_Mod_readTag 214 [.ref (c0 + 16), .int ((nI acc.length) + 1), .int 0, .int 0, .int 1, .int (hb t q), .int 0, .int 1] [] (upd σ113 16 ((σ113 16) + 1)) τ113 _
                    refine Rx.go (fun _ => rfl) ?_
                    refine Rx.go (fun _ => rfl) ?_
                    refine Rx.go (fun _ => rfl) ?_
                    show Rx X c0 m_Mod_readTag 36 [.ref (c0 + 16), .int ((nI acc.length) + 1), .int 0, .int 0, .int 1, .int (hb t q), .int 0, .int 1] [] (upd σ113 16 ((σ113 16) + 1)) τ113 _
                    refine Rx.go (fun _ => rfl) ?_
                    refine Rx.callE rfl rfl rfl rfl (rg_good hS114) ?_
                    show Rx X c0 m_Mod_readTag 40 [.ref (c0 + 16), .int ((nI acc.length) + 1), .int 0, .int 0, .int 1, .int (hb t q), .int 0, .int 1] [.int 0] (upd σ113 16 ((σ113 16) + 1)) τ113 _
                    refine Rx.go (fun _ => rfl) ?_
                    show Rx X c0 m_Mod_readTag 217 [.ref (c0 + 16), .int ((nI acc.length) + 1), .int 0, .int 0, .int 1, .int (hb t q), .int 0, .int 1] [] (upd σ113 16 ((σ113 16) + 1)) τ113 _
                    refine Rx.go (fun _ => rfl) ?_
                    refine Rx.go (fun _ => rfl) ?_
                    refine Rx.get rfl rfl ?_
                    refine Rx.go (fun _ => rfl) ?_
                    refine Rx.go (fun _ => rfl) ?_
                    refine Rx.put rfl (by decide) rfl rfl ?_
                    have hS115 := hS114.up (i := 13) (x := ((upd σ113 16 ((σ113 16) + 1)) 13) + ((nI acc.length) + 1)) (by omega)
                    exact Rx.ret rfl rfl (rQ_f (b := acc) (tg_x hm hlt hgd (by rw [decide_eq_true d20]; rfl)) hS115 (by first | omega | (simp only [List.length_append, List.length_cons, List.length_nil]; omega)) (by omega))
                  · replace c63 : fs = true := bi_eqf c63
                    exact Bool.noConfusion (c38.symm.trans c63)
                · replace c62 : ¬ 90 < (hb t q) := of_decide_eq_false c62
                  show Rx X c0 m_Mod_readTag 160 [.ref (c0 + 16), .int (nI acc.length), .int (nI run), .int (bi fs), .int 1, .int (hb t q), .int 0, .int 1] [.ref (c0 + 16)] σ109 τ109 _
                  refine Rx.go (fun _ => rfl) ?_
                  refine Rx.go (fun _ => rfl) ?_
                  refine Rx.go (fun _ => rfl) ?_
                  refine Rx.go (fun _ => rfl) ?_
                  refine Rx.callP rfl rfl rfl rfl (rg_put _ hS109 (by first | omega | (simp only [List.length_append, List.length_cons, List.length_nil]; omega))) ?_
                  intro σ116 τ116 hS116
                  show Rx X c0 m_Mod_readTag 173 [.ref (c0 + 16), .int (nI acc.length), .int (nI run), .int (bi fs), .int 1, .int (hb t q), .int 0, .int 1] [] σ116 τ116 _
                  refine Rx.go (fun _ => rfl) ?_
                  show Rx X c0 m_Mod_readTag 176 [.ref (c0 + 16), .int ((nI acc.length) + 1), .int (nI run), .int (bi fs), .int 1, .int (hb t q), .int 0, .int 1] [] σ116 τ116 _
                  refine Rx.go (fun _ => rfl) ?_
                  refine Rx.go (fun _ => rfl) ?_
                  refine Rx.get rfl rfl ?_
                  refine Rx.go (fun _ => rfl) ?_
                  refine Rx.go (fun _ => rfl) ?_
                  refine Rx.put rfl (by decide) rfl rfl ?_
                  have hS117 := hS116.at1
                  refine Rx.go (fun _ => rfl) ?_
                  refine Rx.go (fun _ => rfl) ?_
                  show Rx X c0 m_Mod_readTag 197 [.ref (c0 + 16), .int ((nI acc.length) + 1), .int (nI run), .int (bi fs), .int 1, .int (hb t q), .int 0, .int 1] [] (upd σ116 16 ((σ116 16) + 1)) τ116 _
                  refine Rx.go (fun _ => rfl) ?_
                  refine Rx.go (fun _ => rfl) ?_
                  show Rx X c0 m_Mod_readTag 199 [.ref (c0 + 16), .int ((nI acc.length) + 1), .int 0, .int (bi fs), .int 1, .int (hb t q), .int 0, .int 1] [] (upd σ116 16 ((σ116 16) + 1)) τ116 _
                  refine Rx.go (fun _ => rfl) ?_
                  refine Rx.go (fun _ => rfl) ?_
                  refine Rx.ite (fun c64 => ?_) (fun c64 => ?_)
                  · replace c64 : fs = false := bi_eqt c64
                    show Rx X c0 m_Mod_readTag 212 [.ref (c0 + 16), .int ((nI acc.length) + 1), .int 0, .int (bi fs), .int 1, .int (hb t q), .int 0, .int 1] [] (upd σ116 16 ((σ116 16) + 1)) τ116 _
                    refine Rx.go (fun _ => rfl) ?_
                    refine Rx.go (fun _ => rfl) ?_
                    show Rx X c0 m_Mod_readTag 214 [.ref (c0 + 16), .int ((nI acc.length) + 1), .int 0, .int 0, .int 1, .int (hb t q), .int 0, .int 1] [] (upd σ116 16 ((σ116 16) + 1)) τ116 _
                    refine Rx.go (fun _ => rfl) ?_
                    refine Rx.go (fun _ => rfl) ?_
                    refine Rx.go (fun _ => rfl) ?_
                    show Rx X c0 m_Mod_readTag 36 [.ref (c0 + 16), .int ((nI acc.length) + 1), .int 0, .int 0, .int 1, .int (hb t q), .int 0, .int 1] [] (upd σ116 16 ((σ116 16) + 1)) τ116 _
                    refine Rx.go (fun _ => rfl) ?_
                    refine Rx.callE rfl rfl rfl rfl (rg_good hS117) ?_
                    show Rx X c0 m_Mod_readTag 40 [.ref (c0 + 16), .int ((nI acc.length) + 1), .int 0, .int 0, .int 1, .int (hb t q), .int 0, .int 1] [.int 0] (upd σ116 16 ((σ116 16) + 1)) τ116 _
                    refine Rx.go (fun _ => rfl) ?_
                    show Rx X c0 m_Mod_readTag 217 [.ref (c0 + 16), .int ((nI acc.length) + 1), .int 0, .int 0, .int 1, .int (hb t q), .int 0, .int 1] [] (upd σ116 16 ((σ116 16) + 1)) τ116 _
                    refine Rx.go (fun _ => rfl) ?_
                    refine Rx.go (fun _ => rfl) ?_
                    refine Rx.get rfl rfl ?_
                    refine Rx.go (fun _ => rfl) ?_
                    refine Rx.go (fun _ => rfl) ?_
                    refine Rx.put rfl (by decide) rfl rfl ?_
                    have hS118 := hS117.up (i := 13) (x := ((upd σ116 16 ((σ116 16) + 1)) 13) + ((nI acc.length) + 1)) (by omega)
                    exact Rx.ret rfl rfl (rQ_f (b := acc) (tg_x hm hlt hgd (by rw [decide_eq_true d20]; rfl)) hS118 (by first | omega | (simp only [List.length_append, List.length_cons, List.length_nil]; omega)) (by omega))
                  · replace c64 : fs = true := bi_eqf c64
                    exact Bool.noConfusion (c38.symm.trans c64)
            · replace c59 : ¬ (nI acc.length) = 20 := of_decide_eq_false c59
              have d20 : ¬ acc.length = 20 := fun e => c59 (by rw [e]; rfl)
              show Rx X c0 m_Mod_readTag 125 [.ref (c0 + 16), .int (nI acc.length), .int (nI run), .int (bi fs), .int 1, .int (hb t q), .int 0, .int 1] [] σ τ _
              refine Rx.go (fun _ => rfl) ?_
              refine Rx.go (fun _ => rfl) ?_
              show Rx X c0 m_Mod_readTag 145 [.ref (c0 + 16), .int (nI acc.length), .int (nI run), .int (bi fs), .int 1, .int (hb t q), .int 0, .int 1] [] σ τ _
              refine Rx.go (fun _ => rfl) ?_
              refine Rx.go (fun _ => rfl) ?_
              refine Rx.go (fun _ => rfl) ?_
              refine Rx.go (fun _ => rfl) ?_
              refine Rx.ite (fun c65 => ?_) (fun c65 => ?_)
              · replace c65 : (hb t q) < 65 := of_decide_eq_true c65
                show Rx X c0 m_Mod_readTag 168 [.ref (c0 + 16), .int (nI acc.length), .int (nI run), .int (bi fs), .int 1, .int (hb t q), .int 0, .int 1] [.ref (c0 + 16)] σ τ _
                refine Rx.go (fun _ => rfl) ?_
                refine Rx.top (y := nI (smlN (t.getD q 0))) (by rw [hb_lt hlt]; exact sml_b (hS.z.by q) (Or.inl (by rw [← hb_lt hlt]; exact c65))) ?_
                refine Rx.callP rfl rfl rfl rfl (rs_put (smlN (t.getD q 0)) hS (by first | omega | (simp only [List.length_append, List.length_cons, List.length_nil]; omega))) ?_
                intro σ119 τ119 hS119
                show Rx X c0 m_Mod_readTag 173 [.ref (c0 + 16), .int (nI acc.length), .int (nI run), .int (bi fs), .int 1, .int (hb t q), .int 0, .int 1] [] σ119 τ119 _
                refine Rx.go (fun _ => rfl) ?_
                show Rx X c0 m_Mod_readTag 176 [.ref (c0 + 16), .int ((nI acc.length) + 1), .int (nI run), .int (bi fs), .int 1, .int (hb t q), .int 0, .int 1] [] σ119 τ119 _
                refine Rx.go (fun _ => rfl) ?_
                refine Rx.go (fun _ => rfl) ?_
                refine Rx.get rfl rfl ?_
                refine Rx.top (y := nI q) hS119.f16 ?_
                refine Rx.go (fun _ => rfl) ?_
                refine Rx.go (fun _ => rfl) ?_
                refine Rx.top (y := nI (q + 1)) (nI_1 _) ?_
                refine Rx.put rfl (by decide) rfl rfl ?_
                have hS120 := hS119.at1 hlt
                refine Rx.go (fun _ => rfl) ?_
                refine Rx.go (fun _ => rfl) ?_
                show Rx X c0 m_Mod_readTag 197 [.ref (c0 + 16), .int ((nI acc.length) + 1), .int (nI run), .int (bi fs), .int 1, .int (hb t q), .int 0, .int 1] [] (upd σ119 16 (nI (q + 1))) τ119 _
                refine Rx.go (fun _ => rfl) ?_
                refine Rx.go (fun _ => rfl) ?_
                show Rx X c0 m_Mod_readTag 199 [.ref (c0 + 16), .int ((nI acc.length) + 1), .int 0, .int (bi fs), .int 1, .int (hb t q), .int 0, .int 1] [] (upd σ119 16 (nI (q + 1))) τ119 _
                refine Rx.go (fun _ => rfl) ?_
                refine Rx.go (fun _ => rfl) ?_
                refine Rx.ite (fun c66 => ?_) (fun c66 => ?_)
                · replace c66 : fs = false := bi_eqt c66
                  show Rx X c0 m_Mod_readTag 212 [.ref (c0 + 16), .int ((nI acc.length) + 1), .int 0, .int (bi fs), .int 1, .int (hb t q), .int 0, .int 1] [] (upd σ119 16 (nI (q + 1))) τ119 _
                  refine Rx.go (fun _ => rfl) ?_
                  refine Rx.go (fun _ => rfl) ?_
                  show Rx X c0 m_Mod_readTag 214 [.ref (c0 + 16), .int ((nI acc.length) + 1), .int 0, .int 0, .int 1, .int (hb t q), .int 0, .int 1] [] (upd σ119 16 (nI (q + 1))) τ119 _
                  refine Rx.go (fun _ => rfl) ?_
                  show Rx X c0 m_Mod_readTag 31 [.ref (c0 + 16), .int ((nI acc.length) + 1), .int 0, .int 0, .int 1, .int (hb t q), .int 0, .int 1] [] (upd σ119 16 (nI (q + 1))) τ119 _
                  obtain ⟨m1, rfl⟩ : ∃ m1, m = m1 + 1 := ⟨m - 1, by omega⟩
                  have e1 : sT t (m1 + 1) q run fs acc = sT t m1 (q + 1) 0 false (acc ++ [smlN (t.getD q 0)]) := by rw [tg_n hgd (by rw [decide_eq_false d20, hg]; simp), hd]; first | rfl | simp [hg, c38, c66]
                  rw [e1, show nI acc.length + 1 = nI (acc ++ [smlN (t.getD q 0)]).length by rw [nI_1, List.length_append]; rfl]
                  exact ih m1 (by omega) (q + 1) 0 false (acc ++ [smlN (t.getD q 0)]) _ _ _ _ _ (by omega) (by simp only [List.length_append, List.length_cons, List.length_nil]; omega) (by omega) (by rw [← List.append_assoc]; exact hS120)
                · replace c66 : fs = true := bi_eqf c66
                  exact Bool.noConfusion (c38.symm.trans c66)
              · replace c65 : ¬ (hb t q) < 65 := of_decide_eq_false c65
                show Rx X c0 m_Mod_readTag 153 [.ref (c0 + 16), .int (nI acc.length), .int (nI run), .int (bi fs), .int 1, .int (hb t q), .int 0, .int 1] [.ref (c0 + 16)] σ τ _
                refine Rx.go (fun _ => rfl) ?_
                refine Rx.go (fun _ => rfl) ?_
                refine Rx.go (fun _ => rfl) ?_
                refine Rx.ite (fun c67 => ?_) (fun c67 => ?_)
                · replace c67 : 90 < (hb t q) := of_decide_eq_true c67
                  show Rx X c0 m_Mod_readTag 168 [.ref (c0 + 16), .int (nI acc.length), .int (nI run), .int (bi fs), .int 1, .int (hb t q), .int 0, .int 1] [.ref (c0 + 16)] σ τ _
                  refine Rx.go (fun _ => rfl) ?_
                  refine Rx.top (y := nI (smlN (t.getD q 0))) (by rw [hb_lt hlt]; exact sml_b (hS.z.by q) (Or.inr (by rw [← hb_lt hlt]; exact c67))) ?_
                  refine Rx.callP rfl rfl rfl rfl (rs_put (smlN (t.getD q 0)) hS (by first | omega | (simp only [List.length_append, List.length_cons, List.length_nil]; omega))) ?_
                  intro σ121 τ121 hS121
                  show Rx X c0 m_Mod_readTag 173 [.ref (c0 + 16), .int (nI acc.length), .int (nI run), .int (bi fs), .int 1, .int (hb t q), .int 0, .int 1] [] σ121 τ121 _
                  refine Rx.go (fun _ => rfl) ?_
                  show Rx X c0 m_Mod_readTag 176 [.ref (c0 + 16), .int ((nI acc.length) + 1), .int (nI run), .int (bi fs), .int 1, .int (hb t q), .int 0, .int 1] [] σ121 τ121 _
                  refine Rx.go (fun _ => rfl) ?_
                  refine Rx.go (fun _ => rfl) ?_
                  refine Rx.get rfl rfl ?_
                  refine Rx.top (y := nI q) hS121.f16 ?_
                  refine Rx.go (fun _ => rfl) ?_
                  refine Rx.go (fun _ => rfl) ?_
                  refine Rx.top (y := nI (q + 1)) (nI_1 _) ?_
                  refine Rx.put rfl (by decide) rfl rfl ?_
                  have hS122 := hS121.at1 hlt
                  refine Rx.go (fun _ => rfl) ?_
                  refine Rx.go (fun _ => rfl) ?_
                  show Rx X c0 m_Mod_readTag 197 [.ref (c0 + 16), .int ((nI acc.length) + 1), .int (nI run), .int (bi fs), .int 1, .int (hb t q), .int 0, .int 1] [] (upd σ121 16 (nI (q + 1))) τ121 _
                  refine Rx.go (fun _ => rfl) ?_
                  refine Rx.go (fun _ => rfl) ?_
                  show Rx X c0 m_Mod_readTag 199 [.ref (c0 + 16), .int ((nI acc.length) + 1), .int 0, .int (bi fs), .int 1, .int (hb t q), .int 0, .int 1] [] (upd σ121 16 (nI (q + 1))) τ121 _
                  refine Rx.go (fun _ => rfl) ?_
                  refine Rx.go (fun _ => rfl) ?_
                  refine Rx.ite (fun c68 => ?_) (fun c68 => ?_)
                  · replace c68 : fs = false := bi_eqt c68
                    show Rx X c0 m_Mod_readTag 212 [.ref (c0 + 16), .int ((nI acc.length) + 1), .int 0, .int (bi fs), .int 1, .int (hb t q), .int 0, .int 1] [] (upd σ121 16 (nI (q + 1))) τ121 _
                    refine Rx.go (fun _ => rfl) ?_
                    refine Rx.go (fun _ => rfl) ?_
                    show Rx X c0 m_Mod_readTag 214 [.ref (c0 + 16), .int ((nI acc.length) + 1), .int 0, .int 0, .int 1, .int (hb t q), .int 0, .int 1] [] (upd σ121 16 (nI (q + 1))) τ121 _
                    refine Rx.go (fun _ => rfl) ?_
                    show Rx X c0 m_Mod_readTag 31 [.ref (c0 + 16), .int ((nI acc.length) + 1), .int 0, .int 0, .int 1, .int (hb t q), .int 0, .int 1] [] (upd σ121 16 (nI (q + 1))) τ121 _
                    obtain ⟨m1, rfl⟩ : ∃ m1, m = m1 + 1 := ⟨m - 1, by omega⟩
                    have e1 : sT t (m1 + 1) q run fs acc = sT t m1 (q + 1) 0 false (acc ++ [smlN (t.getD q 0)]) := by rw [tg_n hgd (by rw [decide_eq_false d20, hg]; simp), hd]; first | rfl | simp [hg, c38, c68]
                    rw [e1, show nI acc.length + 1 = nI (acc ++ [smlN (t.getD q 0)]).length by rw [nI_1, List.length_append]; rfl]
                    exact ih m1 (by omega) (q + 1) 0 false (acc ++ [smlN (t.getD q 0)]) _ _ _ _ _ (by omega) (by simp only [List.length_append, List.length_cons, List.length_nil]; omega) (by omega) (by rw [← List.append_assoc]; exact hS122)
                  · replace c68 : fs = true := bi_eqf c68
                    exact Bool.noConfusion (c38.symm.trans c68)
                · replace c67 : ¬ 90 < (hb t q) := of_decide_eq_false c67
                  show Rx X c0 m_Mod_readTag 160 [.ref (c0 + 16), .int (nI acc.length), .int (nI run), .int (bi fs), .int 1, .int (hb t q), .int 0, .int 1] [.ref (c0 + 16)] σ τ _
                  refine Rx.go (fun _ => rfl) ?_
                  refine Rx.go (fun _ => rfl) ?_
                  refine Rx.go (fun _ => rfl) ?_
                  refine Rx.go (fun _ => rfl) ?_
                  refine Rx.top (y := nI (smlN (t.getD q 0))) (by rw [hb_lt hlt]; exact sml_a (hS.z.by q) (by rw [← hb_lt hlt]; exact c65) (by rw [← hb_lt hlt]; exact c67)) ?_
                  refine Rx.callP rfl rfl rfl rfl (rs_put (smlN (t.getD q 0)) hS (by first | omega | (simp only [List.length_append, List.length_cons, List.length_nil]; omega))) ?_
                  intro σ123 τ123 hS123
                  show Rx X c0 m_Mod_readTag 173 [.ref (c0 + 16), .int (nI acc.length), .int (nI run), .int (bi fs), .int 1, .int (hb t q), .int 0, .int 1] [] σ123 τ123 _
                  refine Rx.go (fun _ => rfl) ?_
                  show Rx X c0 m_Mod_readTag 176 [.ref (c0 + 16), .int ((nI acc.length) + 1), .int (nI run), .int (bi fs), .int 1, .int (hb t q), .int 0, .int 1] [] σ123 τ123 _
                  refine Rx.go (fun _ => rfl) ?_
                  refine Rx.go (fun _ => rfl) ?_
                  refine Rx.get rfl rfl ?_
                  refine Rx.top (y := nI q) hS123.f16 ?_
                  refine Rx.go (fun _ => rfl) ?_
                  refine Rx.go (fun _ => rfl) ?_
                  refine Rx.top (y := nI (q + 1)) (nI_1 _) ?_
                  refine Rx.put rfl (by decide) rfl rfl ?_
                  have hS124 := hS123.at1 hlt
                  refine Rx.go (fun _ => rfl) ?_
                  refine Rx.go (fun _ => rfl) ?_
                  show Rx X c0 m_Mod_readTag 197 [.ref (c0 + 16), .int ((nI acc.length) + 1), .int (nI run), .int (bi fs), .int 1, .int (hb t q), .int 0, .int 1] [] (upd σ123 16 (nI (q + 1))) τ123 _
                  refine Rx.go (fun _ => rfl) ?_
                  refine Rx.go (fun _ => rfl) ?_
                  show Rx X c0 m_Mod_readTag 199 [.ref (c0 + 16), .int ((nI acc.length) + 1), .int 0, .int (bi fs), .int 1, .int (hb t q), .int 0, .int 1] [] (upd σ123 16 (nI (q + 1))) τ123 _
                  refine Rx.go (fun _ => rfl) ?_
                  refine Rx.go (fun _ => rfl) ?_
                  refine Rx.ite (fun c69 => ?_) (fun c69 => ?_)
                  · replace c69 : fs = false := bi_eqt c69
                    show Rx X c0 m_Mod_readTag 212 [.ref (c0 + 16), .int ((nI acc.length) + 1), .int 0, .int (bi fs), .int 1, .int (hb t q), .int 0, .int 1] [] (upd σ123 16 (nI (q + 1))) τ123 _
                    refine Rx.go (fun _ => rfl) ?_
                    refine Rx.go (fun _ => rfl) ?_
                    show Rx X c0 m_Mod_readTag 214 [.ref (c0 + 16), .int ((nI acc.length) + 1), .int 0, .int 0, .int 1, .int (hb t q), .int 0, .int 1] [] (upd σ123 16 (nI (q + 1))) τ123 _
                    refine Rx.go (fun _ => rfl) ?_
                    show Rx X c0 m_Mod_readTag 31 [.ref (c0 + 16), .int ((nI acc.length) + 1), .int 0, .int 0, .int 1, .int (hb t q), .int 0, .int 1] [] (upd σ123 16 (nI (q + 1))) τ123 _
                    obtain ⟨m1, rfl⟩ : ∃ m1, m = m1 + 1 := ⟨m - 1, by omega⟩
                    have e1 : sT t (m1 + 1) q run fs acc = sT t m1 (q + 1) 0 false (acc ++ [smlN (t.getD q 0)]) := by rw [tg_n hgd (by rw [decide_eq_false d20, hg]; simp), hd]; first | rfl | simp [hg, c38, c69]
                    rw [e1, show nI acc.length + 1 = nI (acc ++ [smlN (t.getD q 0)]).length by rw [nI_1, List.length_append]; rfl]
                    exact ih m1 (by omega) (q + 1) 0 false (acc ++ [smlN (t.getD q 0)]) _ _ _ _ _ (by omega) (by simp only [List.length_append, List.length_cons, List.length_nil]; omega) (by omega) (by rw [← List.append_assoc]; exact hS124)
                  · replace c69 : fs = true := bi_eqf c69
                    exact Bool.noConfusion (c38.symm.trans c69)
      · replace c54 : (isD (hb t q)) = true := bi_eqf c54
        show Rx X c0 m_Mod_readTag 69 [.ref (c0 + 16), .int (nI acc.length), .int (nI run), .int (bi fs), .int 1, .int (hb t q), b6, b7] [] σ τ _
        refine Rx.go (fun _ => rfl) ?_
        refine Rx.go (fun _ => rfl) ?_
        refine Rx.go (fun _ => rfl) ?_
        show Rx X c0 m_Mod_readTag 76 [.ref (c0 + 16), .int (nI acc.length), .int (nI run), .int (bi fs), .int 1, .int (hb t q), .int 1, b7] [] σ τ _
        refine Rx.go (fun _ => rfl) ?_
        refine Rx.go (fun _ => rfl) ?_
        refine Rx.go (fun _ => rfl) ?_
        refine Rx.ite (fun c70 => ?_) (fun c70 => ?_)
        · replace c70 : ¬ (hb t q) = 45 := of_decide_eq_true c70
          show Rx X c0 m_Mod_readTag 91 [.ref (c0 + 16), .int (nI acc.length), .int (nI run), .int (bi fs), .int 1, .int (hb t q), .int 1, b7] [] σ τ _
          refine Rx.go (fun _ => rfl) ?_
          refine Rx.go (fun _ => rfl) ?_
          show Rx X c0 m_Mod_readTag 94 [.ref (c0 + 16), .int (nI acc.length), .int (nI run), .int (bi fs), .int 1, .int (hb t q), .int 1, .int 0] [] σ τ _
          have hg : (isL (hb t q) || (isD (hb t q) && !fs)) = true := by simp [c1, c38, c54]
          have hd : (decide (hb t q = 45) && decide (0 < run)) = false := by simp [c70]
          have hgd : (isL (hb t q) || (isD (hb t q) && !fs)) = true ∨ (decide (hb t q = 45) && decide (0 < run)) = true := Or.inl hg
          have hlt := tg_lt hgd
          refine Rx.go (fun _ => rfl) ?_
          refine Rx.go (fun _ => rfl) ?_
          show Rx X c0 m_Mod_readTag 119 [.ref (c0 + 16), .int (nI acc.length), .int (nI run), .int (bi fs), .int 1, .int (hb t q), .int 1, .int 0] [] σ τ _
          refine Rx.go (fun _ => rfl) ?_
          refine Rx.go (fun _ => rfl) ?_
          refine Rx.go (fun _ => rfl) ?_
          refine Rx.ite (fun c71 => ?_) (fun c71 => ?_)
          · replace c71 : (nI acc.length) = 20 := of_decide_eq_true c71
            have d20 : acc.length = 20 := (nI_eq (b := 20) (by omega) (by decide)).mp c71
            show Rx X c0 m_Mod_readTag 136 [.ref (c0 + 16), .int (nI acc.length), .int (nI run), .int (bi fs), .int 1, .int (hb t q), .int 1, .int 0] [] σ τ _
            refine Rx.go (fun _ => rfl) ?_
            refine Rx.go (fun _ => rfl) ?_
            refine Rx.go (fun _ => rfl) ?_
            refine Rx.get rfl rfl ?_
            refine Rx.top (y := nI q) hS.f16 ?_
            refine Rx.callP rfl rfl rfl rfl (rs_fl (wn := q) hS (by decide) rfl) ?_
            intro σ125 τ125 hS125
            show Rx X c0 m_Mod_readTag 145 [.ref (c0 + 16), .int (nI acc.length), .int (nI run), .int (bi fs), .int 1, .int (hb t q), .int 1, .int 0] [] σ125 τ125 _
            refine Rx.go (fun _ => rfl) ?_
            refine Rx.go (fun _ => rfl) ?_
            refine Rx.go (fun _ => rfl) ?_
            refine Rx.go (fun _ => rfl) ?_
            refine Rx.ite (fun c72 => ?_) (fun c72 => ?_)
            · replace c72 : (hb t q) < 65 := of_decide_eq_true c72
              show Rx X c0 m_Mod_readTag 168 [.ref (c0 + 16), .int (nI acc.length), .int (nI run), .int (bi fs), .int 1, .int (hb t q), .int 1, .int 0] [.ref (c0 + 16)] σ125 τ125 _
              refine Rx.go (fun _ => rfl) ?_
              refine Rx.callP rfl rfl rfl rfl (rg_put _ hS125 (by first | omega | (simp only [List.length_append, List.length_cons, List.length_nil]; omega))) ?_
              intro σ126 τ126 hS126
              show Rx X c0 m_Mod_readTag 173 [.ref (c0 + 16), .int (nI acc.length), .int (nI run), .int (bi fs), .int 1, .int (hb t q), .int 1, .int 0] [] σ126 τ126 _
              refine Rx.go (fun _ => rfl) ?_
              show Rx X c0 m_Mod_readTag 176 [.ref (c0 + 16), .int ((nI acc.length) + 1), .int (nI run), .int (bi fs), .int 1, .int (hb t q), .int 1, .int 0] [] σ126 τ126 _
              refine Rx.go (fun _ => rfl) ?_
              refine Rx.go (fun _ => rfl) ?_
              refine Rx.get rfl rfl ?_
              refine Rx.go (fun _ => rfl) ?_
              refine Rx.go (fun _ => rfl) ?_
              refine Rx.put rfl (by decide) rfl rfl ?_
              have hS127 := hS126.at1
              refine Rx.go (fun _ => rfl) ?_
              refine Rx.go (fun _ => rfl) ?_
              show Rx X c0 m_Mod_readTag 191 [.ref (c0 + 16), .int ((nI acc.length) + 1), .int (nI run), .int (bi fs), .int 1, .int (hb t q), .int 1, .int 0] [] (upd σ126 16 ((σ126 16) + 1)) τ126 _
              refine Rx.go (fun _ => rfl) ?_
              refine Rx.go (fun _ => rfl) ?_
              refine Rx.go (fun _ => rfl) ?_
              refine Rx.go (fun _ => rfl) ?_
              refine Rx.go (fun _ => rfl) ?_
              show Rx X c0 m_Mod_readTag 199 [.ref (c0 + 16), .int ((nI acc.length) + 1), .int ((nI run) + 1), .int (bi fs), .int 1, .int (hb t q), .int 1, .int 0] [] (upd σ126 16 ((σ126 16) + 1)) τ126 _
              refine Rx.go (fun _ => rfl) ?_
              refine Rx.go (fun _ => rfl) ?_
              refine Rx.ite (fun c73 => ?_) (fun c73 => ?_)
              · replace c73 : fs = false := bi_eqt c73
                show Rx X c0 m_Mod_readTag 212 [.ref (c0 + 16), .int ((nI acc.length) + 1), .int ((nI run) + 1), .int (bi fs), .int 1, .int (hb t q), .int 1, .int 0] [] (upd σ126 16 ((σ126 16) + 1)) τ126 _
                refine Rx.go (fun _ => rfl) ?_
                refine Rx.go (fun _ => rfl) ?_
                show Rx X c0 m_Mod_readTag 214 [.ref (c0 + 16), .int ((nI acc.length) + 1), .int ((nI run) + 1), .int 0, .int 1, .int (hb t q), .int 1, .int 0] [] (upd σ126 16 ((σ126 16) + 1)) τ126 _
                refine Rx.go (fun _ => rfl) ?_
                refine Rx.go (fun _ => rfl) ?_
                refine Rx.go (fun _ => rfl) ?_
                show Rx X c0 m_Mod_readTag 36 [.ref (c0 + 16), .int ((nI acc.length) + 1), .int ((nI run) + 1), .int 0, .int 1, .int (hb t q), .int 1, .int 0] [] (upd σ126 16 ((σ126 16) + 1)) τ126 _
                refine Rx.go (fun _ => rfl) ?_
                refine Rx.callE rfl rfl rfl rfl (rg_good hS127) ?_
                show Rx X c0 m_Mod_readTag 40 [.ref (c0 + 16), .int ((nI acc.length) + 1), .int ((nI run) + 1), .int 0, .int 1, .int (hb t q), .int 1, .int 0] [.int 0] (upd σ126 16 ((σ126 16) + 1)) τ126 _
                refine Rx.go (fun _ => rfl) ?_
                show Rx X c0 m_Mod_readTag 217 [.ref (c0 + 16), .int ((nI acc.length) + 1), .int ((nI run) + 1), .int 0, .int 1, .int (hb t q), .int 1, .int 0] [] (upd σ126 16 ((σ126 16) + 1)) τ126 _
                refine Rx.go (fun _ => rfl) ?_
                refine Rx.go (fun _ => rfl) ?_
                refine Rx.get rfl rfl ?_
                refine Rx.go (fun _ => rfl) ?_
                refine Rx.go (fun _ => rfl) ?_
                refine Rx.put rfl (by decide) rfl rfl ?_
                have hS128 := hS127.up (i := 13) (x := ((upd σ126 16 ((σ126 16) + 1)) 13) + ((nI acc.length) + 1)) (by omega)
                exact Rx.ret rfl rfl (rQ_f (b := acc) (tg_x hm hlt hgd (by rw [decide_eq_true d20]; rfl)) hS128 (by first | omega | (simp only [List.length_append, List.length_cons, List.length_nil]; omega)) (by omega))
              · replace c73 : fs = true := bi_eqf c73
                exact Bool.noConfusion (c38.symm.trans c73)
            · replace c72 : ¬ (hb t q) < 65 := of_decide_eq_false c72
              show Rx X c0 m_Mod_readTag 153 [.ref (c0 + 16), .int (nI acc.length), .int (nI run), .int (bi fs), .int 1, .int (hb t q), .int 1, .int 0] [.ref (c0 + 16)] σ125 τ125 _
              refine Rx.go (fun _ => rfl) ?_
              refine Rx.go (fun _ => rfl) ?_
              refine Rx.go (fun _ => rfl) ?_
              refine Rx.ite (fun c74 => ?_) (fun c74 => ?_)
              · replace c74 : 90 < (hb t q) := of_decide_eq_true c74
                show Rx X c0 m_Mod_readTag 168 [.ref (c0 + 16), .int (nI acc.length), .int (nI run), .int (bi fs), .int 1, .int (hb t q), .int 1, .int 0] [.ref (c0 + 16)] σ125 τ125 _
                refine Rx.go (fun _ => rfl) ?_
                refine Rx.callP rfl rfl rfl rfl (rg_put _ hS125 (by first | omega | (simp only [List.length_append, List.length_cons, List.length_nil]; omega))) ?_
                intro σ129 τ129 hS129
                show Rx X c0 m_Mod_readTag 173 [.ref (c0 + 16), .int (nI acc.length), .int (nI run), .int (bi fs), .int 1, .int (hb t q), .int 1, .int 0] [] σ129 τ129 _
                refine Rx.go (fun _ => rfl) ?_
                show Rx X c0 m_Mod_readTag 176 [.ref (c0 + 16), .int ((nI acc.length) + 1), .int (nI run), .int (bi fs), .int 1, .int (hb t q), .int 1, .int 0] [] σ129 τ129 _
                refine Rx.go (fun _ => rfl) ?_
                refine Rx.go (fun _ => rfl) ?_
                refine Rx.get rfl rfl ?_
                refine Rx.go (fun _ => rfl) ?_
                refine Rx.go (fun _ => rfl) ?_
                refine Rx.put rfl (by decide) rfl rfl ?_
                have hS130 := hS129.at1
                refine Rx.go (fun _ => rfl) ?_
                refine Rx.go (fun _ => rfl) ?_
                show Rx X c0 m_Mod_readTag 191 [.ref (c0 + 16), .int ((nI acc.length) + 1), .int (nI run), .int (bi fs), .int 1, .int (hb t q), .int 1, .int 0] [] (upd σ129 16 ((σ129 16) + 1)) τ129 _
                refine Rx.go (fun _ => rfl) ?_
                refine Rx.go (fun _ => rfl) ?_
                refine Rx.go (fun _ => rfl) ?_
                refine Rx.go (fun _ => rfl) ?_
                refine Rx.go (fun _ => rfl) ?_
                show Rx X c0 m_Mod_readTag 199 [.ref (c0 + 16), .int ((nI acc.length) + 1), .int ((nI run) + 1), .int (bi fs), .int 1, .int (hb t q), .int 1, .int 0] [] (upd σ129 16 ((σ129 16) + 1)) τ129 _
                refine Rx.go (fun _ => rfl) ?_
                refine Rx.go (fun _ => rfl) ?_
                refine Rx.ite (fun c75 => ?_) (fun c75 => ?_)
                · replace c75 : fs = false := bi_eqt c75
                  show Rx X c0 m_Mod_readTag 212 [.ref (c0 + 16), .int ((nI acc.length) + 1), .int ((nI run) + 1), .int (bi fs), .int 1, .int (hb t q), .int 1, .int 0] [] (upd σ129 16 ((σ129 16) + 1)) τ129 _
                  refine Rx.go (fun _ => rfl) ?_
                  refine Rx.go (fun _ => rfl) ?_
                  show Rx X c0 m_Mod_readTag 214 [.ref (c0 + 16), .int ((nI acc.length) + 1), .int ((nI run) + 1), .int 0, .int 1, .int (hb t q), .int 1, .int 0] [] (upd σ129 16 ((σ129 16) + 1)) τ129 _
                  refine Rx.go (fun _ => rfl) ?_
                  refine Rx.go (fun _ => rfl) ?_
                  refine Rx.go (fun _ => rfl) ?_
                  show Rx X c0 m_Mod_readTag 36 [.ref (c0 + 16), .int ((nI acc.length) + 1), .int ((nI run) + 1), .int 0, .int 1, .int (hb t q), .int 1, .int 0] [] (upd σ129 16 ((σ129 16) + 1)) τ129 _
                  refine Rx.go (fun _ => rfl) ?_
                  refine Rx.callE rfl rfl rfl rfl (rg_good hS130) ?_
                  show Rx X c0 m_Mod_readTag 40 [.ref (c0 + 16), .int ((nI acc.length) + 1), .int ((nI run) + 1), .int 0, .int 1, .int (hb t q), .int 1, .int 0] [.int 0] (upd σ129 16 ((σ129 16) + 1)) τ129 _
                  refine Rx.go (fun _ => rfl) ?_
                  show Rx X c0 m_Mod_readTag 217 [.ref (c0 + 16), .int ((nI acc.length) + 1), .int ((nI run) + 1), .int 0, .int 1, .int (hb t q), .int 1, .int 0] [] (upd σ129 16 ((σ129 16) + 1)) τ129 _
                  refine Rx.go (fun _ => rfl) ?_
                  refine Rx.go (fun _ => rfl) ?_
                  refine Rx.get rfl rfl ?_
                  refine Rx.go (fun _ => rfl) ?_
                  refine Rx.go (fun _ => rfl) ?_
                  refine Rx.put rfl (by decide) rfl rfl ?_
                  have hS131 := hS130.up (i := 13) (x := ((upd σ129 16 ((σ129 16) + 1)) 13) + ((nI acc.length) + 1)) (by omega)
                  exact Rx.ret rfl rfl (rQ_f (b := acc) (tg_x hm hlt hgd (by rw [decide_eq_true d20]; rfl)) hS131 (by first | omega | (simp only [List.length_append, List.length_cons, List.length_nil]; omega)) (by omega))
                · replace c75 : fs = true := bi_eqf c75
                  exact Bool.noConfusion (c38.symm.trans c75)
              · replace c74 : ¬ 90 < (hb t q) := of_decide_eq_false c74
                show Rx X c0 m_Mod_readTag 160 [.ref (c0 + 16), .int (nI acc.length), .int (nI run), .int (bi fs), .int 1, .int (hb t q), .int 1, .int 0] [.ref (c0 + 16)] σ125 τ125 _
                refine Rx.go (fun _ => rfl) ?_
                refine Rx.go (fun _ => rfl) ?_
                refine Rx.go (fun _ => rfl) ?_
                refine Rx.go (fun _ => rfl) ?_
                refine Rx.callP rfl rfl rfl rfl (rg_put _ hS125 (by first | omega | (simp only [List.length_append, List.length_cons, List.length_nil]; omega))) ?_
                intro σ132 τ132 hS132
                show Rx X c0 m_Mod_readTag 173 [.ref (c0 + 16), .int (nI acc.length), .int (nI run), .int (bi fs), .int 1, .int (hb t q), .int 1, .int 0] [] σ132 τ132 _
                refine Rx.go (fun _ => rfl) ?_
                show Rx X c0 m_Mod_readTag 176 [.ref (c0 + 16), .int ((nI acc.length) + 1), .int (nI run), .int (bi fs), .int 1, .int (hb t q), .int 1, .int 0] [] σ132 τ132 _
                refine Rx.go (fun _ => rfl) ?_
                refine Rx.go (fun _ => rfl) ?_
                refine Rx.get rfl rfl ?_
                refine Rx.go (fun _ => rfl) ?_
                refine Rx.go (fun _ => rfl) ?_
                refine Rx.put rfl (by decide) rfl rfl ?_
                have hS133 := hS132.at1
                refine Rx.go (fun _ => rfl) ?_
                refine Rx.go (fun _ => rfl) ?_
                show Rx X c0 m_Mod_readTag 191 [.ref (c0 + 16), .int ((nI acc.length) + 1), .int (nI run), .int (bi fs), .int 1, .int (hb t q), .int 1, .int 0] [] (upd σ132 16 ((σ132 16) + 1)) τ132 _
                refine Rx.go (fun _ => rfl) ?_
                refine Rx.go (fun _ => rfl) ?_
                refine Rx.go (fun _ => rfl) ?_
                refine Rx.go (fun _ => rfl) ?_
                refine Rx.go (fun _ => rfl) ?_
                show Rx X c0 m_Mod_readTag 199 [.ref (c0 + 16), .int ((nI acc.length) + 1), .int ((nI run) + 1), .int (bi fs), .int 1, .int (hb t q), .int 1, .int 0] [] (upd σ132 16 ((σ132 16) + 1)) τ132 _
                refine Rx.go (fun _ => rfl) ?_
                refine Rx.go (fun _ => rfl) ?_
                refine Rx.ite (fun c76 => ?_) (fun c76 => ?_)
                · replace c76 : fs = false := bi_eqt c76
                  show Rx X c0 m_Mod_readTag 212 [.ref (c0 + 16), .int ((nI acc.length) + 1), .int ((nI run) + 1), .int (bi fs), .int 1, .int (hb t q), .int 1, .int 0] [] (upd σ132 16 ((σ132 16) + 1)) τ132 _
                  refine Rx.go (fun _ => rfl) ?_
                  refine Rx.go (fun _ => rfl) ?_
                  show Rx X c0 m_Mod_readTag 214 [.ref (c0 + 16), .int ((nI acc.length) + 1), .int ((nI run) + 1), .int 0, .int 1, .int (hb t q), .int 1, .int 0] [] (upd σ132 16 ((σ132 16) + 1)) τ132 _
                  refine Rx.go (fun _ => rfl) ?_
                  refine Rx.go (fun _ => rfl) ?_
                  refine Rx.go (fun _ => rfl) ?_
                  show Rx X c0 m_Mod_readTag 36 [.ref (c0 + 16), .int ((nI acc.length) + 1), .int ((nI run) + 1), .int 0, .int 1, .int (hb t q), .int 1, .int 0] [] (upd σ132 16 ((σ132 16) + 1)) τ132 _
                  refine Rx.go (fun _ => rfl) ?_
                  refine Rx.callE rfl rfl rfl rfl (rg_good hS133) ?_
                  show Rx X c0 m_Mod_readTag 40 [.ref (c0 + 16), .int ((nI acc.length) + 1), .int ((nI run) + 1), .int 0, .int 1, .int (hb t q), .int 1, .int 0] [.int 0] (upd σ132 16 ((σ132 16) + 1)) τ132 _
                  refine Rx.go (fun _ => rfl) ?_
                  show Rx X c0 m_Mod_readTag 217 [.ref (c0 + 16), .int ((nI acc.length) + 1), .int ((nI run) + 1), .int 0, .int 1, .int (hb t q), .int 1, .int 0] [] (upd σ132 16 ((σ132 16) + 1)) τ132 _
                  refine Rx.go (fun _ => rfl) ?_
                  refine Rx.go (fun _ => rfl) ?_
                  refine Rx.get rfl rfl ?_
                  refine Rx.go (fun _ => rfl) ?_
                  refine Rx.go (fun _ => rfl) ?_
                  refine Rx.put rfl (by decide) rfl rfl ?_
                  have hS134 := hS133.up (i := 13) (x := ((upd σ132 16 ((σ132 16) + 1)) 13) + ((nI acc.length) + 1)) (by omega)
                  exact Rx.ret rfl rfl (rQ_f (b := acc) (tg_x hm hlt hgd (by rw [decide_eq_true d20]; rfl)) hS134 (by first | omega | (simp only [List.length_append, List.length_cons, List.length_nil]; omega)) (by omega))
                · replace c76 : fs = true := bi_eqf c76
                  exact Bool.noConfusion (c38.symm.trans c76)
          · replace c71 : ¬ (nI acc.length) = 20 := of_decide_eq_false c71
            have d20 : ¬ acc.length = 20 := fun e => c71 (by rw [e]; rfl)
            show Rx X c0 m_Mod_readTag 125 [.ref (c0 + 16), .int (nI acc.length), .int (nI run), .int (bi fs), .int 1, .int (hb t q), .int 1, .int 0] [] σ τ _
            refine Rx.go (fun _ => rfl) ?_
            refine Rx.go (fun _ => rfl) ?_
            show Rx X c0 m_Mod_readTag 130 [.ref (c0 + 16), .int (nI acc.length), .int (nI run), .int (bi fs), .int 1, .int (hb t q), .int 1, .int 0] [] σ τ _
            refine Rx.go (fun _ => rfl) ?_
            refine Rx.go (fun _ => rfl) ?_
            refine Rx.go (fun _ => rfl) ?_
            refine Rx.ite (fun c77 => ?_) (fun c77 => ?_)
            · replace c77 : ¬ (nI run) = 8 := of_decide_eq_true c77
              have d8 : ¬ run = 8 := fun e => c77 (by rw [e]; rfl)
              show Rx X c0 m_Mod_readTag 145 [.ref (c0 + 16), .int (nI acc.length), .int (nI run), .int (bi fs), .int 1, .int (hb t q), .int 1, .int 0] [] σ τ _
              refine Rx.go (fun _ => rfl) ?_
              refine Rx.go (fun _ => rfl) ?_
              refine Rx.go (fun _ => rfl) ?_
              refine Rx.go (fun _ => rfl) ?_
              refine Rx.ite (fun c78 => ?_) (fun c78 => ?_)
              · replace c78 : (hb t q) < 65 := of_decide_eq_true c78
                show Rx X c0 m_Mod_readTag 168 [.ref (c0 + 16), .int (nI acc.length), .int (nI run), .int (bi fs), .int 1, .int (hb t q), .int 1, .int 0] [.ref (c0 + 16)] σ τ _
                refine Rx.go (fun _ => rfl) ?_
                refine Rx.top (y := nI (smlN (t.getD q 0))) (by rw [hb_lt hlt]; exact sml_b (hS.z.by q) (Or.inl (by rw [← hb_lt hlt]; exact c78))) ?_
                refine Rx.callP rfl rfl rfl rfl (rs_put (smlN (t.getD q 0)) hS (by first | omega | (simp only [List.length_append, List.length_cons, List.length_nil]; omega))) ?_
                intro σ135 τ135 hS135
                show Rx X c0 m_Mod_readTag 173 [.ref (c0 + 16), .int (nI acc.length), .int (nI run), .int (bi fs), .int 1, .int (hb t q), .int 1, .int 0] [] σ135 τ135 _
                refine Rx.go (fun _ => rfl) ?_
                show Rx X c0 m_Mod_readTag 176 [.ref (c0 + 16), .int ((nI acc.length) + 1), .int (nI run), .int (bi fs), .int 1, .int (hb t q), .int 1, .int 0] [] σ135 τ135 _
                refine Rx.go (fun _ => rfl) ?_
                refine Rx.go (fun _ => rfl) ?_
                refine Rx.get rfl rfl ?_
                refine Rx.top (y := nI q) hS135.f16 ?_
                refine Rx.go (fun _ => rfl) ?_
                refine Rx.go (fun _ => rfl) ?_
                refine Rx.top (y := nI (q + 1)) (nI_1 _) ?_
                refine Rx.put rfl (by decide) rfl rfl ?_
                have hS136 := hS135.at1 hlt
                refine Rx.go (fun _ => rfl) ?_
                refine Rx.go (fun _ => rfl) ?_
                show Rx X c0 m_Mod_readTag 191 [.ref (c0 + 16), .int ((nI acc.length) + 1), .int (nI run), .int (bi fs), .int 1, .int (hb t q), .int 1, .int 0] [] (upd σ135 16 (nI (q + 1))) τ135 _
                refine Rx.go (fun _ => rfl) ?_
                refine Rx.go (fun _ => rfl) ?_
                refine Rx.go (fun _ => rfl) ?_
                refine Rx.go (fun _ => rfl) ?_
                refine Rx.go (fun _ => rfl) ?_
                show Rx X c0 m_Mod_readTag 199 [.ref (c0 + 16), .int ((nI acc.length) + 1), .int ((nI run) + 1), .int (bi fs), .int 1, .int (hb t q), .int 1, .int 0] [] (upd σ135 16 (nI (q + 1))) τ135 _
                refine Rx.go (fun _ => rfl) ?_
                refine Rx.go (fun _ => rfl) ?_
                refine Rx.ite (fun c79 => ?_) (fun c79 => ?_)
                · replace c79 : fs = false := bi_eqt c79
                  show Rx X c0 m_Mod_readTag 212 [.ref (c0 + 16), .int ((nI acc.length) + 1), .int ((nI run) + 1), .int (bi fs), .int 1, .int (hb t q), .int 1, .int 0] [] (upd σ135 16 (nI (q + 1))) τ135 _
                  refine Rx.go (fun _ => rfl) ?_
                  refine Rx.go (fun _ => rfl) ?_
                  show Rx X c0 m_Mod_readTag 214 [.ref (c0 + 16), .int ((nI acc.length) + 1), .int ((nI run) + 1), .int 0, .int 1, .int (hb t q), .int 1, .int 0] [] (upd σ135 16 (nI (q + 1))) τ135 _
                  refine Rx.go (fun _ => rfl) ?_
                  show Rx X c0 m_Mod_readTag 31 [.ref (c0 + 16), .int ((nI acc.length) + 1), .int ((nI run) + 1), .int 0, .int 1, .int (hb t q), .int 1, .int 0] [] (upd σ135 16 (nI (q + 1))) τ135 _
                  rw [show nI run + 1 = nI (run + 1) from nI_1 run]
                  obtain ⟨m1, rfl⟩ : ∃ m1, m = m1 + 1 := ⟨m - 1, by omega⟩
                  have e1 : sT t (m1 + 1) q run fs acc = sT t m1 (q + 1) (run + 1) false (acc ++ [smlN (t.getD q 0)]) := by rw [tg_n hgd (by rw [decide_eq_false d20, decide_eq_false d8]; simp), hd]; first | rfl | simp [hg, c38, c79]
                  rw [e1, show nI acc.length + 1 = nI (acc ++ [smlN (t.getD q 0)]).length by rw [nI_1, List.length_append]; rfl]
                  exact ih m1 (by omega) (q + 1) (run + 1) false (acc ++ [smlN (t.getD q 0)]) _ _ _ _ _ (by omega) (by simp only [List.length_append, List.length_cons, List.length_nil]; omega) (by omega) (by rw [← List.append_assoc]; exact hS136)
                · replace c79 : fs = true := bi_eqf c79
                  exact Bool.noConfusion (c38.symm.trans c79)
              · replace c78 : ¬ (hb t q) < 65 := of_decide_eq_false c78
                show Rx X c0 m_Mod_readTag 153 [.ref (c0 + 16), .int (nI acc.length), .int (nI run), .int (bi fs), .int 1, .int (hb t q), .int 1, .int 0] [.ref (c0 + 16)] σ τ _
                refine Rx.go (fun _ => rfl) ?_
                refine Rx.go (fun _ => rfl) ?_
                refine Rx.go (fun _ => rfl) ?_
                refine Rx.ite (fun c80 => ?_) (fun c80 => ?_)
                · replace c80 : 90 < (hb t q) := of_decide_eq_true c80
                  show Rx X c0 m_Mod_readTag 168 [.ref (c0 + 16), .int (nI acc.length), .int (nI run), .int (bi fs), .int 1, .int (hb t q), .int 1, .int 0] [.ref (c0 + 16)] σ τ _
                  refine Rx.go (fun _ => rfl) ?_
                  refine Rx.top (y := nI (smlN (t.getD q 0))) (by rw [hb_lt hlt]; exact sml_b (hS.z.by q) (Or.inr (by rw [← hb_lt hlt]; exact c80))) ?_
                  refine Rx.callP rfl rfl rfl rfl (rs_put (smlN (t.getD q 0)) hS (by first | omega | (simp only [List.length_append, List.length_cons, List.length_nil]; omega))) ?_
                  intro σ137 τ137 hS137
                  show Rx X c0 m_Mod_readTag 173 [.ref (c0 + 16), .int (nI acc.length), .int (nI run), .int (bi fs), .int 1, .int (hb t q), .int 1, .int 0] [] σ137 τ137 _
                  refine Rx.go (fun _ => rfl) ?_
                  show Rx X c0 m_Mod_readTag 176 [.ref (c0 + 16), .int ((nI acc.length) + 1), .int (nI run), .int (bi fs), .int 1, .int (hb t q), .int 1, .int 0] [] σ137 τ137 _
                  refine Rx.go (fun _ => rfl) ?_
                  refine Rx.go (fun _ => rfl) ?_
                  refine Rx.get rfl rfl ?_
                  refine Rx.top (y := nI q) hS137.f16 ?_
                  refine Rx.go (fun _ => rfl) ?_
                  refine Rx.go (fun _ => rfl) ?_
                  refine Rx.top (y := nI (q + 1)) (nI_1 _) ?_
                  refine Rx.put rfl (by decide) rfl rfl ?_
                  have hS138 := hS137.at1 hlt
                  refine Rx.go (fun _ => rfl) ?_
                  refine Rx.go (fun _ => rfl) ?_
                  show Rx X c0 m_Mod_readTag 191 [.ref (c0 + 16), .int ((nI acc.length) + 1), .int (nI run), .int (bi fs), .int 1, .int (hb t q), .int 1, .int 0] [] (upd σ137 16 (nI (q + 1))) τ137 _
                  refine Rx.go (fun _ => rfl) ?_
                  refine Rx.go (fun _ => rfl) ?_
                  refine Rx.go (fun _ => rfl) ?_
                  refine Rx.go (fun _ => rfl) ?_
                  refine Rx.go (fun _ => rfl) ?_
                  show Rx X c0 m_Mod_readTag 199 [.ref (c0 + 16), .int ((nI acc.length) + 1), .int ((nI run) + 1), .int (bi fs), .int 1, .int (hb t q), .int 1, .int 0] [] (upd σ137 16 (nI (q + 1))) τ137 _
                  refine Rx.go (fun _ => rfl) ?_
                  refine Rx.go (fun _ => rfl) ?_
                  refine Rx.ite (fun c81 => ?_) (fun c81 => ?_)
                  · replace c81 : fs = false := bi_eqt c81
                    show Rx X c0 m_Mod_readTag 212 [.ref (c0 + 16), .int ((nI acc.length) + 1), .int ((nI run) + 1), .int (bi fs), .int 1, .int (hb t q), .int 1, .int 0] [] (upd σ137 16 (nI (q + 1))) τ137 _
                    refine Rx.go (fun _ => rfl) ?_
                    refine Rx.go (fun _ => rfl) ?_
                    show Rx X c0 m_Mod_readTag 214 [.ref (c0 + 16), .int ((nI acc.length) + 1), .int ((nI run) + 1), .int 0, .int 1, .int (hb t q), .int 1, .int 0] [] (upd σ137 16 (nI (q + 1))) τ137 _
                    refine Rx.go (fun _ => rfl) ?_
                    show Rx X c0 m_Mod_readTag 31 [.ref (c0 + 16), .int ((nI acc.length) + 1), .int ((nI run) + 1), .int 0, .int 1, .int (hb t q), .int 1, .int 0] [] (upd σ137 16 (nI (q + 1))) τ137 _
                    rw [show nI run + 1 = nI (run + 1) from nI_1 run]
                    obtain ⟨m1, rfl⟩ : ∃ m1, m = m1 + 1 := ⟨m - 1, by omega⟩
                    have e1 : sT t (m1 + 1) q run fs acc = sT t m1 (q + 1) (run + 1) false (acc ++ [smlN (t.getD q 0)]) := by rw [tg_n hgd (by rw [decide_eq_false d20, decide_eq_false d8]; simp), hd]; first | rfl | simp [hg, c38, c81]
                    rw [e1, show nI acc.length + 1 = nI (acc ++ [smlN (t.getD q 0)]).length by rw [nI_1, List.length_append]; rfl]
                    exact ih m1 (by omega) (q + 1) (run + 1) false (acc ++ [smlN (t.getD q 0)]) _ _ _ _ _ (by omega) (by simp only [List.length_append, List.length_cons, List.length_nil]; omega) (by omega) (by rw [← List.append_assoc]; exact hS138)
                  · replace c81 : fs = true := bi_eqf c81
                    exact Bool.noConfusion (c38.symm.trans c81)
                · replace c80 : ¬ 90 < (hb t q) := of_decide_eq_false c80
                  show Rx X c0 m_Mod_readTag 160 [.ref (c0 + 16), .int (nI acc.length), .int (nI run), .int (bi fs), .int 1, .int (hb t q), .int 1, .int 0] [.ref (c0 + 16)] σ τ _
                  refine Rx.go (fun _ => rfl) ?_
                  refine Rx.go (fun _ => rfl) ?_
                  refine Rx.go (fun _ => rfl) ?_
                  refine Rx.go (fun _ => rfl) ?_
                  refine Rx.top (y := nI (smlN (t.getD q 0))) (by rw [hb_lt hlt]; exact sml_a (hS.z.by q) (by rw [← hb_lt hlt]; exact c78) (by rw [← hb_lt hlt]; exact c80)) ?_
                  refine Rx.callP rfl rfl rfl rfl (rs_put (smlN (t.getD q 0)) hS (by first | omega | (simp only [List.length_append, List.length_cons, List.length_nil]; omega))) ?_
                  intro σ139 τ139 hS139
                  show Rx X c0 m_Mod_readTag 173 [.ref (c0 + 16), .int (nI acc.length), .int (nI run), .int (bi fs), .int 1, .int (hb t q), .int 1, .int 0] [] σ139 τ139 _
                  refine Rx.go (fun _ => rfl) ?_
                  show Rx X c0 m_Mod_readTag 176 [.ref (c0 + 16), .int ((nI acc.length) + 1), .int (nI run), .int (bi fs), .int 1, .int (hb t q), .int 1, .int 0] [] σ139 τ139 _
                  refine Rx.go (fun _ => rfl) ?_
                  refine Rx.go (fun _ => rfl) ?_
                  refine Rx.get rfl rfl ?_
                  refine Rx.top (y := nI q) hS139.f16 ?_
                  refine Rx.go (fun _ => rfl) ?_
                  refine Rx.go (fun _ => rfl) ?_
                  refine Rx.top (y := nI (q + 1)) (nI_1 _) ?_
                  refine Rx.put rfl (by decide) rfl rfl ?_
                  have hS140 := hS139.at1 hlt
                  refine Rx.go (fun _ => rfl) ?_
                  refine Rx.go (fun _ => rfl) ?_
                  show Rx X c0 m_Mod_readTag 191 [.ref (c0 + 16), .int ((nI acc.length) + 1), .int (nI run), .int (bi fs), .int 1, .int (hb t q), .int 1, .int 0] [] (upd σ139 16 (nI (q + 1))) τ139 _
                  refine Rx.go (fun _ => rfl) ?_
                  refine Rx.go (fun _ => rfl) ?_
                  refine Rx.go (fun _ => rfl) ?_
                  refine Rx.go (fun _ => rfl) ?_
                  refine Rx.go (fun _ => rfl) ?_
                  show Rx X c0 m_Mod_readTag 199 [.ref (c0 + 16), .int ((nI acc.length) + 1), .int ((nI run) + 1), .int (bi fs), .int 1, .int (hb t q), .int 1, .int 0] [] (upd σ139 16 (nI (q + 1))) τ139 _
                  refine Rx.go (fun _ => rfl) ?_
                  refine Rx.go (fun _ => rfl) ?_
                  refine Rx.ite (fun c82 => ?_) (fun c82 => ?_)
                  · replace c82 : fs = false := bi_eqt c82
                    show Rx X c0 m_Mod_readTag 212 [.ref (c0 + 16), .int ((nI acc.length) + 1), .int ((nI run) + 1), .int (bi fs), .int 1, .int (hb t q), .int 1, .int 0] [] (upd σ139 16 (nI (q + 1))) τ139 _
                    refine Rx.go (fun _ => rfl) ?_
                    refine Rx.go (fun _ => rfl) ?_
                    show Rx X c0 m_Mod_readTag 214 [.ref (c0 + 16), .int ((nI acc.length) + 1), .int ((nI run) + 1), .int 0, .int 1, .int (hb t q), .int 1, .int 0] [] (upd σ139 16 (nI (q + 1))) τ139 _
                    refine Rx.go (fun _ => rfl) ?_
                    show Rx X c0 m_Mod_readTag 31 [.ref (c0 + 16), .int ((nI acc.length) + 1), .int ((nI run) + 1), .int 0, .int 1, .int (hb t q), .int 1, .int 0] [] (upd σ139 16 (nI (q + 1))) τ139 _
                    rw [show nI run + 1 = nI (run + 1) from nI_1 run]
                    obtain ⟨m1, rfl⟩ : ∃ m1, m = m1 + 1 := ⟨m - 1, by omega⟩
                    have e1 : sT t (m1 + 1) q run fs acc = sT t m1 (q + 1) (run + 1) false (acc ++ [smlN (t.getD q 0)]) := by rw [tg_n hgd (by rw [decide_eq_false d20, decide_eq_false d8]; simp), hd]; first | rfl | simp [hg, c38, c82]
                    rw [e1, show nI acc.length + 1 = nI (acc ++ [smlN (t.getD q 0)]).length by rw [nI_1, List.length_append]; rfl]
                    exact ih m1 (by omega) (q + 1) (run + 1) false (acc ++ [smlN (t.getD q 0)]) _ _ _ _ _ (by omega) (by simp only [List.length_append, List.length_cons, List.length_nil]; omega) (by omega) (by rw [← List.append_assoc]; exact hS140)
                  · replace c82 : fs = true := bi_eqf c82
                    exact Bool.noConfusion (c38.symm.trans c82)
            · replace c77 : (nI run) = 8 := Classical.not_not.mp (of_decide_eq_false c77)
              have d8 : run = 8 := (nI_eq (b := 8) (by omega) (by decide)).mp c77
              show Rx X c0 m_Mod_readTag 136 [.ref (c0 + 16), .int (nI acc.length), .int (nI run), .int (bi fs), .int 1, .int (hb t q), .int 1, .int 0] [] σ τ _
              refine Rx.go (fun _ => rfl) ?_
              refine Rx.go (fun _ => rfl) ?_
              refine Rx.go (fun _ => rfl) ?_
              refine Rx.get rfl rfl ?_
              refine Rx.top (y := nI q) hS.f16 ?_
              refine Rx.callP rfl rfl rfl rfl (rs_fl (wn := q) hS (by decide) rfl) ?_
              intro σ141 τ141 hS141
              show Rx X c0 m_Mod_readTag 145 [.ref (c0 + 16), .int (nI acc.length), .int (nI run), .int (bi fs), .int 1, .int (hb t q), .int 1, .int 0] [] σ141 τ141 _
              refine Rx.go (fun _ => rfl) ?_
              refine Rx.go (fun _ => rfl) ?_
              refine Rx.go (fun _ => rfl) ?_
              refine Rx.go (fun _ => rfl) ?_
              refine Rx.ite (fun c83 => ?_) (fun c83 => ?_)
              · replace c83 : (hb t q) < 65 := of_decide_eq_true c83
                show Rx X c0 m_Mod_readTag 168 [.ref (c0 + 16), .int (nI acc.length), .int (nI run), .int (bi fs), .int 1, .int (hb t q), .int 1, .int 0] [.ref (c0 + 16)] σ141 τ141 _
                refine Rx.go (fun _ => rfl) ?_
                refine Rx.callP rfl rfl rfl rfl (rg_put _ hS141 (by first | omega | (simp only [List.length_append, List.length_cons, List.length_nil]; omega))) ?_
                intro σ142 τ142 hS142
                show Rx X c0 m_Mod_readTag 173 [.ref (c0 + 16), .int (nI acc.length), .int (nI run), .int (bi fs), .int 1, .int (hb t q), .int 1, .int 0] [] σ142 τ142 _
                refine Rx.go (fun _ => rfl) ?_
                show Rx X c0 m_Mod_readTag 176 [.ref (c0 + 16), .int ((nI acc.length) + 1), .int (nI run), .int (bi fs), .int 1, .int (hb t q), .int 1, .int 0] [] σ142 τ142 _
                refine Rx.go (fun _ => rfl) ?_
                refine Rx.go (fun _ => rfl) ?_
                refine Rx.get rfl rfl ?_
                refine Rx.go (fun _ => rfl) ?_
                refine Rx.go (fun _ => rfl) ?_
                refine Rx.put rfl (by decide) rfl rfl ?_
                have hS143 := hS142.at1
                refine Rx.go (fun _ => rfl) ?_
                refine Rx.go (fun _ => rfl) ?_
                show Rx X c0 m_Mod_readTag 191 [.ref (c0 + 16), .int ((nI acc.length) + 1), .int (nI run), .int (bi fs), .int 1, .int (hb t q), .int 1, .int 0] [] (upd σ142 16 ((σ142 16) + 1)) τ142 _
                refine Rx.go (fun _ => rfl) ?_
                refine Rx.go (fun _ => rfl) ?_
                refine Rx.go (fun _ => rfl) ?_
                refine Rx.go (fun _ => rfl) ?_
                refine Rx.go (fun _ => rfl) ?_
                show Rx X c0 m_Mod_readTag 199 [.ref (c0 + 16), .int ((nI acc.length) + 1), .int ((nI run) + 1), .int (bi fs), .int 1, .int (hb t q), .int 1, .int 0] [] (upd σ142 16 ((σ142 16) + 1)) τ142 _
                refine Rx.go (fun _ => rfl) ?_
                refine Rx.go (fun _ => rfl) ?_
                refine Rx.ite (fun c84 => ?_) (fun c84 => ?_)
                · replace c84 : fs = false := bi_eqt c84
                  show Rx X c0 m_Mod_readTag 212 [.ref (c0 + 16), .int ((nI acc.length) + 1), .int ((nI run) + 1), .int (bi fs), .int 1, .int (hb t q), .int 1, .int 0] [] (upd σ142 16 ((σ142 16) + 1)) τ142 _
                  refine Rx.go (fun _ => rfl) ?_
                  refine Rx.go (fun _ => rfl) ?_
                  show Rx X c0 m_Mod_readTag 214 [.ref (c0 + 16), .int ((nI acc.length) + 1), .int ((nI run) + 1), .int 0, .int 1, .int (hb t q), .int 1, .int 0] [] (upd σ142 16 ((σ142 16) + 1)) τ142 _
                  refine Rx.go (fun _ => rfl) ?_
                  refine Rx.go (fun _ => rfl) ?_
                  refine Rx.go (fun _ => rfl) ?_
                  show Rx X c0 m_Mod_readTag 36 [.ref (c0 + 16), .int ((nI acc.length) + 1), .int ((nI run) + 1), .int 0, .int 1, .int (hb t q), .int 1, .int 0] [] (upd σ142 16 ((σ142 16) + 1)) τ142 _
                  refine Rx.go (fun _ => rfl) ?_
                  refine Rx.callE rfl rfl rfl rfl (rg_good hS143) ?_
                  show Rx X c0 m_Mod_readTag 40 [.ref (c0 + 16), .int ((nI acc.length) + 1), .int ((nI run) + 1), .int 0, .int 1, .int (hb t q), .int 1, .int 0] [.int 0] (upd σ142 16 ((σ142 16) + 1)) τ142 _
                  refine Rx.go (fun _ => rfl) ?_
                  show Rx X c0 m_Mod_readTag 217 [.ref (c0 + 16), .int ((nI acc.length) + 1), .int ((nI run) + 1), .int 0, .int 1, .int (hb t q), .int 1, .int 0] [] (upd σ142 16 ((σ142 16) + 1)) τ142 _
                  refine Rx.go (fun _ => rfl) ?_
                  refine Rx.go (fun _ => rfl) ?_
                  refine Rx.get rfl rfl ?_
                  refine Rx.go (fun _ => rfl) ?_
                  refine Rx.go (fun _ => rfl) ?_
                  refine Rx.put rfl (by decide) rfl rfl ?_
                  have hS144 := hS143.up (i := 13) (x := ((upd σ142 16 ((σ142 16) + 1)) 13) + ((nI acc.length) + 1)) (by omega)
                  exact Rx.ret rfl rfl (rQ_f (b := acc) (tg_x hm hlt hgd (by rw [hg, decide_eq_true d8]; simp)) hS144 (by first | omega | (simp only [List.length_append, List.length_cons, List.length_nil]; omega)) (by omega))
                · replace c84 : fs = true := bi_eqf c84
                  exact Bool.noConfusion (c38.symm.trans c84)
              · replace c83 : ¬ (hb t q) < 65 := of_decide_eq_false c83
                show Rx X c0 m_Mod_readTag 153 [.ref (c0 + 16), .int (nI acc.length), .int (nI run), .int (bi fs), .int 1, .int (hb t q), .int 1, .int 0] [.ref (c0 + 16)] σ141 τ141 _
                refine Rx.go (fun _ => rfl) ?_
                refine Rx.go (fun _ => rfl) ?_
                refine Rx.go (fun _ => rfl) ?_
                refine Rx.ite (fun c85 => ?_) (fun c85 => ?_)
                · replace c85 : 90 < (hb t q) := of_decide_eq_true c85
                  show Rx X c0 m_Mod_readTag 168 [.ref (c0 + 16), .int (nI acc.length), .int (nI run), .int (bi fs), .int 1, .int (hb t q), .int 1, .int 0] [.ref (c0 + 16)] σ141 τ141 _
                  refine Rx.go (fun _ => rfl) ?_
                  refine Rx.callP rfl rfl rfl rfl (rg_put _ hS141 (by first | omega | (simp only [List.length_append, List.length_cons, List.length_nil]; omega))) ?_
                  intro σ145 τ145 hS145
                  show Rx X c0 m_Mod_readTag 173 [.ref (c0 + 16), .int (nI acc.length), .int (nI run), .int (bi fs), .int 1, .int (hb t q), .int 1, .int 0] [] σ145 τ145 _
                  refine Rx.go (fun _ => rfl) ?_
                  show Rx X c0 m_Mod_readTag 176 [.ref (c0 + 16), .int ((nI acc.length) + 1), .int (nI run), .int (bi fs), .int 1, .int (hb t q), .int 1, .int 0] [] σ145 τ145 _
                  refine Rx.go (fun _ => rfl) ?_
                  refine Rx.go (fun _ => rfl) ?_
                  refine Rx.get rfl rfl ?_
                  refine Rx.go (fun _ => rfl) ?_
                  refine Rx.go (fun _ => rfl) ?_
                  refine Rx.put rfl (by decide) rfl rfl ?_
                  have hS146 := hS145.at1
                  refine Rx.go (fun _ => rfl) ?_
                  refine Rx.go (fun _ => rfl) ?_
                  show Rx X c0 m_Mod_readTag 191 [.ref (c0 + 16), .int ((nI acc.length) + 1), .int (nI run), .int (bi fs), .int 1, .int (hb t q), .int 1, .int 0] [] (upd σ145 16 ((σ145 16) + 1)) τ145 _
                  refine Rx.go (fun _ => rfl) ?_
                  refine Rx.go (fun _ => rfl) ?_
                  refine Rx.go (fun _ => rfl) ?_
                  refine Rx.go (fun _ => rfl) ?_
                  refine Rx.go (fun _ => rfl) ?_
                  show Rx X c0 m_Mod_readTag 199 [.ref (c0 + 16), .int ((nI acc.length) + 1), .int ((nI run) + 1), .int (bi fs), .int 1, .int (hb t q), .int 1, .int 0] [] (upd σ145 16 ((σ145 16) + 1)) τ145 _
                  refine Rx.go (fun _ => rfl) ?_
                  refine Rx.go (fun _ => rfl) ?_
                  refine Rx.ite (fun c86 => ?_) (fun c86 => ?_)
                  · replace c86 : fs = false := bi_eqt c86
                    show Rx X c0 m_Mod_readTag 212 [.ref (c0 + 16), .int ((nI acc.length) + 1), .int ((nI run) + 1), .int (bi fs), .int 1, .int (hb t q), .int 1, .int 0] [] (upd σ145 16 ((σ145 16) + 1)) τ145 _
                    refine Rx.go (fun _ => rfl) ?_
                    refine Rx.go (fun _ => rfl) ?_
                    show Rx X c0 m_Mod_readTag 214 [.ref (c0 + 16), .int ((nI acc.length) + 1), .int ((nI run) + 1), .int 0, .int 1, .int (hb t q), .int 1, .int 0] [] (upd σ145 16 ((σ145 16) + 1)) τ145 _
                    refine Rx.go (fun _ => rfl) ?_
                    refine Rx.go (fun _ => rfl) ?_
                    refine Rx.go (fun _ => rfl) ?_
                    show Rx X c0 m_Mod_readTag 36 [.ref (c0 + 16), .int ((nI acc.length) + 1), .int ((nI run) + 1), .int 0, .int 1, .int (hb t q), .int 1, .int 0] [] (upd σ145 16 ((σ145 16) + 1)) τ145 _
                    refine Rx.go (fun _ => rfl) ?_
                    refine Rx.callE rfl rfl rfl rfl (rg_good hS146) ?_
                    show Rx X c0 m_Mod_readTag 40 [.ref (c0 + 16), .int ((nI acc.length) + 1), .int ((nI run) + 1), .int 0, .int 1, .int (hb t q), .int 1, .int 0] [.int 0] (upd σ145 16 ((σ145 16) + 1)) τ145 _
                    refine Rx.go (fun _ => rfl) ?_
                    show Rx X c0 m_Mod_readTag 217 [.ref (c0 + 16), .int ((nI acc.length) + 1), .int ((nI run) + 1), .int 0, .int 1, .int (hb t q), .int 1, .int 0] [] (upd σ145 16 ((σ145 16) + 1)) τ145 _
                    refine Rx.go (fun _ => rfl) ?_
                    refine Rx.go (fun _ => rfl) ?_
                    refine Rx.get rfl rfl ?_
                    refine Rx.go (fun _ => rfl) ?_
                    refine Rx.go (fun _ => rfl) ?_
                    refine Rx.put rfl (by decide) rfl rfl ?_
                    have hS147 := hS146.up (i := 13) (x := ((upd σ145 16 ((σ145 16) + 1)) 13) + ((nI acc.length) + 1)) (by omega)
                    exact Rx.ret rfl rfl (rQ_f (b := acc) (tg_x hm hlt hgd (by rw [hg, decide_eq_true d8]; simp)) hS147 (by first | omega | (simp only [List.length_append, List.length_cons, List.length_nil]; omega)) (by omega))
                  · replace c86 : fs = true := bi_eqf c86
                    exact Bool.noConfusion (c38.symm.trans c86)
                · replace c85 : ¬ 90 < (hb t q) := of_decide_eq_false c85
                  show Rx X c0 m_Mod_readTag 160 [.ref (c0 + 16), .int (nI acc.length), .int (nI run), .int (bi fs), .int 1, .int (hb t q), .int 1, .int 0] [.ref (c0 + 16)] σ141 τ141 _
                  refine Rx.go (fun _ => rfl) ?_
                  refine Rx.go (fun _ => rfl) ?_
                  refine Rx.go (fun _ => rfl) ?_
                  refine Rx.go (fun _ => rfl) ?_
                  refine Rx.callP rfl rfl rfl rfl (rg_put _ hS141 (by first | omega | (simp only [List.length_append, List.length_cons, List.length_nil]; omega))) ?_
                  intro σ148 τ148 hS148
                  show Rx X c0 m_Mod_readTag 173 [.ref (c0 + 16), .int (nI acc.length), .int (nI run), .int (bi fs), .int 1, .int (hb t q), .int 1, .int 0] [] σ148 τ148 _
                  refine Rx.go (fun _ => rfl) ?_
                  show Rx X c0 m_Mod_readTag 176 [.ref (c0 + 16), .int ((nI acc.length) + 1), .int (nI run), .int (bi fs), .int 1, .int (hb t q), .int 1, .int 0] [] σ148 τ148 _
                  refine Rx.go (fun _ => rfl) ?_
                  refine Rx.go (fun _ => rfl) ?_
                  refine Rx.get rfl rfl ?_
                  refine Rx.go (fun _ => rfl) ?_
                  refine Rx.go (fun _ => rfl) ?_
                  refine Rx.put rfl (by decide) rfl rfl ?_
                  have hS149 := hS148.at1
                  refine Rx.go (fun _ => rfl) ?_
                  refine Rx.go (fun _ => rfl) ?_
                  show Rx X c0 m_Mod_readTag 191 [.ref (c0 + 16), .int ((nI acc.length) + 1), .int (nI run), .int (bi fs), .int 1, .int (hb t q), .int 1, .int 0] [] (upd σ148 16 ((σ148 16) + 1)) τ148 _
                  refine Rx.go (fun _ => rfl) ?_
                  refine Rx.go (fun _ => rfl) ?_
                  refine Rx.go (fun _ => rfl) ?_
                  refine Rx.go (fun _ => rfl) ?_
                  refine Rx.go (fun _ => rfl) ?_
                  show Rx X c0 m_Mod_readTag 199 [.ref (c0 + 16), .int ((nI acc.length) + 1), .int ((nI run) + 1), .int (bi fs), .int 1, .int (hb t q), .int 1, .int 0] [] (upd σ148 16 ((σ148 16) + 1)) τ148 _
                  refine Rx.go (fun _ => rfl) ?_
                  refine Rx.go (fun _ => rfl) ?_
                  refine Rx.ite (fun c87 => ?_) (fun c87 => ?_)
                  · replace c87 : fs = false := bi_eqt c87
                    show Rx X c0 m_Mod_readTag 212 [.ref (c0 + 16), .int ((nI acc.length) + 1), .int ((nI run) + 1), .int (bi fs), .int 1, .int (hb t q), .int 1, .int 0] [] (upd σ148 16 ((σ148 16) + 1)) τ148 _
                    refine Rx.go (fun _ => rfl) ?_
                    refine Rx.go (fun _ => rfl) ?_
                    show Rx X c0 m_Mod_readTag 214 [.ref (c0 + 16), .int ((nI acc.length) + 1), .int ((nI run) + 1), .int 0, .int 1, .int (hb t q), .int 1, .int 0] [] (upd σ148 16 ((σ148 16) + 1)) τ148 _
                    refine Rx.go (fun _ => rfl) ?_
                    refine Rx.go (fun _ => rfl) ?_
                    refine Rx.go (fun _ => rfl) ?_
                    show Rx X c0 m_Mod_readTag 36 [.ref (c0 + 16), .int ((nI acc.length) + 1), .int ((nI run) + 1), .int 0, .int 1, .int (hb t q), .int 1, .int 0] [] (upd σ148 16 ((σ148 16) + 1)) τ148 _
                    refine Rx.go (fun _ => rfl) ?_
                    refine Rx.callE rfl rfl rfl rfl (rg_good hS149) ?_
                    show Rx X c0 m_Mod_readTag 40 [.ref (c0 + 16), .int ((nI acc.length) + 1), .int ((nI run) + 1), .int 0, .int 1, .int (hb t q), .int 1, .int 0] [.int 0] (upd σ148 16 ((σ148 16) + 1)) τ148 _
                    refine Rx.go (fun _ => rfl) ?_
                    show Rx X c0 m_Mod_readTag 217 [.ref (c0 + 16), .int ((nI acc.length) + 1), .int ((nI run) + 1), .int 0, .int 1, .int (hb t q), .int 1, .int 0] [] (upd σ148 16 ((σ148 16) + 1)) τ148 _
                    refine Rx.go (fun _ => rfl) ?_
                    refine Rx.go (fun _ => rfl) ?_
                    refine Rx.get rfl rfl ?_
                    refine Rx.go (fun _ => rfl) ?_
                    refine Rx.go (fun _ => rfl) ?_
                    refine Rx.put rfl (by decide) rfl rfl ?_
                    have hS150 := hS149.up (i := 13) (x := ((upd σ148 16 ((σ148 16) + 1)) 13) + ((nI acc.length) + 1)) (by omega)
                    exact Rx.ret rfl rfl (rQ_f (b := acc) (tg_x hm hlt hgd (by rw [hg, decide_eq_true d8]; simp)) hS150 (by first | omega | (simp only [List.length_append, List.length_cons, List.length_nil]; omega)) (by omega))
                  · replace c87 : fs = true := bi_eqf c87
                    exact Bool.noConfusion (c38.symm.trans c87)
        · replace c70 : (hb t q) = 45 := Classical.not_not.mp (of_decide_eq_false c70)
          show Rx X c0 m_Mod_readTag 83 [.ref (c0 + 16), .int (nI acc.length), .int (nI run), .int (bi fs), .int 1, .int (hb t q), .int 1, b7] [] σ τ _
          refine Rx.go (fun _ => rfl) ?_
          refine Rx.go (fun _ => rfl) ?_
          refine Rx.ite (fun c88 => ?_) (fun c88 => ?_)
          · replace c88 : (nI run) ≤ 0 := of_decide_eq_true c88
            have dr : ¬ 0 < run := by have := (nI_leI (b := 0) (by omega) (by decide)).mp c88; omega
            show Rx X c0 m_Mod_readTag 91 [.ref (c0 + 16), .int (nI acc.length), .int (nI run), .int (bi fs), .int 1, .int (hb t q), .int 1, b7] [] σ τ _
            refine Rx.go (fun _ => rfl) ?_
            refine Rx.go (fun _ => rfl) ?_
            show Rx X c0 m_Mod_readTag 94 [.ref (c0 + 16), .int (nI acc.length), .int (nI run), .int (bi fs), .int 1, .int (hb t q), .int 1, .int 0] [] σ τ _
            have hg : (isL (hb t q) || (isD (hb t q) && !fs)) = true := by simp [c1, c38, c54]
            have hd : (decide (hb t q = 45) && decide (0 < run)) = false := by simp [c70, dr]
            have hgd : (isL (hb t q) || (isD (hb t q) && !fs)) = true ∨ (decide (hb t q = 45) && decide (0 < run)) = true := Or.inl hg
            have hlt := tg_lt hgd
            refine Rx.go (fun _ => rfl) ?_
            refine Rx.go (fun _ => rfl) ?_
            show Rx X c0 m_Mod_readTag 119 [.ref (c0 + 16), .int (nI acc.length), .int (nI run), .int (bi fs), .int 1, .int (hb t q), .int 1, .int 0] [] σ τ _
            refine Rx.go (fun _ => rfl) ?_
            refine Rx.go (fun _ => rfl) ?_
            refine Rx.go (fun _ => rfl) ?_
            refine Rx.ite (fun c89 => ?_) (fun c89 => ?_)
            · replace c89 : (nI acc.length) = 20 := of_decide_eq_true c89
              have d20 : acc.length = 20 := (nI_eq (b := 20) (by omega) (by decide)).mp c89
              show Rx X c0 m_Mod_readTag 136 [.ref (c0 + 16), .int (nI acc.length), .int (nI run), .int (bi fs), .int 1, .int (hb t q), .int 1, .int 0] [] σ τ _
              refine Rx.go (fun _ => rfl) ?_
              refine Rx.go (fun _ => rfl) ?_
              refine Rx.go (fun _ => rfl) ?_
              refine Rx.get rfl rfl ?_
              refine Rx.top (y := nI q) hS.f16 ?_
              refine Rx.callP rfl rfl rfl rfl (rs_fl (wn := q) hS (by decide) rfl) ?_
              intro σ151 τ151 hS151
              show Rx X c0 m_Mod_readTag 145 [.ref (c0 + 16), .int (nI acc.length), .int (nI run), .int (bi fs), .int 1, .int (hb t q), .int 1, .int 0] [] σ151 τ151 _
              refine Rx.go (fun _ => rfl) ?_
              refine Rx.go (fun _ => rfl) ?_
              refine Rx.go (fun _ => rfl) ?_
              refine Rx.go (fun _ => rfl) ?_
              refine Rx.ite (fun c90 => ?_) (fun c90 => ?_)
              · replace c90 : (hb t q) < 65 := of_decide_eq_true c90
                show Rx X c0 m_Mod_readTag 168 [.ref (c0 + 16), .int (nI acc.length), .int (nI run), .int (bi fs), .int 1, .int (hb t q), .int 1, .int 0] [.ref (c0 + 16)] σ151 τ151 _
                refine Rx.go (fun _ => rfl) ?_
                refine Rx.callP rfl rfl rfl rfl (rg_put _ hS151 (by first | omega | (simp only [List.length_append, List.length_cons, List.length_nil]; omega))) ?_
                intro σ152 τ152 hS152
                show Rx X c0 m_Mod_readTag 173 [.ref (c0 + 16), .int (nI acc.length), .int (nI run), .int (bi fs), .int 1, .int (hb t q), .int 1, .int 0] [] σ152 τ152 _
                refine Rx.go (fun _ => rfl) ?_
                show Rx X c0 m_Mod_readTag 176 [.ref (c0 + 16), .int ((nI acc.length) + 1), .int (nI run), .int (bi fs), .int 1, .int (hb t q), .int 1, .int 0] [] σ152 τ152 _
                refine Rx.go (fun _ => rfl) ?_
                refine Rx.go (fun _ => rfl) ?_
                refine Rx.get rfl rfl ?_
                refine Rx.go (fun _ => rfl) ?_
                refine Rx.go (fun _ => rfl) ?_
                refine Rx.put rfl (by decide) rfl rfl ?_
                have hS153 := hS152.at1
                refine Rx.go (fun _ => rfl) ?_
                refine Rx.go (fun _ => rfl) ?_
                show Rx X c0 m_Mod_readTag 191 [.ref (c0 + 16), .int ((nI acc.length) + 1), .int (nI run), .int (bi fs), .int 1, .int (hb t q), .int 1, .int 0] [] (upd σ152 16 ((σ152 16) + 1)) τ152 _
                refine Rx.go (fun _ => rfl) ?_
                refine Rx.go (fun _ => rfl) ?_
                refine Rx.go (fun _ => rfl) ?_
                refine Rx.go (fun _ => rfl) ?_
                refine Rx.go (fun _ => rfl) ?_
                show Rx X c0 m_Mod_readTag 199 [.ref (c0 + 16), .int ((nI acc.length) + 1), .int ((nI run) + 1), .int (bi fs), .int 1, .int (hb t q), .int 1, .int 0] [] (upd σ152 16 ((σ152 16) + 1)) τ152 _
                refine Rx.go (fun _ => rfl) ?_
                refine Rx.go (fun _ => rfl) ?_
                refine Rx.ite (fun c91 => ?_) (fun c91 => ?_)
                · replace c91 : fs = false := bi_eqt c91
                  show Rx X c0 m_Mod_readTag 212 [.ref (c0 + 16), .int ((nI acc.length) + 1), .int ((nI run) + 1), .int (bi fs), .int 1, .int (hb t q), .int 1, .int 0] [] (upd σ152 16 ((σ152 16) + 1)) τ152 _
                  refine Rx.go (fun _ => rfl) ?_
                  refine Rx.go (fun _ => rfl) ?_
                  show Rx X c0 m_Mod_readTag 214 [.ref (c0 + 16), .int ((nI acc.length) + 1), .int ((nI run) + 1), .int 0, .int 1, .int (hb t q), .int 1, .int 0] [] (upd σ152 16 ((σ152 16) + 1)) τ152 _
                  refine Rx.go (fun _ => rfl) ?_
                  refine Rx.go (fun _ => rfl) ?_
                  refine Rx.go (fun _ => rfl) ?_
                  show Rx X c0 m_Mod_readTag 36 [.ref (c0 + 16), .int ((nI acc.length) + 1), .int ((nI run) + 1), .int 0, .int 1, .int (hb t q), .int 1, .int 0] [] (upd σ152 16 ((σ152 16) + 1)) τ152 _
                  refine Rx.go (fun _ => rfl) ?_
                  refine Rx.callE rfl rfl rfl rfl (rg_good hS153) ?_
                  show Rx X c0 m_Mod_readTag 40 [.ref (c0 + 16), .int ((nI acc.length) + 1), .int ((nI run) + 1), .int 0, .int 1, .int (hb t q), .int 1, .int 0] [.int 0] (upd σ152 16 ((σ152 16) + 1)) τ152 _
                  refine Rx.go (fun _ => rfl) ?_
                  show Rx X c0 m_Mod_readTag 217 [.ref (c0 + 16), .int ((nI acc.length) + 1), .int ((nI run) + 1), .int 0, .int 1, .int (hb t q), .int 1, .int 0] [] (upd σ152 16 ((σ152 16) + 1)) τ152 _
                  refine Rx.go (fun _ => rfl) ?_
                  refine Rx.go (fun _ => rfl) ?_
                  refine Rx.get rfl rfl ?_
                  refine Rx.go (fun _ => rfl) ?_
                  refine Rx.go (fun _ => rfl) ?_
                  refine Rx.put rfl (by decide) rfl rfl ?_
                  have hS154 := hS153.up (i := 13) (x := ((upd σ152 16 ((σ152 16) + 1)) 13) + ((nI acc.length) + 1)) (by omega)
                  exact Rx.ret rfl rfl (rQ_f (b := acc) (tg_x hm hlt hgd (by rw [decide_eq_true d20]; rfl)) hS154 (by first | omega | (simp only [List.length_append, List.length_cons, List.length_nil]; omega)) (by omega))
                · replace c91 : fs = true := bi_eqf c91
                  exact Bool.noConfusion (c38.symm.trans c91)
              · replace c90 : ¬ (hb t q) < 65 := of_decide_eq_false c90
                show Rx X c0 m_Mod_readTag 153 [.ref (c0 + 16), .int (nI acc.length), .int (nI run), .int (bi fs), .int 1, .int (hb t q), .int 1, .int 0] [.ref (c0 + 16)] σ151 τ151 _
                refine Rx.go (fun _ => rfl) ?_
                refine Rx.go (fun _ => rfl) ?_
                refine Rx.go (fun _ => rfl) ?_
                refine Rx.ite (fun c92 => ?_) (fun c92 => ?_)
                · replace c92 : 90 < (hb t q) := of_decide_eq_true c92
                  show Rx X c0 m_Mod_readTag 168 [.ref (c0 + 16), .int (nI acc.length), .int (nI run), .int (bi fs), .int 1, .int (hb t q), .int 1, .int 0] [.ref (c0 + 16)] σ151 τ151 _
                  refine Rx.go (fun _ => rfl) ?_
                  refine Rx.callP rfl rfl rfl rfl (rg_put _ hS151 (by first | omega | (simp only [List.length_append, List.length_cons, List.length_nil]; omega))) ?_
                  intro σ155 τ155 hS155
                  show Rx X c0 m_Mod_readTag 173 [.ref (c0 + 16), .int (nI acc.length), .int (nI run), .int (bi fs), .int 1, .int (hb t q), .int 1, .int 0] [] σ155 τ155 _
                  refine Rx.go (fun _ => rfl) ?_
                  show Rx X c0 m_Mod_readTag 176 [.ref (c0 + 16), .int ((nI acc.length) + 1), .int (nI run), .int (bi fs), .int 1, .int (hb t q), .int 1, .int 0] [] σ155 τ155 _
                  refine Rx.go (fun _ => rfl) ?_
                  refine Rx.go (fun _ => rfl) ?_
                  refine Rx.get rfl rfl ?_
                  refine Rx.go (fun _ => rfl) ?_
                  refine Rx.go (fun _ => rfl) ?_
                  refine Rx.put rfl (by decide) rfl rfl ?_
                  have hS156 := hS155.at1
                  refine Rx.go (fun _ => rfl) ?_
                  refine Rx.go (fun _ => rfl) ?_
                  show Rx X c0 m_Mod_readTag 191 [.ref (c0 + 16), .int ((nI acc.length) + 1), .int (nI run), .int (bi fs), .int 1, .int (hb t q), .int 1, .int 0] [] (upd σ155 16 ((σ155 16) + 1)) τ155 _
                  refine Rx.go (fun _ => rfl) ?_
                  refine Rx.go (fun _ => rfl) ?_
                  refine Rx.go (fun _ => rfl) ?_
                  refine Rx.go (fun _ => rfl) ?_
                  refine Rx.go (fun _ => rfl) ?_
                  show Rx X c0 m_Mod_readTag 199 [.ref (c0 + 16), .int ((nI acc.length) + 1), .int ((nI run) + 1), .int (bi fs), .int 1, .int (hb t q), .int 1, .int 0] [] (upd σ155 16 ((σ155 16) + 1)) τ155 _
                  refine Rx.go (fun _ => rfl) ?_
                  refine Rx.go (fun _ => rfl) ?_
                  refine Rx.ite (fun c93 => ?_) (fun c93 => ?_)
                  · replace c93 : fs = false := bi_eqt c93
                    show Rx X c0 m_Mod_readTag 212 [.ref (c0 + 16), .int ((nI acc.length) + 1), .int ((nI run) + 1), .int (bi fs), .int 1, .int (hb t q), .int 1, .int 0] [] (upd σ155 16 ((σ155 16) + 1)) τ155 _
                    refine Rx.go (fun _ => rfl) ?_
                    refine Rx.go (fun _ => rfl) ?_
                    show Rx X c0 m_Mod_readTag 214 [.ref (c0 + 16), .int ((nI acc.length) + 1), .int ((nI run) + 1), .int 0, .int 1, .int (hb t q), .int 1, .int 0] [] (upd σ155 16 ((σ155 16) + 1)) τ155 _
                    refine Rx.go (fun _ => rfl) ?_
                    refine Rx.go (fun _ => rfl) ?_
                    refine Rx.go (fun _ => rfl) ?_
                    show Rx X c0 m_Mod_readTag 36 [.ref (c0 + 16), .int ((nI acc.length) + 1), .int ((nI run) + 1), .int 0, .int 1, .int (hb t q), .int 1, .int 0] [] (upd σ155 16 ((σ155 16) + 1)) τ155 _
                    refine Rx.go (fun _ => rfl) ?_
                    refine Rx.callE rfl rfl rfl rfl (rg_good hS156) ?_
                    show Rx X c0 m_Mod_readTag 40 [.ref (c0 + 16), .int ((nI acc.length) + 1), .int ((nI run) + 1), .int 0, .int 1, .int (hb t q), .int 1, .int 0] [.int 0] (upd σ155 16 ((σ155 16) + 1)) τ155 _
                    refine Rx.go (fun _ => rfl) ?_
                    show Rx X c0 m_Mod_readTag 217 [.ref (c0 + 16), .int ((nI acc.length) + 1), .int ((nI run) + 1), .int 0, .int 1, .int (hb t q), .int 1, .int 0] [] (upd σ155 16 ((σ155 16) + 1)) τ155 _
                    refine Rx.go (fun _ => rfl) ?_
                    refine Rx.go (fun _ => rfl) ?_
                    refine Rx.get rfl rfl ?_
                    refine Rx.go (fun _ => rfl) ?_
                    refine Rx.go (fun _ => rfl) ?_
                    refine Rx.put rfl (by decide) rfl rfl ?_
                    have hS157 := hS156.up (i := 13) (x := ((upd σ155 16 ((σ155 16) + 1)) 13) + ((nI acc.length) + 1)) (by omega)
                    exact Rx.ret rfl rfl (rQ_f (b := acc) (tg_x hm hlt hgd (by rw [decide_eq_true d20]; rfl)) hS157 (by first | omega | (simp only [List.length_append, List.length_cons, List.length_nil]; omega)) (by omega))
                  · replace c93 : fs = true := bi_eqf c93
                    exact Bool.noConfusion (c38.symm.trans c93)
                · replace c92 : ¬ 90 < (hb t q) := of_decide_eq_false c92
                  show Rx X c0 m_Mod_readTag 160 [.ref (c0 + 16), .int (nI acc.length), .int (nI run), .int (bi fs), .int 1, .int (hb t q), .int 1, .int 0] [.ref (c0 + 16)] σ151 τ151 _
                  refine Rx.go (fun _ => rfl) ?_
                  refine Rx.go (fun _ => rfl) ?_
                  refine Rx.go (fun _ => rfl) ?_
                  refine Rx.go (fun _ => rfl) ?_
                  refine Rx.callP rfl rfl rfl rfl (rg_put _ hS151 (by first | omega | (simp only [List.length_append, List.length_cons, List.length_nil]; omega))) ?_
                  intro σ158 τ158 hS158
                  show Rx X c0 m_Mod_readTag 173 [.ref (c0 + 16), .int (nI acc.length), .int (nI run), .int (bi fs), .int 1, .int (hb t q), .int 1, .int 0] [] σ158 τ158 _
                  refine Rx.go (fun _ => rfl) ?_
                  show Rx X c0 m_Mod_readTag 176 [.ref (c0 + 16), .int ((nI acc.length) + 1), .int (nI run), .int (bi fs), .int 1, .int (hb t q), .int 1, .int 0] [] σ158 τ158 _
                  refine Rx.go (fun _ => rfl) ?_
                  refine Rx.go (fun _ => rfl) ?_
                  refine Rx.get rfl rfl ?_
                  refine Rx.go (fun _ => rfl) ?_
                  refine Rx.go (fun _ => rfl) ?_
                  refine Rx.put rfl (by decide) rfl rfl ?_
                  have hS159 := hS158.at1
                  refine Rx.go (fun _ => rfl) ?_
                  refine Rx.go (fun _ => rfl) ?_
                  show Rx X c0 m_Mod_readTag 191 [.ref (c0 + 16), .int ((nI acc.length) + 1), .int (nI run), .int (bi fs), .int 1, .int (hb t q), .int 1, .int 0] [] (upd σ158 16 ((σ158 16) + 1)) τ158 _
                  refine Rx.go (fun _ => rfl) ?_
                  refine Rx.go (fun _ => rfl) ?_
                  refine Rx.go (fun _ => rfl) ?_
                  refine Rx.go (fun _ => rfl) ?_
                  refine Rx.go (fun _ => rfl) ?_
                  show Rx X c0 m_Mod_readTag 199 [.ref (c0 + 16), .int ((nI acc.length) + 1), .int ((nI run) + 1), .int (bi fs), .int 1, .int (hb t q), .int 1, .int 0] [] (upd σ158 16 ((σ158 16) + 1)) τ158 _
                  refine Rx.go (fun _ => rfl) ?_
                  refine Rx.go (fun _ => rfl) ?_
                  refine Rx.ite (fun c94 => ?_) (fun c94 => ?_)
                  · replace c94 : fs = false := bi_eqt c94
                    show Rx X c0 m_Mod_readTag 212 [.ref (c0 + 16), .int ((nI acc.length) + 1), .int ((nI run) + 1), .int (bi fs), .int 1, .int (hb t q), .int 1, .int 0] [] (upd σ158 16 ((σ158 16) + 1)) τ158 _
                    refine Rx.go (fun _ => rfl) ?_
                    refine Rx.go (fun _ => rfl) ?_
                    show Rx X c0 m_Mod_readTag 214 [.ref (c0 + 16), .int ((nI acc.length) + 1), .int ((nI run) + 1), .int 0, .int 1, .int (hb t q), .int 1, .int 0] [] (upd σ158 16 ((σ158 16) + 1)) τ158 _
                    refine Rx.go (fun _ => rfl) ?_
                    refine Rx.go (fun _ => rfl) ?_
                    refine Rx.go (fun _ => rfl) ?_
                    show Rx X c0 m_Mod_readTag 36 [.ref (c0 + 16), .int ((nI acc.length) + 1), .int ((nI run) + 1), .int 0, .int 1, .int (hb t q), .int 1, .int 0] [] (upd σ158 16 ((σ158 16) + 1)) τ158 _
                    refine Rx.go (fun _ => rfl) ?_
                    refine Rx.callE rfl rfl rfl rfl (rg_good hS159) ?_
                    show Rx X c0 m_Mod_readTag 40 [.ref (c0 + 16), .int ((nI acc.length) + 1), .int ((nI run) + 1), .int 0, .int 1, .int (hb t q), .int 1, .int 0] [.int 0] (upd σ158 16 ((σ158 16) + 1)) τ158 _
                    refine Rx.go (fun _ => rfl) ?_
                    show Rx X c0 m_Mod_readTag 217 [.ref (c0 + 16), .int ((nI acc.length) + 1), .int ((nI run) + 1), .int 0, .int 1, .int (hb t q), .int 1, .int 0] [] (upd σ158 16 ((σ158 16) + 1)) τ158 _
                    refine Rx.go (fun _ => rfl) ?_
                    refine Rx.go (fun _ => rfl) ?_
                    refine Rx.get rfl rfl ?_
                    refine Rx.go (fun _ => rfl) ?_
                    refine Rx.go (fun _ => rfl) ?_
                    refine Rx.put rfl (by decide) rfl rfl ?_
                    have hS160 := hS159.up (i := 13) (x := ((upd σ158 16 ((σ158 16) + 1)) 13) + ((nI acc.length) + 1)) (by omega)
                    exact Rx.ret rfl rfl (rQ_f (b := acc) (tg_x hm hlt hgd (by rw [decide_eq_true d20]; rfl)) hS160 (by first | omega | (simp only [List.length_append, List.length_cons, List.length_nil]; omega)) (by omega))
                  · replace c94 : fs = true := bi_eqf c94
                    exact Bool.noConfusion (c38.symm.trans c94)
            · replace c89 : ¬ (nI acc.length) = 20 := of_decide_eq_false c89
              have d20 : ¬ acc.length = 20 := fun e => c89 (by rw [e]; rfl)
              show Rx X c0 m_Mod_readTag 125 [.ref (c0 + 16), .int (nI acc.length), .int (nI run), .int (bi fs), .int 1, .int (hb t q), .int 1, .int 0] [] σ τ _
              refine Rx.go (fun _ => rfl) ?_
              refine Rx.go (fun _ => rfl) ?_
              show Rx X c0 m_Mod_readTag 130 [.ref (c0 + 16), .int (nI acc.length), .int (nI run), .int (bi fs), .int 1, .int (hb t q), .int 1, .int 0] [] σ τ _
              refine Rx.go (fun _ => rfl) ?_
              refine Rx.go (fun _ => rfl) ?_
              refine Rx.go (fun _ => rfl) ?_
              refine Rx.ite (fun c95 => ?_) (fun c95 => ?_)
              · replace c95 : ¬ (nI run) = 8 := of_decide_eq_true c95
                have d8 : ¬ run = 8 := fun e => c95 (by rw [e]; rfl)
                show Rx X c0 m_Mod_readTag 145 [.ref (c0 + 16), .int (nI acc.length), .int (nI run), .int (bi fs), .int 1, .int (hb t q), .int 1, .int 0] [] σ τ _
                refine Rx.go (fun _ => rfl) ?_
                refine Rx.go (fun _ => rfl) ?_
                refine Rx.go (fun _ => rfl) ?_
                refine Rx.go (fun _ => rfl) ?_
                refine Rx.ite (fun c96 => ?_) (fun c96 => ?_)
                · replace c96 : (hb t q) < 65 := of_decide_eq_true c96
                  show Rx X c0 m_Mod_readTag 168 [.ref (c0 + 16), .int (nI acc.length), .int (nI run), .int (bi fs), .int 1, .int (hb t q), .int 1, .int 0] [.ref (c0 + 16)] σ τ _
                  refine Rx.go (fun _ => rfl) ?_
                  refine Rx.top (y := nI (smlN (t.getD q 0))) (by rw [hb_lt hlt]; exact sml_b (hS.z.by q) (Or.inl (by rw [← hb_lt hlt]; exact c96))) ?_
                  refine Rx.callP rfl rfl rfl rfl (rs_put (smlN (t.getD q 0)) hS (by first | omega | (simp only [List.length_append, List.length_cons, List.length_nil]; omega))) ?_
                  intro σ161 τ161 hS161
                  show Rx X c0 m_Mod_readTag 173 [.ref (c0 + 16), .int (nI acc.length), .int (nI run), .int (bi fs), .int 1, .int (hb t q), .int 1, .int 0] [] σ161 τ161 _
                  refine Rx.go (fun _ => rfl) ?_
                  show Rx X c0 m_Mod_readTag 176 [.ref (c0 + 16), .int ((nI acc.length) + 1), .int (nI run), .int (bi fs), .int 1, .int (hb t q), .int 1, .int 0] [] σ161 τ161 _
                  refine Rx.go (fun _ => rfl) ?_
                  refine Rx.go (fun _ => rfl) ?_
                  refine Rx.get rfl rfl ?_
                  refine Rx.top (y := nI q) hS161.f16 ?_
                  refine Rx.go (fun _ => rfl) ?_
                  refine Rx.go (fun _ => rfl) ?_
                  refine Rx.top (y := nI (q + 1)) (nI_1 _) ?_
                  refine Rx.put rfl (by decide) rfl rfl ?_
                  have hS162 := hS161.at1 hlt
                  refine Rx.go (fun _ => rfl) ?_
                  refine Rx.go (fun _ => rfl) ?_
                  show Rx X c0 m_Mod_readTag 191 [.ref (c0 + 16), .int ((nI acc.length) + 1), .int (nI run), .int (bi fs), .int 1, .int (hb t q), .int 1, .int 0] [] (upd σ161 16 (nI (q + 1))) τ161 _
                  refine Rx.go (fun _ => rfl) ?_
                  refine Rx.go (fun _ => rfl) ?_
                  refine Rx.go (fun _ => rfl) ?_
                  refine Rx.go (fun _ => rfl) ?_
                  refine Rx.go (fun _ => rfl) ?_
                  show Rx X c0 m_Mod_readTag 199 [.ref (c0 + 16), .int ((nI acc.length) + 1), .int ((nI run) + 1), .int (bi fs), .int 1, .int (hb t q), .int 1, .int 0] [] (upd σ161 16 (nI (q + 1))) τ161 _
                  refine Rx.go (fun _ => rfl) ?_
                  refine Rx.go (fun _ => rfl) ?_
                  refine Rx.ite (fun c97 => ?_) (fun c97 => ?_)
                  · replace c97 : fs = false := bi_eqt c97
                    show Rx X c0 m_Mod_readTag 212 [.ref (c0 + 16), .int ((nI acc.length) + 1), .int ((nI run) + 1), .int (bi fs), .int 1, .int (hb t q), .int 1, .int 0] [] (upd σ161 16 (nI (q + 1))) τ161 _
                    refine Rx.go (fun _ => rfl) ?_
                    refine Rx.go (fun _ => rfl) ?_
                    show Rx X c0 m_Mod_readTag 214 [.ref (c0 + 16), .int ((nI acc.length) + 1), .int ((nI run) + 1), .int 0, .int 1, .int (hb t q), .int 1, .int 0] [] (upd σ161 16 (nI (q + 1))) τ161 _
                    refine Rx.go (fun _ => rfl) ?_
                    show Rx X c0 m_Mod_readTag 31 [.ref (c0 + 16), .int ((nI acc.length) + 1), .int ((nI run) + 1), .int 0, .int 1, .int (hb t q), .int 1, .int 0] [] (upd σ161 16 (nI (q + 1))) τ161 _
                    rw [show nI run + 1 = nI (run + 1) from nI_1 run]
                    obtain ⟨m1, rfl⟩ : ∃ m1, m = m1 + 1 := ⟨m - 1, by omega⟩
                    have e1 : sT t (m1 + 1) q run fs acc = sT t m1 (q + 1) (run + 1) false (acc ++ [smlN (t.getD q 0)]) := by rw [tg_n hgd (by rw [decide_eq_false d20, decide_eq_false d8]; simp), hd]; first | rfl | simp [hg, c38, c97]
                    rw [e1, show nI acc.length + 1 = nI (acc ++ [smlN (t.getD q 0)]).length by rw [nI_1, List.length_append]; rfl]
                    exact ih m1 (by omega) (q + 1) (run + 1) false (acc ++ [smlN (t.getD q 0)]) _ _ _ _ _ (by omega) (by simp only [List.length_append, List.length_cons, List.length_nil]; omega) (by omega) (by rw [← List.append_assoc]; exact hS162)
                  · replace c97 : fs = true := bi_eqf c97
                    exact Bool.noConfusion (c38.symm.trans c97)
                · replace c96 : ¬ (hb t q) < 65 := of_decide_eq_false c96
                  show Rx X c0 m_Mod_readTag 153 [.ref (c0 + 16), .int (nI acc.length), .int (nI run), .int (bi fs), .int 1, .int (hb t q), .int 1, .int 0] [.ref (c0 + 16)] σ τ _
                  refine Rx.go (fun _ => rfl) ?_
                  refine Rx.go (fun _ => rfl) ?_
                  refine Rx.go (fun _ => rfl) ?_
                  refine Rx.ite (fun c98 => ?_) (fun c98 => ?_)
                  · replace c98 : 90 < (hb t q) := of_decide_eq_true c98
                    show Rx X c0 m_Mod_readTag 168 [.ref (c0 + 16), .int (nI acc.length), .int (nI run), .int (bi fs), .int 1, .int (hb t q), .int 1, .int 0] [.ref (c0 + 16)] σ τ _
                    refine Rx.go (fun _ => rfl) ?_
                    refine Rx.top (y := nI (smlN (t.getD q 0))) (by rw [hb_lt hlt]; exact sml_b (hS.z.by q) (Or.inr (by rw [← hb_lt hlt]; exact c98))) ?_
                    refine Rx.callP rfl rfl rfl rfl (rs_put (smlN (t.getD q 0)) hS (by first | omega | (simp only [List.length_append, List.length_cons, List.length_nil]; omega))) ?_
                    intro σ163 τ163 hS163
                    show Rx X c0 m_Mod_readTag 173 [.ref (c0 + 16), .int (nI acc.length), .int (nI run), .int (bi fs), .int 1, .int (hb t q), .int 1, .int 0] [] σ163 τ163 _
                    refine Rx.go (fun _ => rfl) ?_
                    show Rx X c0 m_Mod_readTag 176 [.ref (c0 + 16), .int ((nI acc.length) + 1), .int (nI run), .int (bi fs), .int 1, .int (hb t q), .int 1, .int 0] [] σ163 τ163 _
                    refine Rx.go (fun _ => rfl) ?_
                    refine Rx.go (fun _ => rfl) ?_
                    refine Rx.get rfl rfl ?_
                    refine Rx.top (y := nI q) hS163.f16 ?_
                    refine Rx.go (fun _ => rfl) ?_
                    refine Rx.go (fun _ => rfl) ?_
                    refine Rx.top (y := nI (q + 1)) (nI_1 _) ?_
                    refine Rx.put rfl (by decide) rfl rfl ?_
                    have hS164 := hS163.at1 hlt
                    refine Rx.go (fun _ => rfl) ?_
                    refine Rx.go (fun _ => rfl) ?_
                    show Rx X c0 m_Mod_readTag 191 [.ref (c0 + 16), .int ((nI acc.length) + 1), .int (nI run), .int (bi fs), .int 1, .int (hb t q), .int 1, .int 0] [] (upd σ163 16 (nI (q + 1))) τ163 _
                    refine Rx.go (fun _ => rfl) ?_
                    refine Rx.go (fun _ => rfl) ?_
                    refine Rx.go (fun _ => rfl) ?_
                    refine Rx.go (fun _ => rfl) ?_
                    refine Rx.go (fun _ => rfl) ?_
                    show Rx X c0 m_Mod_readTag 199 [.ref (c0 + 16), .int ((nI acc.length) + 1), .int ((nI run) + 1), .int (bi fs), .int 1, .int (hb t q), .int 1, .int 0] [] (upd σ163 16 (nI (q + 1))) τ163 _
                    refine Rx.go (fun _ => rfl) ?_
                    refine Rx.go (fun _ => rfl) ?_
                    refine Rx.ite (fun c99 => ?_) (fun c99 => ?_)
                    · replace c99 : fs = false := bi_eqt c99
                      show Rx X c0 m_Mod_readTag 212 [.ref (c0 + 16), .int ((nI acc.length) + 1), .int ((nI run) + 1), .int (bi fs), .int 1, .int (hb t q), .int 1, .int 0] [] (upd σ163 16 (nI (q + 1))) τ163 _
                      refine Rx.go (fun _ => rfl) ?_
                      refine Rx.go (fun _ => rfl) ?_
                      show Rx X c0 m_Mod_readTag 214 [.ref (c0 + 16), .int ((nI acc.length) + 1), .int ((nI run) + 1), .int 0, .int 1, .int (hb t q), .int 1, .int 0] [] (upd σ163 16 (nI (q + 1))) τ163 _
                      refine Rx.go (fun _ => rfl) ?_
                      show Rx X c0 m_Mod_readTag 31 [.ref (c0 + 16), .int ((nI acc.length) + 1), .int ((nI run) + 1), .int 0, .int 1, .int (hb t q), .int 1, .int 0] [] (upd σ163 16 (nI (q + 1))) τ163 _
                      rw [show nI run + 1 = nI (run + 1) from nI_1 run]
                      obtain ⟨m1, rfl⟩ : ∃ m1, m = m1 + 1 := ⟨m - 1, by omega⟩
                      have e1 : sT t (m1 + 1) q run fs acc = sT t m1 (q + 1) (run + 1) false (acc ++ [smlN (t.getD q 0)]) := by rw [tg_n hgd (by rw [decide_eq_false d20, decide_eq_false d8]; simp), hd]; first | rfl | simp [hg, c38, c99]
                      rw [e1, show nI acc.length + 1 = nI (acc ++ [smlN (t.getD q 0)]).length by rw [nI_1, List.length_append]; rfl]
                      exact ih m1 (by omega) (q + 1) (run + 1) false (acc ++ [smlN (t.getD q 0)]) _ _ _ _ _ (by omega) (by simp only [List.length_append, List.length_cons, List.length_nil]; omega) (by omega) (by rw [← List.append_assoc]; exact hS164)
                    · replace c99 : fs = true := bi_eqf c99
                      exact Bool.noConfusion (c38.symm.trans c99)
                  · replace c98 : ¬ 90 < (hb t q) := of_decide_eq_false c98
                    show Rx X c0 m_Mod_readTag 160 [.ref (c0 + 16), .int (nI acc.length), .int (nI run), .int (bi fs), .int 1, .int (hb t q), .int 1, .int 0] [.ref (c0 + 16)] σ τ _
                    refine Rx.go (fun _ => rfl) ?_
                    refine Rx.go (fun _ => rfl) ?_
                    refine Rx.go (fun _ => rfl) ?_
                    refine Rx.go (fun _ => rfl) ?_
                    refine Rx.top (y := nI (smlN (t.getD q 0))) (by rw [hb_lt hlt]; exact sml_a (hS.z.by q) (by rw [← hb_lt hlt]; exact c96) (by rw [← hb_lt hlt]; exact c98)) ?_
                    refine Rx.callP rfl rfl rfl rfl (rs_put (smlN (t.getD q 0)) hS (by first | omega | (simp only [List.length_append, List.length_cons, List.length_nil]; omega))) ?_
                    intro σ165 τ165 hS165
                    show Rx X c0 m_Mod_readTag 173 [.ref (c0 + 16), .int (nI acc.length), .int (nI run), .int (bi fs), .int 1, .int (hb t q), .int 1, .int 0] [] σ165 τ165 _
                    refine Rx.go (fun _ => rfl) ?_
                    show Rx X c0 m_Mod_readTag 176 [.ref (c0 + 16), .int ((nI acc.length) + 1), .int (nI run), .int (bi fs), .int 1, .int (hb t q), .int 1, .int 0] [] σ165 τ165 _
                    refine Rx.go (fun _ => rfl) ?_
                    refine Rx.go (fun _ => rfl) ?_
                    refine Rx.get rfl rfl ?_
                    refine Rx.top (y := nI q) hS165.f16 ?_
                    refine Rx.go (fun _ => rfl) ?_
                    refine Rx.go (fun _ => rfl) ?_
                    refine Rx.top (y := nI (q + 1)) (nI_1 _) ?_
                    refine Rx.put rfl (by decide) rfl rfl ?_
                    have hS166 := hS165.at1 hlt
                    refine Rx.go (fun _ => rfl) ?_
                    refine Rx.go (fun _ => rfl) ?_
                    show Rx X c0 m_Mod_readTag 191 [.ref (c0 + 16), .int ((nI acc.length) + 1), .int (nI run), .int (bi fs), .int 1, .int (hb t q), .int 1, .int 0] [] (upd σ165 16 (nI (q + 1))) τ165 _
                    refine Rx.go (fun _ => rfl) ?_
                    refine Rx.go (fun _ => rfl) ?_
                    refine Rx.go (fun _ => rfl) ?_
                    refine Rx.go (fun _ => rfl) ?_
                    refine Rx.go (fun _ => rfl) ?_
                    show Rx X c0 m_Mod_readTag 199 [.ref (c0 + 16), .int ((nI acc.length) + 1), .int ((nI run) + 1), .int (bi fs), .int 1, .int (hb t q), .int 1, .int 0] [] (upd σ165 16 (nI (q + 1))) τ165 _
                    refine Rx.go (fun _ => rfl) ?_
                    refine Rx.go (fun _ => rfl) ?_
                    refine Rx.ite (fun c100 => ?_) (fun c100 => ?_)
                    · replace c100 : fs = false := bi_eqt c100
                      show Rx X c0 m_Mod_readTag 212 [.ref (c0 + 16), .int ((nI acc.length) + 1), .int ((nI run) + 1), .int (bi fs), .int 1, .int (hb t q), .int 1, .int 0] [] (upd σ165 16 (nI (q + 1))) τ165 _
                      refine Rx.go (fun _ => rfl) ?_
                      refine Rx.go (fun _ => rfl) ?_
                      show Rx X c0 m_Mod_readTag 214 [.ref (c0 + 16), .int ((nI acc.length) + 1), .int ((nI run) + 1), .int 0, .int 1, .int (hb t q), .int 1, .int 0] [] (upd σ165 16 (nI (q + 1))) τ165 _
                      refine Rx.go (fun _ => rfl) ?_
                      show Rx X c0 m_Mod_readTag 31 [.ref (c0 + 16), .int ((nI acc.length) + 1), .int ((nI run) + 1), .int 0, .int 1, .int (hb t q), .int 1, .int 0] [] (upd σ165 16 (nI (q + 1))) τ165 _
                      rw [show nI run + 1 = nI (run + 1) from nI_1 run]
                      obtain ⟨m1, rfl⟩ : ∃ m1, m = m1 + 1 := ⟨m - 1, by omega⟩
                      have e1 : sT t (m1 + 1) q run fs acc = sT t m1 (q + 1) (run + 1) false (acc ++ [smlN (t.getD q 0)]) := by rw [tg_n hgd (by rw [decide_eq_false d20, decide_eq_false d8]; simp), hd]; first | rfl | simp [hg, c38, c100]
                      rw [e1, show nI acc.length + 1 = nI (acc ++ [smlN (t.getD q 0)]).length by rw [nI_1, List.length_append]; rfl]
                      exact ih m1 (by omega) (q + 1) (run + 1) false (acc ++ [smlN (t.getD q 0)]) _ _ _ _ _ (by omega) (by simp only [List.length_append, List.length_cons, List.length_nil]; omega) (by omega) (by rw [← List.append_assoc]; exact hS166)
                    · replace c100 : fs = true := bi_eqf c100
                      exact Bool.noConfusion (c38.symm.trans c100)
              · replace c95 : (nI run) = 8 := Classical.not_not.mp (of_decide_eq_false c95)
                have d8 : run = 8 := (nI_eq (b := 8) (by omega) (by decide)).mp c95
                show Rx X c0 m_Mod_readTag 136 [.ref (c0 + 16), .int (nI acc.length), .int (nI run), .int (bi fs), .int 1, .int (hb t q), .int 1, .int 0] [] σ τ _
                refine Rx.go (fun _ => rfl) ?_
                refine Rx.go (fun _ => rfl) ?_
                refine Rx.go (fun _ => rfl) ?_
                refine Rx.get rfl rfl ?_
                refine Rx.top (y := nI q) hS.f16 ?_
                refine Rx.callP rfl rfl rfl rfl (rs_fl (wn := q) hS (by decide) rfl) ?_
                intro σ167 τ167 hS167
                show Rx X c0 m_Mod_readTag 145 [.ref (c0 + 16), .int (nI acc.length), .int (nI run), .int (bi fs), .int 1, .int (hb t q), .int 1, .int 0] [] σ167 τ167 _
                refine Rx.go (fun _ => rfl) ?_
                refine Rx.go (fun _ => rfl) ?_
                refine Rx.go (fun _ => rfl) ?_
                refine Rx.go (fun _ => rfl) ?_
                refine Rx.ite (fun c101 => ?_) (fun c101 => ?_)
                · replace c101 : (hb t q) < 65 := of_decide_eq_true c101
                  show Rx X c0 m_Mod_readTag 168 [.ref (c0 + 16), .int (nI acc.length), .int (nI run), .int (bi fs), .int 1, .int (hb t q), .int 1, .int 0] [.ref (c0 + 16)] σ167 τ167 _
                  refine Rx.go (fun _ => rfl) ?_
                  refine Rx.callP rfl rfl rfl rfl (rg_put _ hS167 (by first | omega | (simp only [List.length_append, List.length_cons, List.length_nil]; omega))) ?_
                  intro σ168 τ168 hS168
                  show Rx X c0 m_Mod_readTag 173 [.ref (c0 + 16), .int (nI acc.length), .int (nI run), .int (bi fs), .int 1, .int (hb t q), .int 1, .int 0] [] σ168 τ168 _
                  refine Rx.go (fun _ => rfl) ?_
                  show Rx X c0 m_Mod_readTag 176 [.ref (c0 + 16), .int ((nI acc.length) + 1), .int (nI run), .int (bi fs), .int 1, .int (hb t q), .int 1, .int 0] [] σ168 τ168 _
                  refine Rx.go (fun _ => rfl) ?_
                  refine Rx.go (fun _ => rfl) ?_
                  refine Rx.get rfl rfl ?_
                  refine Rx.go (fun _ => rfl) ?_
                  refine Rx.go (fun _ => rfl) ?_
                  refine Rx.put rfl (by decide) rfl rfl ?_
                  have hS169 := hS168.at1
                  refine Rx.go (fun _ => rfl) ?_
                  refine Rx.go (fun _ => rfl) ?_
                  show Rx X c0 m_Mod_readTag 191 [.ref (c0 + 16), .int ((nI acc.length) + 1), .int (nI run), .int (bi fs), .int 1, .int (hb t q), .int 1, .int 0] [] (upd σ168 16 ((σ168 16) + 1)) τ168 _
                  refine Rx.go (fun _ => rfl) ?_
                  refine Rx.go (fun _ => rfl) ?_
                  refine Rx.go (fun _ => rfl) ?_
                  refine Rx.go (fun _ => rfl) ?_
                  refine Rx.go (fun _ => rfl) ?_
                  show Rx X c0 m_Mod_readTag 199 [.ref (c0 + 16), .int ((nI acc.length) + 1), .int ((nI run) + 1), .int (bi fs), .int 1, .int (hb t q), .int 1, .int 0] [] (upd σ168 16 ((σ168 16) + 1)) τ168 _
                  refine Rx.go (fun _ => rfl) ?_
                  refine Rx.go (fun _ => rfl) ?_
                  refine Rx.ite (fun c102 => ?_) (fun c102 => ?_)
                  · replace c102 : fs = false := bi_eqt c102
                    show Rx X c0 m_Mod_readTag 212 [.ref (c0 + 16), .int ((nI acc.length) + 1), .int ((nI run) + 1), .int (bi fs), .int 1, .int (hb t q), .int 1, .int 0] [] (upd σ168 16 ((σ168 16) + 1)) τ168 _
                    refine Rx.go (fun _ => rfl) ?_
                    refine Rx.go (fun _ => rfl) ?_
                    show Rx X c0 m_Mod_readTag 214 [.ref (c0 + 16), .int ((nI acc.length) + 1), .int ((nI run) + 1), .int 0, .int 1, .int (hb t q), .int 1, .int 0] [] (upd σ168 16 ((σ168 16) + 1)) τ168 _
                    refine Rx.go (fun _ => rfl) ?_
                    refine Rx.go (fun _ => rfl) ?_
                    refine Rx.go (fun _ => rfl) ?_
                    show Rx X c0 m_Mod_readTag 36 [.ref (c0 + 16), .int ((nI acc.length) + 1), .int ((nI run) + 1), .int 0, .int 1, .int (hb t q), .int 1, .int 0] [] (upd σ168 16 ((σ168 16) + 1)) τ168 _
                    refine Rx.go (fun _ => rfl) ?_
                    refine Rx.callE rfl rfl rfl rfl (rg_good hS169) ?_
                    show Rx X c0 m_Mod_readTag 40 [.ref (c0 + 16), .int ((nI acc.length) + 1), .int ((nI run) + 1), .int 0, .int 1, .int (hb t q), .int 1, .int 0] [.int 0] (upd σ168 16 ((σ168 16) + 1)) τ168 _
                    refine Rx.go (fun _ => rfl) ?_
                    show Rx X c0 m_Mod_readTag 217 [.ref (c0 + 16), .int ((nI acc.length) + 1), .int ((nI run) + 1), .int 0, .int 1, .int (hb t q), .int 1, .int 0] [] (upd σ168 16 ((σ168 16) + 1)) τ168 _
                    refine Rx.go (fun _ => rfl) ?_
                    refine Rx.go (fun _ => rfl) ?_
                    refine Rx.get rfl rfl ?_
                    refine Rx.go (fun _ => rfl) ?_
                    refine Rx.go (fun _ => rfl) ?_
                    refine Rx.put rfl (by decide) rfl rfl ?_
                    have hS170 := hS169.up (i := 13) (x := ((upd σ168 16 ((σ168 16) + 1)) 13) + ((nI acc.length) + 1)) (by omega)
                    exact Rx.ret rfl rfl (rQ_f (b := acc) (tg_x hm hlt hgd (by rw [hg, decide_eq_true d8]; simp)) hS170 (by first | omega | (simp only [List.length_append, List.length_cons, List.length_nil]; omega)) (by omega))
                  · replace c102 : fs = true := bi_eqf c102
                    exact Bool.noConfusion (c38.symm.trans c102)
                · replace c101 : ¬ (hb t q) < 65 := of_decide_eq_false c101
                  show Rx X c0 m_Mod_readTag 153 [.ref (c0 + 16), .int (nI acc.length), .int (nI run), .int (bi fs), .int 1, .int (hb t q), .int 1, .int 0] [.ref (c0 + 16)] σ167 τ167 _
                  refine Rx.go (fun _ => rfl) ?_
                  refine Rx.go (fun _ => rfl) ?_
                  refine Rx.go (fun _ => rfl) ?_
                  refine Rx.ite (fun c103 => ?_) (fun c103 => ?_)
                  · replace c103 : 90 < (hb t q) := of_decide_eq_true c103
                    show Rx X c0 m_Mod_readTag 168 [.ref (c0 + 16), .int (nI acc.length), .int (nI run), .int (bi fs), .int 1, .int (hb t q), .int 1, .int 0] [.ref (c0 + 16)] σ167 τ167 _
                    refine Rx.go (fun _ => rfl) ?_
                    refine Rx.callP rfl rfl rfl rfl (rg_put _ hS167 (by first | omega | (simp only [List.length_append, List.length_cons, List.length_nil]; omega))) ?_
                    intro σ171 τ171 hS171
                    show Rx X c0 m_Mod_readTag 173 [.ref (c0 + 16), .int (nI acc.length), .int (nI run), .int (bi fs), .int 1, .int (hb t q), .int 1, .int 0] [] σ171 τ171 _
                    refine Rx.go (fun _ => rfl) ?_
                    show Rx X c0 m_Mod_readTag 176 [.ref (c0 + 16), .int ((nI acc.length) + 1), .int (nI run), .int (bi fs), .int 1, .int (hb t q), .int 1, .int 0] [] σ171 τ171 _
                    refine Rx.go (fun _ => rfl) ?_
                    refine Rx.go (fun _ => rfl) ?_
                    refine Rx.get rfl rfl ?_
                    refine Rx.go (fun _ => rfl) ?_
                    refine Rx.go (fun _ => rfl) ?_
                    refine Rx.put rfl (by decide) rfl rfl ?_
                    have hS172 := hS171.at1
                    refine Rx.go (fun _ => rfl) ?_
                    refine Rx.go (fun _ => rfl) ?_
                    show Rx X c0 m_Mod_readTag 191 [.ref (c0 + 16), .int ((nI acc.length) + 1), .int (nI run), .int (bi fs), .int 1, .int (hb t q), .int 1, .int 0] [] (upd σ171 16 ((σ171 16) + 1)) τ171 _
                    refine Rx.go (fun _ => rfl) ?_
                    refine Rx.go (fun _ => rfl) ?_
                    refine Rx.go (fun _ => rfl) ?_
                    refine Rx.go (fun _ => rfl) ?_
                    refine Rx.go (fun _ => rfl) ?_
                    show Rx X c0 m_Mod_readTag 199 [.ref (c0 + 16), .int ((nI acc.length) + 1), .int ((nI run) + 1), .int (bi fs), .int 1, .int (hb t q), .int 1, .int 0] [] (upd σ171 16 ((σ171 16) + 1)) τ171 _
                    refine Rx.go (fun _ => rfl) ?_
                    refine Rx.go (fun _ => rfl) ?_
                    refine Rx.ite (fun c104 => ?_) (fun c104 => ?_)
                    · replace c104 : fs = false := bi_eqt c104
                      show Rx X c0 m_Mod_readTag 212 [.ref (c0 + 16), .int ((nI acc.length) + 1), .int ((nI run) + 1), .int (bi fs), .int 1, .int (hb t q), .int 1, .int 0] [] (upd σ171 16 ((σ171 16) + 1)) τ171 _
                      refine Rx.go (fun _ => rfl) ?_
                      refine Rx.go (fun _ => rfl) ?_
                      show Rx X c0 m_Mod_readTag 214 [.ref (c0 + 16), .int ((nI acc.length) + 1), .int ((nI run) + 1), .int 0, .int 1, .int (hb t q), .int 1, .int 0] [] (upd σ171 16 ((σ171 16) + 1)) τ171 _
                      refine Rx.go (fun _ => rfl) ?_
                      refine Rx.go (fun _ => rfl) ?_
                      refine Rx.go (fun _ => rfl) ?_
                      show Rx X c0 m_Mod_readTag 36 [.ref (c0 + 16), .int ((nI acc.length) + 1), .int ((nI run) + 1), .int 0, .int 1, .int (hb t q), .int 1, .int 0] [] (upd σ171 16 ((σ171 16) + 1)) τ171 _
                      refine Rx.go (fun _ => rfl) ?_
                      refine Rx.callE rfl rfl rfl rfl (rg_good hS172) ?_
                      show Rx X c0 m_Mod_readTag 40 [.ref (c0 + 16), .int ((nI acc.length) + 1), .int ((nI run) + 1), .int 0, .int 1, .int (hb t q), .int 1, .int 0] [.int 0] (upd σ171 16 ((σ171 16) + 1)) τ171 _
                      refine Rx.go (fun _ => rfl) ?_
                      show Rx X c0 m_Mod_readTag 217 [.ref (c0 + 16), .int ((nI acc.length) + 1), .int ((nI run) + 1), .int 0, .int 1, .int (hb t q), .int 1, .int 0] [] (upd σ171 16 ((σ171 16) + 1)) τ171 _
                      refine Rx.go (fun _ => rfl) ?_
                      refine Rx.go (fun _ => rfl) ?_
                      refine Rx.get rfl rfl ?_
                      refine Rx.go (fun _ => rfl) ?_
                      refine Rx.go (fun _ => rfl) ?_
                      refine Rx.put rfl (by decide) rfl rfl ?_
                      have hS173 := hS172.up (i := 13) (x := ((upd σ171 16 ((σ171 16) + 1)) 13) + ((nI acc.length) + 1)) (by omega)
                      exact Rx.ret rfl rfl (rQ_f (b := acc) (tg_x hm hlt hgd (by rw [hg, decide_eq_true d8]; simp)) hS173 (by first | omega | (simp only [List.length_append, List.length_cons, List.length_nil]; omega)) (by omega))
                    · replace c104 : fs = true := bi_eqf c104
                      exact Bool.noConfusion (c38.symm.trans c104)
                  · replace c103 : ¬ 90 < (hb t q) := of_decide_eq_false c103
                    show Rx X c0 m_Mod_readTag 160 [.ref (c0 + 16), .int (nI acc.length), .int (nI run), .int (bi fs), .int 1, .int (hb t q), .int 1, .int 0] [.ref (c0 + 16)] σ167 τ167 _
                    refine Rx.go (fun _ => rfl) ?_
                    refine Rx.go (fun _ => rfl) ?_
                    refine Rx.go (fun _ => rfl) ?_
                    refine Rx.go (fun _ => rfl) ?_
                    refine Rx.callP rfl rfl rfl rfl (rg_put _ hS167 (by first | omega | (simp only [List.length_append, List.length_cons, List.length_nil]; omega))) ?_
                    intro σ174 τ174 hS174
                    show Rx X c0 m_Mod_readTag 173 [.ref (c0 + 16), .int (nI acc.length), .int (nI run), .int (bi fs), .int 1, .int (hb t q), .int 1, .int 0] [] σ174 τ174 _
                    refine Rx.go (fun _ => rfl) ?_
                    show Rx X c0 m_Mod_readTag 176 [.ref (c0 + 16), .int ((nI acc.length) + 1), .int (nI run), .int (bi fs), .int 1, .int (hb t q), .int 1, .int 0] [] σ174 τ174 _
                    refine Rx.go (fun _ => rfl) ?_
                    refine Rx.go (fun _ => rfl) ?_
                    refine Rx.get rfl rfl ?_
                    refine Rx.go (fun _ => rfl) ?_
                    refine Rx.go (fun _ => rfl) ?_
                    refine Rx.put rfl (by decide) rfl rfl ?_
                    have hS175 := hS174.at1
                    refine Rx.go (fun _ => rfl) ?_
                    refine Rx.go (fun _ => rfl) ?_
                    show Rx X c0 m_Mod_readTag 191 [.ref (c0 + 16), .int ((nI acc.length) + 1), .int (nI run), .int (bi fs), .int 1, .int (hb t q), .int 1, .int 0] [] (upd σ174 16 ((σ174 16) + 1)) τ174 _
                    refine Rx.go (fun _ => rfl) ?_
                    refine Rx.go (fun _ => rfl) ?_
                    refine Rx.go (fun _ => rfl) ?_
                    refine Rx.go (fun _ => rfl) ?_
                    refine Rx.go (fun _ => rfl) ?_
                    show Rx X c0 m_Mod_readTag 199 [.ref (c0 + 16), .int ((nI acc.length) + 1), .int ((nI run) + 1), .int (bi fs), .int 1, .int (hb t q), .int 1, .int 0] [] (upd σ174 16 ((σ174 16) + 1)) τ174 _
                    refine Rx.go (fun _ => rfl) ?_
                    refine Rx.go (fun _ => rfl) ?_
                    refine Rx.ite (fun c105 => ?_) (fun c105 => ?_)
                    · replace c105 : fs = false := bi_eqt c105
                      show Rx X c0 m_Mod_readTag 212 [.ref (c0 + 16), .int ((nI acc.length) + 1), .int ((nI run) + 1), .int (bi fs), .int 1, .int (hb t q), .int 1, .int 0] [] (upd σ174 16 ((σ174 16) + 1)) τ174 _
                      refine Rx.go (fun _ => rfl) ?_
                      refine Rx.go (fun _ => rfl) ?_
                      show Rx X c0 m_Mod_readTag 214 [.ref (c0 + 16), .int ((nI acc.length) + 1), .int ((nI run) + 1), .int 0, .int 1, .int (hb t q), .int 1, .int 0] [] (upd σ174 16 ((σ174 16) + 1)) τ174 _
                      refine Rx.go (fun _ => rfl) ?_
                      refine Rx.go (fun _ => rfl) ?_
                      refine Rx.go (fun _ => rfl) ?_
                      show Rx X c0 m_Mod_readTag 36 [.ref (c0 + 16), .int ((nI acc.length) + 1), .int ((nI run) + 1), .int 0, .int 1, .int (hb t q), .int 1, .int 0] [] (upd σ174 16 ((σ174 16) + 1)) τ174 _
                      refine Rx.go (fun _ => rfl) ?_
                      refine Rx.callE rfl rfl rfl rfl (rg_good hS175) ?_
                      show Rx X c0 m_Mod_readTag 40 [.ref (c0 + 16), .int ((nI acc.length) + 1), .int ((nI run) + 1), .int 0, .int 1, .int (hb t q), .int 1, .int 0] [.int 0] (upd σ174 16 ((σ174 16) + 1)) τ174 _
                      refine Rx.go (fun _ => rfl) ?_
                      show Rx X c0 m_Mod_readTag 217 [.ref (c0 + 16), .int ((nI acc.length) + 1), .int ((nI run) + 1), .int 0, .int 1, .int (hb t q), .int 1, .int 0] [] (upd σ174 16 ((σ174 16) + 1)) τ174 _
                      refine Rx.go (fun _ => rfl) ?_
                      refine Rx.go (fun _ => rfl) ?_
                      refine Rx.get rfl rfl ?_
                      refine Rx.go (fun _ => rfl) ?_
                      refine Rx.go (fun _ => rfl) ?_
                      refine Rx.put rfl (by decide) rfl rfl ?_
                      have hS176 := hS175.up (i := 13) (x := ((upd σ174 16 ((σ174 16) + 1)) 13) + ((nI acc.length) + 1)) (by omega)
                      exact Rx.ret rfl rfl (rQ_f (b := acc) (tg_x hm hlt hgd (by rw [hg, decide_eq_true d8]; simp)) hS176 (by first | omega | (simp only [List.length_append, List.length_cons, List.length_nil]; omega)) (by omega))
                    · replace c105 : fs = true := bi_eqf c105
                      exact Bool.noConfusion (c38.symm.trans c105)
          · replace c88 : ¬ (nI run) ≤ 0 := of_decide_eq_false c88
            have dr : 0 < run := Nat.pos_of_ne_zero (fun e => c88 (by rw [e]; exact Int32.le_refl _))
            show Rx X c0 m_Mod_readTag 87 [.ref (c0 + 16), .int (nI acc.length), .int (nI run), .int (bi fs), .int 1, .int (hb t q), .int 1, b7] [] σ τ _
            refine Rx.go (fun _ => rfl) ?_
            refine Rx.go (fun _ => rfl) ?_
            refine Rx.go (fun _ => rfl) ?_
            show Rx X c0 m_Mod_readTag 94 [.ref (c0 + 16), .int (nI acc.length), .int (nI run), .int (bi fs), .int 1, .int (hb t q), .int 1, .int 1] [] σ τ _
            have hg : (isL (hb t q) || (isD (hb t q) && !fs)) = true := by simp [c1, c38, c54]
            have hd : (decide (hb t q = 45) && decide (0 < run)) = true := by simp [c70, dr]
            exfalso
            rw [c70] at hg
            simp [L45, D45] at hg
set_option maxRecDepth 100000 in
set_option maxHeartbeats 2000000 in
theorem rr_tag {X : ev_X} {c0 : Nat} {σ0 : Nat → Int32} {τ0 : Nat → Nat → Int32} {t : List Nat} {D0 : List Nat} {q k qq db : Nat} {σ : Nat → Int32} {τ : Nat → Nat → Int32} (hD : D0.length ≤ 200) (hdb : db ≤ 1000) (h0 : q < t.length) (hS : RS σ0 τ0 t q D0 k qq db σ τ) : Rx X c0 m_Mod_readTag 0 [.ref (c0 + 16), ev_dead, ev_dead, ev_dead, ev_dead, ev_dead, ev_dead, ev_dead] [] σ τ (rQ σ0 τ0 t (sT t (t.length - (q + 1)) (q + 1) 0 true []) (fun q b σ' τ' => RS σ0 τ0 t q (D0 ++ [64] ++ b) 6 qq (db + b.length) σ' τ')) := by
  have hl := hS.z.tl
  refine Rx.go (fun _ => rfl) ?_
  refine Rx.go (fun _ => rfl) ?_
  refine Rx.put rfl (by decide) rfl rfl ?_
  have hS177 := hS.k1 (x := 6)
  refine Rx.go (fun _ => rfl) ?_
  refine Rx.go (fun _ => rfl) ?_
  refine Rx.callP rfl rfl rfl rfl (rs_put 64 hS177 (by first | omega | (simp only [List.length_append, List.length_cons, List.length_nil]; omega))) ?_
  intro σ178 τ178 hS178
  show Rx X c0 m_Mod_readTag 12 [.ref (c0 + 16), ev_dead, ev_dead, ev_dead, ev_dead, ev_dead, ev_dead, ev_dead] [] σ178 τ178 _
  refine Rx.go (fun _ => rfl) ?_
  refine Rx.go (fun _ => rfl) ?_
  refine Rx.get rfl rfl ?_
  refine Rx.top (y := nI q) hS178.f16 ?_
  refine Rx.go (fun _ => rfl) ?_
  refine Rx.go (fun _ => rfl) ?_
  refine Rx.top (y := nI (q + 1)) (nI_1 _) ?_
  refine Rx.put rfl (by decide) rfl rfl ?_
  have hS179 := hS178.at1 h0
  refine Rx.go (fun _ => rfl) ?_
  refine Rx.go (fun _ => rfl) ?_
  show Rx X c0 m_Mod_readTag 24 [.ref (c0 + 16), .int 0, ev_dead, ev_dead, ev_dead, ev_dead, ev_dead, ev_dead] [] (upd σ178 16 (nI (q + 1))) τ178 _
  refine Rx.go (fun _ => rfl) ?_
  refine Rx.go (fun _ => rfl) ?_
  show Rx X c0 m_Mod_readTag 26 [.ref (c0 + 16), .int 0, .int 0, ev_dead, ev_dead, ev_dead, ev_dead, ev_dead] [] (upd σ178 16 (nI (q + 1))) τ178 _
  refine Rx.go (fun _ => rfl) ?_
  refine Rx.go (fun _ => rfl) ?_
  show Rx X c0 m_Mod_readTag 28 [.ref (c0 + 16), .int 0, .int 0, .int 1, ev_dead, ev_dead, ev_dead, ev_dead] [] (upd σ178 16 (nI (q + 1))) τ178 _
  refine Rx.go (fun _ => rfl) ?_
  refine Rx.go (fun _ => rfl) ?_
  show Rx X c0 m_Mod_readTag 31 [.ref (c0 + 16), .int 0, .int 0, .int 1, .int 1, ev_dead, ev_dead, ev_dead] [] (upd σ178 16 (nI (q + 1))) τ178 _
  show Rx X c0 m_Mod_readTag 31 [.ref (c0 + 16), .int 0, .int 0, .int 1, .int 1, ev_dead, ev_dead, ev_dead] [] (upd σ178 16 (nI (q + 1))) τ178 _
  exact rr_tg_l hD hdb (t.length - (q + 1)) (q + 1) 0 true [] _ _ _ _ _ (by omega) (by decide) (by omega) (by rw [List.append_nil]; exact hS179)
end
section
/-! The reference reads truths. (rows laid by wip/whole/rr6.py) -/
theorem Rx.strc {X : ev_X} {c0 M pc nx a b w idx k : Nat} {A st as r A0 : List Value} {v : Option Value} {σ : Nat → Int32} {τ : Nat → Nat → Int32} {Q : Option Value → (Nat → Int32) → (Nat → Nat → Int32) → Prop} (hS : XS X c0) (hk : k < 12) (o : pg_ops M pc = some (.invokevirtual idx, nx, a, b, w)) (ha : ev_argI (pg_n a) st = some (X.2.1 k, as, r)) (hc : pg_c a = 90) (he : ev_ent (pg_L a) (.ref (X.2.1 k) :: as) = some A0) (k1 : ∀ h, lo0 c0 h → Ex X a 0 A0 [] h (fun r h' => r = v ∧ h' = h)) (k2 : Rx X c0 M nx A (v.toList ++ r) σ τ Q) : Rx X c0 M pc A st σ τ Q := fun h hM => Hx.scl hS hk hM.2.2 o ha hc he (k1 h hM.2.2) (fun v' h1 ⟨e1, e2⟩ => by rw [e1, e2]; exact k2 h hM)
set_option maxRecDepth 100000 in
set_option maxHeartbeats 2000000 in
theorem rr_tr_e {X : ev_X} {c0 : Nat} (hX : XS X c0) {σ0 : Nat → Int32} {τ0 : Nat → Nat → Int32} {t : List Nat} {k : Nat} (hk : k < 12) (bv : Value) (jv : Value) {σ : Nat → Int32} {τ : Nat → Nat → Int32} (hS : RS σ0 τ0 t (wlen k) (wl k) 8 0 0 σ τ) : Rx X c0 m_Mod_readTruth 71 [.ref (c0 + 16), bv, .ref (X.2.1 k), jv] [] σ τ (rQ σ0 τ0 t ((if isW (hb t (wlen k)) = true then (false, wlen k, ()) else (true, wlen k, ())) : Bool × Nat × Unit) (fun q b σ' τ' => q = wlen k ∧ RS σ0 τ0 t (wlen k) (wl k) 8 0 0 σ' τ')) := by
  have hw := wlen_all k hk
  refine Rx.go (fun _ => rfl) ?_
  refine Rx.callE rfl rfl rfl rfl (rz_good hS.z) ?_
  show Rx X c0 m_Mod_readTruth 75 [.ref (c0 + 16), bv, .ref (X.2.1 k), jv] [.int 1] σ τ _
  refine Rx.go (fun _ => rfl) ?_
  show Rx X c0 m_Mod_readTruth 78 [.ref (c0 + 16), bv, .ref (X.2.1 k), jv] [] σ τ _
  refine Rx.go (fun _ => rfl) ?_
  refine Rx.callE rfl rfl rfl rfl (rz_here hS.z) ?_
  show Rx X c0 m_Mod_readTruth 82 [.ref (c0 + 16), bv, .ref (X.2.1 k), jv] [.int (hb t (wlen k))] σ τ _
  refine Rx.scallE rfl rfl rfl rfl (sx_Mod_isW X (hb t (wlen k))) ?_
  show Rx X c0 m_Mod_readTruth 85 [.ref (c0 + 16), bv, .ref (X.2.1 k), jv] [.int (bi (isW (hb t (wlen k))))] σ τ _
  refine Rx.go (fun _ => rfl) ?_
  refine Rx.ite (fun c1 => ?_) (fun c1 => ?_)
  · replace c1 : (isW (hb t (wlen k))) = false := bi_eqt c1
    show Rx X c0 m_Mod_readTruth 97 [.ref (c0 + 16), bv, .ref (X.2.1 k), jv] [] σ τ _
    exact Rx.ret rfl rfl (rQ_t (b := ()) (if_neg (by rw [c1]; decide)) ⟨rfl, hS⟩)
  · replace c1 : (isW (hb t (wlen k))) = true := bi_eqf c1
    show Rx X c0 m_Mod_readTruth 88 [.ref (c0 + 16), bv, .ref (X.2.1 k), jv] [] σ τ _
    refine Rx.go (fun _ => rfl) ?_
    refine Rx.go (fun _ => rfl) ?_
    refine Rx.go (fun _ => rfl) ?_
    refine Rx.get rfl rfl ?_
    refine Rx.top (y := nI (wlen k)) hS.f16 ?_
    refine Rx.callP rfl rfl rfl rfl (rs_fl (wn := (wlen k)) hS (by decide) rfl) ?_
    intro σ17 τ17 hS17
    show Rx X c0 m_Mod_readTruth 97 [.ref (c0 + 16), bv, .ref (X.2.1 k), jv] [] σ17 τ17 _
    exact Rx.ret rfl rfl (rQ_f (b := ()) (if_pos c1) hS17 (by rw [wl_len]; omega) (by omega))
set_option maxRecDepth 100000 in
set_option maxHeartbeats 2000000 in
theorem rr_tr_l {X : ev_X} {c0 : Nat} (hX : XS X c0) {σ0 : Nat → Int32} {τ0 : Nat → Nat → Int32} {t : List Nat} {k : Nat} (hk : k < 12) (bv : Value) : ∀ (m j : Nat) (σ : Nat → Int32) (τ : Nat → Nat → Int32) (hm : j + m = wlen k) (hS : RS σ0 τ0 t j ((wl k).take j) 8 0 0 σ τ), Rx X c0 m_Mod_readTruth 20 [.ref (c0 + 16), bv, .ref (X.2.1 k), .int (nI j)] [] σ τ (rQ σ0 τ0 t ((match sTl t k m j with | some x => (false, x, ()) | none => if isW (hb t (wlen k)) = true then (false, wlen k, ()) else (true, wlen k, ())) : Bool × Nat × Unit) (fun q b σ' τ' => q = wlen k ∧ RS σ0 τ0 t (wlen k) (wl k) 8 0 0 σ' τ')) := by
  have hw := wlen_all k hk
  intro m
  induction m with
  | zero =>
    intro j σ τ hm hS
    refine Rx.go (fun _ => rfl) ?_
    refine Rx.go (fun _ => rfl) ?_
    refine Rx.strc hX hk rfl rfl rfl rfl (fun h hl => hs_length hX hl hk) ?_
    show Rx X c0 m_Mod_readTruth 25 [.ref (c0 + 16), bv, .ref (X.2.1 k), .int (nI j)] [.int (nI (wlen k)), .int (nI j)] σ τ _
    refine Rx.go (fun _ => rfl) ?_
    refine Rx.ite (fun c1 => ?_) (fun c1 => ?_)
    · replace c1 : (nI (wlen k)) ≤ (nI j) := of_decide_eq_true c1
      show Rx X c0 m_Mod_readTruth 71 [.ref (c0 + 16), bv, .ref (X.2.1 k), .int (nI j)] [] σ τ _
      show Rx X c0 m_Mod_readTruth 71 [.ref (c0 + 16), bv, .ref (X.2.1 k), .int (nI j)] [] σ τ _
      have e : j = wlen k := by omega
      subst e
      rw [show (wl k).take (wlen k) = wl k by rw [← wl_len, List.take_length]] at hS
      exact rr_tr_e hX hk bv _ hS
    · replace c1 : ¬ (nI (wlen k)) ≤ (nI j) := of_decide_eq_false c1
      exact absurd (show nI (wlen k) ≤ nI j by rw [show j = wlen k by omega]; exact Int32.le_refl _) c1
  | succ m ih =>
    intro j σ τ hm hS
    have hl := hS.z.tl
    refine Rx.go (fun _ => rfl) ?_
    refine Rx.go (fun _ => rfl) ?_
    refine Rx.strc hX hk rfl rfl rfl rfl (fun h hl => hs_length hX hl hk) ?_
    show Rx X c0 m_Mod_readTruth 25 [.ref (c0 + 16), bv, .ref (X.2.1 k), .int (nI j)] [.int (nI (wlen k)), .int (nI j)] σ τ _
    refine Rx.go (fun _ => rfl) ?_
    refine Rx.ite (fun c1 => ?_) (fun c1 => ?_)
    · replace c1 : (nI (wlen k)) ≤ (nI j) := of_decide_eq_true c1
      exact absurd ((nI_leI (by omega) (by omega)).mp c1) (by omega)
    · replace c1 : ¬ (nI (wlen k)) ≤ (nI j) := of_decide_eq_false c1
      show Rx X c0 m_Mod_readTruth 28 [.ref (c0 + 16), bv, .ref (X.2.1 k), .int (nI j)] [] σ τ _
      refine Rx.go (fun _ => rfl) ?_
      refine Rx.callE rfl rfl rfl rfl (rz_good hS.z) ?_
      show Rx X c0 m_Mod_readTruth 32 [.ref (c0 + 16), bv, .ref (X.2.1 k), .int (nI j)] [.int 1] σ τ _
      refine Rx.go (fun _ => rfl) ?_
      show Rx X c0 m_Mod_readTruth 35 [.ref (c0 + 16), bv, .ref (X.2.1 k), .int (nI j)] [] σ τ _
      refine Rx.go (fun _ => rfl) ?_
      refine Rx.go (fun _ => rfl) ?_
      refine Rx.callE rfl rfl rfl rfl (rz_here hS.z) ?_
      show Rx X c0 m_Mod_readTruth 40 [.ref (c0 + 16), bv, .ref (X.2.1 k), .int (nI j)] [.int (hb t j), .ref (c0 + 16)] σ τ _
      refine Rx.go (fun _ => rfl) ?_
      refine Rx.go (fun _ => rfl) ?_
      refine Rx.strc hX hk rfl rfl rfl rfl (fun h hl => hs_char hX hl hk (j := j) (by omega)) ?_
      show Rx X c0 m_Mod_readTruth 45 [.ref (c0 + 16), bv, .ref (X.2.1 k), .int (nI j)] [.int (nI (wch k j)), .int (hb t j), .ref (c0 + 16)] σ τ _
      refine Rx.go (fun _ => rfl) ?_
      refine Rx.ite (fun c2 => ?_) (fun c2 => ?_)
      · replace c2 : ¬ (hb t j) = (nI (wch k j)) := of_decide_eq_true c2
        show Rx X c0 m_Mod_readTruth 52 [.ref (c0 + 16), bv, .ref (X.2.1 k), .int (nI j)] [.ref (c0 + 16)] σ τ _
        refine Rx.go (fun _ => rfl) ?_
        refine Rx.callP rfl rfl rfl rfl (rs_ov_f false hS (fun h => Bool.false_ne_true h.2)) ?_
        intro σ18 τ18 hS18
        show Rx X c0 m_Mod_readTruth 56 [.ref (c0 + 16), bv, .ref (X.2.1 k), .int (nI j)] [] σ18 τ18 _
        refine Rx.go (fun _ => rfl) ?_
        refine Rx.go (fun _ => rfl) ?_
        refine Rx.go (fun _ => rfl) ?_
        refine Rx.strc hX hk rfl rfl rfl rfl (fun h hl => hs_char hX hl hk (j := j) (by omega)) ?_
        show Rx X c0 m_Mod_readTruth 62 [.ref (c0 + 16), bv, .ref (X.2.1 k), .int (nI j)] [.int (nI (wch k j)), .ref (c0 + 16)] σ18 τ18 _
        refine Rx.callP rfl rfl rfl rfl (rg_put _ hS18 (by simp only [List.length_take, wl_len]; omega)) ?_
        intro σ19 τ19 hS19
        show Rx X c0 m_Mod_readTruth 65 [.ref (c0 + 16), bv, .ref (X.2.1 k), .int (nI j)] [] σ19 τ19 _
        refine Rx.go (fun _ => rfl) ?_
        show Rx X c0 m_Mod_readTruth 68 [.ref (c0 + 16), bv, .ref (X.2.1 k), .int ((nI j) + 1)] [] σ19 τ19 _
        refine Rx.go (fun _ => rfl) ?_
        refine Rx.go (fun _ => rfl) ?_
        refine Rx.go (fun _ => rfl) ?_
        refine Rx.strc hX hk rfl rfl rfl rfl (fun h hl => hs_length hX hl hk) ?_
        show Rx X c0 m_Mod_readTruth 25 [.ref (c0 + 16), bv, .ref (X.2.1 k), .int ((nI j) + 1)] [.int (nI (wlen k)), .int ((nI j) + 1)] σ19 τ19 _
        refine Rx.go (fun _ => rfl) ?_
        refine Rx.ite (fun c3 => ?_) (fun c3 => ?_)
        · replace c3 : (nI (wlen k)) ≤ ((nI j) + 1) := of_decide_eq_true c3
          skip
          show Rx X c0 m_Mod_readTruth 71 [.ref (c0 + 16), bv, .ref (X.2.1 k), .int ((nI j) + 1)] [] σ19 τ19 _
          refine Rx.go (fun _ => rfl) ?_
          refine Rx.callE rfl rfl rfl rfl (rg_good hS19) ?_
          show Rx X c0 m_Mod_readTruth 75 [.ref (c0 + 16), bv, .ref (X.2.1 k), .int ((nI j) + 1)] [.int 0] σ19 τ19 _
          refine Rx.go (fun _ => rfl) ?_
          show Rx X c0 m_Mod_readTruth 97 [.ref (c0 + 16), bv, .ref (X.2.1 k), .int ((nI j) + 1)] [] σ19 τ19 _
          exact Rx.ret rfl rfl (rQ_f (q := j) (b := ()) (by rw [show sTl t k (m + 1) j = some j from if_neg c2]) hS19 (by simp only [List.length_take, wl_len]; omega) (by omega))
        · replace c3 : ¬ (nI (wlen k)) ≤ ((nI j) + 1) := of_decide_eq_false c3
          show Rx X c0 m_Mod_readTruth 28 [.ref (c0 + 16), bv, .ref (X.2.1 k), .int ((nI j) + 1)] [] σ19 τ19 _
          refine Rx.go (fun _ => rfl) ?_
          refine Rx.callE rfl rfl rfl rfl (rg_good hS19) ?_
          show Rx X c0 m_Mod_readTruth 32 [.ref (c0 + 16), bv, .ref (X.2.1 k), .int ((nI j) + 1)] [.int 0] σ19 τ19 _
          refine Rx.go (fun _ => rfl) ?_
          show Rx X c0 m_Mod_readTruth 71 [.ref (c0 + 16), bv, .ref (X.2.1 k), .int ((nI j) + 1)] [] σ19 τ19 _
          refine Rx.go (fun _ => rfl) ?_
          refine Rx.callE rfl rfl rfl rfl (rg_good hS19) ?_
          show Rx X c0 m_Mod_readTruth 75 [.ref (c0 + 16), bv, .ref (X.2.1 k), .int ((nI j) + 1)] [.int 0] σ19 τ19 _
          refine Rx.go (fun _ => rfl) ?_
          show Rx X c0 m_Mod_readTruth 97 [.ref (c0 + 16), bv, .ref (X.2.1 k), .int ((nI j) + 1)] [] σ19 τ19 _
          exact Rx.ret rfl rfl (rQ_f (q := j) (b := ()) (by rw [show sTl t k (m + 1) j = some j from if_neg c2]) hS19 (by simp only [List.length_take, wl_len]; omega) (by omega))
      · replace c2 : (hb t j) = (nI (wch k j)) := Classical.not_not.mp (of_decide_eq_false c2)
        show Rx X c0 m_Mod_readTruth 48 [.ref (c0 + 16), bv, .ref (X.2.1 k), .int (nI j)] [.ref (c0 + 16)] σ τ _
        refine Rx.go (fun _ => rfl) ?_
        refine Rx.go (fun _ => rfl) ?_
        refine Rx.callP rfl rfl rfl rfl (rs_ov_t hS (hb_in (by rw [c2]; exact nI_nm1 (by have := (wch_all k hk j (by omega)).2; omega)))) ?_
        intro σ20 τ20 hS20
        show Rx X c0 m_Mod_readTruth 56 [.ref (c0 + 16), bv, .ref (X.2.1 k), .int (nI j)] [] σ20 τ20 _
        refine Rx.go (fun _ => rfl) ?_
        refine Rx.go (fun _ => rfl) ?_
        refine Rx.go (fun _ => rfl) ?_
        refine Rx.strc hX hk rfl rfl rfl rfl (fun h hl => hs_char hX hl hk (j := j) (by omega)) ?_
        show Rx X c0 m_Mod_readTruth 62 [.ref (c0 + 16), bv, .ref (X.2.1 k), .int (nI j)] [.int (nI (wch k j)), .ref (c0 + 16)] σ20 τ20 _
        refine Rx.callP rfl rfl rfl rfl (rs_put (wch k j) hS20 (by simp only [List.length_take, wl_len]; omega)) ?_
        intro σ21 τ21 hS21
        show Rx X c0 m_Mod_readTruth 65 [.ref (c0 + 16), bv, .ref (X.2.1 k), .int (nI j)] [] σ21 τ21 _
        refine Rx.go (fun _ => rfl) ?_
        show Rx X c0 m_Mod_readTruth 68 [.ref (c0 + 16), bv, .ref (X.2.1 k), .int ((nI j) + 1)] [] σ21 τ21 _
        refine Rx.go (fun _ => rfl) ?_
        show Rx X c0 m_Mod_readTruth 20 [.ref (c0 + 16), bv, .ref (X.2.1 k), .int ((nI j) + 1)] [] σ21 τ21 _
        have e := take_s (m := wl k) (i := j) (by rw [wl_len]; omega)
        rw [wl_get (by omega)] at e
        rw [e] at hS21
        rw [show nI j + 1 = nI (j + 1) from nI_1 j, show sTl t k (m + 1) j = sTl t k m (j + 1) from if_pos c2]
        exact ih (j + 1) _ _ (by omega) hS21
set_option maxRecDepth 100000 in
set_option maxHeartbeats 2000000 in
theorem rr_truth0 {X : ev_X} {c0 : Nat} (hX : XS X c0) {σ0 : Nat → Int32} {τ0 : Nat → Nat → Int32} {t : List Nat} {σ : Nat → Int32} {τ : Nat → Nat → Int32} (hS : RZ σ0 τ0 t 0 σ τ) : Rx X c0 m_Mod_readTruth 0 [.ref (c0 + 16), .int 1, ev_dead, ev_dead] [] σ τ (rQ σ0 τ0 t ((match sTl t 0 (wlen 0) 0 with | some x => (false, x, ()) | none => if isW (hb t (wlen 0)) = true then (false, wlen 0, ()) else (true, wlen 0, ())) : Bool × Nat × Unit) (fun q b σ' τ' => q = wlen 0 ∧ RS σ0 τ0 t (wlen 0) (wl 0) 8 0 0 σ' τ')) := by
  refine Rx.go (fun _ => rfl) ?_
  refine Rx.go (fun _ => rfl) ?_
  refine Rx.callP rfl rfl rfl rfl (rz_begin 8 hS) ?_
  intro σ22 τ22 hS22
  show Rx X c0 m_Mod_readTruth 6 [.ref (c0 + 16), .int 1, ev_dead, ev_dead] [] σ22 τ22 _
  refine Rx.go (fun _ => rfl) ?_
  refine Rx.go (fun _ => rfl) ?_
  show Rx X c0 m_Mod_readTruth 10 [.ref (c0 + 16), .int 1, ev_dead, ev_dead] [] σ22 τ22 _
  refine Rx.go (fun _ => rfl) ?_
  refine Rx.go (fun _ => rfl) ?_
  refine Rx.go (fun _ => rfl) ?_
  show Rx X c0 m_Mod_readTruth 18 [.ref (c0 + 16), .int 1, .ref (X.2.1 0), ev_dead] [] σ22 τ22 _
  refine Rx.go (fun _ => rfl) ?_
  refine Rx.go (fun _ => rfl) ?_
  show Rx X c0 m_Mod_readTruth 20 [.ref (c0 + 16), .int 1, .ref (X.2.1 0), .int 0] [] σ22 τ22 _
  show Rx X c0 m_Mod_readTruth 20 [.ref (c0 + 16), .int 1, .ref (X.2.1 0), .int 0] [] σ22 τ22 _
  exact rr_tr_l hX (k := 0) (by decide) _ (wlen 0) 0 _ _ (by decide) hS22
set_option maxRecDepth 100000 in
set_option maxHeartbeats 2000000 in
theorem rr_truth1 {X : ev_X} {c0 : Nat} (hX : XS X c0) {σ0 : Nat → Int32} {τ0 : Nat → Nat → Int32} {t : List Nat} {σ : Nat → Int32} {τ : Nat → Nat → Int32} (hS : RZ σ0 τ0 t 0 σ τ) : Rx X c0 m_Mod_readTruth 0 [.ref (c0 + 16), .int 0, ev_dead, ev_dead] [] σ τ (rQ σ0 τ0 t ((match sTl t 1 (wlen 1) 0 with | some x => (false, x, ()) | none => if isW (hb t (wlen 1)) = true then (false, wlen 1, ()) else (true, wlen 1, ())) : Bool × Nat × Unit) (fun q b σ' τ' => q = wlen 1 ∧ RS σ0 τ0 t (wlen 1) (wl 1) 8 0 0 σ' τ')) := by
  refine Rx.go (fun _ => rfl) ?_
  refine Rx.go (fun _ => rfl) ?_
  refine Rx.callP rfl rfl rfl rfl (rz_begin 8 hS) ?_
  intro σ23 τ23 hS23
  show Rx X c0 m_Mod_readTruth 6 [.ref (c0 + 16), .int 0, ev_dead, ev_dead] [] σ23 τ23 _
  refine Rx.go (fun _ => rfl) ?_
  refine Rx.go (fun _ => rfl) ?_
  show Rx X c0 m_Mod_readTruth 15 [.ref (c0 + 16), .int 0, ev_dead, ev_dead] [] σ23 τ23 _
  refine Rx.go (fun _ => rfl) ?_
  refine Rx.go (fun _ => rfl) ?_
  show Rx X c0 m_Mod_readTruth 18 [.ref (c0 + 16), .int 0, .ref (X.2.1 1), ev_dead] [] σ23 τ23 _
  refine Rx.go (fun _ => rfl) ?_
  refine Rx.go (fun _ => rfl) ?_
  show Rx X c0 m_Mod_readTruth 20 [.ref (c0 + 16), .int 0, .ref (X.2.1 1), .int 0] [] σ23 τ23 _
  show Rx X c0 m_Mod_readTruth 20 [.ref (c0 + 16), .int 0, .ref (X.2.1 1), .int 0] [] σ23 τ23 _
  exact rr_tr_l hX (k := 1) (by decide) _ (wlen 1) 0 _ _ (by decide) hS23
end
section
/-! The reference reads a number's digits. (rows laid by wip/whole/rr7.py) -/
/-- digits being taken: ds, and how many stood ahead of the dot -/
def b23 : Option Nat → Int32
  | none => -1
  | some w => nI w
def RN (σ0 : Nat → Int32) (τ0 : Nat → Nat → Int32) (t : List Nat) (q : Nat) (D : List Nat) (k qq db : Nat) (ds : List Nat) (bf : Option Nat) (σ : Nat → Int32) (τ : Nat → Nat → Int32) : Prop := RS σ0 τ0 t q D k qq db σ τ ∧ σ 22 = nI ds.length ∧ (∀ j, j < ds.length → τ 21 j = nI (ds.getD j 0)) ∧ σ 23 = b23 bf
section RNR
variable {σ0 σ : Nat → Int32} {τ0 τ : Nat → Nat → Int32} {t D ds : List Nat} {q k qq db : Nat} {bf : Option Nat}
theorem RS.up {i : Nat} {x : Int32} (h : RS σ0 τ0 t q D k qq db σ τ) (hi : i = 22 ∨ i = 23) : RS σ0 τ0 t q D k qq db (upd σ i x) τ := by
  obtain ⟨h1, h2, h3, ⟨h4, h5⟩, h6, h7, h8⟩ := h
  exact ⟨h1.upd (by omega), ⟨by rw [pk_un (by omega)]; exact h2.1, h2.2⟩, by rw [pk_un (by omega)]; exact h3, ⟨by rw [pk_un (by omega)]; exact h4, h5⟩, by rw [pk_un (by omega)]; exact h6, by rw [pk_un (by omega)]; exact h7, by rw [pk_un (by omega)]; exact h8⟩
theorem RS.ut {f : Nat → Int32} (h : RS σ0 τ0 t q D k qq db σ τ) : RS σ0 τ0 t q D k qq db σ (va_up τ 21 f) := by
  obtain ⟨h1, h2, h3, ⟨h4, h5⟩, h6⟩ := h
  exact ⟨h1.upt (by omega), h2, h3, ⟨h4, fun j hj => by rw [va_up_ne _ _ (by decide)]; exact h5 j hj⟩, h6⟩
theorem RN.start (h : RS σ0 τ0 t q D k qq db σ τ) : RN σ0 τ0 t q D k qq db [] none (upd (upd σ 22 0) 23 (-1)) τ := ⟨(h.up (by omega)).up (by omega), by rw [pk_un (by decide), pk_us]; rfl, fun j hj => absurd hj (Nat.not_lt_zero j), by rw [pk_us]; rfl⟩
theorem RN.dot (h : RN σ0 τ0 t q D k qq db ds bf σ τ) (hq : q < t.length) : RN σ0 τ0 t (q + 1) D k qq db ds (some ds.length) (upd (upd σ 23 (nI ds.length)) 16 (nI (q + 1))) τ := ⟨(h.1.up (by omega)).at1 hq, by rw [pk_un (by decide), pk_un (by decide)]; exact h.2.1, h.2.2.1, by rw [pk_un (by decide), pk_us]; rfl⟩
theorem RN.dig (h : RN σ0 τ0 t q D k qq db ds bf σ τ) (hq : q < t.length) (hd : ds.length < 40) : RN σ0 τ0 t (q + 1) D k qq db (ds ++ [t.getD q 0]) bf (upd (upd σ 22 (nI (ds.length + 1))) 16 (nI (q + 1))) (va_up τ 21 (upd (τ 21) (nI ds.length).toNatClampNeg (nI (t.getD q 0)))) := by
  refine ⟨((h.1.up (by omega)).ut).at1 hq, by rw [pk_un (by decide), pk_us, List.length_append]; rfl, fun j hj => ?_, by rw [pk_un (by decide), pk_un (by decide)]; exact h.2.2.2⟩
  simp only [List.length_append, List.length_cons, List.length_nil] at hj
  rw [va_up_self, nI_clamp (by omega), getD_snoc hj]
  split
  · next e => rw [pk_un (by omega)]; exact h.2.2.1 j e
  · next e => rw [show j = ds.length by omega, pk_us]
end RNR
/-- a run of digits, taken -/
def rD (t : List Nat) : Nat → Nat → List Nat → Bool × Nat × List Nat
  | 0, q, ds => (true, q, ds)
  | m + 1, q, ds => if isD (hb t q) = true then (if ds.length = 18 then (false, q, ds) else rD t m (q + 1) (ds ++ [t.getD q 0])) else (true, q, ds)
theorem D46 : isD 46 = false := by decide
theorem RG.upn {σ0 σ : Nat → Int32} {τ0 τ : Nat → Nat → Int32} {t : List Nat} {w m j i : Nat} {x : Int32} (h : RG σ0 τ0 t w m j σ τ) (hi : i = 22 ∨ i = 23) : RG σ0 τ0 t w m j (upd σ i x) τ := by
  obtain ⟨h1, ⟨p, h2, h2'⟩, h3, h4, h5⟩ := h
  exact ⟨h1.upd (by omega), ⟨p, by rw [pk_un (by omega)]; exact h2, h2'⟩, by rw [pk_un (by omega)]; exact h3, by rw [pk_un (by omega)]; exact h4, by rw [pk_un (by omega)]; exact h5⟩
theorem RG.ut {σ0 σ : Nat → Int32} {τ0 τ : Nat → Nat → Int32} {t : List Nat} {w m j : Nat} {f : Nat → Int32} (h : RG σ0 τ0 t w m j σ τ) : RG σ0 τ0 t w m j σ (va_up τ 21 f) := ⟨h.1.upt (by omega), h.2⟩
theorem rfail_22 {σ : Nat → Int32} {a b : Int32} {i : Nat} (hi : i ≠ 18) (hi2 : i ≠ 19) : rfail σ a b i = σ i := by
  unfold rfail
  split
  · rw [pk_un hi2, pk_un hi]
  · rfl
set_option maxRecDepth 100000 in
set_option maxHeartbeats 2000000 in
theorem rr_n2_l {X : ev_X} {c0 : Nat} {σ0 : Nat → Int32} {τ0 : Nat → Nat → Int32} {t D : List Nat} {k qq db : Nat} (hD : D.length ≤ 250) (bel : Bool) (fr : Int32) {Q : Option Value → (Nat → Int32) → (Nat → Nat → Int32) → Prop} {o0 : Bool × Nat × List Nat} {W : Nat} (hW : W ≤ 18) (hK : ∀ {q : Nat} {ds : List Nat} {σ : Nat → Int32} {τ : Nat → Nat → Int32}, (true, q, ds) = o0 → ds.length ≤ 18 → q ≤ t.length → isD (hb t q) = false → RN σ0 τ0 t q D k qq db ds (some W) σ τ → Rx X c0 m_Mod_readNumber 210 [.ref (c0 + 16), .int fr, .int (bi bel)] [] σ τ Q) (hF : ∀ {w j : Nat} {ds : List Nat} {σ : Nat → Int32} {τ : Nat → Nat → Int32}, (false, w, ds) = o0 → RG σ0 τ0 t w D.length j σ τ → j ≤ 10 → Q none σ τ) : ∀ (m q : Nat) (ds : List Nat) (σ : Nat → Int32) (τ : Nat → Nat → Int32) (hm : q + m = t.length) (hq : q ≤ t.length) (hds : ds.length ≤ 18) (ho : rD t m q ds = o0) (hN : RN σ0 τ0 t q D k qq db ds (some W) σ τ), Rx X c0 m_Mod_readNumber 78 [.ref (c0 + 16), .int fr, .int (bi bel)] [] σ τ Q := by
  intro m
  induction m with
  | zero =>
    intro q ds σ τ hm hq hds ho hN
    have hl := hN.1.z.tl
    refine Rx.go (fun _ => rfl) ?_
    refine Rx.callE rfl rfl rfl rfl (rz_good hN.1.z) ?_
    show Rx X c0 m_Mod_readNumber 82 [.ref (c0 + 16), .int fr, .int (bi bel)] [.int 1] σ τ _
    refine Rx.go (fun _ => rfl) ?_
    show Rx X c0 m_Mod_readNumber 85 [.ref (c0 + 16), .int fr, .int (bi bel)] [] σ τ _
    refine Rx.go (fun _ => rfl) ?_
    refine Rx.callE rfl rfl rfl rfl (rz_here hN.1.z) ?_
    show Rx X c0 m_Mod_readNumber 89 [.ref (c0 + 16), .int fr, .int (bi bel)] [.int (hb t q)] σ τ _
    refine Rx.scallE rfl rfl rfl rfl (sx_Mod_isDigit X (hb t q)) ?_
    show Rx X c0 m_Mod_readNumber 92 [.ref (c0 + 16), .int fr, .int (bi bel)] [.int (bi (isD (hb t q)))] σ τ _
    refine Rx.go (fun _ => rfl) ?_
    refine Rx.ite (fun c1 => ?_) (fun c1 => ?_)
    · replace c1 : (isD (hb t q)) = true := bi_net c1
      exact absurd c1 (by rw [hb_ge (show ¬ q < t.length by omega)]; decide)
    · replace c1 : (isD (hb t q)) = false := bi_nef c1
      show Rx X c0 m_Mod_readNumber 95 [.ref (c0 + 16), .int fr, .int (bi bel)] [] σ τ _
      refine Rx.go (fun _ => rfl) ?_
      refine Rx.callE rfl rfl rfl rfl (rz_here hN.1.z) ?_
      show Rx X c0 m_Mod_readNumber 99 [.ref (c0 + 16), .int fr, .int (bi bel)] [.int (hb t q)] σ τ _
      refine Rx.go (fun _ => rfl) ?_
      refine Rx.go (fun _ => rfl) ?_
      refine Rx.ite (fun c2 => ?_) (fun c2 => ?_)
      · replace c2 : ¬ (hb t q) = 46 := of_decide_eq_true c2
        show Rx X c0 m_Mod_readNumber 210 [.ref (c0 + 16), .int fr, .int (bi bel)] [] σ τ _
        show Rx X c0 m_Mod_readNumber 210 [.ref (c0 + 16), .int fr, .int (bi bel)] [] σ τ _
        exact hK ho hds hq (by rw [hb_ge (show ¬ q < t.length by omega)]; decide) hN
      · replace c2 : (hb t q) = 46 := Classical.not_not.mp (of_decide_eq_false c2)
        show Rx X c0 m_Mod_readNumber 104 [.ref (c0 + 16), .int fr, .int (bi bel)] [] σ τ _
        refine Rx.go (fun _ => rfl) ?_
        refine Rx.get rfl rfl ?_
        refine Rx.top (y := nI W) hN.2.2.2 ?_
        refine Rx.go (fun _ => rfl) ?_
        refine Rx.ite (fun c3 => ?_) (fun c3 => ?_)
        · replace c3 : 0 ≤ (nI W) := of_decide_eq_true c3
          show Rx X c0 m_Mod_readNumber 210 [.ref (c0 + 16), .int fr, .int (bi bel)] [] σ τ _
          show Rx X c0 m_Mod_readNumber 210 [.ref (c0 + 16), .int fr, .int (bi bel)] [] σ τ _
          exact hK ho hds hq (by rw [hb_ge (show ¬ q < t.length by omega)]; decide) hN
        · replace c3 : ¬ 0 ≤ (nI W) := of_decide_eq_false c3
          exact absurd (nI_pos' (by omega)) c3
  | succ m ih =>
    intro q ds σ τ hm hq hds ho hN
    have hl := hN.1.z.tl
    refine Rx.go (fun _ => rfl) ?_
    refine Rx.callE rfl rfl rfl rfl (rz_good hN.1.z) ?_
    show Rx X c0 m_Mod_readNumber 82 [.ref (c0 + 16), .int fr, .int (bi bel)] [.int 1] σ τ _
    refine Rx.go (fun _ => rfl) ?_
    show Rx X c0 m_Mod_readNumber 85 [.ref (c0 + 16), .int fr, .int (bi bel)] [] σ τ _
    refine Rx.go (fun _ => rfl) ?_
    refine Rx.callE rfl rfl rfl rfl (rz_here hN.1.z) ?_
    show Rx X c0 m_Mod_readNumber 89 [.ref (c0 + 16), .int fr, .int (bi bel)] [.int (hb t q)] σ τ _
    refine Rx.scallE rfl rfl rfl rfl (sx_Mod_isDigit X (hb t q)) ?_
    show Rx X c0 m_Mod_readNumber 92 [.ref (c0 + 16), .int fr, .int (bi bel)] [.int (bi (isD (hb t q)))] σ τ _
    refine Rx.go (fun _ => rfl) ?_
    refine Rx.ite (fun c1 => ?_) (fun c1 => ?_)
    · replace c1 : (isD (hb t q)) = true := bi_net c1
      show Rx X c0 m_Mod_readNumber 111 [.ref (c0 + 16), .int fr, .int (bi bel)] [] σ τ _
      refine Rx.go (fun _ => rfl) ?_
      refine Rx.callE rfl rfl rfl rfl (rz_here hN.1.z) ?_
      show Rx X c0 m_Mod_readNumber 115 [.ref (c0 + 16), .int fr, .int (bi bel)] [.int (hb t q)] σ τ _
      refine Rx.go (fun _ => rfl) ?_
      refine Rx.go (fun _ => rfl) ?_
      refine Rx.ite (fun c2 => ?_) (fun c2 => ?_)
      · replace c2 : ¬ (hb t q) = 46 := of_decide_eq_true c2
        show Rx X c0 m_Mod_readNumber 156 [.ref (c0 + 16), .int fr, .int (bi bel)] [] σ τ _
        refine Rx.go (fun _ => rfl) ?_
        refine Rx.get rfl rfl ?_
        refine Rx.top (y := nI ds.length) hN.2.1 ?_
        refine Rx.go (fun _ => rfl) ?_
        refine Rx.go (fun _ => rfl) ?_
        refine Rx.ite (fun c3 => ?_) (fun c3 => ?_)
        · replace c3 : ¬ (nI ds.length) = 18 := of_decide_eq_true c3
          have d18 : ¬ ds.length = 18 := fun e => c3 (by rw [e]; rfl)
          show Rx X c0 m_Mod_readNumber 174 [.ref (c0 + 16), .int fr, .int (bi bel)] [] σ τ _
          refine Rx.go (fun _ => rfl) ?_
          refine Rx.get rfl rfl ?_
          refine Rx.go (fun _ => rfl) ?_
          refine Rx.get rfl rfl ?_
          refine Rx.top (y := nI ds.length) hN.2.1 ?_
          refine Rx.go (fun _ => rfl) ?_
          refine Rx.callE rfl rfl rfl rfl (rz_here hN.1.z) ?_
          show Rx X c0 m_Mod_readNumber 186 [.ref (c0 + 16), .int fr, .int (bi bel)] [.int (hb t q), .int (nI ds.length), .ref (c0 + 25)] σ τ _
          refine Rx.top (y := nI (t.getD q 0)) (hb_lt (by omega)) ?_
          refine Rx.ast 21 rfl rfl (nI_ix (show ds.length < 40 by omega) (by decide)) ?_
          refine Rx.go (fun _ => rfl) ?_
          refine Rx.go (fun _ => rfl) ?_
          refine Rx.get rfl rfl ?_
          refine Rx.top (y := nI ds.length) hN.2.1 ?_
          refine Rx.go (fun _ => rfl) ?_
          refine Rx.go (fun _ => rfl) ?_
          refine Rx.top (y := nI (ds.length + 1)) (nI_1 _) ?_
          refine Rx.put rfl (by decide) rfl rfl ?_
          refine Rx.go (fun _ => rfl) ?_
          refine Rx.go (fun _ => rfl) ?_
          refine Rx.get rfl rfl ?_
          refine Rx.top (y := nI q) hN.1.f16 ?_
          refine Rx.go (fun _ => rfl) ?_
          refine Rx.go (fun _ => rfl) ?_
          refine Rx.top (y := nI (q + 1)) (nI_1 _) ?_
          refine Rx.put rfl (by decide) rfl rfl ?_
          refine Rx.go (fun _ => rfl) ?_
          show Rx X c0 m_Mod_readNumber 78 [.ref (c0 + 16), .int fr, .int (bi bel)] [] (upd (upd σ 22 (nI (ds.length + 1))) 16 (nI (q + 1))) (va_up τ 21 (upd (τ 21) (nI ds.length).toNatClampNeg (nI (t.getD q 0)))) _
          exact ih (q + 1) (ds ++ [t.getD q 0]) _ _ (by omega) (by omega) (by simp only [List.length_append, List.length_cons, List.length_nil]; omega) (((if_pos c1).trans (if_neg d18)).symm.trans ho) (hN.dig (by omega) (by omega))
        · replace c3 : (nI ds.length) = 18 := Classical.not_not.mp (of_decide_eq_false c3)
          have d18 : ds.length = 18 := (nI_eq (b := 18) (by omega) (by decide)).mp c3
          show Rx X c0 m_Mod_readNumber 165 [.ref (c0 + 16), .int fr, .int (bi bel)] [] σ τ _
          refine Rx.go (fun _ => rfl) ?_
          refine Rx.go (fun _ => rfl) ?_
          refine Rx.go (fun _ => rfl) ?_
          refine Rx.get rfl rfl ?_
          refine Rx.top (y := nI q) hN.1.f16 ?_
          refine Rx.callE rfl rfl rfl rfl (rx_fail X c0 _ _ _ _) ?_
          have hS17 := hN.1.g (c := 4) (w := nI q) (wn := q) (by decide) rfl
          have hd17 : rfail σ 4 (nI q) 22 = nI ds.length := (rfail_22 (by decide) (by decide)).trans hN.2.1
          show Rx X c0 m_Mod_readNumber 174 [.ref (c0 + 16), .int fr, .int (bi bel)] [] (rfail σ 4 (nI q)) τ _
          refine Rx.go (fun _ => rfl) ?_
          refine Rx.get rfl rfl ?_
          refine Rx.go (fun _ => rfl) ?_
          refine Rx.get rfl rfl ?_
          refine Rx.go (fun _ => rfl) ?_
          refine Rx.callE rfl rfl rfl rfl (rg_here hS17 (by omega)) ?_
          show Rx X c0 m_Mod_readNumber 186 [.ref (c0 + 16), .int fr, .int (bi bel)] [.int (rhere (rfail σ 4 (nI q)) τ), .int ((rfail σ 4 (nI q)) 22), .ref (c0 + 25)] (rfail σ 4 (nI q)) τ _
          refine Rx.ast 21 rfl rfl (by rw [show (rfail σ 4 (nI q)) 22 = nI ds.length from hd17]; exact nI_ix (show ds.length < 40 by omega) (by decide)) ?_
          have hS18 : RG σ0 τ0 t q D.length 0 (rfail σ 4 (nI q)) (va_up τ 21 (upd (τ 21) ((rfail σ 4 (nI q)) 22).toNatClampNeg (rhere (rfail σ 4 (nI q)) τ))) := RG.ut hS17
          refine Rx.go (fun _ => rfl) ?_
          refine Rx.go (fun _ => rfl) ?_
          refine Rx.get rfl rfl ?_
          refine Rx.go (fun _ => rfl) ?_
          refine Rx.go (fun _ => rfl) ?_
          refine Rx.put rfl (by decide) rfl rfl ?_
          have hS19 := RG.upn hS18 (i := 22) (x := ((rfail σ 4 (nI q)) 22) + 1) (by omega)
          refine Rx.go (fun _ => rfl) ?_
          refine Rx.go (fun _ => rfl) ?_
          refine Rx.get rfl rfl ?_
          refine Rx.go (fun _ => rfl) ?_
          refine Rx.go (fun _ => rfl) ?_
          refine Rx.put rfl (by decide) rfl rfl ?_
          have hS20 := hS19.at1
          refine Rx.go (fun _ => rfl) ?_
          refine Rx.go (fun _ => rfl) ?_
          refine Rx.callE rfl rfl rfl rfl (rg_good hS20) ?_
          show Rx X c0 m_Mod_readNumber 82 [.ref (c0 + 16), .int fr, .int (bi bel)] [.int 0] (upd (upd (rfail σ 4 (nI q)) 22 (((rfail σ 4 (nI q)) 22) + 1)) 16 (((upd (rfail σ 4 (nI q)) 22 (((rfail σ 4 (nI q)) 22) + 1)) 16) + 1)) (va_up τ 21 (upd (τ 21) ((rfail σ 4 (nI q)) 22).toNatClampNeg (rhere (rfail σ 4 (nI q)) τ))) _
          refine Rx.go (fun _ => rfl) ?_
          show Rx X c0 m_Mod_readNumber 210 [.ref (c0 + 16), .int fr, .int (bi bel)] [] (upd (upd (rfail σ 4 (nI q)) 22 (((rfail σ 4 (nI q)) 22) + 1)) 16 (((upd (rfail σ 4 (nI q)) 22 (((rfail σ 4 (nI q)) 22) + 1)) 16) + 1)) (va_up τ 21 (upd (τ 21) ((rfail σ 4 (nI q)) 22).toNatClampNeg (rhere (rfail σ 4 (nI q)) τ))) _
          refine Rx.go (fun _ => rfl) ?_
          refine Rx.callE rfl rfl rfl rfl (rg_good hS20) ?_
          show Rx X c0 m_Mod_readNumber 214 [.ref (c0 + 16), .int fr, .int (bi bel)] [.int 0] (upd (upd (rfail σ 4 (nI q)) 22 (((rfail σ 4 (nI q)) 22) + 1)) 16 (((upd (rfail σ 4 (nI q)) 22 (((rfail σ 4 (nI q)) 22) + 1)) 16) + 1)) (va_up τ 21 (upd (τ 21) ((rfail σ 4 (nI q)) 22).toNatClampNeg (rhere (rfail σ 4 (nI q)) τ))) _
          refine Rx.go (fun _ => rfl) ?_
          show Rx X c0 m_Mod_readNumber 223 [.ref (c0 + 16), .int fr, .int (bi bel)] [] (upd (upd (rfail σ 4 (nI q)) 22 (((rfail σ 4 (nI q)) 22) + 1)) 16 (((upd (rfail σ 4 (nI q)) 22 (((rfail σ 4 (nI q)) 22) + 1)) 16) + 1)) (va_up τ 21 (upd (τ 21) ((rfail σ 4 (nI q)) 22).toNatClampNeg (rhere (rfail σ 4 (nI q)) τ))) _
          exact Rx.ret rfl rfl (hF (show (false, q, ds) = o0 from ((if_pos c1).trans (if_pos d18)).symm.trans ho) hS20 (by omega))
      · replace c2 : (hb t q) = 46 := Classical.not_not.mp (of_decide_eq_false c2)
        exact absurd (show isD (hb t q) = true from c1) (by rw [c2]; decide)
    · replace c1 : (isD (hb t q)) = false := bi_nef c1
      show Rx X c0 m_Mod_readNumber 95 [.ref (c0 + 16), .int fr, .int (bi bel)] [] σ τ _
      refine Rx.go (fun _ => rfl) ?_
      refine Rx.callE rfl rfl rfl rfl (rz_here hN.1.z) ?_
      show Rx X c0 m_Mod_readNumber 99 [.ref (c0 + 16), .int fr, .int (bi bel)] [.int (hb t q)] σ τ _
      refine Rx.go (fun _ => rfl) ?_
      refine Rx.go (fun _ => rfl) ?_
      refine Rx.ite (fun c4 => ?_) (fun c4 => ?_)
      · replace c4 : ¬ (hb t q) = 46 := of_decide_eq_true c4
        show Rx X c0 m_Mod_readNumber 210 [.ref (c0 + 16), .int fr, .int (bi bel)] [] σ τ _
        show Rx X c0 m_Mod_readNumber 210 [.ref (c0 + 16), .int fr, .int (bi bel)] [] σ τ _
        exact hK ((if_neg (by rw [c1]; decide)).symm.trans ho) hds hq c1 hN
      · replace c4 : (hb t q) = 46 := Classical.not_not.mp (of_decide_eq_false c4)
        show Rx X c0 m_Mod_readNumber 104 [.ref (c0 + 16), .int fr, .int (bi bel)] [] σ τ _
        refine Rx.go (fun _ => rfl) ?_
        refine Rx.get rfl rfl ?_
        refine Rx.top (y := nI W) hN.2.2.2 ?_
        refine Rx.go (fun _ => rfl) ?_
        refine Rx.ite (fun c5 => ?_) (fun c5 => ?_)
        · replace c5 : 0 ≤ (nI W) := of_decide_eq_true c5
          show Rx X c0 m_Mod_readNumber 210 [.ref (c0 + 16), .int fr, .int (bi bel)] [] σ τ _
          show Rx X c0 m_Mod_readNumber 210 [.ref (c0 + 16), .int fr, .int (bi bel)] [] σ τ _
          exact hK ((if_neg (by rw [c1]; decide)).symm.trans ho) hds hq c1 hN
        · replace c5 : ¬ 0 ≤ (nI W) := of_decide_eq_false c5
          exact absurd (nI_pos' (by omega)) c5
set_option maxRecDepth 100000 in
set_option maxHeartbeats 2000000 in
theorem rr_n1_l {X : ev_X} {c0 : Nat} {σ0 : Nat → Int32} {τ0 : Nat → Nat → Int32} {t D : List Nat} {k qq db : Nat} (hD : D.length ≤ 250) (bel : Bool) (fr : Int32) {Q : Option Value → (Nat → Int32) → (Nat → Nat → Int32) → Prop} {o0 : Bool × Nat × List Nat} (hK1 : ∀ {q : Nat} {ds : List Nat} {σ : Nat → Int32} {τ : Nat → Nat → Int32}, (true, q, ds) = o0 → ds.length ≤ 18 → q ≤ t.length → isD (hb t q) = false → ¬ hb t q = 46 → RN σ0 τ0 t q D k qq db ds none σ τ → Rx X c0 m_Mod_readNumber 210 [.ref (c0 + 16), .int fr, .int (bi bel)] [] σ τ Q) (hK2 : ∀ {q : Nat} {ds : List Nat} {σ : Nat → Int32} {τ : Nat → Nat → Int32}, (true, q, ds) = o0 → ds.length ≤ 18 → q < t.length → hb t q = 46 → isD (hb t (q + 1)) = true → RN σ0 τ0 t (q + 1) D k qq db ds (some ds.length) σ τ → Rx X c0 m_Mod_readNumber 78 [.ref (c0 + 16), .int fr, .int (bi bel)] [] σ τ Q) (hF : ∀ {w j : Nat} {ds : List Nat} {σ : Nat → Int32} {τ : Nat → Nat → Int32}, (false, w, ds) = o0 → RG σ0 τ0 t w D.length j σ τ → j ≤ 10 → Q none σ τ) (hF2 : ∀ {q j : Nat} {ds : List Nat} {σ : Nat → Int32} {τ : Nat → Nat → Int32}, (true, q, ds) = o0 → q < t.length → hb t q = 46 → isD (hb t (q + 1)) = false → RG σ0 τ0 t (q + 1) D.length j σ τ → j ≤ 10 → Q none σ τ) : ∀ (m q : Nat) (ds : List Nat) (σ : Nat → Int32) (τ : Nat → Nat → Int32) (hm : q + m = t.length) (hq : q ≤ t.length) (hds : ds.length ≤ 18) (ho : rD t m q ds = o0) (hN : RN σ0 τ0 t q D k qq db ds none σ τ), Rx X c0 m_Mod_readNumber 78 [.ref (c0 + 16), .int fr, .int (bi bel)] [] σ τ Q := by
  intro m
  induction m with
  | zero =>
    intro q ds σ τ hm hq hds ho hN
    have hl := hN.1.z.tl
    refine Rx.go (fun _ => rfl) ?_
    refine Rx.callE rfl rfl rfl rfl (rz_good hN.1.z) ?_
    show Rx X c0 m_Mod_readNumber 82 [.ref (c0 + 16), .int fr, .int (bi bel)] [.int 1] σ τ _
    refine Rx.go (fun _ => rfl) ?_
    show Rx X c0 m_Mod_readNumber 85 [.ref (c0 + 16), .int fr, .int (bi bel)] [] σ τ _
    refine Rx.go (fun _ => rfl) ?_
    refine Rx.callE rfl rfl rfl rfl (rz_here hN.1.z) ?_
    show Rx X c0 m_Mod_readNumber 89 [.ref (c0 + 16), .int fr, .int (bi bel)] [.int (hb t q)] σ τ _
    refine Rx.scallE rfl rfl rfl rfl (sx_Mod_isDigit X (hb t q)) ?_
    show Rx X c0 m_Mod_readNumber 92 [.ref (c0 + 16), .int fr, .int (bi bel)] [.int (bi (isD (hb t q)))] σ τ _
    refine Rx.go (fun _ => rfl) ?_
    refine Rx.ite (fun c1 => ?_) (fun c1 => ?_)
    · replace c1 : (isD (hb t q)) = true := bi_net c1
      exact absurd c1 (by rw [hb_ge (show ¬ q < t.length by omega)]; decide)
    · replace c1 : (isD (hb t q)) = false := bi_nef c1
      show Rx X c0 m_Mod_readNumber 95 [.ref (c0 + 16), .int fr, .int (bi bel)] [] σ τ _
      refine Rx.go (fun _ => rfl) ?_
      refine Rx.callE rfl rfl rfl rfl (rz_here hN.1.z) ?_
      show Rx X c0 m_Mod_readNumber 99 [.ref (c0 + 16), .int fr, .int (bi bel)] [.int (hb t q)] σ τ _
      refine Rx.go (fun _ => rfl) ?_
      refine Rx.go (fun _ => rfl) ?_
      refine Rx.ite (fun c2 => ?_) (fun c2 => ?_)
      · replace c2 : ¬ (hb t q) = 46 := of_decide_eq_true c2
        show Rx X c0 m_Mod_readNumber 210 [.ref (c0 + 16), .int fr, .int (bi bel)] [] σ τ _
        show Rx X c0 m_Mod_readNumber 210 [.ref (c0 + 16), .int fr, .int (bi bel)] [] σ τ _
        exact hK1 (ho) hds hq c1 c2 hN
      · replace c2 : (hb t q) = 46 := Classical.not_not.mp (of_decide_eq_false c2)
        exact absurd c2 (by rw [hb_ge (show ¬ q < t.length by omega)]; decide)
  | succ m ih =>
    intro q ds σ τ hm hq hds ho hN
    have hl := hN.1.z.tl
    refine Rx.go (fun _ => rfl) ?_
    refine Rx.callE rfl rfl rfl rfl (rz_good hN.1.z) ?_
    show Rx X c0 m_Mod_readNumber 82 [.ref (c0 + 16), .int fr, .int (bi bel)] [.int 1] σ τ _
    refine Rx.go (fun _ => rfl) ?_
    show Rx X c0 m_Mod_readNumber 85 [.ref (c0 + 16), .int fr, .int (bi bel)] [] σ τ _
    refine Rx.go (fun _ => rfl) ?_
    refine Rx.callE rfl rfl rfl rfl (rz_here hN.1.z) ?_
    show Rx X c0 m_Mod_readNumber 89 [.ref (c0 + 16), .int fr, .int (bi bel)] [.int (hb t q)] σ τ _
    refine Rx.scallE rfl rfl rfl rfl (sx_Mod_isDigit X (hb t q)) ?_
    show Rx X c0 m_Mod_readNumber 92 [.ref (c0 + 16), .int fr, .int (bi bel)] [.int (bi (isD (hb t q)))] σ τ _
    refine Rx.go (fun _ => rfl) ?_
    refine Rx.ite (fun c1 => ?_) (fun c1 => ?_)
    · replace c1 : (isD (hb t q)) = true := bi_net c1
      show Rx X c0 m_Mod_readNumber 111 [.ref (c0 + 16), .int fr, .int (bi bel)] [] σ τ _
      refine Rx.go (fun _ => rfl) ?_
      refine Rx.callE rfl rfl rfl rfl (rz_here hN.1.z) ?_
      show Rx X c0 m_Mod_readNumber 115 [.ref (c0 + 16), .int fr, .int (bi bel)] [.int (hb t q)] σ τ _
      refine Rx.go (fun _ => rfl) ?_
      refine Rx.go (fun _ => rfl) ?_
      refine Rx.ite (fun c2 => ?_) (fun c2 => ?_)
      · replace c2 : ¬ (hb t q) = 46 := of_decide_eq_true c2
        show Rx X c0 m_Mod_readNumber 156 [.ref (c0 + 16), .int fr, .int (bi bel)] [] σ τ _
        refine Rx.go (fun _ => rfl) ?_
        refine Rx.get rfl rfl ?_
        refine Rx.top (y := nI ds.length) hN.2.1 ?_
        refine Rx.go (fun _ => rfl) ?_
        refine Rx.go (fun _ => rfl) ?_
        refine Rx.ite (fun c3 => ?_) (fun c3 => ?_)
        · replace c3 : ¬ (nI ds.length) = 18 := of_decide_eq_true c3
          have d18 : ¬ ds.length = 18 := fun e => c3 (by rw [e]; rfl)
          show Rx X c0 m_Mod_readNumber 174 [.ref (c0 + 16), .int fr, .int (bi bel)] [] σ τ _
          refine Rx.go (fun _ => rfl) ?_
          refine Rx.get rfl rfl ?_
          refine Rx.go (fun _ => rfl) ?_
          refine Rx.get rfl rfl ?_
          refine Rx.top (y := nI ds.length) hN.2.1 ?_
          refine Rx.go (fun _ => rfl) ?_
          refine Rx.callE rfl rfl rfl rfl (rz_here hN.1.z) ?_
          show Rx X c0 m_Mod_readNumber 186 [.ref (c0 + 16), .int fr, .int (bi bel)] [.int (hb t q), .int (nI ds.length), .ref (c0 + 25)] σ τ _
          refine Rx.top (y := nI (t.getD q 0)) (hb_lt (by omega)) ?_
          refine Rx.ast 21 rfl rfl (nI_ix (show ds.length < 40 by omega) (by decide)) ?_
          refine Rx.go (fun _ => rfl) ?_
          refine Rx.go (fun _ => rfl) ?_
          refine Rx.get rfl rfl ?_
          refine Rx.top (y := nI ds.length) hN.2.1 ?_
          refine Rx.go (fun _ => rfl) ?_
          refine Rx.go (fun _ => rfl) ?_
          refine Rx.top (y := nI (ds.length + 1)) (nI_1 _) ?_
          refine Rx.put rfl (by decide) rfl rfl ?_
          refine Rx.go (fun _ => rfl) ?_
          refine Rx.go (fun _ => rfl) ?_
          refine Rx.get rfl rfl ?_
          refine Rx.top (y := nI q) hN.1.f16 ?_
          refine Rx.go (fun _ => rfl) ?_
          refine Rx.go (fun _ => rfl) ?_
          refine Rx.top (y := nI (q + 1)) (nI_1 _) ?_
          refine Rx.put rfl (by decide) rfl rfl ?_
          refine Rx.go (fun _ => rfl) ?_
          show Rx X c0 m_Mod_readNumber 78 [.ref (c0 + 16), .int fr, .int (bi bel)] [] (upd (upd σ 22 (nI (ds.length + 1))) 16 (nI (q + 1))) (va_up τ 21 (upd (τ 21) (nI ds.length).toNatClampNeg (nI (t.getD q 0)))) _
          exact ih (q + 1) (ds ++ [t.getD q 0]) _ _ (by omega) (by omega) (by simp only [List.length_append, List.length_cons, List.length_nil]; omega) (((if_pos c1).trans (if_neg d18)).symm.trans ho) (hN.dig (by omega) (by omega))
        · replace c3 : (nI ds.length) = 18 := Classical.not_not.mp (of_decide_eq_false c3)
          have d18 : ds.length = 18 := (nI_eq (b := 18) (by omega) (by decide)).mp c3
          show Rx X c0 m_Mod_readNumber 165 [.ref (c0 + 16), .int fr, .int (bi bel)] [] σ τ _
          refine Rx.go (fun _ => rfl) ?_
          refine Rx.go (fun _ => rfl) ?_
          refine Rx.go (fun _ => rfl) ?_
          refine Rx.get rfl rfl ?_
          refine Rx.top (y := nI q) hN.1.f16 ?_
          refine Rx.callE rfl rfl rfl rfl (rx_fail X c0 _ _ _ _) ?_
          have hS21 := hN.1.g (c := 4) (w := nI q) (wn := q) (by decide) rfl
          have hd21 : rfail σ 4 (nI q) 22 = nI ds.length := (rfail_22 (by decide) (by decide)).trans hN.2.1
          show Rx X c0 m_Mod_readNumber 174 [.ref (c0 + 16), .int fr, .int (bi bel)] [] (rfail σ 4 (nI q)) τ _
          refine Rx.go (fun _ => rfl) ?_
          refine Rx.get rfl rfl ?_
          refine Rx.go (fun _ => rfl) ?_
          refine Rx.get rfl rfl ?_
          refine Rx.go (fun _ => rfl) ?_
          refine Rx.callE rfl rfl rfl rfl (rg_here hS21 (by omega)) ?_
          show Rx X c0 m_Mod_readNumber 186 [.ref (c0 + 16), .int fr, .int (bi bel)] [.int (rhere (rfail σ 4 (nI q)) τ), .int ((rfail σ 4 (nI q)) 22), .ref (c0 + 25)] (rfail σ 4 (nI q)) τ _
          refine Rx.ast 21 rfl rfl (by rw [show (rfail σ 4 (nI q)) 22 = nI ds.length from hd21]; exact nI_ix (show ds.length < 40 by omega) (by decide)) ?_
          have hS22 : RG σ0 τ0 t q D.length 0 (rfail σ 4 (nI q)) (va_up τ 21 (upd (τ 21) ((rfail σ 4 (nI q)) 22).toNatClampNeg (rhere (rfail σ 4 (nI q)) τ))) := RG.ut hS21
          refine Rx.go (fun _ => rfl) ?_
          refine Rx.go (fun _ => rfl) ?_
          refine Rx.get rfl rfl ?_
          refine Rx.go (fun _ => rfl) ?_
          refine Rx.go (fun _ => rfl) ?_
          refine Rx.put rfl (by decide) rfl rfl ?_
          have hS23 := RG.upn hS22 (i := 22) (x := ((rfail σ 4 (nI q)) 22) + 1) (by omega)
          refine Rx.go (fun _ => rfl) ?_
          refine Rx.go (fun _ => rfl) ?_
          refine Rx.get rfl rfl ?_
          refine Rx.go (fun _ => rfl) ?_
          refine Rx.go (fun _ => rfl) ?_
          refine Rx.put rfl (by decide) rfl rfl ?_
          have hS24 := hS23.at1
          refine Rx.go (fun _ => rfl) ?_
          refine Rx.go (fun _ => rfl) ?_
          refine Rx.callE rfl rfl rfl rfl (rg_good hS24) ?_
          show Rx X c0 m_Mod_readNumber 82 [.ref (c0 + 16), .int fr, .int (bi bel)] [.int 0] (upd (upd (rfail σ 4 (nI q)) 22 (((rfail σ 4 (nI q)) 22) + 1)) 16 (((upd (rfail σ 4 (nI q)) 22 (((rfail σ 4 (nI q)) 22) + 1)) 16) + 1)) (va_up τ 21 (upd (τ 21) ((rfail σ 4 (nI q)) 22).toNatClampNeg (rhere (rfail σ 4 (nI q)) τ))) _
          refine Rx.go (fun _ => rfl) ?_
          show Rx X c0 m_Mod_readNumber 210 [.ref (c0 + 16), .int fr, .int (bi bel)] [] (upd (upd (rfail σ 4 (nI q)) 22 (((rfail σ 4 (nI q)) 22) + 1)) 16 (((upd (rfail σ 4 (nI q)) 22 (((rfail σ 4 (nI q)) 22) + 1)) 16) + 1)) (va_up τ 21 (upd (τ 21) ((rfail σ 4 (nI q)) 22).toNatClampNeg (rhere (rfail σ 4 (nI q)) τ))) _
          refine Rx.go (fun _ => rfl) ?_
          refine Rx.callE rfl rfl rfl rfl (rg_good hS24) ?_
          show Rx X c0 m_Mod_readNumber 214 [.ref (c0 + 16), .int fr, .int (bi bel)] [.int 0] (upd (upd (rfail σ 4 (nI q)) 22 (((rfail σ 4 (nI q)) 22) + 1)) 16 (((upd (rfail σ 4 (nI q)) 22 (((rfail σ 4 (nI q)) 22) + 1)) 16) + 1)) (va_up τ 21 (upd (τ 21) ((rfail σ 4 (nI q)) 22).toNatClampNeg (rhere (rfail σ 4 (nI q)) τ))) _
          refine Rx.go (fun _ => rfl) ?_
          show Rx X c0 m_Mod_readNumber 223 [.ref (c0 + 16), .int fr, .int (bi bel)] [] (upd (upd (rfail σ 4 (nI q)) 22 (((rfail σ 4 (nI q)) 22) + 1)) 16 (((upd (rfail σ 4 (nI q)) 22 (((rfail σ 4 (nI q)) 22) + 1)) 16) + 1)) (va_up τ 21 (upd (τ 21) ((rfail σ 4 (nI q)) 22).toNatClampNeg (rhere (rfail σ 4 (nI q)) τ))) _
          exact Rx.ret rfl rfl (hF (show (false, q, ds) = o0 from ((if_pos c1).trans (if_pos d18)).symm.trans ho) hS24 (by omega))
      · replace c2 : (hb t q) = 46 := Classical.not_not.mp (of_decide_eq_false c2)
        exact absurd c1 (by rw [c2]; decide)
    · replace c1 : (isD (hb t q)) = false := bi_nef c1
      show Rx X c0 m_Mod_readNumber 95 [.ref (c0 + 16), .int fr, .int (bi bel)] [] σ τ _
      refine Rx.go (fun _ => rfl) ?_
      refine Rx.callE rfl rfl rfl rfl (rz_here hN.1.z) ?_
      show Rx X c0 m_Mod_readNumber 99 [.ref (c0 + 16), .int fr, .int (bi bel)] [.int (hb t q)] σ τ _
      refine Rx.go (fun _ => rfl) ?_
      refine Rx.go (fun _ => rfl) ?_
      refine Rx.ite (fun c4 => ?_) (fun c4 => ?_)
      · replace c4 : ¬ (hb t q) = 46 := of_decide_eq_true c4
        show Rx X c0 m_Mod_readNumber 210 [.ref (c0 + 16), .int fr, .int (bi bel)] [] σ τ _
        show Rx X c0 m_Mod_readNumber 210 [.ref (c0 + 16), .int fr, .int (bi bel)] [] σ τ _
        exact hK1 ((if_neg (by rw [c1]; decide)).symm.trans ho) hds hq c1 c4 hN
      · replace c4 : (hb t q) = 46 := Classical.not_not.mp (of_decide_eq_false c4)
        show Rx X c0 m_Mod_readNumber 104 [.ref (c0 + 16), .int fr, .int (bi bel)] [] σ τ _
        refine Rx.go (fun _ => rfl) ?_
        refine Rx.get rfl rfl ?_
        refine Rx.top (y := -1) hN.2.2.2 ?_
        refine Rx.go (fun _ => rfl) ?_
        show Rx X c0 m_Mod_readNumber 111 [.ref (c0 + 16), .int fr, .int (bi bel)] [] σ τ _
        refine Rx.go (fun _ => rfl) ?_
        refine Rx.callE rfl rfl rfl rfl (rz_here hN.1.z) ?_
        show Rx X c0 m_Mod_readNumber 115 [.ref (c0 + 16), .int fr, .int (bi bel)] [.int (hb t q)] σ τ _
        refine Rx.go (fun _ => rfl) ?_
        refine Rx.go (fun _ => rfl) ?_
        refine Rx.ite (fun c5 => ?_) (fun c5 => ?_)
        · replace c5 : ¬ (hb t q) = 46 := of_decide_eq_true c5
          exact absurd c4 c5
        · replace c5 : (hb t q) = 46 := Classical.not_not.mp (of_decide_eq_false c5)
          skip
          show Rx X c0 m_Mod_readNumber 120 [.ref (c0 + 16), .int fr, .int (bi bel)] [] σ τ _
          refine Rx.go (fun _ => rfl) ?_
          refine Rx.go (fun _ => rfl) ?_
          refine Rx.get rfl rfl ?_
          refine Rx.top (y := nI ds.length) hN.2.1 ?_
          refine Rx.put rfl (by decide) rfl rfl ?_
          refine Rx.go (fun _ => rfl) ?_
          refine Rx.go (fun _ => rfl) ?_
          refine Rx.get rfl rfl ?_
          refine Rx.top (y := nI q) hN.1.f16 ?_
          refine Rx.go (fun _ => rfl) ?_
          refine Rx.go (fun _ => rfl) ?_
          refine Rx.top (y := nI (q + 1)) (nI_1 _) ?_
          refine Rx.put rfl (by decide) rfl rfl ?_
          have c46 : hb t q = 46 := c4
          have h46 := hb_in (t := t) (q := q) (by rw [c46]; decide)
          have hM25 := hN.dot h46
          refine Rx.go (fun _ => rfl) ?_
          refine Rx.callE rfl rfl rfl rfl (rz_here hM25.1.z) ?_
          show Rx X c0 m_Mod_readNumber 142 [.ref (c0 + 16), .int fr, .int (bi bel)] [.int (hb t (q + 1))] (upd (upd σ 23 (nI ds.length)) 16 (nI (q + 1))) τ _
          refine Rx.scallE rfl rfl rfl rfl (sx_Mod_isDigit X (hb t (q + 1))) ?_
          show Rx X c0 m_Mod_readNumber 145 [.ref (c0 + 16), .int fr, .int (bi bel)] [.int (bi (isD (hb t (q + 1))))] (upd (upd σ 23 (nI ds.length)) 16 (nI (q + 1))) τ _
          refine Rx.go (fun _ => rfl) ?_
          refine Rx.ite (fun c6 => ?_) (fun c6 => ?_)
          · replace c6 : (isD (hb t (q + 1))) = true := bi_net c6
            show Rx X c0 m_Mod_readNumber 78 [.ref (c0 + 16), .int fr, .int (bi bel)] [] (upd (upd σ 23 (nI ds.length)) 16 (nI (q + 1))) τ _
            show Rx X c0 m_Mod_readNumber 78 [.ref (c0 + 16), .int fr, .int (bi bel)] [] (upd (upd σ 23 (nI ds.length)) 16 (nI (q + 1))) τ _
            exact hK2 ((if_neg (by rw [c1]; decide)).symm.trans ho) hds h46 c46 c6 hM25
          · replace c6 : (isD (hb t (q + 1))) = false := bi_nef c6
            show Rx X c0 m_Mod_readNumber 148 [.ref (c0 + 16), .int fr, .int (bi bel)] [] (upd (upd σ 23 (nI ds.length)) 16 (nI (q + 1))) τ _
            refine Rx.go (fun _ => rfl) ?_
            refine Rx.go (fun _ => rfl) ?_
            refine Rx.callP rfl rfl rfl rfl (rs_ov_f false hM25.1 (fun h => Bool.false_ne_true h.2)) ?_
            intro σ26 τ26 hS26
            show Rx X c0 m_Mod_readNumber 153 [.ref (c0 + 16), .int fr, .int (bi bel)] [] σ26 τ26 _
            refine Rx.go (fun _ => rfl) ?_
            refine Rx.go (fun _ => rfl) ?_
            refine Rx.callE rfl rfl rfl rfl (rg_good hS26) ?_
            show Rx X c0 m_Mod_readNumber 82 [.ref (c0 + 16), .int fr, .int (bi bel)] [.int 0] σ26 τ26 _
            refine Rx.go (fun _ => rfl) ?_
            show Rx X c0 m_Mod_readNumber 210 [.ref (c0 + 16), .int fr, .int (bi bel)] [] σ26 τ26 _
            refine Rx.go (fun _ => rfl) ?_
            refine Rx.callE rfl rfl rfl rfl (rg_good hS26) ?_
            show Rx X c0 m_Mod_readNumber 214 [.ref (c0 + 16), .int fr, .int (bi bel)] [.int 0] σ26 τ26 _
            refine Rx.go (fun _ => rfl) ?_
            show Rx X c0 m_Mod_readNumber 223 [.ref (c0 + 16), .int fr, .int (bi bel)] [] σ26 τ26 _
            exact Rx.ret rfl rfl (hF2 ((if_neg (by rw [c1]; decide)).symm.trans ho) h46 c46 c6 hS26 (by omega))
end
section
/-! The reference reads a number. (rows laid by wip/whole/rr8.py) -/
theorem rD_by (t : List Nat) (ht : ∀ i, t.getD i 0 < 256) : ∀ (m q : Nat) (ds : List Nat), (∀ i, ds.getD i 0 < 256) → ∀ i, (rD t m q ds).2.2.getD i 0 < 256 := by
  intro m
  induction m with
  | zero => intro q ds h; exact h
  | succ m ih =>
    intro q ds h
    rw [rD]
    split
    · split
      · exact h
      · refine ih (q + 1) _ (fun i => ?_)
        by_cases q1 : i < ds.length + 1
        · rw [getD_snoc q1]
          split
          · exact h i
          · exact ht q
        · rw [gd0 (by simp only [List.length_append, List.length_cons, List.length_nil]; omega)]; decide
    · exact h
theorem RS.ws {σ0 σ σ' : Nat → Int32} {τ0 τ τ' : Nat → Nat → Int32} {t D d : List Nat} {q k qq db kd : Nat} (h : RS σ0 τ0 t q D k qq db σ τ) (hW : WS (rbg σ (nI kd)) τ d σ' τ') : RS σ0 τ0 t q d kd 0 0 σ' τ' := by
  obtain ⟨⟨⟨a1, a2, a3, a4, a5⟩, ⟨b1, b2, b3, b4, b5, b6⟩, h7, h8, h9, h10⟩, ⟨c1, c2⟩, c3, -⟩ := h
  obtain ⟨w1, w2, w3, w4, w5, w6⟩ := hW
  have e : ∀ i, i ≠ 10 → i ≠ 11 → i ≠ 12 → i ≠ 13 → σ' i = σ i := fun i i1 i2 i3 i4 => by
    rw [w1 i i1, rbg, pk_un i4, pk_un i3, pk_un i1, pk_un i2]
  refine ⟨⟨⟨?_, ?_, ?_, ?_, ?_⟩, ⟨?_, ?_, ?_, ?_, ?_, ?_⟩, fun j hj => ?_, h8, h9, ?_⟩, ⟨?_, c2⟩, ?_, ⟨w3, w5⟩, ?_, ?_, ?_⟩
  · rw [e 1 (by decide) (by decide) (by decide) (by decide)]; exact a1
  · rw [e 2 (by decide) (by decide) (by decide) (by decide)]; exact a2
  · rw [e 7 (by decide) (by decide) (by decide) (by decide)]; exact a3
  · rw [e 8 (by decide) (by decide) (by decide) (by decide)]; exact a4
  · rw [e 15 (by decide) (by decide) (by decide) (by decide)]; exact a5
  · rw [w2 3 (by decide)]; exact b1
  · rw [w2 4 (by decide)]; exact b2
  · rw [w2 5 (by decide)]; exact b3
  · rw [w2 6 (by decide)]; exact b4
  · rw [w2 14 (by decide)]; exact b5
  · rw [w2 20 (by decide)]; exact b6
  · rw [w2 0 (by decide)]; exact h7 j hj
  · rw [e 17 (by decide) (by decide) (by decide) (by decide)]; exact h10
  · rw [e 16 (by decide) (by decide) (by decide) (by decide)]; exact c1
  · rw [e 18 (by decide) (by decide) (by decide) (by decide)]; exact c3
  · rw [w1 11 (by decide)]; rfl
  · rw [w1 12 (by decide)]; rfl
  · rw [w1 13 (by decide)]; rfl
theorem RS.wf {σ0 σ : Nat → Int32} {τ0 τ : Nat → Nat → Int32} {t D : List Nat} {q k qq db : Nat} {kd : Int32} (h : RS σ0 τ0 t q D k qq db σ τ) : RG σ0 τ0 t 0 0 0 (rfail (rbg σ kd) 6 0) τ := by
  obtain ⟨h1, h2, h3, -⟩ := h
  rw [rfail, if_pos (show rbg σ kd 18 = 0 from h3)]
  exact ⟨((((((h1.upd (by omega)).upd (by omega)).upd (by omega)).upd (by omega)).upd (by omega)).upd (by omega)), ⟨q, h2.1, by have := h1.2.2.2.1; have := h2.2; omega⟩, by rw [pk_un (by decide), pk_us]; decide, by rw [pk_us]; rfl, rfl⟩
def rDs (t : List Nat) : Bool × Nat × List Nat := rD t (t.length - sgn0 t) (sgn0 t) []
/-- what the digits come to: taken up to q, or a fault at w -/
def nrO (t : List Nat) (q : Nat) (ds : List Nat) (bf : Option Nat) : Prop := (bf = none ∧ rDs t = (true, q, ds) ∧ ¬ hb t q = 46 ∧ (hb t (sgn0 t) = 46 ∨ isD (hb t (sgn0 t)) = true)) ∨ (∃ q1 ds1, bf = some ds1.length ∧ rDs t = (true, q1, ds1) ∧ hb t q1 = 46 ∧ isD (hb t (q1 + 1)) = true ∧ rD t (t.length - (q1 + 1)) (q1 + 1) ds1 = (true, q, ds))
def nrF (t : List Nat) (w : Nat) : Prop := (¬ hb t (sgn0 t) = 46 ∧ isD (hb t (sgn0 t)) = false ∧ w = sgn0 t) ∨ (∃ ds, rDs t = (false, w, ds)) ∨ (∃ q1 ds1, rDs t = (true, q1, ds1) ∧ hb t q1 = 46 ∧ ((isD (hb t (q1 + 1)) = false ∧ w = q1 + 1) ∨ ∃ ds, rD t (t.length - (q1 + 1)) (q1 + 1) ds1 = (false, w, ds)))
def bW (ds : List Nat) : Option Nat → Nat
  | none => ds.length
  | some w => w
/-- readNumber's end -/
def nuP (σ0 : Nat → Int32) (τ0 : Nat → Nat → Int32) (t : List Nat) (r : Option Value) (σ' : Nat → Int32) (τ' : Nat → Nat → Int32) : Prop := r = none ∧ ((∃ w m j, nrF t w ∧ RG σ0 τ0 t w m j σ' τ' ∧ m ≤ 250 ∧ j ≤ 20) ∨ (∃ q ds bf L, nrO t q ds bf ∧ trail ds (bW ds bf) L ∧ ds.length ≤ 18 ∧ ((9 < L - bW ds bf ∧ RG σ0 τ0 t 0 0 0 σ' τ') ∨ (L - bW ds bf ≤ 9 ∧ ∃ g, lead ds (bW ds bf) g ∧ RS σ0 τ0 t q (wN (decide (hb t 0 = 45)) bf.isSome ds g (bW ds bf) L) (if bf.isSome = true then 4 else 3) 0 0 σ' τ'))))
set_option maxRecDepth 100000 in
set_option maxHeartbeats 2000000 in
theorem rr_nt_w {X : ev_X} {c0 : Nat} {σ0 : Nat → Int32} {τ0 : Nat → Nat → Int32} {t D ds : List Nat} {q k qq db : Nat} {bel : Bool} (hbel : bel = decide (hb t 0 = 45)) {σ : Nat → Int32} {τ : Nat → Nat → Int32} (hO : nrO t q ds none) (hds : ds.length ≤ 18) (hby : ∀ i, ds.getD i 0 < 256) (hN : RN σ0 τ0 t q D k qq db ds none σ τ) : Rx X c0 m_Mod_readNumber 210 [.ref (c0 + 16), .int 0, .int (bi bel)] [] σ τ (nuP σ0 τ0 t) := by
  refine Rx.go (fun _ => rfl) ?_
  refine Rx.callE rfl rfl rfl rfl (rz_good hN.1.z) ?_
  show Rx X c0 m_Mod_readNumber 214 [.ref (c0 + 16), .int 0, .int (bi bel)] [.int 1] σ τ _
  refine Rx.go (fun _ => rfl) ?_
  show Rx X c0 m_Mod_readNumber 217 [.ref (c0 + 16), .int 0, .int (bi bel)] [] σ τ _
  refine Rx.go (fun _ => rfl) ?_
  refine Rx.go (fun _ => rfl) ?_
  refine Rx.go (fun _ => rfl) ?_
  refine Rx.callP rfl rfl rfl rfl (rx_wn_w X c0 ⟨hds, hN.2.2.1, hby⟩ bel 0 hN.2.1 hN.2.2.2) ?_
  rintro σ1 τ1 ⟨L, ht, (⟨e9, g, hg, hWS⟩ | ⟨e9, rfl, rfl⟩)⟩
  · exact Rx.ret rfl rfl ⟨rfl, Or.inr ⟨q, ds, none, L, hO, ht, hds, Or.inr ⟨e9, g, hg, hbel ▸ hN.1.ws (kd := 3) hWS⟩⟩⟩
  · exact Rx.ret rfl rfl ⟨rfl, Or.inr ⟨q, ds, none, L, hO, ht, hds, Or.inl ⟨e9, hN.1.wf⟩⟩⟩
set_option maxRecDepth 100000 in
set_option maxHeartbeats 2000000 in
theorem rr_nt_d {X : ev_X} {c0 : Nat} {σ0 : Nat → Int32} {τ0 : Nat → Nat → Int32} {t D ds : List Nat} {q k qq db W : Nat} {bel : Bool} (hbel : bel = decide (hb t 0 = 45)) {σ : Nat → Int32} {τ : Nat → Nat → Int32} (hO : nrO t q ds (some W)) (hds : ds.length ≤ 18) (hby : ∀ i, ds.getD i 0 < 256) (hW2 : W ≤ ds.length) (hN : RN σ0 τ0 t q D k qq db ds (some W) σ τ) : Rx X c0 m_Mod_readNumber 210 [.ref (c0 + 16), .int 0, .int (bi bel)] [] σ τ (nuP σ0 τ0 t) := by
  refine Rx.go (fun _ => rfl) ?_
  refine Rx.callE rfl rfl rfl rfl (rz_good hN.1.z) ?_
  show Rx X c0 m_Mod_readNumber 214 [.ref (c0 + 16), .int 0, .int (bi bel)] [.int 1] σ τ _
  refine Rx.go (fun _ => rfl) ?_
  show Rx X c0 m_Mod_readNumber 217 [.ref (c0 + 16), .int 0, .int (bi bel)] [] σ τ _
  refine Rx.go (fun _ => rfl) ?_
  refine Rx.go (fun _ => rfl) ?_
  refine Rx.go (fun _ => rfl) ?_
  refine Rx.callP rfl rfl rfl rfl (rx_wn_d X c0 (W := W) ⟨hds, hN.2.2.1, hby⟩ bel 0 hN.2.1 hW2 hN.2.2.2) ?_
  rintro σ1 τ1 ⟨L, ht, (⟨e9, g, hg, hWS⟩ | ⟨e9, rfl, rfl⟩)⟩
  · exact Rx.ret rfl rfl ⟨rfl, Or.inr ⟨q, ds, some W, L, hO, ht, hds, Or.inr ⟨e9, g, hg, hbel ▸ hN.1.ws (kd := 4) hWS⟩⟩⟩
  · exact Rx.ret rfl rfl ⟨rfl, Or.inr ⟨q, ds, some W, L, hO, ht, hds, Or.inl ⟨e9, hN.1.wf⟩⟩⟩
theorem rD_len (t : List Nat) : ∀ (m q : Nat) (ds : List Nat), ds.length ≤ (rD t m q ds).2.2.length := by
  intro m
  induction m with
  | zero => intro q ds; exact Nat.le_refl _
  | succ m ih =>
    intro q ds
    rw [rD]
    repeat' split
    all_goals first | exact Nat.le_refl _ | (have := ih (q + 1) (ds ++ [t.getD q 0]); simp only [List.length_append, List.length_cons, List.length_nil] at this; omega)
set_option maxRecDepth 100000 in
set_option maxHeartbeats 2000000 in
theorem rr_n43 {X : ev_X} {c0 : Nat} {σ0 : Nat → Int32} {τ0 : Nat → Nat → Int32} {t D : List Nat} {k qq db : Nat} (hD : D.length ≤ 250) {bel : Bool} (hbel : bel = decide (hb t 0 = 45)) {σ : Nat → Int32} {τ : Nat → Nat → Int32} (hS : RS σ0 τ0 t (sgn0 t) D k qq db σ τ) : Rx X c0 m_Mod_readNumber 43 [.ref (c0 + 16), .int 0, .int (bi bel)] [] σ τ (nuP σ0 τ0 t) := by
  have hsg := hS.pl
  refine Rx.go (fun _ => rfl) ?_
  refine Rx.callE rfl rfl rfl rfl (rz_here hS.z) ?_
  show Rx X c0 m_Mod_readNumber 47 [.ref (c0 + 16), .int 0, .int (bi bel)] [.int (hb t (sgn0 t))] σ τ _
  refine Rx.go (fun _ => rfl) ?_
  refine Rx.go (fun _ => rfl) ?_
  refine Rx.ite (fun c1 => ?_) (fun c1 => ?_)
  · replace c1 : (hb t (sgn0 t)) = 46 := of_decide_eq_true c1
    show Rx X c0 m_Mod_readNumber 68 [.ref (c0 + 16), .int 0, .int (bi bel)] [] σ τ _
    refine Rx.go (fun _ => rfl) ?_
    refine Rx.go (fun _ => rfl) ?_
    refine Rx.put rfl (by decide) rfl rfl ?_
    refine Rx.go (fun _ => rfl) ?_
    refine Rx.go (fun _ => rfl) ?_
    refine Rx.put rfl (by decide) rfl rfl ?_
    show Rx X c0 m_Mod_readNumber 78 [.ref (c0 + 16), .int 0, .int (bi bel)] [] (upd (upd σ 22 0) 23 (-1)) τ _
    refine rr_n1_l hD bel 0 (o0 := rDs t) ?_ ?_ ?_ ?_ (t.length - sgn0 t) (sgn0 t) [] _ _ (by omega) hsg (by decide) rfl (RN.start hS)
    · intro q ds σ' τ' e h1 h2 h3 h4 hN
      exact rr_nt_w hbel (Or.inl ⟨rfl, e.symm, h4, by first | exact Or.inl c1 | exact Or.inr c2⟩) h1 (by have := rD_by t hS.z.by (t.length - sgn0 t) (sgn0 t) [] (fun i => by simp); rw [show rD t (t.length - sgn0 t) (sgn0 t) [] = (true, q, ds) from e.symm] at this; exact this) hN
    · intro q ds σ' τ' e h1 h2 h3 h4 hN
      have hb1 : ∀ i, ds.getD i 0 < 256 := by have := rD_by t hS.z.by (t.length - sgn0 t) (sgn0 t) [] (fun i => by simp); rw [show rD t (t.length - sgn0 t) (sgn0 t) [] = (true, q, ds) from e.symm] at this; exact this
      refine rr_n2_l hD bel 0 (o0 := rD t (t.length - (q + 1)) (q + 1) ds) h1 ?_ ?_ (t.length - (q + 1)) (q + 1) ds _ _ (by omega) (by omega) h1 rfl hN
      · intro q2 ds2 σ2 τ2 e2 g1 g2 g3 hN2
        exact rr_nt_d hbel (Or.inr ⟨q, ds, rfl, e.symm, h3, h4, e2.symm⟩) g1 (by have := rD_by t hS.z.by (t.length - (q + 1)) (q + 1) ds hb1; rw [← e2] at this; exact this) (by have := rD_len t (t.length - (q + 1)) (q + 1) ds; rw [← e2] at this; exact this) hN2
      · intro w j ds2 σ2 τ2 e2 hG hj
        exact ⟨rfl, Or.inl ⟨w, _, j, Or.inr (Or.inr ⟨q, ds, e.symm, h3, Or.inr ⟨ds2, e2.symm⟩⟩), hG, hD, by omega⟩⟩
    · intro w j ds σ' τ' e hG hj
      exact ⟨rfl, Or.inl ⟨w, _, j, Or.inr (Or.inl ⟨ds, e.symm⟩), hG, hD, by omega⟩⟩
    · intro q j ds σ' τ' e h2 h3 h4 hG hj
      exact ⟨rfl, Or.inl ⟨q + 1, _, j, Or.inr (Or.inr ⟨q, ds, e.symm, h3, Or.inl ⟨h4, rfl⟩⟩), hG, hD, by omega⟩⟩
  · replace c1 : ¬ (hb t (sgn0 t)) = 46 := of_decide_eq_false c1
    show Rx X c0 m_Mod_readNumber 52 [.ref (c0 + 16), .int 0, .int (bi bel)] [] σ τ _
    refine Rx.go (fun _ => rfl) ?_
    refine Rx.callE rfl rfl rfl rfl (rz_here hS.z) ?_
    show Rx X c0 m_Mod_readNumber 56 [.ref (c0 + 16), .int 0, .int (bi bel)] [.int (hb t (sgn0 t))] σ τ _
    refine Rx.scallE rfl rfl rfl rfl (sx_Mod_isDigit X (hb t (sgn0 t))) ?_
    show Rx X c0 m_Mod_readNumber 59 [.ref (c0 + 16), .int 0, .int (bi bel)] [.int (bi (isD (hb t (sgn0 t))))] σ τ _
    refine Rx.go (fun _ => rfl) ?_
    refine Rx.ite (fun c2 => ?_) (fun c2 => ?_)
    · replace c2 : (isD (hb t (sgn0 t))) = true := bi_net c2
      show Rx X c0 m_Mod_readNumber 68 [.ref (c0 + 16), .int 0, .int (bi bel)] [] σ τ _
      refine Rx.go (fun _ => rfl) ?_
      refine Rx.go (fun _ => rfl) ?_
      refine Rx.put rfl (by decide) rfl rfl ?_
      refine Rx.go (fun _ => rfl) ?_
      refine Rx.go (fun _ => rfl) ?_
      refine Rx.put rfl (by decide) rfl rfl ?_
      show Rx X c0 m_Mod_readNumber 78 [.ref (c0 + 16), .int 0, .int (bi bel)] [] (upd (upd σ 22 0) 23 (-1)) τ _
      refine rr_n1_l hD bel 0 (o0 := rDs t) ?_ ?_ ?_ ?_ (t.length - sgn0 t) (sgn0 t) [] _ _ (by omega) hsg (by decide) rfl (RN.start hS)
      · intro q ds σ' τ' e h1 h2 h3 h4 hN
        exact rr_nt_w hbel (Or.inl ⟨rfl, e.symm, h4, by first | exact Or.inl c1 | exact Or.inr c2⟩) h1 (by have := rD_by t hS.z.by (t.length - sgn0 t) (sgn0 t) [] (fun i => by simp); rw [show rD t (t.length - sgn0 t) (sgn0 t) [] = (true, q, ds) from e.symm] at this; exact this) hN
      · intro q ds σ' τ' e h1 h2 h3 h4 hN
        have hb1 : ∀ i, ds.getD i 0 < 256 := by have := rD_by t hS.z.by (t.length - sgn0 t) (sgn0 t) [] (fun i => by simp); rw [show rD t (t.length - sgn0 t) (sgn0 t) [] = (true, q, ds) from e.symm] at this; exact this
        refine rr_n2_l hD bel 0 (o0 := rD t (t.length - (q + 1)) (q + 1) ds) h1 ?_ ?_ (t.length - (q + 1)) (q + 1) ds _ _ (by omega) (by omega) h1 rfl hN
        · intro q2 ds2 σ2 τ2 e2 g1 g2 g3 hN2
          exact rr_nt_d hbel (Or.inr ⟨q, ds, rfl, e.symm, h3, h4, e2.symm⟩) g1 (by have := rD_by t hS.z.by (t.length - (q + 1)) (q + 1) ds hb1; rw [← e2] at this; exact this) (by have := rD_len t (t.length - (q + 1)) (q + 1) ds; rw [← e2] at this; exact this) hN2
        · intro w j ds2 σ2 τ2 e2 hG hj
          exact ⟨rfl, Or.inl ⟨w, _, j, Or.inr (Or.inr ⟨q, ds, e.symm, h3, Or.inr ⟨ds2, e2.symm⟩⟩), hG, hD, by omega⟩⟩
      · intro w j ds σ' τ' e hG hj
        exact ⟨rfl, Or.inl ⟨w, _, j, Or.inr (Or.inl ⟨ds, e.symm⟩), hG, hD, by omega⟩⟩
      · intro q j ds σ' τ' e h2 h3 h4 hG hj
        exact ⟨rfl, Or.inl ⟨q + 1, _, j, Or.inr (Or.inr ⟨q, ds, e.symm, h3, Or.inl ⟨h4, rfl⟩⟩), hG, hD, by omega⟩⟩
    · replace c2 : (isD (hb t (sgn0 t))) = false := bi_nef c2
      show Rx X c0 m_Mod_readNumber 62 [.ref (c0 + 16), .int 0, .int (bi bel)] [] σ τ _
      refine Rx.go (fun _ => rfl) ?_
      refine Rx.go (fun _ => rfl) ?_
      refine Rx.callP rfl rfl rfl rfl (rs_ov_f false hS (fun h => Bool.false_ne_true h.2)) ?_
      intro σ27 τ27 hS27
      show Rx X c0 m_Mod_readNumber 67 [.ref (c0 + 16), .int 0, .int (bi bel)] [] σ27 τ27 _
      exact Rx.ret rfl rfl ⟨rfl, Or.inl ⟨_, _, _, Or.inl ⟨c1, c2, rfl⟩, hS27, hD, by omega⟩⟩
set_option maxRecDepth 100000 in
set_option maxHeartbeats 2000000 in
theorem rr_number {X : ev_X} {c0 : Nat} {σ0 : Nat → Int32} {τ0 : Nat → Nat → Int32} {t D : List Nat} {k qq db : Nat} (hD : D.length ≤ 250) {σ : Nat → Int32} {τ : Nat → Nat → Int32} (hS : RS σ0 τ0 t 0 D k qq db σ τ) : Rx X c0 m_Mod_readNumber 0 [.ref (c0 + 16), ev_dead, ev_dead] [] σ τ (nuP σ0 τ0 t) := by
  refine Rx.go (fun _ => rfl) ?_
  refine Rx.get rfl rfl ?_
  refine Rx.top (y := nI 0) hS.f16 ?_
  refine Rx.go (fun _ => rfl) ?_
  show Rx X c0 m_Mod_readNumber 5 [.ref (c0 + 16), .int (nI 0), ev_dead] [] σ τ _
  refine Rx.go (fun _ => rfl) ?_
  refine Rx.callE rfl rfl rfl rfl (rz_here hS.z) ?_
  show Rx X c0 m_Mod_readNumber 9 [.ref (c0 + 16), .int (nI 0), ev_dead] [.int (hb t 0)] σ τ _
  refine Rx.go (fun _ => rfl) ?_
  refine Rx.go (fun _ => rfl) ?_
  refine Rx.ite (fun c1 => ?_) (fun c1 => ?_)
  · replace c1 : ¬ (hb t 0) = 45 := of_decide_eq_true c1
    show Rx X c0 m_Mod_readNumber 18 [.ref (c0 + 16), .int (nI 0), ev_dead] [] σ τ _
    refine Rx.go (fun _ => rfl) ?_
    refine Rx.go (fun _ => rfl) ?_
    show Rx X c0 m_Mod_readNumber 20 [.ref (c0 + 16), .int (nI 0), .int 0] [] σ τ _
    refine Rx.go (fun _ => rfl) ?_
    refine Rx.go (fun _ => rfl) ?_
    show Rx X c0 m_Mod_readNumber 24 [.ref (c0 + 16), .int (nI 0), .int 0] [] σ τ _
    refine Rx.go (fun _ => rfl) ?_
    refine Rx.callE rfl rfl rfl rfl (rz_here hS.z) ?_
    show Rx X c0 m_Mod_readNumber 28 [.ref (c0 + 16), .int (nI 0), .int 0] [.int (hb t 0)] σ τ _
    refine Rx.go (fun _ => rfl) ?_
    refine Rx.go (fun _ => rfl) ?_
    refine Rx.ite (fun c2 => ?_) (fun c2 => ?_)
    · replace c2 : ¬ (hb t 0) = 43 := of_decide_eq_true c2
      show Rx X c0 m_Mod_readNumber 43 [.ref (c0 + 16), .int (nI 0), .int 0] [] σ τ _
      show Rx X c0 m_Mod_readNumber 43 [.ref (c0 + 16), .int (nI 0), .int 0] [] σ τ _
      have e0 : sgn0 t = 0 := if_neg (by simp [c1, c2])
      exact rr_n43 hD (bel := false) (by simp [c1]) (by rw [e0]; exact hS)
    · replace c2 : (hb t 0) = 43 := Classical.not_not.mp (of_decide_eq_false c2)
      show Rx X c0 m_Mod_readNumber 33 [.ref (c0 + 16), .int (nI 0), .int 0] [] σ τ _
      refine Rx.go (fun _ => rfl) ?_
      refine Rx.go (fun _ => rfl) ?_
      refine Rx.get rfl rfl ?_
      refine Rx.top (y := nI 0) hS.f16 ?_
      refine Rx.go (fun _ => rfl) ?_
      refine Rx.go (fun _ => rfl) ?_
      refine Rx.top (y := nI (0 + 1)) (nI_1 0) ?_
      refine Rx.put rfl (by decide) rfl rfl ?_
      have hS28 := hS.at1 (hb_in (by rw [c2]; decide))
      show Rx X c0 m_Mod_readNumber 43 [.ref (c0 + 16), .int (nI 0), .int 0] [] (upd σ 16 (nI (0 + 1))) τ _
      have e0 : sgn0 t = 1 := if_pos (by simp [c2])
      exact rr_n43 hD (bel := false) (by simp [c1]) (by rw [e0]; exact hS28)
  · replace c1 : (hb t 0) = 45 := Classical.not_not.mp (of_decide_eq_false c1)
    show Rx X c0 m_Mod_readNumber 14 [.ref (c0 + 16), .int (nI 0), ev_dead] [] σ τ _
    refine Rx.go (fun _ => rfl) ?_
    refine Rx.go (fun _ => rfl) ?_
    refine Rx.go (fun _ => rfl) ?_
    show Rx X c0 m_Mod_readNumber 20 [.ref (c0 + 16), .int (nI 0), .int 1] [] σ τ _
    refine Rx.go (fun _ => rfl) ?_
    refine Rx.go (fun _ => rfl) ?_
    show Rx X c0 m_Mod_readNumber 33 [.ref (c0 + 16), .int (nI 0), .int 1] [] σ τ _
    refine Rx.go (fun _ => rfl) ?_
    refine Rx.go (fun _ => rfl) ?_
    refine Rx.get rfl rfl ?_
    refine Rx.top (y := nI 0) hS.f16 ?_
    refine Rx.go (fun _ => rfl) ?_
    refine Rx.go (fun _ => rfl) ?_
    refine Rx.top (y := nI (0 + 1)) (nI_1 0) ?_
    refine Rx.put rfl (by decide) rfl rfl ?_
    have hS29 := hS.at1 (hb_in (by rw [c1]; decide))
    show Rx X c0 m_Mod_readNumber 43 [.ref (c0 + 16), .int (nI 0), .int 1] [] (upd σ 16 (nI (0 + 1))) τ _
    have e0 : sgn0 t = 1 := if_pos (by simp [c1])
    exact rr_n43 hD (bel := true) (by simp [c1]) (by rw [e0]; exact hS29)
end
section
/-! Digits and their number; what is read may be kept. -/
def ofD (ds : List Nat) : Nat := ds.foldl (fun a d => a * 10 + (d - 48)) 0
theorem ofD_s (ds : List Nat) (d : Nat) : ofD (ds ++ [d]) = ofD ds * 10 + (d - 48) := by simp [ofD, List.foldl_append]
def digs (ds : List Nat) : Prop := ∀ d ∈ ds, 48 ≤ d ∧ d ≤ 57
theorem digs_s {ds : List Nat} {d : Nat} (h : digs ds) (hd : 48 ≤ d ∧ d ≤ 57) : digs (ds ++ [d]) := by
  intro x hx
  rcases List.mem_append.mp hx with h1 | h1
  · exact h x h1
  · rw [List.mem_singleton] at h1; rw [h1]; exact hd
theorem fold_lt : ∀ (ds : List Nat) (a : Nat), digs ds → ds.foldl (fun a d => a * 10 + (d - 48)) a + 1 ≤ (a + 1) * 10 ^ ds.length := by
  intro ds
  induction ds with
  | nil => intro a _; simp
  | cons d ds ih =>
    intro a h
    rw [List.foldl_cons, List.length_cons, Nat.pow_succ]
    have h1 := ih (a * 10 + (d - 48)) (fun x hx => h x (List.mem_cons_of_mem _ hx))
    have h2 := h d List.mem_cons_self
    refine Nat.le_trans h1 ?_
    have h3 : a * 10 + (d - 48) + 1 ≤ (a + 1) * 10 := by omega
    calc (a * 10 + (d - 48) + 1) * 10 ^ ds.length ≤ ((a + 1) * 10) * 10 ^ ds.length := Nat.mul_le_mul_right _ h3
      _ = (a + 1) * (10 ^ ds.length * 10) := by rw [Nat.mul_assoc, Nat.mul_comm 10]
theorem ofD_lt {ds : List Nat} (h : digs ds) : ofD ds < 10 ^ ds.length := by
  have := fold_lt ds 0 h
  rw [Nat.zero_add, Nat.one_mul] at this
  exact this
theorem isD_b {l : List Nat} {q : Nat} (h : isD (hb l q) = true) : q < l.length ∧ 48 ≤ l.getD q 0 ∧ (l.getD q 0 < 256 → l.getD q 0 ≤ 57) := by
  have hq : q < l.length := hb_in (fun e => by rw [e] at h; exact absurd h (by decide))
  rw [hb_lt hq] at h
  have h1 : ¬ nI (l.getD q 0) < 48 ∧ ¬ 57 < nI (l.getD q 0) := by
    unfold isD at h
    simpa using h
  refine ⟨hq, ?_, fun hlt => ?_⟩
  · by_cases hc : l.getD q 0 < 48
    · exact absurd (nI_lt (b := 48) hc (by decide)) h1.1
    · omega
  · by_cases hc : 57 < l.getD q 0
    · exact absurd (nI_lt (a := 57) hc (by omega)) h1.2
    · omega
theorem dg_l {c : Nat} (h1 : 48 ≤ c) (h2 : c ≤ 57) : (nI c - 48).toInt64 = lN (c - 48) := by
  rw [show nI c - 48 = nI (c - 48) from pk_sub (b := 48) h1]
  exact nI_l (by omega)
theorem rD_digs (l : List Nat) (hl : ∀ i, l.getD i 0 < 256) : ∀ (m q : Nat) (ds : List Nat), digs ds → digs (rD l m q ds).2.2 := by
  intro m
  induction m with
  | zero => intro q ds h; exact h
  | succ m ih =>
    intro q ds h
    rw [rD]
    split
    · next e =>
      split
      · exact h
      · obtain ⟨h1, h2, h3⟩ := isD_b e
        exact ih _ _ (digs_s h ⟨h2, h3 (hl q)⟩)
    · exact h
theorem rD_18 (l : List Nat) : ∀ (m q : Nat) (ds : List Nat), ds.length ≤ 18 → (rD l m q ds).2.2.length ≤ 18 := by
  intro m
  induction m with
  | zero => intro q ds h; exact h
  | succ m ih =>
    intro q ds h
    rw [rD]
    repeat' split
    all_goals first | exact h | (exact ih _ _ (by simp only [List.length_append, List.length_cons, List.length_nil]; omega))
theorem rD_q (l : List Nat) : ∀ (m q : Nat) (ds : List Nat), q ≤ (rD l m q ds).2.1 ∧ (rD l m q ds).2.2.length + q = ds.length + (rD l m q ds).2.1 := by
  intro m
  induction m with
  | zero => intro q ds; exact ⟨Nat.le_refl _, rfl⟩
  | succ m ih =>
    intro q ds
    rw [rD]
    repeat' split
    all_goals first | exact ⟨Nat.le_refl _, rfl⟩ | (have := ih (q + 1) (ds ++ [l.getD q 0]); simp only [List.length_append, List.length_cons, List.length_nil] at this; exact ⟨by omega, by omega⟩)
/-- the class's digits are the reference's -/
theorem sD_rD (l : List Nat) (hl : ∀ i, l.getD i 0 < 256) (st mo : Nat) : ∀ (m q : Nat) (ds : List Nat), st ≤ q → ds.length ≤ 18 → ds.length + mo = 18 + (q - st) → sD l st mo m q (lN (ofD ds)) = ((rD l m q ds).1, (rD l m q ds).2.1, lN (ofD (rD l m q ds).2.2)) := by
  intro m
  induction m with
  | zero => intro q ds h1 h2 h3; rfl
  | succ m ih =>
    intro q ds h1 h2 h3
    rw [sD, rD]
    by_cases e : isD (hb l q) = true
    · rw [if_pos e, if_pos e]
      obtain ⟨g1, g2, g3⟩ := isD_b e
      by_cases e18 : ds.length = 18
      · rw [if_pos (by omega), if_pos e18]
      · rw [if_neg (by omega), if_neg e18]
        have hv : lN (ofD ds) * 10 + (hb l q - 48).toInt64 = lN (ofD (ds ++ [l.getD q 0])) := by
          rw [hb_lt g1, dg_l g2 (g3 (hl q)), show (10 : Int64) = lN 10 from rfl, lN_mul, lN_add, ofD_s]
        rw [hv]
        exact ih (q + 1) (ds ++ [l.getD q 0]) (by omega) (by simp only [List.length_append, List.length_cons, List.length_nil]; omega) (by simp only [List.length_append, List.length_cons, List.length_nil]; omega)
    · rw [if_neg e, if_neg e]
/-- a number read: bounded -/
def okN (x : Int32 × Int64 × Nat) : Prop := (∃ r : Nat, r < 10 ^ 18 ∧ (x.2.1 = lN r ∨ x.2.1 = -lN r)) ∧ x.2.2 ≤ 9 ∧ (x.1 = 3 ∨ x.1 = 4 ∨ x.1 = 8)
theorem pow18 {n : Nat} (h : n ≤ 18) : 10 ^ n ≤ 10 ^ 18 := Nat.pow_le_pow_right (by decide) h
theorem sNu1_ok {l : List Nat} (hl : ∀ i, l.getD i 0 < 256) {st : Nat} (hst : st ≤ l.length) (h : (sNu1 l st 0).1 = true) : okN (sNu1 l st 0).2.2 := by
  have e1 := sD_rD l hl st 18 (l.length - st) st [] (Nat.le_refl _) (by decide) (by simp)
  have hd1 := rD_digs l hl (l.length - st) st [] (fun d hd => absurd hd List.not_mem_nil)
  have h181 := rD_18 l (l.length - st) st [] (by decide)
  have hq1 := rD_q l (l.length - st) st []
  rw [show lN (ofD []) = 0 from rfl] at e1
  unfold sNu1 at h ⊢
  dsimp only at h ⊢
  rw [e1] at h ⊢
  generalize rD l (l.length - st) st [] = o at h hd1 h181 hq1 ⊢
  obtain ⟨b, q1, ds⟩ := o
  dsimp only at h hd1 h181 hq1 ⊢
  cases b
  · rw [if_pos rfl] at h; cases h
  · rw [if_neg (by decide)] at h ⊢
    have hlt := Nat.lt_of_lt_of_le (ofD_lt hd1) (pow18 h181)
    by_cases c46 : hb l q1 = 46
    · rw [if_pos c46] at h ⊢
      have hq46 := hb_in (t := l) (q := q1) (by rw [c46]; decide)
      unfold sNu2 at h ⊢
      dsimp only at h ⊢
      simp only [List.length_nil] at hq1
      have e2 := sD_rD l hl (q1 + 1) (18 - (q1 - st)) (l.length - (q1 + 1)) (q1 + 1) ds (Nat.le_refl _) h181 (by omega)
      have hd2 := rD_digs l hl (l.length - (q1 + 1)) (q1 + 1) ds hd1
      have h182 := rD_18 l (l.length - (q1 + 1)) (q1 + 1) ds h181
      rw [e2] at h ⊢
      generalize rD l (l.length - (q1 + 1)) (q1 + 1) ds = o2 at h hd2 h182 ⊢
      obtain ⟨b2, q2, ds2⟩ := o2
      dsimp only at h hd2 h182 ⊢
      cases b2
      · rw [if_pos rfl] at h; cases h
      · rw [if_neg (by decide)] at h ⊢
        by_cases cq : q2 = q1 + 1
        · rw [if_pos cq] at h; cases h
        · rw [if_neg cq] at h ⊢
          by_cases c9 : 9 < (lz (q2 - q1 - 1) (lN (ofD ds2))).2
          · rw [if_pos c9] at h; cases h
          · rw [if_neg c9]
            exact ⟨lz_r _ _ _ (Nat.lt_of_lt_of_le (ofD_lt hd2) (pow18 h182)) (Or.inl rfl), Nat.not_lt.mp c9, Or.inr (Or.inl rfl)⟩
    · rw [if_neg c46] at h ⊢
      by_cases cq : q1 = st
      · rw [if_pos cq] at h; cases h
      · rw [if_neg cq]
        exact ⟨⟨ofD ds, hlt, Or.inl rfl⟩, Nat.zero_le _, Or.inl rfl⟩
theorem sTr_ok {l : List Nat} {k : Nat} {tv : Int32} (htv : tv = 1 ∨ tv = 0) (h : (sTr l k tv).1 = true) : okN (sTr l k tv).2.2 := by
  unfold sTr at h ⊢
  split at h
  · cases h
  · split at h
    · cases h
    · next e1 e2 =>
      rw [if_neg e2]
      refine ⟨?_, Nat.zero_le _, Or.inr (Or.inr rfl)⟩
      rcases htv with rfl | rfl
      · exact ⟨1, by decide, Or.inl (show (1 : Int32).toInt64 = lN 1 by decide)⟩
      · exact ⟨0, by decide, Or.inl (show (0 : Int32).toInt64 = lN 0 by decide)⟩
theorem sgn0_le (l : List Nat) : sgn0 l ≤ l.length := by
  unfold sgn0
  split
  · next e => have := hb_in (t := l) (q := 0) (sgn_ne e); omega
  · exact Nat.zero_le _
theorem sP_ok {l : List Nat} (hl : ∀ i, l.getD i 0 < 256) (h : (sP l).1 = true) : okN (sP l).2.2 := by
  unfold sP at h ⊢
  by_cases c1 : hb l 0 = 116
  · simp only [if_pos c1] at h ⊢; exact sTr_ok (Or.inl rfl) h
  · by_cases c2 : hb l 0 = 102
    · simp only [if_neg c1, if_pos c2] at h ⊢; exact sTr_ok (Or.inr rfl) h
    · simp only [if_neg c1, if_neg c2] at h ⊢
      by_cases c3 : (!(decide (hb l 0 = 43) || decide (hb l 0 = 45)) && !isD (hb l 0) && !decide (hb l 0 = 46)) = true
      · rw [if_pos c3] at h; cases h
      · rw [if_neg c3] at h ⊢
        by_cases c4 : hb l 0 = 45
        · rw [if_pos c4] at h ⊢
          obtain ⟨⟨r, hr, hv⟩, h2, h3⟩ := sNu1_ok hl (sgn0_le l) h
          refine ⟨⟨r, hr, ?_⟩, h2, h3⟩
          rcases hv with e | e
          · exact Or.inr (by show -_ = _; rw [e])
          · exact Or.inl (by show -_ = _; rw [e, Int64.neg_neg])
        · rw [if_neg c4] at h ⊢
          exact sNu1_ok hl (sgn0_le l) h
theorem sI_l (t : List Nat) : ∀ (m q : Nat) (acc : List Nat), acc.length ≤ 64 → (sI t m q acc).2.2.length ≤ 64 := by
  intro m
  induction m with
  | zero => intro q acc h; exact h
  | succ m ih =>
    intro q acc h
    rw [sI]
    repeat' split
    all_goals first | exact h | (exact ih _ _ (by simp only [List.length_append, List.length_cons, List.length_nil]; omega))
theorem sB_l (t : List Nat) : ∀ (m q : Nat) (acc : List Nat), acc.length ≤ 60 → (sB t m q acc).2.2.length ≤ 60 := by
  intro m
  induction m with
  | zero => intro q acc h; exact h
  | succ m ih =>
    intro q acc h
    rw [sB]
    repeat' split
    all_goals first | exact h | (exact ih _ _ (by simp only [List.length_append, List.length_cons, List.length_nil]; omega))
theorem sT_l (t : List Nat) : ∀ (m q run : Nat) (fs : Bool) (acc : List Nat), acc.length ≤ 20 → (sT t m q run fs acc).2.2.length ≤ 20 := by
  intro m
  induction m with
  | zero => intro q run fs acc h; rw [sT]; split <;> exact h
  | succ m ih =>
    intro q run fs acc h
    rw [sT]
    split
    · exact h
    · split
      · exact h
      · next e1 e2 =>
        have h20 : acc.length ≠ 20 := fun e => e2 (by rw [decide_eq_true e]; rfl)
        split
        · exact h
        · exact ih _ _ _ _ (by simp only [List.length_append, List.length_cons, List.length_nil]; omega)
theorem sNa_l (t : List Nat) (q : Nat) : (sNa t q).2.2.length ≤ 60 := by
  unfold sNa
  split
  · exact sNm_l t _ _ _ (by decide)
  · exact Nat.zero_le _
theorem sBk_l (t : List Nat) : (sBk t).2.2.length ≤ 60 := by
  unfold sBk bkF
  split
  · split
    · exact Nat.zero_le _
    · exact sB_l t _ _ _ (by decide)
  · exact Nat.zero_le _
theorem z_ok : ∃ r : Nat, r < 10 ^ 18 ∧ ((0 : Int64) = lN r ∨ (0 : Int64) = -lN r) := ⟨0, by decide, Or.inl rfl⟩
theorem sTx_ok {t : List Nat} (h : (sTx t).1 = true) : (sTx t).2.2.2.1.length ≤ 64 ∧ (sTx t).2.2.2.2.length ≤ 60 ∧ ((sTx t).2.2.1 = 5 ∨ (sTx t).2.2.1 = 6 ∨ (sTx t).2.2.1 = 7) := by
  have h1 := sI_l t t.length 1 [] (by decide)
  unfold sTx at h ⊢
  split at h
  · next e =>
    rw [if_pos e]
    unfold sTx2 at h ⊢
    split at h
    · next e1 => rw [if_pos e1]; exact ⟨h1, Nat.le_trans (sT_l t _ _ _ _ _ (by decide)) (by decide), Or.inr (Or.inl rfl)⟩
    · next e1 =>
      rw [if_neg e1]
      split at h
      · next e2 =>
        rw [if_pos e2]
        split at h
        · next e3 => rw [if_pos e3]; exact ⟨h1, sNa_l t _, Or.inr (Or.inr rfl)⟩
        · cases h
      · next e2 => rw [if_neg e2]; exact ⟨h1, by simp, Or.inl rfl⟩
  · cases h
theorem sA_ok {t : List Nat} (hl : ∀ i, t.getD i 0 < 256) (h : (sA t).1 = true) : okT (sA t).2.2 := by
  unfold sA at h ⊢
  split at h
  · next e =>
    rw [if_pos e]
    obtain ⟨a, b, c⟩ := sTx_ok h
    exact ⟨a, b, z_ok, Nat.zero_le _, by rcases c with c | c | c <;> simp [mp, c]⟩
  · next e =>
    rw [if_neg e]
    split at h
    · next e2 => rw [if_pos e2]; exact ⟨Nat.le_trans (sNa_l t 0) (by decide), Nat.zero_le _, z_ok, Nat.zero_le _, Or.inr (Or.inl rfl)⟩
    · next e2 =>
      rw [if_neg e2]
      split at h
      · next e3 => rw [if_pos e3]; exact ⟨Nat.le_trans (sBk_l t) (by decide), Nat.zero_le _, z_ok, Nat.zero_le _, Or.inl rfl⟩
      · next e3 =>
        rw [if_neg e3]
        obtain ⟨a, b, c⟩ := sP_ok hl h
        exact ⟨Nat.zero_le _, Nat.zero_le _, a, b, by rcases c with c | c | c <;> simp [mp, c]⟩
theorem sSe_ok {b tl : List Nat} {q : Nat} (hl : ∀ i, b.getD i 0 < 256) (hb : b.length ≤ 64) (ht : tl.length ≤ 60) (h : (sSe b tl q).1 = true) : okT (sSe b tl q).2.2 := by
  unfold sSe at h ⊢
  split at h
  · next e => rw [if_pos e]; exact ⟨hb, Nat.zero_le _, z_ok, Nat.zero_le _, by simp⟩
  · next e =>
    rw [if_neg e]
    split at h
    · next e2 => rw [if_pos e2]; exact ⟨hb, ht, z_ok, Nat.zero_le _, by simp⟩
    · next e2 =>
      rw [if_neg e2]
      split at h
      · next e3 =>
        rw [if_pos e3]
        obtain ⟨x1, x2, x3⟩ := sP_ok hl e3.1
        exact ⟨Nat.zero_le _, Nat.zero_le _, x1, x2, by rcases x3 with c | c | c <;> simp [c]⟩
      · cases h
end
section
/-! What is read may be kept. -/
theorem snoc_by {acc : List Nat} {b : Nat} (h : ∀ i, acc.getD i 0 < 256) (hb : b < 256) : ∀ i, (acc ++ [b]).getD i 0 < 256 := by
  intro i
  by_cases q : i < acc.length + 1
  · rw [getD_snoc q]
    split
    · exact h i
    · exact hb
  · rw [gd0 (by simp only [List.length_append, List.length_cons, List.length_nil]; omega)]; decide
theorem nil_by : ∀ i, ([] : List Nat).getD i 0 < 256 := fun i => by simp
theorem sI_by (t : List Nat) (ht : ∀ i, t.getD i 0 < 256) : ∀ (m q : Nat) (acc : List Nat), (∀ i, acc.getD i 0 < 256) → ∀ i, (sI t m q acc).2.2.getD i 0 < 256 := by
  intro m
  induction m with
  | zero => intro q acc h; exact h
  | succ m ih =>
    intro q acc h
    rw [sI]
    repeat' split
    all_goals first | exact h | exact ih _ _ (snoc_by h (ht _)) | exact ih _ _ (snoc_by h (eN_lt _ (ht _)))
theorem sTx_by {t : List Nat} (ht : ∀ i, t.getD i 0 < 256) : ∀ i, (sTx t).2.2.2.1.getD i 0 < 256 := by
  have h1 := sI_by t ht t.length 1 [] nil_by
  unfold sTx sTx2
  repeat' split
  all_goals first | exact h1 | exact nil_by
theorem sA_by {t : List Nat} (ht : ∀ i, t.getD i 0 < 256) (h7 : (sA t).2.2.1 = 7) : ∀ i, (sA t).2.2.2.2.2.1.getD i 0 < 256 := by
  unfold sA at h7 ⊢
  split at h7
  · next e => rw [if_pos e]; exact sTx_by ht
  · next e =>
    rw [if_neg e]
    split at h7
    · exact absurd (show (2 : Int32) = 7 from h7) (by decide)
    · next e2 =>
      rw [if_neg e2]
      split at h7
      · exact absurd (show (1 : Int32) = 7 from h7) (by decide)
      · next e3 => rw [if_neg e3]; exact nil_by
theorem sAll_ok {t : List Nat} (ht : ∀ i, t.getD i 0 < 256) (h : (sAll t).1 = true) : okT (sAll t).2.2 := by
  have h1 : (sAll1 (sA t)).1 = true → okT (sAll1 (sA t)).2.2 := by
    unfold sAll1
    by_cases e : (sA t).1 = true
    · rw [if_pos e]
      have hk := sA_ok ht e
      by_cases e7 : (sA t).2.2.1 = 7
      · rw [if_pos e7]
        exact fun h => sSe_ok (sA_by ht e7) hk.1 hk.2.1 h
      · rw [if_neg e7]; exact fun _ => hk
    · rw [if_neg e]; exact fun h => absurd h e
  unfold sAll sAll2 at h ⊢
  split at h
  · next e =>
    rw [if_pos e]
    split at h
    · cases h
    · next e2 => rw [if_neg e2]; exact h1 e
  · cases h
end
section
/-! The reference's isWordAt. (rows laid by wip/whole/rr9.py) -/
theorem RS.f9 {σ0 σ : Nat → Int32} {τ0 τ : Nat → Nat → Int32} {t d : List Nat} {p k q db j : Nat} (h : RS σ0 τ0 t p d k q db σ τ) (hj : j < d.length) : τ 9 j = nI (d.getD j 0) := h.2.2.2.1.2 j hj
theorem wa_len {E b : List Nat} : nI (E ++ b ++ [62]).length - nI E.length = nI (b.length + 1) := by
  rw [pk_sub (by simp only [List.length_append, List.length_cons, List.length_nil]; omega)]
  congr 1
  simp only [List.length_append, List.length_cons, List.length_nil]
  omega
theorem ap_get {E b : List Nat} {i : Nat} (h : i < b.length) : (E ++ b ++ [62]).getD (E.length + i) 0 = b.getD i 0 := by
  rw [List.append_assoc, List.getD_eq_getElem?_getD, List.getElem?_append_right (by omega), Nat.add_sub_cancel_left, List.getElem?_append_left h, ← List.getD_eq_getElem?_getD]
set_option maxRecDepth 100000 in
set_option maxHeartbeats 2000000 in
theorem rr_wa_f {X : ev_X} {c0 : Nat} (hX : XS X c0) {σ0 : Nat → Int32} {τ0 : Nat → Nat → Int32} {t : List Nat} {k : Nat} (hk : k < 12) {E b : List Nat} {p kd q db : Nat} (hE : E.length + b.length ≤ 240) (hby : ∀ i, b.getD i 0 < 256) {σ : Nat → Int32} {τ : Nat → Nat → Int32} (hS : RS σ0 τ0 t p (E ++ b ++ [62]) kd q db σ τ) (hne : b ≠ wl k) (i : Nat) : Rx X c0 m_Mod_isWordAt 22 [.ref (c0 + 16), .int (nI E.length), .ref (X.2.1 k), .int 0, .int (nI i)] [] σ τ (fun r σ' τ' => r = some (.int (bi (decide (b = wl k)))) ∧ σ' = σ ∧ τ' = τ) := by
  refine Rx.go (fun _ => rfl) ?_
  refine Rx.go (fun _ => rfl) ?_
  refine Rx.strc hX hk rfl rfl rfl rfl (fun h hl => hs_length hX hl hk) ?_
  show Rx X c0 m_Mod_isWordAt 28 [.ref (c0 + 16), .int (nI E.length), .ref (X.2.1 k), .int 0, .int (nI i)] [.int (nI (wlen k)), .int (nI i)] σ τ _
  refine Rx.go (fun _ => rfl) ?_
  refine Rx.ite (fun c1 => ?_) (fun c1 => ?_)
  · replace c1 : (nI (wlen k)) ≤ (nI i) := of_decide_eq_true c1
    show Rx X c0 m_Mod_isWordAt 65 [.ref (c0 + 16), .int (nI E.length), .ref (X.2.1 k), .int 0, .int (nI i)] [] σ τ _
    refine Rx.go (fun _ => rfl) ?_
    show Rx X c0 m_Mod_isWordAt 66 [.ref (c0 + 16), .int (nI E.length), .ref (X.2.1 k), .int 0, .int (nI i)] [.int 0] σ τ _
    exact Rx.ret rfl rfl ⟨ret_0 (decide_eq_false hne), rfl, rfl⟩
  · replace c1 : ¬ (nI (wlen k)) ≤ (nI i) := of_decide_eq_false c1
    show Rx X c0 m_Mod_isWordAt 31 [.ref (c0 + 16), .int (nI E.length), .ref (X.2.1 k), .int 0, .int (nI i)] [] σ τ _
    refine Rx.go (fun _ => rfl) ?_
    refine Rx.go (fun _ => rfl) ?_
    show Rx X c0 m_Mod_isWordAt 65 [.ref (c0 + 16), .int (nI E.length), .ref (X.2.1 k), .int 0, .int (nI i)] [] σ τ _
    refine Rx.go (fun _ => rfl) ?_
    show Rx X c0 m_Mod_isWordAt 66 [.ref (c0 + 16), .int (nI E.length), .ref (X.2.1 k), .int 0, .int (nI i)] [.int 0] σ τ _
    exact Rx.ret rfl rfl ⟨ret_0 (decide_eq_false hne), rfl, rfl⟩
set_option maxRecDepth 100000 in
set_option maxHeartbeats 2000000 in
theorem rr_wa_l {X : ev_X} {c0 : Nat} (hX : XS X c0) {σ0 : Nat → Int32} {τ0 : Nat → Nat → Int32} {t : List Nat} {k : Nat} (hk : k < 12) {E b : List Nat} {p kd q db : Nat} (hE : E.length + b.length ≤ 240) (hby : ∀ i, b.getD i 0 < 256) {σ : Nat → Int32} {τ : Nat → Nat → Int32} (hS : RS σ0 τ0 t p (E ++ b ++ [62]) kd q db σ τ) (hlen : b.length = wlen k) : ∀ (m i : Nat) (hm : i + m = wlen k) (hp1 : ∀ x, x < i → hb b x = nI (wch k x)), Rx X c0 m_Mod_isWordAt 22 [.ref (c0 + 16), .int (nI E.length), .ref (X.2.1 k), .int 1, .int (nI i)] [] σ τ (fun r σ' τ' => r = some (.int (bi (decide (b = wl k)))) ∧ σ' = σ ∧ τ' = τ) := by
  have hw := wlen_all k hk
  intro m
  induction m with
  | zero =>
    intro i hm hp1
    refine Rx.go (fun _ => rfl) ?_
    refine Rx.go (fun _ => rfl) ?_
    refine Rx.strc hX hk rfl rfl rfl rfl (fun h hl => hs_length hX hl hk) ?_
    show Rx X c0 m_Mod_isWordAt 28 [.ref (c0 + 16), .int (nI E.length), .ref (X.2.1 k), .int 1, .int (nI i)] [.int (nI (wlen k)), .int (nI i)] σ τ _
    refine Rx.go (fun _ => rfl) ?_
    refine Rx.ite (fun c1 => ?_) (fun c1 => ?_)
    · replace c1 : (nI (wlen k)) ≤ (nI i) := of_decide_eq_true c1
      show Rx X c0 m_Mod_isWordAt 65 [.ref (c0 + 16), .int (nI E.length), .ref (X.2.1 k), .int 1, .int (nI i)] [] σ τ _
      refine Rx.go (fun _ => rfl) ?_
      show Rx X c0 m_Mod_isWordAt 66 [.ref (c0 + 16), .int (nI E.length), .ref (X.2.1 k), .int 1, .int (nI i)] [.int 1] σ τ _
      exact Rx.ret rfl rfl ⟨ret_1 (decide_eq_true (wl_t hk hby hlen (fun x hx => hp1 x (by omega)))), rfl, rfl⟩
    · replace c1 : ¬ (nI (wlen k)) ≤ (nI i) := of_decide_eq_false c1
      exact absurd (show nI (wlen k) ≤ nI i by rw [show i = wlen k by omega]; exact Int32.le_refl _) c1
  | succ m ih =>
    intro i hm hp1
    refine Rx.go (fun _ => rfl) ?_
    refine Rx.go (fun _ => rfl) ?_
    refine Rx.strc hX hk rfl rfl rfl rfl (fun h hl => hs_length hX hl hk) ?_
    show Rx X c0 m_Mod_isWordAt 28 [.ref (c0 + 16), .int (nI E.length), .ref (X.2.1 k), .int 1, .int (nI i)] [.int (nI (wlen k)), .int (nI i)] σ τ _
    refine Rx.go (fun _ => rfl) ?_
    refine Rx.ite (fun c1 => ?_) (fun c1 => ?_)
    · replace c1 : (nI (wlen k)) ≤ (nI i) := of_decide_eq_true c1
      exact absurd ((nI_leI (by omega) (by omega)).mp c1) (by omega)
    · replace c1 : ¬ (nI (wlen k)) ≤ (nI i) := of_decide_eq_false c1
      show Rx X c0 m_Mod_isWordAt 31 [.ref (c0 + 16), .int (nI E.length), .ref (X.2.1 k), .int 1, .int (nI i)] [] σ τ _
      refine Rx.go (fun _ => rfl) ?_
      refine Rx.go (fun _ => rfl) ?_
      show Rx X c0 m_Mod_isWordAt 35 [.ref (c0 + 16), .int (nI E.length), .ref (X.2.1 k), .int 1, .int (nI i)] [] σ τ _
      refine Rx.go (fun _ => rfl) ?_
      refine Rx.get rfl rfl ?_
      refine Rx.go (fun _ => rfl) ?_
      refine Rx.go (fun _ => rfl) ?_
      refine Rx.go (fun _ => rfl) ?_
      refine Rx.top (y := nI (E.length + i)) (nI_add _ _) ?_
      refine Rx.aldE (v := nI (b.getD i 0)) 9 rfl rfl (nI_ix (show E.length + i < 260 by omega) (by decide)) (by rw [nI_clamp (by omega), hS.f9 (by simp only [List.length_append, List.length_cons, List.length_nil]; omega), ap_get (by omega)]) ?_
      refine Rx.go (fun _ => rfl) ?_
      refine Rx.go (fun _ => rfl) ?_
      refine Rx.strc hX hk rfl rfl rfl rfl (fun h hl => hs_char hX hl hk (j := i) (by omega)) ?_
      show Rx X c0 m_Mod_isWordAt 50 [.ref (c0 + 16), .int (nI E.length), .ref (X.2.1 k), .int 1, .int (nI i)] [.int (nI (wch k i)), .int (nI (b.getD i 0))] σ τ _
      refine Rx.go (fun _ => rfl) ?_
      refine Rx.ite (fun c2 => ?_) (fun c2 => ?_)
      · replace c2 : ¬ (nI (b.getD i 0)) = (nI (wch k i)) := of_decide_eq_true c2
        show Rx X c0 m_Mod_isWordAt 57 [.ref (c0 + 16), .int (nI E.length), .ref (X.2.1 k), .int 1, .int (nI i)] [] σ τ _
        refine Rx.go (fun _ => rfl) ?_
        refine Rx.go (fun _ => rfl) ?_
        show Rx X c0 m_Mod_isWordAt 59 [.ref (c0 + 16), .int (nI E.length), .ref (X.2.1 k), .int 0, .int (nI i)] [] σ τ _
        refine Rx.go (fun _ => rfl) ?_
        show Rx X c0 m_Mod_isWordAt 62 [.ref (c0 + 16), .int (nI E.length), .ref (X.2.1 k), .int 0, .int ((nI i) + 1)] [] σ τ _
        refine Rx.go (fun _ => rfl) ?_
        show Rx X c0 m_Mod_isWordAt 22 [.ref (c0 + 16), .int (nI E.length), .ref (X.2.1 k), .int 0, .int ((nI i) + 1)] [] σ τ _
        rw [show nI i + 1 = nI (i + 1) from nI_1 i]
        exact rr_wa_f hX hk hE hby hS (fun e => c2 (by rw [← hb_lt (show i < b.length by omega)]; exact wl_f e (by omega))) (i + 1)
      · replace c2 : (nI (b.getD i 0)) = (nI (wch k i)) := Classical.not_not.mp (of_decide_eq_false c2)
        show Rx X c0 m_Mod_isWordAt 53 [.ref (c0 + 16), .int (nI E.length), .ref (X.2.1 k), .int 1, .int (nI i)] [] σ τ _
        refine Rx.go (fun _ => rfl) ?_
        refine Rx.go (fun _ => rfl) ?_
        refine Rx.go (fun _ => rfl) ?_
        show Rx X c0 m_Mod_isWordAt 59 [.ref (c0 + 16), .int (nI E.length), .ref (X.2.1 k), .int 1, .int (nI i)] [] σ τ _
        refine Rx.go (fun _ => rfl) ?_
        show Rx X c0 m_Mod_isWordAt 62 [.ref (c0 + 16), .int (nI E.length), .ref (X.2.1 k), .int 1, .int ((nI i) + 1)] [] σ τ _
        refine Rx.go (fun _ => rfl) ?_
        show Rx X c0 m_Mod_isWordAt 22 [.ref (c0 + 16), .int (nI E.length), .ref (X.2.1 k), .int 1, .int ((nI i) + 1)] [] σ τ _
        rw [show nI i + 1 = nI (i + 1) from nI_1 i]
        exact ih (i + 1) (by omega) (fun x hx => by
          by_cases hxi : x < i
          · exact hp1 x hxi
          · rw [show x = i by omega, hb_lt (by omega)]; exact c2)
set_option maxRecDepth 100000 in
set_option maxHeartbeats 2000000 in
theorem rr_wa {X : ev_X} {c0 : Nat} (hX : XS X c0) {σ0 : Nat → Int32} {τ0 : Nat → Nat → Int32} {t : List Nat} {k : Nat} (hk : k < 12) {E b : List Nat} {p kd q db : Nat} (hE : E.length + b.length ≤ 240) (hby : ∀ i, b.getD i 0 < 256) {σ : Nat → Int32} {τ : Nat → Nat → Int32} (hS : RS σ0 τ0 t p (E ++ b ++ [62]) kd q db σ τ) : Rx X c0 m_Mod_isWordAt 0 [.ref (c0 + 16), .int (nI E.length), .ref (X.2.1 k), ev_dead, ev_dead] [] σ τ (fun r σ' τ' => r = some (.int (bi (decide (b = wl k)))) ∧ σ' = σ ∧ τ' = τ) := by
  have hw := wlen_all k hk
  refine Rx.go (fun _ => rfl) ?_
  refine Rx.get rfl rfl ?_
  refine Rx.top (y := nI ((E ++ b ++ [62]).length)) hS.f10 ?_
  refine Rx.go (fun _ => rfl) ?_
  refine Rx.go (fun _ => rfl) ?_
  refine Rx.top (y := nI (b.length + 1)) wa_len ?_
  refine Rx.go (fun _ => rfl) ?_
  refine Rx.strc hX hk rfl rfl rfl rfl (fun h hl => hs_length hX hl hk) ?_
  show Rx X c0 m_Mod_isWordAt 10 [.ref (c0 + 16), .int (nI E.length), .ref (X.2.1 k), ev_dead, ev_dead] [.int (nI (wlen k)), .int (nI (b.length + 1))] σ τ _
  refine Rx.go (fun _ => rfl) ?_
  refine Rx.go (fun _ => rfl) ?_
  refine Rx.top (y := nI (wlen k + 1)) (nI_1 _) ?_
  refine Rx.go (fun _ => rfl) ?_
  refine Rx.ite (fun c1 => ?_) (fun c1 => ?_)
  · replace c1 : (nI (b.length + 1)) = (nI (wlen k + 1)) := of_decide_eq_true c1
    show Rx X c0 m_Mod_isWordAt 17 [.ref (c0 + 16), .int (nI E.length), .ref (X.2.1 k), ev_dead, ev_dead] [] σ τ _
    refine Rx.go (fun _ => rfl) ?_
    refine Rx.go (fun _ => rfl) ?_
    show Rx X c0 m_Mod_isWordAt 19 [.ref (c0 + 16), .int (nI E.length), .ref (X.2.1 k), .int 1, ev_dead] [] σ τ _
    refine Rx.go (fun _ => rfl) ?_
    refine Rx.go (fun _ => rfl) ?_
    show Rx X c0 m_Mod_isWordAt 22 [.ref (c0 + 16), .int (nI E.length), .ref (X.2.1 k), .int 1, .int 0] [] σ τ _
    show Rx X c0 m_Mod_isWordAt 22 [.ref (c0 + 16), .int (nI E.length), .ref (X.2.1 k), .int 1, .int 0] [] σ τ _
    exact rr_wa_l hX hk hE hby hS (by have := (nI_eq (by omega) (by omega)).mp c1; omega) (wlen k) 0 (by omega) (fun x hx => absurd hx (Nat.not_lt_zero x))
  · replace c1 : ¬ (nI (b.length + 1)) = (nI (wlen k + 1)) := of_decide_eq_false c1
    show Rx X c0 m_Mod_isWordAt 15 [.ref (c0 + 16), .int (nI E.length), .ref (X.2.1 k), ev_dead, ev_dead] [] σ τ _
    refine Rx.go (fun _ => rfl) ?_
    show Rx X c0 m_Mod_isWordAt 16 [.ref (c0 + 16), .int (nI E.length), .ref (X.2.1 k), ev_dead, ev_dead] [.int 0] σ τ _
    exact Rx.ret rfl rfl ⟨ret_0 (decide_eq_false (fun e => c1 (by rw [e, wl_len]))), rfl, rfl⟩
end
section
/-! number of the reference over any table. (rows laid by wip/whole/rx14.py) -/
/-- what makeDraft answers for the draft d of kind dk, quote q, db bytes; the state behind it -/
def mdP (ts : RT) (dk : Nat) (d : List Nat) (q u db : Nat) (σ : Nat → Int32) (τ : Nat → Nat → Int32) (r : Option Value) (σ' : Nat → Int32) (τ' : Nat → Nat → Int32) : Prop := (∃ j : Nat, 0 < j ∧ fdP ts dk d j ∧ r = some (.int (nI j)) ∧ σ' = σ ∧ τ' = τ) ∨ (fdP ts dk d 0 ∧ (ts.length = 2000 ∨ 40000 < u + db) ∧ r = some (.int (-3)) ∧ σ' = σ ∧ τ' = τ) ∨ (fdP ts dk d 0 ∧ ts.length < 2000 ∧ u + db ≤ 40000 ∧ r = some (.int (nI (ts.length + 1))) ∧ σ' = upd (upd σ 7 (nI (ts.length + 1))) 8 (nI (u + db)) ∧ rt σ' τ' (ts ++ [(dk, d, q)]) ∧ ∀ kk, kk ≠ 3 → kk ≠ 4 → kk ≠ 5 → kk ≠ 6 → τ' kk = τ kk)
theorem mdP_ret {X : ev_X} {c0 M pc nx a b w : Nat} {A : List Value} {ts : RT} {dk q u db : Nat} {d : List Nat} {σ σ1 : Nat → Int32} {τ τ1 : Nat → Nat → Int32} {v : Option Value} {Q : Option Value → (Nat → Int32) → (Nat → Nat → Int32) → Prop} (op : pg_ops M pc = some (.ireturn, nx, a, b, w)) (hr : pg_r M = some .int) (hq : mdP ts dk d q u db σ τ v σ1 τ1) (hQ : mdP ts dk d q u db σ τ v σ1 τ1 → Q v σ1 τ1) : Rx X c0 M pc A (v.toList ++ []) σ1 τ1 Q := by
  have hv : ∃ i : Int32, v = some (.int i) := by
    rcases hq with ⟨_, _, _, e, _⟩ | ⟨_, _, e, _⟩ | ⟨_, _, _, e, _⟩ <;> exact ⟨_, e⟩
  obtain ⟨i, rfl⟩ := hv
  exact Rx.ret op (ev_reti hr) (hQ hq)
/-- number's end: the draft out of the 18 digits of r, and what makeDraft answers for it -/
def nbP (ts : RT) (u : Nat) (bel : Bool) (dec : Bool) (W r : Nat) (σ : Nat → Int32) (τ : Nat → Nat → Int32) (v : Option Value) (σ' : Nat → Int32) (τ' : Nat → Nat → Int32) : Prop := ∃ L g σ1 τ1, trail (dgl 18 r) W L ∧ lead (dgl 18 r) W g ∧ L - W ≤ 9 ∧ (∀ k, k ≠ 10 → k ≠ 11 → k ≠ 12 → k ≠ 13 → k ≠ 18 → k ≠ 22 → k ≠ 23 → σ1 k = σ k) ∧ σ1 18 = 0 ∧ σ1 10 = nI (wN bel dec (dgl 18 r) g W L).length ∧ (wN bel dec (dgl 18 r) g W L).length ≤ 250 ∧ (∀ k, k ≠ 9 → k ≠ 21 → τ1 k = τ k) ∧ mdP ts (if dec = true then 4 else 3) (wN bel dec (dgl 18 r) g W L) 0 u 0 σ1 τ1 v σ' τ'
theorem wN_len {bel dec : Bool} {ds : List Nat} {g W L : Nat} (h18 : ds.length ≤ 18) : (wN bel dec ds g W L).length ≤ 60 := by
  unfold wN wS wZ wD
  have h1 : ((ds.drop g).take (W - g)).length ≤ 18 := by rw [List.length_take, List.length_drop]; omega
  have h2 : ((ds.drop W).take (L - W)).length ≤ 18 := by rw [List.length_take, List.length_drop]; omega
  repeat' split
  all_goals (simp only [List.length_append, List.length_cons, List.length_nil]; omega)
set_option maxRecDepth 100000 in
set_option maxHeartbeats 1000000 in
theorem nb_tw (X : ev_X) (c0 : Nat) (v rs : Int64) {r u : Nat} {ts : RT} {σ : Nat → Int32} {τ : Nat → Nat → Int32} (hn : nd τ (dgl 18 r)) (h22 : σ 22 = nI 18) (hR : rt σ τ ts) (h8 : σ 8 = nI u) (hu : u ≤ 40000) (hroom : off ts ts.length + 260 ≤ 132000) : Rx X c0 m_Mod_number 85 [.ref (c0 + 16), .long v, ev_dead, .int (-1), .long rs, ev_dead, .int (-1)] [] σ τ (nbP ts u (decide (v < 0)) false 18 r σ τ) := by
  refine Rx.go (fun _ => rfl) ?_
  refine Rx.go (fun _ => rfl) ?_
  refine Rx.go (fun _ => rfl) ?_
  show Rx X c0 m_Mod_number 90 [.ref (c0 + 16), .long v, ev_dead, .int (-1), .long rs, ev_dead, .int (-1)] [.ref (c0 + 16)] σ τ _
  refine Rx.go (fun _ => rfl) ?_
  refine Rx.go (fun _ => rfl) ?_
  refine Rx.put rfl (by decide) rfl rfl ?_
  refine Rx.go (fun _ => rfl) ?_
  refine Rx.go (fun _ => rfl) ?_
  refine Rx.put rfl (by decide) rfl rfl ?_
  refine Rx.go (fun _ => rfl) ?_
  refine Rx.go (fun _ => rfl) ?_
  refine Rx.go (fun _ => rfl) ?_
  refine Rx.go (fun _ => rfl) ?_
  refine Rx.go (fun _ => rfl) ?_
  refine Rx.ite (fun c1 => ?_) (fun c1 => ?_)
  · replace c1 : 0 ≤ (lg_cmp v 0) := of_decide_eq_true c1
    show Rx X c0 m_Mod_number 117 [.ref (c0 + 16), .long v, ev_dead, .int (-1), .long rs, ev_dead, .int (-1)] [.ref (c0 + 16)] (upd (upd σ 23 (-1)) 18 0) τ _
    refine Rx.go (fun _ => rfl) ?_
    refine Rx.go (fun _ => rfl) ?_
    refine Rx.callP rfl rfl rfl rfl (rx_wn_w X c0 hn false 0 (by rw [dgl_len]; exact h22) rfl) ?_
    intro σ1 τ1 hp1
    rw [dgl_len] at hp1
    obtain ⟨L, ht, hq⟩ := hp1
    have htl1 := ht.1
    have htl2 := ht.2.1
    rw [dgl_len] at htl2
    rcases hq with ⟨e9, g, hg, hWS⟩ | ⟨e9, -, -⟩
    rotate_left
    · exfalso; omega
    show Rx X c0 m_Mod_number 122 [.ref (c0 + 16), .long v, ev_dead, .int (-1), .long rs, ev_dead, .int (-1)] [] σ1 τ1 _
    refine Rx.go (fun _ => rfl) ?_
    have hw := hWS.1
    have hv := hWS.2.1
    have hln := wN_len (bel := false) (dec := false) (g := g) (W := 18) (L := L) (ds := dgl 18 r) (by rw [dgl_len]; decide)
    refine Rx.call rfl rfl rfl rfl (rx_makeDraft X c0 σ1 τ1 (rt_same hR (hw 7 (by decide)) (hv 3 (by decide)) (hv 4 (by decide)) (hv 5 (by decide)) (hv 6 (by decide))) hWS.2.2 (dk := 3) (hw 11 (by decide)) (by decide) (q := 0) (hw 12 (by decide)) (by decide) (u := u) ((hw 8 (by decide)).trans h8) hu (db := 0) (hw 13 (by decide)) (by decide) (by omega)) ?_
    intro z σ2 τ2 hm
    refine mdP_ret rfl rfl hm (fun hm => ?_)
    rw [show (decide (v < 0)) = false by simp [← Int64.not_le, ← lgc_ge, c1]]
    refine ⟨L, g, σ1, τ1, ht, hg, e9, fun k k1 k2 k3 k4 k5 k6 k7 => ?_, hw 18 (by decide), hWS.2.2.1, by omega, fun k k1 k2 => hv k k1, hm⟩
    rw [hw k k1]
    simp only [rbg, pk_un k1, pk_un k2, pk_un k3, pk_un k4, pk_un k5, pk_un k7]
  · replace c1 : ¬ 0 ≤ (lg_cmp v 0) := of_decide_eq_false c1
    show Rx X c0 m_Mod_number 113 [.ref (c0 + 16), .long v, ev_dead, .int (-1), .long rs, ev_dead, .int (-1)] [.ref (c0 + 16)] (upd (upd σ 23 (-1)) 18 0) τ _
    refine Rx.go (fun _ => rfl) ?_
    refine Rx.go (fun _ => rfl) ?_
    refine Rx.go (fun _ => rfl) ?_
    refine Rx.callP rfl rfl rfl rfl (rx_wn_w X c0 hn true 0 (by rw [dgl_len]; exact h22) rfl) ?_
    intro σ1 τ1 hp1
    rw [dgl_len] at hp1
    obtain ⟨L, ht, hq⟩ := hp1
    have htl1 := ht.1
    have htl2 := ht.2.1
    rw [dgl_len] at htl2
    rcases hq with ⟨e9, g, hg, hWS⟩ | ⟨e9, -, -⟩
    rotate_left
    · exfalso; omega
    show Rx X c0 m_Mod_number 122 [.ref (c0 + 16), .long v, ev_dead, .int (-1), .long rs, ev_dead, .int (-1)] [] σ1 τ1 _
    refine Rx.go (fun _ => rfl) ?_
    have hw := hWS.1
    have hv := hWS.2.1
    have hln := wN_len (bel := true) (dec := false) (g := g) (W := 18) (L := L) (ds := dgl 18 r) (by rw [dgl_len]; decide)
    refine Rx.call rfl rfl rfl rfl (rx_makeDraft X c0 σ1 τ1 (rt_same hR (hw 7 (by decide)) (hv 3 (by decide)) (hv 4 (by decide)) (hv 5 (by decide)) (hv 6 (by decide))) hWS.2.2 (dk := 3) (hw 11 (by decide)) (by decide) (q := 0) (hw 12 (by decide)) (by decide) (u := u) ((hw 8 (by decide)).trans h8) hu (db := 0) (hw 13 (by decide)) (by decide) (by omega)) ?_
    intro z σ2 τ2 hm
    refine mdP_ret rfl rfl hm (fun hm => ?_)
    rw [show (decide (v < 0)) = true by simp [← Int64.not_le, ← lgc_ge, c1]]
    refine ⟨L, g, σ1, τ1, ht, hg, e9, fun k k1 k2 k3 k4 k5 k6 k7 => ?_, hw 18 (by decide), hWS.2.2.1, by omega, fun k k1 k2 => hv k k1, hm⟩
    rw [hw k k1]
    simp only [rbg, pk_un k1, pk_un k2, pk_un k3, pk_un k4, pk_un k5, pk_un k7]
set_option maxRecDepth 100000 in
set_option maxHeartbeats 1000000 in
theorem nb_td (X : ev_X) (c0 : Nat) (v rs : Int64) {p : Nat} (hp9 : p ≤ 9) {r u : Nat} {ts : RT} {σ : Nat → Int32} {τ : Nat → Nat → Int32} (hn : nd τ (dgl 18 r)) (h22 : σ 22 = nI 18) (hR : rt σ τ ts) (h8 : σ 8 = nI u) (hu : u ≤ 40000) (hroom : off ts ts.length + 260 ≤ 132000) : Rx X c0 m_Mod_number 85 [.ref (c0 + 16), .long v, ev_dead, .int (nI p), .long rs, ev_dead, .int (-1)] [] σ τ (nbP ts u (decide (v < 0)) true (18 - p) r σ τ) := by
  refine Rx.go (fun _ => rfl) ?_
  refine Rx.go (fun _ => rfl) ?_
  refine Rx.go (fun _ => rfl) ?_
  refine Rx.ite (fun c1 => ?_) (fun c1 => ?_)
  · replace c1 : 0 ≤ (nI p) := of_decide_eq_true c1
    show Rx X c0 m_Mod_number 94 [.ref (c0 + 16), .long v, ev_dead, .int (nI p), .long rs, ev_dead, .int (-1)] [.ref (c0 + 16)] σ τ _
    refine Rx.go (fun _ => rfl) ?_
    refine Rx.go (fun _ => rfl) ?_
    refine Rx.go (fun _ => rfl) ?_
    refine Rx.top (y := nI (18 - p)) (pk_sub (a := 18) (by omega)) ?_
    refine Rx.put rfl (by decide) rfl rfl ?_
    refine Rx.go (fun _ => rfl) ?_
    refine Rx.go (fun _ => rfl) ?_
    refine Rx.put rfl (by decide) rfl rfl ?_
    refine Rx.go (fun _ => rfl) ?_
    refine Rx.go (fun _ => rfl) ?_
    refine Rx.go (fun _ => rfl) ?_
    refine Rx.go (fun _ => rfl) ?_
    refine Rx.go (fun _ => rfl) ?_
    refine Rx.ite (fun c2 => ?_) (fun c2 => ?_)
    · replace c2 : 0 ≤ (lg_cmp v 0) := of_decide_eq_true c2
      show Rx X c0 m_Mod_number 117 [.ref (c0 + 16), .long v, ev_dead, .int (nI p), .long rs, ev_dead, .int (-1)] [.ref (c0 + 16)] (upd (upd σ 23 (nI (18 - p))) 18 0) τ _
      refine Rx.go (fun _ => rfl) ?_
      refine Rx.go (fun _ => rfl) ?_
      refine Rx.callP rfl rfl rfl rfl (rx_wn_d X c0 hn false 0 (by rw [dgl_len]; exact h22) (W := 18 - p) (by rw [dgl_len]; omega) rfl) ?_
      intro σ1 τ1 hp1
      obtain ⟨L, ht, hq⟩ := hp1
      have htl1 := ht.1
      have htl2 := ht.2.1
      rw [dgl_len] at htl2
      rcases hq with ⟨e9, g, hg, hWS⟩ | ⟨e9, -, -⟩
      rotate_left
      · exfalso; omega
      show Rx X c0 m_Mod_number 122 [.ref (c0 + 16), .long v, ev_dead, .int (nI p), .long rs, ev_dead, .int (-1)] [] σ1 τ1 _
      refine Rx.go (fun _ => rfl) ?_
      have hw := hWS.1
      have hv := hWS.2.1
      have hln := wN_len (bel := false) (dec := true) (g := g) (W := (18 - p)) (L := L) (ds := dgl 18 r) (by rw [dgl_len]; decide)
      refine Rx.call rfl rfl rfl rfl (rx_makeDraft X c0 σ1 τ1 (rt_same hR (hw 7 (by decide)) (hv 3 (by decide)) (hv 4 (by decide)) (hv 5 (by decide)) (hv 6 (by decide))) hWS.2.2 (dk := 4) (hw 11 (by decide)) (by decide) (q := 0) (hw 12 (by decide)) (by decide) (u := u) ((hw 8 (by decide)).trans h8) hu (db := 0) (hw 13 (by decide)) (by decide) (by omega)) ?_
      intro z σ2 τ2 hm
      refine mdP_ret rfl rfl hm (fun hm => ?_)
      rw [show (decide (v < 0)) = false by simp [← Int64.not_le, ← lgc_ge, c2]]
      refine ⟨L, g, σ1, τ1, ht, hg, e9, fun k k1 k2 k3 k4 k5 k6 k7 => ?_, hw 18 (by decide), hWS.2.2.1, by omega, fun k k1 k2 => hv k k1, hm⟩
      rw [hw k k1]
      simp only [rbg, pk_un k1, pk_un k2, pk_un k3, pk_un k4, pk_un k5, pk_un k7]
    · replace c2 : ¬ 0 ≤ (lg_cmp v 0) := of_decide_eq_false c2
      show Rx X c0 m_Mod_number 113 [.ref (c0 + 16), .long v, ev_dead, .int (nI p), .long rs, ev_dead, .int (-1)] [.ref (c0 + 16)] (upd (upd σ 23 (nI (18 - p))) 18 0) τ _
      refine Rx.go (fun _ => rfl) ?_
      refine Rx.go (fun _ => rfl) ?_
      refine Rx.go (fun _ => rfl) ?_
      refine Rx.callP rfl rfl rfl rfl (rx_wn_d X c0 hn true 0 (by rw [dgl_len]; exact h22) (W := 18 - p) (by rw [dgl_len]; omega) rfl) ?_
      intro σ1 τ1 hp1
      obtain ⟨L, ht, hq⟩ := hp1
      have htl1 := ht.1
      have htl2 := ht.2.1
      rw [dgl_len] at htl2
      rcases hq with ⟨e9, g, hg, hWS⟩ | ⟨e9, -, -⟩
      rotate_left
      · exfalso; omega
      show Rx X c0 m_Mod_number 122 [.ref (c0 + 16), .long v, ev_dead, .int (nI p), .long rs, ev_dead, .int (-1)] [] σ1 τ1 _
      refine Rx.go (fun _ => rfl) ?_
      have hw := hWS.1
      have hv := hWS.2.1
      have hln := wN_len (bel := true) (dec := true) (g := g) (W := (18 - p)) (L := L) (ds := dgl 18 r) (by rw [dgl_len]; decide)
      refine Rx.call rfl rfl rfl rfl (rx_makeDraft X c0 σ1 τ1 (rt_same hR (hw 7 (by decide)) (hv 3 (by decide)) (hv 4 (by decide)) (hv 5 (by decide)) (hv 6 (by decide))) hWS.2.2 (dk := 4) (hw 11 (by decide)) (by decide) (q := 0) (hw 12 (by decide)) (by decide) (u := u) ((hw 8 (by decide)).trans h8) hu (db := 0) (hw 13 (by decide)) (by decide) (by omega)) ?_
      intro z σ2 τ2 hm
      refine mdP_ret rfl rfl hm (fun hm => ?_)
      rw [show (decide (v < 0)) = true by simp [← Int64.not_le, ← lgc_ge, c2]]
      refine ⟨L, g, σ1, τ1, ht, hg, e9, fun k k1 k2 k3 k4 k5 k6 k7 => ?_, hw 18 (by decide), hWS.2.2.1, by omega, fun k k1 k2 => hv k k1, hm⟩
      rw [hw k k1]
      simp only [rbg, pk_un k1, pk_un k2, pk_un k3, pk_un k4, pk_un k5, pk_un k7]
  · replace c1 : ¬ 0 ≤ (nI p) := of_decide_eq_false c1
    exact absurd (nI_pos' (by omega)) c1
end
section
/-! number, whole, decimal of the reference over any table. (rows laid by wip/whole/rx15.py) -/
theorem nbP.up {ts : RT} {u W r : Nat} {bel dec : Bool} {σ : Nat → Int32} {τ : Nat → Nat → Int32} {v : Option Value} {σ2 : Nat → Int32} {τ2 : Nat → Nat → Int32} {x : Int32} {f : Nat → Int32} (h : nbP ts u bel dec W r (upd σ 22 x) (va_up τ 21 f) v σ2 τ2) : nbP ts u bel dec W r σ τ v σ2 τ2 := by
  obtain ⟨L, g, σ1, τ1, h1, h2, h3, h4, h5, h6, h7, h8, h9⟩ := h
  exact ⟨L, g, σ1, τ1, h1, h2, h3, fun k k1 k2 k3 k4 k5 k6 k7 => by rw [h4 k k1 k2 k3 k4 k5 k6 k7, pk_un k6], h5, h6, h7, fun k k1 k2 => by rw [h8 k k1 k2, va_up_ne _ _ k2], h9⟩
/-- number's answer -/
def nmP (ts : RT) (u : Nat) (v : Int64) (dec : Bool) (W : Nat) (σ : Nat → Int32) (τ : Nat → Nat → Int32) (r : Option Value) (σ' : Nat → Int32) (τ' : Nat → Nat → Int32) : Prop := if few v = true then (∃ a : Nat, a < 10 ^ 18 ∧ (v = lN a ∨ v = -lN a) ∧ nbP ts u (decide (v < 0)) dec W a σ τ r σ' τ') else (r = some (.int (-1)) ∧ σ' = σ ∧ τ' = τ)
theorem nmP_i {ts : RT} {u W : Nat} {v : Int64} {dec : Bool} {σ σ' : Nat → Int32} {τ τ' : Nat → Nat → Int32} {r : Option Value} (h : nmP ts u v dec W σ τ r σ' τ') : ∃ i : Int32, r = some (.int i) := by
  unfold nmP at h
  split at h
  · obtain ⟨a, -, -, L, g, σ1, τ1, -, -, -, -, -, -, -, -, hq⟩ := h
    rcases hq with ⟨_, _, _, e, _⟩ | ⟨_, _, e, _⟩ | ⟨_, _, _, e, _⟩ <;> exact ⟨_, e⟩
  · exact ⟨_, h.1⟩
set_option maxRecDepth 100000 in
set_option maxHeartbeats 1000000 in
theorem rx_number_w (X : ev_X) (c0 : Nat) (v : Int64) {u : Nat} {ts : RT} {σ : Nat → Int32} {τ : Nat → Nat → Int32} (hR : rt σ τ ts) (h8 : σ 8 = nI u) (hu : u ≤ 40000) (hroom : off ts ts.length + 260 ≤ 132000) : Rx X c0 m_Mod_number 0 [.ref (c0 + 16), .long v, ev_dead, .int (-1), ev_dead, ev_dead, ev_dead] [] σ τ (nmP ts u v false 18 σ τ) := by
  refine Rx.go (fun _ => rfl) ?_
  refine Rx.go (fun _ => rfl) ?_
  refine Rx.go (fun _ => rfl) ?_
  refine Rx.go (fun _ => rfl) ?_
  refine Rx.ite (fun c1 => ?_) (fun c1 => ?_)
  · replace c1 : 0 ≤ (lg_cmp v 0) := of_decide_eq_true c1
    show Rx X c0 m_Mod_number 11 [.ref (c0 + 16), .long v, ev_dead, .int (-1), ev_dead, ev_dead, ev_dead] [] σ τ _
    refine Rx.go (fun _ => rfl) ?_
    refine Rx.go (fun _ => rfl) ?_
    show Rx X c0 m_Mod_number 14 [.ref (c0 + 16), .long v, ev_dead, .int (-1), .long v, ev_dead, ev_dead] [] σ τ _
    refine Rx.go (fun _ => rfl) ?_
    refine Rx.go (fun _ => rfl) ?_
    refine Rx.go (fun _ => rfl) ?_
    refine Rx.go (fun _ => rfl) ?_
    refine Rx.ite (fun c2 => ?_) (fun c2 => ?_)
    · replace c2 : 0 < (lg_cmp v 999999999999999999) := of_decide_eq_true c2
      show Rx X c0 m_Mod_number 36 [.ref (c0 + 16), .long v, ev_dead, .int (-1), .long v, ev_dead, ev_dead] [] σ τ _
      refine Rx.go (fun _ => rfl) ?_
      show Rx X c0 m_Mod_number 37 [.ref (c0 + 16), .long v, ev_dead, .int (-1), .long v, ev_dead, ev_dead] [.int (-1)] σ τ _
      exact Rx.ret rfl (ev_reti rfl) (by unfold nmP; rw [num_posB c1 c2, if_neg Bool.false_ne_true]; exact ⟨rfl, rfl, rfl⟩)
    · replace c2 : ¬ 0 < (lg_cmp v 999999999999999999) := of_decide_eq_false c2
      show Rx X c0 m_Mod_number 23 [.ref (c0 + 16), .long v, ev_dead, .int (-1), .long v, ev_dead, ev_dead] [] σ τ _
      refine Rx.go (fun _ => rfl) ?_
      refine Rx.go (fun _ => rfl) ?_
      refine Rx.go (fun _ => rfl) ?_
      refine Rx.go (fun _ => rfl) ?_
      refine Rx.ite (fun c3 => ?_) (fun c3 => ?_)
      · replace c3 : 0 ≤ (lg_cmp v 0) := of_decide_eq_true c3
        show Rx X c0 m_Mod_number 38 [.ref (c0 + 16), .long v, ev_dead, .int (-1), .long v, ev_dead, ev_dead] [] σ τ _
        refine Rx.go (fun _ => rfl) ?_
        refine Rx.go (fun _ => rfl) ?_
        refine Rx.put rfl (by decide) rfl rfl ?_
        refine Rx.go (fun _ => rfl) ?_
        refine Rx.go (fun _ => rfl) ?_
        show Rx X c0 m_Mod_number 48 [.ref (c0 + 16), .long v, ev_dead, .int (-1), .long v, ev_dead, .int 17] [] (upd σ 22 18) τ _
        show Rx X c0 m_Mod_number 48 [.ref (c0 + 16), .long v, ev_dead, .int (-1), .long v, ev_dead, .int 17] [] (upd σ 22 18) τ _
        obtain ⟨hf, r, hr, e⟩ := num_pos c1 c2
        refine (nm_l' e X c0 v (-1) _ _ 18 τ (by omega) (by decide) (nb_tw X c0 v _ (σ := upd σ 22 18) (dg_nd τ r) rfl (rt_same hR rfl rfl rfl rfl rfl) h8 hu hroom)).mono ?_
        intro z σ2 τ2 hq
        unfold nmP
        rw [if_pos hf]
        exact ⟨r, hr, Or.inl e, hq.up⟩
      · replace c3 : ¬ 0 ≤ (lg_cmp v 0) := of_decide_eq_false c3
        exact absurd c1 c3
  · replace c1 : ¬ 0 ≤ (lg_cmp v 0) := of_decide_eq_false c1
    show Rx X c0 m_Mod_number 6 [.ref (c0 + 16), .long v, ev_dead, .int (-1), ev_dead, ev_dead, ev_dead] [] σ τ _
    refine Rx.go (fun _ => rfl) ?_
    refine Rx.go (fun _ => rfl) ?_
    refine Rx.go (fun _ => rfl) ?_
    refine Rx.go (fun _ => rfl) ?_
    show Rx X c0 m_Mod_number 14 [.ref (c0 + 16), .long v, ev_dead, .int (-1), .long (-v), ev_dead, ev_dead] [] σ τ _
    refine Rx.go (fun _ => rfl) ?_
    refine Rx.go (fun _ => rfl) ?_
    refine Rx.go (fun _ => rfl) ?_
    refine Rx.go (fun _ => rfl) ?_
    refine Rx.ite (fun c4 => ?_) (fun c4 => ?_)
    · replace c4 : 0 < (lg_cmp (-v) 999999999999999999) := of_decide_eq_true c4
      show Rx X c0 m_Mod_number 36 [.ref (c0 + 16), .long v, ev_dead, .int (-1), .long (-v), ev_dead, ev_dead] [] σ τ _
      refine Rx.go (fun _ => rfl) ?_
      show Rx X c0 m_Mod_number 37 [.ref (c0 + 16), .long v, ev_dead, .int (-1), .long (-v), ev_dead, ev_dead] [.int (-1)] σ τ _
      exact Rx.ret rfl (ev_reti rfl) (by unfold nmP; rw [num_negB c1 c4, if_neg Bool.false_ne_true]; exact ⟨rfl, rfl, rfl⟩)
    · replace c4 : ¬ 0 < (lg_cmp (-v) 999999999999999999) := of_decide_eq_false c4
      show Rx X c0 m_Mod_number 23 [.ref (c0 + 16), .long v, ev_dead, .int (-1), .long (-v), ev_dead, ev_dead] [] σ τ _
      refine Rx.go (fun _ => rfl) ?_
      refine Rx.go (fun _ => rfl) ?_
      refine Rx.go (fun _ => rfl) ?_
      refine Rx.go (fun _ => rfl) ?_
      refine Rx.ite (fun c5 => ?_) (fun c5 => ?_)
      · replace c5 : 0 ≤ (lg_cmp v 0) := of_decide_eq_true c5
        exact absurd c5 c1
      · replace c5 : ¬ 0 ≤ (lg_cmp v 0) := of_decide_eq_false c5
        show Rx X c0 m_Mod_number 29 [.ref (c0 + 16), .long v, ev_dead, .int (-1), .long (-v), ev_dead, ev_dead] [] σ τ _
        refine Rx.go (fun _ => rfl) ?_
        refine Rx.go (fun _ => rfl) ?_
        refine Rx.go (fun _ => rfl) ?_
        refine Rx.go (fun _ => rfl) ?_
        refine Rx.ite (fun c6 => ?_) (fun c6 => ?_)
        · replace c6 : 0 ≤ (lg_cmp (-v) 0) := of_decide_eq_true c6
          show Rx X c0 m_Mod_number 38 [.ref (c0 + 16), .long v, ev_dead, .int (-1), .long (-v), ev_dead, ev_dead] [] σ τ _
          refine Rx.go (fun _ => rfl) ?_
          refine Rx.go (fun _ => rfl) ?_
          refine Rx.put rfl (by decide) rfl rfl ?_
          refine Rx.go (fun _ => rfl) ?_
          refine Rx.go (fun _ => rfl) ?_
          show Rx X c0 m_Mod_number 48 [.ref (c0 + 16), .long v, ev_dead, .int (-1), .long (-v), ev_dead, .int 17] [] (upd σ 22 18) τ _
          show Rx X c0 m_Mod_number 48 [.ref (c0 + 16), .long v, ev_dead, .int (-1), .long (-v), ev_dead, .int 17] [] (upd σ 22 18) τ _
          obtain ⟨hf, r, hr, e⟩ := num_neg c1 c4 c6
          refine (nm_l' e X c0 v (-1) _ _ 18 τ (by omega) (by decide) (nb_tw X c0 v _ (σ := upd σ 22 18) (dg_nd τ r) rfl (rt_same hR rfl rfl rfl rfl rfl) h8 hu hroom)).mono ?_
          intro z σ2 τ2 hq
          unfold nmP
          rw [if_pos hf]
          exact ⟨r, hr, Or.inr (by rw [← e, Int64.neg_neg]), hq.up⟩
        · replace c6 : ¬ 0 ≤ (lg_cmp (-v) 0) := of_decide_eq_false c6
          show Rx X c0 m_Mod_number 36 [.ref (c0 + 16), .long v, ev_dead, .int (-1), .long (-v), ev_dead, ev_dead] [] σ τ _
          refine Rx.go (fun _ => rfl) ?_
          show Rx X c0 m_Mod_number 37 [.ref (c0 + 16), .long v, ev_dead, .int (-1), .long (-v), ev_dead, ev_dead] [.int (-1)] σ τ _
          exact Rx.ret rfl (ev_reti rfl) (by unfold nmP; rw [num_negC c1 c6, if_neg Bool.false_ne_true]; exact ⟨rfl, rfl, rfl⟩)
set_option maxRecDepth 100000 in
set_option maxHeartbeats 1000000 in
theorem rx_number_d (X : ev_X) (c0 : Nat) (v : Int64) {p : Nat} (hp9 : p ≤ 9) {u : Nat} {ts : RT} {σ : Nat → Int32} {τ : Nat → Nat → Int32} (hR : rt σ τ ts) (h8 : σ 8 = nI u) (hu : u ≤ 40000) (hroom : off ts ts.length + 260 ≤ 132000) : Rx X c0 m_Mod_number 0 [.ref (c0 + 16), .long v, ev_dead, .int (nI p), ev_dead, ev_dead, ev_dead] [] σ τ (nmP ts u v true (18 - p) σ τ) := by
  refine Rx.go (fun _ => rfl) ?_
  refine Rx.go (fun _ => rfl) ?_
  refine Rx.go (fun _ => rfl) ?_
  refine Rx.go (fun _ => rfl) ?_
  refine Rx.ite (fun c1 => ?_) (fun c1 => ?_)
  · replace c1 : 0 ≤ (lg_cmp v 0) := of_decide_eq_true c1
    show Rx X c0 m_Mod_number 11 [.ref (c0 + 16), .long v, ev_dead, .int (nI p), ev_dead, ev_dead, ev_dead] [] σ τ _
    refine Rx.go (fun _ => rfl) ?_
    refine Rx.go (fun _ => rfl) ?_
    show Rx X c0 m_Mod_number 14 [.ref (c0 + 16), .long v, ev_dead, .int (nI p), .long v, ev_dead, ev_dead] [] σ τ _
    refine Rx.go (fun _ => rfl) ?_
    refine Rx.go (fun _ => rfl) ?_
    refine Rx.go (fun _ => rfl) ?_
    refine Rx.go (fun _ => rfl) ?_
    refine Rx.ite (fun c2 => ?_) (fun c2 => ?_)
    · replace c2 : 0 < (lg_cmp v 999999999999999999) := of_decide_eq_true c2
      show Rx X c0 m_Mod_number 36 [.ref (c0 + 16), .long v, ev_dead, .int (nI p), .long v, ev_dead, ev_dead] [] σ τ _
      refine Rx.go (fun _ => rfl) ?_
      show Rx X c0 m_Mod_number 37 [.ref (c0 + 16), .long v, ev_dead, .int (nI p), .long v, ev_dead, ev_dead] [.int (-1)] σ τ _
      exact Rx.ret rfl (ev_reti rfl) (by unfold nmP; rw [num_posB c1 c2, if_neg Bool.false_ne_true]; exact ⟨rfl, rfl, rfl⟩)
    · replace c2 : ¬ 0 < (lg_cmp v 999999999999999999) := of_decide_eq_false c2
      show Rx X c0 m_Mod_number 23 [.ref (c0 + 16), .long v, ev_dead, .int (nI p), .long v, ev_dead, ev_dead] [] σ τ _
      refine Rx.go (fun _ => rfl) ?_
      refine Rx.go (fun _ => rfl) ?_
      refine Rx.go (fun _ => rfl) ?_
      refine Rx.go (fun _ => rfl) ?_
      refine Rx.ite (fun c3 => ?_) (fun c3 => ?_)
      · replace c3 : 0 ≤ (lg_cmp v 0) := of_decide_eq_true c3
        show Rx X c0 m_Mod_number 38 [.ref (c0 + 16), .long v, ev_dead, .int (nI p), .long v, ev_dead, ev_dead] [] σ τ _
        refine Rx.go (fun _ => rfl) ?_
        refine Rx.go (fun _ => rfl) ?_
        refine Rx.put rfl (by decide) rfl rfl ?_
        refine Rx.go (fun _ => rfl) ?_
        refine Rx.go (fun _ => rfl) ?_
        show Rx X c0 m_Mod_number 48 [.ref (c0 + 16), .long v, ev_dead, .int (nI p), .long v, ev_dead, .int 17] [] (upd σ 22 18) τ _
        show Rx X c0 m_Mod_number 48 [.ref (c0 + 16), .long v, ev_dead, .int (nI p), .long v, ev_dead, .int 17] [] (upd σ 22 18) τ _
        obtain ⟨hf, r, hr, e⟩ := num_pos c1 c2
        refine (nm_l' e X c0 v (nI p) _ _ 18 τ (by omega) (by decide) (nb_td X c0 v _ hp9 (σ := upd σ 22 18) (dg_nd τ r) rfl (rt_same hR rfl rfl rfl rfl rfl) h8 hu hroom)).mono ?_
        intro z σ2 τ2 hq
        unfold nmP
        rw [if_pos hf]
        exact ⟨r, hr, Or.inl e, hq.up⟩
      · replace c3 : ¬ 0 ≤ (lg_cmp v 0) := of_decide_eq_false c3
        exact absurd c1 c3
  · replace c1 : ¬ 0 ≤ (lg_cmp v 0) := of_decide_eq_false c1
    show Rx X c0 m_Mod_number 6 [.ref (c0 + 16), .long v, ev_dead, .int (nI p), ev_dead, ev_dead, ev_dead] [] σ τ _
    refine Rx.go (fun _ => rfl) ?_
    refine Rx.go (fun _ => rfl) ?_
    refine Rx.go (fun _ => rfl) ?_
    refine Rx.go (fun _ => rfl) ?_
    show Rx X c0 m_Mod_number 14 [.ref (c0 + 16), .long v, ev_dead, .int (nI p), .long (-v), ev_dead, ev_dead] [] σ τ _
    refine Rx.go (fun _ => rfl) ?_
    refine Rx.go (fun _ => rfl) ?_
    refine Rx.go (fun _ => rfl) ?_
    refine Rx.go (fun _ => rfl) ?_
    refine Rx.ite (fun c4 => ?_) (fun c4 => ?_)
    · replace c4 : 0 < (lg_cmp (-v) 999999999999999999) := of_decide_eq_true c4
      show Rx X c0 m_Mod_number 36 [.ref (c0 + 16), .long v, ev_dead, .int (nI p), .long (-v), ev_dead, ev_dead] [] σ τ _
      refine Rx.go (fun _ => rfl) ?_
      show Rx X c0 m_Mod_number 37 [.ref (c0 + 16), .long v, ev_dead, .int (nI p), .long (-v), ev_dead, ev_dead] [.int (-1)] σ τ _
      exact Rx.ret rfl (ev_reti rfl) (by unfold nmP; rw [num_negB c1 c4, if_neg Bool.false_ne_true]; exact ⟨rfl, rfl, rfl⟩)
    · replace c4 : ¬ 0 < (lg_cmp (-v) 999999999999999999) := of_decide_eq_false c4
      show Rx X c0 m_Mod_number 23 [.ref (c0 + 16), .long v, ev_dead, .int (nI p), .long (-v), ev_dead, ev_dead] [] σ τ _
      refine Rx.go (fun _ => rfl) ?_
      refine Rx.go (fun _ => rfl) ?_
      refine Rx.go (fun _ => rfl) ?_
      refine Rx.go (fun _ => rfl) ?_
      refine Rx.ite (fun c5 => ?_) (fun c5 => ?_)
      · replace c5 : 0 ≤ (lg_cmp v 0) := of_decide_eq_true c5
        exact absurd c5 c1
      · replace c5 : ¬ 0 ≤ (lg_cmp v 0) := of_decide_eq_false c5
        show Rx X c0 m_Mod_number 29 [.ref (c0 + 16), .long v, ev_dead, .int (nI p), .long (-v), ev_dead, ev_dead] [] σ τ _
        refine Rx.go (fun _ => rfl) ?_
        refine Rx.go (fun _ => rfl) ?_
        refine Rx.go (fun _ => rfl) ?_
        refine Rx.go (fun _ => rfl) ?_
        refine Rx.ite (fun c6 => ?_) (fun c6 => ?_)
        · replace c6 : 0 ≤ (lg_cmp (-v) 0) := of_decide_eq_true c6
          show Rx X c0 m_Mod_number 38 [.ref (c0 + 16), .long v, ev_dead, .int (nI p), .long (-v), ev_dead, ev_dead] [] σ τ _
          refine Rx.go (fun _ => rfl) ?_
          refine Rx.go (fun _ => rfl) ?_
          refine Rx.put rfl (by decide) rfl rfl ?_
          refine Rx.go (fun _ => rfl) ?_
          refine Rx.go (fun _ => rfl) ?_
          show Rx X c0 m_Mod_number 48 [.ref (c0 + 16), .long v, ev_dead, .int (nI p), .long (-v), ev_dead, .int 17] [] (upd σ 22 18) τ _
          show Rx X c0 m_Mod_number 48 [.ref (c0 + 16), .long v, ev_dead, .int (nI p), .long (-v), ev_dead, .int 17] [] (upd σ 22 18) τ _
          obtain ⟨hf, r, hr, e⟩ := num_neg c1 c4 c6
          refine (nm_l' e X c0 v (nI p) _ _ 18 τ (by omega) (by decide) (nb_td X c0 v _ hp9 (σ := upd σ 22 18) (dg_nd τ r) rfl (rt_same hR rfl rfl rfl rfl rfl) h8 hu hroom)).mono ?_
          intro z σ2 τ2 hq
          unfold nmP
          rw [if_pos hf]
          exact ⟨r, hr, Or.inr (by rw [← e, Int64.neg_neg]), hq.up⟩
        · replace c6 : ¬ 0 ≤ (lg_cmp (-v) 0) := of_decide_eq_false c6
          show Rx X c0 m_Mod_number 36 [.ref (c0 + 16), .long v, ev_dead, .int (nI p), .long (-v), ev_dead, ev_dead] [] σ τ _
          refine Rx.go (fun _ => rfl) ?_
          show Rx X c0 m_Mod_number 37 [.ref (c0 + 16), .long v, ev_dead, .int (nI p), .long (-v), ev_dead, ev_dead] [.int (-1)] σ τ _
          exact Rx.ret rfl (ev_reti rfl) (by unfold nmP; rw [num_negC c1 c6, if_neg Bool.false_ne_true]; exact ⟨rfl, rfl, rfl⟩)
set_option maxRecDepth 100000 in
set_option maxHeartbeats 1000000 in
theorem rx_whole (X : ev_X) (c0 : Nat) (v : Int64) {u : Nat} {ts : RT} {σ : Nat → Int32} {τ : Nat → Nat → Int32} (hR : rt σ τ ts) (h8 : σ 8 = nI u) (hu : u ≤ 40000) (hroom : off ts ts.length + 260 ≤ 132000) : Rx X c0 m_Mod_whole 0 [.ref (c0 + 16), .long v, ev_dead] [] σ τ (nmP ts u v false 18 σ τ) := by
  refine Rx.go (fun _ => rfl) ?_
  refine Rx.go (fun _ => rfl) ?_
  refine Rx.go (fun _ => rfl) ?_
  refine Rx.call rfl rfl rfl rfl (rx_number_w X c0 v hR h8 hu hroom) ?_
  intro z σ2 τ2 hq
  obtain ⟨i, rfl⟩ := nmP_i hq
  exact Rx.ret rfl (ev_reti rfl) hq
set_option maxRecDepth 100000 in
set_option maxHeartbeats 1000000 in
theorem rx_decimal (X : ev_X) (c0 : Nat) (v : Int64) (b : Int32) {u : Nat} {ts : RT} {σ : Nat → Int32} {τ : Nat → Nat → Int32} (hR : rt σ τ ts) (h8 : σ 8 = nI u) (hu : u ≤ 40000) (hroom : off ts ts.length + 260 ≤ 132000) : Rx X c0 m_Mod_decimal 0 [.ref (c0 + 16), .long v, ev_dead, .int b] [] σ τ (fun r σ' τ' => if b < 0 then (r = some (.int (-1)) ∧ σ' = σ ∧ τ' = τ) else if 9 < b then (r = some (.int (-1)) ∧ σ' = σ ∧ τ' = τ) else nmP ts u v true (18 - b.toNatClampNeg) σ τ r σ' τ') := by
  refine Rx.go (fun _ => rfl) ?_
  refine Rx.go (fun _ => rfl) ?_
  refine Rx.ite (fun c1 => ?_) (fun c1 => ?_)
  · replace c1 : b < 0 := of_decide_eq_true c1
    show Rx X c0 m_Mod_decimal 10 [.ref (c0 + 16), .long v, ev_dead, .int b] [] σ τ _
    refine Rx.go (fun _ => rfl) ?_
    refine Rx.go (fun _ => rfl) ?_
    show Rx X c0 m_Mod_decimal 20 [.ref (c0 + 16), .long v, ev_dead, .int b] [.int (-1)] σ τ _
    exact Rx.ret rfl (ev_reti rfl) (by rw [if_pos c1]; exact ⟨rfl, rfl, rfl⟩)
  · replace c1 : ¬ b < 0 := of_decide_eq_false c1
    show Rx X c0 m_Mod_decimal 4 [.ref (c0 + 16), .long v, ev_dead, .int b] [] σ τ _
    refine Rx.go (fun _ => rfl) ?_
    refine Rx.go (fun _ => rfl) ?_
    refine Rx.go (fun _ => rfl) ?_
    refine Rx.ite (fun c2 => ?_) (fun c2 => ?_)
    · replace c2 : b ≤ 9 := of_decide_eq_true c2
      show Rx X c0 m_Mod_decimal 14 [.ref (c0 + 16), .long v, ev_dead, .int b] [] σ τ _
      refine Rx.go (fun _ => rfl) ?_
      refine Rx.go (fun _ => rfl) ?_
      refine Rx.go (fun _ => rfl) ?_
      have c3 : ¬ 9 < b := Int32.not_lt.mpr c2
      obtain ⟨p, hp9, rfl⟩ := nI_of2 (M := 9) (n := 9) rfl c1 c2
      refine Rx.call rfl rfl rfl rfl (rx_number_d X c0 v hp9 hR h8 hu hroom) ?_
      intro z σ2 τ2 hq
      obtain ⟨i, rfl⟩ := nmP_i hq
      exact Rx.ret rfl (ev_reti rfl) (by rw [if_neg c1, if_neg c3, nI_clamp (by omega)]; exact hq)
    · replace c2 : ¬ b ≤ 9 := of_decide_eq_false c2
      show Rx X c0 m_Mod_decimal 10 [.ref (c0 + 16), .long v, ev_dead, .int b] [] σ τ _
      refine Rx.go (fun _ => rfl) ?_
      refine Rx.go (fun _ => rfl) ?_
      show Rx X c0 m_Mod_decimal 20 [.ref (c0 + 16), .long v, ev_dead, .int b] [.int (-1)] σ τ _
      exact Rx.ret rfl (ev_reti rfl) (by rw [if_neg c1, if_pos (Int32.not_le.mp c2)]; exact ⟨rfl, rfl, rfl⟩)
end
section
/-! The reference reads inside a text: the tape aside and again. (rows laid by wip/whole/rr10.py) -/
section RI
variable {σ0 σ : Nat → Int32} {τ0 τ : Nat → Nat → Int32} {t raw d : List Nat} {p q k qq db w m j : Nat} {f g : Nat → Int32}
/-- the tape is another: the raw items of a text -/
theorem RS.go_in (h : RS σ0 τ0 t p d k qq db σ τ) (hg : ∀ j, j < raw.length → g j = nI (raw.getD j 0)) (hl : raw.length ≤ 240) (hby : ∀ j, raw.getD j 0 < 256) : RS σ0 (va_up τ0 20 f) raw 0 d k qq db (upd (upd σ 16 0) 17 (nI raw.length)) (va_up (va_up τ 20 f) 0 g) := by
  obtain ⟨⟨⟨a1, a2, a3, a4, a5⟩, ⟨b1, b2, b3, b4, b5, b6⟩, h7, h8, h9, h10⟩, ⟨c1, c2⟩, c3, ⟨c4, c5⟩, c6, c7, c8⟩ := h
  refine ⟨⟨⟨a1, a2, a3, a4, a5⟩, ⟨b1, b2, b3, b4, b5, rfl⟩, fun j hj => ?_, hl, hby, rfl⟩, ⟨rfl, Nat.zero_le _⟩, c3, ⟨c4, fun j hj => c5 j hj⟩, c6, c7, c8⟩
  rw [va_up_self]; exact hg j hj
theorem RS.go_out (h : RS σ0 τ0 raw q d k qq db σ τ) (hg : ∀ j, j < t.length → g j = nI (t.getD j 0)) (hl : t.length ≤ 240) (hby : ∀ j, t.getD j 0 < 256) (hp : p ≤ t.length) : RS σ0 τ0 t p d k qq db (upd (upd (upd σ 18 0) 16 (nI p)) 17 (nI t.length)) (va_up τ 0 g) := by
  obtain ⟨⟨⟨a1, a2, a3, a4, a5⟩, ⟨b1, b2, b3, b4, b5, b6⟩, h7, h8, h9, h10⟩, ⟨c1, c2⟩, c3, ⟨c4, c5⟩, c6, c7, c8⟩ := h
  refine ⟨⟨⟨a1, a2, a3, a4, a5⟩, ⟨b1, b2, b3, b4, b5, b6⟩, fun j hj => ?_, hl, hby, rfl⟩, ⟨rfl, hp⟩, rfl, ⟨c4, fun j hj => c5 j hj⟩, c6, c7, c8⟩
  rw [va_up_self]; exact hg j hj
theorem RG.go_out (h : RG σ0 τ0 raw w m j σ τ) (hg : ∀ j, j < t.length → g j = nI (t.getD j 0)) (hl : t.length ≤ 240) (hby : ∀ j, t.getD j 0 < 256) (hp : p ≤ t.length) : RG σ0 τ0 t 0 m 0 (rfail (upd (upd (upd σ 18 0) 16 (nI p)) 17 (nI t.length)) 7 0) (va_up τ 0 g) := by
  obtain ⟨⟨⟨a1, a2, a3, a4, a5⟩, ⟨b1, b2, b3, b4, b5, b6⟩, h7, h8, h9, h10⟩, -, -, -, h5⟩ := h
  rw [rfail, if_pos (show upd (upd (upd σ 18 0) 16 (nI p)) 17 (nI t.length) 18 = 0 from rfl)]
  refine ⟨⟨⟨a1, a2, a3, a4, a5⟩, ⟨b1, b2, b3, b4, b5, b6⟩, fun j hj => ?_, hl, hby, rfl⟩, ⟨p, rfl, by omega⟩, (show (7 : Int32) ≠ 0 by decide), rfl, h5⟩
  rw [va_up_self]; exact hg j hj
end RI
theorem upd_ext {f : Nat → Int32} {v : Nat → Int32} {i : Nat} (h : ∀ j, j < i → f j = v j) : ∀ j, j < i + 1 → upd f i (v i) j = v j := fun j hj => by
  by_cases q : j = i
  · subst q; rw [pk_us]
  · rw [pk_un q]; exact h j (by omega)
set_option maxRecDepth 100000 in
set_option maxHeartbeats 2000000 in
theorem ri_A {X : ev_X} {c0 : Nat} {Q : Option Value → (Nat → Int32) → (Nat → Nat → Int32) → Prop} {σ : Nat → Int32} {t : List Nat} (hl : t.length ≤ 240) (pv kk : Int32) (v6 v7 v8 : Value) {τ : Nat → Nat → Int32} (h0 : ∀ j, j < t.length → τ 0 j = nI (t.getD j 0)) (hK : ∀ f : Nat → Int32, (∀ j, j < t.length → f j = nI (t.getD j 0)) → Rx X c0 m_Mod_readInside 41 [.ref (c0 + 16), .int 0, .int kk, .int pv, .int (nI t.length), .int (nI t.length), v6, v7, v8] [] σ (va_up τ 20 f) Q) : ∀ (m i : Nat) (f : Nat → Int32) (hm : i + m = t.length) (hf : ∀ j, j < i → f j = nI (t.getD j 0)), Rx X c0 m_Mod_readInside 14 [.ref (c0 + 16), .int 0, .int kk, .int pv, .int (nI t.length), .int (nI i), v6, v7, v8] [] σ (va_up τ 20 f) Q := by
  intro m
  induction m with
  | zero =>
    intro i f hm hf
    refine Rx.go (fun _ => rfl) ?_
    refine Rx.go (fun _ => rfl) ?_
    refine Rx.go (fun _ => rfl) ?_
    refine Rx.ite (fun c1 => ?_) (fun c1 => ?_)
    · replace c1 : (nI t.length) ≤ (nI i) := of_decide_eq_true c1
      show Rx X c0 m_Mod_readInside 41 [.ref (c0 + 16), .int 0, .int kk, .int pv, .int (nI t.length), .int (nI i), v6, v7, v8] [] σ (va_up τ 20 f) _
      show Rx X c0 m_Mod_readInside 41 [.ref (c0 + 16), .int 0, .int kk, .int pv, .int (nI t.length), .int (nI i), v6, v7, v8] [] σ (va_up τ 20 f) _
      have e : i = t.length := by omega
      subst e
      exact hK f hf
    · replace c1 : ¬ (nI t.length) ≤ (nI i) := of_decide_eq_false c1
      exact absurd (show nI t.length ≤ nI i by rw [show i = t.length by omega]; exact Int32.le_refl _) c1
  | succ m ih =>
    intro i f hm hf
    refine Rx.go (fun _ => rfl) ?_
    refine Rx.go (fun _ => rfl) ?_
    refine Rx.go (fun _ => rfl) ?_
    refine Rx.ite (fun c1 => ?_) (fun c1 => ?_)
    · replace c1 : (nI t.length) ≤ (nI i) := of_decide_eq_true c1
      exact absurd ((nI_leI (by omega) (by omega)).mp c1) (by omega)
    · replace c1 : ¬ (nI t.length) ≤ (nI i) := of_decide_eq_false c1
      show Rx X c0 m_Mod_readInside 21 [.ref (c0 + 16), .int 0, .int kk, .int pv, .int (nI t.length), .int (nI i), v6, v7, v8] [] σ (va_up τ 20 f) _
      refine Rx.go (fun _ => rfl) ?_
      refine Rx.get rfl rfl ?_
      refine Rx.go (fun _ => rfl) ?_
      refine Rx.go (fun _ => rfl) ?_
      refine Rx.get rfl rfl ?_
      refine Rx.go (fun _ => rfl) ?_
      refine Rx.aldE (v := nI (t.getD i 0)) 0 rfl rfl (nI_ix (show i < 240 by omega) (by decide)) (by rw [va_up_ne _ _ (by decide), nI_clamp (by omega)]; exact h0 i (by omega)) ?_
      refine Rx.ast 20 rfl rfl (nI_ix (show i < 240 by omega) (by decide)) ?_
      refine Rx.go (fun _ => rfl) ?_
      show Rx X c0 m_Mod_readInside 38 [.ref (c0 + 16), .int 0, .int kk, .int pv, .int (nI t.length), .int ((nI i) + 1), v6, v7, v8] [] σ (va_up (va_up τ 20 f) 20 (upd ((va_up τ 20 f) 20) (nI i).toNatClampNeg (nI (t.getD i 0)))) _
      refine Rx.go (fun _ => rfl) ?_
      show Rx X c0 m_Mod_readInside 14 [.ref (c0 + 16), .int 0, .int kk, .int pv, .int (nI t.length), .int ((nI i) + 1), v6, v7, v8] [] σ (va_up (va_up τ 20 f) 20 (upd ((va_up τ 20 f) 20) (nI i).toNatClampNeg (nI (t.getD i 0)))) _
      rw [show nI i + 1 = nI (i + 1) from nI_1 i, va_uu, va_up_self, nI_clamp (by omega)]
      exact ih (i + 1) _ (by omega) (upd_ext (v := fun j => nI (t.getD j 0)) hf)
set_option maxRecDepth 100000 in
set_option maxHeartbeats 2000000 in
theorem ri_B {X : ev_X} {c0 : Nat} {Q : Option Value → (Nat → Int32) → (Nat → Nat → Int32) → Prop} {σ : Nat → Int32} {raw : List Nat} (hl : raw.length ≤ 240) (pv ev kk : Int32) (v7 v8 : Value) {τ : Nat → Nat → Int32} (h9 : ∀ j, j < raw.length → τ 9 (j + 1) = nI (raw.getD j 0)) (hK : ∀ g : Nat → Int32, (∀ j, j < raw.length → g j = nI (raw.getD j 0)) → Rx X c0 m_Mod_readInside 81 [.ref (c0 + 16), .int 0, .int kk, .int pv, .int ev, .int (nI raw.length), .int (nI raw.length), v7, v8] [] σ (va_up τ 0 g) Q) : ∀ (m i : Nat) (g : Nat → Int32) (hm : i + m = raw.length) (hg : ∀ j, j < i → g j = nI (raw.getD j 0)), Rx X c0 m_Mod_readInside 52 [.ref (c0 + 16), .int 0, .int kk, .int pv, .int ev, .int (nI raw.length), .int (nI i), v7, v8] [] σ (va_up τ 0 g) Q := by
  intro m
  induction m with
  | zero =>
    intro i g hm hg
    refine Rx.go (fun _ => rfl) ?_
    refine Rx.go (fun _ => rfl) ?_
    refine Rx.go (fun _ => rfl) ?_
    refine Rx.ite (fun c1 => ?_) (fun c1 => ?_)
    · replace c1 : (nI raw.length) ≤ (nI i) := of_decide_eq_true c1
      show Rx X c0 m_Mod_readInside 81 [.ref (c0 + 16), .int 0, .int kk, .int pv, .int ev, .int (nI raw.length), .int (nI i), v7, v8] [] σ (va_up τ 0 g) _
      show Rx X c0 m_Mod_readInside 81 [.ref (c0 + 16), .int 0, .int kk, .int pv, .int ev, .int (nI raw.length), .int (nI i), v7, v8] [] σ (va_up τ 0 g) _
      have e : i = raw.length := by omega
      subst e
      exact hK g hg
    · replace c1 : ¬ (nI raw.length) ≤ (nI i) := of_decide_eq_false c1
      exact absurd (show nI raw.length ≤ nI i by rw [show i = raw.length by omega]; exact Int32.le_refl _) c1
  | succ m ih =>
    intro i g hm hg
    refine Rx.go (fun _ => rfl) ?_
    refine Rx.go (fun _ => rfl) ?_
    refine Rx.go (fun _ => rfl) ?_
    refine Rx.ite (fun c1 => ?_) (fun c1 => ?_)
    · replace c1 : (nI raw.length) ≤ (nI i) := of_decide_eq_true c1
      exact absurd ((nI_leI (by omega) (by omega)).mp c1) (by omega)
    · replace c1 : ¬ (nI raw.length) ≤ (nI i) := of_decide_eq_false c1
      show Rx X c0 m_Mod_readInside 59 [.ref (c0 + 16), .int 0, .int kk, .int pv, .int ev, .int (nI raw.length), .int (nI i), v7, v8] [] σ (va_up τ 0 g) _
      refine Rx.go (fun _ => rfl) ?_
      refine Rx.get rfl rfl ?_
      refine Rx.go (fun _ => rfl) ?_
      refine Rx.go (fun _ => rfl) ?_
      refine Rx.get rfl rfl ?_
      refine Rx.go (fun _ => rfl) ?_
      refine Rx.go (fun _ => rfl) ?_
      refine Rx.go (fun _ => rfl) ?_
      refine Rx.top (y := nI (i + 1)) (nI_1 i) ?_
      refine Rx.aldE (v := nI (raw.getD i 0)) 9 rfl rfl (nI_ix (show i + 1 < 260 by omega) (by decide)) (by rw [va_up_ne _ _ (by decide), nI_clamp (by omega)]; exact h9 i (by omega)) ?_
      refine Rx.ast 0 rfl rfl (nI_ix (show i < 240 by omega) (by decide)) ?_
      refine Rx.go (fun _ => rfl) ?_
      show Rx X c0 m_Mod_readInside 78 [.ref (c0 + 16), .int 0, .int kk, .int pv, .int ev, .int (nI raw.length), .int ((nI i) + 1), v7, v8] [] σ (va_up (va_up τ 0 g) 0 (upd ((va_up τ 0 g) 0) (nI i).toNatClampNeg (nI (raw.getD i 0)))) _
      refine Rx.go (fun _ => rfl) ?_
      show Rx X c0 m_Mod_readInside 52 [.ref (c0 + 16), .int 0, .int kk, .int pv, .int ev, .int (nI raw.length), .int ((nI i) + 1), v7, v8] [] σ (va_up (va_up τ 0 g) 0 (upd ((va_up τ 0 g) 0) (nI i).toNatClampNeg (nI (raw.getD i 0)))) _
      rw [show nI i + 1 = nI (i + 1) from nI_1 i, va_uu, va_up_self, nI_clamp (by omega)]
      exact ih (i + 1) _ (by omega) (upd_ext (v := fun j => nI (raw.getD j 0)) hg)
set_option maxRecDepth 100000 in
set_option maxHeartbeats 2000000 in
theorem ri_D {X : ev_X} {c0 : Nat} {Q : Option Value → (Nat → Int32) → (Nat → Nat → Int32) → Prop} {σ : Nat → Int32} {t : List Nat} (hl : t.length ≤ 240) (pv kk gv : Int32) (v5 v6 : Value) {τ : Nat → Nat → Int32} (h20 : ∀ j, j < t.length → τ 20 j = nI (t.getD j 0)) (hK : ∀ g : Nat → Int32, (∀ j, j < t.length → g j = nI (t.getD j 0)) → Rx X c0 m_Mod_readInside 240 [.ref (c0 + 16), .int 0, .int kk, .int pv, .int (nI t.length), v5, v6, .int gv, .int (nI t.length)] [] σ (va_up τ 0 g) Q) : ∀ (m i : Nat) (g : Nat → Int32) (hm : i + m = t.length) (hg : ∀ j, j < i → g j = nI (t.getD j 0)), Rx X c0 m_Mod_readInside 213 [.ref (c0 + 16), .int 0, .int kk, .int pv, .int (nI t.length), v5, v6, .int gv, .int (nI i)] [] σ (va_up τ 0 g) Q := by
  intro m
  induction m with
  | zero =>
    intro i g hm hg
    refine Rx.go (fun _ => rfl) ?_
    refine Rx.go (fun _ => rfl) ?_
    refine Rx.go (fun _ => rfl) ?_
    refine Rx.ite (fun c1 => ?_) (fun c1 => ?_)
    · replace c1 : (nI t.length) ≤ (nI i) := of_decide_eq_true c1
      show Rx X c0 m_Mod_readInside 240 [.ref (c0 + 16), .int 0, .int kk, .int pv, .int (nI t.length), v5, v6, .int gv, .int (nI i)] [] σ (va_up τ 0 g) _
      show Rx X c0 m_Mod_readInside 240 [.ref (c0 + 16), .int 0, .int kk, .int pv, .int (nI t.length), v5, v6, .int gv, .int (nI i)] [] σ (va_up τ 0 g) _
      have e : i = t.length := by omega
      subst e
      exact hK g hg
    · replace c1 : ¬ (nI t.length) ≤ (nI i) := of_decide_eq_false c1
      exact absurd (show nI t.length ≤ nI i by rw [show i = t.length by omega]; exact Int32.le_refl _) c1
  | succ m ih =>
    intro i g hm hg
    refine Rx.go (fun _ => rfl) ?_
    refine Rx.go (fun _ => rfl) ?_
    refine Rx.go (fun _ => rfl) ?_
    refine Rx.ite (fun c1 => ?_) (fun c1 => ?_)
    · replace c1 : (nI t.length) ≤ (nI i) := of_decide_eq_true c1
      exact absurd ((nI_leI (by omega) (by omega)).mp c1) (by omega)
    · replace c1 : ¬ (nI t.length) ≤ (nI i) := of_decide_eq_false c1
      show Rx X c0 m_Mod_readInside 220 [.ref (c0 + 16), .int 0, .int kk, .int pv, .int (nI t.length), v5, v6, .int gv, .int (nI i)] [] σ (va_up τ 0 g) _
      refine Rx.go (fun _ => rfl) ?_
      refine Rx.get rfl rfl ?_
      refine Rx.go (fun _ => rfl) ?_
      refine Rx.go (fun _ => rfl) ?_
      refine Rx.get rfl rfl ?_
      refine Rx.go (fun _ => rfl) ?_
      refine Rx.aldE (v := nI (t.getD i 0)) 20 rfl rfl (nI_ix (show i < 240 by omega) (by decide)) (by rw [va_up_ne _ _ (by decide), nI_clamp (by omega)]; exact h20 i (by omega)) ?_
      refine Rx.ast 0 rfl rfl (nI_ix (show i < 240 by omega) (by decide)) ?_
      refine Rx.go (fun _ => rfl) ?_
      show Rx X c0 m_Mod_readInside 237 [.ref (c0 + 16), .int 0, .int kk, .int pv, .int (nI t.length), v5, v6, .int gv, .int ((nI i) + 1)] [] σ (va_up (va_up τ 0 g) 0 (upd ((va_up τ 0 g) 0) (nI i).toNatClampNeg (nI (t.getD i 0)))) _
      refine Rx.go (fun _ => rfl) ?_
      show Rx X c0 m_Mod_readInside 213 [.ref (c0 + 16), .int 0, .int kk, .int pv, .int (nI t.length), v5, v6, .int gv, .int ((nI i) + 1)] [] σ (va_up (va_up τ 0 g) 0 (upd ((va_up τ 0 g) 0) (nI i).toNatClampNeg (nI (t.getD i 0)))) _
      rw [show nI i + 1 = nI (i + 1) from nI_1 i, va_uu, va_up_self, nI_clamp (by omega)]
      exact ih (i + 1) _ (by omega) (upd_ext (v := fun j => nI (t.getD j 0)) hg)
end
