/-! The reference reads a number's digits. (rows laid by wip/whole/rr7.py) -/
/-- digits being taken: ds, and how many stood ahead of the dot -/
def b23 : Option Nat → Int32
  | none => -1
  | some w => nI w
def RN (σ0 : Nat → Int32) (τ0 : Nat → Nat → Int32) (t : List Nat) (q : Nat) (D : List Nat) (k qq db : Nat) (ds : List Nat) (bf : Option Nat) (σ : Nat → Int32) (τ : Nat → Nat → Int32) : Prop := RS σ0 τ0 t q D k qq db σ τ ∧ σ 22 = nI ds.length ∧ (∀ j, j < ds.length → τ 21 j = nI (ds.getD j 0)) ∧ σ 23 = b23 bf
section RNR
variable {σ0 σ : Nat → Int32} {τ0 τ : Nat → Nat → Int32} {t D ds : List Nat} {q k qq db : Nat} {bf : Option Nat}
theorem RS.up {i : Nat} {x : Int32} (h : RS σ0 τ0 t q D k qq db σ τ) (hi : i = 22 ∨ i = 23) : RS σ0 τ0 t q D k qq db (upd σ i x) τ := by
  obtain ⟨h1, h2, h3, ⟨h4, h5⟩, h6, h7, h8⟩ := h
  exact ⟨h1.upd (by omega), ⟨by rw [pk_un (by omega)]; exact h2.1, h2.2⟩, by rw [pk_un (by omega)]; exact h3, ⟨by rw [pk_un (by omega)]; exact h4, h5⟩, by rw [pk_un (by omega)]; exact h6, by rw [pk_un (by omega)]; exact h7, by rw [pk_un (by omega)]; exact h8⟩
theorem RS.ut {f : Nat → Int32} (h : RS σ0 τ0 t q D k qq db σ τ) : RS σ0 τ0 t q D k qq db σ (va_up τ 21 f) := by
  obtain ⟨h1, h2, h3, ⟨h4, h5⟩, h6⟩ := h
  exact ⟨h1.upt (by omega), h2, h3, ⟨h4, fun j hj => by rw [va_up_ne _ _ (by decide)]; exact h5 j hj⟩, h6⟩
theorem RN.start (h : RS σ0 τ0 t q D k qq db σ τ) : RN σ0 τ0 t q D k qq db [] none (upd (upd σ 22 0) 23 (-1)) τ := ⟨(h.up (by omega)).up (by omega), by rw [pk_un (by decide), pk_us]; rfl, fun j hj => absurd hj (Nat.not_lt_zero j), by rw [pk_us]; rfl⟩
theorem RN.dot (h : RN σ0 τ0 t q D k qq db ds bf σ τ) (hq : q < t.length) : RN σ0 τ0 t (q + 1) D k qq db ds (some ds.length) (upd (upd σ 23 (nI ds.length)) 16 (nI (q + 1))) τ := ⟨(h.1.up (by omega)).at1 hq, by rw [pk_un (by decide), pk_un (by decide)]; exact h.2.1, h.2.2.1, by rw [pk_un (by decide), pk_us]; rfl⟩
theorem RN.dig (h : RN σ0 τ0 t q D k qq db ds bf σ τ) (hq : q < t.length) (hd : ds.length < 40) : RN σ0 τ0 t (q + 1) D k qq db (ds ++ [t.getD q 0]) bf (upd (upd σ 22 (nI (ds.length + 1))) 16 (nI (q + 1))) (va_up τ 21 (upd (τ 21) (nI ds.length).toNatClampNeg (nI (t.getD q 0)))) := by
  refine ⟨((h.1.up (by omega)).ut).at1 hq, by rw [pk_un (by decide), pk_us, List.length_append]; rfl, fun j hj => ?_, by rw [pk_un (by decide), pk_un (by decide)]; exact h.2.2.2⟩
  simp only [List.length_append, List.length_cons, List.length_nil] at hj
  rw [va_up_self, nI_clamp (by omega), getD_snoc hj]
  split
  · next e => rw [pk_un (by omega)]; exact h.2.2.1 j e
  · next e => rw [show j = ds.length by omega, pk_us]
end RNR
/-- a run of digits, taken -/
def rD (t : List Nat) : Nat → Nat → List Nat → Bool × Nat × List Nat
  | 0, q, ds => (true, q, ds)
  | m + 1, q, ds => if isD (hb t q) = true then (if ds.length = 18 then (false, q, ds) else rD t m (q + 1) (ds ++ [t.getD q 0])) else (true, q, ds)
theorem D46 : isD 46 = false := by decide
theorem RG.upn {σ0 σ : Nat → Int32} {τ0 τ : Nat → Nat → Int32} {t : List Nat} {w m j i : Nat} {x : Int32} (h : RG σ0 τ0 t w m j σ τ) (hi : i = 22 ∨ i = 23) : RG σ0 τ0 t w m j (upd σ i x) τ := by
  obtain ⟨h1, ⟨p, h2, h2'⟩, h3, h4, h5⟩ := h
  exact ⟨h1.upd (by omega), ⟨p, by rw [pk_un (by omega)]; exact h2, h2'⟩, by rw [pk_un (by omega)]; exact h3, by rw [pk_un (by omega)]; exact h4, by rw [pk_un (by omega)]; exact h5⟩
theorem RG.ut {σ0 σ : Nat → Int32} {τ0 τ : Nat → Nat → Int32} {t : List Nat} {w m j : Nat} {f : Nat → Int32} (h : RG σ0 τ0 t w m j σ τ) : RG σ0 τ0 t w m j σ (va_up τ 21 f) := ⟨h.1.upt (by omega), h.2⟩
theorem rfail_22 {σ : Nat → Int32} {a b : Int32} {i : Nat} (hi : i ≠ 18) (hi2 : i ≠ 19) : rfail σ a b i = σ i := by
  unfold rfail
  split
  · rw [pk_un hi2, pk_un hi]
  · rfl
set_option maxRecDepth 100000 in
set_option maxHeartbeats 2000000 in
theorem rr_n2_l {X : ev_X} {c0 : Nat} {σ0 : Nat → Int32} {τ0 : Nat → Nat → Int32} {t D : List Nat} {k qq db : Nat} (hD : D.length ≤ 250) (bel : Bool) (fr : Int32) {Q : Option Value → (Nat → Int32) → (Nat → Nat → Int32) → Prop} {o0 : Bool × Nat × List Nat} {W : Nat} (hW : W ≤ 18) (hK : ∀ {q : Nat} {ds : List Nat} {σ : Nat → Int32} {τ : Nat → Nat → Int32}, (true, q, ds) = o0 → ds.length ≤ 18 → q ≤ t.length → isD (hb t q) = false → RN σ0 τ0 t q D k qq db ds (some W) σ τ → Rx X c0 m_Mod_readNumber 210 [.ref (c0 + 16), .int fr, .int (bi bel)] [] σ τ Q) (hF : ∀ {w j : Nat} {ds : List Nat} {σ : Nat → Int32} {τ : Nat → Nat → Int32}, (false, w, ds) = o0 → RG σ0 τ0 t w D.length j σ τ → j ≤ 10 → Q none σ τ) : ∀ (m q : Nat) (ds : List Nat) (σ : Nat → Int32) (τ : Nat → Nat → Int32) (hm : q + m = t.length) (hq : q ≤ t.length) (hds : ds.length ≤ 18) (ho : rD t m q ds = o0) (hN : RN σ0 τ0 t q D k qq db ds (some W) σ τ), Rx X c0 m_Mod_readNumber 78 [.ref (c0 + 16), .int fr, .int (bi bel)] [] σ τ Q := by
  intro m
  induction m with
  | zero =>
    intro q ds σ τ hm hq hds ho hN
    have hl := hN.1.z.tl
    refine Rx.go (fun _ => rfl) ?_
    refine Rx.callE rfl rfl rfl rfl (rz_good hN.1.z) ?_
    show Rx X c0 m_Mod_readNumber 82 [.ref (c0 + 16), .int fr, .int (bi bel)] [.int 1] σ τ _
    refine Rx.go (fun _ => rfl) ?_
    show Rx X c0 m_Mod_readNumber 85 [.ref (c0 + 16), .int fr, .int (bi bel)] [] σ τ _
    refine Rx.go (fun _ => rfl) ?_
    refine Rx.callE rfl rfl rfl rfl (rz_here hN.1.z) ?_
    show Rx X c0 m_Mod_readNumber 89 [.ref (c0 + 16), .int fr, .int (bi bel)] [.int (hb t q)] σ τ _
    refine Rx.scallE rfl rfl rfl rfl (sx_Mod_isDigit X (hb t q)) ?_
    show Rx X c0 m_Mod_readNumber 92 [.ref (c0 + 16), .int fr, .int (bi bel)] [.int (bi (isD (hb t q)))] σ τ _
    refine Rx.go (fun _ => rfl) ?_
    refine Rx.ite (fun c1 => ?_) (fun c1 => ?_)
    · replace c1 : (isD (hb t q)) = true := bi_net c1
      exact absurd c1 (by rw [hb_ge (show ¬ q < t.length by omega)]; decide)
    · replace c1 : (isD (hb t q)) = false := bi_nef c1
      show Rx X c0 m_Mod_readNumber 95 [.ref (c0 + 16), .int fr, .int (bi bel)] [] σ τ _
      refine Rx.go (fun _ => rfl) ?_
      refine Rx.callE rfl rfl rfl rfl (rz_here hN.1.z) ?_
      show Rx X c0 m_Mod_readNumber 99 [.ref (c0 + 16), .int fr, .int (bi bel)] [.int (hb t q)] σ τ _
      refine Rx.go (fun _ => rfl) ?_
      refine Rx.go (fun _ => rfl) ?_
      refine Rx.ite (fun c2 => ?_) (fun c2 => ?_)
      · replace c2 : ¬ (hb t q) = 46 := of_decide_eq_true c2
        show Rx X c0 m_Mod_readNumber 210 [.ref (c0 + 16), .int fr, .int (bi bel)] [] σ τ _
        show Rx X c0 m_Mod_readNumber 210 [.ref (c0 + 16), .int fr, .int (bi bel)] [] σ τ _
        exact hK ho hds hq (by rw [hb_ge (show ¬ q < t.length by omega)]; decide) hN
      · replace c2 : (hb t q) = 46 := Classical.not_not.mp (of_decide_eq_false c2)
        show Rx X c0 m_Mod_readNumber 104 [.ref (c0 + 16), .int fr, .int (bi bel)] [] σ τ _
        refine Rx.go (fun _ => rfl) ?_
        refine Rx.get rfl rfl ?_
        refine Rx.top (y := nI W) hN.2.2.2 ?_
        refine Rx.go (fun _ => rfl) ?_
        refine Rx.ite (fun c3 => ?_) (fun c3 => ?_)
        · replace c3 : 0 ≤ (nI W) := of_decide_eq_true c3
          show Rx X c0 m_Mod_readNumber 210 [.ref (c0 + 16), .int fr, .int (bi bel)] [] σ τ _
          show Rx X c0 m_Mod_readNumber 210 [.ref (c0 + 16), .int fr, .int (bi bel)] [] σ τ _
          exact hK ho hds hq (by rw [hb_ge (show ¬ q < t.length by omega)]; decide) hN
        · replace c3 : ¬ 0 ≤ (nI W) := of_decide_eq_false c3
          exact absurd (nI_pos' (by omega)) c3
  | succ m ih =>
    intro q ds σ τ hm hq hds ho hN
    have hl := hN.1.z.tl
    refine Rx.go (fun _ => rfl) ?_
    refine Rx.callE rfl rfl rfl rfl (rz_good hN.1.z) ?_
    show Rx X c0 m_Mod_readNumber 82 [.ref (c0 + 16), .int fr, .int (bi bel)] [.int 1] σ τ _
    refine Rx.go (fun _ => rfl) ?_
    show Rx X c0 m_Mod_readNumber 85 [.ref (c0 + 16), .int fr, .int (bi bel)] [] σ τ _
    refine Rx.go (fun _ => rfl) ?_
    refine Rx.callE rfl rfl rfl rfl (rz_here hN.1.z) ?_
    show Rx X c0 m_Mod_readNumber 89 [.ref (c0 + 16), .int fr, .int (bi bel)] [.int (hb t q)] σ τ _
    refine Rx.scallE rfl rfl rfl rfl (sx_Mod_isDigit X (hb t q)) ?_
    show Rx X c0 m_Mod_readNumber 92 [.ref (c0 + 16), .int fr, .int (bi bel)] [.int (bi (isD (hb t q)))] σ τ _
    refine Rx.go (fun _ => rfl) ?_
    refine Rx.ite (fun c1 => ?_) (fun c1 => ?_)
    · replace c1 : (isD (hb t q)) = true := bi_net c1
      show Rx X c0 m_Mod_readNumber 111 [.ref (c0 + 16), .int fr, .int (bi bel)] [] σ τ _
      refine Rx.go (fun _ => rfl) ?_
      refine Rx.callE rfl rfl rfl rfl (rz_here hN.1.z) ?_
      show Rx X c0 m_Mod_readNumber 115 [.ref (c0 + 16), .int fr, .int (bi bel)] [.int (hb t q)] σ τ _
      refine Rx.go (fun _ => rfl) ?_
      refine Rx.go (fun _ => rfl) ?_
      refine Rx.ite (fun c2 => ?_) (fun c2 => ?_)
      · replace c2 : ¬ (hb t q) = 46 := of_decide_eq_true c2
        show Rx X c0 m_Mod_readNumber 156 [.ref (c0 + 16), .int fr, .int (bi bel)] [] σ τ _
        refine Rx.go (fun _ => rfl) ?_
        refine Rx.get rfl rfl ?_
        refine Rx.top (y := nI ds.length) hN.2.1 ?_
        refine Rx.go (fun _ => rfl) ?_
        refine Rx.go (fun _ => rfl) ?_
        refine Rx.ite (fun c3 => ?_) (fun c3 => ?_)
        · replace c3 : ¬ (nI ds.length) = 18 := of_decide_eq_true c3
          have d18 : ¬ ds.length = 18 := fun e => c3 (by rw [e]; rfl)
          show Rx X c0 m_Mod_readNumber 174 [.ref (c0 + 16), .int fr, .int (bi bel)] [] σ τ _
          refine Rx.go (fun _ => rfl) ?_
          refine Rx.get rfl rfl ?_
          refine Rx.go (fun _ => rfl) ?_
          refine Rx.get rfl rfl ?_
          refine Rx.top (y := nI ds.length) hN.2.1 ?_
          refine Rx.go (fun _ => rfl) ?_
          refine Rx.callE rfl rfl rfl rfl (rz_here hN.1.z) ?_
          show Rx X c0 m_Mod_readNumber 186 [.ref (c0 + 16), .int fr, .int (bi bel)] [.int (hb t q), .int (nI ds.length), .ref (c0 + 25)] σ τ _
          refine Rx.top (y := nI (t.getD q 0)) (hb_lt (by omega)) ?_
          refine Rx.ast 21 rfl rfl (nI_ix (show ds.length < 40 by omega) (by decide)) ?_
          refine Rx.go (fun _ => rfl) ?_
          refine Rx.go (fun _ => rfl) ?_
          refine Rx.get rfl rfl ?_
          refine Rx.top (y := nI ds.length) hN.2.1 ?_
          refine Rx.go (fun _ => rfl) ?_
          refine Rx.go (fun _ => rfl) ?_
          refine Rx.top (y := nI (ds.length + 1)) (nI_1 _) ?_
          refine Rx.put rfl (by decide) rfl rfl ?_
          refine Rx.go (fun _ => rfl) ?_
          refine Rx.go (fun _ => rfl) ?_
          refine Rx.get rfl rfl ?_
          refine Rx.top (y := nI q) hN.1.f16 ?_
          refine Rx.go (fun _ => rfl) ?_
          refine Rx.go (fun _ => rfl) ?_
          refine Rx.top (y := nI (q + 1)) (nI_1 _) ?_
          refine Rx.put rfl (by decide) rfl rfl ?_
          refine Rx.go (fun _ => rfl) ?_
          show Rx X c0 m_Mod_readNumber 78 [.ref (c0 + 16), .int fr, .int (bi bel)] [] (upd (upd σ 22 (nI (ds.length + 1))) 16 (nI (q + 1))) (va_up τ 21 (upd (τ 21) (nI ds.length).toNatClampNeg (nI (t.getD q 0)))) _
          exact ih (q + 1) (ds ++ [t.getD q 0]) _ _ (by omega) (by omega) (by simp only [List.length_append, List.length_cons, List.length_nil]; omega) (((if_pos c1).trans (if_neg d18)).symm.trans ho) (hN.dig (by omega) (by omega))
        · replace c3 : (nI ds.length) = 18 := Classical.not_not.mp (of_decide_eq_false c3)
          have d18 : ds.length = 18 := (nI_eq (b := 18) (by omega) (by decide)).mp c3
          show Rx X c0 m_Mod_readNumber 165 [.ref (c0 + 16), .int fr, .int (bi bel)] [] σ τ _
          refine Rx.go (fun _ => rfl) ?_
          refine Rx.go (fun _ => rfl) ?_
          refine Rx.go (fun _ => rfl) ?_
          refine Rx.get rfl rfl ?_
          refine Rx.top (y := nI q) hN.1.f16 ?_
          refine Rx.callE rfl rfl rfl rfl (rx_fail X c0 _ _ _ _) ?_
          have hS17 := hN.1.g (c := 4) (w := nI q) (wn := q) (by decide) rfl
          have hd17 : rfail σ 4 (nI q) 22 = nI ds.length := (rfail_22 (by decide) (by decide)).trans hN.2.1
          show Rx X c0 m_Mod_readNumber 174 [.ref (c0 + 16), .int fr, .int (bi bel)] [] (rfail σ 4 (nI q)) τ _
          refine Rx.go (fun _ => rfl) ?_
          refine Rx.get rfl rfl ?_
          refine Rx.go (fun _ => rfl) ?_
          refine Rx.get rfl rfl ?_
          refine Rx.go (fun _ => rfl) ?_
          refine Rx.callE rfl rfl rfl rfl (rg_here hS17 (by omega)) ?_
          show Rx X c0 m_Mod_readNumber 186 [.ref (c0 + 16), .int fr, .int (bi bel)] [.int (rhere (rfail σ 4 (nI q)) τ), .int ((rfail σ 4 (nI q)) 22), .ref (c0 + 25)] (rfail σ 4 (nI q)) τ _
          refine Rx.ast 21 rfl rfl (by rw [show (rfail σ 4 (nI q)) 22 = nI ds.length from hd17]; exact nI_ix (show ds.length < 40 by omega) (by decide)) ?_
          have hS18 : RG σ0 τ0 t q D.length 0 (rfail σ 4 (nI q)) (va_up τ 21 (upd (τ 21) ((rfail σ 4 (nI q)) 22).toNatClampNeg (rhere (rfail σ 4 (nI q)) τ))) := RG.ut hS17
          refine Rx.go (fun _ => rfl) ?_
          refine Rx.go (fun _ => rfl) ?_
          refine Rx.get rfl rfl ?_
          refine Rx.go (fun _ => rfl) ?_
          refine Rx.go (fun _ => rfl) ?_
          refine Rx.put rfl (by decide) rfl rfl ?_
          have hS19 := RG.upn hS18 (i := 22) (x := ((rfail σ 4 (nI q)) 22) + 1) (by omega)
          refine Rx.go (fun _ => rfl) ?_
          refine Rx.go (fun _ => rfl) ?_
          refine Rx.get rfl rfl ?_
          refine Rx.go (fun _ => rfl) ?_
          refine Rx.go (fun _ => rfl) ?_
          refine Rx.put rfl (by decide) rfl rfl ?_
          have hS20 := hS19.at1
          refine Rx.go (fun _ => rfl) ?_
          refine Rx.go (fun _ => rfl) ?_
          refine Rx.callE rfl rfl rfl rfl (rg_good hS20) ?_
          show Rx X c0 m_Mod_readNumber 82 [.ref (c0 + 16), .int fr, .int (bi bel)] [.int 0] (upd (upd (rfail σ 4 (nI q)) 22 (((rfail σ 4 (nI q)) 22) + 1)) 16 (((upd (rfail σ 4 (nI q)) 22 (((rfail σ 4 (nI q)) 22) + 1)) 16) + 1)) (va_up τ 21 (upd (τ 21) ((rfail σ 4 (nI q)) 22).toNatClampNeg (rhere (rfail σ 4 (nI q)) τ))) _
          refine Rx.go (fun _ => rfl) ?_
          show Rx X c0 m_Mod_readNumber 210 [.ref (c0 + 16), .int fr, .int (bi bel)] [] (upd (upd (rfail σ 4 (nI q)) 22 (((rfail σ 4 (nI q)) 22) + 1)) 16 (((upd (rfail σ 4 (nI q)) 22 (((rfail σ 4 (nI q)) 22) + 1)) 16) + 1)) (va_up τ 21 (upd (τ 21) ((rfail σ 4 (nI q)) 22).toNatClampNeg (rhere (rfail σ 4 (nI q)) τ))) _
          refine Rx.go (fun _ => rfl) ?_
          refine Rx.callE rfl rfl rfl rfl (rg_good hS20) ?_
          show Rx X c0 m_Mod_readNumber 214 [.ref (c0 + 16), .int fr, .int (bi bel)] [.int 0] (upd (upd (rfail σ 4 (nI q)) 22 (((rfail σ 4 (nI q)) 22) + 1)) 16 (((upd (rfail σ 4 (nI q)) 22 (((rfail σ 4 (nI q)) 22) + 1)) 16) + 1)) (va_up τ 21 (upd (τ 21) ((rfail σ 4 (nI q)) 22).toNatClampNeg (rhere (rfail σ 4 (nI q)) τ))) _
          refine Rx.go (fun _ => rfl) ?_
          show Rx X c0 m_Mod_readNumber 223 [.ref (c0 + 16), .int fr, .int (bi bel)] [] (upd (upd (rfail σ 4 (nI q)) 22 (((rfail σ 4 (nI q)) 22) + 1)) 16 (((upd (rfail σ 4 (nI q)) 22 (((rfail σ 4 (nI q)) 22) + 1)) 16) + 1)) (va_up τ 21 (upd (τ 21) ((rfail σ 4 (nI q)) 22).toNatClampNeg (rhere (rfail σ 4 (nI q)) τ))) _
          exact Rx.ret rfl rfl (hF (show (false, q, ds) = o0 from ((if_pos c1).trans (if_pos d18)).symm.trans ho) hS20 (by omega))
      · replace c2 : (hb t q) = 46 := Classical.not_not.mp (of_decide_eq_false c2)
        exact absurd (show isD (hb t q) = true from c1) (by rw [c2]; decide)
    · replace c1 : (isD (hb t q)) = false := bi_nef c1
      show Rx X c0 m_Mod_readNumber 95 [.ref (c0 + 16), .int fr, .int (bi bel)] [] σ τ _
      refine Rx.go (fun _ => rfl) ?_
      refine Rx.callE rfl rfl rfl rfl (rz_here hN.1.z) ?_
      show Rx X c0 m_Mod_readNumber 99 [.ref (c0 + 16), .int fr, .int (bi bel)] [.int (hb t q)] σ τ _
      refine Rx.go (fun _ => rfl) ?_
      refine Rx.go (fun _ => rfl) ?_
      refine Rx.ite (fun c4 => ?_) (fun c4 => ?_)
      · replace c4 : ¬ (hb t q) = 46 := of_decide_eq_true c4
        show Rx X c0 m_Mod_readNumber 210 [.ref (c0 + 16), .int fr, .int (bi bel)] [] σ τ _
        show Rx X c0 m_Mod_readNumber 210 [.ref (c0 + 16), .int fr, .int (bi bel)] [] σ τ _
        exact hK ((if_neg (by rw [c1]; decide)).symm.trans ho) hds hq c1 hN
      · replace c4 : (hb t q) = 46 := Classical.not_not.mp (of_decide_eq_false c4)
        show Rx X c0 m_Mod_readNumber 104 [.ref (c0 + 16), .int fr, .int (bi bel)] [] σ τ _
        refine Rx.go (fun _ => rfl) ?_
        refine Rx.get rfl rfl ?_
        refine Rx.top (y := nI W) hN.2.2.2 ?_
        refine Rx.go (fun _ => rfl) ?_
        refine Rx.ite (fun c5 => ?_) (fun c5 => ?_)
        · replace c5 : 0 ≤ (nI W) := of_decide_eq_true c5
          show Rx X c0 m_Mod_readNumber 210 [.ref (c0 + 16), .int fr, .int (bi bel)] [] σ τ _
          show Rx X c0 m_Mod_readNumber 210 [.ref (c0 + 16), .int fr, .int (bi bel)] [] σ τ _
          exact hK ((if_neg (by rw [c1]; decide)).symm.trans ho) hds hq c1 hN
        · replace c5 : ¬ 0 ≤ (nI W) := of_decide_eq_false c5
          exact absurd (nI_pos' (by omega)) c5
set_option maxRecDepth 100000 in
set_option maxHeartbeats 2000000 in
theorem rr_n1_l {X : ev_X} {c0 : Nat} {σ0 : Nat → Int32} {τ0 : Nat → Nat → Int32} {t D : List Nat} {k qq db : Nat} (hD : D.length ≤ 250) (bel : Bool) (fr : Int32) {Q : Option Value → (Nat → Int32) → (Nat → Nat → Int32) → Prop} {o0 : Bool × Nat × List Nat} (hK1 : ∀ {q : Nat} {ds : List Nat} {σ : Nat → Int32} {τ : Nat → Nat → Int32}, (true, q, ds) = o0 → ds.length ≤ 18 → q ≤ t.length → isD (hb t q) = false → ¬ hb t q = 46 → RN σ0 τ0 t q D k qq db ds none σ τ → Rx X c0 m_Mod_readNumber 210 [.ref (c0 + 16), .int fr, .int (bi bel)] [] σ τ Q) (hK2 : ∀ {q : Nat} {ds : List Nat} {σ : Nat → Int32} {τ : Nat → Nat → Int32}, (true, q, ds) = o0 → ds.length ≤ 18 → q < t.length → hb t q = 46 → isD (hb t (q + 1)) = true → RN σ0 τ0 t (q + 1) D k qq db ds (some ds.length) σ τ → Rx X c0 m_Mod_readNumber 78 [.ref (c0 + 16), .int fr, .int (bi bel)] [] σ τ Q) (hF : ∀ {w j : Nat} {ds : List Nat} {σ : Nat → Int32} {τ : Nat → Nat → Int32}, (false, w, ds) = o0 → RG σ0 τ0 t w D.length j σ τ → j ≤ 10 → Q none σ τ) (hF2 : ∀ {q j : Nat} {ds : List Nat} {σ : Nat → Int32} {τ : Nat → Nat → Int32}, (true, q, ds) = o0 → q < t.length → hb t q = 46 → isD (hb t (q + 1)) = false → RG σ0 τ0 t (q + 1) D.length j σ τ → j ≤ 10 → Q none σ τ) : ∀ (m q : Nat) (ds : List Nat) (σ : Nat → Int32) (τ : Nat → Nat → Int32) (hm : q + m = t.length) (hq : q ≤ t.length) (hds : ds.length ≤ 18) (ho : rD t m q ds = o0) (hN : RN σ0 τ0 t q D k qq db ds none σ τ), Rx X c0 m_Mod_readNumber 78 [.ref (c0 + 16), .int fr, .int (bi bel)] [] σ τ Q := by
  intro m
  induction m with
  | zero =>
    intro q ds σ τ hm hq hds ho hN
    have hl := hN.1.z.tl
    refine Rx.go (fun _ => rfl) ?_
    refine Rx.callE rfl rfl rfl rfl (rz_good hN.1.z) ?_
    show Rx X c0 m_Mod_readNumber 82 [.ref (c0 + 16), .int fr, .int (bi bel)] [.int 1] σ τ _
    refine Rx.go (fun _ => rfl) ?_
    show Rx X c0 m_Mod_readNumber 85 [.ref (c0 + 16), .int fr, .int (bi bel)] [] σ τ _
    refine Rx.go (fun _ => rfl) ?_
    refine Rx.callE rfl rfl rfl rfl (rz_here hN.1.z) ?_
    show Rx X c0 m_Mod_readNumber 89 [.ref (c0 + 16), .int fr, .int (bi bel)] [.int (hb t q)] σ τ _
    refine Rx.scallE rfl rfl rfl rfl (sx_Mod_isDigit X (hb t q)) ?_
    show Rx X c0 m_Mod_readNumber 92 [.ref (c0 + 16), .int fr, .int (bi bel)] [.int (bi (isD (hb t q)))] σ τ _
    refine Rx.go (fun _ => rfl) ?_
    refine Rx.ite (fun c1 => ?_) (fun c1 => ?_)
    · replace c1 : (isD (hb t q)) = true := bi_net c1
      exact absurd c1 (by rw [hb_ge (show ¬ q < t.length by omega)]; decide)
    · replace c1 : (isD (hb t q)) = false := bi_nef c1
      show Rx X c0 m_Mod_readNumber 95 [.ref (c0 + 16), .int fr, .int (bi bel)] [] σ τ _
      refine Rx.go (fun _ => rfl) ?_
      refine Rx.callE rfl rfl rfl rfl (rz_here hN.1.z) ?_
      show Rx X c0 m_Mod_readNumber 99 [.ref (c0 + 16), .int fr, .int (bi bel)] [.int (hb t q)] σ τ _
      refine Rx.go (fun _ => rfl) ?_
      refine Rx.go (fun _ => rfl) ?_
      refine Rx.ite (fun c2 => ?_) (fun c2 => ?_)
      · replace c2 : ¬ (hb t q) = 46 := of_decide_eq_true c2
        show Rx X c0 m_Mod_readNumber 210 [.ref (c0 + 16), .int fr, .int (bi bel)] [] σ τ _
        show Rx X c0 m_Mod_readNumber 210 [.ref (c0 + 16), .int fr, .int (bi bel)] [] σ τ _
        exact hK1 (ho) hds hq c1 c2 hN
      · replace c2 : (hb t q) = 46 := Classical.not_not.mp (of_decide_eq_false c2)
        exact absurd c2 (by rw [hb_ge (show ¬ q < t.length by omega)]; decide)
  | succ m ih =>
    intro q ds σ τ hm hq hds ho hN
    have hl := hN.1.z.tl
    refine Rx.go (fun _ => rfl) ?_
    refine Rx.callE rfl rfl rfl rfl (rz_good hN.1.z) ?_
    show Rx X c0 m_Mod_readNumber 82 [.ref (c0 + 16), .int fr, .int (bi bel)] [.int 1] σ τ _
    refine Rx.go (fun _ => rfl) ?_
    show Rx X c0 m_Mod_readNumber 85 [.ref (c0 + 16), .int fr, .int (bi bel)] [] σ τ _
    refine Rx.go (fun _ => rfl) ?_
    refine Rx.callE rfl rfl rfl rfl (rz_here hN.1.z) ?_
    show Rx X c0 m_Mod_readNumber 89 [.ref (c0 + 16), .int fr, .int (bi bel)] [.int (hb t q)] σ τ _
    refine Rx.scallE rfl rfl rfl rfl (sx_Mod_isDigit X (hb t q)) ?_
    show Rx X c0 m_Mod_readNumber 92 [.ref (c0 + 16), .int fr, .int (bi bel)] [.int (bi (isD (hb t q)))] σ τ _
    refine Rx.go (fun _ => rfl) ?_
    refine Rx.ite (fun c1 => ?_) (fun c1 => ?_)
    · replace c1 : (isD (hb t q)) = true := bi_net c1
      show Rx X c0 m_Mod_readNumber 111 [.ref (c0 + 16), .int fr, .int (bi bel)] [] σ τ _
      refine Rx.go (fun _ => rfl) ?_
      refine Rx.callE rfl rfl rfl rfl (rz_here hN.1.z) ?_
      show Rx X c0 m_Mod_readNumber 115 [.ref (c0 + 16), .int fr, .int (bi bel)] [.int (hb t q)] σ τ _
      refine Rx.go (fun _ => rfl) ?_
      refine Rx.go (fun _ => rfl) ?_
      refine Rx.ite (fun c2 => ?_) (fun c2 => ?_)
      · replace c2 : ¬ (hb t q) = 46 := of_decide_eq_true c2
        show Rx X c0 m_Mod_readNumber 156 [.ref (c0 + 16), .int fr, .int (bi bel)] [] σ τ _
        refine Rx.go (fun _ => rfl) ?_
        refine Rx.get rfl rfl ?_
        refine Rx.top (y := nI ds.length) hN.2.1 ?_
        refine Rx.go (fun _ => rfl) ?_
        refine Rx.go (fun _ => rfl) ?_
        refine Rx.ite (fun c3 => ?_) (fun c3 => ?_)
        · replace c3 : ¬ (nI ds.length) = 18 := of_decide_eq_true c3
          have d18 : ¬ ds.length = 18 := fun e => c3 (by rw [e]; rfl)
          show Rx X c0 m_Mod_readNumber 174 [.ref (c0 + 16), .int fr, .int (bi bel)] [] σ τ _
          refine Rx.go (fun _ => rfl) ?_
          refine Rx.get rfl rfl ?_
          refine Rx.go (fun _ => rfl) ?_
          refine Rx.get rfl rfl ?_
          refine Rx.top (y := nI ds.length) hN.2.1 ?_
          refine Rx.go (fun _ => rfl) ?_
          refine Rx.callE rfl rfl rfl rfl (rz_here hN.1.z) ?_
          show Rx X c0 m_Mod_readNumber 186 [.ref (c0 + 16), .int fr, .int (bi bel)] [.int (hb t q), .int (nI ds.length), .ref (c0 + 25)] σ τ _
          refine Rx.top (y := nI (t.getD q 0)) (hb_lt (by omega)) ?_
          refine Rx.ast 21 rfl rfl (nI_ix (show ds.length < 40 by omega) (by decide)) ?_
          refine Rx.go (fun _ => rfl) ?_
          refine Rx.go (fun _ => rfl) ?_
          refine Rx.get rfl rfl ?_
          refine Rx.top (y := nI ds.length) hN.2.1 ?_
          refine Rx.go (fun _ => rfl) ?_
          refine Rx.go (fun _ => rfl) ?_
          refine Rx.top (y := nI (ds.length + 1)) (nI_1 _) ?_
          refine Rx.put rfl (by decide) rfl rfl ?_
          refine Rx.go (fun _ => rfl) ?_
          refine Rx.go (fun _ => rfl) ?_
          refine Rx.get rfl rfl ?_
          refine Rx.top (y := nI q) hN.1.f16 ?_
          refine Rx.go (fun _ => rfl) ?_
          refine Rx.go (fun _ => rfl) ?_
          refine Rx.top (y := nI (q + 1)) (nI_1 _) ?_
          refine Rx.put rfl (by decide) rfl rfl ?_
          refine Rx.go (fun _ => rfl) ?_
          show Rx X c0 m_Mod_readNumber 78 [.ref (c0 + 16), .int fr, .int (bi bel)] [] (upd (upd σ 22 (nI (ds.length + 1))) 16 (nI (q + 1))) (va_up τ 21 (upd (τ 21) (nI ds.length).toNatClampNeg (nI (t.getD q 0)))) _
          exact ih (q + 1) (ds ++ [t.getD q 0]) _ _ (by omega) (by omega) (by simp only [List.length_append, List.length_cons, List.length_nil]; omega) (((if_pos c1).trans (if_neg d18)).symm.trans ho) (hN.dig (by omega) (by omega))
        · replace c3 : (nI ds.length) = 18 := Classical.not_not.mp (of_decide_eq_false c3)
          have d18 : ds.length = 18 := (nI_eq (b := 18) (by omega) (by decide)).mp c3
          show Rx X c0 m_Mod_readNumber 165 [.ref (c0 + 16), .int fr, .int (bi bel)] [] σ τ _
          refine Rx.go (fun _ => rfl) ?_
          refine Rx.go (fun _ => rfl) ?_
          refine Rx.go (fun _ => rfl) ?_
          refine Rx.get rfl rfl ?_
          refine Rx.top (y := nI q) hN.1.f16 ?_
          refine Rx.callE rfl rfl rfl rfl (rx_fail X c0 _ _ _ _) ?_
          have hS21 := hN.1.g (c := 4) (w := nI q) (wn := q) (by decide) rfl
          have hd21 : rfail σ 4 (nI q) 22 = nI ds.length := (rfail_22 (by decide) (by decide)).trans hN.2.1
          show Rx X c0 m_Mod_readNumber 174 [.ref (c0 + 16), .int fr, .int (bi bel)] [] (rfail σ 4 (nI q)) τ _
          refine Rx.go (fun _ => rfl) ?_
          refine Rx.get rfl rfl ?_
          refine Rx.go (fun _ => rfl) ?_
          refine Rx.get rfl rfl ?_
          refine Rx.go (fun _ => rfl) ?_
          refine Rx.callE rfl rfl rfl rfl (rg_here hS21 (by omega)) ?_
          show Rx X c0 m_Mod_readNumber 186 [.ref (c0 + 16), .int fr, .int (bi bel)] [.int (rhere (rfail σ 4 (nI q)) τ), .int ((rfail σ 4 (nI q)) 22), .ref (c0 + 25)] (rfail σ 4 (nI q)) τ _
          refine Rx.ast 21 rfl rfl (by rw [show (rfail σ 4 (nI q)) 22 = nI ds.length from hd21]; exact nI_ix (show ds.length < 40 by omega) (by decide)) ?_
          have hS22 : RG σ0 τ0 t q D.length 0 (rfail σ 4 (nI q)) (va_up τ 21 (upd (τ 21) ((rfail σ 4 (nI q)) 22).toNatClampNeg (rhere (rfail σ 4 (nI q)) τ))) := RG.ut hS21
          refine Rx.go (fun _ => rfl) ?_
          refine Rx.go (fun _ => rfl) ?_
          refine Rx.get rfl rfl ?_
          refine Rx.go (fun _ => rfl) ?_
          refine Rx.go (fun _ => rfl) ?_
          refine Rx.put rfl (by decide) rfl rfl ?_
          have hS23 := RG.upn hS22 (i := 22) (x := ((rfail σ 4 (nI q)) 22) + 1) (by omega)
          refine Rx.go (fun _ => rfl) ?_
          refine Rx.go (fun _ => rfl) ?_
          refine Rx.get rfl rfl ?_
          refine Rx.go (fun _ => rfl) ?_
          refine Rx.go (fun _ => rfl) ?_
          refine Rx.put rfl (by decide) rfl rfl ?_
          have hS24 := hS23.at1
          refine Rx.go (fun _ => rfl) ?_
          refine Rx.go (fun _ => rfl) ?_
          refine Rx.callE rfl rfl rfl rfl (rg_good hS24) ?_
          show Rx X c0 m_Mod_readNumber 82 [.ref (c0 + 16), .int fr, .int (bi bel)] [.int 0] (upd (upd (rfail σ 4 (nI q)) 22 (((rfail σ 4 (nI q)) 22) + 1)) 16 (((upd (rfail σ 4 (nI q)) 22 (((rfail σ 4 (nI q)) 22) + 1)) 16) + 1)) (va_up τ 21 (upd (τ 21) ((rfail σ 4 (nI q)) 22).toNatClampNeg (rhere (rfail σ 4 (nI q)) τ))) _
          refine Rx.go (fun _ => rfl) ?_
          show Rx X c0 m_Mod_readNumber 210 [.ref (c0 + 16), .int fr, .int (bi bel)] [] (upd (upd (rfail σ 4 (nI q)) 22 (((rfail σ 4 (nI q)) 22) + 1)) 16 (((upd (rfail σ 4 (nI q)) 22 (((rfail σ 4 (nI q)) 22) + 1)) 16) + 1)) (va_up τ 21 (upd (τ 21) ((rfail σ 4 (nI q)) 22).toNatClampNeg (rhere (rfail σ 4 (nI q)) τ))) _
          refine Rx.go (fun _ => rfl) ?_
          refine Rx.callE rfl rfl rfl rfl (rg_good hS24) ?_
          show Rx X c0 m_Mod_readNumber 214 [.ref (c0 + 16), .int fr, .int (bi bel)] [.int 0] (upd (upd (rfail σ 4 (nI q)) 22 (((rfail σ 4 (nI q)) 22) + 1)) 16 (((upd (rfail σ 4 (nI q)) 22 (((rfail σ 4 (nI q)) 22) + 1)) 16) + 1)) (va_up τ 21 (upd (τ 21) ((rfail σ 4 (nI q)) 22).toNatClampNeg (rhere (rfail σ 4 (nI q)) τ))) _
          refine Rx.go (fun _ => rfl) ?_
          show Rx X c0 m_Mod_readNumber 223 [.ref (c0 + 16), .int fr, .int (bi bel)] [] (upd (upd (rfail σ 4 (nI q)) 22 (((rfail σ 4 (nI q)) 22) + 1)) 16 (((upd (rfail σ 4 (nI q)) 22 (((rfail σ 4 (nI q)) 22) + 1)) 16) + 1)) (va_up τ 21 (upd (τ 21) ((rfail σ 4 (nI q)) 22).toNatClampNeg (rhere (rfail σ 4 (nI q)) τ))) _
          exact Rx.ret rfl rfl (hF (show (false, q, ds) = o0 from ((if_pos c1).trans (if_pos d18)).symm.trans ho) hS24 (by omega))
      · replace c2 : (hb t q) = 46 := Classical.not_not.mp (of_decide_eq_false c2)
        exact absurd c1 (by rw [c2]; decide)
    · replace c1 : (isD (hb t q)) = false := bi_nef c1
      show Rx X c0 m_Mod_readNumber 95 [.ref (c0 + 16), .int fr, .int (bi bel)] [] σ τ _
      refine Rx.go (fun _ => rfl) ?_
      refine Rx.callE rfl rfl rfl rfl (rz_here hN.1.z) ?_
      show Rx X c0 m_Mod_readNumber 99 [.ref (c0 + 16), .int fr, .int (bi bel)] [.int (hb t q)] σ τ _
      refine Rx.go (fun _ => rfl) ?_
      refine Rx.go (fun _ => rfl) ?_
      refine Rx.ite (fun c4 => ?_) (fun c4 => ?_)
      · replace c4 : ¬ (hb t q) = 46 := of_decide_eq_true c4
        show Rx X c0 m_Mod_readNumber 210 [.ref (c0 + 16), .int fr, .int (bi bel)] [] σ τ _
        show Rx X c0 m_Mod_readNumber 210 [.ref (c0 + 16), .int fr, .int (bi bel)] [] σ τ _
        exact hK1 ((if_neg (by rw [c1]; decide)).symm.trans ho) hds hq c1 c4 hN
      · replace c4 : (hb t q) = 46 := Classical.not_not.mp (of_decide_eq_false c4)
        show Rx X c0 m_Mod_readNumber 104 [.ref (c0 + 16), .int fr, .int (bi bel)] [] σ τ _
        refine Rx.go (fun _ => rfl) ?_
        refine Rx.get rfl rfl ?_
        refine Rx.top (y := -1) hN.2.2.2 ?_
        refine Rx.go (fun _ => rfl) ?_
        show Rx X c0 m_Mod_readNumber 111 [.ref (c0 + 16), .int fr, .int (bi bel)] [] σ τ _
        refine Rx.go (fun _ => rfl) ?_
        refine Rx.callE rfl rfl rfl rfl (rz_here hN.1.z) ?_
        show Rx X c0 m_Mod_readNumber 115 [.ref (c0 + 16), .int fr, .int (bi bel)] [.int (hb t q)] σ τ _
        refine Rx.go (fun _ => rfl) ?_
        refine Rx.go (fun _ => rfl) ?_
        refine Rx.ite (fun c5 => ?_) (fun c5 => ?_)
        · replace c5 : ¬ (hb t q) = 46 := of_decide_eq_true c5
          exact absurd c4 c5
        · replace c5 : (hb t q) = 46 := Classical.not_not.mp (of_decide_eq_false c5)
          skip
          show Rx X c0 m_Mod_readNumber 120 [.ref (c0 + 16), .int fr, .int (bi bel)] [] σ τ _
          refine Rx.go (fun _ => rfl) ?_
          refine Rx.go (fun _ => rfl) ?_
          refine Rx.get rfl rfl ?_
          refine Rx.top (y := nI ds.length) hN.2.1 ?_
          refine Rx.put rfl (by decide) rfl rfl ?_
          refine Rx.go (fun _ => rfl) ?_
          refine Rx.go (fun _ => rfl) ?_
          refine Rx.get rfl rfl ?_
          refine Rx.top (y := nI q) hN.1.f16 ?_
          refine Rx.go (fun _ => rfl) ?_
          refine Rx.go (fun _ => rfl) ?_
          refine Rx.top (y := nI (q + 1)) (nI_1 _) ?_
          refine Rx.put rfl (by decide) rfl rfl ?_
          have c46 : hb t q = 46 := c4
          have h46 := hb_in (t := t) (q := q) (by rw [c46]; decide)
          have hM25 := hN.dot h46
          refine Rx.go (fun _ => rfl) ?_
          refine Rx.callE rfl rfl rfl rfl (rz_here hM25.1.z) ?_
          show Rx X c0 m_Mod_readNumber 142 [.ref (c0 + 16), .int fr, .int (bi bel)] [.int (hb t (q + 1))] (upd (upd σ 23 (nI ds.length)) 16 (nI (q + 1))) τ _
          refine Rx.scallE rfl rfl rfl rfl (sx_Mod_isDigit X (hb t (q + 1))) ?_
          show Rx X c0 m_Mod_readNumber 145 [.ref (c0 + 16), .int fr, .int (bi bel)] [.int (bi (isD (hb t (q + 1))))] (upd (upd σ 23 (nI ds.length)) 16 (nI (q + 1))) τ _
          refine Rx.go (fun _ => rfl) ?_
          refine Rx.ite (fun c6 => ?_) (fun c6 => ?_)
          · replace c6 : (isD (hb t (q + 1))) = true := bi_net c6
            show Rx X c0 m_Mod_readNumber 78 [.ref (c0 + 16), .int fr, .int (bi bel)] [] (upd (upd σ 23 (nI ds.length)) 16 (nI (q + 1))) τ _
            show Rx X c0 m_Mod_readNumber 78 [.ref (c0 + 16), .int fr, .int (bi bel)] [] (upd (upd σ 23 (nI ds.length)) 16 (nI (q + 1))) τ _
            exact hK2 ((if_neg (by rw [c1]; decide)).symm.trans ho) hds h46 c46 c6 hM25
          · replace c6 : (isD (hb t (q + 1))) = false := bi_nef c6
            show Rx X c0 m_Mod_readNumber 148 [.ref (c0 + 16), .int fr, .int (bi bel)] [] (upd (upd σ 23 (nI ds.length)) 16 (nI (q + 1))) τ _
            refine Rx.go (fun _ => rfl) ?_
            refine Rx.go (fun _ => rfl) ?_
            refine Rx.callP rfl rfl rfl rfl (rs_ov_f false hM25.1 (fun h => Bool.false_ne_true h.2)) ?_
            intro σ26 τ26 hS26
            show Rx X c0 m_Mod_readNumber 153 [.ref (c0 + 16), .int fr, .int (bi bel)] [] σ26 τ26 _
            refine Rx.go (fun _ => rfl) ?_
            refine Rx.go (fun _ => rfl) ?_
            refine Rx.callE rfl rfl rfl rfl (rg_good hS26) ?_
            show Rx X c0 m_Mod_readNumber 82 [.ref (c0 + 16), .int fr, .int (bi bel)] [.int 0] σ26 τ26 _
            refine Rx.go (fun _ => rfl) ?_
            show Rx X c0 m_Mod_readNumber 210 [.ref (c0 + 16), .int fr, .int (bi bel)] [] σ26 τ26 _
            refine Rx.go (fun _ => rfl) ?_
            refine Rx.callE rfl rfl rfl rfl (rg_good hS26) ?_
            show Rx X c0 m_Mod_readNumber 214 [.ref (c0 + 16), .int fr, .int (bi bel)] [.int 0] σ26 τ26 _
            refine Rx.go (fun _ => rfl) ?_
            show Rx X c0 m_Mod_readNumber 223 [.ref (c0 + 16), .int fr, .int (bi bel)] [] σ26 τ26 _
            exact Rx.ret rfl rfl (hF2 ((if_neg (by rw [c1]; decide)).symm.trans ho) h46 c46 c6 hS26 (by omega))
