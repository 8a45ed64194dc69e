/-! The class reads items and tags. (rows laid by wip/whole/cr2.py) -/
theorem L45 : isL 45 = false := by decide
theorem D45 : isD 45 = false := by decide
def smlN (b : Nat) : Nat := if 65 ≤ b ∧ b ≤ 90 then b + 32 else b
set_option maxRecDepth 100000 in
theorem sml_all : ∀ b : Nat, b < 256 → sml (nI b) = nI (smlN b) := by decide +kernel
set_option maxRecDepth 100000 in
theorem smlN_lt : ∀ b : Nat, b < 256 → smlN b < 256 := by decide +kernel
def eN (b : Nat) : Nat := if b = 110 then 10 else if b = 114 then 13 else if b = 116 then 9 else b
set_option maxRecDepth 100000 in
theorem esc_all : ∀ b : Nat, b < 256 → 0 ≤ esc (nI b) → esc (nI b) = nI (eN b) := by decide +kernel
set_option maxRecDepth 100000 in
theorem eN_lt : ∀ b : Nat, b < 256 → eN b < 256 := by decide +kernel
theorem esc_m1 : ¬ 0 ≤ esc (-1) := by decide
theorem esc_in {t : List Nat} {q : Nat} (h : 0 ≤ esc (hb t q)) : q < t.length := hb_in (fun e => esc_m1 (by rw [e] at h; exact h))
/-- a text's items from q on -/
def sI (t : List Nat) : Nat → Nat → List Nat → Bool × Nat × List Nat
  | 0, _, acc => (false, t.length, acc)
  | m + 1, q, acc => if t.length ≤ q then (false, t.length, acc) else if hb t q = 34 then (true, q + 1, acc) else if acc.length = 64 then (false, q, acc) else if hb t q = 92 then (if q + 1 = t.length then (false, q + 1, acc) else if 0 ≤ esc (hb t (q + 1)) then sI t m (q + 2) (acc ++ [eN (t.getD (q + 1) 0)]) else (false, q, acc)) else if hb t q < 32 then (false, q, acc) else if 126 < hb t q then (false, q, acc) else sI t m (q + 1) (acc ++ [t.getD q 0])
set_option maxRecDepth 100000 in
set_option maxHeartbeats 2000000 in
theorem cr_it_l {X : ev_X} {c0 n z : Nat} {F0 : Nat → Option va_E} {t : List Nat} {s p fp : Int32} {nu : Int64} {tl : List Nat} : ∀ (m q : Nat) (acc : List Nat) (F : Nat → Option va_E) (bv iv : Value) (hm : t.length ≤ q + m) (ha : acc.length ≤ 64) (hq : q ≤ t.length) (hC : CR c0 F0 t s nu p acc tl 0 fp F), Ex X m_Reader_readItems 2 [.ref (c0 + 8), .ref (c0 + 1), .int (nI q), bv, iv] [] (hp c0 n z F) (rP c0 n z F0 t (sI t m q acc) (fun b F1 => CR c0 F0 t s nu p b tl 0 fp F1)) := by
  intro m
  induction m with
  | zero =>
    intro q acc F bv iv hm ha hq hC
    have hl := hC.rt.le
    refine Ex.nx rfl ?_
    refine Ex.nx rfl ?_
    refine CR.sz hC (Or.inl ⟨rfl, rfl⟩) rfl rfl rfl ?_
    show Ex X m_Reader_readItems 7 [.ref (c0 + 8), .ref (c0 + 1), .int (nI q), bv, iv] [.int (nI t.length), .int (nI q)] (hp c0 n _ _) _
    refine Ex.nx rfl ?_
    refine Ex.ite (fun c1 => ?_) (fun c1 => ?_)
    · replace c1 : (nI t.length) ≤ (nI q) := of_decide_eq_true c1
      show Ex X m_Reader_readItems 155 [.ref (c0 + 8), .ref (c0 + 1), .int (nI q), bv, iv] [] (hp c0 n _ _) _
      refine Ex.nx rfl ?_
      refine Ex.nx rfl ?_
      refine Ex.nx rfl ?_
      refine CR.sz hC (Or.inl ⟨rfl, rfl⟩) rfl rfl rfl ?_
      show Ex X m_Reader_readItems 161 [.ref (c0 + 8), .ref (c0 + 1), .int (nI q), bv, iv] [.int (nI t.length), .int 2, .ref (c0 + 8)] (hp c0 n _ _) _
      refine CR.rd hC rfl rfl rfl rfl (cr_fail hC 2 (nI t.length)) ?_
      rintro v h1 ⟨rfl, F1, rfl, hC1⟩
      show Ex X m_Reader_readItems 164 [.ref (c0 + 8), .ref (c0 + 1), .int (nI q), bv, iv] [.int (-1)] (hp c0 n _ _) _
      exact Ex.ret rfl (ev_reti rfl) (rP_f (q := t.length) (b := acc) rfl ⟨_, _, _, _, _, _, (by decide), hC1⟩)
    · replace c1 : ¬ (nI t.length) ≤ (nI q) := of_decide_eq_false c1
      exact absurd (show nI t.length ≤ nI q by rw [show q = t.length by omega]; exact Int32.le_refl _) c1
  | succ m ih =>
    intro q acc F bv iv hm ha hq hC
    have hl := hC.rt.le
    refine Ex.nx rfl ?_
    refine Ex.nx rfl ?_
    refine CR.sz hC (Or.inl ⟨rfl, rfl⟩) rfl rfl rfl ?_
    show Ex X m_Reader_readItems 7 [.ref (c0 + 8), .ref (c0 + 1), .int (nI q), bv, iv] [.int (nI t.length), .int (nI q)] (hp c0 n _ _) _
    refine Ex.nx rfl ?_
    refine Ex.ite (fun c1 => ?_) (fun c1 => ?_)
    · replace c1 : (nI t.length) ≤ (nI q) := of_decide_eq_true c1
      have d1 : t.length ≤ q := (nI_leI (by omega) (by omega)).mp c1
      show Ex X m_Reader_readItems 155 [.ref (c0 + 8), .ref (c0 + 1), .int (nI q), bv, iv] [] (hp c0 n _ _) _
      refine Ex.nx rfl ?_
      refine Ex.nx rfl ?_
      refine Ex.nx rfl ?_
      refine CR.sz hC (Or.inl ⟨rfl, rfl⟩) rfl rfl rfl ?_
      show Ex X m_Reader_readItems 161 [.ref (c0 + 8), .ref (c0 + 1), .int (nI q), bv, iv] [.int (nI t.length), .int 2, .ref (c0 + 8)] (hp c0 n _ _) _
      refine CR.rd hC rfl rfl rfl rfl (cr_fail hC 2 (nI t.length)) ?_
      rintro v h1 ⟨rfl, F2, rfl, hC2⟩
      show Ex X m_Reader_readItems 164 [.ref (c0 + 8), .ref (c0 + 1), .int (nI q), bv, iv] [.int (-1)] (hp c0 n _ _) _
      exact Ex.ret rfl (ev_reti rfl) (rP_f (show sI t (m + 1) q acc = (false, t.length, acc) by simp [sI, d1]) ⟨_, _, _, _, _, _, (by decide), hC2⟩)
    · replace c1 : ¬ (nI t.length) ≤ (nI q) := of_decide_eq_false c1
      have d1 : ¬ t.length ≤ q := fun e => c1 ((nI_leI (by omega) (by omega)).mpr e)
      have d0 : q < t.length := by omega
      show Ex X m_Reader_readItems 10 [.ref (c0 + 8), .ref (c0 + 1), .int (nI q), bv, iv] [] (hp c0 n _ _) _
      refine Ex.nx rfl ?_
      refine Ex.nx rfl ?_
      refine CR.at (i := q) (A0 := []) hC (Or.inl ⟨rfl, rfl⟩) (by omega) rfl rfl rfl ?_
      show Ex X m_Reader_readItems 15 [.ref (c0 + 8), .ref (c0 + 1), .int (nI q), bv, iv] [.int (hb t q)] (hp c0 n _ _) _
      refine Ex.nx rfl ?_
      show Ex X m_Reader_readItems 16 [.ref (c0 + 8), .ref (c0 + 1), .int (nI q), .int (hb t q), iv] [] (hp c0 n _ _) _
      refine Ex.nx rfl ?_
      refine Ex.nx rfl ?_
      refine Ex.nx rfl ?_
      refine Ex.ite (fun c2 => ?_) (fun c2 => ?_)
      · replace c2 : ¬ (hb t q) = 34 := of_decide_eq_true c2
        show Ex X m_Reader_readItems 26 [.ref (c0 + 8), .ref (c0 + 1), .int (nI q), .int (hb t q), iv] [] (hp c0 n _ _) _
        refine Ex.nx rfl ?_
        refine Hx.get 8 rfl hC.r8 rfl ?_
        refine Hx.get 3 rfl hC.r3 rfl ?_
        refine CR.sz hC (Or.inr ⟨rfl, rfl⟩) rfl rfl rfl ?_
        show Ex X m_Reader_readItems 36 [.ref (c0 + 8), .ref (c0 + 1), .int (nI q), .int (hb t q), iv] [.int (nI acc.length)] (hp c0 n _ _) _
        refine Ex.nx rfl ?_
        refine Ex.nx rfl ?_
        refine Ex.ite (fun c3 => ?_) (fun c3 => ?_)
        · replace c3 : ¬ (nI acc.length) = 64 := of_decide_eq_true c3
          have d3 : ¬ acc.length = 64 := fun e => c3 (by rw [e]; rfl)
          show Ex X m_Reader_readItems 48 [.ref (c0 + 8), .ref (c0 + 1), .int (nI q), .int (hb t q), iv] [] (hp c0 n _ _) _
          refine Ex.nx rfl ?_
          refine Ex.nx rfl ?_
          refine Ex.nx rfl ?_
          refine Ex.ite (fun c4 => ?_) (fun c4 => ?_)
          · replace c4 : ¬ (hb t q) = 92 := of_decide_eq_true c4
            show Ex X m_Reader_readItems 73 [.ref (c0 + 8), .ref (c0 + 1), .int (nI q), .int (hb t q), iv] [] (hp c0 n _ _) _
            refine Ex.nx rfl ?_
            refine Ex.nx rfl ?_
            refine Ex.nx rfl ?_
            refine Ex.ite (fun c5 => ?_) (fun c5 => ?_)
            · replace c5 : ¬ (hb t q) = 92 := of_decide_eq_true c5
              show Ex X m_Reader_readItems 92 [.ref (c0 + 8), .ref (c0 + 1), .int (nI q), .int (hb t q), iv] [] (hp c0 n _ _) _
              refine Ex.nx rfl ?_
              refine Ex.nx rfl ?_
              show Ex X m_Reader_readItems 95 [.ref (c0 + 8), .ref (c0 + 1), .int (nI q), .int (hb t q), .int (hb t q)] [] (hp c0 n _ _) _
              refine Ex.nx rfl ?_
              refine Ex.nx rfl ?_
              refine Ex.ite (fun c6 => ?_) (fun c6 => ?_)
              · replace c6 : 0 ≤ (hb t q) := of_decide_eq_true c6
                show Ex X m_Reader_readItems 107 [.ref (c0 + 8), .ref (c0 + 1), .int (nI q), .int (hb t q), .int (hb t q)] [] (hp c0 n _ _) _
                refine Ex.nx rfl ?_
                refine Ex.nx rfl ?_
                refine Ex.nx rfl ?_
                refine Ex.ite (fun c7 => ?_) (fun c7 => ?_)
                · replace c7 : (hb t q) < 32 := of_decide_eq_true c7
                  skip
                  show Ex X m_Reader_readItems 119 [.ref (c0 + 8), .ref (c0 + 1), .int (nI q), .int (hb t q), .int (hb t q)] [] (hp c0 n _ _) _
                  refine Ex.nx rfl ?_
                  refine Ex.nx rfl ?_
                  refine Ex.nx rfl ?_
                  refine CR.rd hC rfl rfl rfl rfl (cr_fail hC 3 (nI q)) ?_
                  rintro v h1 ⟨rfl, F3, rfl, hC3⟩
                  show Ex X m_Reader_readItems 125 [.ref (c0 + 8), .ref (c0 + 1), .int (nI q), .int (hb t q), .int (hb t q)] [.int (-1)] (hp c0 n _ _) _
                  exact Ex.ret rfl (ev_reti rfl) (rP_f (show sI t (m + 1) q acc = (false, q, acc) by simp [sI, d1, c2, d3, c4, c5, c6, c7]) ⟨_, _, _, _, _, _, (by decide), hC3⟩)
                · replace c7 : ¬ (hb t q) < 32 := of_decide_eq_false c7
                  show Ex X m_Reader_readItems 113 [.ref (c0 + 8), .ref (c0 + 1), .int (nI q), .int (hb t q), .int (hb t q)] [] (hp c0 n _ _) _
                  refine Ex.nx rfl ?_
                  refine Ex.nx rfl ?_
                  refine Ex.nx rfl ?_
                  refine Ex.ite (fun c8 => ?_) (fun c8 => ?_)
                  · replace c8 : (hb t q) ≤ 126 := of_decide_eq_true c8
                    have d9 : ¬ 126 < hb t q := Int32.not_lt.mpr c8
                    show Ex X m_Reader_readItems 126 [.ref (c0 + 8), .ref (c0 + 1), .int (nI q), .int (hb t q), .int (hb t q)] [] (hp c0 n _ _) _
                    refine Ex.nx rfl ?_
                    refine Hx.get 8 rfl hC.r8 rfl ?_
                    refine Hx.get 3 rfl hC.r3 rfl ?_
                    refine Ex.nx rfl ?_
                    refine Hx.top (y := nI (t.getD q 0)) (hb_lt d0) ?_
                    refine CR.adb (d := (t.getD q 0)) hC (hC.rt.by q) (by have : acc.length ≠ 64 := d3; omega) rfl rfl ?_
                    intro F4 hC4
                    show Ex X m_Reader_readItems 138 [.ref (c0 + 8), .ref (c0 + 1), .int (nI q), .int (hb t q), .int (hb t q)] [] (hp c0 n _ _) _
                    refine Ex.nx rfl ?_
                    refine Ex.nx rfl ?_
                    refine Ex.nx rfl ?_
                    refine Ex.nx rfl ?_
                    refine Ex.ite (fun c9 => ?_) (fun c9 => ?_)
                    · replace c9 : ¬ (hb t q) = 92 := of_decide_eq_true c9
                      show Ex X m_Reader_readItems 149 [.ref (c0 + 8), .ref (c0 + 1), .int (nI q), .int (hb t q), .int (hb t q)] [.int (nI q)] (hp c0 n _ _) _
                      refine Ex.nx rfl ?_
                      refine Ex.nx rfl ?_
                      refine Ex.nx rfl ?_
                      show Ex X m_Reader_readItems 152 [.ref (c0 + 8), .ref (c0 + 1), .int ((nI q) + 1), .int (hb t q), .int (hb t q)] [] (hp c0 n _ _) _
                      refine Ex.nx rfl ?_
                      show Ex X m_Reader_readItems 2 [.ref (c0 + 8), .ref (c0 + 1), .int ((nI q) + 1), .int (hb t q), .int (hb t q)] [] (hp c0 n _ _) _
                      rw [show nI q + 1 = nI (q + 1) from nI_add q 1, show sI t (m + 1) q acc = sI t m (q + 1) (acc ++ [t.getD q 0]) by simp [sI, d1, c2, d3, c4, c5, c6, c7, d9, c9]]
                      exact ih (q + 1) _ _ _ _ (by omega) (by have : acc.length ≠ 64 := d3; simp only [List.length_append, List.length_cons, List.length_nil]; omega) (by omega) hC4
                    · replace c9 : (hb t q) = 92 := Classical.not_not.mp (of_decide_eq_false c9)
                      exact absurd c9 c4
                  · replace c8 : ¬ (hb t q) ≤ 126 := of_decide_eq_false c8
                    have d9 : 126 < hb t q := Int32.not_le.mp c8
                    show Ex X m_Reader_readItems 119 [.ref (c0 + 8), .ref (c0 + 1), .int (nI q), .int (hb t q), .int (hb t q)] [] (hp c0 n _ _) _
                    refine Ex.nx rfl ?_
                    refine Ex.nx rfl ?_
                    refine Ex.nx rfl ?_
                    refine CR.rd hC rfl rfl rfl rfl (cr_fail hC 3 (nI q)) ?_
                    rintro v h1 ⟨rfl, F5, rfl, hC5⟩
                    show Ex X m_Reader_readItems 125 [.ref (c0 + 8), .ref (c0 + 1), .int (nI q), .int (hb t q), .int (hb t q)] [.int (-1)] (hp c0 n _ _) _
                    exact Ex.ret rfl (ev_reti rfl) (rP_f (show sI t (m + 1) q acc = (false, q, acc) by simp [sI, d1, c2, d3, c4, c5, c6, c7, d9]) ⟨_, _, _, _, _, _, (by decide), hC5⟩)
              · replace c6 : ¬ 0 ≤ (hb t q) := of_decide_eq_false c6
                exact absurd (by rw [hb_lt d0]; exact nI_pos' (by have := hC.rt.by q; omega)) c6
            · replace c5 : (hb t q) = 92 := Classical.not_not.mp (of_decide_eq_false c5)
              exact absurd c5 c4
          · replace c4 : (hb t q) = 92 := Classical.not_not.mp (of_decide_eq_false c4)
            show Ex X m_Reader_readItems 54 [.ref (c0 + 8), .ref (c0 + 1), .int (nI q), .int (hb t q), iv] [] (hp c0 n _ _) _
            refine Ex.nx rfl ?_
            refine Ex.nx rfl ?_
            refine Ex.nx rfl ?_
            refine Hx.top (y := nI (q + 1)) (nI_1 q) ?_
            refine Ex.nx rfl ?_
            refine CR.sz hC (Or.inl ⟨rfl, rfl⟩) rfl rfl rfl ?_
            show Ex X m_Reader_readItems 61 [.ref (c0 + 8), .ref (c0 + 1), .int (nI q), .int (hb t q), iv] [.int (nI t.length), .int (nI (q + 1))] (hp c0 n _ _) _
            refine Ex.nx rfl ?_
            refine Ex.ite (fun c10 => ?_) (fun c10 => ?_)
            · replace c10 : ¬ (nI (q + 1)) = (nI t.length) := of_decide_eq_true c10
              have d5 : ¬ q + 1 = t.length := fun e => c10 (by rw [e])
              show Ex X m_Reader_readItems 73 [.ref (c0 + 8), .ref (c0 + 1), .int (nI q), .int (hb t q), iv] [] (hp c0 n _ _) _
              refine Ex.nx rfl ?_
              refine Ex.nx rfl ?_
              refine Ex.nx rfl ?_
              refine Ex.ite (fun c11 => ?_) (fun c11 => ?_)
              · replace c11 : ¬ (hb t q) = 92 := of_decide_eq_true c11
                exact absurd c4 c11
              · replace c11 : (hb t q) = 92 := Classical.not_not.mp (of_decide_eq_false c11)
                show Ex X m_Reader_readItems 79 [.ref (c0 + 8), .ref (c0 + 1), .int (nI q), .int (hb t q), iv] [] (hp c0 n _ _) _
                refine Ex.nx rfl ?_
                refine Ex.nx rfl ?_
                refine Ex.nx rfl ?_
                refine Ex.nx rfl ?_
                refine Hx.top (y := nI (q + 1)) (nI_1 q) ?_
                refine CR.at (i := (q + 1)) (A0 := []) hC (Or.inl ⟨rfl, rfl⟩) (by omega) rfl rfl rfl ?_
                show Ex X m_Reader_readItems 86 [.ref (c0 + 8), .ref (c0 + 1), .int (nI q), .int (hb t q), iv] [.int (hb t (q + 1))] (hp c0 n _ _) _
                refine Hx.calls rfl rfl rfl rfl (sx_Reader_escaped X (hb t (q + 1))) (fun v hv => ?_)
                subst hv
                show Ex X m_Reader_readItems 89 [.ref (c0 + 8), .ref (c0 + 1), .int (nI q), .int (hb t q), iv] [.int (esc (hb t (q + 1)))] (hp c0 n _ _) _
                refine Ex.nx rfl ?_
                refine Ex.nx rfl ?_
                show Ex X m_Reader_readItems 95 [.ref (c0 + 8), .ref (c0 + 1), .int (nI q), .int (hb t q), .int (esc (hb t (q + 1)))] [] (hp c0 n _ _) _
                refine Ex.nx rfl ?_
                refine Ex.nx rfl ?_
                refine Ex.ite (fun c12 => ?_) (fun c12 => ?_)
                · replace c12 : 0 ≤ (esc (hb t (q + 1))) := of_decide_eq_true c12
                  show Ex X m_Reader_readItems 107 [.ref (c0 + 8), .ref (c0 + 1), .int (nI q), .int (hb t q), .int (esc (hb t (q + 1)))] [] (hp c0 n _ _) _
                  refine Ex.nx rfl ?_
                  refine Ex.nx rfl ?_
                  refine Ex.nx rfl ?_
                  refine Ex.ite (fun c13 => ?_) (fun c13 => ?_)
                  · replace c13 : (hb t q) < 32 := of_decide_eq_true c13
                    exact absurd c13 (by rw [c4]; decide)
                  · replace c13 : ¬ (hb t q) < 32 := of_decide_eq_false c13
                    show Ex X m_Reader_readItems 113 [.ref (c0 + 8), .ref (c0 + 1), .int (nI q), .int (hb t q), .int (esc (hb t (q + 1)))] [] (hp c0 n _ _) _
                    refine Ex.nx rfl ?_
                    refine Ex.nx rfl ?_
                    refine Ex.nx rfl ?_
                    refine Ex.ite (fun c14 => ?_) (fun c14 => ?_)
                    · replace c14 : (hb t q) ≤ 126 := of_decide_eq_true c14
                      have d9 : ¬ 126 < hb t q := Int32.not_lt.mpr c14
                      show Ex X m_Reader_readItems 126 [.ref (c0 + 8), .ref (c0 + 1), .int (nI q), .int (hb t q), .int (esc (hb t (q + 1)))] [] (hp c0 n _ _) _
                      refine Ex.nx rfl ?_
                      refine Hx.get 8 rfl hC.r8 rfl ?_
                      refine Hx.get 3 rfl hC.r3 rfl ?_
                      refine Ex.nx rfl ?_
                      refine Hx.top (y := nI (eN (t.getD (q + 1) 0))) (by have d8 := esc_in (t := t) (q := q + 1) c12; rw [hb_lt d8]; exact esc_all _ (hC.rt.by (q + 1)) (by rw [← hb_lt d8]; exact c12)) ?_
                      refine CR.adb (d := (eN (t.getD (q + 1) 0))) hC (eN_lt _ (hC.rt.by (q + 1))) (by have : acc.length ≠ 64 := d3; omega) rfl rfl ?_
                      intro F6 hC6
                      show Ex X m_Reader_readItems 138 [.ref (c0 + 8), .ref (c0 + 1), .int (nI q), .int (hb t q), .int (esc (hb t (q + 1)))] [] (hp c0 n _ _) _
                      refine Ex.nx rfl ?_
                      refine Ex.nx rfl ?_
                      refine Ex.nx rfl ?_
                      refine Ex.nx rfl ?_
                      refine Ex.ite (fun c15 => ?_) (fun c15 => ?_)
                      · replace c15 : ¬ (hb t q) = 92 := of_decide_eq_true c15
                        exact absurd c4 c15
                      · replace c15 : (hb t q) = 92 := Classical.not_not.mp (of_decide_eq_false c15)
                        show Ex X m_Reader_readItems 145 [.ref (c0 + 8), .ref (c0 + 1), .int (nI q), .int (hb t q), .int (esc (hb t (q + 1)))] [.int (nI q)] (hp c0 n _ _) _
                        refine Ex.nx rfl ?_
                        refine Ex.nx rfl ?_
                        refine Ex.nx rfl ?_
                        refine Ex.nx rfl ?_
                        show Ex X m_Reader_readItems 152 [.ref (c0 + 8), .ref (c0 + 1), .int ((nI q) + 2), .int (hb t q), .int (esc (hb t (q + 1)))] [] (hp c0 n _ _) _
                        refine Ex.nx rfl ?_
                        show Ex X m_Reader_readItems 2 [.ref (c0 + 8), .ref (c0 + 1), .int ((nI q) + 2), .int (hb t q), .int (esc (hb t (q + 1)))] [] (hp c0 n _ _) _
                        rw [show nI q + 2 = nI (q + 2) from nI_add q 2, show sI t (m + 1) q acc = sI t m (q + 2) (acc ++ [eN (t.getD (q + 1) 0)]) by simp [sI, d1, c2, d3, c4, d5, c11, c12, c13, d9, c15]]
                        exact ih (q + 2) _ _ _ _ (by omega) (by have : acc.length ≠ 64 := d3; simp only [List.length_append, List.length_cons, List.length_nil]; omega) (by have := esc_in (t := t) (q := q + 1) c12; omega) hC6
                    · replace c14 : ¬ (hb t q) ≤ 126 := of_decide_eq_false c14
                      exact absurd (by rw [c4]; decide) c14
                · replace c12 : ¬ 0 ≤ (esc (hb t (q + 1))) := of_decide_eq_false c12
                  skip
                  show Ex X m_Reader_readItems 100 [.ref (c0 + 8), .ref (c0 + 1), .int (nI q), .int (hb t q), .int (esc (hb t (q + 1)))] [] (hp c0 n _ _) _
                  refine Ex.nx rfl ?_
                  refine Ex.nx rfl ?_
                  refine Ex.nx rfl ?_
                  refine CR.rd hC rfl rfl rfl rfl (cr_fail hC 5 (nI q)) ?_
                  rintro v h1 ⟨rfl, F7, rfl, hC7⟩
                  show Ex X m_Reader_readItems 106 [.ref (c0 + 8), .ref (c0 + 1), .int (nI q), .int (hb t q), .int (esc (hb t (q + 1)))] [.int (-1)] (hp c0 n _ _) _
                  exact Ex.ret rfl (ev_reti rfl) (rP_f (show sI t (m + 1) q acc = (false, q, acc) by simp [sI, d1, c2, d3, c4, d5, c11, c12]) ⟨_, _, _, _, _, _, (by decide), hC7⟩)
            · replace c10 : (nI (q + 1)) = (nI t.length) := Classical.not_not.mp (of_decide_eq_false c10)
              have d5 : q + 1 = t.length := (nI_eq (by omega) (by omega)).mp c10
              show Ex X m_Reader_readItems 64 [.ref (c0 + 8), .ref (c0 + 1), .int (nI q), .int (hb t q), iv] [] (hp c0 n _ _) _
              refine Ex.nx rfl ?_
              refine Ex.nx rfl ?_
              refine Ex.nx rfl ?_
              refine Ex.nx rfl ?_
              refine Ex.nx rfl ?_
              refine Hx.top (y := nI (q + 1)) (nI_1 q) ?_
              refine CR.rd hC rfl rfl rfl rfl (cr_fail hC 2 (nI (q + 1))) ?_
              rintro v h1 ⟨rfl, F8, rfl, hC8⟩
              show Ex X m_Reader_readItems 72 [.ref (c0 + 8), .ref (c0 + 1), .int (nI q), .int (hb t q), iv] [.int (-1)] (hp c0 n _ _) _
              exact Ex.ret rfl (ev_reti rfl) (rP_f (show sI t (m + 1) q acc = (false, (q + 1), acc) by simp [sI, d1, c2, d3, c4, d5]) ⟨_, _, _, _, _, _, (by decide), hC8⟩)
        · replace c3 : (nI acc.length) = 64 := Classical.not_not.mp (of_decide_eq_false c3)
          have d3 : acc.length = 64 := (nI_eq (b := 64) (by omega) (by decide)).mp c3
          show Ex X m_Reader_readItems 41 [.ref (c0 + 8), .ref (c0 + 1), .int (nI q), .int (hb t q), iv] [] (hp c0 n _ _) _
          refine Ex.nx rfl ?_
          refine Ex.nx rfl ?_
          refine Ex.nx rfl ?_
          refine CR.rd hC rfl rfl rfl rfl (cr_fail hC 4 (nI q)) ?_
          rintro v h1 ⟨rfl, F9, rfl, hC9⟩
          show Ex X m_Reader_readItems 47 [.ref (c0 + 8), .ref (c0 + 1), .int (nI q), .int (hb t q), iv] [.int (-1)] (hp c0 n _ _) _
          exact Ex.ret rfl (ev_reti rfl) (rP_f (show sI t (m + 1) q acc = (false, q, acc) by simp [sI, d1, c2, d3]) ⟨_, _, _, _, _, _, (by decide), hC9⟩)
      · replace c2 : (hb t q) = 34 := Classical.not_not.mp (of_decide_eq_false c2)
        show Ex X m_Reader_readItems 22 [.ref (c0 + 8), .ref (c0 + 1), .int (nI q), .int (hb t q), iv] [] (hp c0 n _ _) _
        refine Ex.nx rfl ?_
        refine Ex.nx rfl ?_
        refine Ex.nx rfl ?_
        refine Hx.top (y := nI (q + 1)) (nI_1 q) ?_
        exact Ex.ret rfl (ev_reti rfl) (rP_t (show sI t (m + 1) q acc = (true, q + 1, acc) by simp [sI, d1, c2]) hC)
set_option maxRecDepth 100000 in
set_option maxHeartbeats 2000000 in
theorem cr_items {X : ev_X} {c0 n z : Nat} {F0 : Nat → Option va_E} {t : List Nat} {s p fp : Int32} {nu : Int64} {tl : List Nat} {F : Nat → Option va_E} (h0 : 0 < t.length) (hC : CR c0 F0 t s nu p ([]) tl 0 fp F) : Ex X m_Reader_readItems 0 [.ref (c0 + 8), .ref (c0 + 1), ev_dead, ev_dead, ev_dead] [] (hp c0 n z F) (rP c0 n z F0 t (sI t t.length 1 []) (fun b F1 => CR c0 F0 t s nu p b tl 0 fp F1)) := by
  refine Ex.nx rfl ?_
  refine Ex.nx rfl ?_
  show Ex X m_Reader_readItems 2 [.ref (c0 + 8), .ref (c0 + 1), .int 1, ev_dead, ev_dead] [] (hp c0 n _ _) _
  show Ex X m_Reader_readItems 2 [.ref (c0 + 8), .ref (c0 + 1), .int 1, ev_dead, ev_dead] [] (hp c0 n _ _) _
  exact cr_it_l t.length 1 [] _ _ _ (by omega) (by decide) (by omega) hC
/-- a tag from q on: run, whether still in the first run -/
def sT (t : List Nat) : Nat → Nat → Nat → Bool → List Nat → Bool × Nat × List Nat
  | 0, _, run, _, acc => if run = 0 then (false, t.length, acc) else (true, t.length, acc)
  | m + 1, q, run, fs, acc => if (!(isL (hb t q) || (isD (hb t q) && !fs)) && !(decide (hb t q = 45) && decide (0 < run)) && decide (0 < run)) = true then (true, q, acc) else if (decide (acc.length = 20) || ((isL (hb t q) || (isD (hb t q) && !fs)) && decide (run = 8))) = true then (false, q, acc) else if (!(isL (hb t q) || (isD (hb t q) && !fs)) && !(decide (hb t q = 45) && decide (0 < run))) = true then (false, q, acc) else sT t m (q + 1) (if (decide (hb t q = 45) && decide (0 < run)) = true then 0 else run + 1) (fs && !(decide (hb t q = 45) && decide (0 < run))) (acc ++ [smlN (t.getD q 0)])
set_option maxRecDepth 100000 in
set_option maxHeartbeats 2000000 in
theorem cr_tg_l {X : ev_X} {c0 n z : Nat} {F0 : Nat → Option va_E} {t : List Nat} {s p fp : Int32} {nu : Int64} {bd : List Nat} (sv : Int32) : ∀ (m q run : Nat) (fs : Bool) (acc : List Nat) (F : Nat → Option va_E) (b6 b7 b8 : Value) (hm : q + m = t.length) (ha : acc.length ≤ 20) (hr : run ≤ 300 - m) (hC : CR c0 F0 t s nu p bd acc 0 fp F), Ex X m_Reader_readTag 8 [.ref (c0 + 8), .ref (c0 + 1), .int sv, .int (nI run), .int (bi fs), .int (nI q), b6, b7, b8] [] (hp c0 n z F) (rP c0 n z F0 t (sT t m q run fs acc) (fun b F1 => CR c0 F0 t s nu p bd b 0 fp F1)) := by
  intro m
  induction m with
  | zero =>
    intro q run fs acc F b6 b7 b8 hm ha hr hC
    have hl := hC.rt.le
    refine Ex.nx rfl ?_
    refine Ex.nx rfl ?_
    refine CR.sz hC (Or.inl ⟨rfl, rfl⟩) rfl rfl rfl ?_
    show Ex X m_Reader_readTag 14 [.ref (c0 + 8), .ref (c0 + 1), .int sv, .int (nI run), .int (bi fs), .int (nI q), b6, b7, b8] [.int (nI t.length), .int (nI q)] (hp c0 n _ _) _
    refine Ex.nx rfl ?_
    refine Ex.ite (fun c1 => ?_) (fun c1 => ?_)
    · replace c1 : (nI t.length) ≤ (nI q) := of_decide_eq_true c1
      show Ex X m_Reader_readTag 191 [.ref (c0 + 8), .ref (c0 + 1), .int sv, .int (nI run), .int (bi fs), .int (nI q), b6, b7, b8] [] (hp c0 n _ _) _
      refine Ex.nx rfl ?_
      refine Ex.nx rfl ?_
      refine Ex.ite (fun c2 => ?_) (fun c2 => ?_)
      · replace c2 : ¬ (nI run) = 0 := of_decide_eq_true c2
        show Ex X m_Reader_readTag 207 [.ref (c0 + 8), .ref (c0 + 1), .int sv, .int (nI run), .int (bi fs), .int (nI q), b6, b7, b8] [] (hp c0 n _ _) _
        refine Ex.nx rfl ?_
        refine CR.sz hC (Or.inl ⟨rfl, rfl⟩) rfl rfl rfl ?_
        show Ex X m_Reader_readTag 211 [.ref (c0 + 8), .ref (c0 + 1), .int sv, .int (nI run), .int (bi fs), .int (nI q), b6, b7, b8] [.int (nI t.length)] (hp c0 n _ _) _
        exact Ex.ret rfl (ev_reti rfl) (rP_t (show sT t 0 q run fs acc = (true, t.length, acc) from if_neg (fun h => c2 (by rw [h]; rfl))) hC)
      · replace c2 : (nI run) = 0 := Classical.not_not.mp (of_decide_eq_false c2)
        show Ex X m_Reader_readTag 195 [.ref (c0 + 8), .ref (c0 + 1), .int sv, .int (nI run), .int (bi fs), .int (nI q), b6, b7, b8] [] (hp c0 n _ _) _
        refine Ex.nx rfl ?_
        refine Ex.nx rfl ?_
        refine Ex.nx rfl ?_
        refine CR.sz hC (Or.inl ⟨rfl, rfl⟩) rfl rfl rfl ?_
        show Ex X m_Reader_readTag 201 [.ref (c0 + 8), .ref (c0 + 1), .int sv, .int (nI run), .int (bi fs), .int (nI q), b6, b7, b8] [.int (nI t.length), .int 2, .ref (c0 + 8)] (hp c0 n _ _) _
        refine CR.rd hC rfl rfl rfl rfl (cr_fail hC 2 (nI t.length)) ?_
        rintro v h1 ⟨rfl, F10, rfl, hC10⟩
        show Ex X m_Reader_readTag 204 [.ref (c0 + 8), .ref (c0 + 1), .int sv, .int (nI run), .int (bi fs), .int (nI q), b6, b7, b8] [.int (-1)] (hp c0 n _ _) _
        refine Ex.nx rfl ?_
        exact Ex.ret rfl (ev_reti rfl) (rP_f (show sT t 0 q run fs acc = (false, t.length, acc) from if_pos ((nI_eq (b := 0) (by omega) (by decide)).mp c2)) ⟨_, _, _, _, _, _, (by decide), hC10⟩)
    · replace c1 : ¬ (nI t.length) ≤ (nI q) := of_decide_eq_false c1
      exact absurd (show nI t.length ≤ nI q by rw [show q = t.length by omega]; exact Int32.le_refl _) c1
  | succ m ih =>
    intro q run fs acc F b6 b7 b8 hm ha hr hC
    have hl := hC.rt.le
    refine Ex.nx rfl ?_
    refine Ex.nx rfl ?_
    refine CR.sz hC (Or.inl ⟨rfl, rfl⟩) rfl rfl rfl ?_
    show Ex X m_Reader_readTag 14 [.ref (c0 + 8), .ref (c0 + 1), .int sv, .int (nI run), .int (bi fs), .int (nI q), b6, b7, b8] [.int (nI t.length), .int (nI q)] (hp c0 n _ _) _
    refine Ex.nx rfl ?_
    refine Ex.ite (fun c1 => ?_) (fun c1 => ?_)
    · replace c1 : (nI t.length) ≤ (nI q) := of_decide_eq_true c1
      exact absurd ((nI_leI (by omega) (by omega)).mp c1) (by omega)
    · replace c1 : ¬ (nI t.length) ≤ (nI q) := of_decide_eq_false c1
      show Ex X m_Reader_readTag 17 [.ref (c0 + 8), .ref (c0 + 1), .int sv, .int (nI run), .int (bi fs), .int (nI q), b6, b7, b8] [] (hp c0 n _ _) _
      refine Ex.nx rfl ?_
      refine Ex.nx rfl ?_
      refine CR.at (i := q) (A0 := []) hC (Or.inl ⟨rfl, rfl⟩) (by omega) rfl rfl rfl ?_
      show Ex X m_Reader_readTag 23 [.ref (c0 + 8), .ref (c0 + 1), .int sv, .int (nI run), .int (bi fs), .int (nI q), b6, b7, b8] [.int (hb t q)] (hp c0 n _ _) _
      refine Ex.nx rfl ?_
      show Ex X m_Reader_readTag 25 [.ref (c0 + 8), .ref (c0 + 1), .int sv, .int (nI run), .int (bi fs), .int (nI q), .int (hb t q), b7, b8] [] (hp c0 n _ _) _
      refine Ex.nx rfl ?_
      refine Hx.calls rfl rfl rfl rfl (sx_Reader_isLetter X (hb t q)) (fun v hv => ?_)
      subst hv
      show Ex X m_Reader_readTag 30 [.ref (c0 + 8), .ref (c0 + 1), .int sv, .int (nI run), .int (bi fs), .int (nI q), .int (hb t q), b7, b8] [.int (bi (isL (hb t q)))] (hp c0 n _ _) _
      refine Ex.nx rfl ?_
      refine Ex.ite (fun c2 => ?_) (fun c2 => ?_)
      · replace c2 : (isL (hb t q)) = true := bi_net c2
        show Ex X m_Reader_readTag 46 [.ref (c0 + 8), .ref (c0 + 1), .int sv, .int (nI run), .int (bi fs), .int (nI q), .int (hb t q), b7, b8] [] (hp c0 n _ _) _
        refine Ex.nx rfl ?_
        refine Ex.nx rfl ?_
        refine Ex.nx rfl ?_
        show Ex X m_Reader_readTag 53 [.ref (c0 + 8), .ref (c0 + 1), .int sv, .int (nI run), .int (bi fs), .int (nI q), .int (hb t q), .int 1, b8] [] (hp c0 n _ _) _
        refine Ex.nx rfl ?_
        refine Ex.nx rfl ?_
        refine Ex.nx rfl ?_
        refine Ex.ite (fun c3 => ?_) (fun c3 => ?_)
        · replace c3 : ¬ (hb t q) = 45 := of_decide_eq_true c3
          show Ex X m_Reader_readTag 68 [.ref (c0 + 8), .ref (c0 + 1), .int sv, .int (nI run), .int (bi fs), .int (nI q), .int (hb t q), .int 1, b8] [] (hp c0 n _ _) _
          refine Ex.nx rfl ?_
          refine Ex.nx rfl ?_
          show Ex X m_Reader_readTag 71 [.ref (c0 + 8), .ref (c0 + 1), .int sv, .int (nI run), .int (bi fs), .int (nI q), .int (hb t q), .int 1, .int 0] [] (hp c0 n _ _) _
          refine Ex.nx rfl ?_
          refine Ex.nx rfl ?_
          show Ex X m_Reader_readTag 88 [.ref (c0 + 8), .ref (c0 + 1), .int sv, .int (nI run), .int (bi fs), .int (nI q), .int (hb t q), .int 1, .int 0] [] (hp c0 n _ _) _
          refine Ex.nx rfl ?_
          refine Hx.get 8 rfl hC.r8 rfl ?_
          refine Hx.get 3 rfl hC.r3 rfl ?_
          refine CR.szt hC rfl rfl rfl ?_
          show Ex X m_Reader_readTag 98 [.ref (c0 + 8), .ref (c0 + 1), .int sv, .int (nI run), .int (bi fs), .int (nI q), .int (hb t q), .int 1, .int 0] [.int (nI acc.length)] (hp c0 n _ _) _
          refine Ex.nx rfl ?_
          refine Ex.nx rfl ?_
          refine Ex.ite (fun c4 => ?_) (fun c4 => ?_)
          · replace c4 : (nI acc.length) = 20 := of_decide_eq_true c4
            have d20 : acc.length = 20 := (nI_eq (b := 20) (by omega) (by decide)).mp c4
            show Ex X m_Reader_readTag 114 [.ref (c0 + 8), .ref (c0 + 1), .int sv, .int (nI run), .int (bi fs), .int (nI q), .int (hb t q), .int 1, .int 0] [] (hp c0 n _ _) _
            refine Ex.nx rfl ?_
            refine Ex.nx rfl ?_
            refine Ex.nx rfl ?_
            refine CR.rd hC rfl rfl rfl rfl (cr_fail hC 4 (nI q)) ?_
            rintro v h1 ⟨rfl, F11, rfl, hC11⟩
            show Ex X m_Reader_readTag 121 [.ref (c0 + 8), .ref (c0 + 1), .int sv, .int (nI run), .int (bi fs), .int (nI q), .int (hb t q), .int 1, .int 0] [.int (-1)] (hp c0 n _ _) _
            exact Ex.ret rfl (ev_reti rfl) (rP_f (show sT t (m + 1) q run fs acc = (false, q, acc) by first | (simp [sT, L45, D45, c2, c3, d20]; done) | (exfalso; simp_all [L45, D45]; done)) ⟨_, _, _, _, _, _, (by decide), hC11⟩)
          · replace c4 : ¬ (nI acc.length) = 20 := of_decide_eq_false c4
            have d20 : ¬ acc.length = 20 := fun e => c4 (by rw [e]; rfl)
            show Ex X m_Reader_readTag 103 [.ref (c0 + 8), .ref (c0 + 1), .int sv, .int (nI run), .int (bi fs), .int (nI q), .int (hb t q), .int 1, .int 0] [] (hp c0 n _ _) _
            refine Ex.nx rfl ?_
            refine Ex.nx rfl ?_
            show Ex X m_Reader_readTag 108 [.ref (c0 + 8), .ref (c0 + 1), .int sv, .int (nI run), .int (bi fs), .int (nI q), .int (hb t q), .int 1, .int 0] [] (hp c0 n _ _) _
            refine Ex.nx rfl ?_
            refine Ex.nx rfl ?_
            refine Ex.nx rfl ?_
            refine Ex.ite (fun c5 => ?_) (fun c5 => ?_)
            · replace c5 : ¬ (nI run) = 8 := of_decide_eq_true c5
              have d8 : ¬ run = 8 := fun e => c5 (by rw [e]; rfl)
              show Ex X m_Reader_readTag 122 [.ref (c0 + 8), .ref (c0 + 1), .int sv, .int (nI run), .int (bi fs), .int (nI q), .int (hb t q), .int 1, .int 0] [] (hp c0 n _ _) _
              refine Ex.nx rfl ?_
              refine Ex.nx rfl ?_
              show Ex X m_Reader_readTag 140 [.ref (c0 + 8), .ref (c0 + 1), .int sv, .int (nI run), .int (bi fs), .int (nI q), .int (hb t q), .int 1, .int 0] [] (hp c0 n _ _) _
              refine Ex.nx rfl ?_
              refine Hx.get 8 rfl hC.r8 rfl ?_
              refine Hx.get 3 rfl hC.r3 rfl ?_
              refine Ex.nx rfl ?_
              refine Hx.calls rfl rfl rfl rfl (sx_Reader_small X (hb t q)) (fun v hv => ?_)
              subst hv
              show Ex X m_Reader_readTag 152 [.ref (c0 + 8), .ref (c0 + 1), .int sv, .int (nI run), .int (bi fs), .int (nI q), .int (hb t q), .int 1, .int 0] [.int (sml (hb t q)), .ref (c0 + 6)] (hp c0 n _ _) _
              refine Hx.top (y := nI (smlN (t.getD q 0))) (by rw [hb_lt (show q < t.length by omega)]; exact sml_all _ (hC.rt.by q)) ?_
              refine CR.adt (d := (smlN (t.getD q 0))) hC (smlN_lt _ (hC.rt.by q)) (by omega) rfl rfl ?_
              intro F12 hC12
              show Ex X m_Reader_readTag 155 [.ref (c0 + 8), .ref (c0 + 1), .int sv, .int (nI run), .int (bi fs), .int (nI q), .int (hb t q), .int 1, .int 0] [] (hp c0 n _ _) _
              refine Ex.nx rfl ?_
              refine Ex.nx rfl ?_
              show Ex X m_Reader_readTag 164 [.ref (c0 + 8), .ref (c0 + 1), .int sv, .int (nI run), .int (bi fs), .int (nI q), .int (hb t q), .int 1, .int 0] [] (hp c0 n _ _) _
              refine Ex.nx rfl ?_
              refine Ex.nx rfl ?_
              refine Ex.nx rfl ?_
              refine Ex.nx rfl ?_
              show Ex X m_Reader_readTag 168 [.ref (c0 + 8), .ref (c0 + 1), .int sv, .int ((nI run) + 1), .int (bi fs), .int (nI q), .int (hb t q), .int 1, .int 0] [] (hp c0 n _ _) _
              refine Ex.nx rfl ?_
              refine Ex.nx rfl ?_
              refine Ex.ite (fun c6 => ?_) (fun c6 => ?_)
              · replace c6 : fs = false := bi_eqt c6
                show Ex X m_Reader_readTag 182 [.ref (c0 + 8), .ref (c0 + 1), .int sv, .int ((nI run) + 1), .int (bi fs), .int (nI q), .int (hb t q), .int 1, .int 0] [] (hp c0 n _ _) _
                refine Ex.nx rfl ?_
                refine Ex.nx rfl ?_
                show Ex X m_Reader_readTag 185 [.ref (c0 + 8), .ref (c0 + 1), .int sv, .int ((nI run) + 1), .int 0, .int (nI q), .int (hb t q), .int 1, .int 0] [] (hp c0 n _ _) _
                refine Ex.nx rfl ?_
                show Ex X m_Reader_readTag 188 [.ref (c0 + 8), .ref (c0 + 1), .int sv, .int ((nI run) + 1), .int 0, .int ((nI q) + 1), .int (hb t q), .int 1, .int 0] [] (hp c0 n _ _) _
                refine Ex.nx rfl ?_
                show Ex X m_Reader_readTag 8 [.ref (c0 + 8), .ref (c0 + 1), .int sv, .int ((nI run) + 1), .int 0, .int ((nI q) + 1), .int (hb t q), .int 1, .int 0] [] (hp c0 n _ _) _
                rw [show nI run + 1 = nI (run + 1) from nI_1 run, show nI q + 1 = nI (q + 1) from nI_1 q, show sT t (m + 1) q run fs acc = sT t m (q + 1) (run + 1) false (acc ++ [smlN (t.getD q 0)]) by first | (simp [sT, L45, D45, c2, c3, d20, d8, c6]; done) | (exfalso; simp_all [L45, D45]; done)]
                exact ih (q + 1) (run + 1) false _ _ _ _ _ (by omega) (by simp only [List.length_append, List.length_cons, List.length_nil]; omega) (by omega) hC12
              · replace c6 : fs = true := bi_eqf c6
                show Ex X m_Reader_readTag 173 [.ref (c0 + 8), .ref (c0 + 1), .int sv, .int ((nI run) + 1), .int (bi fs), .int (nI q), .int (hb t q), .int 1, .int 0] [] (hp c0 n _ _) _
                refine Ex.nx rfl ?_
                refine Ex.nx rfl ?_
                show Ex X m_Reader_readTag 178 [.ref (c0 + 8), .ref (c0 + 1), .int sv, .int ((nI run) + 1), .int (bi fs), .int (nI q), .int (hb t q), .int 1, .int 0] [] (hp c0 n _ _) _
                refine Ex.nx rfl ?_
                refine Ex.nx rfl ?_
                refine Ex.nx rfl ?_
                show Ex X m_Reader_readTag 185 [.ref (c0 + 8), .ref (c0 + 1), .int sv, .int ((nI run) + 1), .int 1, .int (nI q), .int (hb t q), .int 1, .int 0] [] (hp c0 n _ _) _
                refine Ex.nx rfl ?_
                show Ex X m_Reader_readTag 188 [.ref (c0 + 8), .ref (c0 + 1), .int sv, .int ((nI run) + 1), .int 1, .int ((nI q) + 1), .int (hb t q), .int 1, .int 0] [] (hp c0 n _ _) _
                refine Ex.nx rfl ?_
                show Ex X m_Reader_readTag 8 [.ref (c0 + 8), .ref (c0 + 1), .int sv, .int ((nI run) + 1), .int 1, .int ((nI q) + 1), .int (hb t q), .int 1, .int 0] [] (hp c0 n _ _) _
                rw [show nI run + 1 = nI (run + 1) from nI_1 run, show nI q + 1 = nI (q + 1) from nI_1 q, show sT t (m + 1) q run fs acc = sT t m (q + 1) (run + 1) true (acc ++ [smlN (t.getD q 0)]) by first | (simp [sT, L45, D45, c2, c3, d20, d8, c6]; done) | (exfalso; simp_all [L45, D45]; done)]
                exact ih (q + 1) (run + 1) true _ _ _ _ _ (by omega) (by simp only [List.length_append, List.length_cons, List.length_nil]; omega) (by omega) hC12
            · replace c5 : (nI run) = 8 := Classical.not_not.mp (of_decide_eq_false c5)
              have d8 : run = 8 := (nI_eq (b := 8) (by omega) (by decide)).mp c5
              show Ex X m_Reader_readTag 114 [.ref (c0 + 8), .ref (c0 + 1), .int sv, .int (nI run), .int (bi fs), .int (nI q), .int (hb t q), .int 1, .int 0] [] (hp c0 n _ _) _
              refine Ex.nx rfl ?_
              refine Ex.nx rfl ?_
              refine Ex.nx rfl ?_
              refine CR.rd hC rfl rfl rfl rfl (cr_fail hC 4 (nI q)) ?_
              rintro v h1 ⟨rfl, F13, rfl, hC13⟩
              show Ex X m_Reader_readTag 121 [.ref (c0 + 8), .ref (c0 + 1), .int sv, .int (nI run), .int (bi fs), .int (nI q), .int (hb t q), .int 1, .int 0] [.int (-1)] (hp c0 n _ _) _
              exact Ex.ret rfl (ev_reti rfl) (rP_f (show sT t (m + 1) q run fs acc = (false, q, acc) by first | (simp [sT, L45, D45, c2, c3, d20, d8]; done) | (exfalso; simp_all [L45, D45]; done)) ⟨_, _, _, _, _, _, (by decide), hC13⟩)
        · replace c3 : (hb t q) = 45 := Classical.not_not.mp (of_decide_eq_false c3)
          show Ex X m_Reader_readTag 60 [.ref (c0 + 8), .ref (c0 + 1), .int sv, .int (nI run), .int (bi fs), .int (nI q), .int (hb t q), .int 1, b8] [] (hp c0 n _ _) _
          refine Ex.nx rfl ?_
          refine Ex.nx rfl ?_
          refine Ex.ite (fun c7 => ?_) (fun c7 => ?_)
          · replace c7 : (nI run) ≤ 0 := of_decide_eq_true c7
            have dr : ¬ 0 < run := by have := (nI_leI (b := 0) (by omega) (by decide)).mp c7; omega
            show Ex X m_Reader_readTag 68 [.ref (c0 + 8), .ref (c0 + 1), .int sv, .int (nI run), .int (bi fs), .int (nI q), .int (hb t q), .int 1, b8] [] (hp c0 n _ _) _
            refine Ex.nx rfl ?_
            refine Ex.nx rfl ?_
            show Ex X m_Reader_readTag 71 [.ref (c0 + 8), .ref (c0 + 1), .int sv, .int (nI run), .int (bi fs), .int (nI q), .int (hb t q), .int 1, .int 0] [] (hp c0 n _ _) _
            refine Ex.nx rfl ?_
            refine Ex.nx rfl ?_
            show Ex X m_Reader_readTag 88 [.ref (c0 + 8), .ref (c0 + 1), .int sv, .int (nI run), .int (bi fs), .int (nI q), .int (hb t q), .int 1, .int 0] [] (hp c0 n _ _) _
            refine Ex.nx rfl ?_
            refine Hx.get 8 rfl hC.r8 rfl ?_
            refine Hx.get 3 rfl hC.r3 rfl ?_
            refine CR.szt hC rfl rfl rfl ?_
            show Ex X m_Reader_readTag 98 [.ref (c0 + 8), .ref (c0 + 1), .int sv, .int (nI run), .int (bi fs), .int (nI q), .int (hb t q), .int 1, .int 0] [.int (nI acc.length)] (hp c0 n _ _) _
            refine Ex.nx rfl ?_
            refine Ex.nx rfl ?_
            refine Ex.ite (fun c8 => ?_) (fun c8 => ?_)
            · replace c8 : (nI acc.length) = 20 := of_decide_eq_true c8
              have d20 : acc.length = 20 := (nI_eq (b := 20) (by omega) (by decide)).mp c8
              show Ex X m_Reader_readTag 114 [.ref (c0 + 8), .ref (c0 + 1), .int sv, .int (nI run), .int (bi fs), .int (nI q), .int (hb t q), .int 1, .int 0] [] (hp c0 n _ _) _
              refine Ex.nx rfl ?_
              refine Ex.nx rfl ?_
              refine Ex.nx rfl ?_
              refine CR.rd hC rfl rfl rfl rfl (cr_fail hC 4 (nI q)) ?_
              rintro v h1 ⟨rfl, F14, rfl, hC14⟩
              show Ex X m_Reader_readTag 121 [.ref (c0 + 8), .ref (c0 + 1), .int sv, .int (nI run), .int (bi fs), .int (nI q), .int (hb t q), .int 1, .int 0] [.int (-1)] (hp c0 n _ _) _
              exact Ex.ret rfl (ev_reti rfl) (rP_f (show sT t (m + 1) q run fs acc = (false, q, acc) by first | (simp [sT, L45, D45, c2, c3, dr, d20]; done) | (exfalso; simp_all [L45, D45]; done)) ⟨_, _, _, _, _, _, (by decide), hC14⟩)
            · replace c8 : ¬ (nI acc.length) = 20 := of_decide_eq_false c8
              have d20 : ¬ acc.length = 20 := fun e => c8 (by rw [e]; rfl)
              show Ex X m_Reader_readTag 103 [.ref (c0 + 8), .ref (c0 + 1), .int sv, .int (nI run), .int (bi fs), .int (nI q), .int (hb t q), .int 1, .int 0] [] (hp c0 n _ _) _
              refine Ex.nx rfl ?_
              refine Ex.nx rfl ?_
              show Ex X m_Reader_readTag 108 [.ref (c0 + 8), .ref (c0 + 1), .int sv, .int (nI run), .int (bi fs), .int (nI q), .int (hb t q), .int 1, .int 0] [] (hp c0 n _ _) _
              refine Ex.nx rfl ?_
              refine Ex.nx rfl ?_
              refine Ex.nx rfl ?_
              refine Ex.ite (fun c9 => ?_) (fun c9 => ?_)
              · replace c9 : ¬ (nI run) = 8 := of_decide_eq_true c9
                have d8 : ¬ run = 8 := fun e => c9 (by rw [e]; rfl)
                show Ex X m_Reader_readTag 122 [.ref (c0 + 8), .ref (c0 + 1), .int sv, .int (nI run), .int (bi fs), .int (nI q), .int (hb t q), .int 1, .int 0] [] (hp c0 n _ _) _
                refine Ex.nx rfl ?_
                refine Ex.nx rfl ?_
                show Ex X m_Reader_readTag 140 [.ref (c0 + 8), .ref (c0 + 1), .int sv, .int (nI run), .int (bi fs), .int (nI q), .int (hb t q), .int 1, .int 0] [] (hp c0 n _ _) _
                refine Ex.nx rfl ?_
                refine Hx.get 8 rfl hC.r8 rfl ?_
                refine Hx.get 3 rfl hC.r3 rfl ?_
                refine Ex.nx rfl ?_
                refine Hx.calls rfl rfl rfl rfl (sx_Reader_small X (hb t q)) (fun v hv => ?_)
                subst hv
                show Ex X m_Reader_readTag 152 [.ref (c0 + 8), .ref (c0 + 1), .int sv, .int (nI run), .int (bi fs), .int (nI q), .int (hb t q), .int 1, .int 0] [.int (sml (hb t q)), .ref (c0 + 6)] (hp c0 n _ _) _
                refine Hx.top (y := nI (smlN (t.getD q 0))) (by rw [hb_lt (show q < t.length by omega)]; exact sml_all _ (hC.rt.by q)) ?_
                refine CR.adt (d := (smlN (t.getD q 0))) hC (smlN_lt _ (hC.rt.by q)) (by omega) rfl rfl ?_
                intro F15 hC15
                show Ex X m_Reader_readTag 155 [.ref (c0 + 8), .ref (c0 + 1), .int sv, .int (nI run), .int (bi fs), .int (nI q), .int (hb t q), .int 1, .int 0] [] (hp c0 n _ _) _
                refine Ex.nx rfl ?_
                refine Ex.nx rfl ?_
                show Ex X m_Reader_readTag 164 [.ref (c0 + 8), .ref (c0 + 1), .int sv, .int (nI run), .int (bi fs), .int (nI q), .int (hb t q), .int 1, .int 0] [] (hp c0 n _ _) _
                refine Ex.nx rfl ?_
                refine Ex.nx rfl ?_
                refine Ex.nx rfl ?_
                refine Ex.nx rfl ?_
                show Ex X m_Reader_readTag 168 [.ref (c0 + 8), .ref (c0 + 1), .int sv, .int ((nI run) + 1), .int (bi fs), .int (nI q), .int (hb t q), .int 1, .int 0] [] (hp c0 n _ _) _
                refine Ex.nx rfl ?_
                refine Ex.nx rfl ?_
                refine Ex.ite (fun c10 => ?_) (fun c10 => ?_)
                · replace c10 : fs = false := bi_eqt c10
                  show Ex X m_Reader_readTag 182 [.ref (c0 + 8), .ref (c0 + 1), .int sv, .int ((nI run) + 1), .int (bi fs), .int (nI q), .int (hb t q), .int 1, .int 0] [] (hp c0 n _ _) _
                  refine Ex.nx rfl ?_
                  refine Ex.nx rfl ?_
                  show Ex X m_Reader_readTag 185 [.ref (c0 + 8), .ref (c0 + 1), .int sv, .int ((nI run) + 1), .int 0, .int (nI q), .int (hb t q), .int 1, .int 0] [] (hp c0 n _ _) _
                  refine Ex.nx rfl ?_
                  show Ex X m_Reader_readTag 188 [.ref (c0 + 8), .ref (c0 + 1), .int sv, .int ((nI run) + 1), .int 0, .int ((nI q) + 1), .int (hb t q), .int 1, .int 0] [] (hp c0 n _ _) _
                  refine Ex.nx rfl ?_
                  show Ex X m_Reader_readTag 8 [.ref (c0 + 8), .ref (c0 + 1), .int sv, .int ((nI run) + 1), .int 0, .int ((nI q) + 1), .int (hb t q), .int 1, .int 0] [] (hp c0 n _ _) _
                  rw [show nI run + 1 = nI (run + 1) from nI_1 run, show nI q + 1 = nI (q + 1) from nI_1 q, show sT t (m + 1) q run fs acc = sT t m (q + 1) (run + 1) false (acc ++ [smlN (t.getD q 0)]) by first | (simp [sT, L45, D45, c2, c3, dr, d20, d8, c10]; done) | (exfalso; simp_all [L45, D45]; done)]
                  exact ih (q + 1) (run + 1) false _ _ _ _ _ (by omega) (by simp only [List.length_append, List.length_cons, List.length_nil]; omega) (by omega) hC15
                · replace c10 : fs = true := bi_eqf c10
                  show Ex X m_Reader_readTag 173 [.ref (c0 + 8), .ref (c0 + 1), .int sv, .int ((nI run) + 1), .int (bi fs), .int (nI q), .int (hb t q), .int 1, .int 0] [] (hp c0 n _ _) _
                  refine Ex.nx rfl ?_
                  refine Ex.nx rfl ?_
                  show Ex X m_Reader_readTag 178 [.ref (c0 + 8), .ref (c0 + 1), .int sv, .int ((nI run) + 1), .int (bi fs), .int (nI q), .int (hb t q), .int 1, .int 0] [] (hp c0 n _ _) _
                  refine Ex.nx rfl ?_
                  refine Ex.nx rfl ?_
                  refine Ex.nx rfl ?_
                  show Ex X m_Reader_readTag 185 [.ref (c0 + 8), .ref (c0 + 1), .int sv, .int ((nI run) + 1), .int 1, .int (nI q), .int (hb t q), .int 1, .int 0] [] (hp c0 n _ _) _
                  refine Ex.nx rfl ?_
                  show Ex X m_Reader_readTag 188 [.ref (c0 + 8), .ref (c0 + 1), .int sv, .int ((nI run) + 1), .int 1, .int ((nI q) + 1), .int (hb t q), .int 1, .int 0] [] (hp c0 n _ _) _
                  refine Ex.nx rfl ?_
                  show Ex X m_Reader_readTag 8 [.ref (c0 + 8), .ref (c0 + 1), .int sv, .int ((nI run) + 1), .int 1, .int ((nI q) + 1), .int (hb t q), .int 1, .int 0] [] (hp c0 n _ _) _
                  rw [show nI run + 1 = nI (run + 1) from nI_1 run, show nI q + 1 = nI (q + 1) from nI_1 q, show sT t (m + 1) q run fs acc = sT t m (q + 1) (run + 1) true (acc ++ [smlN (t.getD q 0)]) by first | (simp [sT, L45, D45, c2, c3, dr, d20, d8, c10]; done) | (exfalso; simp_all [L45, D45]; done)]
                  exact ih (q + 1) (run + 1) true _ _ _ _ _ (by omega) (by simp only [List.length_append, List.length_cons, List.length_nil]; omega) (by omega) hC15
              · replace c9 : (nI run) = 8 := Classical.not_not.mp (of_decide_eq_false c9)
                have d8 : run = 8 := (nI_eq (b := 8) (by omega) (by decide)).mp c9
                show Ex X m_Reader_readTag 114 [.ref (c0 + 8), .ref (c0 + 1), .int sv, .int (nI run), .int (bi fs), .int (nI q), .int (hb t q), .int 1, .int 0] [] (hp c0 n _ _) _
                refine Ex.nx rfl ?_
                refine Ex.nx rfl ?_
                refine Ex.nx rfl ?_
                refine CR.rd hC rfl rfl rfl rfl (cr_fail hC 4 (nI q)) ?_
                rintro v h1 ⟨rfl, F16, rfl, hC16⟩
                show Ex X m_Reader_readTag 121 [.ref (c0 + 8), .ref (c0 + 1), .int sv, .int (nI run), .int (bi fs), .int (nI q), .int (hb t q), .int 1, .int 0] [.int (-1)] (hp c0 n _ _) _
                exact Ex.ret rfl (ev_reti rfl) (rP_f (show sT t (m + 1) q run fs acc = (false, q, acc) by first | (simp [sT, L45, D45, c2, c3, dr, d20, d8]; done) | (exfalso; simp_all [L45, D45]; done)) ⟨_, _, _, _, _, _, (by decide), hC16⟩)
          · replace c7 : ¬ (nI run) ≤ 0 := of_decide_eq_false c7
            have dr : 0 < run := Nat.pos_of_ne_zero (fun e => c7 (by rw [e]; exact Int32.le_refl _))
            show Ex X m_Reader_readTag 64 [.ref (c0 + 8), .ref (c0 + 1), .int sv, .int (nI run), .int (bi fs), .int (nI q), .int (hb t q), .int 1, b8] [] (hp c0 n _ _) _
            refine Ex.nx rfl ?_
            refine Ex.nx rfl ?_
            refine Ex.nx rfl ?_
            show Ex X m_Reader_readTag 71 [.ref (c0 + 8), .ref (c0 + 1), .int sv, .int (nI run), .int (bi fs), .int (nI q), .int (hb t q), .int 1, .int 1] [] (hp c0 n _ _) _
            refine Ex.nx rfl ?_
            refine Ex.nx rfl ?_
            show Ex X m_Reader_readTag 88 [.ref (c0 + 8), .ref (c0 + 1), .int sv, .int (nI run), .int (bi fs), .int (nI q), .int (hb t q), .int 1, .int 1] [] (hp c0 n _ _) _
            refine Ex.nx rfl ?_
            refine Hx.get 8 rfl hC.r8 rfl ?_
            refine Hx.get 3 rfl hC.r3 rfl ?_
            refine CR.szt hC rfl rfl rfl ?_
            show Ex X m_Reader_readTag 98 [.ref (c0 + 8), .ref (c0 + 1), .int sv, .int (nI run), .int (bi fs), .int (nI q), .int (hb t q), .int 1, .int 1] [.int (nI acc.length)] (hp c0 n _ _) _
            refine Ex.nx rfl ?_
            refine Ex.nx rfl ?_
            refine Ex.ite (fun c11 => ?_) (fun c11 => ?_)
            · replace c11 : (nI acc.length) = 20 := of_decide_eq_true c11
              have d20 : acc.length = 20 := (nI_eq (b := 20) (by omega) (by decide)).mp c11
              show Ex X m_Reader_readTag 114 [.ref (c0 + 8), .ref (c0 + 1), .int sv, .int (nI run), .int (bi fs), .int (nI q), .int (hb t q), .int 1, .int 1] [] (hp c0 n _ _) _
              refine Ex.nx rfl ?_
              refine Ex.nx rfl ?_
              refine Ex.nx rfl ?_
              refine CR.rd hC rfl rfl rfl rfl (cr_fail hC 4 (nI q)) ?_
              rintro v h1 ⟨rfl, F17, rfl, hC17⟩
              show Ex X m_Reader_readTag 121 [.ref (c0 + 8), .ref (c0 + 1), .int sv, .int (nI run), .int (bi fs), .int (nI q), .int (hb t q), .int 1, .int 1] [.int (-1)] (hp c0 n _ _) _
              exact Ex.ret rfl (ev_reti rfl) (rP_f (show sT t (m + 1) q run fs acc = (false, q, acc) by first | (simp [sT, L45, D45, c2, c3, dr, d20]; done) | (exfalso; simp_all [L45, D45]; done)) ⟨_, _, _, _, _, _, (by decide), hC17⟩)
            · replace c11 : ¬ (nI acc.length) = 20 := of_decide_eq_false c11
              have d20 : ¬ acc.length = 20 := fun e => c11 (by rw [e]; rfl)
              show Ex X m_Reader_readTag 103 [.ref (c0 + 8), .ref (c0 + 1), .int sv, .int (nI run), .int (bi fs), .int (nI q), .int (hb t q), .int 1, .int 1] [] (hp c0 n _ _) _
              refine Ex.nx rfl ?_
              refine Ex.nx rfl ?_
              show Ex X m_Reader_readTag 108 [.ref (c0 + 8), .ref (c0 + 1), .int sv, .int (nI run), .int (bi fs), .int (nI q), .int (hb t q), .int 1, .int 1] [] (hp c0 n _ _) _
              refine Ex.nx rfl ?_
              refine Ex.nx rfl ?_
              refine Ex.nx rfl ?_
              refine Ex.ite (fun c12 => ?_) (fun c12 => ?_)
              · replace c12 : ¬ (nI run) = 8 := of_decide_eq_true c12
                have d8 : ¬ run = 8 := fun e => c12 (by rw [e]; rfl)
                show Ex X m_Reader_readTag 122 [.ref (c0 + 8), .ref (c0 + 1), .int sv, .int (nI run), .int (bi fs), .int (nI q), .int (hb t q), .int 1, .int 1] [] (hp c0 n _ _) _
                refine Ex.nx rfl ?_
                refine Ex.nx rfl ?_
                show Ex X m_Reader_readTag 140 [.ref (c0 + 8), .ref (c0 + 1), .int sv, .int (nI run), .int (bi fs), .int (nI q), .int (hb t q), .int 1, .int 1] [] (hp c0 n _ _) _
                refine Ex.nx rfl ?_
                refine Hx.get 8 rfl hC.r8 rfl ?_
                refine Hx.get 3 rfl hC.r3 rfl ?_
                refine Ex.nx rfl ?_
                refine Hx.calls rfl rfl rfl rfl (sx_Reader_small X (hb t q)) (fun v hv => ?_)
                subst hv
                show Ex X m_Reader_readTag 152 [.ref (c0 + 8), .ref (c0 + 1), .int sv, .int (nI run), .int (bi fs), .int (nI q), .int (hb t q), .int 1, .int 1] [.int (sml (hb t q)), .ref (c0 + 6)] (hp c0 n _ _) _
                refine Hx.top (y := nI (smlN (t.getD q 0))) (by rw [hb_lt (show q < t.length by omega)]; exact sml_all _ (hC.rt.by q)) ?_
                refine CR.adt (d := (smlN (t.getD q 0))) hC (smlN_lt _ (hC.rt.by q)) (by omega) rfl rfl ?_
                intro F18 hC18
                show Ex X m_Reader_readTag 155 [.ref (c0 + 8), .ref (c0 + 1), .int sv, .int (nI run), .int (bi fs), .int (nI q), .int (hb t q), .int 1, .int 1] [] (hp c0 n _ _) _
                refine Ex.nx rfl ?_
                refine Ex.nx rfl ?_
                show Ex X m_Reader_readTag 160 [.ref (c0 + 8), .ref (c0 + 1), .int sv, .int (nI run), .int (bi fs), .int (nI q), .int (hb t q), .int 1, .int 1] [] (hp c0 n _ _) _
                refine Ex.nx rfl ?_
                refine Ex.nx rfl ?_
                refine Ex.nx rfl ?_
                show Ex X m_Reader_readTag 168 [.ref (c0 + 8), .ref (c0 + 1), .int sv, .int 0, .int (bi fs), .int (nI q), .int (hb t q), .int 1, .int 1] [] (hp c0 n _ _) _
                refine Ex.nx rfl ?_
                refine Ex.nx rfl ?_
                refine Ex.ite (fun c13 => ?_) (fun c13 => ?_)
                · replace c13 : fs = false := bi_eqt c13
                  show Ex X m_Reader_readTag 182 [.ref (c0 + 8), .ref (c0 + 1), .int sv, .int 0, .int (bi fs), .int (nI q), .int (hb t q), .int 1, .int 1] [] (hp c0 n _ _) _
                  refine Ex.nx rfl ?_
                  refine Ex.nx rfl ?_
                  show Ex X m_Reader_readTag 185 [.ref (c0 + 8), .ref (c0 + 1), .int sv, .int 0, .int 0, .int (nI q), .int (hb t q), .int 1, .int 1] [] (hp c0 n _ _) _
                  refine Ex.nx rfl ?_
                  show Ex X m_Reader_readTag 188 [.ref (c0 + 8), .ref (c0 + 1), .int sv, .int 0, .int 0, .int ((nI q) + 1), .int (hb t q), .int 1, .int 1] [] (hp c0 n _ _) _
                  refine Ex.nx rfl ?_
                  show Ex X m_Reader_readTag 8 [.ref (c0 + 8), .ref (c0 + 1), .int sv, .int 0, .int 0, .int ((nI q) + 1), .int (hb t q), .int 1, .int 1] [] (hp c0 n _ _) _
                  rw [show nI q + 1 = nI (q + 1) from nI_1 q, show sT t (m + 1) q run fs acc = sT t m (q + 1) 0 false (acc ++ [smlN (t.getD q 0)]) by first | (simp [sT, L45, D45, c2, c3, dr, d20, d8, c13]; done) | (exfalso; simp_all [L45, D45]; done)]
                  exact ih (q + 1) 0 false _ _ _ _ _ (by omega) (by simp only [List.length_append, List.length_cons, List.length_nil]; omega) (by omega) hC18
                · replace c13 : fs = true := bi_eqf c13
                  show Ex X m_Reader_readTag 173 [.ref (c0 + 8), .ref (c0 + 1), .int sv, .int 0, .int (bi fs), .int (nI q), .int (hb t q), .int 1, .int 1] [] (hp c0 n _ _) _
                  refine Ex.nx rfl ?_
                  refine Ex.nx rfl ?_
                  show Ex X m_Reader_readTag 182 [.ref (c0 + 8), .ref (c0 + 1), .int sv, .int 0, .int (bi fs), .int (nI q), .int (hb t q), .int 1, .int 1] [] (hp c0 n _ _) _
                  refine Ex.nx rfl ?_
                  refine Ex.nx rfl ?_
                  show Ex X m_Reader_readTag 185 [.ref (c0 + 8), .ref (c0 + 1), .int sv, .int 0, .int 0, .int (nI q), .int (hb t q), .int 1, .int 1] [] (hp c0 n _ _) _
                  refine Ex.nx rfl ?_
                  show Ex X m_Reader_readTag 188 [.ref (c0 + 8), .ref (c0 + 1), .int sv, .int 0, .int 0, .int ((nI q) + 1), .int (hb t q), .int 1, .int 1] [] (hp c0 n _ _) _
                  refine Ex.nx rfl ?_
                  show Ex X m_Reader_readTag 8 [.ref (c0 + 8), .ref (c0 + 1), .int sv, .int 0, .int 0, .int ((nI q) + 1), .int (hb t q), .int 1, .int 1] [] (hp c0 n _ _) _
                  rw [show nI q + 1 = nI (q + 1) from nI_1 q, show sT t (m + 1) q run fs acc = sT t m (q + 1) 0 false (acc ++ [smlN (t.getD q 0)]) by first | (simp [sT, L45, D45, c2, c3, dr, d20, d8, c13]; done) | (exfalso; simp_all [L45, D45]; done)]
                  exact ih (q + 1) 0 false _ _ _ _ _ (by omega) (by simp only [List.length_append, List.length_cons, List.length_nil]; omega) (by omega) hC18
              · replace c12 : (nI run) = 8 := Classical.not_not.mp (of_decide_eq_false c12)
                have d8 : run = 8 := (nI_eq (b := 8) (by omega) (by decide)).mp c12
                show Ex X m_Reader_readTag 114 [.ref (c0 + 8), .ref (c0 + 1), .int sv, .int (nI run), .int (bi fs), .int (nI q), .int (hb t q), .int 1, .int 1] [] (hp c0 n _ _) _
                refine Ex.nx rfl ?_
                refine Ex.nx rfl ?_
                refine Ex.nx rfl ?_
                refine CR.rd hC rfl rfl rfl rfl (cr_fail hC 4 (nI q)) ?_
                rintro v h1 ⟨rfl, F19, rfl, hC19⟩
                show Ex X m_Reader_readTag 121 [.ref (c0 + 8), .ref (c0 + 1), .int sv, .int (nI run), .int (bi fs), .int (nI q), .int (hb t q), .int 1, .int 1] [.int (-1)] (hp c0 n _ _) _
                exact Ex.ret rfl (ev_reti rfl) (rP_f (show sT t (m + 1) q run fs acc = (false, q, acc) by first | (simp [sT, L45, D45, c2, c3, dr, d20, d8]; done) | (exfalso; simp_all [L45, D45]; done)) ⟨_, _, _, _, _, _, (by decide), hC19⟩)
      · replace c2 : (isL (hb t q)) = false := bi_nef c2
        show Ex X m_Reader_readTag 33 [.ref (c0 + 8), .ref (c0 + 1), .int sv, .int (nI run), .int (bi fs), .int (nI q), .int (hb t q), b7, b8] [] (hp c0 n _ _) _
        refine Ex.nx rfl ?_
        refine Hx.calls rfl rfl rfl rfl (sx_Reader_isDigit X (hb t q)) (fun v hv => ?_)
        subst hv
        show Ex X m_Reader_readTag 38 [.ref (c0 + 8), .ref (c0 + 1), .int sv, .int (nI run), .int (bi fs), .int (nI q), .int (hb t q), b7, b8] [.int (bi (isD (hb t q)))] (hp c0 n _ _) _
        refine Ex.nx rfl ?_
        refine Ex.ite (fun c14 => ?_) (fun c14 => ?_)
        · replace c14 : (isD (hb t q)) = false := bi_eqt c14
          show Ex X m_Reader_readTag 50 [.ref (c0 + 8), .ref (c0 + 1), .int sv, .int (nI run), .int (bi fs), .int (nI q), .int (hb t q), b7, b8] [] (hp c0 n _ _) _
          refine Ex.nx rfl ?_
          refine Ex.nx rfl ?_
          show Ex X m_Reader_readTag 53 [.ref (c0 + 8), .ref (c0 + 1), .int sv, .int (nI run), .int (bi fs), .int (nI q), .int (hb t q), .int 0, b8] [] (hp c0 n _ _) _
          refine Ex.nx rfl ?_
          refine Ex.nx rfl ?_
          refine Ex.nx rfl ?_
          refine Ex.ite (fun c15 => ?_) (fun c15 => ?_)
          · replace c15 : ¬ (hb t q) = 45 := of_decide_eq_true c15
            show Ex X m_Reader_readTag 68 [.ref (c0 + 8), .ref (c0 + 1), .int sv, .int (nI run), .int (bi fs), .int (nI q), .int (hb t q), .int 0, b8] [] (hp c0 n _ _) _
            refine Ex.nx rfl ?_
            refine Ex.nx rfl ?_
            show Ex X m_Reader_readTag 71 [.ref (c0 + 8), .ref (c0 + 1), .int sv, .int (nI run), .int (bi fs), .int (nI q), .int (hb t q), .int 0, .int 0] [] (hp c0 n _ _) _
            refine Ex.nx rfl ?_
            refine Ex.nx rfl ?_
            show Ex X m_Reader_readTag 76 [.ref (c0 + 8), .ref (c0 + 1), .int sv, .int (nI run), .int (bi fs), .int (nI q), .int (hb t q), .int 0, .int 0] [] (hp c0 n _ _) _
            refine Ex.nx rfl ?_
            refine Ex.nx rfl ?_
            show Ex X m_Reader_readTag 81 [.ref (c0 + 8), .ref (c0 + 1), .int sv, .int (nI run), .int (bi fs), .int (nI q), .int (hb t q), .int 0, .int 0] [] (hp c0 n _ _) _
            refine Ex.nx rfl ?_
            refine Ex.nx rfl ?_
            refine Ex.ite (fun c16 => ?_) (fun c16 => ?_)
            · replace c16 : (nI run) ≤ 0 := of_decide_eq_true c16
              have dr : ¬ 0 < run := by have := (nI_leI (b := 0) (by omega) (by decide)).mp c16; omega
              show Ex X m_Reader_readTag 88 [.ref (c0 + 8), .ref (c0 + 1), .int sv, .int (nI run), .int (bi fs), .int (nI q), .int (hb t q), .int 0, .int 0] [] (hp c0 n _ _) _
              refine Ex.nx rfl ?_
              refine Hx.get 8 rfl hC.r8 rfl ?_
              refine Hx.get 3 rfl hC.r3 rfl ?_
              refine CR.szt hC rfl rfl rfl ?_
              show Ex X m_Reader_readTag 98 [.ref (c0 + 8), .ref (c0 + 1), .int sv, .int (nI run), .int (bi fs), .int (nI q), .int (hb t q), .int 0, .int 0] [.int (nI acc.length)] (hp c0 n _ _) _
              refine Ex.nx rfl ?_
              refine Ex.nx rfl ?_
              refine Ex.ite (fun c17 => ?_) (fun c17 => ?_)
              · replace c17 : (nI acc.length) = 20 := of_decide_eq_true c17
                have d20 : acc.length = 20 := (nI_eq (b := 20) (by omega) (by decide)).mp c17
                show Ex X m_Reader_readTag 114 [.ref (c0 + 8), .ref (c0 + 1), .int sv, .int (nI run), .int (bi fs), .int (nI q), .int (hb t q), .int 0, .int 0] [] (hp c0 n _ _) _
                refine Ex.nx rfl ?_
                refine Ex.nx rfl ?_
                refine Ex.nx rfl ?_
                refine CR.rd hC rfl rfl rfl rfl (cr_fail hC 4 (nI q)) ?_
                rintro v h1 ⟨rfl, F20, rfl, hC20⟩
                show Ex X m_Reader_readTag 121 [.ref (c0 + 8), .ref (c0 + 1), .int sv, .int (nI run), .int (bi fs), .int (nI q), .int (hb t q), .int 0, .int 0] [.int (-1)] (hp c0 n _ _) _
                exact Ex.ret rfl (ev_reti rfl) (rP_f (show sT t (m + 1) q run fs acc = (false, q, acc) by first | (simp [sT, L45, D45, c2, c14, c15, dr, d20]; done) | (exfalso; simp_all [L45, D45]; done)) ⟨_, _, _, _, _, _, (by decide), hC20⟩)
              · replace c17 : ¬ (nI acc.length) = 20 := of_decide_eq_false c17
                have d20 : ¬ acc.length = 20 := fun e => c17 (by rw [e]; rfl)
                show Ex X m_Reader_readTag 103 [.ref (c0 + 8), .ref (c0 + 1), .int sv, .int (nI run), .int (bi fs), .int (nI q), .int (hb t q), .int 0, .int 0] [] (hp c0 n _ _) _
                refine Ex.nx rfl ?_
                refine Ex.nx rfl ?_
                show Ex X m_Reader_readTag 122 [.ref (c0 + 8), .ref (c0 + 1), .int sv, .int (nI run), .int (bi fs), .int (nI q), .int (hb t q), .int 0, .int 0] [] (hp c0 n _ _) _
                refine Ex.nx rfl ?_
                refine Ex.nx rfl ?_
                show Ex X m_Reader_readTag 127 [.ref (c0 + 8), .ref (c0 + 1), .int sv, .int (nI run), .int (bi fs), .int (nI q), .int (hb t q), .int 0, .int 0] [] (hp c0 n _ _) _
                refine Ex.nx rfl ?_
                refine Ex.nx rfl ?_
                show Ex X m_Reader_readTag 132 [.ref (c0 + 8), .ref (c0 + 1), .int sv, .int (nI run), .int (bi fs), .int (nI q), .int (hb t q), .int 0, .int 0] [] (hp c0 n _ _) _
                refine Ex.nx rfl ?_
                refine Ex.nx rfl ?_
                refine Ex.nx rfl ?_
                refine CR.rd hC rfl rfl rfl rfl (cr_fail hC 3 (nI q)) ?_
                rintro v h1 ⟨rfl, F21, rfl, hC21⟩
                show Ex X m_Reader_readTag 139 [.ref (c0 + 8), .ref (c0 + 1), .int sv, .int (nI run), .int (bi fs), .int (nI q), .int (hb t q), .int 0, .int 0] [.int (-1)] (hp c0 n _ _) _
                exact Ex.ret rfl (ev_reti rfl) (rP_f (show sT t (m + 1) q run fs acc = (false, q, acc) by first | (simp [sT, L45, D45, c2, c14, c15, dr, d20]; done) | (exfalso; simp_all [L45, D45]; done)) ⟨_, _, _, _, _, _, (by decide), hC21⟩)
            · replace c16 : ¬ (nI run) ≤ 0 := of_decide_eq_false c16
              have dr : 0 < run := Nat.pos_of_ne_zero (fun e => c16 (by rw [e]; exact Int32.le_refl _))
              show Ex X m_Reader_readTag 85 [.ref (c0 + 8), .ref (c0 + 1), .int sv, .int (nI run), .int (bi fs), .int (nI q), .int (hb t q), .int 0, .int 0] [] (hp c0 n _ _) _
              refine Ex.nx rfl ?_
              exact Ex.ret rfl (ev_reti rfl) (rP_t (show sT t (m + 1) q run fs acc = (true, q, acc) by first | (simp [sT, L45, D45, c2, c14, c15, dr]; done) | (exfalso; simp_all [L45, D45]; done)) hC)
          · replace c15 : (hb t q) = 45 := Classical.not_not.mp (of_decide_eq_false c15)
            show Ex X m_Reader_readTag 60 [.ref (c0 + 8), .ref (c0 + 1), .int sv, .int (nI run), .int (bi fs), .int (nI q), .int (hb t q), .int 0, b8] [] (hp c0 n _ _) _
            refine Ex.nx rfl ?_
            refine Ex.nx rfl ?_
            refine Ex.ite (fun c18 => ?_) (fun c18 => ?_)
            · replace c18 : (nI run) ≤ 0 := of_decide_eq_true c18
              have dr : ¬ 0 < run := by have := (nI_leI (b := 0) (by omega) (by decide)).mp c18; omega
              show Ex X m_Reader_readTag 68 [.ref (c0 + 8), .ref (c0 + 1), .int sv, .int (nI run), .int (bi fs), .int (nI q), .int (hb t q), .int 0, b8] [] (hp c0 n _ _) _
              refine Ex.nx rfl ?_
              refine Ex.nx rfl ?_
              show Ex X m_Reader_readTag 71 [.ref (c0 + 8), .ref (c0 + 1), .int sv, .int (nI run), .int (bi fs), .int (nI q), .int (hb t q), .int 0, .int 0] [] (hp c0 n _ _) _
              refine Ex.nx rfl ?_
              refine Ex.nx rfl ?_
              show Ex X m_Reader_readTag 76 [.ref (c0 + 8), .ref (c0 + 1), .int sv, .int (nI run), .int (bi fs), .int (nI q), .int (hb t q), .int 0, .int 0] [] (hp c0 n _ _) _
              refine Ex.nx rfl ?_
              refine Ex.nx rfl ?_
              show Ex X m_Reader_readTag 81 [.ref (c0 + 8), .ref (c0 + 1), .int sv, .int (nI run), .int (bi fs), .int (nI q), .int (hb t q), .int 0, .int 0] [] (hp c0 n _ _) _
              refine Ex.nx rfl ?_
              refine Ex.nx rfl ?_
              refine Ex.ite (fun c19 => ?_) (fun c19 => ?_)
              · replace c19 : (nI run) ≤ 0 := of_decide_eq_true c19
                have dr : ¬ 0 < run := by have := (nI_leI (b := 0) (by omega) (by decide)).mp c19; omega
                show Ex X m_Reader_readTag 88 [.ref (c0 + 8), .ref (c0 + 1), .int sv, .int (nI run), .int (bi fs), .int (nI q), .int (hb t q), .int 0, .int 0] [] (hp c0 n _ _) _
                refine Ex.nx rfl ?_
                refine Hx.get 8 rfl hC.r8 rfl ?_
                refine Hx.get 3 rfl hC.r3 rfl ?_
                refine CR.szt hC rfl rfl rfl ?_
                show Ex X m_Reader_readTag 98 [.ref (c0 + 8), .ref (c0 + 1), .int sv, .int (nI run), .int (bi fs), .int (nI q), .int (hb t q), .int 0, .int 0] [.int (nI acc.length)] (hp c0 n _ _) _
                refine Ex.nx rfl ?_
                refine Ex.nx rfl ?_
                refine Ex.ite (fun c20 => ?_) (fun c20 => ?_)
                · replace c20 : (nI acc.length) = 20 := of_decide_eq_true c20
                  have d20 : acc.length = 20 := (nI_eq (b := 20) (by omega) (by decide)).mp c20
                  show Ex X m_Reader_readTag 114 [.ref (c0 + 8), .ref (c0 + 1), .int sv, .int (nI run), .int (bi fs), .int (nI q), .int (hb t q), .int 0, .int 0] [] (hp c0 n _ _) _
                  refine Ex.nx rfl ?_
                  refine Ex.nx rfl ?_
                  refine Ex.nx rfl ?_
                  refine CR.rd hC rfl rfl rfl rfl (cr_fail hC 4 (nI q)) ?_
                  rintro v h1 ⟨rfl, F22, rfl, hC22⟩
                  show Ex X m_Reader_readTag 121 [.ref (c0 + 8), .ref (c0 + 1), .int sv, .int (nI run), .int (bi fs), .int (nI q), .int (hb t q), .int 0, .int 0] [.int (-1)] (hp c0 n _ _) _
                  exact Ex.ret rfl (ev_reti rfl) (rP_f (show sT t (m + 1) q run fs acc = (false, q, acc) by first | (simp [sT, L45, D45, c2, c14, c15, dr, d20]; done) | (exfalso; simp_all [L45, D45]; done)) ⟨_, _, _, _, _, _, (by decide), hC22⟩)
                · replace c20 : ¬ (nI acc.length) = 20 := of_decide_eq_false c20
                  have d20 : ¬ acc.length = 20 := fun e => c20 (by rw [e]; rfl)
                  show Ex X m_Reader_readTag 103 [.ref (c0 + 8), .ref (c0 + 1), .int sv, .int (nI run), .int (bi fs), .int (nI q), .int (hb t q), .int 0, .int 0] [] (hp c0 n _ _) _
                  refine Ex.nx rfl ?_
                  refine Ex.nx rfl ?_
                  show Ex X m_Reader_readTag 122 [.ref (c0 + 8), .ref (c0 + 1), .int sv, .int (nI run), .int (bi fs), .int (nI q), .int (hb t q), .int 0, .int 0] [] (hp c0 n _ _) _
                  refine Ex.nx rfl ?_
                  refine Ex.nx rfl ?_
                  show Ex X m_Reader_readTag 127 [.ref (c0 + 8), .ref (c0 + 1), .int sv, .int (nI run), .int (bi fs), .int (nI q), .int (hb t q), .int 0, .int 0] [] (hp c0 n _ _) _
                  refine Ex.nx rfl ?_
                  refine Ex.nx rfl ?_
                  show Ex X m_Reader_readTag 132 [.ref (c0 + 8), .ref (c0 + 1), .int sv, .int (nI run), .int (bi fs), .int (nI q), .int (hb t q), .int 0, .int 0] [] (hp c0 n _ _) _
                  refine Ex.nx rfl ?_
                  refine Ex.nx rfl ?_
                  refine Ex.nx rfl ?_
                  refine CR.rd hC rfl rfl rfl rfl (cr_fail hC 3 (nI q)) ?_
                  rintro v h1 ⟨rfl, F23, rfl, hC23⟩
                  show Ex X m_Reader_readTag 139 [.ref (c0 + 8), .ref (c0 + 1), .int sv, .int (nI run), .int (bi fs), .int (nI q), .int (hb t q), .int 0, .int 0] [.int (-1)] (hp c0 n _ _) _
                  exact Ex.ret rfl (ev_reti rfl) (rP_f (show sT t (m + 1) q run fs acc = (false, q, acc) by first | (simp [sT, L45, D45, c2, c14, c15, dr, d20]; done) | (exfalso; simp_all [L45, D45]; done)) ⟨_, _, _, _, _, _, (by decide), hC23⟩)
              · replace c19 : ¬ (nI run) ≤ 0 := of_decide_eq_false c19
                exact absurd c18 c19
            · replace c18 : ¬ (nI run) ≤ 0 := of_decide_eq_false c18
              have dr : 0 < run := Nat.pos_of_ne_zero (fun e => c18 (by rw [e]; exact Int32.le_refl _))
              show Ex X m_Reader_readTag 64 [.ref (c0 + 8), .ref (c0 + 1), .int sv, .int (nI run), .int (bi fs), .int (nI q), .int (hb t q), .int 0, b8] [] (hp c0 n _ _) _
              refine Ex.nx rfl ?_
              refine Ex.nx rfl ?_
              refine Ex.nx rfl ?_
              show Ex X m_Reader_readTag 71 [.ref (c0 + 8), .ref (c0 + 1), .int sv, .int (nI run), .int (bi fs), .int (nI q), .int (hb t q), .int 0, .int 1] [] (hp c0 n _ _) _
              refine Ex.nx rfl ?_
              refine Ex.nx rfl ?_
              show Ex X m_Reader_readTag 76 [.ref (c0 + 8), .ref (c0 + 1), .int sv, .int (nI run), .int (bi fs), .int (nI q), .int (hb t q), .int 0, .int 1] [] (hp c0 n _ _) _
              refine Ex.nx rfl ?_
              refine Ex.nx rfl ?_
              show Ex X m_Reader_readTag 88 [.ref (c0 + 8), .ref (c0 + 1), .int sv, .int (nI run), .int (bi fs), .int (nI q), .int (hb t q), .int 0, .int 1] [] (hp c0 n _ _) _
              refine Ex.nx rfl ?_
              refine Hx.get 8 rfl hC.r8 rfl ?_
              refine Hx.get 3 rfl hC.r3 rfl ?_
              refine CR.szt hC rfl rfl rfl ?_
              show Ex X m_Reader_readTag 98 [.ref (c0 + 8), .ref (c0 + 1), .int sv, .int (nI run), .int (bi fs), .int (nI q), .int (hb t q), .int 0, .int 1] [.int (nI acc.length)] (hp c0 n _ _) _
              refine Ex.nx rfl ?_
              refine Ex.nx rfl ?_
              refine Ex.ite (fun c21 => ?_) (fun c21 => ?_)
              · replace c21 : (nI acc.length) = 20 := of_decide_eq_true c21
                have d20 : acc.length = 20 := (nI_eq (b := 20) (by omega) (by decide)).mp c21
                show Ex X m_Reader_readTag 114 [.ref (c0 + 8), .ref (c0 + 1), .int sv, .int (nI run), .int (bi fs), .int (nI q), .int (hb t q), .int 0, .int 1] [] (hp c0 n _ _) _
                refine Ex.nx rfl ?_
                refine Ex.nx rfl ?_
                refine Ex.nx rfl ?_
                refine CR.rd hC rfl rfl rfl rfl (cr_fail hC 4 (nI q)) ?_
                rintro v h1 ⟨rfl, F24, rfl, hC24⟩
                show Ex X m_Reader_readTag 121 [.ref (c0 + 8), .ref (c0 + 1), .int sv, .int (nI run), .int (bi fs), .int (nI q), .int (hb t q), .int 0, .int 1] [.int (-1)] (hp c0 n _ _) _
                exact Ex.ret rfl (ev_reti rfl) (rP_f (show sT t (m + 1) q run fs acc = (false, q, acc) by first | (simp [sT, L45, D45, c2, c14, c15, dr, d20]; done) | (exfalso; simp_all [L45, D45]; done)) ⟨_, _, _, _, _, _, (by decide), hC24⟩)
              · replace c21 : ¬ (nI acc.length) = 20 := of_decide_eq_false c21
                have d20 : ¬ acc.length = 20 := fun e => c21 (by rw [e]; rfl)
                show Ex X m_Reader_readTag 103 [.ref (c0 + 8), .ref (c0 + 1), .int sv, .int (nI run), .int (bi fs), .int (nI q), .int (hb t q), .int 0, .int 1] [] (hp c0 n _ _) _
                refine Ex.nx rfl ?_
                refine Ex.nx rfl ?_
                show Ex X m_Reader_readTag 122 [.ref (c0 + 8), .ref (c0 + 1), .int sv, .int (nI run), .int (bi fs), .int (nI q), .int (hb t q), .int 0, .int 1] [] (hp c0 n _ _) _
                refine Ex.nx rfl ?_
                refine Ex.nx rfl ?_
                show Ex X m_Reader_readTag 127 [.ref (c0 + 8), .ref (c0 + 1), .int sv, .int (nI run), .int (bi fs), .int (nI q), .int (hb t q), .int 0, .int 1] [] (hp c0 n _ _) _
                refine Ex.nx rfl ?_
                refine Ex.nx rfl ?_
                show Ex X m_Reader_readTag 140 [.ref (c0 + 8), .ref (c0 + 1), .int sv, .int (nI run), .int (bi fs), .int (nI q), .int (hb t q), .int 0, .int 1] [] (hp c0 n _ _) _
                refine Ex.nx rfl ?_
                refine Hx.get 8 rfl hC.r8 rfl ?_
                refine Hx.get 3 rfl hC.r3 rfl ?_
                refine Ex.nx rfl ?_
                refine Hx.calls rfl rfl rfl rfl (sx_Reader_small X (hb t q)) (fun v hv => ?_)
                subst hv
                show Ex X m_Reader_readTag 152 [.ref (c0 + 8), .ref (c0 + 1), .int sv, .int (nI run), .int (bi fs), .int (nI q), .int (hb t q), .int 0, .int 1] [.int (sml (hb t q)), .ref (c0 + 6)] (hp c0 n _ _) _
                refine Hx.top (y := nI (smlN (t.getD q 0))) (by rw [hb_lt (show q < t.length by omega)]; exact sml_all _ (hC.rt.by q)) ?_
                refine CR.adt (d := (smlN (t.getD q 0))) hC (smlN_lt _ (hC.rt.by q)) (by omega) rfl rfl ?_
                intro F25 hC25
                show Ex X m_Reader_readTag 155 [.ref (c0 + 8), .ref (c0 + 1), .int sv, .int (nI run), .int (bi fs), .int (nI q), .int (hb t q), .int 0, .int 1] [] (hp c0 n _ _) _
                refine Ex.nx rfl ?_
                refine Ex.nx rfl ?_
                show Ex X m_Reader_readTag 160 [.ref (c0 + 8), .ref (c0 + 1), .int sv, .int (nI run), .int (bi fs), .int (nI q), .int (hb t q), .int 0, .int 1] [] (hp c0 n _ _) _
                refine Ex.nx rfl ?_
                refine Ex.nx rfl ?_
                refine Ex.nx rfl ?_
                show Ex X m_Reader_readTag 168 [.ref (c0 + 8), .ref (c0 + 1), .int sv, .int 0, .int (bi fs), .int (nI q), .int (hb t q), .int 0, .int 1] [] (hp c0 n _ _) _
                refine Ex.nx rfl ?_
                refine Ex.nx rfl ?_
                refine Ex.ite (fun c22 => ?_) (fun c22 => ?_)
                · replace c22 : fs = false := bi_eqt c22
                  show Ex X m_Reader_readTag 182 [.ref (c0 + 8), .ref (c0 + 1), .int sv, .int 0, .int (bi fs), .int (nI q), .int (hb t q), .int 0, .int 1] [] (hp c0 n _ _) _
                  refine Ex.nx rfl ?_
                  refine Ex.nx rfl ?_
                  show Ex X m_Reader_readTag 185 [.ref (c0 + 8), .ref (c0 + 1), .int sv, .int 0, .int 0, .int (nI q), .int (hb t q), .int 0, .int 1] [] (hp c0 n _ _) _
                  refine Ex.nx rfl ?_
                  show Ex X m_Reader_readTag 188 [.ref (c0 + 8), .ref (c0 + 1), .int sv, .int 0, .int 0, .int ((nI q) + 1), .int (hb t q), .int 0, .int 1] [] (hp c0 n _ _) _
                  refine Ex.nx rfl ?_
                  show Ex X m_Reader_readTag 8 [.ref (c0 + 8), .ref (c0 + 1), .int sv, .int 0, .int 0, .int ((nI q) + 1), .int (hb t q), .int 0, .int 1] [] (hp c0 n _ _) _
                  rw [show nI q + 1 = nI (q + 1) from nI_1 q, show sT t (m + 1) q run fs acc = sT t m (q + 1) 0 false (acc ++ [smlN (t.getD q 0)]) by first | (simp [sT, L45, D45, c2, c14, c15, dr, d20, c22]; done) | (exfalso; simp_all [L45, D45]; done)]
                  exact ih (q + 1) 0 false _ _ _ _ _ (by omega) (by simp only [List.length_append, List.length_cons, List.length_nil]; omega) (by omega) hC25
                · replace c22 : fs = true := bi_eqf c22
                  show Ex X m_Reader_readTag 173 [.ref (c0 + 8), .ref (c0 + 1), .int sv, .int 0, .int (bi fs), .int (nI q), .int (hb t q), .int 0, .int 1] [] (hp c0 n _ _) _
                  refine Ex.nx rfl ?_
                  refine Ex.nx rfl ?_
                  show Ex X m_Reader_readTag 182 [.ref (c0 + 8), .ref (c0 + 1), .int sv, .int 0, .int (bi fs), .int (nI q), .int (hb t q), .int 0, .int 1] [] (hp c0 n _ _) _
                  refine Ex.nx rfl ?_
                  refine Ex.nx rfl ?_
                  show Ex X m_Reader_readTag 185 [.ref (c0 + 8), .ref (c0 + 1), .int sv, .int 0, .int 0, .int (nI q), .int (hb t q), .int 0, .int 1] [] (hp c0 n _ _) _
                  refine Ex.nx rfl ?_
                  show Ex X m_Reader_readTag 188 [.ref (c0 + 8), .ref (c0 + 1), .int sv, .int 0, .int 0, .int ((nI q) + 1), .int (hb t q), .int 0, .int 1] [] (hp c0 n _ _) _
                  refine Ex.nx rfl ?_
                  show Ex X m_Reader_readTag 8 [.ref (c0 + 8), .ref (c0 + 1), .int sv, .int 0, .int 0, .int ((nI q) + 1), .int (hb t q), .int 0, .int 1] [] (hp c0 n _ _) _
                  rw [show nI q + 1 = nI (q + 1) from nI_1 q, show sT t (m + 1) q run fs acc = sT t m (q + 1) 0 false (acc ++ [smlN (t.getD q 0)]) by first | (simp [sT, L45, D45, c2, c14, c15, dr, d20, c22]; done) | (exfalso; simp_all [L45, D45]; done)]
                  exact ih (q + 1) 0 false _ _ _ _ _ (by omega) (by simp only [List.length_append, List.length_cons, List.length_nil]; omega) (by omega) hC25
        · replace c14 : (isD (hb t q)) = true := bi_eqf c14
          show Ex X m_Reader_readTag 41 [.ref (c0 + 8), .ref (c0 + 1), .int sv, .int (nI run), .int (bi fs), .int (nI q), .int (hb t q), b7, b8] [] (hp c0 n _ _) _
          refine Ex.nx rfl ?_
          refine Ex.nx rfl ?_
          refine Ex.ite (fun c23 => ?_) (fun c23 => ?_)
          · replace c23 : fs = true := bi_net c23
            show Ex X m_Reader_readTag 50 [.ref (c0 + 8), .ref (c0 + 1), .int sv, .int (nI run), .int (bi fs), .int (nI q), .int (hb t q), b7, b8] [] (hp c0 n _ _) _
            refine Ex.nx rfl ?_
            refine Ex.nx rfl ?_
            show Ex X m_Reader_readTag 53 [.ref (c0 + 8), .ref (c0 + 1), .int sv, .int (nI run), .int (bi fs), .int (nI q), .int (hb t q), .int 0, b8] [] (hp c0 n _ _) _
            refine Ex.nx rfl ?_
            refine Ex.nx rfl ?_
            refine Ex.nx rfl ?_
            refine Ex.ite (fun c24 => ?_) (fun c24 => ?_)
            · replace c24 : ¬ (hb t q) = 45 := of_decide_eq_true c24
              show Ex X m_Reader_readTag 68 [.ref (c0 + 8), .ref (c0 + 1), .int sv, .int (nI run), .int (bi fs), .int (nI q), .int (hb t q), .int 0, b8] [] (hp c0 n _ _) _
              refine Ex.nx rfl ?_
              refine Ex.nx rfl ?_
              show Ex X m_Reader_readTag 71 [.ref (c0 + 8), .ref (c0 + 1), .int sv, .int (nI run), .int (bi fs), .int (nI q), .int (hb t q), .int 0, .int 0] [] (hp c0 n _ _) _
              refine Ex.nx rfl ?_
              refine Ex.nx rfl ?_
              show Ex X m_Reader_readTag 76 [.ref (c0 + 8), .ref (c0 + 1), .int sv, .int (nI run), .int (bi fs), .int (nI q), .int (hb t q), .int 0, .int 0] [] (hp c0 n _ _) _
              refine Ex.nx rfl ?_
              refine Ex.nx rfl ?_
              show Ex X m_Reader_readTag 81 [.ref (c0 + 8), .ref (c0 + 1), .int sv, .int (nI run), .int (bi fs), .int (nI q), .int (hb t q), .int 0, .int 0] [] (hp c0 n _ _) _
              refine Ex.nx rfl ?_
              refine Ex.nx rfl ?_
              refine Ex.ite (fun c25 => ?_) (fun c25 => ?_)
              · replace c25 : (nI run) ≤ 0 := of_decide_eq_true c25
                have dr : ¬ 0 < run := by have := (nI_leI (b := 0) (by omega) (by decide)).mp c25; omega
                show Ex X m_Reader_readTag 88 [.ref (c0 + 8), .ref (c0 + 1), .int sv, .int (nI run), .int (bi fs), .int (nI q), .int (hb t q), .int 0, .int 0] [] (hp c0 n _ _) _
                refine Ex.nx rfl ?_
                refine Hx.get 8 rfl hC.r8 rfl ?_
                refine Hx.get 3 rfl hC.r3 rfl ?_
                refine CR.szt hC rfl rfl rfl ?_
                show Ex X m_Reader_readTag 98 [.ref (c0 + 8), .ref (c0 + 1), .int sv, .int (nI run), .int (bi fs), .int (nI q), .int (hb t q), .int 0, .int 0] [.int (nI acc.length)] (hp c0 n _ _) _
                refine Ex.nx rfl ?_
                refine Ex.nx rfl ?_
                refine Ex.ite (fun c26 => ?_) (fun c26 => ?_)
                · replace c26 : (nI acc.length) = 20 := of_decide_eq_true c26
                  have d20 : acc.length = 20 := (nI_eq (b := 20) (by omega) (by decide)).mp c26
                  show Ex X m_Reader_readTag 114 [.ref (c0 + 8), .ref (c0 + 1), .int sv, .int (nI run), .int (bi fs), .int (nI q), .int (hb t q), .int 0, .int 0] [] (hp c0 n _ _) _
                  refine Ex.nx rfl ?_
                  refine Ex.nx rfl ?_
                  refine Ex.nx rfl ?_
                  refine CR.rd hC rfl rfl rfl rfl (cr_fail hC 4 (nI q)) ?_
                  rintro v h1 ⟨rfl, F26, rfl, hC26⟩
                  show Ex X m_Reader_readTag 121 [.ref (c0 + 8), .ref (c0 + 1), .int sv, .int (nI run), .int (bi fs), .int (nI q), .int (hb t q), .int 0, .int 0] [.int (-1)] (hp c0 n _ _) _
                  exact Ex.ret rfl (ev_reti rfl) (rP_f (show sT t (m + 1) q run fs acc = (false, q, acc) by first | (simp [sT, L45, D45, c2, c14, c23, c24, dr, d20]; done) | (exfalso; simp_all [L45, D45]; done)) ⟨_, _, _, _, _, _, (by decide), hC26⟩)
                · replace c26 : ¬ (nI acc.length) = 20 := of_decide_eq_false c26
                  have d20 : ¬ acc.length = 20 := fun e => c26 (by rw [e]; rfl)
                  show Ex X m_Reader_readTag 103 [.ref (c0 + 8), .ref (c0 + 1), .int sv, .int (nI run), .int (bi fs), .int (nI q), .int (hb t q), .int 0, .int 0] [] (hp c0 n _ _) _
                  refine Ex.nx rfl ?_
                  refine Ex.nx rfl ?_
                  show Ex X m_Reader_readTag 122 [.ref (c0 + 8), .ref (c0 + 1), .int sv, .int (nI run), .int (bi fs), .int (nI q), .int (hb t q), .int 0, .int 0] [] (hp c0 n _ _) _
                  refine Ex.nx rfl ?_
                  refine Ex.nx rfl ?_
                  show Ex X m_Reader_readTag 127 [.ref (c0 + 8), .ref (c0 + 1), .int sv, .int (nI run), .int (bi fs), .int (nI q), .int (hb t q), .int 0, .int 0] [] (hp c0 n _ _) _
                  refine Ex.nx rfl ?_
                  refine Ex.nx rfl ?_
                  show Ex X m_Reader_readTag 132 [.ref (c0 + 8), .ref (c0 + 1), .int sv, .int (nI run), .int (bi fs), .int (nI q), .int (hb t q), .int 0, .int 0] [] (hp c0 n _ _) _
                  refine Ex.nx rfl ?_
                  refine Ex.nx rfl ?_
                  refine Ex.nx rfl ?_
                  refine CR.rd hC rfl rfl rfl rfl (cr_fail hC 3 (nI q)) ?_
                  rintro v h1 ⟨rfl, F27, rfl, hC27⟩
                  show Ex X m_Reader_readTag 139 [.ref (c0 + 8), .ref (c0 + 1), .int sv, .int (nI run), .int (bi fs), .int (nI q), .int (hb t q), .int 0, .int 0] [.int (-1)] (hp c0 n _ _) _
                  exact Ex.ret rfl (ev_reti rfl) (rP_f (show sT t (m + 1) q run fs acc = (false, q, acc) by first | (simp [sT, L45, D45, c2, c14, c23, c24, dr, d20]; done) | (exfalso; simp_all [L45, D45]; done)) ⟨_, _, _, _, _, _, (by decide), hC27⟩)
              · replace c25 : ¬ (nI run) ≤ 0 := of_decide_eq_false c25
                have dr : 0 < run := Nat.pos_of_ne_zero (fun e => c25 (by rw [e]; exact Int32.le_refl _))
                show Ex X m_Reader_readTag 85 [.ref (c0 + 8), .ref (c0 + 1), .int sv, .int (nI run), .int (bi fs), .int (nI q), .int (hb t q), .int 0, .int 0] [] (hp c0 n _ _) _
                refine Ex.nx rfl ?_
                exact Ex.ret rfl (ev_reti rfl) (rP_t (show sT t (m + 1) q run fs acc = (true, q, acc) by first | (simp [sT, L45, D45, c2, c14, c23, c24, dr]; done) | (exfalso; simp_all [L45, D45]; done)) hC)
            · replace c24 : (hb t q) = 45 := Classical.not_not.mp (of_decide_eq_false c24)
              show Ex X m_Reader_readTag 60 [.ref (c0 + 8), .ref (c0 + 1), .int sv, .int (nI run), .int (bi fs), .int (nI q), .int (hb t q), .int 0, b8] [] (hp c0 n _ _) _
              refine Ex.nx rfl ?_
              refine Ex.nx rfl ?_
              refine Ex.ite (fun c27 => ?_) (fun c27 => ?_)
              · replace c27 : (nI run) ≤ 0 := of_decide_eq_true c27
                have dr : ¬ 0 < run := by have := (nI_leI (b := 0) (by omega) (by decide)).mp c27; omega
                show Ex X m_Reader_readTag 68 [.ref (c0 + 8), .ref (c0 + 1), .int sv, .int (nI run), .int (bi fs), .int (nI q), .int (hb t q), .int 0, b8] [] (hp c0 n _ _) _
                refine Ex.nx rfl ?_
                refine Ex.nx rfl ?_
                show Ex X m_Reader_readTag 71 [.ref (c0 + 8), .ref (c0 + 1), .int sv, .int (nI run), .int (bi fs), .int (nI q), .int (hb t q), .int 0, .int 0] [] (hp c0 n _ _) _
                refine Ex.nx rfl ?_
                refine Ex.nx rfl ?_
                show Ex X m_Reader_readTag 76 [.ref (c0 + 8), .ref (c0 + 1), .int sv, .int (nI run), .int (bi fs), .int (nI q), .int (hb t q), .int 0, .int 0] [] (hp c0 n _ _) _
                refine Ex.nx rfl ?_
                refine Ex.nx rfl ?_
                show Ex X m_Reader_readTag 81 [.ref (c0 + 8), .ref (c0 + 1), .int sv, .int (nI run), .int (bi fs), .int (nI q), .int (hb t q), .int 0, .int 0] [] (hp c0 n _ _) _
                refine Ex.nx rfl ?_
                refine Ex.nx rfl ?_
                refine Ex.ite (fun c28 => ?_) (fun c28 => ?_)
                · replace c28 : (nI run) ≤ 0 := of_decide_eq_true c28
                  have dr : ¬ 0 < run := by have := (nI_leI (b := 0) (by omega) (by decide)).mp c28; omega
                  show Ex X m_Reader_readTag 88 [.ref (c0 + 8), .ref (c0 + 1), .int sv, .int (nI run), .int (bi fs), .int (nI q), .int (hb t q), .int 0, .int 0] [] (hp c0 n _ _) _
                  refine Ex.nx rfl ?_
                  refine Hx.get 8 rfl hC.r8 rfl ?_
                  refine Hx.get 3 rfl hC.r3 rfl ?_
                  refine CR.szt hC rfl rfl rfl ?_
                  show Ex X m_Reader_readTag 98 [.ref (c0 + 8), .ref (c0 + 1), .int sv, .int (nI run), .int (bi fs), .int (nI q), .int (hb t q), .int 0, .int 0] [.int (nI acc.length)] (hp c0 n _ _) _
                  refine Ex.nx rfl ?_
                  refine Ex.nx rfl ?_
                  refine Ex.ite (fun c29 => ?_) (fun c29 => ?_)
                  · replace c29 : (nI acc.length) = 20 := of_decide_eq_true c29
                    have d20 : acc.length = 20 := (nI_eq (b := 20) (by omega) (by decide)).mp c29
                    show Ex X m_Reader_readTag 114 [.ref (c0 + 8), .ref (c0 + 1), .int sv, .int (nI run), .int (bi fs), .int (nI q), .int (hb t q), .int 0, .int 0] [] (hp c0 n _ _) _
                    refine Ex.nx rfl ?_
                    refine Ex.nx rfl ?_
                    refine Ex.nx rfl ?_
                    refine CR.rd hC rfl rfl rfl rfl (cr_fail hC 4 (nI q)) ?_
                    rintro v h1 ⟨rfl, F28, rfl, hC28⟩
                    show Ex X m_Reader_readTag 121 [.ref (c0 + 8), .ref (c0 + 1), .int sv, .int (nI run), .int (bi fs), .int (nI q), .int (hb t q), .int 0, .int 0] [.int (-1)] (hp c0 n _ _) _
                    exact Ex.ret rfl (ev_reti rfl) (rP_f (show sT t (m + 1) q run fs acc = (false, q, acc) by first | (simp [sT, L45, D45, c2, c14, c23, c24, dr, d20]; done) | (exfalso; simp_all [L45, D45]; done)) ⟨_, _, _, _, _, _, (by decide), hC28⟩)
                  · replace c29 : ¬ (nI acc.length) = 20 := of_decide_eq_false c29
                    have d20 : ¬ acc.length = 20 := fun e => c29 (by rw [e]; rfl)
                    show Ex X m_Reader_readTag 103 [.ref (c0 + 8), .ref (c0 + 1), .int sv, .int (nI run), .int (bi fs), .int (nI q), .int (hb t q), .int 0, .int 0] [] (hp c0 n _ _) _
                    refine Ex.nx rfl ?_
                    refine Ex.nx rfl ?_
                    show Ex X m_Reader_readTag 122 [.ref (c0 + 8), .ref (c0 + 1), .int sv, .int (nI run), .int (bi fs), .int (nI q), .int (hb t q), .int 0, .int 0] [] (hp c0 n _ _) _
                    refine Ex.nx rfl ?_
                    refine Ex.nx rfl ?_
                    show Ex X m_Reader_readTag 127 [.ref (c0 + 8), .ref (c0 + 1), .int sv, .int (nI run), .int (bi fs), .int (nI q), .int (hb t q), .int 0, .int 0] [] (hp c0 n _ _) _
                    refine Ex.nx rfl ?_
                    refine Ex.nx rfl ?_
                    show Ex X m_Reader_readTag 132 [.ref (c0 + 8), .ref (c0 + 1), .int sv, .int (nI run), .int (bi fs), .int (nI q), .int (hb t q), .int 0, .int 0] [] (hp c0 n _ _) _
                    refine Ex.nx rfl ?_
                    refine Ex.nx rfl ?_
                    refine Ex.nx rfl ?_
                    refine CR.rd hC rfl rfl rfl rfl (cr_fail hC 3 (nI q)) ?_
                    rintro v h1 ⟨rfl, F29, rfl, hC29⟩
                    show Ex X m_Reader_readTag 139 [.ref (c0 + 8), .ref (c0 + 1), .int sv, .int (nI run), .int (bi fs), .int (nI q), .int (hb t q), .int 0, .int 0] [.int (-1)] (hp c0 n _ _) _
                    exact Ex.ret rfl (ev_reti rfl) (rP_f (show sT t (m + 1) q run fs acc = (false, q, acc) by first | (simp [sT, L45, D45, c2, c14, c23, c24, dr, d20]; done) | (exfalso; simp_all [L45, D45]; done)) ⟨_, _, _, _, _, _, (by decide), hC29⟩)
                · replace c28 : ¬ (nI run) ≤ 0 := of_decide_eq_false c28
                  exact absurd c27 c28
              · replace c27 : ¬ (nI run) ≤ 0 := of_decide_eq_false c27
                have dr : 0 < run := Nat.pos_of_ne_zero (fun e => c27 (by rw [e]; exact Int32.le_refl _))
                show Ex X m_Reader_readTag 64 [.ref (c0 + 8), .ref (c0 + 1), .int sv, .int (nI run), .int (bi fs), .int (nI q), .int (hb t q), .int 0, b8] [] (hp c0 n _ _) _
                refine Ex.nx rfl ?_
                refine Ex.nx rfl ?_
                refine Ex.nx rfl ?_
                show Ex X m_Reader_readTag 71 [.ref (c0 + 8), .ref (c0 + 1), .int sv, .int (nI run), .int (bi fs), .int (nI q), .int (hb t q), .int 0, .int 1] [] (hp c0 n _ _) _
                refine Ex.nx rfl ?_
                refine Ex.nx rfl ?_
                show Ex X m_Reader_readTag 76 [.ref (c0 + 8), .ref (c0 + 1), .int sv, .int (nI run), .int (bi fs), .int (nI q), .int (hb t q), .int 0, .int 1] [] (hp c0 n _ _) _
                refine Ex.nx rfl ?_
                refine Ex.nx rfl ?_
                show Ex X m_Reader_readTag 88 [.ref (c0 + 8), .ref (c0 + 1), .int sv, .int (nI run), .int (bi fs), .int (nI q), .int (hb t q), .int 0, .int 1] [] (hp c0 n _ _) _
                refine Ex.nx rfl ?_
                refine Hx.get 8 rfl hC.r8 rfl ?_
                refine Hx.get 3 rfl hC.r3 rfl ?_
                refine CR.szt hC rfl rfl rfl ?_
                show Ex X m_Reader_readTag 98 [.ref (c0 + 8), .ref (c0 + 1), .int sv, .int (nI run), .int (bi fs), .int (nI q), .int (hb t q), .int 0, .int 1] [.int (nI acc.length)] (hp c0 n _ _) _
                refine Ex.nx rfl ?_
                refine Ex.nx rfl ?_
                refine Ex.ite (fun c30 => ?_) (fun c30 => ?_)
                · replace c30 : (nI acc.length) = 20 := of_decide_eq_true c30
                  have d20 : acc.length = 20 := (nI_eq (b := 20) (by omega) (by decide)).mp c30
                  show Ex X m_Reader_readTag 114 [.ref (c0 + 8), .ref (c0 + 1), .int sv, .int (nI run), .int (bi fs), .int (nI q), .int (hb t q), .int 0, .int 1] [] (hp c0 n _ _) _
                  refine Ex.nx rfl ?_
                  refine Ex.nx rfl ?_
                  refine Ex.nx rfl ?_
                  refine CR.rd hC rfl rfl rfl rfl (cr_fail hC 4 (nI q)) ?_
                  rintro v h1 ⟨rfl, F30, rfl, hC30⟩
                  show Ex X m_Reader_readTag 121 [.ref (c0 + 8), .ref (c0 + 1), .int sv, .int (nI run), .int (bi fs), .int (nI q), .int (hb t q), .int 0, .int 1] [.int (-1)] (hp c0 n _ _) _
                  exact Ex.ret rfl (ev_reti rfl) (rP_f (show sT t (m + 1) q run fs acc = (false, q, acc) by first | (simp [sT, L45, D45, c2, c14, c23, c24, dr, d20]; done) | (exfalso; simp_all [L45, D45]; done)) ⟨_, _, _, _, _, _, (by decide), hC30⟩)
                · replace c30 : ¬ (nI acc.length) = 20 := of_decide_eq_false c30
                  have d20 : ¬ acc.length = 20 := fun e => c30 (by rw [e]; rfl)
                  show Ex X m_Reader_readTag 103 [.ref (c0 + 8), .ref (c0 + 1), .int sv, .int (nI run), .int (bi fs), .int (nI q), .int (hb t q), .int 0, .int 1] [] (hp c0 n _ _) _
                  refine Ex.nx rfl ?_
                  refine Ex.nx rfl ?_
                  show Ex X m_Reader_readTag 122 [.ref (c0 + 8), .ref (c0 + 1), .int sv, .int (nI run), .int (bi fs), .int (nI q), .int (hb t q), .int 0, .int 1] [] (hp c0 n _ _) _
                  refine Ex.nx rfl ?_
                  refine Ex.nx rfl ?_
                  show Ex X m_Reader_readTag 127 [.ref (c0 + 8), .ref (c0 + 1), .int sv, .int (nI run), .int (bi fs), .int (nI q), .int (hb t q), .int 0, .int 1] [] (hp c0 n _ _) _
                  refine Ex.nx rfl ?_
                  refine Ex.nx rfl ?_
                  show Ex X m_Reader_readTag 140 [.ref (c0 + 8), .ref (c0 + 1), .int sv, .int (nI run), .int (bi fs), .int (nI q), .int (hb t q), .int 0, .int 1] [] (hp c0 n _ _) _
                  refine Ex.nx rfl ?_
                  refine Hx.get 8 rfl hC.r8 rfl ?_
                  refine Hx.get 3 rfl hC.r3 rfl ?_
                  refine Ex.nx rfl ?_
                  refine Hx.calls rfl rfl rfl rfl (sx_Reader_small X (hb t q)) (fun v hv => ?_)
                  subst hv
                  show Ex X m_Reader_readTag 152 [.ref (c0 + 8), .ref (c0 + 1), .int sv, .int (nI run), .int (bi fs), .int (nI q), .int (hb t q), .int 0, .int 1] [.int (sml (hb t q)), .ref (c0 + 6)] (hp c0 n _ _) _
                  refine Hx.top (y := nI (smlN (t.getD q 0))) (by rw [hb_lt (show q < t.length by omega)]; exact sml_all _ (hC.rt.by q)) ?_
                  refine CR.adt (d := (smlN (t.getD q 0))) hC (smlN_lt _ (hC.rt.by q)) (by omega) rfl rfl ?_
                  intro F31 hC31
                  show Ex X m_Reader_readTag 155 [.ref (c0 + 8), .ref (c0 + 1), .int sv, .int (nI run), .int (bi fs), .int (nI q), .int (hb t q), .int 0, .int 1] [] (hp c0 n _ _) _
                  refine Ex.nx rfl ?_
                  refine Ex.nx rfl ?_
                  show Ex X m_Reader_readTag 160 [.ref (c0 + 8), .ref (c0 + 1), .int sv, .int (nI run), .int (bi fs), .int (nI q), .int (hb t q), .int 0, .int 1] [] (hp c0 n _ _) _
                  refine Ex.nx rfl ?_
                  refine Ex.nx rfl ?_
                  refine Ex.nx rfl ?_
                  show Ex X m_Reader_readTag 168 [.ref (c0 + 8), .ref (c0 + 1), .int sv, .int 0, .int (bi fs), .int (nI q), .int (hb t q), .int 0, .int 1] [] (hp c0 n _ _) _
                  refine Ex.nx rfl ?_
                  refine Ex.nx rfl ?_
                  refine Ex.ite (fun c31 => ?_) (fun c31 => ?_)
                  · replace c31 : fs = false := bi_eqt c31
                    exact Bool.noConfusion (c23.symm.trans c31)
                  · replace c31 : fs = true := bi_eqf c31
                    show Ex X m_Reader_readTag 173 [.ref (c0 + 8), .ref (c0 + 1), .int sv, .int 0, .int (bi fs), .int (nI q), .int (hb t q), .int 0, .int 1] [] (hp c0 n _ _) _
                    refine Ex.nx rfl ?_
                    refine Ex.nx rfl ?_
                    show Ex X m_Reader_readTag 182 [.ref (c0 + 8), .ref (c0 + 1), .int sv, .int 0, .int (bi fs), .int (nI q), .int (hb t q), .int 0, .int 1] [] (hp c0 n _ _) _
                    refine Ex.nx rfl ?_
                    refine Ex.nx rfl ?_
                    show Ex X m_Reader_readTag 185 [.ref (c0 + 8), .ref (c0 + 1), .int sv, .int 0, .int 0, .int (nI q), .int (hb t q), .int 0, .int 1] [] (hp c0 n _ _) _
                    refine Ex.nx rfl ?_
                    show Ex X m_Reader_readTag 188 [.ref (c0 + 8), .ref (c0 + 1), .int sv, .int 0, .int 0, .int ((nI q) + 1), .int (hb t q), .int 0, .int 1] [] (hp c0 n _ _) _
                    refine Ex.nx rfl ?_
                    show Ex X m_Reader_readTag 8 [.ref (c0 + 8), .ref (c0 + 1), .int sv, .int 0, .int 0, .int ((nI q) + 1), .int (hb t q), .int 0, .int 1] [] (hp c0 n _ _) _
                    rw [show nI q + 1 = nI (q + 1) from nI_1 q, show sT t (m + 1) q run fs acc = sT t m (q + 1) 0 false (acc ++ [smlN (t.getD q 0)]) by first | (simp [sT, L45, D45, c2, c14, c23, c24, dr, d20, c31]; done) | (exfalso; simp_all [L45, D45]; done)]
                    exact ih (q + 1) 0 false _ _ _ _ _ (by omega) (by simp only [List.length_append, List.length_cons, List.length_nil]; omega) (by omega) hC31
          · replace c23 : fs = false := bi_nef c23
            show Ex X m_Reader_readTag 46 [.ref (c0 + 8), .ref (c0 + 1), .int sv, .int (nI run), .int (bi fs), .int (nI q), .int (hb t q), b7, b8] [] (hp c0 n _ _) _
            refine Ex.nx rfl ?_
            refine Ex.nx rfl ?_
            refine Ex.nx rfl ?_
            show Ex X m_Reader_readTag 53 [.ref (c0 + 8), .ref (c0 + 1), .int sv, .int (nI run), .int (bi fs), .int (nI q), .int (hb t q), .int 1, b8] [] (hp c0 n _ _) _
            refine Ex.nx rfl ?_
            refine Ex.nx rfl ?_
            refine Ex.nx rfl ?_
            refine Ex.ite (fun c32 => ?_) (fun c32 => ?_)
            · replace c32 : ¬ (hb t q) = 45 := of_decide_eq_true c32
              show Ex X m_Reader_readTag 68 [.ref (c0 + 8), .ref (c0 + 1), .int sv, .int (nI run), .int (bi fs), .int (nI q), .int (hb t q), .int 1, b8] [] (hp c0 n _ _) _
              refine Ex.nx rfl ?_
              refine Ex.nx rfl ?_
              show Ex X m_Reader_readTag 71 [.ref (c0 + 8), .ref (c0 + 1), .int sv, .int (nI run), .int (bi fs), .int (nI q), .int (hb t q), .int 1, .int 0] [] (hp c0 n _ _) _
              refine Ex.nx rfl ?_
              refine Ex.nx rfl ?_
              show Ex X m_Reader_readTag 88 [.ref (c0 + 8), .ref (c0 + 1), .int sv, .int (nI run), .int (bi fs), .int (nI q), .int (hb t q), .int 1, .int 0] [] (hp c0 n _ _) _
              refine Ex.nx rfl ?_
              refine Hx.get 8 rfl hC.r8 rfl ?_
              refine Hx.get 3 rfl hC.r3 rfl ?_
              refine CR.szt hC rfl rfl rfl ?_
              show Ex X m_Reader_readTag 98 [.ref (c0 + 8), .ref (c0 + 1), .int sv, .int (nI run), .int (bi fs), .int (nI q), .int (hb t q), .int 1, .int 0] [.int (nI acc.length)] (hp c0 n _ _) _
              refine Ex.nx rfl ?_
              refine Ex.nx rfl ?_
              refine Ex.ite (fun c33 => ?_) (fun c33 => ?_)
              · replace c33 : (nI acc.length) = 20 := of_decide_eq_true c33
                have d20 : acc.length = 20 := (nI_eq (b := 20) (by omega) (by decide)).mp c33
                show Ex X m_Reader_readTag 114 [.ref (c0 + 8), .ref (c0 + 1), .int sv, .int (nI run), .int (bi fs), .int (nI q), .int (hb t q), .int 1, .int 0] [] (hp c0 n _ _) _
                refine Ex.nx rfl ?_
                refine Ex.nx rfl ?_
                refine Ex.nx rfl ?_
                refine CR.rd hC rfl rfl rfl rfl (cr_fail hC 4 (nI q)) ?_
                rintro v h1 ⟨rfl, F32, rfl, hC32⟩
                show Ex X m_Reader_readTag 121 [.ref (c0 + 8), .ref (c0 + 1), .int sv, .int (nI run), .int (bi fs), .int (nI q), .int (hb t q), .int 1, .int 0] [.int (-1)] (hp c0 n _ _) _
                exact Ex.ret rfl (ev_reti rfl) (rP_f (show sT t (m + 1) q run fs acc = (false, q, acc) by first | (simp [sT, L45, D45, c2, c14, c23, c32, d20]; done) | (exfalso; simp_all [L45, D45]; done)) ⟨_, _, _, _, _, _, (by decide), hC32⟩)
              · replace c33 : ¬ (nI acc.length) = 20 := of_decide_eq_false c33
                have d20 : ¬ acc.length = 20 := fun e => c33 (by rw [e]; rfl)
                show Ex X m_Reader_readTag 103 [.ref (c0 + 8), .ref (c0 + 1), .int sv, .int (nI run), .int (bi fs), .int (nI q), .int (hb t q), .int 1, .int 0] [] (hp c0 n _ _) _
                refine Ex.nx rfl ?_
                refine Ex.nx rfl ?_
                show Ex X m_Reader_readTag 108 [.ref (c0 + 8), .ref (c0 + 1), .int sv, .int (nI run), .int (bi fs), .int (nI q), .int (hb t q), .int 1, .int 0] [] (hp c0 n _ _) _
                refine Ex.nx rfl ?_
                refine Ex.nx rfl ?_
                refine Ex.nx rfl ?_
                refine Ex.ite (fun c34 => ?_) (fun c34 => ?_)
                · replace c34 : ¬ (nI run) = 8 := of_decide_eq_true c34
                  have d8 : ¬ run = 8 := fun e => c34 (by rw [e]; rfl)
                  show Ex X m_Reader_readTag 122 [.ref (c0 + 8), .ref (c0 + 1), .int sv, .int (nI run), .int (bi fs), .int (nI q), .int (hb t q), .int 1, .int 0] [] (hp c0 n _ _) _
                  refine Ex.nx rfl ?_
                  refine Ex.nx rfl ?_
                  show Ex X m_Reader_readTag 140 [.ref (c0 + 8), .ref (c0 + 1), .int sv, .int (nI run), .int (bi fs), .int (nI q), .int (hb t q), .int 1, .int 0] [] (hp c0 n _ _) _
                  refine Ex.nx rfl ?_
                  refine Hx.get 8 rfl hC.r8 rfl ?_
                  refine Hx.get 3 rfl hC.r3 rfl ?_
                  refine Ex.nx rfl ?_
                  refine Hx.calls rfl rfl rfl rfl (sx_Reader_small X (hb t q)) (fun v hv => ?_)
                  subst hv
                  show Ex X m_Reader_readTag 152 [.ref (c0 + 8), .ref (c0 + 1), .int sv, .int (nI run), .int (bi fs), .int (nI q), .int (hb t q), .int 1, .int 0] [.int (sml (hb t q)), .ref (c0 + 6)] (hp c0 n _ _) _
                  refine Hx.top (y := nI (smlN (t.getD q 0))) (by rw [hb_lt (show q < t.length by omega)]; exact sml_all _ (hC.rt.by q)) ?_
                  refine CR.adt (d := (smlN (t.getD q 0))) hC (smlN_lt _ (hC.rt.by q)) (by omega) rfl rfl ?_
                  intro F33 hC33
                  show Ex X m_Reader_readTag 155 [.ref (c0 + 8), .ref (c0 + 1), .int sv, .int (nI run), .int (bi fs), .int (nI q), .int (hb t q), .int 1, .int 0] [] (hp c0 n _ _) _
                  refine Ex.nx rfl ?_
                  refine Ex.nx rfl ?_
                  show Ex X m_Reader_readTag 164 [.ref (c0 + 8), .ref (c0 + 1), .int sv, .int (nI run), .int (bi fs), .int (nI q), .int (hb t q), .int 1, .int 0] [] (hp c0 n _ _) _
                  refine Ex.nx rfl ?_
                  refine Ex.nx rfl ?_
                  refine Ex.nx rfl ?_
                  refine Ex.nx rfl ?_
                  show Ex X m_Reader_readTag 168 [.ref (c0 + 8), .ref (c0 + 1), .int sv, .int ((nI run) + 1), .int (bi fs), .int (nI q), .int (hb t q), .int 1, .int 0] [] (hp c0 n _ _) _
                  refine Ex.nx rfl ?_
                  refine Ex.nx rfl ?_
                  refine Ex.ite (fun c35 => ?_) (fun c35 => ?_)
                  · replace c35 : fs = false := bi_eqt c35
                    show Ex X m_Reader_readTag 182 [.ref (c0 + 8), .ref (c0 + 1), .int sv, .int ((nI run) + 1), .int (bi fs), .int (nI q), .int (hb t q), .int 1, .int 0] [] (hp c0 n _ _) _
                    refine Ex.nx rfl ?_
                    refine Ex.nx rfl ?_
                    show Ex X m_Reader_readTag 185 [.ref (c0 + 8), .ref (c0 + 1), .int sv, .int ((nI run) + 1), .int 0, .int (nI q), .int (hb t q), .int 1, .int 0] [] (hp c0 n _ _) _
                    refine Ex.nx rfl ?_
                    show Ex X m_Reader_readTag 188 [.ref (c0 + 8), .ref (c0 + 1), .int sv, .int ((nI run) + 1), .int 0, .int ((nI q) + 1), .int (hb t q), .int 1, .int 0] [] (hp c0 n _ _) _
                    refine Ex.nx rfl ?_
                    show Ex X m_Reader_readTag 8 [.ref (c0 + 8), .ref (c0 + 1), .int sv, .int ((nI run) + 1), .int 0, .int ((nI q) + 1), .int (hb t q), .int 1, .int 0] [] (hp c0 n _ _) _
                    rw [show nI run + 1 = nI (run + 1) from nI_1 run, show nI q + 1 = nI (q + 1) from nI_1 q, show sT t (m + 1) q run fs acc = sT t m (q + 1) (run + 1) false (acc ++ [smlN (t.getD q 0)]) by first | (simp [sT, L45, D45, c2, c14, c23, c32, d20, d8, c35]; done) | (exfalso; simp_all [L45, D45]; done)]
                    exact ih (q + 1) (run + 1) false _ _ _ _ _ (by omega) (by simp only [List.length_append, List.length_cons, List.length_nil]; omega) (by omega) hC33
                  · replace c35 : fs = true := bi_eqf c35
                    exact Bool.noConfusion (c23.symm.trans c35)
                · replace c34 : (nI run) = 8 := Classical.not_not.mp (of_decide_eq_false c34)
                  have d8 : run = 8 := (nI_eq (b := 8) (by omega) (by decide)).mp c34
                  show Ex X m_Reader_readTag 114 [.ref (c0 + 8), .ref (c0 + 1), .int sv, .int (nI run), .int (bi fs), .int (nI q), .int (hb t q), .int 1, .int 0] [] (hp c0 n _ _) _
                  refine Ex.nx rfl ?_
                  refine Ex.nx rfl ?_
                  refine Ex.nx rfl ?_
                  refine CR.rd hC rfl rfl rfl rfl (cr_fail hC 4 (nI q)) ?_
                  rintro v h1 ⟨rfl, F34, rfl, hC34⟩
                  show Ex X m_Reader_readTag 121 [.ref (c0 + 8), .ref (c0 + 1), .int sv, .int (nI run), .int (bi fs), .int (nI q), .int (hb t q), .int 1, .int 0] [.int (-1)] (hp c0 n _ _) _
                  exact Ex.ret rfl (ev_reti rfl) (rP_f (show sT t (m + 1) q run fs acc = (false, q, acc) by first | (simp [sT, L45, D45, c2, c14, c23, c32, d20, d8]; done) | (exfalso; simp_all [L45, D45]; done)) ⟨_, _, _, _, _, _, (by decide), hC34⟩)
            · replace c32 : (hb t q) = 45 := Classical.not_not.mp (of_decide_eq_false c32)
              show Ex X m_Reader_readTag 60 [.ref (c0 + 8), .ref (c0 + 1), .int sv, .int (nI run), .int (bi fs), .int (nI q), .int (hb t q), .int 1, b8] [] (hp c0 n _ _) _
              refine Ex.nx rfl ?_
              refine Ex.nx rfl ?_
              refine Ex.ite (fun c36 => ?_) (fun c36 => ?_)
              · replace c36 : (nI run) ≤ 0 := of_decide_eq_true c36
                have dr : ¬ 0 < run := by have := (nI_leI (b := 0) (by omega) (by decide)).mp c36; omega
                show Ex X m_Reader_readTag 68 [.ref (c0 + 8), .ref (c0 + 1), .int sv, .int (nI run), .int (bi fs), .int (nI q), .int (hb t q), .int 1, b8] [] (hp c0 n _ _) _
                refine Ex.nx rfl ?_
                refine Ex.nx rfl ?_
                show Ex X m_Reader_readTag 71 [.ref (c0 + 8), .ref (c0 + 1), .int sv, .int (nI run), .int (bi fs), .int (nI q), .int (hb t q), .int 1, .int 0] [] (hp c0 n _ _) _
                refine Ex.nx rfl ?_
                refine Ex.nx rfl ?_
                show Ex X m_Reader_readTag 88 [.ref (c0 + 8), .ref (c0 + 1), .int sv, .int (nI run), .int (bi fs), .int (nI q), .int (hb t q), .int 1, .int 0] [] (hp c0 n _ _) _
                refine Ex.nx rfl ?_
                refine Hx.get 8 rfl hC.r8 rfl ?_
                refine Hx.get 3 rfl hC.r3 rfl ?_
                refine CR.szt hC rfl rfl rfl ?_
                show Ex X m_Reader_readTag 98 [.ref (c0 + 8), .ref (c0 + 1), .int sv, .int (nI run), .int (bi fs), .int (nI q), .int (hb t q), .int 1, .int 0] [.int (nI acc.length)] (hp c0 n _ _) _
                refine Ex.nx rfl ?_
                refine Ex.nx rfl ?_
                refine Ex.ite (fun c37 => ?_) (fun c37 => ?_)
                · replace c37 : (nI acc.length) = 20 := of_decide_eq_true c37
                  have d20 : acc.length = 20 := (nI_eq (b := 20) (by omega) (by decide)).mp c37
                  show Ex X m_Reader_readTag 114 [.ref (c0 + 8), .ref (c0 + 1), .int sv, .int (nI run), .int (bi fs), .int (nI q), .int (hb t q), .int 1, .int 0] [] (hp c0 n _ _) _
                  refine Ex.nx rfl ?_
                  refine Ex.nx rfl ?_
                  refine Ex.nx rfl ?_
                  refine CR.rd hC rfl rfl rfl rfl (cr_fail hC 4 (nI q)) ?_
                  rintro v h1 ⟨rfl, F35, rfl, hC35⟩
                  show Ex X m_Reader_readTag 121 [.ref (c0 + 8), .ref (c0 + 1), .int sv, .int (nI run), .int (bi fs), .int (nI q), .int (hb t q), .int 1, .int 0] [.int (-1)] (hp c0 n _ _) _
                  exact Ex.ret rfl (ev_reti rfl) (rP_f (show sT t (m + 1) q run fs acc = (false, q, acc) by first | (simp [sT, L45, D45, c2, c14, c23, c32, dr, d20]; done) | (exfalso; simp_all [L45, D45]; done)) ⟨_, _, _, _, _, _, (by decide), hC35⟩)
                · replace c37 : ¬ (nI acc.length) = 20 := of_decide_eq_false c37
                  have d20 : ¬ acc.length = 20 := fun e => c37 (by rw [e]; rfl)
                  show Ex X m_Reader_readTag 103 [.ref (c0 + 8), .ref (c0 + 1), .int sv, .int (nI run), .int (bi fs), .int (nI q), .int (hb t q), .int 1, .int 0] [] (hp c0 n _ _) _
                  refine Ex.nx rfl ?_
                  refine Ex.nx rfl ?_
                  show Ex X m_Reader_readTag 108 [.ref (c0 + 8), .ref (c0 + 1), .int sv, .int (nI run), .int (bi fs), .int (nI q), .int (hb t q), .int 1, .int 0] [] (hp c0 n _ _) _
                  refine Ex.nx rfl ?_
                  refine Ex.nx rfl ?_
                  refine Ex.nx rfl ?_
                  refine Ex.ite (fun c38 => ?_) (fun c38 => ?_)
                  · replace c38 : ¬ (nI run) = 8 := of_decide_eq_true c38
                    have d8 : ¬ run = 8 := fun e => c38 (by rw [e]; rfl)
                    show Ex X m_Reader_readTag 122 [.ref (c0 + 8), .ref (c0 + 1), .int sv, .int (nI run), .int (bi fs), .int (nI q), .int (hb t q), .int 1, .int 0] [] (hp c0 n _ _) _
                    refine Ex.nx rfl ?_
                    refine Ex.nx rfl ?_
                    show Ex X m_Reader_readTag 140 [.ref (c0 + 8), .ref (c0 + 1), .int sv, .int (nI run), .int (bi fs), .int (nI q), .int (hb t q), .int 1, .int 0] [] (hp c0 n _ _) _
                    refine Ex.nx rfl ?_
                    refine Hx.get 8 rfl hC.r8 rfl ?_
                    refine Hx.get 3 rfl hC.r3 rfl ?_
                    refine Ex.nx rfl ?_
                    refine Hx.calls rfl rfl rfl rfl (sx_Reader_small X (hb t q)) (fun v hv => ?_)
                    subst hv
                    show Ex X m_Reader_readTag 152 [.ref (c0 + 8), .ref (c0 + 1), .int sv, .int (nI run), .int (bi fs), .int (nI q), .int (hb t q), .int 1, .int 0] [.int (sml (hb t q)), .ref (c0 + 6)] (hp c0 n _ _) _
                    refine Hx.top (y := nI (smlN (t.getD q 0))) (by rw [hb_lt (show q < t.length by omega)]; exact sml_all _ (hC.rt.by q)) ?_
                    refine CR.adt (d := (smlN (t.getD q 0))) hC (smlN_lt _ (hC.rt.by q)) (by omega) rfl rfl ?_
                    intro F36 hC36
                    show Ex X m_Reader_readTag 155 [.ref (c0 + 8), .ref (c0 + 1), .int sv, .int (nI run), .int (bi fs), .int (nI q), .int (hb t q), .int 1, .int 0] [] (hp c0 n _ _) _
                    refine Ex.nx rfl ?_
                    refine Ex.nx rfl ?_
                    show Ex X m_Reader_readTag 164 [.ref (c0 + 8), .ref (c0 + 1), .int sv, .int (nI run), .int (bi fs), .int (nI q), .int (hb t q), .int 1, .int 0] [] (hp c0 n _ _) _
                    refine Ex.nx rfl ?_
                    refine Ex.nx rfl ?_
                    refine Ex.nx rfl ?_
                    refine Ex.nx rfl ?_
                    show Ex X m_Reader_readTag 168 [.ref (c0 + 8), .ref (c0 + 1), .int sv, .int ((nI run) + 1), .int (bi fs), .int (nI q), .int (hb t q), .int 1, .int 0] [] (hp c0 n _ _) _
                    refine Ex.nx rfl ?_
                    refine Ex.nx rfl ?_
                    refine Ex.ite (fun c39 => ?_) (fun c39 => ?_)
                    · replace c39 : fs = false := bi_eqt c39
                      show Ex X m_Reader_readTag 182 [.ref (c0 + 8), .ref (c0 + 1), .int sv, .int ((nI run) + 1), .int (bi fs), .int (nI q), .int (hb t q), .int 1, .int 0] [] (hp c0 n _ _) _
                      refine Ex.nx rfl ?_
                      refine Ex.nx rfl ?_
                      show Ex X m_Reader_readTag 185 [.ref (c0 + 8), .ref (c0 + 1), .int sv, .int ((nI run) + 1), .int 0, .int (nI q), .int (hb t q), .int 1, .int 0] [] (hp c0 n _ _) _
                      refine Ex.nx rfl ?_
                      show Ex X m_Reader_readTag 188 [.ref (c0 + 8), .ref (c0 + 1), .int sv, .int ((nI run) + 1), .int 0, .int ((nI q) + 1), .int (hb t q), .int 1, .int 0] [] (hp c0 n _ _) _
                      refine Ex.nx rfl ?_
                      show Ex X m_Reader_readTag 8 [.ref (c0 + 8), .ref (c0 + 1), .int sv, .int ((nI run) + 1), .int 0, .int ((nI q) + 1), .int (hb t q), .int 1, .int 0] [] (hp c0 n _ _) _
                      rw [show nI run + 1 = nI (run + 1) from nI_1 run, show nI q + 1 = nI (q + 1) from nI_1 q, show sT t (m + 1) q run fs acc = sT t m (q + 1) (run + 1) false (acc ++ [smlN (t.getD q 0)]) by first | (simp [sT, L45, D45, c2, c14, c23, c32, dr, d20, d8, c39]; done) | (exfalso; simp_all [L45, D45]; done)]
                      exact ih (q + 1) (run + 1) false _ _ _ _ _ (by omega) (by simp only [List.length_append, List.length_cons, List.length_nil]; omega) (by omega) hC36
                    · replace c39 : fs = true := bi_eqf c39
                      exact Bool.noConfusion (c23.symm.trans c39)
                  · replace c38 : (nI run) = 8 := Classical.not_not.mp (of_decide_eq_false c38)
                    have d8 : run = 8 := (nI_eq (b := 8) (by omega) (by decide)).mp c38
                    show Ex X m_Reader_readTag 114 [.ref (c0 + 8), .ref (c0 + 1), .int sv, .int (nI run), .int (bi fs), .int (nI q), .int (hb t q), .int 1, .int 0] [] (hp c0 n _ _) _
                    refine Ex.nx rfl ?_
                    refine Ex.nx rfl ?_
                    refine Ex.nx rfl ?_
                    refine CR.rd hC rfl rfl rfl rfl (cr_fail hC 4 (nI q)) ?_
                    rintro v h1 ⟨rfl, F37, rfl, hC37⟩
                    show Ex X m_Reader_readTag 121 [.ref (c0 + 8), .ref (c0 + 1), .int sv, .int (nI run), .int (bi fs), .int (nI q), .int (hb t q), .int 1, .int 0] [.int (-1)] (hp c0 n _ _) _
                    exact Ex.ret rfl (ev_reti rfl) (rP_f (show sT t (m + 1) q run fs acc = (false, q, acc) by first | (simp [sT, L45, D45, c2, c14, c23, c32, dr, d20, d8]; done) | (exfalso; simp_all [L45, D45]; done)) ⟨_, _, _, _, _, _, (by decide), hC37⟩)
              · replace c36 : ¬ (nI run) ≤ 0 := of_decide_eq_false c36
                have dr : 0 < run := Nat.pos_of_ne_zero (fun e => c36 (by rw [e]; exact Int32.le_refl _))
                show Ex X m_Reader_readTag 64 [.ref (c0 + 8), .ref (c0 + 1), .int sv, .int (nI run), .int (bi fs), .int (nI q), .int (hb t q), .int 1, b8] [] (hp c0 n _ _) _
                refine Ex.nx rfl ?_
                refine Ex.nx rfl ?_
                refine Ex.nx rfl ?_
                show Ex X m_Reader_readTag 71 [.ref (c0 + 8), .ref (c0 + 1), .int sv, .int (nI run), .int (bi fs), .int (nI q), .int (hb t q), .int 1, .int 1] [] (hp c0 n _ _) _
                refine Ex.nx rfl ?_
                refine Ex.nx rfl ?_
                show Ex X m_Reader_readTag 88 [.ref (c0 + 8), .ref (c0 + 1), .int sv, .int (nI run), .int (bi fs), .int (nI q), .int (hb t q), .int 1, .int 1] [] (hp c0 n _ _) _
                refine Ex.nx rfl ?_
                refine Hx.get 8 rfl hC.r8 rfl ?_
                refine Hx.get 3 rfl hC.r3 rfl ?_
                refine CR.szt hC rfl rfl rfl ?_
                show Ex X m_Reader_readTag 98 [.ref (c0 + 8), .ref (c0 + 1), .int sv, .int (nI run), .int (bi fs), .int (nI q), .int (hb t q), .int 1, .int 1] [.int (nI acc.length)] (hp c0 n _ _) _
                refine Ex.nx rfl ?_
                refine Ex.nx rfl ?_
                refine Ex.ite (fun c40 => ?_) (fun c40 => ?_)
                · replace c40 : (nI acc.length) = 20 := of_decide_eq_true c40
                  have d20 : acc.length = 20 := (nI_eq (b := 20) (by omega) (by decide)).mp c40
                  show Ex X m_Reader_readTag 114 [.ref (c0 + 8), .ref (c0 + 1), .int sv, .int (nI run), .int (bi fs), .int (nI q), .int (hb t q), .int 1, .int 1] [] (hp c0 n _ _) _
                  refine Ex.nx rfl ?_
                  refine Ex.nx rfl ?_
                  refine Ex.nx rfl ?_
                  refine CR.rd hC rfl rfl rfl rfl (cr_fail hC 4 (nI q)) ?_
                  rintro v h1 ⟨rfl, F38, rfl, hC38⟩
                  show Ex X m_Reader_readTag 121 [.ref (c0 + 8), .ref (c0 + 1), .int sv, .int (nI run), .int (bi fs), .int (nI q), .int (hb t q), .int 1, .int 1] [.int (-1)] (hp c0 n _ _) _
                  exact Ex.ret rfl (ev_reti rfl) (rP_f (show sT t (m + 1) q run fs acc = (false, q, acc) by first | (simp [sT, L45, D45, c2, c14, c23, c32, dr, d20]; done) | (exfalso; simp_all [L45, D45]; done)) ⟨_, _, _, _, _, _, (by decide), hC38⟩)
                · replace c40 : ¬ (nI acc.length) = 20 := of_decide_eq_false c40
                  have d20 : ¬ acc.length = 20 := fun e => c40 (by rw [e]; rfl)
                  show Ex X m_Reader_readTag 103 [.ref (c0 + 8), .ref (c0 + 1), .int sv, .int (nI run), .int (bi fs), .int (nI q), .int (hb t q), .int 1, .int 1] [] (hp c0 n _ _) _
                  refine Ex.nx rfl ?_
                  refine Ex.nx rfl ?_
                  show Ex X m_Reader_readTag 108 [.ref (c0 + 8), .ref (c0 + 1), .int sv, .int (nI run), .int (bi fs), .int (nI q), .int (hb t q), .int 1, .int 1] [] (hp c0 n _ _) _
                  refine Ex.nx rfl ?_
                  refine Ex.nx rfl ?_
                  refine Ex.nx rfl ?_
                  refine Ex.ite (fun c41 => ?_) (fun c41 => ?_)
                  · replace c41 : ¬ (nI run) = 8 := of_decide_eq_true c41
                    have d8 : ¬ run = 8 := fun e => c41 (by rw [e]; rfl)
                    show Ex X m_Reader_readTag 122 [.ref (c0 + 8), .ref (c0 + 1), .int sv, .int (nI run), .int (bi fs), .int (nI q), .int (hb t q), .int 1, .int 1] [] (hp c0 n _ _) _
                    refine Ex.nx rfl ?_
                    refine Ex.nx rfl ?_
                    show Ex X m_Reader_readTag 140 [.ref (c0 + 8), .ref (c0 + 1), .int sv, .int (nI run), .int (bi fs), .int (nI q), .int (hb t q), .int 1, .int 1] [] (hp c0 n _ _) _
                    refine Ex.nx rfl ?_
                    refine Hx.get 8 rfl hC.r8 rfl ?_
                    refine Hx.get 3 rfl hC.r3 rfl ?_
                    refine Ex.nx rfl ?_
                    refine Hx.calls rfl rfl rfl rfl (sx_Reader_small X (hb t q)) (fun v hv => ?_)
                    subst hv
                    show Ex X m_Reader_readTag 152 [.ref (c0 + 8), .ref (c0 + 1), .int sv, .int (nI run), .int (bi fs), .int (nI q), .int (hb t q), .int 1, .int 1] [.int (sml (hb t q)), .ref (c0 + 6)] (hp c0 n _ _) _
                    refine Hx.top (y := nI (smlN (t.getD q 0))) (by rw [hb_lt (show q < t.length by omega)]; exact sml_all _ (hC.rt.by q)) ?_
                    refine CR.adt (d := (smlN (t.getD q 0))) hC (smlN_lt _ (hC.rt.by q)) (by omega) rfl rfl ?_
                    intro F39 hC39
                    show Ex X m_Reader_readTag 155 [.ref (c0 + 8), .ref (c0 + 1), .int sv, .int (nI run), .int (bi fs), .int (nI q), .int (hb t q), .int 1, .int 1] [] (hp c0 n _ _) _
                    refine Ex.nx rfl ?_
                    refine Ex.nx rfl ?_
                    show Ex X m_Reader_readTag 160 [.ref (c0 + 8), .ref (c0 + 1), .int sv, .int (nI run), .int (bi fs), .int (nI q), .int (hb t q), .int 1, .int 1] [] (hp c0 n _ _) _
                    refine Ex.nx rfl ?_
                    refine Ex.nx rfl ?_
                    refine Ex.nx rfl ?_
                    show Ex X m_Reader_readTag 168 [.ref (c0 + 8), .ref (c0 + 1), .int sv, .int 0, .int (bi fs), .int (nI q), .int (hb t q), .int 1, .int 1] [] (hp c0 n _ _) _
                    refine Ex.nx rfl ?_
                    refine Ex.nx rfl ?_
                    refine Ex.ite (fun c42 => ?_) (fun c42 => ?_)
                    · replace c42 : fs = false := bi_eqt c42
                      show Ex X m_Reader_readTag 182 [.ref (c0 + 8), .ref (c0 + 1), .int sv, .int 0, .int (bi fs), .int (nI q), .int (hb t q), .int 1, .int 1] [] (hp c0 n _ _) _
                      refine Ex.nx rfl ?_
                      refine Ex.nx rfl ?_
                      show Ex X m_Reader_readTag 185 [.ref (c0 + 8), .ref (c0 + 1), .int sv, .int 0, .int 0, .int (nI q), .int (hb t q), .int 1, .int 1] [] (hp c0 n _ _) _
                      refine Ex.nx rfl ?_
                      show Ex X m_Reader_readTag 188 [.ref (c0 + 8), .ref (c0 + 1), .int sv, .int 0, .int 0, .int ((nI q) + 1), .int (hb t q), .int 1, .int 1] [] (hp c0 n _ _) _
                      refine Ex.nx rfl ?_
                      show Ex X m_Reader_readTag 8 [.ref (c0 + 8), .ref (c0 + 1), .int sv, .int 0, .int 0, .int ((nI q) + 1), .int (hb t q), .int 1, .int 1] [] (hp c0 n _ _) _
                      rw [show nI q + 1 = nI (q + 1) from nI_1 q, show sT t (m + 1) q run fs acc = sT t m (q + 1) 0 false (acc ++ [smlN (t.getD q 0)]) by first | (simp [sT, L45, D45, c2, c14, c23, c32, dr, d20, d8, c42]; done) | (exfalso; simp_all [L45, D45]; done)]
                      exact ih (q + 1) 0 false _ _ _ _ _ (by omega) (by simp only [List.length_append, List.length_cons, List.length_nil]; omega) (by omega) hC39
                    · replace c42 : fs = true := bi_eqf c42
                      exact Bool.noConfusion (c23.symm.trans c42)
                  · replace c41 : (nI run) = 8 := Classical.not_not.mp (of_decide_eq_false c41)
                    have d8 : run = 8 := (nI_eq (b := 8) (by omega) (by decide)).mp c41
                    show Ex X m_Reader_readTag 114 [.ref (c0 + 8), .ref (c0 + 1), .int sv, .int (nI run), .int (bi fs), .int (nI q), .int (hb t q), .int 1, .int 1] [] (hp c0 n _ _) _
                    refine Ex.nx rfl ?_
                    refine Ex.nx rfl ?_
                    refine Ex.nx rfl ?_
                    refine CR.rd hC rfl rfl rfl rfl (cr_fail hC 4 (nI q)) ?_
                    rintro v h1 ⟨rfl, F40, rfl, hC40⟩
                    show Ex X m_Reader_readTag 121 [.ref (c0 + 8), .ref (c0 + 1), .int sv, .int (nI run), .int (bi fs), .int (nI q), .int (hb t q), .int 1, .int 1] [.int (-1)] (hp c0 n _ _) _
                    exact Ex.ret rfl (ev_reti rfl) (rP_f (show sT t (m + 1) q run fs acc = (false, q, acc) by first | (simp [sT, L45, D45, c2, c14, c23, c32, dr, d20, d8]; done) | (exfalso; simp_all [L45, D45]; done)) ⟨_, _, _, _, _, _, (by decide), hC40⟩)
set_option maxRecDepth 100000 in
set_option maxHeartbeats 2000000 in
theorem cr_tag {X : ev_X} {c0 n z : Nat} {F0 : Nat → Option va_E} {t : List Nat} {s p fp : Int32} {nu : Int64} {bd : List Nat} {F : Nat → Option va_E} {q : Nat} (hq : q ≤ t.length) (hC : CR c0 F0 t s nu p bd ([]) 0 fp F) : Ex X m_Reader_readTag 0 [.ref (c0 + 8), .ref (c0 + 1), .int (nI q), ev_dead, ev_dead, ev_dead, ev_dead, ev_dead, ev_dead] [] (hp c0 n z F) (rP c0 n z F0 t (sT t (t.length - q) q 0 true []) (fun b F1 => CR c0 F0 t s nu p bd b 0 fp F1)) := by
  refine Ex.nx rfl ?_
  refine Ex.nx rfl ?_
  show Ex X m_Reader_readTag 2 [.ref (c0 + 8), .ref (c0 + 1), .int (nI q), .int 0, ev_dead, ev_dead, ev_dead, ev_dead, ev_dead] [] (hp c0 n _ _) _
  refine Ex.nx rfl ?_
  refine Ex.nx rfl ?_
  show Ex X m_Reader_readTag 5 [.ref (c0 + 8), .ref (c0 + 1), .int (nI q), .int 0, .int 1, ev_dead, ev_dead, ev_dead, ev_dead] [] (hp c0 n _ _) _
  refine Ex.nx rfl ?_
  refine Ex.nx rfl ?_
  show Ex X m_Reader_readTag 8 [.ref (c0 + 8), .ref (c0 + 1), .int (nI q), .int 0, .int 1, .int (nI q), ev_dead, ev_dead, ev_dead] [] (hp c0 n _ _) _
  show Ex X m_Reader_readTag 8 [.ref (c0 + 8), .ref (c0 + 1), .int (nI q), .int 0, .int 1, .int (nI q), ev_dead, ev_dead, ev_dead] [] (hp c0 n _ _) _
  exact cr_tg_l (nI q) (t.length - q) q 0 true [] _ _ _ _ (by omega) (by decide) (by have := hC.rt.le; omega) hC
