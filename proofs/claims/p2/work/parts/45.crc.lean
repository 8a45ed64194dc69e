/-! The class reads numbers and truths. (rows laid by wip/whole/cr3.py) -/
/-- digits from q on -/
def sD (l : List Nat) (st mo : Nat) : Nat → Nat → Int64 → Bool × Nat × Int64
  | 0, q, v => (true, q, v)
  | m + 1, q, v => if isD (hb l q) = true then (if mo ≤ q - st then (false, q, v) else sD l st mo m (q + 1) (v * 10 + (hb l q - 48).toInt64)) else (true, q, v)
theorem sD_le (l : List Nat) (st mo : Nat) : ∀ (m q : Nat) (v : Int64), q + m = l.length → q - st ≤ mo → q ≤ (sD l st mo m q v).2.1 ∧ (sD l st mo m q v).2.1 ≤ l.length ∧ (sD l st mo m q v).2.1 - st ≤ mo := by
  intro m
  induction m with
  | zero => intro q v h1 h2; exact ⟨Nat.le_refl _, by show q ≤ _; omega, h2⟩
  | succ m ih =>
    intro q v h1 h2
    rw [sD]
    split
    · split
      · exact ⟨Nat.le_refl _, by show q ≤ _; omega, h2⟩
      · next h3 =>
        obtain ⟨a, b, c⟩ := ih (q + 1) (v * 10 + (hb l q - 48).toInt64) (by omega) (by omega)
        exact ⟨by omega, b, c⟩
    · exact ⟨Nat.le_refl _, by show q ≤ _; omega, h2⟩
set_option maxRecDepth 100000 in
set_option maxHeartbeats 2000000 in
theorem cr_dg_l {X : ev_X} {c0 n z : Nat} {F0 : Nat → Option va_E} {t : List Nat} {s p fp : Int32} {bd tl l : List Nat} {kr st mo : Nat} (hmo : mo ≤ 18) : ∀ (m q : Nat) (v : Int64) (F : Nat → Option va_E) (hm : q + m = l.length) (hst : st ≤ q) (hC : CR c0 F0 t s v p bd tl 0 fp F) (hr : crw t bd kr l), Ex X m_Reader_readDigits 3 [.ref (c0 + 8), .ref (c0 + kr), .int (nI st), .int (nI mo), .int (nI q)] [] (hp c0 n z F) (rP c0 n z F0 t (sD l st mo m q v) (fun v F1 => CR c0 F0 t s v p bd tl 0 fp F1)) := by
  intro m
  induction m with
  | zero =>
    intro q v F hm hst hC hr
    have hl := crw.le hC hr
    refine Ex.nx rfl ?_
    refine Ex.nx rfl ?_
    refine CR.sz hC hr rfl rfl rfl ?_
    show Ex X m_Reader_readDigits 9 [.ref (c0 + 8), .ref (c0 + kr), .int (nI st), .int (nI mo), .int (nI q)] [.int (nI l.length), .int (nI q)] (hp c0 n _ _) _
    refine Ex.nx rfl ?_
    refine Ex.ite (fun c1 => ?_) (fun c1 => ?_)
    · replace c1 : (nI l.length) ≤ (nI q) := of_decide_eq_true c1
      show Ex X m_Reader_readDigits 75 [.ref (c0 + 8), .ref (c0 + kr), .int (nI st), .int (nI mo), .int (nI q)] [] (hp c0 n _ _) _
      refine Ex.nx rfl ?_
      exact Ex.ret rfl (ev_reti rfl) (rP_t (b := v) rfl hC)
    · replace c1 : ¬ (nI l.length) ≤ (nI q) := of_decide_eq_false c1
      exact absurd (show nI l.length ≤ nI q by rw [show q = l.length by omega]; exact Int32.le_refl _) c1
  | succ m ih =>
    intro q v F hm hst hC hr
    have hl := crw.le hC hr
    refine Ex.nx rfl ?_
    refine Ex.nx rfl ?_
    refine CR.sz hC hr rfl rfl rfl ?_
    show Ex X m_Reader_readDigits 9 [.ref (c0 + 8), .ref (c0 + kr), .int (nI st), .int (nI mo), .int (nI q)] [.int (nI l.length), .int (nI q)] (hp c0 n _ _) _
    refine Ex.nx rfl ?_
    refine Ex.ite (fun c1 => ?_) (fun c1 => ?_)
    · replace c1 : (nI l.length) ≤ (nI q) := of_decide_eq_true c1
      exact absurd ((nI_leI (by omega) (by omega)).mp c1) (by omega)
    · replace c1 : ¬ (nI l.length) ≤ (nI q) := of_decide_eq_false c1
      show Ex X m_Reader_readDigits 12 [.ref (c0 + 8), .ref (c0 + kr), .int (nI st), .int (nI mo), .int (nI q)] [] (hp c0 n _ _) _
      refine Ex.nx rfl ?_
      refine Ex.nx rfl ?_
      refine CR.at (i := q) (A0 := []) hC hr (by omega) rfl rfl rfl ?_
      show Ex X m_Reader_readDigits 18 [.ref (c0 + 8), .ref (c0 + kr), .int (nI st), .int (nI mo), .int (nI q)] [.int (hb l q)] (hp c0 n _ _) _
      refine Hx.calls rfl rfl rfl rfl (sx_Reader_isDigit X (hb l q)) (fun v hv => ?_)
      subst hv
      show Ex X m_Reader_readDigits 21 [.ref (c0 + 8), .ref (c0 + kr), .int (nI st), .int (nI mo), .int (nI q)] [.int (bi (isD (hb l q)))] (hp c0 n _ _) _
      refine Ex.nx rfl ?_
      refine Ex.ite (fun c2 => ?_) (fun c2 => ?_)
      · replace c2 : (isD (hb l q)) = false := bi_eqt c2
        show Ex X m_Reader_readDigits 75 [.ref (c0 + 8), .ref (c0 + kr), .int (nI st), .int (nI mo), .int (nI q)] [] (hp c0 n _ _) _
        refine Ex.nx rfl ?_
        exact Ex.ret rfl (ev_reti rfl) (rP_t (show sD l st mo (m + 1) q v = (true, q, v) from if_neg (by rw [c2]; decide)) hC)
      · replace c2 : (isD (hb l q)) = true := bi_eqf c2
        show Ex X m_Reader_readDigits 24 [.ref (c0 + 8), .ref (c0 + kr), .int (nI st), .int (nI mo), .int (nI q)] [] (hp c0 n _ _) _
        refine Ex.nx rfl ?_
        refine Ex.nx rfl ?_
        refine Ex.nx rfl ?_
        refine Hx.top (y := nI (q - st)) (pk_sub (by omega)) ?_
        refine Ex.nx rfl ?_
        refine Ex.nx rfl ?_
        refine Ex.ite (fun c3 => ?_) (fun c3 => ?_)
        · replace c3 : (nI (q - st)) < (nI mo) := of_decide_eq_true c3
          show Ex X m_Reader_readDigits 40 [.ref (c0 + 8), .ref (c0 + kr), .int (nI st), .int (nI mo), .int (nI q)] [] (hp c0 n _ _) _
          refine Ex.nx rfl ?_
          refine Hx.get 8 rfl hC.r8 rfl ?_
          refine Ex.nx rfl ?_
          refine Hx.get 8 rfl hC.r8 rfl ?_
          refine Hx.get 3 rfl hC.r3 rfl ?_
          refine Ex.nx rfl ?_
          refine Ex.nx rfl ?_
          refine Ex.nx rfl ?_
          refine Ex.nx rfl ?_
          refine CR.at (i := q) (A0 := []) hC hr (by omega) rfl rfl rfl ?_
          show Ex X m_Reader_readDigits 61 [.ref (c0 + 8), .ref (c0 + kr), .int (nI st), .int (nI mo), .int (nI q)] [.int (hb l q), .long (v * 10), .ref (c0 + 3)] (hp c0 n _ _) _
          refine Ex.nx rfl ?_
          refine Ex.nx rfl ?_
          refine Ex.nx rfl ?_
          refine Ex.nx rfl ?_
          refine CR.pn hC rfl ?_
          intro F1 hC1
          show Ex X m_Reader_readDigits 69 [.ref (c0 + 8), .ref (c0 + kr), .int (nI st), .int (nI mo), .int (nI q)] [] (hp c0 n _ _) _
          refine Ex.nx rfl ?_
          show Ex X m_Reader_readDigits 72 [.ref (c0 + 8), .ref (c0 + kr), .int (nI st), .int (nI mo), .int ((nI q) + 1)] [] (hp c0 n _ _) _
          refine Ex.nx rfl ?_
          show Ex X m_Reader_readDigits 3 [.ref (c0 + 8), .ref (c0 + kr), .int (nI st), .int (nI mo), .int ((nI q) + 1)] [] (hp c0 n _ _) _
          rw [show nI q + 1 = nI (q + 1) from nI_1 q, show sD l st mo (m + 1) q v = sD l st mo m (q + 1) (v * 10 + (hb l q - 48).toInt64) from (if_pos c2).trans (if_neg (Nat.not_le.mpr ((nI_ltI (by omega) (by omega)).mp c3)))]
          exact ih (q + 1) _ _ (by omega) (by omega) hC1 hr
        · replace c3 : ¬ (nI (q - st)) < (nI mo) := of_decide_eq_false c3
          show Ex X m_Reader_readDigits 32 [.ref (c0 + 8), .ref (c0 + kr), .int (nI st), .int (nI mo), .int (nI q)] [] (hp c0 n _ _) _
          refine Ex.nx rfl ?_
          refine Ex.nx rfl ?_
          refine Ex.nx rfl ?_
          refine CR.rd hC rfl rfl rfl rfl (cr_fail hC 4 (nI q)) ?_
          rintro v h1 ⟨rfl, F2, rfl, hC2⟩
          show Ex X m_Reader_readDigits 39 [.ref (c0 + 8), .ref (c0 + kr), .int (nI st), .int (nI mo), .int (nI q)] [.int (-1)] (hp c0 n _ _) _
          exact Ex.ret rfl (ev_reti rfl) (rP_f (show sD l st mo (m + 1) q v = (false, q, v) from (if_pos c2).trans (if_pos (Nat.le_of_not_lt (fun e => c3 ((nI_ltI (by omega) (by omega)).mpr e))))) ⟨_, _, _, _, _, _, (by decide), hC2⟩)
set_option maxRecDepth 100000 in
set_option maxHeartbeats 2000000 in
theorem cr_digits {X : ev_X} {c0 n z : Nat} {F0 : Nat → Option va_E} {t : List Nat} {s p fp : Int32} {bd tl l : List Nat} {kr st mo : Nat} (hmo : mo ≤ 18) {v : Int64} {F : Nat → Option va_E} (hst : st ≤ l.length) (hC : CR c0 F0 t s v p bd tl 0 fp F) (hr : crw t bd kr l) : Ex X m_Reader_readDigits 0 [.ref (c0 + 8), .ref (c0 + kr), .int (nI st), .int (nI mo), ev_dead] [] (hp c0 n z F) (rP c0 n z F0 t (sD l st mo (l.length - st) st v) (fun v F1 => CR c0 F0 t s v p bd tl 0 fp F1)) := by
  refine Ex.nx rfl ?_
  refine Ex.nx rfl ?_
  show Ex X m_Reader_readDigits 3 [.ref (c0 + 8), .ref (c0 + kr), .int (nI st), .int (nI mo), .int (nI st)] [] (hp c0 n _ _) _
  show Ex X m_Reader_readDigits 3 [.ref (c0 + 8), .ref (c0 + kr), .int (nI st), .int (nI mo), .int (nI st)] [] (hp c0 n _ _) _
  exact cr_dg_l hmo (l.length - st) st v _ (by omega) (Nat.le_refl _) hC hr
set_option maxRecDepth 100000 in
set_option maxHeartbeats 2000000 in
theorem cr_lz {X : ev_X} {c0 n z : Nat} {F0 : Nat → Option va_E} {t : List Nat} {s fp ft : Int32} {bd tl : List Nat} {pn : Nat} {v : Int64} {F : Nat → Option va_E} (hp9 : pn ≤ 1000) (hC : CR c0 F0 t s v (nI pn) bd tl ft fp F) : Ex X m_Term_leaveOffZeros 0 [.ref (c0 + 3), ev_dead] [] (hp c0 n z F) (fun r h' => r = none ∧ ∃ F1, h' = hp c0 n z F1 ∧ CR c0 F0 t s (lz pn v).1 (nI (lz pn v).2) bd tl ft fp F1) := by
  refine (hx_lz pn v hp9 hC.r3).mono ?_
  rintro r h' ⟨rfl, rfl⟩
  exact ⟨rfl, _, rfl, hC.u3⟩
theorem lz_le : ∀ (p : Nat) (v : Int64), (lz p v).2 ≤ p := by
  intro p
  induction p with
  | zero => intro v; exact Nat.le_refl _
  | succ p ih =>
    intro v
    rw [lz]
    split
    · exact Nat.le_succ_of_le (ih _)
    · exact Nat.le_refl _
/-- a number, without its sign: sort, number, places -/
def sNu2 (l : List Nat) (st q1 : Nat) (v1 : Int64) : Bool × Nat × Int32 × Int64 × Nat := let o2 := sD l (q1 + 1) (18 - (q1 - st)) (l.length - (q1 + 1)) (q1 + 1) v1; if o2.1 = false then (false, o2.2.1, 0, 0, 0) else if o2.2.1 = q1 + 1 then (false, o2.2.1, 0, 0, 0) else if 9 < (lz (o2.2.1 - q1 - 1) o2.2.2).2 then (false, 0, 0, 0, 0) else (true, o2.2.1, 4, lz (o2.2.1 - q1 - 1) o2.2.2)
def sNu1 (l : List Nat) (st : Nat) (v : Int64) : Bool × Nat × Int32 × Int64 × Nat := let o1 := sD l st 18 (l.length - st) st v; if o1.1 = false then (false, o1.2.1, 0, 0, 0) else if hb l o1.2.1 = 46 then sNu2 l st o1.2.1 o1.2.2 else if o1.2.1 = st then (false, o1.2.1, 0, 0, 0) else (true, o1.2.1, 3, o1.2.2, 0)
def sgn0 (l : List Nat) : Nat := if (decide (hb l 0 = 43) || decide (hb l 0 = 45)) = true then 1 else 0
theorem nI_nm1 {n : Nat} (h : n < 2 ^ 31) : ¬ nI n = -1 := fun e => nI_pos h (by rw [e]; decide)
set_option maxRecDepth 100000 in
set_option maxHeartbeats 2000000 in
theorem cr_nu2 {X : ev_X} {c0 n z : Nat} {F0 : Nat → Option va_E} {t : List Nat} {s fp : Int32} {bd tl l : List Nat} {kr : Nat} {v : Int64} {F : Nat → Option va_E} (hC : CR c0 F0 t s v 0 bd tl 0 fp F) (hr : crw t bd kr l) {st q1 : Nat} (v4 : Value) (h1 : st ≤ q1) (h2 : q1 < l.length) (h3 : q1 - st ≤ 18) : Ex X m_Reader_readNumber 67 [.ref (c0 + 8), .ref (c0 + kr), .int (nI st), .int (nI q1), v4] [] (hp c0 n z F) (rP c0 n z F0 t (sNu2 l st q1 v) (fun x F1 => CR c0 F0 t x.1 x.2.1 (nI x.2.2) bd tl 0 fp F1)) := by
  have hl := crw.le hC hr
  refine Ex.nx rfl ?_
  refine Ex.nx rfl ?_
  refine Ex.nx rfl ?_
  refine Ex.nx rfl ?_
  refine Ex.nx rfl ?_
  refine Hx.top (y := nI (q1 + 1)) (nI_1 q1) ?_
  refine Ex.nx rfl ?_
  refine Ex.nx rfl ?_
  refine Ex.nx rfl ?_
  refine Ex.nx rfl ?_
  refine Hx.top (y := nI (q1 - st)) (pk_sub (by omega)) ?_
  refine Ex.nx rfl ?_
  refine Hx.top (y := nI (18 - (q1 - st))) (pk_sub (a := 18) (by omega)) ?_
  refine CR.rd hC rfl rfl rfl rfl (cr_digits (st := (q1 + 1)) (mo := (18 - (q1 - st))) (by omega) (by omega) hC hr) ?_
  obtain ⟨g1, g2, g3⟩ := sD_le l (q1 + 1) (18 - (q1 - st)) (l.length - (q1 + 1)) (q1 + 1) v (by omega) (by omega)
  generalize ho2 : sD l (q1 + 1) (18 - (q1 - st)) (l.length - (q1 + 1)) (q1 + 1) v = o at g1 g2 g3 ⊢
  obtain ⟨b3, y3, v3⟩ := o
  dsimp only at g1 g2 g3
  cases b3
  · rintro v h1 ⟨rfl, F3, rfl, hE⟩
    show Ex X m_Reader_readNumber 81 [.ref (c0 + 8), .ref (c0 + kr), .int (nI st), .int (nI q1), v4] [.int (-1)] (hp c0 n _ _) _
    refine Ex.nx rfl ?_
    show Ex X m_Reader_readNumber 83 [.ref (c0 + 8), .ref (c0 + kr), .int (nI st), .int (nI q1), .int (-1)] [] (hp c0 n _ _) _
    refine Ex.nx rfl ?_
    refine Ex.nx rfl ?_
    refine Ex.nx rfl ?_
    show Ex X m_Reader_readNumber 89 [.ref (c0 + 8), .ref (c0 + kr), .int (nI st), .int (nI q1), .int (-1)] [] (hp c0 n _ _) _
    refine Ex.nx rfl ?_
    exact Ex.ret rfl (ev_reti rfl) (rP_f (b := (0, 0, 0)) (by rw [sNu2, ho2]; rfl) hE)
  rintro v h1 ⟨rfl, F3, rfl, hC3⟩
  dsimp only at hC3
  show Ex X m_Reader_readNumber 81 [.ref (c0 + 8), .ref (c0 + kr), .int (nI st), .int (nI q1), v4] [.int (nI y3)] (hp c0 n _ _) _
  refine Ex.nx rfl ?_
  show Ex X m_Reader_readNumber 83 [.ref (c0 + 8), .ref (c0 + kr), .int (nI st), .int (nI q1), .int (nI y3)] [] (hp c0 n _ _) _
  refine Ex.nx rfl ?_
  refine Ex.nx rfl ?_
  refine Ex.nx rfl ?_
  refine Ex.ite (fun c1 => ?_) (fun c1 => ?_)
  · replace c1 : ¬ (nI y3) = (-1) := of_decide_eq_true c1
    skip
    show Ex X m_Reader_readNumber 91 [.ref (c0 + 8), .ref (c0 + kr), .int (nI st), .int (nI q1), .int (nI y3)] [] (hp c0 n _ _) _
    refine Ex.nx rfl ?_
    refine Ex.nx rfl ?_
    refine Ex.nx rfl ?_
    refine Ex.nx rfl ?_
    refine Hx.top (y := nI (q1 + 1)) (nI_1 q1) ?_
    refine Ex.nx rfl ?_
    refine Ex.ite (fun c2 => ?_) (fun c2 => ?_)
    · replace c2 : ¬ (nI y3) = (nI (q1 + 1)) := of_decide_eq_true c2
      have dq : ¬ y3 = q1 + 1 := fun e => c2 (by rw [e])
      show Ex X m_Reader_readNumber 107 [.ref (c0 + 8), .ref (c0 + kr), .int (nI st), .int (nI q1), .int (nI y3)] [] (hp c0 n _ _) _
      refine Ex.nx rfl ?_
      refine Hx.get 8 rfl hC3.r8 rfl ?_
      refine Ex.nx rfl ?_
      refine CR.ps hC3 rfl ?_
      intro F4 hC4
      show Ex X m_Reader_readNumber 115 [.ref (c0 + 8), .ref (c0 + kr), .int (nI st), .int (nI q1), .int (nI y3)] [] (hp c0 n _ _) _
      refine Ex.nx rfl ?_
      refine Hx.get 8 rfl hC4.r8 rfl ?_
      refine Ex.nx rfl ?_
      refine Ex.nx rfl ?_
      refine Ex.nx rfl ?_
      refine Hx.top (y := nI (y3 - q1)) (pk_sub (by omega)) ?_
      refine Ex.nx rfl ?_
      refine Ex.nx rfl ?_
      refine Hx.top (y := nI (y3 - q1 - 1)) (pk_sub (b := 1) (by omega)) ?_
      refine CR.pp hC4 rfl ?_
      intro F5 hC5
      show Ex X m_Reader_readNumber 128 [.ref (c0 + 8), .ref (c0 + kr), .int (nI st), .int (nI q1), .int (nI y3)] [] (hp c0 n _ _) _
      refine Ex.nx rfl ?_
      refine Hx.get 8 rfl hC5.r8 rfl ?_
      refine Hx.callX 3 rfl rfl hC5.r3 rfl rfl (cr_lz (pn := (y3 - q1 - 1)) (by omega) hC5) ?_
      rintro v h1 ⟨rfl, F6, rfl, hC6⟩
      have hz := lz_le (y3 - q1 - 1) v3
      show Ex X m_Reader_readNumber 135 [.ref (c0 + 8), .ref (c0 + kr), .int (nI st), .int (nI q1), .int (nI y3)] [] (hp c0 n _ _) _
      refine Ex.nx rfl ?_
      refine Hx.get 8 rfl hC6.r8 rfl ?_
      refine Hx.get 3 rfl hC6.r3 rfl ?_
      refine Ex.nx rfl ?_
      refine Ex.nx rfl ?_
      refine Ex.ite (fun c3 => ?_) (fun c3 => ?_)
      · replace c3 : (nI (lz (y3 - q1 - 1) v3).2) ≤ 9 := of_decide_eq_true c3
        have d9 : ¬ 9 < (lz (y3 - q1 - 1) v3).2 := Nat.not_lt.mpr ((nI_leI (b := 9) (by omega) (by decide)).mp c3)
        show Ex X m_Reader_readNumber 157 [.ref (c0 + 8), .ref (c0 + kr), .int (nI st), .int (nI q1), .int (nI y3)] [] (hp c0 n _ _) _
        refine Ex.nx rfl ?_
        exact Ex.ret rfl (ev_reti rfl) (rP_t (b := (4, lz (y3 - q1 - 1) v3)) (by simp [sNu2, ho2, dq, d9]) hC6)
      · replace c3 : ¬ (nI (lz (y3 - q1 - 1) v3).2) ≤ 9 := of_decide_eq_false c3
        have d9 : 9 < (lz (y3 - q1 - 1) v3).2 := Nat.lt_of_not_le (fun e => c3 ((nI_leI (b := 9) (by omega) (by decide)).mpr e))
        show Ex X m_Reader_readNumber 147 [.ref (c0 + 8), .ref (c0 + kr), .int (nI st), .int (nI q1), .int (nI y3)] [] (hp c0 n _ _) _
        refine Ex.nx rfl ?_
        refine Ex.nx rfl ?_
        refine Ex.nx rfl ?_
        refine CR.rd hC6 rfl rfl rfl rfl (cr_fail hC6 6 0) ?_
        rintro v h1 ⟨rfl, F7, rfl, hC7⟩
        show Ex X m_Reader_readNumber 154 [.ref (c0 + 8), .ref (c0 + kr), .int (nI st), .int (nI q1), .int (nI y3)] [.int (-1)] (hp c0 n _ _) _
        refine Ex.nx rfl ?_
        exact Ex.ret rfl (ev_reti rfl) (rP_f (b := (0, 0, 0)) (by simp [sNu2, ho2, dq, d9]) ⟨_, _, _, _, _, _, (by decide), hC7⟩)
    · replace c2 : (nI y3) = (nI (q1 + 1)) := Classical.not_not.mp (of_decide_eq_false c2)
      have dq : y3 = q1 + 1 := (nI_eq (by omega) (by omega)).mp c2
      show Ex X m_Reader_readNumber 99 [.ref (c0 + 8), .ref (c0 + kr), .int (nI st), .int (nI q1), .int (nI y3)] [] (hp c0 n _ _) _
      refine Ex.nx rfl ?_
      refine Ex.nx rfl ?_
      refine Ex.nx rfl ?_
      refine CR.rd hC3 rfl rfl rfl rfl (cr_lacking (i := y3) hC3 hr (by omega)) ?_
      rintro v h1 ⟨rfl, F8, rfl, hC8⟩
      show Ex X m_Reader_readNumber 106 [.ref (c0 + 8), .ref (c0 + kr), .int (nI st), .int (nI q1), .int (nI y3)] [.int (-1)] (hp c0 n _ _) _
      exact Ex.ret rfl (ev_reti rfl) (rP_f (b := (0, 0, 0)) (by simp [sNu2, ho2, dq]) ⟨_, _, _, _, _, _, lk_ne, hC8⟩)
  · replace c1 : (nI y3) = (-1) := Classical.not_not.mp (of_decide_eq_false c1)
    exact absurd (show (nI y3 = -1) from c1) (nI_nm1 (by omega))
set_option maxRecDepth 100000 in
set_option maxHeartbeats 2000000 in
theorem cr_nu1 {X : ev_X} {c0 n z : Nat} {F0 : Nat → Option va_E} {t : List Nat} {s fp : Int32} {bd tl l : List Nat} {kr : Nat} {v : Int64} {F : Nat → Option va_E} (hC : CR c0 F0 t s v 0 bd tl 0 fp F) (hr : crw t bd kr l) {st : Nat} (hst : st ≤ l.length) : Ex X m_Reader_readNumber 17 [.ref (c0 + 8), .ref (c0 + kr), .int (nI st), ev_dead, ev_dead] [] (hp c0 n z F) (rP c0 n z F0 t (sNu1 l st v) (fun x F1 => CR c0 F0 t x.1 x.2.1 (nI x.2.2) bd tl 0 fp F1)) := by
  have hl := crw.le hC hr
  refine Ex.nx rfl ?_
  refine Ex.nx rfl ?_
  refine Ex.nx rfl ?_
  refine Ex.nx rfl ?_
  refine CR.rd hC rfl rfl rfl rfl (cr_digits (st := st) (mo := 18) (by omega) (by omega) hC hr) ?_
  obtain ⟨g1, g2, g3⟩ := sD_le l st 18 (l.length - st) st v (by omega) (by omega)
  generalize ho1 : sD l st 18 (l.length - st) st v = o at g1 g2 g3 ⊢
  obtain ⟨b9, y9, v9⟩ := o
  dsimp only at g1 g2 g3
  cases b9
  · rintro v h1 ⟨rfl, F9, rfl, hE⟩
    show Ex X m_Reader_readNumber 25 [.ref (c0 + 8), .ref (c0 + kr), .int (nI st), ev_dead, ev_dead] [.int (-1)] (hp c0 n _ _) _
    refine Ex.nx rfl ?_
    show Ex X m_Reader_readNumber 26 [.ref (c0 + 8), .ref (c0 + kr), .int (nI st), .int (-1), ev_dead] [] (hp c0 n _ _) _
    refine Ex.nx rfl ?_
    refine Ex.nx rfl ?_
    refine Ex.nx rfl ?_
    show Ex X m_Reader_readNumber 31 [.ref (c0 + 8), .ref (c0 + kr), .int (nI st), .int (-1), ev_dead] [] (hp c0 n _ _) _
    refine Ex.nx rfl ?_
    exact Ex.ret rfl (ev_reti rfl) (rP_f (b := (0, 0, 0)) (by rw [sNu1, ho1]; rfl) hE)
  rintro v h1 ⟨rfl, F9, rfl, hC9⟩
  dsimp only at hC9
  show Ex X m_Reader_readNumber 25 [.ref (c0 + 8), .ref (c0 + kr), .int (nI st), ev_dead, ev_dead] [.int (nI y9)] (hp c0 n _ _) _
  refine Ex.nx rfl ?_
  show Ex X m_Reader_readNumber 26 [.ref (c0 + 8), .ref (c0 + kr), .int (nI st), .int (nI y9), ev_dead] [] (hp c0 n _ _) _
  refine Ex.nx rfl ?_
  refine Ex.nx rfl ?_
  refine Ex.nx rfl ?_
  refine Ex.ite (fun c1 => ?_) (fun c1 => ?_)
  · replace c1 : ¬ (nI y9) = (-1) := of_decide_eq_true c1
    skip
    show Ex X m_Reader_readNumber 33 [.ref (c0 + 8), .ref (c0 + kr), .int (nI st), .int (nI y9), ev_dead] [] (hp c0 n _ _) _
    refine Ex.nx rfl ?_
    refine Ex.nx rfl ?_
    refine CR.at (i := y9) (A0 := []) hC9 hr (by omega) rfl rfl rfl ?_
    show Ex X m_Reader_readNumber 38 [.ref (c0 + 8), .ref (c0 + kr), .int (nI st), .int (nI y9), ev_dead] [.int (hb l y9)] (hp c0 n _ _) _
    refine Ex.nx rfl ?_
    refine Ex.nx rfl ?_
    refine Ex.ite (fun c2 => ?_) (fun c2 => ?_)
    · replace c2 : (hb l y9) = 46 := of_decide_eq_true c2
      show Ex X m_Reader_readNumber 67 [.ref (c0 + 8), .ref (c0 + kr), .int (nI st), .int (nI y9), ev_dead] [] (hp c0 n _ _) _
      show Ex X m_Reader_readNumber 67 [.ref (c0 + 8), .ref (c0 + kr), .int (nI st), .int (nI y9), ev_dead] [] (hp c0 n _ _) _
      have h46 := hb_in (t := l) (q := y9) (by rw [c2]; decide)
      rw [show sNu1 l st v = sNu2 l st y9 v9 by simp [sNu1, ho1, c2]]
      exact cr_nu2 hC9 hr _ (by omega) h46 (by omega)
    · replace c2 : ¬ (hb l y9) = 46 := of_decide_eq_false c2
      show Ex X m_Reader_readNumber 43 [.ref (c0 + 8), .ref (c0 + kr), .int (nI st), .int (nI y9), ev_dead] [] (hp c0 n _ _) _
      refine Ex.nx rfl ?_
      refine Hx.get 8 rfl hC9.r8 rfl ?_
      refine Ex.nx rfl ?_
      refine CR.ps hC9 rfl ?_
      intro F10 hC10
      show Ex X m_Reader_readNumber 51 [.ref (c0 + 8), .ref (c0 + kr), .int (nI st), .int (nI y9), ev_dead] [] (hp c0 n _ _) _
      refine Ex.nx rfl ?_
      refine Ex.nx rfl ?_
      refine Ex.nx rfl ?_
      refine Ex.ite (fun c3 => ?_) (fun c3 => ?_)
      · replace c3 : ¬ (nI y9) = (nI st) := of_decide_eq_true c3
        have dq : ¬ y9 = st := fun e => c3 (by rw [e])
        show Ex X m_Reader_readNumber 65 [.ref (c0 + 8), .ref (c0 + kr), .int (nI st), .int (nI y9), ev_dead] [] (hp c0 n _ _) _
        refine Ex.nx rfl ?_
        exact Ex.ret rfl (ev_reti rfl) (rP_t (b := (3, v9, 0)) (by simp [sNu1, ho1, c2, dq]) hC10)
      · replace c3 : (nI y9) = (nI st) := Classical.not_not.mp (of_decide_eq_false c3)
        have dq : y9 = st := (nI_eq (by omega) (by omega)).mp c3
        show Ex X m_Reader_readNumber 56 [.ref (c0 + 8), .ref (c0 + kr), .int (nI st), .int (nI y9), ev_dead] [] (hp c0 n _ _) _
        refine Ex.nx rfl ?_
        refine Ex.nx rfl ?_
        refine Ex.nx rfl ?_
        refine CR.rd hC10 rfl rfl rfl rfl (cr_lacking (i := y9) hC10 hr (by omega)) ?_
        rintro v h1 ⟨rfl, F11, rfl, hC11⟩
        show Ex X m_Reader_readNumber 62 [.ref (c0 + 8), .ref (c0 + kr), .int (nI st), .int (nI y9), ev_dead] [.int (-1)] (hp c0 n _ _) _
        refine Ex.nx rfl ?_
        exact Ex.ret rfl (ev_reti rfl) (rP_f (b := (0, 0, 0)) (by unfold sNu1; simp only [ho1]; rw [if_neg (by decide), if_neg c2, if_pos dq]) ⟨_, _, _, _, _, _, lk_ne, hC11⟩)
  · replace c1 : (nI y9) = (-1) := Classical.not_not.mp (of_decide_eq_false c1)
    exact absurd (show (nI y9 = -1) from c1) (nI_nm1 (by omega))
theorem sgn_ne {x : Int32} (h : (decide (x = 43) || decide (x = 45)) = true) : x ≠ -1 := fun e => by rw [e] at h; exact absurd h (by decide)
set_option maxRecDepth 100000 in
set_option maxHeartbeats 2000000 in
theorem cr_number {X : ev_X} {c0 n z : Nat} {F0 : Nat → Option va_E} {t : List Nat} {s fp : Int32} {bd tl l : List Nat} {kr : Nat} {v : Int64} {F : Nat → Option va_E} (hC : CR c0 F0 t s v 0 bd tl 0 fp F) (hr : crw t bd kr l) : Ex X m_Reader_readNumber 0 [.ref (c0 + 8), .ref (c0 + kr), ev_dead, ev_dead, ev_dead] [] (hp c0 n z F) (rP c0 n z F0 t (sNu1 l (sgn0 l) v) (fun x F1 => CR c0 F0 t x.1 x.2.1 (nI x.2.2) bd tl 0 fp F1)) := by
  have hl := crw.le hC hr
  refine Ex.nx rfl ?_
  refine Ex.nx rfl ?_
  refine CR.at (i := 0) (A0 := []) hC hr (by omega) rfl rfl rfl ?_
  show Ex X m_Reader_readNumber 5 [.ref (c0 + 8), .ref (c0 + kr), ev_dead, ev_dead, ev_dead] [.int (hb l 0)] (hp c0 n _ _) _
  refine Hx.calls rfl rfl rfl rfl (sx_Reader_isSign X (hb l 0)) (fun v hv => ?_)
  subst hv
  show Ex X m_Reader_readNumber 8 [.ref (c0 + 8), .ref (c0 + kr), ev_dead, ev_dead, ev_dead] [.int (bi (decide ((hb l 0) = 43) || decide ((hb l 0) = 45)))] (hp c0 n _ _) _
  refine Ex.nx rfl ?_
  refine Ex.ite (fun c1 => ?_) (fun c1 => ?_)
  · replace c1 : (decide ((hb l 0) = 43) || decide ((hb l 0) = 45)) = false := bi_eqt c1
    show Ex X m_Reader_readNumber 15 [.ref (c0 + 8), .ref (c0 + kr), ev_dead, ev_dead, ev_dead] [] (hp c0 n _ _) _
    refine Ex.nx rfl ?_
    refine Ex.nx rfl ?_
    show Ex X m_Reader_readNumber 17 [.ref (c0 + 8), .ref (c0 + kr), .int 0, ev_dead, ev_dead] [] (hp c0 n _ _) _
    show Ex X m_Reader_readNumber 17 [.ref (c0 + 8), .ref (c0 + kr), .int 0, ev_dead, ev_dead] [] (hp c0 n _ _) _
    rw [show sgn0 l = 0 from if_neg (by rw [c1]; decide)]
    exact cr_nu1 hC hr (st := 0) (Nat.zero_le _)
  · replace c1 : (decide ((hb l 0) = 43) || decide ((hb l 0) = 45)) = true := bi_eqf c1
    show Ex X m_Reader_readNumber 11 [.ref (c0 + 8), .ref (c0 + kr), ev_dead, ev_dead, ev_dead] [] (hp c0 n _ _) _
    refine Ex.nx rfl ?_
    refine Ex.nx rfl ?_
    refine Ex.nx rfl ?_
    show Ex X m_Reader_readNumber 17 [.ref (c0 + 8), .ref (c0 + kr), .int 1, ev_dead, ev_dead] [] (hp c0 n _ _) _
    show Ex X m_Reader_readNumber 17 [.ref (c0 + 8), .ref (c0 + kr), .int 1, ev_dead, ev_dead] [] (hp c0 n _ _) _
    rw [show sgn0 l = 1 from if_pos c1]
    exact cr_nu1 hC hr (st := 1) (by have := hb_in (t := l) (q := 0) (sgn_ne c1); omega)
/-- a truth's word k from j on: where it fails -/
def sTl (l : List Nat) (k : Nat) : Nat → Nat → Option Nat
  | 0, _ => none
  | m + 1, j => if hb l j = nI (wch k j) then sTl l k m (j + 1) else some j
def sTr (l : List Nat) (k : Nat) (tv : Int32) : Bool × Nat × Int32 × Int64 × Nat := match sTl l k (wlen k - 1) 1 with
  | some j => (false, j, 0, 0, 0)
  | none => if isW (hb l (wlen k)) = true then (false, wlen k, 0, 0, 0) else (true, wlen k, 8, tv.toInt64, 0)
set_option maxRecDepth 100000 in
set_option maxHeartbeats 2000000 in
theorem cr_tr_e {X : ev_X} {c0 n z : Nat} (hS : XS X c0) {F0 : Nat → Option va_E} {t : List Nat} {k : Nat} (hk : k < 12) (tv : Int32) {s fp : Int32} {bd tl l : List Nat} {kr : Nat} {v : Int64} {F : Nat → Option va_E} (hC : CR c0 F0 t s v 0 bd tl 0 fp F) (hr : crw t bd kr l) (jv : Value) : Ex X m_Reader_readTruth 41 [.ref (c0 + 8), .ref (c0 + kr), .ref (X.2.1 k), .int tv, jv] [] (hp c0 n z F) (rP c0 n z F0 t (if isW (hb l (wlen k)) = true then (false, wlen k, 0, 0, 0) else (true, wlen k, 8, tv.toInt64, 0)) (fun x F1 => CR c0 F0 t x.1 x.2.1 (nI x.2.2) bd tl 0 fp F1)) := by
  have hw := wlen_all k hk
  refine Ex.nx rfl ?_
  refine Hx.scl hS hk lo_hp rfl rfl rfl rfl (hs_length hS lo_hp hk) ?_
  rintro v h1 ⟨rfl, rfl⟩
  show Ex X m_Reader_readTruth 45 [.ref (c0 + 8), .ref (c0 + kr), .ref (X.2.1 k), .int tv, jv] [.int (nI (wlen k))] (hp c0 n _ _) _
  refine Ex.nx rfl ?_
  show Ex X m_Reader_readTruth 47 [.ref (c0 + 8), .ref (c0 + kr), .ref (X.2.1 k), .int tv, .int (nI (wlen k))] [] (hp c0 n _ _) _
  refine Ex.nx rfl ?_
  refine Ex.nx rfl ?_
  refine CR.at (i := (wlen k)) (A0 := []) hC hr (by omega) rfl rfl rfl ?_
  show Ex X m_Reader_readTruth 53 [.ref (c0 + 8), .ref (c0 + kr), .ref (X.2.1 k), .int tv, .int (nI (wlen k))] [.int (hb l (wlen k))] (hp c0 n _ _) _
  refine Hx.calls rfl rfl rfl rfl (sx_Reader_isW X (hb l (wlen k))) (fun v hv => ?_)
  subst hv
  show Ex X m_Reader_readTruth 56 [.ref (c0 + 8), .ref (c0 + kr), .ref (X.2.1 k), .int tv, .int (nI (wlen k))] [.int (bi (isW (hb l (wlen k))))] (hp c0 n _ _) _
  refine Ex.nx rfl ?_
  refine Ex.ite (fun c1 => ?_) (fun c1 => ?_)
  · replace c1 : (isW (hb l (wlen k))) = false := bi_eqt c1
    show Ex X m_Reader_readTruth 67 [.ref (c0 + 8), .ref (c0 + kr), .ref (X.2.1 k), .int tv, .int (nI (wlen k))] [] (hp c0 n _ _) _
    refine Ex.nx rfl ?_
    refine Hx.get 8 rfl hC.r8 rfl ?_
    refine Ex.nx rfl ?_
    refine CR.ps hC rfl ?_
    intro F12 hC12
    show Ex X m_Reader_readTruth 76 [.ref (c0 + 8), .ref (c0 + kr), .ref (X.2.1 k), .int tv, .int (nI (wlen k))] [] (hp c0 n _ _) _
    refine Ex.nx rfl ?_
    refine Hx.get 8 rfl hC12.r8 rfl ?_
    refine Ex.nx rfl ?_
    refine Ex.nx rfl ?_
    refine CR.pn hC12 rfl ?_
    intro F13 hC13
    show Ex X m_Reader_readTruth 85 [.ref (c0 + 8), .ref (c0 + kr), .ref (X.2.1 k), .int tv, .int (nI (wlen k))] [] (hp c0 n _ _) _
    refine Ex.nx rfl ?_
    exact Ex.ret rfl (ev_reti rfl) (rP_t (b := (8, tv.toInt64, 0)) (show (if isW (hb l (wlen k)) = true then (false, wlen k, 0, 0, 0) else (true, wlen k, 8, tv.toInt64, 0)) = _ from if_neg (by rw [c1]; decide)) hC13)
  · replace c1 : (isW (hb l (wlen k))) = true := bi_eqf c1
    show Ex X m_Reader_readTruth 59 [.ref (c0 + 8), .ref (c0 + kr), .ref (X.2.1 k), .int tv, .int (nI (wlen k))] [] (hp c0 n _ _) _
    refine Ex.nx rfl ?_
    refine Ex.nx rfl ?_
    refine Ex.nx rfl ?_
    refine CR.rd hC rfl rfl rfl rfl (cr_fail hC 3 (nI (wlen k))) ?_
    rintro v h1 ⟨rfl, F14, rfl, hC14⟩
    show Ex X m_Reader_readTruth 66 [.ref (c0 + 8), .ref (c0 + kr), .ref (X.2.1 k), .int tv, .int (nI (wlen k))] [.int (-1)] (hp c0 n _ _) _
    exact Ex.ret rfl (ev_reti rfl) (rP_f (b := (0, 0, 0)) (show (if isW (hb l (wlen k)) = true then (false, wlen k, 0, 0, 0) else (true, wlen k, 8, tv.toInt64, 0)) = _ from if_pos c1) ⟨_, _, _, _, _, _, (by decide), hC14⟩)
set_option maxRecDepth 100000 in
set_option maxHeartbeats 2000000 in
theorem cr_tr_l {X : ev_X} {c0 n z : Nat} (hS : XS X c0) {F0 : Nat → Option va_E} {t : List Nat} {k : Nat} (hk : k < 12) (tv : Int32) {s fp : Int32} {bd tl l : List Nat} {kr : Nat} {v : Int64} {F : Nat → Option va_E} (hC : CR c0 F0 t s v 0 bd tl 0 fp F) (hr : crw t bd kr l) : ∀ (m j : Nat) (hm : j + m = wlen k), Ex X m_Reader_readTruth 3 [.ref (c0 + 8), .ref (c0 + kr), .ref (X.2.1 k), .int tv, .int (nI j)] [] (hp c0 n z F) (rP c0 n z F0 t ((match sTl l k m j with | some j => (false, j, 0, 0, 0) | none => if isW (hb l (wlen k)) = true then (false, wlen k, 0, 0, 0) else (true, wlen k, 8, tv.toInt64, 0)) : Bool × Nat × Int32 × Int64 × Nat) (fun x F1 => CR c0 F0 t x.1 x.2.1 (nI x.2.2) bd tl 0 fp F1)) := by
  have hw := wlen_all k hk
  have hl := crw.le hC hr
  intro m
  induction m with
  | zero =>
    intro j hm
    refine Ex.nx rfl ?_
    refine Ex.nx rfl ?_
    refine Hx.scl hS hk lo_hp rfl rfl rfl rfl (hs_length hS lo_hp hk) ?_
    rintro v h1 ⟨rfl, rfl⟩
    show Ex X m_Reader_readTruth 9 [.ref (c0 + 8), .ref (c0 + kr), .ref (X.2.1 k), .int tv, .int (nI j)] [.int (nI (wlen k)), .int (nI j)] (hp c0 n _ _) _
    refine Ex.nx rfl ?_
    refine Ex.ite (fun c1 => ?_) (fun c1 => ?_)
    · replace c1 : (nI (wlen k)) ≤ (nI j) := of_decide_eq_true c1
      show Ex X m_Reader_readTruth 41 [.ref (c0 + 8), .ref (c0 + kr), .ref (X.2.1 k), .int tv, .int (nI j)] [] (hp c0 n _ _) _
      show Ex X m_Reader_readTruth 41 [.ref (c0 + 8), .ref (c0 + kr), .ref (X.2.1 k), .int tv, .int (nI j)] [] (hp c0 n _ _) _
      exact cr_tr_e hS hk tv hC hr _
    · replace c1 : ¬ (nI (wlen k)) ≤ (nI j) := of_decide_eq_false c1
      exact absurd (show nI (wlen k) ≤ nI j by rw [show j = wlen k by omega]; exact Int32.le_refl _) c1
  | succ m ih =>
    intro j hm
    refine Ex.nx rfl ?_
    refine Ex.nx rfl ?_
    refine Hx.scl hS hk lo_hp rfl rfl rfl rfl (hs_length hS lo_hp hk) ?_
    rintro v h1 ⟨rfl, rfl⟩
    show Ex X m_Reader_readTruth 9 [.ref (c0 + 8), .ref (c0 + kr), .ref (X.2.1 k), .int tv, .int (nI j)] [.int (nI (wlen k)), .int (nI j)] (hp c0 n _ _) _
    refine Ex.nx rfl ?_
    refine Ex.ite (fun c1 => ?_) (fun c1 => ?_)
    · replace c1 : (nI (wlen k)) ≤ (nI j) := of_decide_eq_true c1
      exact absurd ((nI_leI (by omega) (by omega)).mp c1) (by omega)
    · replace c1 : ¬ (nI (wlen k)) ≤ (nI j) := of_decide_eq_false c1
      show Ex X m_Reader_readTruth 12 [.ref (c0 + 8), .ref (c0 + kr), .ref (X.2.1 k), .int tv, .int (nI j)] [] (hp c0 n _ _) _
      refine Ex.nx rfl ?_
      refine Ex.nx rfl ?_
      refine CR.at (i := j) (A0 := []) hC hr (by omega) rfl rfl rfl ?_
      show Ex X m_Reader_readTruth 18 [.ref (c0 + 8), .ref (c0 + kr), .ref (X.2.1 k), .int tv, .int (nI j)] [.int (hb l j)] (hp c0 n _ _) _
      refine Ex.nx rfl ?_
      refine Ex.nx rfl ?_
      refine Hx.scl hS hk lo_hp rfl rfl rfl rfl (hs_char hS lo_hp hk (j := j) (by omega)) ?_
      rintro v h1 ⟨rfl, rfl⟩
      show Ex X m_Reader_readTruth 24 [.ref (c0 + 8), .ref (c0 + kr), .ref (X.2.1 k), .int tv, .int (nI j)] [.int (nI (wch k j)), .int (hb l j)] (hp c0 n _ _) _
      refine Ex.nx rfl ?_
      refine Ex.ite (fun c2 => ?_) (fun c2 => ?_)
      · replace c2 : (hb l j) = (nI (wch k j)) := of_decide_eq_true c2
        show Ex X m_Reader_readTruth 35 [.ref (c0 + 8), .ref (c0 + kr), .ref (X.2.1 k), .int tv, .int (nI j)] [] (hp c0 n _ _) _
        refine Ex.nx rfl ?_
        show Ex X m_Reader_readTruth 38 [.ref (c0 + 8), .ref (c0 + kr), .ref (X.2.1 k), .int tv, .int ((nI j) + 1)] [] (hp c0 n _ _) _
        refine Ex.nx rfl ?_
        show Ex X m_Reader_readTruth 3 [.ref (c0 + 8), .ref (c0 + kr), .ref (X.2.1 k), .int tv, .int ((nI j) + 1)] [] (hp c0 n _ _) _
        rw [show nI j + 1 = nI (j + 1) from nI_1 j, show sTl l k (m + 1) j = sTl l k m (j + 1) from if_pos c2]
        exact ih (j + 1) (by omega)
      · replace c2 : ¬ (hb l j) = (nI (wch k j)) := of_decide_eq_false c2
        show Ex X m_Reader_readTruth 27 [.ref (c0 + 8), .ref (c0 + kr), .ref (X.2.1 k), .int tv, .int (nI j)] [] (hp c0 n _ _) _
        refine Ex.nx rfl ?_
        refine Ex.nx rfl ?_
        refine Ex.nx rfl ?_
        refine CR.rd hC rfl rfl rfl rfl (cr_lacking (i := j) hC hr (by omega)) ?_
        rintro v h1 ⟨rfl, F15, rfl, hC15⟩
        show Ex X m_Reader_readTruth 34 [.ref (c0 + 8), .ref (c0 + kr), .ref (X.2.1 k), .int tv, .int (nI j)] [.int (-1)] (hp c0 n _ _) _
        exact Ex.ret rfl (ev_reti rfl) (rP_f (q := j) (b := (0, 0, 0)) (by rw [show sTl l k (m + 1) j = some j from if_neg c2]) ⟨_, _, _, _, _, _, lk_ne, hC15⟩)
set_option maxRecDepth 100000 in
set_option maxHeartbeats 2000000 in
theorem cr_truth {X : ev_X} {c0 n z : Nat} (hS : XS X c0) {F0 : Nat → Option va_E} {t : List Nat} {k : Nat} (hk : k < 12) (tv : Int32) {s fp : Int32} {bd tl l : List Nat} {kr : Nat} {v : Int64} {F : Nat → Option va_E} (hC : CR c0 F0 t s v 0 bd tl 0 fp F) (hr : crw t bd kr l) (h1k : 1 ≤ wlen k) : Ex X m_Reader_readTruth 0 [.ref (c0 + 8), .ref (c0 + kr), .ref (X.2.1 k), .int tv, ev_dead] [] (hp c0 n z F) (rP c0 n z F0 t (sTr l k tv) (fun x F1 => CR c0 F0 t x.1 x.2.1 (nI x.2.2) bd tl 0 fp F1)) := by
  refine Ex.nx rfl ?_
  refine Ex.nx rfl ?_
  show Ex X m_Reader_readTruth 3 [.ref (c0 + 8), .ref (c0 + kr), .ref (X.2.1 k), .int tv, .int 1] [] (hp c0 n _ _) _
  show Ex X m_Reader_readTruth 3 [.ref (c0 + 8), .ref (c0 + kr), .ref (X.2.1 k), .int tv, .int 1] [] (hp c0 n _ _) _
  exact cr_tr_l hS hk tv hC hr (wlen k - 1) 1 (by omega)
