/-! The class reads blanks and names. (rows laid by wip/whole/cr1.py) -/
theorem lk_ne {i n : Nat} : (if i < n then (3 : Int32) else 2) ≠ 0 := by split <;> decide
theorem hb_lt {t : List Nat} {q : Nat} (h : q < t.length) : hb t q = nI (t.getD q 0) := if_pos h
theorem hb_ge {t : List Nat} {q : Nat} (h : ¬ q < t.length) : hb t q = -1 := if_neg h
theorem hb_in {t : List Nat} {q : Nat} (h : hb t q ≠ -1) : q < t.length := by
  by_cases hq : q < t.length
  · exact hq
  · exact absurd (hb_ge hq) h
/-- the answer of a part of the reader: behind what it read, or a fault -/
def rP {α : Type} (c0 n z : Nat) (F0 : Nat → Option va_E) (t : List Nat) (o : Bool × Nat × α) (G : α → (Nat → Option va_E) → Prop) (r : Option Value) (h' : ev_H) : Prop := if o.1 = true then r = some (.int (nI o.2.1)) ∧ ∃ F1, h' = hp c0 n z F1 ∧ G o.2.2 F1 else r = some (.int (-1)) ∧ ∃ F1, h' = hp c0 n z F1 ∧ CE c0 F0 t o.2.1 F1
theorem rP_t {α : Type} {c0 n z : Nat} {F0 F1 : Nat → Option va_E} {t : List Nat} {o : Bool × Nat × α} {G : α → (Nat → Option va_E) → Prop} {q : Nat} {b : α} (e : o = (true, q, b)) (h : G b F1) : rP c0 n z F0 t o G (some (.int (nI q))) (hp c0 n z F1) := by
  subst e
  unfold rP
  rw [if_pos rfl]
  exact ⟨rfl, F1, rfl, h⟩
theorem rP_f {α : Type} {c0 n z : Nat} {F0 F1 : Nat → Option va_E} {t : List Nat} {o : Bool × Nat × α} {G : α → (Nat → Option va_E) → Prop} {q : Nat} {b : α} (e : o = (false, q, b)) (h : CE c0 F0 t q F1) : rP c0 n z F0 t o G (some (.int (-1))) (hp c0 n z F1) := by
  subst e
  unfold rP
  rw [if_neg Bool.false_ne_true]
  exact ⟨rfl, F1, rfl, h⟩
set_option maxRecDepth 100000 in
set_option maxHeartbeats 2000000 in
theorem cr_fail {X : ev_X} {c0 n z : Nat} {F0 : Nat → Option va_E} {t : List Nat} {s p ft fp : Int32} {nu : Int64} {bd tl : List Nat} {F : Nat → Option va_E} (hC : CR c0 F0 t s nu p bd tl ft fp F) (q w : Int32) : Ex X m_Reader_fail 0 [.ref (c0 + 8), .int q, .int w] [] (hp c0 n z F) (fun r h' => r = some (.int (-1)) ∧ ∃ F1, h' = hp c0 n z F1 ∧ CR c0 F0 t s nu p bd tl q w F1) := by
  refine Ex.nx rfl ?_
  refine Ex.nx rfl ?_
  refine CR.pf hC rfl ?_
  intro F1 hC1
  show Ex X m_Reader_fail 5 [.ref (c0 + 8), .int q, .int w] [] (hp c0 n _ _) _
  refine Ex.nx rfl ?_
  refine Ex.nx rfl ?_
  refine CR.pq hC1 rfl ?_
  intro F2 hC2
  show Ex X m_Reader_fail 10 [.ref (c0 + 8), .int q, .int w] [] (hp c0 n _ _) _
  refine Ex.nx rfl ?_
  exact Ex.ret rfl (ev_reti rfl) ⟨rfl, _, rfl, hC2⟩
set_option maxRecDepth 100000 in
set_option maxHeartbeats 2000000 in
theorem cr_lacking {X : ev_X} {c0 n z : Nat} {F0 : Nat → Option va_E} {t : List Nat} {s p ft fp : Int32} {nu : Int64} {bd tl : List Nat} {F : Nat → Option va_E} (hC : CR c0 F0 t s nu p bd tl ft fp F) {kr i : Nat} {l : List Nat} (hr : crw t bd kr l) (hi : i < 2 ^ 31) : Ex X m_Reader_lacking 0 [.ref (c0 + 8), .ref (c0 + kr), .int (nI i)] [] (hp c0 n z F) (fun r h' => r = some (.int (-1)) ∧ ∃ F1, h' = hp c0 n z F1 ∧ CR c0 F0 t s nu p bd tl (if i < l.length then 3 else 2) (nI i) F1) := by
  have hl := crw.le hC hr
  refine Ex.nx rfl ?_
  refine Ex.nx rfl ?_
  refine Ex.nx rfl ?_
  refine CR.sz hC hr rfl rfl rfl ?_
  show Ex X m_Reader_lacking 6 [.ref (c0 + 8), .ref (c0 + kr), .int (nI i)] [.int (nI l.length), .int (nI i), .ref (c0 + 8)] (hp c0 n _ _) _
  refine Ex.nx rfl ?_
  refine Ex.ite (fun c1 => ?_) (fun c1 => ?_)
  · replace c1 : (nI l.length) ≤ (nI i) := of_decide_eq_true c1
    show Ex X m_Reader_lacking 13 [.ref (c0 + 8), .ref (c0 + kr), .int (nI i)] [.ref (c0 + 8)] (hp c0 n _ _) _
    refine Ex.nx rfl ?_
    refine Ex.nx rfl ?_
    refine CR.rd hC rfl rfl rfl rfl (cr_fail hC 2 (nI i)) ?_
    rintro v h1 ⟨rfl, F3, rfl, hC3⟩
    show Ex X m_Reader_lacking 18 [.ref (c0 + 8), .ref (c0 + kr), .int (nI i)] [.int (-1)] (hp c0 n _ _) _
    exact Ex.ret rfl (ev_reti rfl) ⟨rfl, _, rfl, by rw [if_neg (show ¬ i < l.length by have := (nI_leI (by omega) (by omega)).mp c1; omega)]; exact hC3⟩
  · replace c1 : ¬ (nI l.length) ≤ (nI i) := of_decide_eq_false c1
    show Ex X m_Reader_lacking 9 [.ref (c0 + 8), .ref (c0 + kr), .int (nI i)] [.ref (c0 + 8)] (hp c0 n _ _) _
    refine Ex.nx rfl ?_
    refine Ex.nx rfl ?_
    refine Ex.nx rfl ?_
    refine CR.rd hC rfl rfl rfl rfl (cr_fail hC 3 (nI i)) ?_
    rintro v h1 ⟨rfl, F4, rfl, hC4⟩
    show Ex X m_Reader_lacking 18 [.ref (c0 + 8), .ref (c0 + kr), .int (nI i)] [.int (-1)] (hp c0 n _ _) _
    exact Ex.ret rfl (ev_reti rfl) ⟨rfl, _, rfl, by rw [if_pos (Nat.lt_of_not_le (fun q => c1 ((nI_leI (by omega) (by omega)).mpr q)))]; exact hC4⟩
/-- a blank's word bytes from q on -/
def sB (t : List Nat) : Nat → Nat → List Nat → Bool × Nat × List Nat
  | 0, q, acc => (true, q, acc)
  | m + 1, q, acc => if isW (hb t q) = true then (if acc.length = 60 then (false, q, acc) else sB t m (q + 1) (acc ++ [t.getD q 0])) else (true, q, acc)
def bkF (o : Bool × Nat × List Nat) : Bool × Nat × List Nat := if o.1 = true ∧ o.2.1 = 2 then (false, o.2.1, []) else o
def sBk (t : List Nat) : Bool × Nat × List Nat := if hb t 1 = 58 then bkF (sB t (t.length - 2) 2 []) else (false, 1, [])
set_option maxRecDepth 100000 in
set_option maxHeartbeats 2000000 in
theorem cr_bk_t {X : ev_X} {c0 n z : Nat} {F0 : Nat → Option va_E} {t : List Nat} {p fp : Int32} {nu : Int64} {tl acc : List Nat} {F : Nat → Option va_E} {q : Nat} (hq : q ≤ 240) (hC : CR c0 F0 t 1 nu p acc tl 0 fp F) : Ex X m_Reader_readBlank 89 [.ref (c0 + 8), .ref (c0 + 1), .int (nI q)] [] (hp c0 n z F) (rP c0 n z F0 t (bkF (true, q, acc)) (fun b F1 => CR c0 F0 t 1 nu p b tl 0 fp F1)) := by
  refine Ex.nx rfl ?_
  refine Ex.nx rfl ?_
  refine Ex.nx rfl ?_
  refine Ex.ite (fun c1 => ?_) (fun c1 => ?_)
  · replace c1 : ¬ (nI q) = 2 := of_decide_eq_true c1
    show Ex X m_Reader_readBlank 103 [.ref (c0 + 8), .ref (c0 + 1), .int (nI q)] [] (hp c0 n _ _) _
    refine Ex.nx rfl ?_
    exact Ex.ret rfl (ev_reti rfl) (rP_t (show bkF (true, q, acc) = (true, q, acc) from if_neg (fun h => c1 (by rw [show q = 2 from h.2]; rfl))) hC)
  · replace c1 : (nI q) = 2 := Classical.not_not.mp (of_decide_eq_false c1)
    show Ex X m_Reader_readBlank 94 [.ref (c0 + 8), .ref (c0 + 1), .int (nI q)] [] (hp c0 n _ _) _
    refine Ex.nx rfl ?_
    refine Ex.nx rfl ?_
    refine Ex.nx rfl ?_
    refine CR.rd hC rfl rfl rfl rfl (cr_lacking (i := q) hC (Or.inl ⟨rfl, rfl⟩) (by omega)) ?_
    rintro v h1 ⟨rfl, F5, rfl, hC5⟩
    show Ex X m_Reader_readBlank 100 [.ref (c0 + 8), .ref (c0 + 1), .int (nI q)] [.int (-1)] (hp c0 n _ _) _
    refine Ex.nx rfl ?_
    exact Ex.ret rfl (ev_reti rfl) (rP_f (show bkF (true, q, acc) = (false, q, []) from if_pos ⟨rfl, (nI_eq (a := q) (b := 2) (by omega) (by decide)).mp c1⟩) ⟨_, _, _, _, _, _, lk_ne, hC5⟩)
set_option maxRecDepth 100000 in
set_option maxHeartbeats 2000000 in
theorem cr_bk_l {X : ev_X} {c0 n z : Nat} {F0 : Nat → Option va_E} {t : List Nat} {p fp : Int32} {nu : Int64} {tl : List Nat} : ∀ (m q : Nat) (acc : List Nat) (F : Nat → Option va_E) (hm : q + m = t.length) (ha : acc.length ≤ 60) (hC : CR c0 F0 t 1 nu p acc tl 0 fp F), Ex X m_Reader_readBlank 27 [.ref (c0 + 8), .ref (c0 + 1), .int (nI q)] [] (hp c0 n z F) (rP c0 n z F0 t (bkF (sB t m q acc)) (fun b F1 => CR c0 F0 t 1 nu p b tl 0 fp F1)) := by
  intro m
  induction m with
  | zero =>
    intro q acc F hm ha hC
    have hl := hC.rt.le
    show Ex X m_Reader_readBlank 27 _ _ _ (rP c0 n z F0 t (bkF (true, q, acc)) _)
    refine Ex.nx rfl ?_
    refine Ex.nx rfl ?_
    refine CR.sz hC (Or.inl ⟨rfl, rfl⟩) rfl rfl rfl ?_
    show Ex X m_Reader_readBlank 32 [.ref (c0 + 8), .ref (c0 + 1), .int (nI q)] [.int (nI t.length), .int (nI q)] (hp c0 n _ _) _
    refine Ex.nx rfl ?_
    refine Ex.ite (fun c1 => ?_) (fun c1 => ?_)
    · replace c1 : (nI t.length) ≤ (nI q) := of_decide_eq_true c1
      show Ex X m_Reader_readBlank 89 [.ref (c0 + 8), .ref (c0 + 1), .int (nI q)] [] (hp c0 n _ _) _
      show Ex X m_Reader_readBlank 89 [.ref (c0 + 8), .ref (c0 + 1), .int (nI q)] [] (hp c0 n _ _) _
      exact cr_bk_t (by omega) hC
    · replace c1 : ¬ (nI t.length) ≤ (nI q) := of_decide_eq_false c1
      exact absurd (show nI t.length ≤ nI q by rw [show q = t.length by omega]; exact Int32.le_refl _) c1
  | succ m ih =>
    intro q acc F hm ha hC
    have hl := hC.rt.le
    refine Ex.nx rfl ?_
    refine Ex.nx rfl ?_
    refine CR.sz hC (Or.inl ⟨rfl, rfl⟩) rfl rfl rfl ?_
    show Ex X m_Reader_readBlank 32 [.ref (c0 + 8), .ref (c0 + 1), .int (nI q)] [.int (nI t.length), .int (nI q)] (hp c0 n _ _) _
    refine Ex.nx rfl ?_
    refine Ex.ite (fun c1 => ?_) (fun c1 => ?_)
    · replace c1 : (nI t.length) ≤ (nI q) := of_decide_eq_true c1
      exact absurd ((nI_leI (by omega) (by omega)).mp c1) (by omega)
    · replace c1 : ¬ (nI t.length) ≤ (nI q) := of_decide_eq_false c1
      show Ex X m_Reader_readBlank 35 [.ref (c0 + 8), .ref (c0 + 1), .int (nI q)] [] (hp c0 n _ _) _
      refine Ex.nx rfl ?_
      refine Ex.nx rfl ?_
      refine CR.at (i := q) (A0 := []) hC (Or.inl ⟨rfl, rfl⟩) (by omega) rfl rfl rfl ?_
      show Ex X m_Reader_readBlank 40 [.ref (c0 + 8), .ref (c0 + 1), .int (nI q)] [.int (hb t q)] (hp c0 n _ _) _
      refine Hx.calls rfl rfl rfl rfl (sx_Reader_isW X (hb t q)) (fun v hv => ?_)
      subst hv
      show Ex X m_Reader_readBlank 43 [.ref (c0 + 8), .ref (c0 + 1), .int (nI q)] [.int (bi (isW (hb t q)))] (hp c0 n _ _) _
      refine Ex.nx rfl ?_
      refine Ex.ite (fun c2 => ?_) (fun c2 => ?_)
      · replace c2 : (isW (hb t q)) = false := bi_eqt c2
        show Ex X m_Reader_readBlank 89 [.ref (c0 + 8), .ref (c0 + 1), .int (nI q)] [] (hp c0 n _ _) _
        show Ex X m_Reader_readBlank 89 [.ref (c0 + 8), .ref (c0 + 1), .int (nI q)] [] (hp c0 n _ _) _
        rw [show sB t (m + 1) q acc = (true, q, acc) from if_neg (by rw [c2]; decide)]
        exact cr_bk_t (by omega) hC
      · replace c2 : (isW (hb t q)) = true := bi_eqf c2
        show Ex X m_Reader_readBlank 46 [.ref (c0 + 8), .ref (c0 + 1), .int (nI q)] [] (hp c0 n _ _) _
        refine Ex.nx rfl ?_
        refine Hx.get 8 rfl hC.r8 rfl ?_
        refine Hx.get 3 rfl hC.r3 rfl ?_
        refine CR.sz hC (Or.inr ⟨rfl, rfl⟩) rfl rfl rfl ?_
        show Ex X m_Reader_readBlank 56 [.ref (c0 + 8), .ref (c0 + 1), .int (nI q)] [.int (nI acc.length)] (hp c0 n _ _) _
        refine Ex.nx rfl ?_
        refine Ex.nx rfl ?_
        refine Ex.ite (fun c3 => ?_) (fun c3 => ?_)
        · replace c3 : ¬ (nI acc.length) = 60 := of_decide_eq_true c3
          show Ex X m_Reader_readBlank 68 [.ref (c0 + 8), .ref (c0 + 1), .int (nI q)] [] (hp c0 n _ _) _
          refine Ex.nx rfl ?_
          refine Hx.get 8 rfl hC.r8 rfl ?_
          refine Hx.get 3 rfl hC.r3 rfl ?_
          refine Ex.nx rfl ?_
          refine Ex.nx rfl ?_
          refine CR.at (i := q) (A0 := []) hC (Or.inl ⟨rfl, rfl⟩) (by omega) rfl rfl rfl ?_
          show Ex X m_Reader_readBlank 80 [.ref (c0 + 8), .ref (c0 + 1), .int (nI q)] [.int (hb t q), .ref (c0 + 4)] (hp c0 n _ _) _
          refine Hx.top (y := nI (t.getD q 0)) (hb_lt (by omega)) ?_
          refine CR.adb (d := (t.getD q 0)) hC (hC.rt.by q) (by have : acc.length ≠ 60 := fun e => c3 (by rw [e]; rfl); omega) rfl rfl ?_
          intro F6 hC6
          show Ex X m_Reader_readBlank 83 [.ref (c0 + 8), .ref (c0 + 1), .int (nI q)] [] (hp c0 n _ _) _
          refine Ex.nx rfl ?_
          show Ex X m_Reader_readBlank 86 [.ref (c0 + 8), .ref (c0 + 1), .int ((nI q) + 1)] [] (hp c0 n _ _) _
          refine Ex.nx rfl ?_
          show Ex X m_Reader_readBlank 27 [.ref (c0 + 8), .ref (c0 + 1), .int ((nI q) + 1)] [] (hp c0 n _ _) _
          rw [show nI q + 1 = nI (q + 1) from nI_1 q, show sB t (m + 1) q acc = sB t m (q + 1) (acc ++ [t.getD q 0]) from (if_pos c2).trans (if_neg (fun e => c3 (by rw [e]; rfl)))]
          exact ih (q + 1) _ _ (by omega) (by have : acc.length ≠ 60 := fun e => c3 (by rw [e]; rfl); simp only [List.length_append, List.length_cons, List.length_nil]; omega) hC6
        · replace c3 : (nI acc.length) = 60 := Classical.not_not.mp (of_decide_eq_false c3)
          show Ex X m_Reader_readBlank 61 [.ref (c0 + 8), .ref (c0 + 1), .int (nI q)] [] (hp c0 n _ _) _
          refine Ex.nx rfl ?_
          refine Ex.nx rfl ?_
          refine Ex.nx rfl ?_
          refine CR.rd hC rfl rfl rfl rfl (cr_fail hC 4 (nI q)) ?_
          rintro v h1 ⟨rfl, F7, rfl, hC7⟩
          show Ex X m_Reader_readBlank 67 [.ref (c0 + 8), .ref (c0 + 1), .int (nI q)] [.int (-1)] (hp c0 n _ _) _
          exact Ex.ret rfl (ev_reti rfl) (rP_f (show bkF (sB t (m + 1) q acc) = (false, q, acc) by rw [show sB t (m + 1) q acc = (false, q, acc) from (if_pos c2).trans (if_pos ((nI_eq (b := 60) (by omega) (by decide)).mp c3))]; rfl) ⟨_, _, _, _, _, _, (by decide), hC7⟩)
set_option maxRecDepth 100000 in
set_option maxHeartbeats 2000000 in
theorem cr_blank {X : ev_X} {c0 n z : Nat} {F0 : Nat → Option va_E} {t : List Nat} {s p fp : Int32} {nu : Int64} {tl : List Nat} {F : Nat → Option va_E} (hC : CR c0 F0 t s nu p [] tl 0 fp F) : Ex X m_Reader_readBlank 0 [.ref (c0 + 8), .ref (c0 + 1), ev_dead] [] (hp c0 n z F) (rP c0 n z F0 t (sBk t) (fun b F1 => CR c0 F0 t 1 nu p b tl 0 fp F1)) := by
  refine Ex.nx rfl ?_
  refine Hx.get 8 rfl hC.r8 rfl ?_
  refine Ex.nx rfl ?_
  refine CR.ps hC rfl ?_
  intro F8 hC8
  show Ex X m_Reader_readBlank 8 [.ref (c0 + 8), .ref (c0 + 1), ev_dead] [] (hp c0 n _ _) _
  refine Ex.nx rfl ?_
  refine Ex.nx rfl ?_
  refine CR.at (i := 1) (A0 := []) hC8 (Or.inl ⟨rfl, rfl⟩) (by omega) rfl rfl rfl ?_
  show Ex X m_Reader_readBlank 13 [.ref (c0 + 8), .ref (c0 + 1), ev_dead] [.int (hb t 1)] (hp c0 n _ _) _
  refine Ex.nx rfl ?_
  refine Ex.nx rfl ?_
  refine Ex.ite (fun c1 => ?_) (fun c1 => ?_)
  · replace c1 : (hb t 1) = 58 := of_decide_eq_true c1
    show Ex X m_Reader_readBlank 25 [.ref (c0 + 8), .ref (c0 + 1), ev_dead] [] (hp c0 n _ _) _
    refine Ex.nx rfl ?_
    refine Ex.nx rfl ?_
    show Ex X m_Reader_readBlank 27 [.ref (c0 + 8), .ref (c0 + 1), .int 2] [] (hp c0 n _ _) _
    show Ex X m_Reader_readBlank 27 [.ref (c0 + 8), .ref (c0 + 1), .int 2] [] (hp c0 n _ _) _
    have h1 := hb_in (t := t) (q := 1) (by rw [c1]; decide)
    rw [show sBk t = bkF (sB t (t.length - 2) 2 []) from if_pos c1]
    exact cr_bk_l (t.length - 2) 2 [] _ (by omega) (by decide) hC8
  · replace c1 : ¬ (hb t 1) = 58 := of_decide_eq_false c1
    show Ex X m_Reader_readBlank 18 [.ref (c0 + 8), .ref (c0 + 1), ev_dead] [] (hp c0 n _ _) _
    refine Ex.nx rfl ?_
    refine Ex.nx rfl ?_
    refine Ex.nx rfl ?_
    refine CR.rd hC8 rfl rfl rfl rfl (cr_lacking (i := 1) hC8 (Or.inl ⟨rfl, rfl⟩) (by omega)) ?_
    rintro v h1 ⟨rfl, F9, rfl, hC9⟩
    show Ex X m_Reader_readBlank 24 [.ref (c0 + 8), .ref (c0 + 1), ev_dead] [.int (-1)] (hp c0 n _ _) _
    exact Ex.ret rfl (ev_reti rfl) (rP_f (show sBk t = (false, 1, []) from if_neg c1) ⟨_, _, _, _, _, _, lk_ne, hC9⟩)
/-- a name's bytes from q on -/
def sNm (t : List Nat) : Nat → Nat → List Nat → Bool × Nat × List Nat
  | 0, _, acc => (false, t.length, acc)
  | m + 1, q, acc => if hb t q = 62 ∧ acc.length ≠ 0 then (true, q + 1, acc) else if acc.length = 60 then (false, q, acc) else if isNB (hb t q) = true then sNm t m (q + 1) (acc ++ [t.getD q 0]) else (false, q, acc)
def sNa (t : List Nat) (q : Nat) : Bool × Nat × List Nat := if hb t q = 60 then sNm t (t.length - (q + 1)) (q + 1) [] else (false, q, [])
set_option maxRecDepth 100000 in
set_option maxHeartbeats 2000000 in
theorem cr_nm_l4 {X : ev_X} {c0 n z : Nat} {F0 : Nat → Option va_E} {t : List Nat} {s p fp : Int32} {nu : Int64} {tl : List Nat} (sv : Int32) : ∀ (m q : Nat) (acc : List Nat) (F : Nat → Option va_E) (bv : Value) (hm : q + m = t.length) (ha : acc.length ≤ 60) (hC : CR c0 F0 t s nu p acc tl 0 fp F), Ex X m_Reader_readName 22 [.ref (c0 + 8), .ref (c0 + 1), .int sv, .ref (c0 + 4), .int (nI q), bv] [] (hp c0 n z F) (rP c0 n z F0 t (sNm t m q acc) (fun b F1 => CR c0 F0 t s nu p b tl 0 fp F1)) := by
  intro m
  induction m with
  | zero =>
    intro q acc F bv hm ha hC
    have hl := hC.rt.le
    refine Ex.nx rfl ?_
    refine Ex.nx rfl ?_
    refine CR.sz hC (Or.inl ⟨rfl, rfl⟩) rfl rfl rfl ?_
    show Ex X m_Reader_readName 28 [.ref (c0 + 8), .ref (c0 + 1), .int sv, .ref (c0 + 4), .int (nI q), bv] [.int (nI t.length), .int (nI q)] (hp c0 n _ _) _
    refine Ex.nx rfl ?_
    refine Ex.ite (fun c1 => ?_) (fun c1 => ?_)
    · replace c1 : (nI t.length) ≤ (nI q) := of_decide_eq_true c1
      show Ex X m_Reader_readName 103 [.ref (c0 + 8), .ref (c0 + 1), .int sv, .ref (c0 + 4), .int (nI q), bv] [] (hp c0 n _ _) _
      refine Ex.nx rfl ?_
      refine Ex.nx rfl ?_
      refine Ex.nx rfl ?_
      refine CR.sz hC (Or.inl ⟨rfl, rfl⟩) rfl rfl rfl ?_
      show Ex X m_Reader_readName 109 [.ref (c0 + 8), .ref (c0 + 1), .int sv, .ref (c0 + 4), .int (nI q), bv] [.int (nI t.length), .int 2, .ref (c0 + 8)] (hp c0 n _ _) _
      refine CR.rd hC rfl rfl rfl rfl (cr_fail hC 2 (nI t.length)) ?_
      rintro v h1 ⟨rfl, F10, rfl, hC10⟩
      show Ex X m_Reader_readName 112 [.ref (c0 + 8), .ref (c0 + 1), .int sv, .ref (c0 + 4), .int (nI q), bv] [.int (-1)] (hp c0 n _ _) _
      exact Ex.ret rfl (ev_reti rfl) (rP_f (q := t.length) (b := acc) rfl ⟨_, _, _, _, _, _, (by decide), hC10⟩)
    · replace c1 : ¬ (nI t.length) ≤ (nI q) := of_decide_eq_false c1
      exact absurd (show nI t.length ≤ nI q by rw [show q = t.length by omega]; exact Int32.le_refl _) c1
  | succ m ih =>
    intro q acc F bv hm ha hC
    have hl := hC.rt.le
    refine Ex.nx rfl ?_
    refine Ex.nx rfl ?_
    refine CR.sz hC (Or.inl ⟨rfl, rfl⟩) rfl rfl rfl ?_
    show Ex X m_Reader_readName 28 [.ref (c0 + 8), .ref (c0 + 1), .int sv, .ref (c0 + 4), .int (nI q), bv] [.int (nI t.length), .int (nI q)] (hp c0 n _ _) _
    refine Ex.nx rfl ?_
    refine Ex.ite (fun c1 => ?_) (fun c1 => ?_)
    · replace c1 : (nI t.length) ≤ (nI q) := of_decide_eq_true c1
      exact absurd ((nI_leI (by omega) (by omega)).mp c1) (by omega)
    · replace c1 : ¬ (nI t.length) ≤ (nI q) := of_decide_eq_false c1
      show Ex X m_Reader_readName 31 [.ref (c0 + 8), .ref (c0 + 1), .int sv, .ref (c0 + 4), .int (nI q), bv] [] (hp c0 n _ _) _
      refine Ex.nx rfl ?_
      refine Ex.nx rfl ?_
      refine CR.at (i := q) (A0 := []) hC (Or.inl ⟨rfl, rfl⟩) (by omega) rfl rfl rfl ?_
      show Ex X m_Reader_readName 37 [.ref (c0 + 8), .ref (c0 + 1), .int sv, .ref (c0 + 4), .int (nI q), bv] [.int (hb t q)] (hp c0 n _ _) _
      refine Ex.nx rfl ?_
      show Ex X m_Reader_readName 39 [.ref (c0 + 8), .ref (c0 + 1), .int sv, .ref (c0 + 4), .int (nI q), .int (hb t q)] [] (hp c0 n _ _) _
      refine Ex.nx rfl ?_
      refine Ex.nx rfl ?_
      refine Ex.nx rfl ?_
      refine Ex.ite (fun c2 => ?_) (fun c2 => ?_)
      · replace c2 : ¬ (hb t q) = 62 := of_decide_eq_true c2
        show Ex X m_Reader_readName 58 [.ref (c0 + 8), .ref (c0 + 1), .int sv, .ref (c0 + 4), .int (nI q), .int (hb t q)] [] (hp c0 n _ _) _
        refine Ex.nx rfl ?_
        refine CR.sz hC (Or.inr ⟨rfl, rfl⟩) rfl rfl rfl ?_
        show Ex X m_Reader_readName 62 [.ref (c0 + 8), .ref (c0 + 1), .int sv, .ref (c0 + 4), .int (nI q), .int (hb t q)] [.int (nI acc.length)] (hp c0 n _ _) _
        refine Ex.nx rfl ?_
        refine Ex.nx rfl ?_
        refine Ex.ite (fun c3 => ?_) (fun c3 => ?_)
        · replace c3 : ¬ (nI acc.length) = 60 := of_decide_eq_true c3
          show Ex X m_Reader_readName 75 [.ref (c0 + 8), .ref (c0 + 1), .int sv, .ref (c0 + 4), .int (nI q), .int (hb t q)] [] (hp c0 n _ _) _
          refine Ex.nx rfl ?_
          refine Hx.calls rfl rfl rfl rfl (sx_Reader_isNB X (hb t q)) (fun v hv => ?_)
          subst hv
          show Ex X m_Reader_readName 80 [.ref (c0 + 8), .ref (c0 + 1), .int sv, .ref (c0 + 4), .int (nI q), .int (hb t q)] [.int (bi (isNB (hb t q)))] (hp c0 n _ _) _
          refine Ex.nx rfl ?_
          refine Ex.ite (fun c4 => ?_) (fun c4 => ?_)
          · replace c4 : (isNB (hb t q)) = true := bi_net c4
            show Ex X m_Reader_readName 91 [.ref (c0 + 8), .ref (c0 + 1), .int sv, .ref (c0 + 4), .int (nI q), .int (hb t q)] [] (hp c0 n _ _) _
            refine Ex.nx rfl ?_
            refine Ex.nx rfl ?_
            refine Hx.top (y := nI (t.getD q 0)) (hb_lt (by omega)) ?_
            refine CR.adb (d := (t.getD q 0)) hC (hC.rt.by q) (by have : acc.length ≠ 60 := fun e => c3 (by rw [e]; rfl); omega) rfl rfl ?_
            intro F11 hC11
            show Ex X m_Reader_readName 97 [.ref (c0 + 8), .ref (c0 + 1), .int sv, .ref (c0 + 4), .int (nI q), .int (hb t q)] [] (hp c0 n _ _) _
            refine Ex.nx rfl ?_
            show Ex X m_Reader_readName 100 [.ref (c0 + 8), .ref (c0 + 1), .int sv, .ref (c0 + 4), .int ((nI q) + 1), .int (hb t q)] [] (hp c0 n _ _) _
            refine Ex.nx rfl ?_
            show Ex X m_Reader_readName 22 [.ref (c0 + 8), .ref (c0 + 1), .int sv, .ref (c0 + 4), .int ((nI q) + 1), .int (hb t q)] [] (hp c0 n _ _) _
            rw [show nI q + 1 = nI (q + 1) from nI_1 q, show sNm t (m + 1) q acc = sNm t m (q + 1) (acc ++ [t.getD q 0]) from (if_neg (fun h => c2 h.1)).trans ((if_neg (fun e => c3 (by rw [e]; rfl))).trans (if_pos c4))]
            exact ih (q + 1) _ _ _ (by omega) (by have : acc.length ≠ 60 := fun e => c3 (by rw [e]; rfl); simp only [List.length_append, List.length_cons, List.length_nil]; omega) hC11
          · replace c4 : (isNB (hb t q)) = false := bi_nef c4
            show Ex X m_Reader_readName 83 [.ref (c0 + 8), .ref (c0 + 1), .int sv, .ref (c0 + 4), .int (nI q), .int (hb t q)] [] (hp c0 n _ _) _
            refine Ex.nx rfl ?_
            refine Ex.nx rfl ?_
            refine Ex.nx rfl ?_
            refine CR.rd hC rfl rfl rfl rfl (cr_fail hC 3 (nI q)) ?_
            rintro v h1 ⟨rfl, F12, rfl, hC12⟩
            show Ex X m_Reader_readName 90 [.ref (c0 + 8), .ref (c0 + 1), .int sv, .ref (c0 + 4), .int (nI q), .int (hb t q)] [.int (-1)] (hp c0 n _ _) _
            exact Ex.ret rfl (ev_reti rfl) (rP_f (show sNm t (m + 1) q acc = (false, q, acc) from (if_neg (fun h => c2 h.1)).trans ((if_neg (fun e => c3 (by rw [e]; rfl))).trans (if_neg (by rw [c4]; decide)))) ⟨_, _, _, _, _, _, (by decide), hC12⟩)
        · replace c3 : (nI acc.length) = 60 := Classical.not_not.mp (of_decide_eq_false c3)
          show Ex X m_Reader_readName 67 [.ref (c0 + 8), .ref (c0 + 1), .int sv, .ref (c0 + 4), .int (nI q), .int (hb t q)] [] (hp c0 n _ _) _
          refine Ex.nx rfl ?_
          refine Ex.nx rfl ?_
          refine Ex.nx rfl ?_
          refine CR.rd hC rfl rfl rfl rfl (cr_fail hC 4 (nI q)) ?_
          rintro v h1 ⟨rfl, F13, rfl, hC13⟩
          show Ex X m_Reader_readName 74 [.ref (c0 + 8), .ref (c0 + 1), .int sv, .ref (c0 + 4), .int (nI q), .int (hb t q)] [.int (-1)] (hp c0 n _ _) _
          exact Ex.ret rfl (ev_reti rfl) (rP_f (show sNm t (m + 1) q acc = (false, q, acc) from (if_neg (fun h => c2 h.1)).trans (if_pos ((nI_eq (b := 60) (by omega) (by decide)).mp c3))) ⟨_, _, _, _, _, _, (by decide), hC13⟩)
      · replace c2 : (hb t q) = 62 := Classical.not_not.mp (of_decide_eq_false c2)
        show Ex X m_Reader_readName 46 [.ref (c0 + 8), .ref (c0 + 1), .int sv, .ref (c0 + 4), .int (nI q), .int (hb t q)] [] (hp c0 n _ _) _
        refine Ex.nx rfl ?_
        refine CR.sz hC (Or.inr ⟨rfl, rfl⟩) rfl rfl rfl ?_
        show Ex X m_Reader_readName 50 [.ref (c0 + 8), .ref (c0 + 1), .int sv, .ref (c0 + 4), .int (nI q), .int (hb t q)] [.int (nI acc.length)] (hp c0 n _ _) _
        refine Ex.nx rfl ?_
        refine Ex.ite (fun c5 => ?_) (fun c5 => ?_)
        · replace c5 : (nI acc.length) ≤ 0 := of_decide_eq_true c5
          show Ex X m_Reader_readName 58 [.ref (c0 + 8), .ref (c0 + 1), .int sv, .ref (c0 + 4), .int (nI q), .int (hb t q)] [] (hp c0 n _ _) _
          refine Ex.nx rfl ?_
          refine CR.sz hC (Or.inr ⟨rfl, rfl⟩) rfl rfl rfl ?_
          show Ex X m_Reader_readName 62 [.ref (c0 + 8), .ref (c0 + 1), .int sv, .ref (c0 + 4), .int (nI q), .int (hb t q)] [.int (nI acc.length)] (hp c0 n _ _) _
          refine Ex.nx rfl ?_
          refine Ex.nx rfl ?_
          refine Ex.ite (fun c6 => ?_) (fun c6 => ?_)
          · replace c6 : ¬ (nI acc.length) = 60 := of_decide_eq_true c6
            show Ex X m_Reader_readName 75 [.ref (c0 + 8), .ref (c0 + 1), .int sv, .ref (c0 + 4), .int (nI q), .int (hb t q)] [] (hp c0 n _ _) _
            refine Ex.nx rfl ?_
            refine Hx.calls rfl rfl rfl rfl (sx_Reader_isNB X (hb t q)) (fun v hv => ?_)
            subst hv
            show Ex X m_Reader_readName 80 [.ref (c0 + 8), .ref (c0 + 1), .int sv, .ref (c0 + 4), .int (nI q), .int (hb t q)] [.int (bi (isNB (hb t q)))] (hp c0 n _ _) _
            refine Ex.nx rfl ?_
            refine Ex.ite (fun c7 => ?_) (fun c7 => ?_)
            · replace c7 : (isNB (hb t q)) = true := bi_net c7
              show Ex X m_Reader_readName 91 [.ref (c0 + 8), .ref (c0 + 1), .int sv, .ref (c0 + 4), .int (nI q), .int (hb t q)] [] (hp c0 n _ _) _
              refine Ex.nx rfl ?_
              refine Ex.nx rfl ?_
              refine Hx.top (y := nI (t.getD q 0)) (hb_lt (by omega)) ?_
              refine CR.adb (d := (t.getD q 0)) hC (hC.rt.by q) (by have : acc.length ≠ 60 := fun e => c6 (by rw [e]; rfl); omega) rfl rfl ?_
              intro F14 hC14
              show Ex X m_Reader_readName 97 [.ref (c0 + 8), .ref (c0 + 1), .int sv, .ref (c0 + 4), .int (nI q), .int (hb t q)] [] (hp c0 n _ _) _
              refine Ex.nx rfl ?_
              show Ex X m_Reader_readName 100 [.ref (c0 + 8), .ref (c0 + 1), .int sv, .ref (c0 + 4), .int ((nI q) + 1), .int (hb t q)] [] (hp c0 n _ _) _
              refine Ex.nx rfl ?_
              show Ex X m_Reader_readName 22 [.ref (c0 + 8), .ref (c0 + 1), .int sv, .ref (c0 + 4), .int ((nI q) + 1), .int (hb t q)] [] (hp c0 n _ _) _
              rw [show nI q + 1 = nI (q + 1) from nI_1 q, show sNm t (m + 1) q acc = sNm t m (q + 1) (acc ++ [t.getD q 0]) from (if_neg (fun h => h.2 (by have := (nI_leI (b := 0) (by omega) (by decide)).mp c5; omega))).trans ((if_neg (fun e => c6 (by rw [e]; rfl))).trans (if_pos c7))]
              exact ih (q + 1) _ _ _ (by omega) (by have : acc.length ≠ 60 := fun e => c6 (by rw [e]; rfl); simp only [List.length_append, List.length_cons, List.length_nil]; omega) hC14
            · replace c7 : (isNB (hb t q)) = false := bi_nef c7
              show Ex X m_Reader_readName 83 [.ref (c0 + 8), .ref (c0 + 1), .int sv, .ref (c0 + 4), .int (nI q), .int (hb t q)] [] (hp c0 n _ _) _
              refine Ex.nx rfl ?_
              refine Ex.nx rfl ?_
              refine Ex.nx rfl ?_
              refine CR.rd hC rfl rfl rfl rfl (cr_fail hC 3 (nI q)) ?_
              rintro v h1 ⟨rfl, F15, rfl, hC15⟩
              show Ex X m_Reader_readName 90 [.ref (c0 + 8), .ref (c0 + 1), .int sv, .ref (c0 + 4), .int (nI q), .int (hb t q)] [.int (-1)] (hp c0 n _ _) _
              exact Ex.ret rfl (ev_reti rfl) (rP_f (show sNm t (m + 1) q acc = (false, q, acc) from (if_neg (fun h => h.2 (by have := (nI_leI (b := 0) (by omega) (by decide)).mp c5; omega))).trans ((if_neg (fun e => c6 (by rw [e]; rfl))).trans (if_neg (by rw [c7]; decide)))) ⟨_, _, _, _, _, _, (by decide), hC15⟩)
          · replace c6 : (nI acc.length) = 60 := Classical.not_not.mp (of_decide_eq_false c6)
            show Ex X m_Reader_readName 67 [.ref (c0 + 8), .ref (c0 + 1), .int sv, .ref (c0 + 4), .int (nI q), .int (hb t q)] [] (hp c0 n _ _) _
            refine Ex.nx rfl ?_
            refine Ex.nx rfl ?_
            refine Ex.nx rfl ?_
            refine CR.rd hC rfl rfl rfl rfl (cr_fail hC 4 (nI q)) ?_
            rintro v h1 ⟨rfl, F16, rfl, hC16⟩
            show Ex X m_Reader_readName 74 [.ref (c0 + 8), .ref (c0 + 1), .int sv, .ref (c0 + 4), .int (nI q), .int (hb t q)] [.int (-1)] (hp c0 n _ _) _
            exact Ex.ret rfl (ev_reti rfl) (rP_f (show sNm t (m + 1) q acc = (false, q, acc) from (if_neg (fun h => h.2 (by have := (nI_leI (b := 0) (by omega) (by decide)).mp c5; omega))).trans (if_pos ((nI_eq (b := 60) (by omega) (by decide)).mp c6))) ⟨_, _, _, _, _, _, (by decide), hC16⟩)
        · replace c5 : ¬ (nI acc.length) ≤ 0 := of_decide_eq_false c5
          show Ex X m_Reader_readName 53 [.ref (c0 + 8), .ref (c0 + 1), .int sv, .ref (c0 + 4), .int (nI q), .int (hb t q)] [] (hp c0 n _ _) _
          refine Ex.nx rfl ?_
          refine Ex.nx rfl ?_
          refine Ex.nx rfl ?_
          refine Hx.top (y := nI (q + 1)) (nI_1 q) ?_
          exact Ex.ret rfl (ev_reti rfl) (rP_t (show sNm t (m + 1) q acc = (true, q + 1, acc) from if_pos ⟨c2, fun e => c5 (by rw [e]; decide)⟩) hC)
set_option maxRecDepth 100000 in
set_option maxHeartbeats 2000000 in
theorem cr_name4 {X : ev_X} {c0 n z : Nat} {F0 : Nat → Option va_E} {t : List Nat} {s p fp : Int32} {nu : Int64} {tl : List Nat} {F : Nat → Option va_E} {q : Nat} (hq : q ≤ 1000) (hC : CR c0 F0 t s nu p ([]) tl 0 fp F) : Ex X m_Reader_readName 0 [.ref (c0 + 8), .ref (c0 + 1), .int (nI q), .ref (c0 + 4), ev_dead, ev_dead] [] (hp c0 n z F) (rP c0 n z F0 t (sNa t q) (fun b F1 => CR c0 F0 t s nu p b tl 0 fp F1)) := by
  refine Ex.nx rfl ?_
  refine Ex.nx rfl ?_
  refine CR.at (i := q) (A0 := []) hC (Or.inl ⟨rfl, rfl⟩) (by omega) rfl rfl rfl ?_
  show Ex X m_Reader_readName 5 [.ref (c0 + 8), .ref (c0 + 1), .int (nI q), .ref (c0 + 4), ev_dead, ev_dead] [.int (hb t q)] (hp c0 n _ _) _
  refine Ex.nx rfl ?_
  refine Ex.nx rfl ?_
  refine Ex.ite (fun c1 => ?_) (fun c1 => ?_)
  · replace c1 : (hb t q) = 60 := of_decide_eq_true c1
    show Ex X m_Reader_readName 17 [.ref (c0 + 8), .ref (c0 + 1), .int (nI q), .ref (c0 + 4), ev_dead, ev_dead] [] (hp c0 n _ _) _
    refine Ex.nx rfl ?_
    refine Ex.nx rfl ?_
    refine Ex.nx rfl ?_
    refine Hx.top (y := nI (q + 1)) (nI_1 q) ?_
    refine Ex.nx rfl ?_
    show Ex X m_Reader_readName 22 [.ref (c0 + 8), .ref (c0 + 1), .int (nI q), .ref (c0 + 4), .int (nI (q + 1)), ev_dead] [] (hp c0 n _ _) _
    show Ex X m_Reader_readName 22 [.ref (c0 + 8), .ref (c0 + 1), .int (nI q), .ref (c0 + 4), .int (nI (q + 1)), ev_dead] [] (hp c0 n _ _) _
    have h1 := hb_in (t := t) (q := q) (by rw [c1]; decide)
    rw [show sNa t q = sNm t (t.length - (q + 1)) (q + 1) [] from if_pos c1]
    exact cr_nm_l4 (nI q) (t.length - (q + 1)) (q + 1) [] _ _ (by omega) (by decide) hC
  · replace c1 : ¬ (hb t q) = 60 := of_decide_eq_false c1
    show Ex X m_Reader_readName 10 [.ref (c0 + 8), .ref (c0 + 1), .int (nI q), .ref (c0 + 4), ev_dead, ev_dead] [] (hp c0 n _ _) _
    refine Ex.nx rfl ?_
    refine Ex.nx rfl ?_
    refine Ex.nx rfl ?_
    refine CR.rd hC rfl rfl rfl rfl (cr_lacking (i := q) hC (Or.inl ⟨rfl, rfl⟩) (by omega)) ?_
    rintro v h1 ⟨rfl, F17, rfl, hC17⟩
    show Ex X m_Reader_readName 16 [.ref (c0 + 8), .ref (c0 + 1), .int (nI q), .ref (c0 + 4), ev_dead, ev_dead] [.int (-1)] (hp c0 n _ _) _
    exact Ex.ret rfl (ev_reti rfl) (rP_f (show sNa t q = (false, q, []) from if_neg c1) ⟨_, _, _, _, _, _, lk_ne, hC17⟩)
set_option maxRecDepth 100000 in
set_option maxHeartbeats 2000000 in
theorem cr_nm_l6 {X : ev_X} {c0 n z : Nat} {F0 : Nat → Option va_E} {t : List Nat} {s p fp : Int32} {nu : Int64} {bd : List Nat} (sv : Int32) : ∀ (m q : Nat) (acc : List Nat) (F : Nat → Option va_E) (bv : Value) (hm : q + m = t.length) (ha : acc.length ≤ 60) (hC : CR c0 F0 t s nu p bd acc 0 fp F), Ex X m_Reader_readName 22 [.ref (c0 + 8), .ref (c0 + 1), .int sv, .ref (c0 + 6), .int (nI q), bv] [] (hp c0 n z F) (rP c0 n z F0 t (sNm t m q acc) (fun b F1 => CR c0 F0 t s nu p bd b 0 fp F1)) := by
  intro m
  induction m with
  | zero =>
    intro q acc F bv hm ha hC
    have hl := hC.rt.le
    refine Ex.nx rfl ?_
    refine Ex.nx rfl ?_
    refine CR.sz hC (Or.inl ⟨rfl, rfl⟩) rfl rfl rfl ?_
    show Ex X m_Reader_readName 28 [.ref (c0 + 8), .ref (c0 + 1), .int sv, .ref (c0 + 6), .int (nI q), bv] [.int (nI t.length), .int (nI q)] (hp c0 n _ _) _
    refine Ex.nx rfl ?_
    refine Ex.ite (fun c1 => ?_) (fun c1 => ?_)
    · replace c1 : (nI t.length) ≤ (nI q) := of_decide_eq_true c1
      show Ex X m_Reader_readName 103 [.ref (c0 + 8), .ref (c0 + 1), .int sv, .ref (c0 + 6), .int (nI q), bv] [] (hp c0 n _ _) _
      refine Ex.nx rfl ?_
      refine Ex.nx rfl ?_
      refine Ex.nx rfl ?_
      refine CR.sz hC (Or.inl ⟨rfl, rfl⟩) rfl rfl rfl ?_
      show Ex X m_Reader_readName 109 [.ref (c0 + 8), .ref (c0 + 1), .int sv, .ref (c0 + 6), .int (nI q), bv] [.int (nI t.length), .int 2, .ref (c0 + 8)] (hp c0 n _ _) _
      refine CR.rd hC rfl rfl rfl rfl (cr_fail hC 2 (nI t.length)) ?_
      rintro v h1 ⟨rfl, F18, rfl, hC18⟩
      show Ex X m_Reader_readName 112 [.ref (c0 + 8), .ref (c0 + 1), .int sv, .ref (c0 + 6), .int (nI q), bv] [.int (-1)] (hp c0 n _ _) _
      exact Ex.ret rfl (ev_reti rfl) (rP_f (q := t.length) (b := acc) rfl ⟨_, _, _, _, _, _, (by decide), hC18⟩)
    · replace c1 : ¬ (nI t.length) ≤ (nI q) := of_decide_eq_false c1
      exact absurd (show nI t.length ≤ nI q by rw [show q = t.length by omega]; exact Int32.le_refl _) c1
  | succ m ih =>
    intro q acc F bv hm ha hC
    have hl := hC.rt.le
    refine Ex.nx rfl ?_
    refine Ex.nx rfl ?_
    refine CR.sz hC (Or.inl ⟨rfl, rfl⟩) rfl rfl rfl ?_
    show Ex X m_Reader_readName 28 [.ref (c0 + 8), .ref (c0 + 1), .int sv, .ref (c0 + 6), .int (nI q), bv] [.int (nI t.length), .int (nI q)] (hp c0 n _ _) _
    refine Ex.nx rfl ?_
    refine Ex.ite (fun c1 => ?_) (fun c1 => ?_)
    · replace c1 : (nI t.length) ≤ (nI q) := of_decide_eq_true c1
      exact absurd ((nI_leI (by omega) (by omega)).mp c1) (by omega)
    · replace c1 : ¬ (nI t.length) ≤ (nI q) := of_decide_eq_false c1
      show Ex X m_Reader_readName 31 [.ref (c0 + 8), .ref (c0 + 1), .int sv, .ref (c0 + 6), .int (nI q), bv] [] (hp c0 n _ _) _
      refine Ex.nx rfl ?_
      refine Ex.nx rfl ?_
      refine CR.at (i := q) (A0 := []) hC (Or.inl ⟨rfl, rfl⟩) (by omega) rfl rfl rfl ?_
      show Ex X m_Reader_readName 37 [.ref (c0 + 8), .ref (c0 + 1), .int sv, .ref (c0 + 6), .int (nI q), bv] [.int (hb t q)] (hp c0 n _ _) _
      refine Ex.nx rfl ?_
      show Ex X m_Reader_readName 39 [.ref (c0 + 8), .ref (c0 + 1), .int sv, .ref (c0 + 6), .int (nI q), .int (hb t q)] [] (hp c0 n _ _) _
      refine Ex.nx rfl ?_
      refine Ex.nx rfl ?_
      refine Ex.nx rfl ?_
      refine Ex.ite (fun c2 => ?_) (fun c2 => ?_)
      · replace c2 : ¬ (hb t q) = 62 := of_decide_eq_true c2
        show Ex X m_Reader_readName 58 [.ref (c0 + 8), .ref (c0 + 1), .int sv, .ref (c0 + 6), .int (nI q), .int (hb t q)] [] (hp c0 n _ _) _
        refine Ex.nx rfl ?_
        refine CR.szt hC rfl rfl rfl ?_
        show Ex X m_Reader_readName 62 [.ref (c0 + 8), .ref (c0 + 1), .int sv, .ref (c0 + 6), .int (nI q), .int (hb t q)] [.int (nI acc.length)] (hp c0 n _ _) _
        refine Ex.nx rfl ?_
        refine Ex.nx rfl ?_
        refine Ex.ite (fun c3 => ?_) (fun c3 => ?_)
        · replace c3 : ¬ (nI acc.length) = 60 := of_decide_eq_true c3
          show Ex X m_Reader_readName 75 [.ref (c0 + 8), .ref (c0 + 1), .int sv, .ref (c0 + 6), .int (nI q), .int (hb t q)] [] (hp c0 n _ _) _
          refine Ex.nx rfl ?_
          refine Hx.calls rfl rfl rfl rfl (sx_Reader_isNB X (hb t q)) (fun v hv => ?_)
          subst hv
          show Ex X m_Reader_readName 80 [.ref (c0 + 8), .ref (c0 + 1), .int sv, .ref (c0 + 6), .int (nI q), .int (hb t q)] [.int (bi (isNB (hb t q)))] (hp c0 n _ _) _
          refine Ex.nx rfl ?_
          refine Ex.ite (fun c4 => ?_) (fun c4 => ?_)
          · replace c4 : (isNB (hb t q)) = true := bi_net c4
            show Ex X m_Reader_readName 91 [.ref (c0 + 8), .ref (c0 + 1), .int sv, .ref (c0 + 6), .int (nI q), .int (hb t q)] [] (hp c0 n _ _) _
            refine Ex.nx rfl ?_
            refine Ex.nx rfl ?_
            refine Hx.top (y := nI (t.getD q 0)) (hb_lt (by omega)) ?_
            refine CR.adt (d := (t.getD q 0)) hC (hC.rt.by q) (by have : acc.length ≠ 60 := fun e => c3 (by rw [e]; rfl); omega) rfl rfl ?_
            intro F19 hC19
            show Ex X m_Reader_readName 97 [.ref (c0 + 8), .ref (c0 + 1), .int sv, .ref (c0 + 6), .int (nI q), .int (hb t q)] [] (hp c0 n _ _) _
            refine Ex.nx rfl ?_
            show Ex X m_Reader_readName 100 [.ref (c0 + 8), .ref (c0 + 1), .int sv, .ref (c0 + 6), .int ((nI q) + 1), .int (hb t q)] [] (hp c0 n _ _) _
            refine Ex.nx rfl ?_
            show Ex X m_Reader_readName 22 [.ref (c0 + 8), .ref (c0 + 1), .int sv, .ref (c0 + 6), .int ((nI q) + 1), .int (hb t q)] [] (hp c0 n _ _) _
            rw [show nI q + 1 = nI (q + 1) from nI_1 q, show sNm t (m + 1) q acc = sNm t m (q + 1) (acc ++ [t.getD q 0]) from (if_neg (fun h => c2 h.1)).trans ((if_neg (fun e => c3 (by rw [e]; rfl))).trans (if_pos c4))]
            exact ih (q + 1) _ _ _ (by omega) (by have : acc.length ≠ 60 := fun e => c3 (by rw [e]; rfl); simp only [List.length_append, List.length_cons, List.length_nil]; omega) hC19
          · replace c4 : (isNB (hb t q)) = false := bi_nef c4
            show Ex X m_Reader_readName 83 [.ref (c0 + 8), .ref (c0 + 1), .int sv, .ref (c0 + 6), .int (nI q), .int (hb t q)] [] (hp c0 n _ _) _
            refine Ex.nx rfl ?_
            refine Ex.nx rfl ?_
            refine Ex.nx rfl ?_
            refine CR.rd hC rfl rfl rfl rfl (cr_fail hC 3 (nI q)) ?_
            rintro v h1 ⟨rfl, F20, rfl, hC20⟩
            show Ex X m_Reader_readName 90 [.ref (c0 + 8), .ref (c0 + 1), .int sv, .ref (c0 + 6), .int (nI q), .int (hb t q)] [.int (-1)] (hp c0 n _ _) _
            exact Ex.ret rfl (ev_reti rfl) (rP_f (show sNm t (m + 1) q acc = (false, q, acc) from (if_neg (fun h => c2 h.1)).trans ((if_neg (fun e => c3 (by rw [e]; rfl))).trans (if_neg (by rw [c4]; decide)))) ⟨_, _, _, _, _, _, (by decide), hC20⟩)
        · replace c3 : (nI acc.length) = 60 := Classical.not_not.mp (of_decide_eq_false c3)
          show Ex X m_Reader_readName 67 [.ref (c0 + 8), .ref (c0 + 1), .int sv, .ref (c0 + 6), .int (nI q), .int (hb t q)] [] (hp c0 n _ _) _
          refine Ex.nx rfl ?_
          refine Ex.nx rfl ?_
          refine Ex.nx rfl ?_
          refine CR.rd hC rfl rfl rfl rfl (cr_fail hC 4 (nI q)) ?_
          rintro v h1 ⟨rfl, F21, rfl, hC21⟩
          show Ex X m_Reader_readName 74 [.ref (c0 + 8), .ref (c0 + 1), .int sv, .ref (c0 + 6), .int (nI q), .int (hb t q)] [.int (-1)] (hp c0 n _ _) _
          exact Ex.ret rfl (ev_reti rfl) (rP_f (show sNm t (m + 1) q acc = (false, q, acc) from (if_neg (fun h => c2 h.1)).trans (if_pos ((nI_eq (b := 60) (by omega) (by decide)).mp c3))) ⟨_, _, _, _, _, _, (by decide), hC21⟩)
      · replace c2 : (hb t q) = 62 := Classical.not_not.mp (of_decide_eq_false c2)
        show Ex X m_Reader_readName 46 [.ref (c0 + 8), .ref (c0 + 1), .int sv, .ref (c0 + 6), .int (nI q), .int (hb t q)] [] (hp c0 n _ _) _
        refine Ex.nx rfl ?_
        refine CR.szt hC rfl rfl rfl ?_
        show Ex X m_Reader_readName 50 [.ref (c0 + 8), .ref (c0 + 1), .int sv, .ref (c0 + 6), .int (nI q), .int (hb t q)] [.int (nI acc.length)] (hp c0 n _ _) _
        refine Ex.nx rfl ?_
        refine Ex.ite (fun c5 => ?_) (fun c5 => ?_)
        · replace c5 : (nI acc.length) ≤ 0 := of_decide_eq_true c5
          show Ex X m_Reader_readName 58 [.ref (c0 + 8), .ref (c0 + 1), .int sv, .ref (c0 + 6), .int (nI q), .int (hb t q)] [] (hp c0 n _ _) _
          refine Ex.nx rfl ?_
          refine CR.szt hC rfl rfl rfl ?_
          show Ex X m_Reader_readName 62 [.ref (c0 + 8), .ref (c0 + 1), .int sv, .ref (c0 + 6), .int (nI q), .int (hb t q)] [.int (nI acc.length)] (hp c0 n _ _) _
          refine Ex.nx rfl ?_
          refine Ex.nx rfl ?_
          refine Ex.ite (fun c6 => ?_) (fun c6 => ?_)
          · replace c6 : ¬ (nI acc.length) = 60 := of_decide_eq_true c6
            show Ex X m_Reader_readName 75 [.ref (c0 + 8), .ref (c0 + 1), .int sv, .ref (c0 + 6), .int (nI q), .int (hb t q)] [] (hp c0 n _ _) _
            refine Ex.nx rfl ?_
            refine Hx.calls rfl rfl rfl rfl (sx_Reader_isNB X (hb t q)) (fun v hv => ?_)
            subst hv
            show Ex X m_Reader_readName 80 [.ref (c0 + 8), .ref (c0 + 1), .int sv, .ref (c0 + 6), .int (nI q), .int (hb t q)] [.int (bi (isNB (hb t q)))] (hp c0 n _ _) _
            refine Ex.nx rfl ?_
            refine Ex.ite (fun c7 => ?_) (fun c7 => ?_)
            · replace c7 : (isNB (hb t q)) = true := bi_net c7
              show Ex X m_Reader_readName 91 [.ref (c0 + 8), .ref (c0 + 1), .int sv, .ref (c0 + 6), .int (nI q), .int (hb t q)] [] (hp c0 n _ _) _
              refine Ex.nx rfl ?_
              refine Ex.nx rfl ?_
              refine Hx.top (y := nI (t.getD q 0)) (hb_lt (by omega)) ?_
              refine CR.adt (d := (t.getD q 0)) hC (hC.rt.by q) (by have : acc.length ≠ 60 := fun e => c6 (by rw [e]; rfl); omega) rfl rfl ?_
              intro F22 hC22
              show Ex X m_Reader_readName 97 [.ref (c0 + 8), .ref (c0 + 1), .int sv, .ref (c0 + 6), .int (nI q), .int (hb t q)] [] (hp c0 n _ _) _
              refine Ex.nx rfl ?_
              show Ex X m_Reader_readName 100 [.ref (c0 + 8), .ref (c0 + 1), .int sv, .ref (c0 + 6), .int ((nI q) + 1), .int (hb t q)] [] (hp c0 n _ _) _
              refine Ex.nx rfl ?_
              show Ex X m_Reader_readName 22 [.ref (c0 + 8), .ref (c0 + 1), .int sv, .ref (c0 + 6), .int ((nI q) + 1), .int (hb t q)] [] (hp c0 n _ _) _
              rw [show nI q + 1 = nI (q + 1) from nI_1 q, show sNm t (m + 1) q acc = sNm t m (q + 1) (acc ++ [t.getD q 0]) from (if_neg (fun h => h.2 (by have := (nI_leI (b := 0) (by omega) (by decide)).mp c5; omega))).trans ((if_neg (fun e => c6 (by rw [e]; rfl))).trans (if_pos c7))]
              exact ih (q + 1) _ _ _ (by omega) (by have : acc.length ≠ 60 := fun e => c6 (by rw [e]; rfl); simp only [List.length_append, List.length_cons, List.length_nil]; omega) hC22
            · replace c7 : (isNB (hb t q)) = false := bi_nef c7
              show Ex X m_Reader_readName 83 [.ref (c0 + 8), .ref (c0 + 1), .int sv, .ref (c0 + 6), .int (nI q), .int (hb t q)] [] (hp c0 n _ _) _
              refine Ex.nx rfl ?_
              refine Ex.nx rfl ?_
              refine Ex.nx rfl ?_
              refine CR.rd hC rfl rfl rfl rfl (cr_fail hC 3 (nI q)) ?_
              rintro v h1 ⟨rfl, F23, rfl, hC23⟩
              show Ex X m_Reader_readName 90 [.ref (c0 + 8), .ref (c0 + 1), .int sv, .ref (c0 + 6), .int (nI q), .int (hb t q)] [.int (-1)] (hp c0 n _ _) _
              exact Ex.ret rfl (ev_reti rfl) (rP_f (show sNm t (m + 1) q acc = (false, q, acc) from (if_neg (fun h => h.2 (by have := (nI_leI (b := 0) (by omega) (by decide)).mp c5; omega))).trans ((if_neg (fun e => c6 (by rw [e]; rfl))).trans (if_neg (by rw [c7]; decide)))) ⟨_, _, _, _, _, _, (by decide), hC23⟩)
          · replace c6 : (nI acc.length) = 60 := Classical.not_not.mp (of_decide_eq_false c6)
            show Ex X m_Reader_readName 67 [.ref (c0 + 8), .ref (c0 + 1), .int sv, .ref (c0 + 6), .int (nI q), .int (hb t q)] [] (hp c0 n _ _) _
            refine Ex.nx rfl ?_
            refine Ex.nx rfl ?_
            refine Ex.nx rfl ?_
            refine CR.rd hC rfl rfl rfl rfl (cr_fail hC 4 (nI q)) ?_
            rintro v h1 ⟨rfl, F24, rfl, hC24⟩
            show Ex X m_Reader_readName 74 [.ref (c0 + 8), .ref (c0 + 1), .int sv, .ref (c0 + 6), .int (nI q), .int (hb t q)] [.int (-1)] (hp c0 n _ _) _
            exact Ex.ret rfl (ev_reti rfl) (rP_f (show sNm t (m + 1) q acc = (false, q, acc) from (if_neg (fun h => h.2 (by have := (nI_leI (b := 0) (by omega) (by decide)).mp c5; omega))).trans (if_pos ((nI_eq (b := 60) (by omega) (by decide)).mp c6))) ⟨_, _, _, _, _, _, (by decide), hC24⟩)
        · replace c5 : ¬ (nI acc.length) ≤ 0 := of_decide_eq_false c5
          show Ex X m_Reader_readName 53 [.ref (c0 + 8), .ref (c0 + 1), .int sv, .ref (c0 + 6), .int (nI q), .int (hb t q)] [] (hp c0 n _ _) _
          refine Ex.nx rfl ?_
          refine Ex.nx rfl ?_
          refine Ex.nx rfl ?_
          refine Hx.top (y := nI (q + 1)) (nI_1 q) ?_
          exact Ex.ret rfl (ev_reti rfl) (rP_t (show sNm t (m + 1) q acc = (true, q + 1, acc) from if_pos ⟨c2, fun e => c5 (by rw [e]; decide)⟩) hC)
set_option maxRecDepth 100000 in
set_option maxHeartbeats 2000000 in
theorem cr_name6 {X : ev_X} {c0 n z : Nat} {F0 : Nat → Option va_E} {t : List Nat} {s p fp : Int32} {nu : Int64} {bd : List Nat} {F : Nat → Option va_E} {q : Nat} (hq : q ≤ 1000) (hC : CR c0 F0 t s nu p bd ([]) 0 fp F) : Ex X m_Reader_readName 0 [.ref (c0 + 8), .ref (c0 + 1), .int (nI q), .ref (c0 + 6), ev_dead, ev_dead] [] (hp c0 n z F) (rP c0 n z F0 t (sNa t q) (fun b F1 => CR c0 F0 t s nu p bd b 0 fp F1)) := by
  refine Ex.nx rfl ?_
  refine Ex.nx rfl ?_
  refine CR.at (i := q) (A0 := []) hC (Or.inl ⟨rfl, rfl⟩) (by omega) rfl rfl rfl ?_
  show Ex X m_Reader_readName 5 [.ref (c0 + 8), .ref (c0 + 1), .int (nI q), .ref (c0 + 6), ev_dead, ev_dead] [.int (hb t q)] (hp c0 n _ _) _
  refine Ex.nx rfl ?_
  refine Ex.nx rfl ?_
  refine Ex.ite (fun c1 => ?_) (fun c1 => ?_)
  · replace c1 : (hb t q) = 60 := of_decide_eq_true c1
    show Ex X m_Reader_readName 17 [.ref (c0 + 8), .ref (c0 + 1), .int (nI q), .ref (c0 + 6), ev_dead, ev_dead] [] (hp c0 n _ _) _
    refine Ex.nx rfl ?_
    refine Ex.nx rfl ?_
    refine Ex.nx rfl ?_
    refine Hx.top (y := nI (q + 1)) (nI_1 q) ?_
    refine Ex.nx rfl ?_
    show Ex X m_Reader_readName 22 [.ref (c0 + 8), .ref (c0 + 1), .int (nI q), .ref (c0 + 6), .int (nI (q + 1)), ev_dead] [] (hp c0 n _ _) _
    show Ex X m_Reader_readName 22 [.ref (c0 + 8), .ref (c0 + 1), .int (nI q), .ref (c0 + 6), .int (nI (q + 1)), ev_dead] [] (hp c0 n _ _) _
    have h1 := hb_in (t := t) (q := q) (by rw [c1]; decide)
    rw [show sNa t q = sNm t (t.length - (q + 1)) (q + 1) [] from if_pos c1]
    exact cr_nm_l6 (nI q) (t.length - (q + 1)) (q + 1) [] _ _ (by omega) (by decide) hC
  · replace c1 : ¬ (hb t q) = 60 := of_decide_eq_false c1
    show Ex X m_Reader_readName 10 [.ref (c0 + 8), .ref (c0 + 1), .int (nI q), .ref (c0 + 6), ev_dead, ev_dead] [] (hp c0 n _ _) _
    refine Ex.nx rfl ?_
    refine Ex.nx rfl ?_
    refine Ex.nx rfl ?_
    refine CR.rd hC rfl rfl rfl rfl (cr_lacking (i := q) hC (Or.inl ⟨rfl, rfl⟩) (by omega)) ?_
    rintro v h1 ⟨rfl, F25, rfl, hC25⟩
    show Ex X m_Reader_readName 16 [.ref (c0 + 8), .ref (c0 + 1), .int (nI q), .ref (c0 + 6), ev_dead, ev_dead] [.int (-1)] (hp c0 n _ _) _
    exact Ex.ret rfl (ev_reti rfl) (rP_f (show sNa t q = (false, q, []) from if_neg c1) ⟨_, _, _, _, _, _, lk_ne, hC25⟩)
