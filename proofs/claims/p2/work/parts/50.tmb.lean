/-! The class's table: get, numberOf; rows added; become. (rows laid by wip/whole/tm2.py) -/
def tm0 : Tm := (0, 0, 0, [], [])
/-- the table's cells: the terms, and their bytes -/
def tbl (c0 : Nat) (F : Nat → Option va_E) (T : List Tm) (u : Nat) : Prop := F 9 = some (.inr (3, [.ref (c0 + 10), .int (nI T.length), .int (nI u)])) ∧ (∃ κ : Nat → Option Nat, F 10 = some (.inl (2, 2000, .inr (.inr (.inr (.inr κ))))) ∧ ∀ i, i < T.length → κ i = some (c0 + (26 + 5 * i))) ∧ T.length ≤ 2000 ∧ u ≤ 40000 ∧ ∀ i, i < T.length → ∃ N1 N2, trm c0 F (26 + 5 * i) N1 N2 (T.getD i tm0)
theorem trm.fr {c0 k N1 N2 : Nat} {F F' : Nat → Option va_E} {x : Tm} (h : trm c0 F k N1 N2 x) (e : ∀ q, k ≤ q → q < k + 5 → F' q = F q) : trm c0 F' k N1 N2 x := ⟨(e k (by omega) (by omega)).trans h.1, h.2.1.fr (e _ (by omega) (by omega)) (e _ (by omega) (by omega)), h.2.2.1.fr (e _ (by omega) (by omega)) (e _ (by omega) (by omega)), h.2.2.2⟩
theorem tbl.fr {c0 u : Nat} {F F' : Nat → Option va_E} {T : List Tm} (h : tbl c0 F T u) (e9 : F' 9 = F 9) (e10 : F' 10 = F 10) (e : ∀ q, 26 ≤ q → q < 26 + 5 * T.length → F' q = F q) : tbl c0 F' T u := by
  obtain ⟨h1, ⟨κ, h2, h3⟩, h4, h5, h6⟩ := h
  refine ⟨e9.trans h1, ⟨κ, e10.trans h2, h3⟩, h4, h5, fun i hi => ?_⟩
  obtain ⟨N1, N2, hh⟩ := h6 i hi
  exact ⟨N1, N2, hh.fr (fun q q1 q2 => e q (by omega) (by omega))⟩
theorem tb_cases (T : List Tm) (hT : T.length ≤ 2000) (t : Int32) : (∃ i, i < T.length ∧ t = nI (i + 1)) ∨ (t < 1 ∨ (¬ t < 1 ∧ nI T.length < t)) := by
  by_cases h1 : t < 1
  · exact Or.inr (Or.inl h1)
  · by_cases h2 : nI T.length < t
    · exact Or.inr (Or.inr ⟨h1, h2⟩)
    · refine Or.inl ?_
      obtain ⟨j, hj, rfl⟩ := nI_of (x := t) (fun q => h1 (Int32.lt_trans q (by decide)))
      have h3 : ¬ j < 1 := fun q => h1 ((nI_ltI (b := 1) hj (by decide)).mpr q)
      have h4 : ¬ T.length < j := fun q => h2 ((nI_ltI (by omega) hj).mpr q)
      exact ⟨j - 1, by omega, by rw [show j - 1 + 1 = j by omega]⟩
set_option maxRecDepth 100000 in
set_option maxHeartbeats 2000000 in
theorem tb_get {X : ev_X} {c0 n z : Nat} {F : Nat → Option va_E} {T : List Tm} {u : Nat} (h : tbl c0 F T u) {i : Nat} (hi : i < T.length) : Ex X m_Terms_get 0 [.ref (c0 + 9), .int (nI (i + 1))] [] (hp c0 n z F) (fun r h' => r = some (.ref (c0 + (26 + 5 * i))) ∧ h' = hp c0 n z F) := by
  obtain ⟨h9, ⟨κ, h10, hκ⟩, hT, hu, hx⟩ := id h
  refine Ex.nx rfl ?_
  refine Ex.nx rfl ?_
  refine Ex.nx rfl ?_
  refine Ex.ite (fun c1 => ?_) (fun c1 => ?_)
  · replace c1 : (nI (i + 1)) < 1 := of_decide_eq_true c1
    exact absurd ((nI_ltI (b := 1) (by omega) (by decide)).mp c1) (by omega)
  · replace c1 : ¬ (nI (i + 1)) < 1 := of_decide_eq_false c1
    show Ex X m_Terms_get 5 [.ref (c0 + 9), .int (nI (i + 1))] [] (hp c0 n _ _) _
    refine Ex.nx rfl ?_
    refine Ex.nx rfl ?_
    refine Hx.get 9 rfl h9 rfl ?_
    refine Ex.nx rfl ?_
    refine Ex.ite (fun c2 => ?_) (fun c2 => ?_)
    · replace c2 : (nI T.length) < (nI (i + 1)) := of_decide_eq_true c2
      exact absurd ((nI_ltI (by omega) (by omega)).mp c2) (by omega)
    · replace c2 : ¬ (nI T.length) < (nI (i + 1)) := of_decide_eq_false c2
      show Ex X m_Terms_get 13 [.ref (c0 + 9), .int (nI (i + 1))] [] (hp c0 n _ _) _
      refine Ex.nx rfl ?_
      refine Ex.nx rfl ?_
      refine Hx.get 9 rfl h9 rfl ?_
      refine Hx.alen 10 rfl h10 rfl ?_
      refine Ex.nx rfl ?_
      refine Ex.ite (fun c3 => ?_) (fun c3 => ?_)
      · replace c3 : (nI 2000) < (nI (i + 1)) := of_decide_eq_true c3
        exact absurd ((nI_ltI (by decide) (by omega)).mp c3) (by omega)
      · replace c3 : ¬ (nI 2000) < (nI (i + 1)) := of_decide_eq_false c3
        show Ex X m_Terms_get 22 [.ref (c0 + 9), .int (nI (i + 1))] [] (hp c0 n _ _) _
        refine Ex.nx rfl ?_
        refine Hx.get 9 rfl h9 rfl ?_
        refine Ex.nx rfl ?_
        refine Ex.nx rfl ?_
        refine Ex.nx rfl ?_
        refine Hx.top (y := nI i) (nI_pred i) ?_
        refine Hx.aald 10 rfl h10 (nI_in (by omega) (by decide)) ?_
        rw [nI_clamp (by omega), hκ i hi]
        refine Ex.nx rfl ?_
        exact Ex.ret rfl rfl ⟨rfl, rfl⟩
set_option maxRecDepth 100000 in
set_option maxHeartbeats 2000000 in
theorem tb_no {X : ev_X} {c0 n z : Nat} {F : Nat → Option va_E} {T : List Tm} {u : Nat} (h : tbl c0 F T u) {t : Int32} (hn : t < 1 ∨ (¬ t < 1 ∧ nI T.length < t)) : Ex X m_Terms_get 0 [.ref (c0 + 9), .int t] [] (hp c0 n z F) (fun r h' => r = some .null ∧ h' = hp c0 n z F) := by
  obtain ⟨h9, ⟨κ, h10, hκ⟩, hT, hu, hx⟩ := id h
  refine Ex.nx rfl ?_
  refine Ex.nx rfl ?_
  refine Ex.nx rfl ?_
  refine Ex.ite (fun c1 => ?_) (fun c1 => ?_)
  · replace c1 : t < 1 := of_decide_eq_true c1
    show Ex X m_Terms_get 33 [.ref (c0 + 9), .int t] [] (hp c0 n _ _) _
    refine Ex.nx rfl ?_
    exact Ex.ret rfl rfl ⟨rfl, rfl⟩
  · replace c1 : ¬ t < 1 := of_decide_eq_false c1
    show Ex X m_Terms_get 5 [.ref (c0 + 9), .int t] [] (hp c0 n _ _) _
    refine Ex.nx rfl ?_
    refine Ex.nx rfl ?_
    refine Hx.get 9 rfl h9 rfl ?_
    refine Ex.nx rfl ?_
    refine Ex.ite (fun c2 => ?_) (fun c2 => ?_)
    · replace c2 : (nI T.length) < t := of_decide_eq_true c2
      show Ex X m_Terms_get 33 [.ref (c0 + 9), .int t] [] (hp c0 n _ _) _
      refine Ex.nx rfl ?_
      exact Ex.ret rfl rfl ⟨rfl, rfl⟩
    · replace c2 : ¬ (nI T.length) < t := of_decide_eq_false c2
      rcases hn with q | ⟨_, q⟩
      · exact absurd q c1
      · exact absurd q c2
def fnT (T : List Tm) (x : Tm) : Nat → Nat → Int32
  | 0, _ => -2
  | m + 1, i => if T.getD i tm0 = x then nI (i + 1) else fnT T x m (i + 1)
def numT (T : List Tm) (x : Tm) : Int32 := fnT T x T.length 0
set_option maxRecDepth 100000 in
set_option maxHeartbeats 2000000 in
theorem tb_nu_l {X : ev_X} {c0 n z : Nat} {F : Nat → Option va_E} {T : List Tm} {u : Nat} (h : tbl c0 F T u) {N1 N2 : Nat} {x : Tm} (hd : trm c0 F 3 N1 N2 x) : ∀ (m i : Nat) (tv : Value) (hm : i + m = T.length), Ex X m_Terms_numberOf 2 [.ref (c0 + 9), .ref (c0 + 3), .int (nI (i + 1)), tv] [] (hp c0 n z F) (fun r h' => r = some (.int (fnT T x m i)) ∧ h' = hp c0 n z F) := by
  obtain ⟨h9, ⟨κ, h10, hκ⟩, hT, hu, hx⟩ := id h
  intro m
  induction m with
  | zero =>
    intro i tv hm
    refine Ex.nx rfl ?_
    refine Ex.nx rfl ?_
    refine Hx.get 9 rfl h9 rfl ?_
    refine Ex.nx rfl ?_
    refine Ex.ite (fun c1 => ?_) (fun c1 => ?_)
    · replace c1 : (nI T.length) < (nI (i + 1)) := of_decide_eq_true c1
      show Ex X m_Terms_numberOf 36 [.ref (c0 + 9), .ref (c0 + 3), .int (nI (i + 1)), tv] [] (hp c0 n _ _) _
      refine Ex.nx rfl ?_
      exact Ex.ret rfl (ev_reti rfl) ⟨rfl, rfl⟩
    · replace c1 : ¬ (nI T.length) < (nI (i + 1)) := of_decide_eq_false c1
      exact absurd (nI_lt (show T.length < i + 1 by omega) (by omega)) c1
  | succ m ih =>
    intro i tv hm
    refine Ex.nx rfl ?_
    refine Ex.nx rfl ?_
    refine Hx.get 9 rfl h9 rfl ?_
    refine Ex.nx rfl ?_
    refine Ex.ite (fun c1 => ?_) (fun c1 => ?_)
    · replace c1 : (nI T.length) < (nI (i + 1)) := of_decide_eq_true c1
      exact absurd ((nI_ltI (by omega) (by omega)).mp c1) (by omega)
    · replace c1 : ¬ (nI T.length) < (nI (i + 1)) := of_decide_eq_false c1
      show Ex X m_Terms_numberOf 10 [.ref (c0 + 9), .ref (c0 + 3), .int (nI (i + 1)), tv] [] (hp c0 n _ _) _
      refine Ex.nx rfl ?_
      refine Ex.nx rfl ?_
      refine Hx.call 9 rfl rfl h9 rfl rfl (tb_get h (i := i) (by omega)) ?_
      show Ex X m_Terms_numberOf 15 [.ref (c0 + 9), .ref (c0 + 3), .int (nI (i + 1)), tv] [.ref (c0 + (26 + 5 * i))] (hp c0 n _ _) _
      refine Ex.nx rfl ?_
      show Ex X m_Terms_numberOf 16 [.ref (c0 + 9), .ref (c0 + 3), .int (nI (i + 1)), .ref (c0 + (26 + 5 * i))] [] (hp c0 n _ _) _
      refine Ex.nx rfl ?_
      refine Ex.nx rfl ?_
      show Ex X m_Terms_numberOf 20 [.ref (c0 + 9), .ref (c0 + 3), .int (nI (i + 1)), .ref (c0 + (26 + 5 * i))] [] (hp c0 n _ _) _
      refine Ex.nx rfl ?_
      refine Ex.nx rfl ?_
      obtain ⟨M1, M2, hti⟩ := hx i (by omega)
      refine Hx.call (26 + 5 * i) rfl rfl hti.1 rfl rfl (tm_one hti hd) ?_
      show Ex X m_Terms_numberOf 25 [.ref (c0 + 9), .ref (c0 + 3), .int (nI (i + 1)), .ref (c0 + (26 + 5 * i))] [.int (bi (decide (T.getD i tm0 = x)))] (hp c0 n _ _) _
      refine Ex.nx rfl ?_
      refine Ex.ite (fun c2 => ?_) (fun c2 => ?_)
      · replace c2 : (decide (T.getD i tm0 = x)) = false := bi_eqt c2
        show Ex X m_Terms_numberOf 30 [.ref (c0 + 9), .ref (c0 + 3), .int (nI (i + 1)), .ref (c0 + (26 + 5 * i))] [] (hp c0 n _ _) _
        refine Ex.nx rfl ?_
        show Ex X m_Terms_numberOf 33 [.ref (c0 + 9), .ref (c0 + 3), .int ((nI (i + 1)) + 1), .ref (c0 + (26 + 5 * i))] [] (hp c0 n _ _) _
        refine Ex.nx rfl ?_
        show Ex X m_Terms_numberOf 2 [.ref (c0 + 9), .ref (c0 + 3), .int ((nI (i + 1)) + 1), .ref (c0 + (26 + 5 * i))] [] (hp c0 n _ _) _
        rw [show nI (i + 1) + 1 = nI (i + 1 + 1) from nI_1 (i + 1), show fnT T x (m + 1) i = fnT T x m (i + 1) from if_neg (of_decide_eq_false c2)]
        exact ih (i + 1) _ (by omega)
      · replace c2 : (decide (T.getD i tm0 = x)) = true := bi_eqf c2
        show Ex X m_Terms_numberOf 28 [.ref (c0 + 9), .ref (c0 + 3), .int (nI (i + 1)), .ref (c0 + (26 + 5 * i))] [] (hp c0 n _ _) _
        refine Ex.nx rfl ?_
        exact Ex.ret rfl (ev_reti rfl) ⟨by rw [show fnT T x (m + 1) i = nI (i + 1) from if_pos (of_decide_eq_true c2)], rfl⟩
set_option maxRecDepth 100000 in
set_option maxHeartbeats 2000000 in
theorem tb_num {X : ev_X} {c0 n z : Nat} {F : Nat → Option va_E} {T : List Tm} {u : Nat} (h : tbl c0 F T u) {N1 N2 : Nat} {x : Tm} (hd : trm c0 F 3 N1 N2 x) : Ex X m_Terms_numberOf 0 [.ref (c0 + 9), .ref (c0 + 3), ev_dead, ev_dead] [] (hp c0 n z F) (fun r h' => r = some (.int (numT T x)) ∧ h' = hp c0 n z F) := by
  obtain ⟨h9, ⟨κ, h10, hκ⟩, hT, hu, hx⟩ := id h
  refine Ex.nx rfl ?_
  refine Ex.nx rfl ?_
  show Ex X m_Terms_numberOf 2 [.ref (c0 + 9), .ref (c0 + 3), .int 1, ev_dead] [] (hp c0 n _ _) _
  show Ex X m_Terms_numberOf 2 [.ref (c0 + 9), .ref (c0 + 3), .int 1, ev_dead] [] (hp c0 n _ _) _
  exact tb_nu_l h hd T.length 0 _ (by omega)
theorem take_s {m : List Nat} {i : Nat} (h : i < m.length) : m.take i ++ [m.getD i 0] = m.take (i + 1) := by
  rw [List.take_succ, List.getD_eq_getElem?_getD, List.getElem?_eq_getElem h]; rfl
set_option maxRecDepth 100000 in
set_option maxHeartbeats 2000000 in
theorem rl_aa_l {X : ev_X} {c0 n z : Nat} {k ka N j ja N1 : Nat} {l m : List Nat} (hN : N ≤ 1000) (hN1 : N1 ≤ 1000) (hk : ka ≠ k) (h1 : j ≠ k) (h2 : j ≠ ka) (h3 : ja ≠ k) (h4 : ja ≠ ka) (hlm : l.length + m.length ≤ N) : ∀ (d i : Nat) (F : Nat → Option va_E) (hm : i + d = m.length) (h : rowL c0 F k ka N (l ++ m.take i)) (g : rowL c0 F j ja N1 m), Ex X m_Row_addAll 2 [.ref (c0 + k), .ref (c0 + j), .int (nI i)] [] (hp c0 n z F) (fun r h' => r = none ∧ ∃ F', h' = hp c0 n z F' ∧ rowL c0 F' k ka N (l ++ m) ∧ ∀ q, q ≠ k → q ≠ ka → F' q = F q) := by
  intro d
  induction d with
  | zero =>
    intro i F hm h g
    obtain ⟨f2, gF, -⟩ := id g
    have gl := g.le
    refine Ex.nx rfl ?_
    refine Ex.nx rfl ?_
    refine Hx.get j rfl gF rfl ?_
    refine Ex.nx rfl ?_
    refine Ex.ite (fun c1 => ?_) (fun c1 => ?_)
    · replace c1 : (nI m.length) ≤ (nI i) := of_decide_eq_true c1
      show Ex X m_Row_addAll 25 [.ref (c0 + k), .ref (c0 + j), .int (nI i)] [] (hp c0 n _ _) _
      exact Ex.ret rfl rfl ⟨rfl, F, rfl, by rw [show i = m.length by omega, List.take_length] at h; exact h, fun q _ _ => rfl⟩
    · replace c1 : ¬ (nI m.length) ≤ (nI i) := of_decide_eq_false c1
      exact absurd (show nI m.length ≤ nI i by rw [show i = m.length by omega]; exact Int32.le_refl _) c1
  | succ d ih =>
    intro i F hm h g
    obtain ⟨f2, gF, -⟩ := id g
    have gl := g.le
    refine Ex.nx rfl ?_
    refine Ex.nx rfl ?_
    refine Hx.get j rfl gF rfl ?_
    refine Ex.nx rfl ?_
    refine Ex.ite (fun c1 => ?_) (fun c1 => ?_)
    · replace c1 : (nI m.length) ≤ (nI i) := of_decide_eq_true c1
      exact absurd ((nI_leI (by omega) (by omega)).mp c1) (by omega)
    · replace c1 : ¬ (nI m.length) ≤ (nI i) := of_decide_eq_false c1
      show Ex X m_Row_addAll 10 [.ref (c0 + k), .ref (c0 + j), .int (nI i)] [] (hp c0 n _ _) _
      refine Ex.nx rfl ?_
      refine Ex.nx rfl ?_
      refine Ex.nx rfl ?_
      refine Hx.rowE g rfl rfl rfl rfl (rl_at g hN1 (i := i) (by omega)) ?_
      refine Hx.top (y := nI (m.getD i 0)) (hb_lt (by omega)) ?_
      show Ex X m_Row_addAll 16 [.ref (c0 + k), .ref (c0 + j), .int (nI i)] [.int (nI (m.getD i 0)), .ref (c0 + k)] (hp c0 n _ _) _
      refine Hx.rowc h rfl rfl rfl rfl (rl_add h hN hk (m.getD i 0) (g.by i) (by simp only [List.length_append, List.length_take]; omega)) ?_
      rintro v hh ⟨rfl, F1, rfl, r1, r2⟩
      show Ex X m_Row_addAll 19 [.ref (c0 + k), .ref (c0 + j), .int (nI i)] [] (hp c0 n _ _) _
      refine Ex.nx rfl ?_
      show Ex X m_Row_addAll 22 [.ref (c0 + k), .ref (c0 + j), .int ((nI i) + 1)] [] (hp c0 n _ _) _
      refine Ex.nx rfl ?_
      show Ex X m_Row_addAll 2 [.ref (c0 + k), .ref (c0 + j), .int ((nI i) + 1)] [] (hp c0 n _ _) _
      rw [show nI i + 1 = nI (i + 1) from nI_1 i]
      rw [List.append_assoc, take_s (by omega)] at r1
      refine (ih (i + 1) F1 (by omega) r1 (g.fr (r2 _ h1 h2) (r2 _ h3 h4))).mono ?_
      rintro r h' ⟨rfl, F2, rfl, q1, q2⟩
      exact ⟨rfl, F2, rfl, q1, fun q a b => (q2 q a b).trans (r2 q a b)⟩
set_option maxRecDepth 100000 in
set_option maxHeartbeats 2000000 in
theorem rl_addAll {X : ev_X} {c0 n z : Nat} {k ka N j ja N1 : Nat} {l m : List Nat} (hN : N ≤ 1000) (hN1 : N1 ≤ 1000) (hk : ka ≠ k) (h1 : j ≠ k) (h2 : j ≠ ka) (h3 : ja ≠ k) (h4 : ja ≠ ka) (hlm : l.length + m.length ≤ N) {F : Nat → Option va_E} (h : rowL c0 F k ka N l) (g : rowL c0 F j ja N1 m) : Ex X m_Row_addAll 0 [.ref (c0 + k), .ref (c0 + j), ev_dead] [] (hp c0 n z F) (fun r h' => r = none ∧ ∃ F', h' = hp c0 n z F' ∧ rowL c0 F' k ka N (l ++ m) ∧ ∀ q, q ≠ k → q ≠ ka → F' q = F q) := by
  refine Ex.nx rfl ?_
  refine Ex.nx rfl ?_
  show Ex X m_Row_addAll 2 [.ref (c0 + k), .ref (c0 + j), .int 0] [] (hp c0 n _ _) _
  show Ex X m_Row_addAll 2 [.ref (c0 + k), .ref (c0 + j), .int 0] [] (hp c0 n _ _) _
  exact rl_aa_l hN hN1 hk h1 h2 h3 h4 hlm m.length 0 F (by omega) (by rw [List.take_zero, List.append_nil]; exact h) g
theorem tm_become {X : ev_X} {c0 n z : Nat} {F : Nat → Option va_E} {k N1 N2 : Nat} {x : Tm} (h : trm c0 F k N1 N2 x) (s : Int32) (v : Int64) {p : Nat} (hp20 : p ≤ 20) : Ex X m_Term_become 0 [.ref (c0 + k), .int s, .long v, ev_dead, .int (nI p)] [] (hp c0 n z F) (fun r h' => r = none ∧ ∃ F', h' = hp c0 n z F' ∧ trm c0 F' k N1 N2 (s, v, p, [], []) ∧ ∀ q, q < k ∨ k + 5 ≤ q → F' q = F q) := by
  obtain ⟨h1, h2, h3, h4, h5, h6⟩ := h
  refine Ex.nx rfl ?_
  refine Ex.nx rfl ?_
  refine Hx.put k rfl h1 rfl rfl rfl ?_
  refine Ex.nx rfl ?_
  refine Ex.nx rfl ?_
  refine Hx.put k rfl (va_up_self _ _ _) rfl rfl rfl ?_
  refine Ex.nx rfl ?_
  refine Ex.nx rfl ?_
  refine Hx.put k rfl (va_up_self _ _ _) rfl rfl rfl ?_
  rw [va_uu, va_uu]
  refine Hx.eF (F1 := va_up F k (some (.inr (2, [.int s, .long v, .int (nI p), .ref (c0 + (k + 1)), .ref (c0 + (k + 3))])))) rfl ?_
  have r2 : rowL c0 (va_up F k (some (.inr (2, [.int s, .long v, .int (nI p), .ref (c0 + (k + 1)), .ref (c0 + (k + 3))])))) (k + 1) (k + 2) N1 x.2.2.2.1 := h2.fr (va_up_ne _ _ (by omega)) (va_up_ne _ _ (by omega))
  have r3 : rowL c0 (va_up F k (some (.inr (2, [.int s, .long v, .int (nI p), .ref (c0 + (k + 1)), .ref (c0 + (k + 3))])))) (k + 3) (k + 4) N2 x.2.2.2.2 := h3.fr (va_up_ne _ _ (by omega)) (va_up_ne _ _ (by omega))
  have r1 : va_up F k (some (.inr (2, [.int s, .long v, .int (nI p), .ref (c0 + (k + 1)), .ref (c0 + (k + 3))]))) k = some (.inr (2, [.int s, .long v, .int (nI p), .ref (c0 + (k + 1)), .ref (c0 + (k + 3))])) := va_up_self _ _ _
  have r0 : ∀ q, q < k ∨ k + 5 ≤ q → va_up F k (some (.inr (2, [.int s, .long v, .int (nI p), .ref (c0 + (k + 1)), .ref (c0 + (k + 3))]))) q = F q := fun q hq => va_up_ne _ _ (by omega)
  generalize va_up F k (some (.inr (2, [.int s, .long v, .int (nI p), .ref (c0 + (k + 1)), .ref (c0 + (k + 3))]))) = G at r0 r1 r2 r3 ⊢
  refine Ex.nx rfl ?_
  refine Hx.get k rfl r1 rfl ?_
  refine Hx.rowc r2 rfl rfl rfl rfl (rl_clear r2 (by omega)) ?_
  rintro v1 hh ⟨rfl, G1, rfl, g1, g2⟩
  refine Ex.nx rfl ?_
  refine Hx.get k rfl ((g2 k (by omega) (by omega)).trans r1) rfl ?_
  have r4 := r3.fr (F' := G1) (g2 _ (by omega) (by omega)) (g2 _ (by omega) (by omega))
  refine Hx.rowc r4 rfl rfl rfl rfl (rl_clear r4 (by omega)) ?_
  rintro v2 hh ⟨rfl, G2, rfl, g3, g4⟩
  refine Ex.ret rfl rfl ⟨rfl, G2, rfl, ⟨?_, ?_, g3, h4, h5, hp20⟩, fun q hq => ?_⟩
  · exact (g4 k (by omega) (by omega)).trans ((g2 k (by omega) (by omega)).trans r1)
  · exact g1.fr (g4 _ (by omega) (by omega)) (g4 _ (by omega) (by omega))
  · exact (g4 q (by omega) (by omega)).trans ((g2 q (by omega) (by omega)).trans (r0 q hq))
