/-! The class writes numbers and terms. (rows laid by wip/whole/wr3.py) -/
/-- the digits, the last first, and the dot, from place k down -/
def nbl (D : List Nat) (p : Nat) : Nat → List Nat
  | 0 => []
  | k + 1 => ((if k + 1 = p then [46] else []) ++ [D.getD k 0]) ++ nbl D p k
def nuW (x : Tm) (r : Nat) : List Nat := ((if 0 ≤ lg_cmp x.2.1 0 then [] else [45]) ++ nbl (tdl 18 0 r (x.2.2.1 + 1)) x.2.2.1 (tdl 18 0 r (x.2.2.1 + 1)).length) ++ (if x.1 = 4 ∧ x.2.2.1 = 0 then wl 7 else [])
def wrW (x : Tm) (r : Nat) : List Nat := if x.1 = 1 then wl 6 ++ x.2.2.2.1 else if x.1 = 2 then [60] ++ x.2.2.2.1 ++ [62] else if x.1 = 3 then nuW x r else if x.1 = 4 then nuW x r else if x.1 = 8 then (if x.2.1 = 1 then wl 0 else wl 1) else txW x
set_option maxRecDepth 100000 in
set_option maxHeartbeats 2000000 in
theorem wr_nu_e {X : ev_X} {c0 n z : Nat} {F0 : Nat → Option va_E} (h0 : W11 c0 F0) (hS : XS X c0) {j N1 N2 : Nat} {x : Tm} (g : trm c0 F0 j N1 N2 x) (hj : 26 ≤ j) (hk : okT x) {r : Nat} (hr : r < 10 ^ 18) (hx : x.2.1 = lN r ∨ x.2.1 = -lN r) {o d : List Nat} {F : Nat → Option va_E} (iv : Value) (ho : o.length ≤ 100) (hW : WR c0 F0 o d F) : Ex X m_Writer_addNumber 87 [.ref (c0 + 11), .ref (c0 + j), iv] [] (hp c0 n z F) (fun rr h' => rr = none ∧ ∃ F1, h' = hp c0 n z F1 ∧ WR c0 F0 (o ++ (if x.1 = 4 ∧ x.2.2.1 = 0 then wl 7 else [])) (d) F1) := by
  have h9 := hk.2.2.2.1
  refine Ex.nx rfl ?_
  refine Hx.get j rfl ((hW.1 j (by omega)).trans g.1) rfl ?_
  refine Ex.nx rfl ?_
  refine Ex.nx rfl ?_
  refine Ex.ite (fun c1 => ?_) (fun c1 => ?_)
  · replace c1 : ¬ x.1 = 4 := of_decide_eq_true c1
    show Ex X m_Writer_addNumber 111 [.ref (c0 + 11), .ref (c0 + j), iv] [] (hp c0 n _ _) _
    exact Ex.ret rfl rfl ⟨rfl, _, rfl, by rw [if_neg (fun h => c1 h.1)]; simpa using hW⟩
  · replace c1 : x.1 = 4 := Classical.not_not.mp (of_decide_eq_false c1)
    show Ex X m_Writer_addNumber 95 [.ref (c0 + 11), .ref (c0 + j), iv] [] (hp c0 n _ _) _
    refine Ex.nx rfl ?_
    refine Hx.get j rfl ((hW.1 j (by omega)).trans g.1) rfl ?_
    refine Ex.nx rfl ?_
    refine Ex.ite (fun c2 => ?_) (fun c2 => ?_)
    · replace c2 : ¬ (nI x.2.2.1) = 0 := of_decide_eq_true c2
      show Ex X m_Writer_addNumber 111 [.ref (c0 + 11), .ref (c0 + j), iv] [] (hp c0 n _ _) _
      exact Ex.ret rfl rfl ⟨rfl, _, rfl, by rw [if_neg (fun h => c2 (by rw [h.2]; rfl))]; simpa using hW⟩
    · replace c2 : (nI x.2.2.1) = 0 := Classical.not_not.mp (of_decide_eq_false c2)
      show Ex X m_Writer_addNumber 102 [.ref (c0 + 11), .ref (c0 + j), iv] [] (hp c0 n _ _) _
      refine Ex.nx rfl ?_
      refine Hx.get 11 rfl (WR.r11 h0 hW) rfl ?_
      refine Ex.nx rfl ?_
      refine Hx.rowc hW.2.1 rfl rfl rfl rfl (wr_word hS (k := 7) (by decide) hW (by first | (simp only [List.length_append, List.length_cons, List.length_nil, wl_len, wln_7]; omega) | (rw [wln_7]; omega))) ?_
      rintro v hh ⟨rfl, F23, rfl, hW23⟩
      show Ex X m_Writer_addNumber 111 [.ref (c0 + 11), .ref (c0 + j), iv] [] (hp c0 n _ _) _
      exact Ex.ret rfl rfl ⟨rfl, _, rfl, by rw [if_pos ⟨c1, (nI_eq (b := 0) (by omega) (by decide)).mp c2⟩]; simpa using hW23⟩
set_option maxRecDepth 100000 in
set_option maxHeartbeats 2000000 in
theorem wr_nu_l {X : ev_X} {c0 n z : Nat} {F0 : Nat → Option va_E} (h0 : W11 c0 F0) (hS : XS X c0) {j N1 N2 : Nat} {x : Tm} (g : trm c0 F0 j N1 N2 x) (hj : 26 ≤ j) (hk : okT x) {r : Nat} (hr : r < 10 ^ 18) (hx : x.2.1 = lN r ∨ x.2.1 = -lN r) {D : List Nat} (hD : ∀ i, D.getD i 0 < 256) (hDl : D.length ≤ 18) : ∀ (k : Nat) (o : List Nat) (F : Nat → Option va_E) (hkD : k ≤ D.length) (ho : o.length + 2 * k ≤ 60) (hW : WR c0 F0 o D F), Ex X m_Writer_addNumber 43 [.ref (c0 + 11), .ref (c0 + j), .int (nI k)] [] (hp c0 n z F) (fun rr h' => rr = none ∧ ∃ F1, h' = hp c0 n z F1 ∧ WR c0 F0 (o ++ nbl D x.2.2.1 k ++ (if x.1 = 4 ∧ x.2.2.1 = 0 then wl 7 else [])) (D) F1) := by
  have h9 := hk.2.2.2.1
  intro k
  induction k with
  | zero =>
    intro o F hkD ho hW
    show Ex X m_Writer_addNumber 43 [.ref (c0 + 11), .ref (c0 + j), .int 0] [] (hp c0 n z F) _
    refine Ex.nx rfl ?_
    refine Ex.nx rfl ?_
    show Ex X m_Writer_addNumber 87 [.ref (c0 + 11), .ref (c0 + j), .int 0] [] (hp c0 n _ _) _
    show Ex X m_Writer_addNumber 87 [.ref (c0 + 11), .ref (c0 + j), .int 0] [] (hp c0 n _ _) _
    rw [nbl, List.append_nil]
    exact wr_nu_e h0 hS g hj hk hr hx _ (by omega) hW
  | succ k ih =>
    intro o F hkD ho hW
    refine Ex.nx rfl ?_
    refine Ex.nx rfl ?_
    refine Ex.ite (fun c1 => ?_) (fun c1 => ?_)
    · replace c1 : (nI (k + 1)) ≤ 0 := of_decide_eq_true c1
      exact absurd c1 (nI_nle (by omega) (by omega))
    · replace c1 : ¬ (nI (k + 1)) ≤ 0 := of_decide_eq_false c1
      show Ex X m_Writer_addNumber 47 [.ref (c0 + 11), .ref (c0 + j), .int (nI (k + 1))] [] (hp c0 n _ _) _
      refine Ex.nx rfl ?_
      refine Ex.nx rfl ?_
      refine Hx.get j rfl ((hW.1 j (by omega)).trans g.1) rfl ?_
      refine Ex.nx rfl ?_
      refine Ex.ite (fun c2 => ?_) (fun c2 => ?_)
      · replace c2 : ¬ (nI (k + 1)) = (nI x.2.2.1) := of_decide_eq_true c2
        show Ex X m_Writer_addNumber 64 [.ref (c0 + 11), .ref (c0 + j), .int (nI (k + 1))] [] (hp c0 n _ _) _
        refine Ex.nx rfl ?_
        refine Hx.get 11 rfl (WR.r11 h0 hW) rfl ?_
        refine Ex.nx rfl ?_
        refine Hx.get 11 rfl (WR.r11 h0 hW) rfl ?_
        refine Ex.nx rfl ?_
        refine Ex.nx rfl ?_
        refine Ex.nx rfl ?_
        refine Hx.top (y := nI k) (nI_pred k) ?_
        refine Hx.rowE hW.2.2 rfl rfl rfl rfl (rl_at hW.2.2 (by decide) (i := k) (by omega)) ?_
        refine Hx.top (y := nI (D.getD k 0)) (hb_lt (by omega)) ?_
        show Ex X m_Writer_addNumber 78 [.ref (c0 + 11), .ref (c0 + j), .int (nI (k + 1))] [.int (nI (D.getD k 0)), .ref (c0 + 12)] (hp c0 n _ _) _
        refine WR.ado (x := (D.getD k 0)) hW (hD _) (by first | omega | (simp only [List.length_append, List.length_cons, List.length_nil, wl_len, wln_6]; omega)) rfl rfl ?_
        intro F24 hW24
        show Ex X m_Writer_addNumber 81 [.ref (c0 + 11), .ref (c0 + j), .int (nI (k + 1))] [] (hp c0 n _ _) _
        refine Ex.nx rfl ?_
        show Ex X m_Writer_addNumber 84 [.ref (c0 + 11), .ref (c0 + j), .int ((nI (k + 1)) + (-1))] [] (hp c0 n _ _) _
        refine Ex.nx rfl ?_
        show Ex X m_Writer_addNumber 43 [.ref (c0 + 11), .ref (c0 + j), .int ((nI (k + 1)) + (-1))] [] (hp c0 n _ _) _
        rw [pk_m1]
        refine (ih _ _ (by omega) (by simp only [List.length_append, List.length_cons, List.length_nil]; omega) hW24).mono ?_
        rintro r1 h1 ⟨rfl, F2, rfl, h2⟩
        exact ⟨rfl, F2, rfl, by rw [nbl, if_neg (fun q => c2 (by rw [q]))]; simpa using h2⟩
      · replace c2 : (nI (k + 1)) = (nI x.2.2.1) := Classical.not_not.mp (of_decide_eq_false c2)
        show Ex X m_Writer_addNumber 55 [.ref (c0 + 11), .ref (c0 + j), .int (nI (k + 1))] [] (hp c0 n _ _) _
        refine Ex.nx rfl ?_
        refine Hx.get 11 rfl (WR.r11 h0 hW) rfl ?_
        refine Ex.nx rfl ?_
        refine WR.ado (x := 46) hW (by decide) (by first | omega | (simp only [List.length_append, List.length_cons, List.length_nil, wl_len, wln_6]; omega)) rfl rfl ?_
        intro F25 hW25
        show Ex X m_Writer_addNumber 64 [.ref (c0 + 11), .ref (c0 + j), .int (nI (k + 1))] [] (hp c0 n _ _) _
        refine Ex.nx rfl ?_
        refine Hx.get 11 rfl (WR.r11 h0 hW25) rfl ?_
        refine Ex.nx rfl ?_
        refine Hx.get 11 rfl (WR.r11 h0 hW25) rfl ?_
        refine Ex.nx rfl ?_
        refine Ex.nx rfl ?_
        refine Ex.nx rfl ?_
        refine Hx.top (y := nI k) (nI_pred k) ?_
        refine Hx.rowE hW25.2.2 rfl rfl rfl rfl (rl_at hW25.2.2 (by decide) (i := k) (by omega)) ?_
        refine Hx.top (y := nI (D.getD k 0)) (hb_lt (by omega)) ?_
        show Ex X m_Writer_addNumber 78 [.ref (c0 + 11), .ref (c0 + j), .int (nI (k + 1))] [.int (nI (D.getD k 0)), .ref (c0 + 12)] (hp c0 n _ _) _
        refine WR.ado (x := (D.getD k 0)) hW25 (hD _) (by first | omega | (simp only [List.length_append, List.length_cons, List.length_nil, wl_len, wln_6]; omega)) rfl rfl ?_
        intro F26 hW26
        show Ex X m_Writer_addNumber 81 [.ref (c0 + 11), .ref (c0 + j), .int (nI (k + 1))] [] (hp c0 n _ _) _
        refine Ex.nx rfl ?_
        show Ex X m_Writer_addNumber 84 [.ref (c0 + 11), .ref (c0 + j), .int ((nI (k + 1)) + (-1))] [] (hp c0 n _ _) _
        refine Ex.nx rfl ?_
        show Ex X m_Writer_addNumber 43 [.ref (c0 + 11), .ref (c0 + j), .int ((nI (k + 1)) + (-1))] [] (hp c0 n _ _) _
        rw [pk_m1]
        refine (ih _ _ (by omega) (by simp only [List.length_append, List.length_cons, List.length_nil]; omega) hW26).mono ?_
        rintro r1 h1 ⟨rfl, F2, rfl, h2⟩
        exact ⟨rfl, F2, rfl, by rw [nbl, if_pos ((nI_eq (by omega) (by omega)).mp c2)]; simpa using h2⟩
set_option maxRecDepth 100000 in
set_option maxHeartbeats 2000000 in
theorem wr_num {X : ev_X} {c0 n z : Nat} {F0 : Nat → Option va_E} (h0 : W11 c0 F0) (hS : XS X c0) {j N1 N2 : Nat} {x : Tm} (g : trm c0 F0 j N1 N2 x) (hj : 26 ≤ j) (hk : okT x) {r : Nat} (hr : r < 10 ^ 18) (hx : x.2.1 = lN r ∨ x.2.1 = -lN r) {d : List Nat} {F : Nat → Option va_E} (hW : WR c0 F0 [] d F) : Ex X m_Writer_addNumber 0 [.ref (c0 + 11), .ref (c0 + j), ev_dead] [] (hp c0 n z F) (fun rr h' => rr = none ∧ ∃ F1 D, h' = hp c0 n z F1 ∧ WR c0 F0 (nuW x r) D F1) := by
  have h9 := hk.2.2.2.1
  refine Ex.nx rfl ?_
  refine Hx.get j rfl ((hW.1 j (by omega)).trans g.1) rfl ?_
  refine Ex.nx rfl ?_
  refine Ex.nx rfl ?_
  refine Ex.nx rfl ?_
  refine Ex.ite (fun c1 => ?_) (fun c1 => ?_)
  · replace c1 : 0 ≤ (lg_cmp x.2.1 0) := of_decide_eq_true c1
    show Ex X m_Writer_addNumber 18 [.ref (c0 + 11), .ref (c0 + j), ev_dead] [] (hp c0 n _ _) _
    refine Ex.nx rfl ?_
    refine Ex.nx rfl ?_
    refine Hx.get j rfl ((hW.1 j (by omega)).trans g.1) rfl ?_
    refine Hx.abs rfl rfl ?_
    refine Hx.topL (y := lN r) (abs_lN hr hx) ?_
    show Ex X m_Writer_addNumber 26 [.ref (c0 + 11), .ref (c0 + j), ev_dead] [.long (lN r), .ref (c0 + 11)] (hp c0 n _ _) _
    refine Ex.nx rfl ?_
    refine Hx.get j rfl ((hW.1 j (by omega)).trans g.1) rfl ?_
    refine Ex.nx rfl ?_
    refine Ex.nx rfl ?_
    refine Hx.top (y := nI (x.2.2.1 + 1)) (nI_1 _) ?_
    refine Hx.callX 11 rfl rfl (WR.r11 h0 hW) rfl rfl (wr_td h0 (e := x.2.2.1 + 1) (r := r) (by omega) hr hW) ?_
    rintro v hh ⟨rfl, F27, rfl, hW27⟩
    show Ex X m_Writer_addNumber 35 [.ref (c0 + 11), .ref (c0 + j), ev_dead] [] (hp c0 n _ _) _
    refine Ex.nx rfl ?_
    refine Hx.get 11 rfl (WR.r11 h0 hW27) rfl ?_
    refine Hx.rowE hW27.2.2 rfl rfl rfl rfl (rl_size hW27.2.2) ?_
    show Ex X m_Writer_addNumber 42 [.ref (c0 + 11), .ref (c0 + j), ev_dead] [.int (nI (tdl 18 0 r (x.2.2.1 + 1)).length)] (hp c0 n _ _) _
    refine Ex.nx rfl ?_
    show Ex X m_Writer_addNumber 43 [.ref (c0 + 11), .ref (c0 + j), .int (nI (tdl 18 0 r (x.2.2.1 + 1)).length)] [] (hp c0 n _ _) _
    show Ex X m_Writer_addNumber 43 [.ref (c0 + 11), .ref (c0 + j), .int (nI (tdl 18 0 r (x.2.2.1 + 1)).length)] [] (hp c0 n _ _) _
    refine (wr_nu_l h0 hS g hj hk hr hx hW27.2.2.by (tdl_len _ _ _ _) (tdl 18 0 r (x.2.2.1 + 1)).length _ _ (Nat.le_refl _) (by have := tdl_len 18 0 r (x.2.2.1 + 1); simp only [List.length_append, List.length_cons, List.length_nil]; omega) hW27).mono ?_
    rintro r1 h1 ⟨rfl, F2, rfl, h2⟩
    exact ⟨rfl, F2, _, rfl, by rw [nuW, if_pos c1]; simpa using h2⟩
  · replace c1 : ¬ 0 ≤ (lg_cmp x.2.1 0) := of_decide_eq_false c1
    show Ex X m_Writer_addNumber 9 [.ref (c0 + 11), .ref (c0 + j), ev_dead] [] (hp c0 n _ _) _
    refine Ex.nx rfl ?_
    refine Hx.get 11 rfl (WR.r11 h0 hW) rfl ?_
    refine Ex.nx rfl ?_
    refine WR.ado (x := 45) hW (by decide) (by first | omega | (simp only [List.length_append, List.length_cons, List.length_nil, wl_len, wln_6]; omega)) rfl rfl ?_
    intro F28 hW28
    show Ex X m_Writer_addNumber 18 [.ref (c0 + 11), .ref (c0 + j), ev_dead] [] (hp c0 n _ _) _
    refine Ex.nx rfl ?_
    refine Ex.nx rfl ?_
    refine Hx.get j rfl ((hW28.1 j (by omega)).trans g.1) rfl ?_
    refine Hx.abs rfl rfl ?_
    refine Hx.topL (y := lN r) (abs_lN hr hx) ?_
    show Ex X m_Writer_addNumber 26 [.ref (c0 + 11), .ref (c0 + j), ev_dead] [.long (lN r), .ref (c0 + 11)] (hp c0 n _ _) _
    refine Ex.nx rfl ?_
    refine Hx.get j rfl ((hW28.1 j (by omega)).trans g.1) rfl ?_
    refine Ex.nx rfl ?_
    refine Ex.nx rfl ?_
    refine Hx.top (y := nI (x.2.2.1 + 1)) (nI_1 _) ?_
    refine Hx.callX 11 rfl rfl (WR.r11 h0 hW28) rfl rfl (wr_td h0 (e := x.2.2.1 + 1) (r := r) (by omega) hr hW28) ?_
    rintro v hh ⟨rfl, F29, rfl, hW29⟩
    show Ex X m_Writer_addNumber 35 [.ref (c0 + 11), .ref (c0 + j), ev_dead] [] (hp c0 n _ _) _
    refine Ex.nx rfl ?_
    refine Hx.get 11 rfl (WR.r11 h0 hW29) rfl ?_
    refine Hx.rowE hW29.2.2 rfl rfl rfl rfl (rl_size hW29.2.2) ?_
    show Ex X m_Writer_addNumber 42 [.ref (c0 + 11), .ref (c0 + j), ev_dead] [.int (nI (tdl 18 0 r (x.2.2.1 + 1)).length)] (hp c0 n _ _) _
    refine Ex.nx rfl ?_
    show Ex X m_Writer_addNumber 43 [.ref (c0 + 11), .ref (c0 + j), .int (nI (tdl 18 0 r (x.2.2.1 + 1)).length)] [] (hp c0 n _ _) _
    show Ex X m_Writer_addNumber 43 [.ref (c0 + 11), .ref (c0 + j), .int (nI (tdl 18 0 r (x.2.2.1 + 1)).length)] [] (hp c0 n _ _) _
    refine (wr_nu_l h0 hS g hj hk hr hx hW29.2.2.by (tdl_len _ _ _ _) (tdl 18 0 r (x.2.2.1 + 1)).length _ _ (Nat.le_refl _) (by have := tdl_len 18 0 r (x.2.2.1 + 1); simp only [List.length_append, List.length_cons, List.length_nil]; omega) hW29).mono ?_
    rintro r1 h1 ⟨rfl, F2, rfl, h2⟩
    exact ⟨rfl, F2, _, rfl, by rw [nuW, if_neg c1]; simpa using h2⟩
set_option maxRecDepth 100000 in
set_option maxHeartbeats 2000000 in
theorem wr_term {X : ev_X} {c0 n z : Nat} {F0 : Nat → Option va_E} (h0 : W11 c0 F0) (hS : XS X c0) {j N1 N2 : Nat} {x : Tm} (g : trm c0 F0 j N1 N2 x) (hj : 26 ≤ j) (hk : okT x) {r : Nat} (hr : r < 10 ^ 18) (hx : x.2.1 = lN r ∨ x.2.1 = -lN r) {o d : List Nat} {F : Nat → Option va_E} (hW : WR c0 F0 o d F) : Ex X m_Writer_writeTerm 0 [.ref (c0 + 11), .ref (c0 + j)] [] (hp c0 n z F) (fun rr h' => rr = some (.int (nI (wrW x r).length)) ∧ ∃ F1 D, h' = hp c0 n z F1 ∧ WR c0 F0 (wrW x r) D F1) := by
  have h64 := hk.1
  have h60 := hk.2.1
  refine Ex.nx rfl ?_
  refine Hx.get 11 rfl (WR.r11 h0 hW) rfl ?_
  refine WR.clo hW rfl rfl ?_
  intro F30 hW30
  show Ex X m_Writer_writeTerm 7 [.ref (c0 + 11), .ref (c0 + j)] [] (hp c0 n _ _) _
  refine Ex.nx rfl ?_
  refine Hx.get j rfl ((hW30.1 j (by omega)).trans g.1) rfl ?_
  rcases hk.2.2.2.2 with e | e | e | e | e | e | e | e
  · refine Hx.top (y := 1) e ?_
    refine Ex.nx rfl ?_
    show Ex X m_Writer_writeTerm 56 [.ref (c0 + 11), .ref (c0 + j)] [] (hp c0 n _ _) _
    refine Ex.nx rfl ?_
    refine Hx.get 11 rfl (WR.r11 h0 hW30) rfl ?_
    refine Ex.nx rfl ?_
    refine Hx.rowc hW30.2.1 rfl rfl rfl rfl (wr_word hS (k := 6) (by decide) hW30 (by first | (simp only [List.length_append, List.length_cons, List.length_nil, wl_len, wln_6]; omega) | (rw [wln_6]; omega))) ?_
    rintro v hh ⟨rfl, F31, rfl, hW31⟩
    show Ex X m_Writer_writeTerm 65 [.ref (c0 + 11), .ref (c0 + j)] [] (hp c0 n _ _) _
    refine Ex.nx rfl ?_
    refine Hx.get 11 rfl (WR.r11 h0 hW31) rfl ?_
    refine Ex.nx rfl ?_
    refine Hx.get j rfl ((hW31.1 j (by omega)).trans g.1) rfl ?_
    refine WR.ada hW31 g.2.1 g.2.2.2.1 (by omega) (by omega) (by first | omega | (simp only [List.length_append, List.length_cons, List.length_nil, wl_len, wln_6]; omega)) rfl rfl ?_
    intro F32 hW32
    show Ex X m_Writer_writeTerm 76 [.ref (c0 + 11), .ref (c0 + j)] [] (hp c0 n _ _) _
    refine Ex.nx rfl ?_
    refine Ex.nx rfl ?_
    refine Hx.get 11 rfl (WR.r11 h0 hW32) rfl ?_
    refine Hx.rowE hW32.2.1 rfl rfl rfl rfl (rl_size hW32.2.1) ?_
    show Ex X m_Writer_writeTerm 136 [.ref (c0 + 11), .ref (c0 + j)] [.int (nI ((([] : List Nat) ++ wl 6) ++ x.2.2.2.1).length)] (hp c0 n _ _) _
    exact Ex.ret rfl (ev_reti rfl) (by rw [show wrW x r = ((([] : List Nat) ++ wl 6) ++ x.2.2.2.1) by rw [wrW, if_pos e] <;> rfl]; exact ⟨rfl, _, _, rfl, hW32⟩)
  · refine Hx.top (y := 2) e ?_
    refine Ex.nx rfl ?_
    show Ex X m_Writer_writeTerm 79 [.ref (c0 + 11), .ref (c0 + j)] [] (hp c0 n _ _) _
    refine Ex.nx rfl ?_
    refine Ex.nx rfl ?_
    refine Hx.get j rfl ((hW30.1 j (by omega)).trans g.1) rfl ?_
    refine Hx.callX 11 rfl rfl (WR.r11 h0 hW30) rfl rfl (wr_name h0 hW30 g.2.1 g.2.2.2.1 (by omega) (by omega) (by simp only [List.length_nil]; omega)) ?_
    rintro v hh ⟨rfl, F33, rfl, hW33⟩
    show Ex X m_Writer_writeTerm 87 [.ref (c0 + 11), .ref (c0 + j)] [] (hp c0 n _ _) _
    refine Ex.nx rfl ?_
    refine Ex.nx rfl ?_
    refine Hx.get 11 rfl (WR.r11 h0 hW33) rfl ?_
    refine Hx.rowE hW33.2.1 rfl rfl rfl rfl (rl_size hW33.2.1) ?_
    show Ex X m_Writer_writeTerm 136 [.ref (c0 + 11), .ref (c0 + j)] [.int (nI (([] : List Nat) ++ ([60] ++ x.2.2.2.1 ++ [62])).length)] (hp c0 n _ _) _
    exact Ex.ret rfl (ev_reti rfl) (by rw [show wrW x r = (([] : List Nat) ++ ([60] ++ x.2.2.2.1 ++ [62])) by rw [wrW, if_neg (by rw [e]; decide), if_pos e] <;> rfl]; exact ⟨rfl, _, _, rfl, hW33⟩)
  · refine Hx.top (y := 3) e ?_
    refine Ex.nx rfl ?_
    show Ex X m_Writer_writeTerm 90 [.ref (c0 + 11), .ref (c0 + j)] [] (hp c0 n _ _) _
    refine Ex.nx rfl ?_
    refine Ex.nx rfl ?_
    refine Hx.callX 11 rfl rfl (WR.r11 h0 hW30) rfl rfl (wr_num h0 hS g hj hk hr hx hW30) ?_
    rintro v hh ⟨rfl, F34, D34, rfl, hW34⟩
    show Ex X m_Writer_writeTerm 95 [.ref (c0 + 11), .ref (c0 + j)] [] (hp c0 n _ _) _
    refine Ex.nx rfl ?_
    refine Ex.nx rfl ?_
    refine Hx.get 11 rfl (WR.r11 h0 hW34) rfl ?_
    refine Hx.rowE hW34.2.1 rfl rfl rfl rfl (rl_size hW34.2.1) ?_
    show Ex X m_Writer_writeTerm 136 [.ref (c0 + 11), .ref (c0 + j)] [.int (nI (nuW x r).length)] (hp c0 n _ _) _
    exact Ex.ret rfl (ev_reti rfl) (by rw [show wrW x r = (nuW x r) by rw [wrW, if_neg (by rw [e]; decide), if_neg (by rw [e]; decide), if_pos e]]; exact ⟨rfl, _, _, rfl, hW34⟩)
  · refine Hx.top (y := 4) e ?_
    refine Ex.nx rfl ?_
    show Ex X m_Writer_writeTerm 90 [.ref (c0 + 11), .ref (c0 + j)] [] (hp c0 n _ _) _
    refine Ex.nx rfl ?_
    refine Ex.nx rfl ?_
    refine Hx.callX 11 rfl rfl (WR.r11 h0 hW30) rfl rfl (wr_num h0 hS g hj hk hr hx hW30) ?_
    rintro v hh ⟨rfl, F35, D35, rfl, hW35⟩
    show Ex X m_Writer_writeTerm 95 [.ref (c0 + 11), .ref (c0 + j)] [] (hp c0 n _ _) _
    refine Ex.nx rfl ?_
    refine Ex.nx rfl ?_
    refine Hx.get 11 rfl (WR.r11 h0 hW35) rfl ?_
    refine Hx.rowE hW35.2.1 rfl rfl rfl rfl (rl_size hW35.2.1) ?_
    show Ex X m_Writer_writeTerm 136 [.ref (c0 + 11), .ref (c0 + j)] [.int (nI (nuW x r).length)] (hp c0 n _ _) _
    exact Ex.ret rfl (ev_reti rfl) (by rw [show wrW x r = (nuW x r) by rw [wrW, if_neg (by rw [e]; decide), if_neg (by rw [e]; decide), if_neg (by rw [e]; decide), if_pos e]]; exact ⟨rfl, _, _, rfl, hW35⟩)
  · refine Hx.top (y := 5) e ?_
    refine Ex.nx rfl ?_
    show Ex X m_Writer_writeTerm 124 [.ref (c0 + 11), .ref (c0 + j)] [] (hp c0 n _ _) _
    refine Ex.nx rfl ?_
    refine Ex.nx rfl ?_
    refine Hx.callX 11 rfl rfl (WR.r11 h0 hW30) rfl rfl (wr_text h0 hS g hj hk hW30) ?_
    rintro v hh ⟨rfl, F36, rfl, hW36⟩
    show Ex X m_Writer_writeTerm 129 [.ref (c0 + 11), .ref (c0 + j)] [] (hp c0 n _ _) _
    refine Ex.nx rfl ?_
    refine Hx.get 11 rfl (WR.r11 h0 hW36) rfl ?_
    refine Hx.rowE hW36.2.1 rfl rfl rfl rfl (rl_size hW36.2.1) ?_
    show Ex X m_Writer_writeTerm 136 [.ref (c0 + 11), .ref (c0 + j)] [.int (nI (txW x).length)] (hp c0 n _ _) _
    exact Ex.ret rfl (ev_reti rfl) (by rw [show wrW x r = (txW x) by rw [wrW, if_neg (by rw [e]; decide), if_neg (by rw [e]; decide), if_neg (by rw [e]; decide), if_neg (by rw [e]; decide), if_neg (by rw [e]; decide)]]; exact ⟨rfl, _, _, rfl, hW36⟩)
  · refine Hx.top (y := 6) e ?_
    refine Ex.nx rfl ?_
    show Ex X m_Writer_writeTerm 124 [.ref (c0 + 11), .ref (c0 + j)] [] (hp c0 n _ _) _
    refine Ex.nx rfl ?_
    refine Ex.nx rfl ?_
    refine Hx.callX 11 rfl rfl (WR.r11 h0 hW30) rfl rfl (wr_text h0 hS g hj hk hW30) ?_
    rintro v hh ⟨rfl, F37, rfl, hW37⟩
    show Ex X m_Writer_writeTerm 129 [.ref (c0 + 11), .ref (c0 + j)] [] (hp c0 n _ _) _
    refine Ex.nx rfl ?_
    refine Hx.get 11 rfl (WR.r11 h0 hW37) rfl ?_
    refine Hx.rowE hW37.2.1 rfl rfl rfl rfl (rl_size hW37.2.1) ?_
    show Ex X m_Writer_writeTerm 136 [.ref (c0 + 11), .ref (c0 + j)] [.int (nI (txW x).length)] (hp c0 n _ _) _
    exact Ex.ret rfl (ev_reti rfl) (by rw [show wrW x r = (txW x) by rw [wrW, if_neg (by rw [e]; decide), if_neg (by rw [e]; decide), if_neg (by rw [e]; decide), if_neg (by rw [e]; decide), if_neg (by rw [e]; decide)]]; exact ⟨rfl, _, _, rfl, hW37⟩)
  · refine Hx.top (y := 7) e ?_
    refine Ex.nx rfl ?_
    show Ex X m_Writer_writeTerm 124 [.ref (c0 + 11), .ref (c0 + j)] [] (hp c0 n _ _) _
    refine Ex.nx rfl ?_
    refine Ex.nx rfl ?_
    refine Hx.callX 11 rfl rfl (WR.r11 h0 hW30) rfl rfl (wr_text h0 hS g hj hk hW30) ?_
    rintro v hh ⟨rfl, F38, rfl, hW38⟩
    show Ex X m_Writer_writeTerm 129 [.ref (c0 + 11), .ref (c0 + j)] [] (hp c0 n _ _) _
    refine Ex.nx rfl ?_
    refine Hx.get 11 rfl (WR.r11 h0 hW38) rfl ?_
    refine Hx.rowE hW38.2.1 rfl rfl rfl rfl (rl_size hW38.2.1) ?_
    show Ex X m_Writer_writeTerm 136 [.ref (c0 + 11), .ref (c0 + j)] [.int (nI (txW x).length)] (hp c0 n _ _) _
    exact Ex.ret rfl (ev_reti rfl) (by rw [show wrW x r = (txW x) by rw [wrW, if_neg (by rw [e]; decide), if_neg (by rw [e]; decide), if_neg (by rw [e]; decide), if_neg (by rw [e]; decide), if_neg (by rw [e]; decide)]]; exact ⟨rfl, _, _, rfl, hW38⟩)
  · refine Hx.top (y := 8) e ?_
    refine Ex.nx rfl ?_
    show Ex X m_Writer_writeTerm 98 [.ref (c0 + 11), .ref (c0 + j)] [] (hp c0 n _ _) _
    refine Ex.nx rfl ?_
    refine Hx.get 11 rfl (WR.r11 h0 hW30) rfl ?_
    refine Ex.nx rfl ?_
    refine Hx.get j rfl ((hW30.1 j (by omega)).trans g.1) rfl ?_
    refine Ex.nx rfl ?_
    refine Ex.nx rfl ?_
    refine Ex.nx rfl ?_
    refine Ex.ite (fun c1 => ?_) (fun c1 => ?_)
    · replace c1 : ¬ (lg_cmp x.2.1 1) = 0 := of_decide_eq_true c1
      show Ex X m_Writer_writeTerm 116 [.ref (c0 + 11), .ref (c0 + j)] [.ref (c0 + 12)] (hp c0 n _ _) _
      refine Ex.nx rfl ?_
      refine Hx.rowc hW30.2.1 rfl rfl rfl rfl (wr_word hS (k := 1) (by decide) hW30 (by first | (simp only [List.length_append, List.length_cons, List.length_nil, wl_len, wln_1]; omega) | (rw [wln_1]; omega))) ?_
      rintro v hh ⟨rfl, F39, rfl, hW39⟩
      show Ex X m_Writer_writeTerm 121 [.ref (c0 + 11), .ref (c0 + j)] [] (hp c0 n _ _) _
      refine Ex.nx rfl ?_
      refine Ex.nx rfl ?_
      refine Hx.get 11 rfl (WR.r11 h0 hW39) rfl ?_
      refine Hx.rowE hW39.2.1 rfl rfl rfl rfl (rl_size hW39.2.1) ?_
      show Ex X m_Writer_writeTerm 136 [.ref (c0 + 11), .ref (c0 + j)] [.int (nI (([] : List Nat) ++ wl 1).length)] (hp c0 n _ _) _
      exact Ex.ret rfl (ev_reti rfl) (by rw [show wrW x r = (([] : List Nat) ++ wl 1) by rw [wrW, if_neg (by rw [e]; decide), if_neg (by rw [e]; decide), if_neg (by rw [e]; decide), if_neg (by rw [e]; decide), if_pos e, if_neg (lgc1 c1)] <;> rfl]; exact ⟨rfl, _, _, rfl, hW39⟩)
    · replace c1 : (lg_cmp x.2.1 1) = 0 := Classical.not_not.mp (of_decide_eq_false c1)
      show Ex X m_Writer_writeTerm 111 [.ref (c0 + 11), .ref (c0 + j)] [.ref (c0 + 12)] (hp c0 n _ _) _
      refine Ex.nx rfl ?_
      refine Ex.nx rfl ?_
      refine Hx.rowc hW30.2.1 rfl rfl rfl rfl (wr_word hS (k := 0) (by decide) hW30 (by first | (simp only [List.length_append, List.length_cons, List.length_nil, wl_len, wln_0]; omega) | (rw [wln_0]; omega))) ?_
      rintro v hh ⟨rfl, F40, rfl, hW40⟩
      show Ex X m_Writer_writeTerm 121 [.ref (c0 + 11), .ref (c0 + j)] [] (hp c0 n _ _) _
      refine Ex.nx rfl ?_
      refine Ex.nx rfl ?_
      refine Hx.get 11 rfl (WR.r11 h0 hW40) rfl ?_
      refine Hx.rowE hW40.2.1 rfl rfl rfl rfl (rl_size hW40.2.1) ?_
      show Ex X m_Writer_writeTerm 136 [.ref (c0 + 11), .ref (c0 + j)] [.int (nI (([] : List Nat) ++ wl 0).length)] (hp c0 n _ _) _
      exact Ex.ret rfl (ev_reti rfl) (by rw [show wrW x r = (([] : List Nat) ++ wl 0) by rw [wrW, if_neg (by rw [e]; decide), if_neg (by rw [e]; decide), if_neg (by rw [e]; decide), if_neg (by rw [e]; decide), if_pos e, if_pos (lgc0 c1)] <;> rfl]; exact ⟨rfl, _, _, rfl, hW40⟩)
def wtO (o : List Nat) (t : Int32) : Int32 := if t < 0 then -1 else if t < nI o.length then hb o t.toNatClampNeg else -1
set_option maxRecDepth 100000 in
set_option maxHeartbeats 2000000 in
theorem wr_at {X : ev_X} {c0 n z : Nat} {F0 : Nat → Option va_E} (h0 : W11 c0 F0) {o d : List Nat} {F : Nat → Option va_E} (t : Int32) (hW : WR c0 F0 o d F) : Ex X m_Writer_byteAt 0 [.ref (c0 + 11), .int t] [] (hp c0 n z F) (fun rr h' => rr = some (.int (wtO o t)) ∧ h' = hp c0 n z F) := by
  refine Ex.nx rfl ?_
  refine Ex.nx rfl ?_
  refine Ex.ite (fun c1 => ?_) (fun c1 => ?_)
  · replace c1 : t < 0 := of_decide_eq_true c1
    show Ex X m_Writer_byteAt 15 [.ref (c0 + 11), .int t] [] (hp c0 n _ _) _
    refine Ex.nx rfl ?_
    refine Ex.nx rfl ?_
    exact Ex.ret rfl (ev_reti rfl) ⟨by rw [wtO, if_pos c1] <;> rfl, rfl⟩
  · replace c1 : ¬ t < 0 := of_decide_eq_false c1
    show Ex X m_Writer_byteAt 4 [.ref (c0 + 11), .int t] [] (hp c0 n _ _) _
    refine Ex.nx rfl ?_
    refine Ex.nx rfl ?_
    refine Hx.get 11 rfl (WR.r11 h0 hW) rfl ?_
    refine Hx.rowE hW.2.1 rfl rfl rfl rfl (rl_size hW.2.1) ?_
    show Ex X m_Writer_byteAt 12 [.ref (c0 + 11), .int t] [.int (nI o.length), .int t] (hp c0 n _ _) _
    refine Ex.nx rfl ?_
    refine Ex.ite (fun c2 => ?_) (fun c2 => ?_)
    · replace c2 : t < (nI o.length) := of_decide_eq_true c2
      show Ex X m_Writer_byteAt 19 [.ref (c0 + 11), .int t] [] (hp c0 n _ _) _
      refine Ex.nx rfl ?_
      refine Hx.get 11 rfl (WR.r11 h0 hW) rfl ?_
      refine Ex.nx rfl ?_
      obtain ⟨i, hi, rfl⟩ := nI_of c1
      refine Hx.rowE hW.2.1 rfl rfl rfl rfl (rl_at hW.2.1 (by decide) (i := i) hi) ?_
      exact Ex.ret rfl (ev_reti rfl) ⟨by rw [wtO, if_neg c1, if_pos c2, nI_clamp hi], rfl⟩
    · replace c2 : ¬ t < (nI o.length) := of_decide_eq_false c2
      show Ex X m_Writer_byteAt 15 [.ref (c0 + 11), .int t] [] (hp c0 n _ _) _
      refine Ex.nx rfl ?_
      refine Ex.nx rfl ?_
      exact Ex.ret rfl (ev_reti rfl) ⟨by rw [wtO, if_neg c1, if_neg c2] <;> rfl, rfl⟩
