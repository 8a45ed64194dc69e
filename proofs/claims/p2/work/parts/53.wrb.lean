/-! The class writes texts and digits. (rows laid by wip/whole/wr2.py) -/
theorem fm_s {m : List Nat} {i : Nat} (h : i < m.length) : (m.take i).flatMap esW ++ esW (m.getD i 0) = (m.take (i + 1)).flatMap esW := by
  rw [← take_s h, List.flatMap_append]; simp
theorem fm_len (m : List Nat) : (m.flatMap esW).length ≤ 2 * m.length := by
  induction m with
  | nil => exact Nat.le_refl _
  | cons a m ih =>
    rw [List.flatMap_cons, List.length_append, List.length_cons]
    have := esW_len a
    omega
theorem fm_len2 (m : List Nat) (i : Nat) (h : i ≤ m.length) : ((m.take i).flatMap esW).length ≤ 2 * i := by
  have := fm_len (m.take i)
  rw [List.length_take] at this
  omega
/-- what may be kept -/
def okT (x : Tm) : Prop := x.2.2.2.1.length ≤ 64 ∧ x.2.2.2.2.length ≤ 60 ∧ (∃ r : Nat, r < 10 ^ 18 ∧ (x.2.1 = lN r ∨ x.2.1 = -lN r)) ∧ x.2.2.1 ≤ 9 ∧ (x.1 = 1 ∨ x.1 = 2 ∨ x.1 = 3 ∨ x.1 = 4 ∨ x.1 = 5 ∨ x.1 = 6 ∨ x.1 = 7 ∨ x.1 = 8)
theorem Hx.abs {X : ev_X} {M pc nx b w idx : Nat} {A r : List Value} {Q : Option Value → ev_H → Prop} {h : ev_H} {x : Int64} (o : pg_ops M pc = some (.invokestatic idx, nx, 79, b, w)) (hs : Nat.ble (r.map fun v => v.category).sum 8 = true) (kk : Ex X M nx A (.long (if 0 < x then x else -x) :: r) h Q) : Ex X M pc A (.long x :: r) h Q :=
  Ex.hp o rfl rfl rfl rfl rfl (by simp only [ev_hp, ev_math]; rw [if_pos (Nat.le_of_ble_eq_true hs)]; rfl) kk
theorem lN_big {r : Nat} (h : r < 2 ^ 63) : (lN r).toInt = r := lg_ofNat_toInt h
theorem abs_lN {x : Int64} {r : Nat} (hr : r < 10 ^ 18) (h : x = lN r ∨ x = -lN r) : (if 0 < x then x else -x) = lN r := by
  have hb := lN_big (r := r) (by omega)
  have e0 : (0 : Int64).toInt = 0 := rfl
  rcases h with rfl | rfl
  · by_cases h0 : (0 : Int64) < lN r
    · rw [if_pos h0]
    · rw [if_neg h0]
      rw [Int64.lt_iff_toInt_lt, e0, hb] at h0
      have : r = 0 := by omega
      subst this
      decide
  · by_cases h0 : (0 : Int64) < -lN r
    · rw [Int64.lt_iff_toInt_lt, e0] at h0
      rcases i64_neg (lN r) with ⟨a, b⟩ | ⟨a, b⟩ <;> omega
    · rw [if_neg h0, Int64.neg_neg]
def txW (x : Tm) : List Nat := [34] ++ x.2.2.2.1.flatMap esW ++ [34] ++ (if x.1 = 6 then [64] ++ x.2.2.2.2 else if x.1 = 7 then wl 11 ++ ([60] ++ x.2.2.2.2 ++ [62]) else [])
set_option maxRecDepth 100000 in
set_option maxHeartbeats 2000000 in
theorem wr_tx_e {X : ev_X} {c0 n z : Nat} {F0 : Nat → Option va_E} (h0 : W11 c0 F0) (hS : XS X c0) {j N1 N2 : Nat} {x : Tm} (g : trm c0 F0 j N1 N2 x) (hj : 26 ≤ j) (hk : okT x) {d : List Nat} {F : Nat → Option va_E} (iv : Value) (hW : WR c0 F0 ([34] ++ x.2.2.2.1.flatMap esW) d F) : Ex X m_Writer_addText 40 [.ref (c0 + 11), .ref (c0 + j), iv] [] (hp c0 n z F) (fun rr h' => rr = none ∧ ∃ F1, h' = hp c0 n z F1 ∧ WR c0 F0 (txW x) (d) F1) := by
  have h64 := hk.1
  have h60 := hk.2.1
  refine Ex.nx rfl ?_
  refine Hx.get 11 rfl (WR.r11 h0 hW) rfl ?_
  refine Ex.nx rfl ?_
  refine WR.ado (x := 34) hW (by decide) (by have := fm_len x.2.2.2.1; simp only [List.length_append, List.length_cons, List.length_nil]; omega) rfl rfl ?_
  intro F13 hW13
  show Ex X m_Writer_addText 49 [.ref (c0 + 11), .ref (c0 + j), iv] [] (hp c0 n _ _) _
  refine Ex.nx rfl ?_
  refine Hx.get j rfl ((hW13.1 j (by omega)).trans g.1) rfl ?_
  refine Ex.nx rfl ?_
  refine Ex.nx rfl ?_
  refine Ex.ite (fun c1 => ?_) (fun c1 => ?_)
  · replace c1 : ¬ x.1 = 6 := of_decide_eq_true c1
    show Ex X m_Writer_addText 81 [.ref (c0 + 11), .ref (c0 + j), iv] [] (hp c0 n _ _) _
    refine Ex.nx rfl ?_
    refine Hx.get j rfl ((hW13.1 j (by omega)).trans g.1) rfl ?_
    refine Ex.nx rfl ?_
    refine Ex.nx rfl ?_
    refine Ex.ite (fun c2 => ?_) (fun c2 => ?_)
    · replace c2 : ¬ x.1 = 7 := of_decide_eq_true c2
      show Ex X m_Writer_addText 107 [.ref (c0 + 11), .ref (c0 + j), iv] [] (hp c0 n _ _) _
      exact Ex.ret rfl rfl ⟨rfl, _, rfl, by rw [txW, if_neg c1, if_neg c2]; simpa using hW13⟩
    · replace c2 : x.1 = 7 := Classical.not_not.mp (of_decide_eq_false c2)
      show Ex X m_Writer_addText 90 [.ref (c0 + 11), .ref (c0 + j), iv] [] (hp c0 n _ _) _
      refine Ex.nx rfl ?_
      refine Hx.get 11 rfl (WR.r11 h0 hW13) rfl ?_
      refine Ex.nx rfl ?_
      refine Hx.rowc hW13.2.1 rfl rfl rfl rfl (wr_word hS (k := 11) (by decide) hW13 (by have := fm_len x.2.2.2.1; simp only [List.length_append, List.length_cons, List.length_nil, wln_11]; omega)) ?_
      rintro v hh ⟨rfl, F14, rfl, hW14⟩
      show Ex X m_Writer_addText 99 [.ref (c0 + 11), .ref (c0 + j), iv] [] (hp c0 n _ _) _
      refine Ex.nx rfl ?_
      refine Ex.nx rfl ?_
      refine Hx.get j rfl ((hW14.1 j (by omega)).trans g.1) rfl ?_
      refine Hx.callX 11 rfl rfl (WR.r11 h0 hW14) rfl rfl (wr_name h0 hW14 g.2.2.1 g.2.2.2.2.1 (by omega) (by omega) (by have := fm_len x.2.2.2.1; simp only [List.length_append, List.length_cons, List.length_nil, wl_len, wln_11]; omega)) ?_
      rintro v hh ⟨rfl, F15, rfl, hW15⟩
      show Ex X m_Writer_addText 107 [.ref (c0 + 11), .ref (c0 + j), iv] [] (hp c0 n _ _) _
      exact Ex.ret rfl rfl ⟨rfl, _, rfl, by rw [txW, if_neg c1, if_pos c2]; simpa using hW15⟩
  · replace c1 : x.1 = 6 := Classical.not_not.mp (of_decide_eq_false c1)
    show Ex X m_Writer_addText 58 [.ref (c0 + 11), .ref (c0 + j), iv] [] (hp c0 n _ _) _
    refine Ex.nx rfl ?_
    refine Hx.get 11 rfl (WR.r11 h0 hW13) rfl ?_
    refine Ex.nx rfl ?_
    refine WR.ado (x := 64) hW13 (by decide) (by have := fm_len x.2.2.2.1; simp only [List.length_append, List.length_cons, List.length_nil]; omega) rfl rfl ?_
    intro F16 hW16
    show Ex X m_Writer_addText 67 [.ref (c0 + 11), .ref (c0 + j), iv] [] (hp c0 n _ _) _
    refine Ex.nx rfl ?_
    refine Hx.get 11 rfl (WR.r11 h0 hW16) rfl ?_
    refine Ex.nx rfl ?_
    refine Hx.get j rfl ((hW16.1 j (by omega)).trans g.1) rfl ?_
    refine WR.ada hW16 g.2.2.1 g.2.2.2.2.1 (by omega) (by omega) (by have := fm_len x.2.2.2.1; simp only [List.length_append, List.length_cons, List.length_nil]; omega) rfl rfl ?_
    intro F17 hW17
    show Ex X m_Writer_addText 78 [.ref (c0 + 11), .ref (c0 + j), iv] [] (hp c0 n _ _) _
    refine Ex.nx rfl ?_
    exact Ex.ret rfl rfl ⟨rfl, _, rfl, by rw [txW, if_pos c1]; simpa using hW17⟩
set_option maxRecDepth 100000 in
set_option maxHeartbeats 2000000 in
theorem wr_tx_l {X : ev_X} {c0 n z : Nat} {F0 : Nat → Option va_E} (h0 : W11 c0 F0) (hS : XS X c0) {j N1 N2 : Nat} {x : Tm} (g : trm c0 F0 j N1 N2 x) (hj : 26 ≤ j) (hk : okT x) {d : List Nat} : ∀ (m i : Nat) (F : Nat → Option va_E) (hm : i + m = x.2.2.2.1.length) (hW : WR c0 F0 ([34] ++ (x.2.2.2.1.take i).flatMap esW) d F), Ex X m_Writer_addText 11 [.ref (c0 + 11), .ref (c0 + j), .int (nI i)] [] (hp c0 n z F) (fun rr h' => rr = none ∧ ∃ F1, h' = hp c0 n z F1 ∧ WR c0 F0 (txW x) (d) F1) := by
  have h64 := hk.1
  intro m
  induction m with
  | zero =>
    intro i F hm hW
    refine Ex.nx rfl ?_
    refine Ex.nx rfl ?_
    refine Hx.get j rfl ((hW.1 j (by omega)).trans g.1) rfl ?_
    have gg := g.2.1.fr (hW.1 _ (by omega)) (hW.1 _ (by omega))
    refine Hx.rowE gg rfl rfl rfl rfl (rl_size gg) ?_
    clear gg
    show Ex X m_Writer_addText 19 [.ref (c0 + 11), .ref (c0 + j), .int (nI i)] [.int (nI x.2.2.2.1.length), .int (nI i)] (hp c0 n _ _) _
    refine Ex.nx rfl ?_
    refine Ex.ite (fun c1 => ?_) (fun c1 => ?_)
    · replace c1 : (nI x.2.2.2.1.length) ≤ (nI i) := of_decide_eq_true c1
      show Ex X m_Writer_addText 40 [.ref (c0 + 11), .ref (c0 + j), .int (nI i)] [] (hp c0 n _ _) _
      show Ex X m_Writer_addText 40 [.ref (c0 + 11), .ref (c0 + j), .int (nI i)] [] (hp c0 n _ _) _
      exact wr_tx_e h0 hS g hj hk _ (by rw [show i = x.2.2.2.1.length by omega, List.take_length] at hW; exact hW)
    · replace c1 : ¬ (nI x.2.2.2.1.length) ≤ (nI i) := of_decide_eq_false c1
      exact absurd (show nI x.2.2.2.1.length ≤ nI i by rw [show i = x.2.2.2.1.length by omega]; exact Int32.le_refl _) c1
  | succ m ih =>
    intro i F hm hW
    have hfl := fm_len2 x.2.2.2.1 i (by omega)
    refine Ex.nx rfl ?_
    refine Ex.nx rfl ?_
    refine Hx.get j rfl ((hW.1 j (by omega)).trans g.1) rfl ?_
    have gg := g.2.1.fr (hW.1 _ (by omega)) (hW.1 _ (by omega))
    refine Hx.rowE gg rfl rfl rfl rfl (rl_size gg) ?_
    clear gg
    show Ex X m_Writer_addText 19 [.ref (c0 + 11), .ref (c0 + j), .int (nI i)] [.int (nI x.2.2.2.1.length), .int (nI i)] (hp c0 n _ _) _
    refine Ex.nx rfl ?_
    refine Ex.ite (fun c1 => ?_) (fun c1 => ?_)
    · replace c1 : (nI x.2.2.2.1.length) ≤ (nI i) := of_decide_eq_true c1
      exact absurd ((nI_leI (by omega) (by omega)).mp c1) (by omega)
    · replace c1 : ¬ (nI x.2.2.2.1.length) ≤ (nI i) := of_decide_eq_false c1
      show Ex X m_Writer_addText 22 [.ref (c0 + 11), .ref (c0 + j), .int (nI i)] [] (hp c0 n _ _) _
      refine Ex.nx rfl ?_
      refine Ex.nx rfl ?_
      refine Hx.get j rfl ((hW.1 j (by omega)).trans g.1) rfl ?_
      refine Ex.nx rfl ?_
      have gg := g.2.1.fr (hW.1 _ (by omega)) (hW.1 _ (by omega))
      refine Hx.rowE gg rfl rfl rfl rfl (rl_at gg g.2.2.2.1 (i := i) (by omega)) ?_
      clear gg
      refine Hx.top (y := nI (x.2.2.2.1.getD i 0)) (hb_lt (by omega)) ?_
      show Ex X m_Writer_addText 31 [.ref (c0 + 11), .ref (c0 + j), .int (nI i)] [.int (nI (x.2.2.2.1.getD i 0)), .ref (c0 + 11)] (hp c0 n _ _) _
      refine Hx.callX 11 rfl rfl (WR.r11 h0 hW) rfl rfl (wr_item h0 hS (b := x.2.2.2.1.getD i 0) (g.2.1.by i) hW (by simp only [List.length_append, List.length_cons, List.length_nil]; omega)) ?_
      rintro v hh ⟨rfl, F18, rfl, hW18⟩
      show Ex X m_Writer_addText 34 [.ref (c0 + 11), .ref (c0 + j), .int (nI i)] [] (hp c0 n _ _) _
      refine Ex.nx rfl ?_
      show Ex X m_Writer_addText 37 [.ref (c0 + 11), .ref (c0 + j), .int ((nI i) + 1)] [] (hp c0 n _ _) _
      refine Ex.nx rfl ?_
      show Ex X m_Writer_addText 11 [.ref (c0 + 11), .ref (c0 + j), .int ((nI i) + 1)] [] (hp c0 n _ _) _
      rw [show nI i + 1 = nI (i + 1) from nI_1 i]
      rw [List.append_assoc, fm_s (by omega)] at hW18
      exact ih (i + 1) _ (by omega) hW18
set_option maxRecDepth 100000 in
set_option maxHeartbeats 2000000 in
theorem wr_text {X : ev_X} {c0 n z : Nat} {F0 : Nat → Option va_E} (h0 : W11 c0 F0) (hS : XS X c0) {j N1 N2 : Nat} {x : Tm} (g : trm c0 F0 j N1 N2 x) (hj : 26 ≤ j) (hk : okT x) {d : List Nat} {F : Nat → Option va_E} (hW : WR c0 F0 [] d F) : Ex X m_Writer_addText 0 [.ref (c0 + 11), .ref (c0 + j), ev_dead] [] (hp c0 n z F) (fun rr h' => rr = none ∧ ∃ F1, h' = hp c0 n z F1 ∧ WR c0 F0 (txW x) (d) F1) := by
  refine Ex.nx rfl ?_
  refine Hx.get 11 rfl (WR.r11 h0 hW) rfl ?_
  refine Ex.nx rfl ?_
  refine WR.ado (x := 34) hW (by decide) (by first | omega | (simp only [List.length_append, List.length_cons, List.length_nil, wl_len, wln_6]; omega)) rfl rfl ?_
  intro F19 hW19
  show Ex X m_Writer_addText 9 [.ref (c0 + 11), .ref (c0 + j), ev_dead] [] (hp c0 n _ _) _
  refine Ex.nx rfl ?_
  refine Ex.nx rfl ?_
  show Ex X m_Writer_addText 11 [.ref (c0 + 11), .ref (c0 + j), .int 0] [] (hp c0 n _ _) _
  show Ex X m_Writer_addText 11 [.ref (c0 + 11), .ref (c0 + j), .int 0] [] (hp c0 n _ _) _
  exact wr_tx_l h0 hS g hj hk x.2.2.2.1.length 0 _ (by omega) (by simpa using hW19)
/-- a number's digits, the last one first, at least e of them -/
def tdl : Nat → Nat → Nat → Nat → List Nat
  | 0, _, _, _ => []
  | m + 1, i, r, e => if 0 < r ∨ i < e then (48 + r % 10) :: tdl m (i + 1) (r / 10) e else []
theorem tdl_len : ∀ (m i r e : Nat), (tdl m i r e).length ≤ m := by
  intro m
  induction m with
  | zero => intro i r e; exact Nat.le_refl _
  | succ m ih =>
    intro i r e
    rw [tdl]
    split
    · rw [List.length_cons]; have := ih (i + 1) (r / 10) e; omega
    · exact Nat.zero_le _
theorem td_v {r : Nat} (hr : r < 2 ^ 63) : 48 + (lN r - lN r / 10 * 10).toInt32 = nI (48 + r % 10) := by
  rw [show (10 : Int64) = lN 10 from rfl, pk_lRem hr (by decide) (by decide), lN_i]
  exact nI_add 48 (r % 10)
theorem lN_pos {r : Nat} (hr : r < 2 ^ 63) : 0 < lg_cmp (lN r) 0 ↔ 0 < r := by
  rw [lgc_p, Int64.lt_iff_toInt_lt, lN_big hr, show (0 : Int64).toInt = 0 from rfl]; omega
theorem Hx.topL {X : ev_X} {M pc : Nat} {A r : List Value} {Q : Option Value → ev_H → Prop} {h0 : ev_H} {x y : Int64} (h : x = y) (k : Ex X M pc A (.long y :: r) h0 Q) : Ex X M pc A (.long x :: r) h0 Q := h ▸ k
set_option maxRecDepth 100000 in
set_option maxHeartbeats 2000000 in
theorem wr_td_l {X : ev_X} {c0 n z : Nat} {F0 : Nat → Option va_E} (h0 : W11 c0 F0) (nv : Int64) {o : List Nat} {e : Nat} (he : e ≤ 100) : ∀ (m i r : Nat) (d : List Nat) (F : Nat → Option va_E) (hm : i + m = 18) (hd : d.length ≤ i) (hr : r < 10 ^ 18) (hW : WR c0 F0 o d F), Ex X m_Writer_takeDigits 13 [.ref (c0 + 11), .long nv, ev_dead, .int (nI e), .long (lN r), ev_dead, .int (nI i)] [] (hp c0 n z F) (fun rr h' => rr = none ∧ ∃ F1, h' = hp c0 n z F1 ∧ WR c0 F0 (o) (d ++ tdl m i r e) F1) := by
  intro m
  induction m with
  | zero =>
    intro i r d F hm hd hr hW
    refine Ex.nx rfl ?_
    refine Ex.nx rfl ?_
    refine Ex.nx rfl ?_
    refine Ex.ite (fun c1 => ?_) (fun c1 => ?_)
    · replace c1 : 18 ≤ (nI i) := of_decide_eq_true c1
      show Ex X m_Writer_takeDigits 64 [.ref (c0 + 11), .long nv, ev_dead, .int (nI e), .long (lN r), ev_dead, .int (nI i)] [] (hp c0 n _ _) _
      exact Ex.ret rfl rfl ⟨rfl, _, rfl, by rw [tdl, List.append_nil]; exact hW⟩
    · replace c1 : ¬ 18 ≤ (nI i) := of_decide_eq_false c1
      exact absurd (show (18 : Int32) ≤ nI i by rw [show i = 18 by omega]; decide) c1
  | succ m ih =>
    intro i r d F hm hd hr hW
    refine Ex.nx rfl ?_
    refine Ex.nx rfl ?_
    refine Ex.nx rfl ?_
    refine Ex.ite (fun c1 => ?_) (fun c1 => ?_)
    · replace c1 : 18 ≤ (nI i) := of_decide_eq_true c1
      exact absurd ((nI_leI (a := 18) (by decide) (by omega)).mp c1) (by omega)
    · replace c1 : ¬ 18 ≤ (nI i) := of_decide_eq_false c1
      show Ex X m_Writer_takeDigits 20 [.ref (c0 + 11), .long nv, ev_dead, .int (nI e), .long (lN r), ev_dead, .int (nI i)] [] (hp c0 n _ _) _
      refine Ex.nx rfl ?_
      refine Ex.nx rfl ?_
      refine Ex.nx rfl ?_
      refine Ex.nx rfl ?_
      refine Ex.ite (fun c2 => ?_) (fun c2 => ?_)
      · replace c2 : 0 < (lg_cmp (lN r) 0) := of_decide_eq_true c2
        show Ex X m_Writer_takeDigits 33 [.ref (c0 + 11), .long nv, ev_dead, .int (nI e), .long (lN r), ev_dead, .int (nI i)] [] (hp c0 n _ _) _
        refine Ex.nx rfl ?_
        refine Hx.get 11 rfl (WR.r11 h0 hW) rfl ?_
        refine Ex.nx rfl ?_
        refine Ex.nx rfl ?_
        refine Ex.nx rfl ?_
        refine Ex.nx rfl ?_
        refine Ex.nx rfl ?_
        refine Ex.nx rfl ?_
        refine Hx.top (y := nI (48 + r % 10)) (td_v (by omega)) ?_
        refine WR.add (x := (48 + r % 10)) hW (by omega) (by omega) rfl rfl ?_
        intro F20 hW20
        show Ex X m_Writer_takeDigits 50 [.ref (c0 + 11), .long nv, ev_dead, .int (nI e), .long (lN r), ev_dead, .int (nI i)] [] (hp c0 n _ _) _
        refine Ex.nx rfl ?_
        refine Ex.nx rfl ?_
        refine Ex.nx rfl ?_
        refine Hx.topL (y := lN (r / 10)) (pk_lDiv (b := 10) (by omega) (by decide) (by decide)) ?_
        refine Ex.nx rfl ?_
        show Ex X m_Writer_takeDigits 58 [.ref (c0 + 11), .long nv, ev_dead, .int (nI e), .long (lN (r / 10)), ev_dead, .int (nI i)] [] (hp c0 n _ _) _
        refine Ex.nx rfl ?_
        show Ex X m_Writer_takeDigits 61 [.ref (c0 + 11), .long nv, ev_dead, .int (nI e), .long (lN (r / 10)), ev_dead, .int ((nI i) + 1)] [] (hp c0 n _ _) _
        refine Ex.nx rfl ?_
        show Ex X m_Writer_takeDigits 13 [.ref (c0 + 11), .long nv, ev_dead, .int (nI e), .long (lN (r / 10)), ev_dead, .int ((nI i) + 1)] [] (hp c0 n _ _) _
        rw [show nI i + 1 = nI (i + 1) from nI_1 i, show tdl (m + 1) i r e = (48 + r % 10) :: tdl m (i + 1) (r / 10) e from if_pos (Or.inl ((lN_pos (by omega)).mp c2))]
        refine (ih (i + 1) (r / 10) _ _ (by omega) (by simp only [List.length_append, List.length_cons, List.length_nil]; omega) (by omega) hW20).mono ?_
        rintro r1 h1 ⟨rfl, F2, rfl, h2⟩
        exact ⟨rfl, F2, rfl, by simpa using h2⟩
      · replace c2 : ¬ 0 < (lg_cmp (lN r) 0) := of_decide_eq_false c2
        show Ex X m_Writer_takeDigits 27 [.ref (c0 + 11), .long nv, ev_dead, .int (nI e), .long (lN r), ev_dead, .int (nI i)] [] (hp c0 n _ _) _
        refine Ex.nx rfl ?_
        refine Ex.nx rfl ?_
        refine Ex.nx rfl ?_
        refine Ex.ite (fun c3 => ?_) (fun c3 => ?_)
        · replace c3 : (nI e) ≤ (nI i) := of_decide_eq_true c3
          show Ex X m_Writer_takeDigits 64 [.ref (c0 + 11), .long nv, ev_dead, .int (nI e), .long (lN r), ev_dead, .int (nI i)] [] (hp c0 n _ _) _
          exact Ex.ret rfl rfl ⟨rfl, _, rfl, by rw [show tdl (m + 1) i r e = [] from if_neg (by rintro (q | q); exact c2 ((lN_pos (by omega)).mpr q); exact absurd ((nI_leI (by omega) (by omega)).mp c3) (by omega)), List.append_nil]; exact hW⟩
        · replace c3 : ¬ (nI e) ≤ (nI i) := of_decide_eq_false c3
          show Ex X m_Writer_takeDigits 33 [.ref (c0 + 11), .long nv, ev_dead, .int (nI e), .long (lN r), ev_dead, .int (nI i)] [] (hp c0 n _ _) _
          refine Ex.nx rfl ?_
          refine Hx.get 11 rfl (WR.r11 h0 hW) rfl ?_
          refine Ex.nx rfl ?_
          refine Ex.nx rfl ?_
          refine Ex.nx rfl ?_
          refine Ex.nx rfl ?_
          refine Ex.nx rfl ?_
          refine Ex.nx rfl ?_
          refine Hx.top (y := nI (48 + r % 10)) (td_v (by omega)) ?_
          refine WR.add (x := (48 + r % 10)) hW (by omega) (by omega) rfl rfl ?_
          intro F21 hW21
          show Ex X m_Writer_takeDigits 50 [.ref (c0 + 11), .long nv, ev_dead, .int (nI e), .long (lN r), ev_dead, .int (nI i)] [] (hp c0 n _ _) _
          refine Ex.nx rfl ?_
          refine Ex.nx rfl ?_
          refine Ex.nx rfl ?_
          refine Hx.topL (y := lN (r / 10)) (pk_lDiv (b := 10) (by omega) (by decide) (by decide)) ?_
          refine Ex.nx rfl ?_
          show Ex X m_Writer_takeDigits 58 [.ref (c0 + 11), .long nv, ev_dead, .int (nI e), .long (lN (r / 10)), ev_dead, .int (nI i)] [] (hp c0 n _ _) _
          refine Ex.nx rfl ?_
          show Ex X m_Writer_takeDigits 61 [.ref (c0 + 11), .long nv, ev_dead, .int (nI e), .long (lN (r / 10)), ev_dead, .int ((nI i) + 1)] [] (hp c0 n _ _) _
          refine Ex.nx rfl ?_
          show Ex X m_Writer_takeDigits 13 [.ref (c0 + 11), .long nv, ev_dead, .int (nI e), .long (lN (r / 10)), ev_dead, .int ((nI i) + 1)] [] (hp c0 n _ _) _
          rw [show nI i + 1 = nI (i + 1) from nI_1 i, show tdl (m + 1) i r e = (48 + r % 10) :: tdl m (i + 1) (r / 10) e from if_pos (Or.inr (Nat.lt_of_not_le (fun q => c3 ((nI_leI (by omega) (by omega)).mpr q))))]
          refine (ih (i + 1) (r / 10) _ _ (by omega) (by simp only [List.length_append, List.length_cons, List.length_nil]; omega) (by omega) hW21).mono ?_
          rintro r1 h1 ⟨rfl, F2, rfl, h2⟩
          exact ⟨rfl, F2, rfl, by simpa using h2⟩
set_option maxRecDepth 100000 in
set_option maxHeartbeats 2000000 in
theorem wr_td {X : ev_X} {c0 n z : Nat} {F0 : Nat → Option va_E} (h0 : W11 c0 F0) {o d : List Nat} {e r : Nat} (he : e ≤ 100) (hr : r < 10 ^ 18) {F : Nat → Option va_E} (hW : WR c0 F0 o d F) : Ex X m_Writer_takeDigits 0 [.ref (c0 + 11), .long (lN r), ev_dead, .int (nI e), ev_dead, ev_dead, ev_dead] [] (hp c0 n z F) (fun rr h' => rr = none ∧ ∃ F1, h' = hp c0 n z F1 ∧ WR c0 F0 (o) (tdl 18 0 r e) F1) := by
  refine Ex.nx rfl ?_
  refine Hx.get 11 rfl (WR.r11 h0 hW) rfl ?_
  refine WR.cld hW rfl rfl ?_
  intro F22 hW22
  show Ex X m_Writer_takeDigits 7 [.ref (c0 + 11), .long (lN r), ev_dead, .int (nI e), ev_dead, ev_dead, ev_dead] [] (hp c0 n _ _) _
  refine Ex.nx rfl ?_
  refine Ex.nx rfl ?_
  show Ex X m_Writer_takeDigits 10 [.ref (c0 + 11), .long (lN r), ev_dead, .int (nI e), .long (lN r), ev_dead, ev_dead] [] (hp c0 n _ _) _
  refine Ex.nx rfl ?_
  refine Ex.nx rfl ?_
  show Ex X m_Writer_takeDigits 13 [.ref (c0 + 11), .long (lN r), ev_dead, .int (nI e), .long (lN r), ev_dead, .int 0] [] (hp c0 n _ _) _
  show Ex X m_Writer_takeDigits 13 [.ref (c0 + 11), .long (lN r), ev_dead, .int (nI e), .long (lN r), ev_dead, .int 0] [] (hp c0 n _ _) _
  refine (wr_td_l h0 _ he 18 0 r [] _ (by decide) (Nat.le_refl _) hr hW22).mono ?_
  rintro r1 h1 ⟨rfl, F2, rfl, h2⟩
  exact ⟨rfl, F2, rfl, by simpa using h2⟩
