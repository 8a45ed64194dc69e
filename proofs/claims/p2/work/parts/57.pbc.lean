/-! type, read, find, part of the class. (rows laid by wip/whole/pb3.py) -/
def cbN (v : Int64) (m : Nat) : Nat := (v.toUInt64 >>> ((8 * nI m).toInt64.toUInt64 &&& Int64.toUInt64 63)).toInt64.toInt32.toBitVec.toNat % 2 ^ 8
theorem cb_N (v : Int64) (m : Nat) : cb v m = nI (cbN v m) := pk_and _ 8 (by decide)
theorem cbN_lt (v : Int64) (m : Nat) : cbN v m < 256 := Nat.mod_lt _ (by decide)
/-- the m low bytes of v, the highest first -/
def byl (v : Int64) : Nat → List Nat
  | 0 => []
  | m + 1 => cbN v m :: byl v m
theorem byl_len (v : Int64) : ∀ m, (byl v m).length = m := by
  intro m
  induction m with
  | zero => rfl
  | succ m ih => rw [byl, List.length_cons, ih]
set_option maxRecDepth 100000 in
set_option maxHeartbeats 2000000 in
theorem q_ty_l {X : ev_X} {c0 z u pl : Nat} {o : List Nat} {T : List Tm} (v : Int64) (N : Int32) : ∀ (m : Nat) (t : List Nat) (F : Nat → Option va_E) (hm : t.length + m ≤ 240) (h : CC c0 t T u o pl F), Ex X m_Tab_type 36 [.ref (c0 + 0), .long v, ev_dead, .int N, .int (nI m - 1)] [] (hp c0 (26 + 5 * T.length) z F) (cP c0 z F (t ++ byl v m) T u o pl (.int (nI (t ++ byl v m).length))) := by
  intro m
  induction m with
  | zero =>
    intro t F hm h
    show Ex X m_Tab_type 36 [.ref (c0 + 0), .long v, ev_dead, .int N, .int (-1)] [] _ _
    refine Ex.nx rfl ?_
    refine Ex.nx rfl ?_
    show Ex X m_Tab_type 66 [.ref (c0 + 0), .long v, ev_dead, .int N, .int (-1)] [] (hp c0 (26 + 5 * T.length) _ _) _
    refine Ex.nx rfl ?_
    refine Hx.get 0 rfl h.r0 rfl ?_
    obtain ⟨s0, nu0, p0, bd0, tl0, ft0, hC⟩ := h.2.1
    refine Hx.rowE hC.rt rfl rfl rfl rfl (rl_size hC.rt) ?_
    show Ex X m_Tab_type 73 [.ref (c0 + 0), .long v, ev_dead, .int N, .int (-1)] [.int (nI t.length)] (hp c0 (26 + 5 * T.length) _ _) _
    rw [byl, List.append_nil]
    exact Ex.ret rfl (ev_reti rfl) h.same
  | succ m ih =>
    intro t F hm h
    rw [nI_pred]
    refine Ex.nx rfl ?_
    refine Ex.nx rfl ?_
    refine Ex.ite (fun c1 => ?_) (fun c1 => ?_)
    · replace c1 : (nI m) < 0 := of_decide_eq_true c1
      exact absurd c1 (nI_pos (by omega))
    · replace c1 : ¬ (nI m) < 0 := of_decide_eq_false c1
      show Ex X m_Tab_type 41 [.ref (c0 + 0), .long v, ev_dead, .int N, .int (nI m)] [] (hp c0 (26 + 5 * T.length) _ _) _
      refine Ex.nx rfl ?_
      refine Hx.get 0 rfl h.r0 rfl ?_
      refine Ex.nx rfl ?_
      refine Ex.nx rfl ?_
      refine Ex.nx rfl ?_
      refine Ex.nx rfl ?_
      refine Ex.nx rfl ?_
      refine Ex.nx rfl ?_
      refine Ex.nx rfl ?_
      refine Ex.nx rfl ?_
      refine Hx.top (y := nI (cbN v m)) (cb_N v m) ?_
      obtain ⟨s0, nu0, p0, bd0, tl0, ft0, hC⟩ := h.2.1
      refine Hx.rowc hC.rt rfl rfl rfl rfl (rl_add hC.rt (by decide) (by decide) (cbN v m) (cbN_lt v m) (by omega)) ?_
      rintro v1 hh ⟨rfl, F1, rfl, r1, r2⟩
      obtain ⟨g, gs⟩ := h.tp r1 r2
      show Ex X m_Tab_type 60 [.ref (c0 + 0), .long v, ev_dead, .int N, .int (nI m)] [] (hp c0 (26 + 5 * T.length) _ _) _
      refine Ex.nx rfl ?_
      show Ex X m_Tab_type 63 [.ref (c0 + 0), .long v, ev_dead, .int N, .int ((nI m) + (-1))] [] (hp c0 (26 + 5 * T.length) _ _) _
      refine Ex.nx rfl ?_
      show Ex X m_Tab_type 36 [.ref (c0 + 0), .long v, ev_dead, .int N, .int ((nI m) + (-1))] [] (hp c0 (26 + 5 * T.length) _ _) _
      rw [show nI m + (-1) = nI m - 1 from (Int32.sub_eq_add_neg _ _).symm]
      refine (ih (t ++ [cbN v m]) F1 (by simp only [List.length_append, List.length_cons, List.length_nil]; omega) g).mono ?_
      rintro r h' ⟨F2, z2, e1, e2, e3, e4, e5⟩
      exact ⟨F2, z2, e1, by rw [byl, show t ++ (cbN v m :: byl v m) = t ++ [cbN v m] ++ byl v m by simp]; exact e2, rsm.tr gs e3, e4, by rw [e5, byl, show t ++ (cbN v m :: byl v m) = t ++ [cbN v m] ++ byl v m by simp]⟩
set_option maxRecDepth 100000 in
set_option maxHeartbeats 2000000 in
theorem q_type {X : ev_X} {c0 z u pl : Nat} {t o : List Nat} {T : List Tm} {F : Nat → Option va_E} (h : CC c0 t T u o pl F) (v : Int64) (b : Int32) : Ex X m_Tab_type 0 [.ref (c0 + 0), .long v, ev_dead, .int b, ev_dead] [] (hp c0 (26 + 5 * T.length) z F) (if b < 1 then cP c0 z F t T u o pl (.int (-1)) else if b ≤ 8 then (if nI t.length + b ≤ 240 then cP c0 z F (t ++ byl v b.toNatClampNeg) T u o pl (.int (nI (t ++ byl v b.toNatClampNeg).length)) else cP c0 z F t T u o pl (.int (-3))) else cP c0 z F t T u o pl (.int (-1))) := by
  have hl : t.length ≤ 240 := by obtain ⟨s0, nu0, p0, bd0, tl0, ft0, hC⟩ := h.2.1; exact hC.rt.le
  refine Ex.nx rfl ?_
  refine Ex.nx rfl ?_
  refine Ex.nx rfl ?_
  refine Ex.ite (fun c1 => ?_) (fun c1 => ?_)
  · replace c1 : b < 1 := of_decide_eq_true c1
    show Ex X m_Tab_type 11 [.ref (c0 + 0), .long v, ev_dead, .int b, ev_dead] [] (hp c0 (26 + 5 * T.length) _ _) _
    refine Ex.nx rfl ?_
    exact Ex.ret rfl (ev_reti rfl) (by rw [if_pos c1]; exact h.same)
  · replace c1 : ¬ b < 1 := of_decide_eq_false c1
    show Ex X m_Tab_type 5 [.ref (c0 + 0), .long v, ev_dead, .int b, ev_dead] [] (hp c0 (26 + 5 * T.length) _ _) _
    refine Ex.nx rfl ?_
    refine Ex.nx rfl ?_
    refine Ex.nx rfl ?_
    refine Ex.ite (fun c2 => ?_) (fun c2 => ?_)
    · replace c2 : b ≤ 8 := of_decide_eq_true c2
      show Ex X m_Tab_type 13 [.ref (c0 + 0), .long v, ev_dead, .int b, ev_dead] [] (hp c0 (26 + 5 * T.length) _ _) _
      refine Ex.nx rfl ?_
      refine Hx.get 0 rfl h.r0 rfl ?_
      obtain ⟨s0, nu0, p0, bd0, tl0, ft0, hC⟩ := h.2.1
      refine Hx.rowE hC.rt rfl rfl rfl rfl (rl_size hC.rt) ?_
      show Ex X m_Tab_type 20 [.ref (c0 + 0), .long v, ev_dead, .int b, ev_dead] [.int (nI t.length)] (hp c0 (26 + 5 * T.length) _ _) _
      refine Ex.nx rfl ?_
      refine Ex.nx rfl ?_
      refine Ex.nx rfl ?_
      refine Ex.nx rfl ?_
      refine Ex.ite (fun c3 => ?_) (fun c3 => ?_)
      · replace c3 : ((nI t.length) + b) ≤ 240 := of_decide_eq_true c3
        show Ex X m_Tab_type 31 [.ref (c0 + 0), .long v, ev_dead, .int b, ev_dead] [] (hp c0 (26 + 5 * T.length) _ _) _
        refine Ex.nx rfl ?_
        refine Ex.nx rfl ?_
        refine Ex.nx rfl ?_
        refine Ex.nx rfl ?_
        show Ex X m_Tab_type 36 [.ref (c0 + 0), .long v, ev_dead, .int b, .int (b - 1)] [] (hp c0 (26 + 5 * T.length) _ _) _
        show Ex X m_Tab_type 36 [.ref (c0 + 0), .long v, ev_dead, .int b, .int (b - 1)] [] (hp c0 (26 + 5 * T.length) _ _) _
        rw [if_neg c1, if_pos c2, if_pos c3]
        obtain ⟨m, hm, rfl⟩ := i32_81 c1 c2
        rw [nI_clamp (by omega)]
        exact q_ty_l v (nI m) m t F ((nI_leI (b := 240) (by omega) (by decide)).mp (by rw [← nI_add]; exact c3)) h
      · replace c3 : ¬ ((nI t.length) + b) ≤ 240 := of_decide_eq_false c3
        show Ex X m_Tab_type 28 [.ref (c0 + 0), .long v, ev_dead, .int b, ev_dead] [] (hp c0 (26 + 5 * T.length) _ _) _
        refine Ex.nx rfl ?_
        exact Ex.ret rfl (ev_reti rfl) (by rw [if_neg c1, if_pos c2, if_neg c3]; exact h.same)
    · replace c2 : ¬ b ≤ 8 := of_decide_eq_false c2
      show Ex X m_Tab_type 11 [.ref (c0 + 0), .long v, ev_dead, .int b, ev_dead] [] (hp c0 (26 + 5 * T.length) _ _) _
      refine Ex.nx rfl ?_
      exact Ex.ret rfl (ev_reti rfl) (by rw [if_neg c1, if_neg c2]; exact h.same)
/-- the answer of read: a fault at its place, or what keep answers -/
def rdP (c0 z : Nat) (F : Nat → Option va_E) (t : List Nat) (T : List Tm) (u : Nat) (o : List Nat) (r : Option Value) (h' : ev_H) : Prop := if (sAll t).1 = true then kP c0 z F [] T u o t.length (sAll t).2.2 r h' else ∃ v, cP c0 z F [] T u o (sAll t).2.1 (.int v) r h'
def fiP (c0 z : Nat) (F : Nat → Option va_E) (t : List Nat) (T : List Tm) (u : Nat) (o : List Nat) (r : Option Value) (h' : ev_H) : Prop := if (sAll t).1 = true then cP c0 z F [] T u o t.length (.int (numT T (sAll t).2.2)) r h' else ∃ v, cP c0 z F [] T u o (sAll t).2.1 (.int v) r h'
set_option maxRecDepth 100000 in
set_option maxHeartbeats 2000000 in
theorem q_read {X : ev_X} {c0 z u pl : Nat} {t o : List Nat} {T : List Tm} {F : Nat → Option va_E} (h : CC c0 t T u o pl F) (hS : XS X c0) (hok : (sAll t).1 = true → okT (sAll t).2.2) : Ex X m_Tab_read 0 [.ref (c0 + 0), ev_dead] [] (hp c0 (26 + 5 * T.length) z F) (rdP c0 z F t T u o) := by
  obtain ⟨s0, nu0, p0, bd0, tl0, ft, hC⟩ := h.2.1
  refine Ex.nx rfl ?_
  refine Hx.get 0 rfl h.r0 rfl ?_
  refine Ex.nx rfl ?_
  refine Hx.get 0 rfl h.r0 rfl ?_
  refine Hx.callX 8 rfl rfl hC.r8 rfl rfl (cr_term hS hC) ?_
  unfold rdP
  generalize sAll t = oo at hok ⊢
  obtain ⟨b, y, x⟩ := oo
  cases b
  · rintro v1 h1 ⟨ft1, hft, rfl, F1, rfl, s1, nu1, p1, bd1, tl1, hC1⟩
    obtain ⟨g, gs⟩ := h.cr hC1
    show Ex X m_Tab_read 11 [.ref (c0 + 0), ev_dead] [.int ft1] (hp c0 (26 + 5 * T.length) _ _) _
    refine Ex.nx rfl ?_
    show Ex X m_Tab_read 12 [.ref (c0 + 0), .int ft1] [] (hp c0 (26 + 5 * T.length) _ _) _
    refine Ex.nx rfl ?_
    refine Hx.get 0 rfl g.r0 rfl ?_
    refine Hx.rowc hC1.rt rfl rfl rfl rfl (rl_clear hC1.rt (by decide)) ?_
    rintro v2 h2 ⟨rfl, F2, rfl, r1, r2⟩
    obtain ⟨g2, gs2⟩ := g.tp r1 r2
    show Ex X m_Tab_read 19 [.ref (c0 + 0), .int ft1] [] (hp c0 (26 + 5 * T.length) _ _) _
    refine Ex.nx rfl ?_
    refine Ex.nx rfl ?_
    refine Ex.ite (fun c1 => ?_) (fun c1 => ?_)
    · replace c1 : ¬ ft1 = 0 := of_decide_eq_true c1
      show Ex X m_Tab_read 37 [.ref (c0 + 0), .int ft1] [] (hp c0 (26 + 5 * T.length) _ _) _
      refine Ex.nx rfl ?_
      refine Ex.nx rfl ?_
      refine Ex.nx rfl ?_
      exact Ex.ret rfl (ev_reti rfl) (by show (if false = true then _ else _); rw [if_neg Bool.false_ne_true]; exact ⟨_, F2, z, rfl, g2, rsm.tr gs gs2, by omega, rfl⟩)
    · replace c1 : ft1 = 0 := Classical.not_not.mp (of_decide_eq_false c1)
      exact absurd c1 hft
  rintro v1 h1 ⟨rfl, F1, rfl, hC1⟩
  dsimp only at hC1
  obtain ⟨g, gs⟩ := h.cr hC1
  have hk := hok rfl
  dsimp only at hk
  show Ex X m_Tab_read 11 [.ref (c0 + 0), ev_dead] [.int 0] (hp c0 (26 + 5 * T.length) _ _) _
  refine Ex.nx rfl ?_
  show Ex X m_Tab_read 12 [.ref (c0 + 0), .int 0] [] (hp c0 (26 + 5 * T.length) _ _) _
  refine Ex.nx rfl ?_
  refine Hx.get 0 rfl g.r0 rfl ?_
  refine Hx.rowc hC1.rt rfl rfl rfl rfl (rl_clear hC1.rt (by decide)) ?_
  rintro v2 h2 ⟨rfl, F2, rfl, r1, r2⟩
  obtain ⟨g2, gs2⟩ := g.tp r1 r2
  show Ex X m_Tab_read 19 [.ref (c0 + 0), .int 0] [] (hp c0 (26 + 5 * T.length) _ _) _
  refine Ex.nx rfl ?_
  refine Ex.nx rfl ?_
  show Ex X m_Tab_read 23 [.ref (c0 + 0), .int 0] [] (hp c0 (26 + 5 * T.length) _ _) _
  refine Ex.nx rfl ?_
  refine Hx.get 0 rfl g2.r0 rfl ?_
  refine Ex.nx rfl ?_
  refine Hx.get 0 rfl g2.r0 rfl ?_
  have ht : trm c0 F2 3 64 60 (x.1, x.2.1, x.2.2.1, x.2.2.2.1, x.2.2.2.2) := (CR.tm hC1 (by have := hk.2.2.2.1; omega)).fr (fun q q1 q2 => r2 q (by omega) (by omega))
  refine Hx.callX 9 rfl rfl g2.2.2.1.1 rfl rfl (tb_keep g2.2.2.1 ht) ?_
  intro v3 h3 hq
  refine Ex.nx rfl ?_
  exact (kP_ret rfl rfl g2 (rsm.tr gs gs2) hk hq).mono (fun r h' q => by show (if true = true then _ else _); rw [if_pos rfl]; exact q)
set_option maxRecDepth 100000 in
set_option maxHeartbeats 2000000 in
theorem q_find {X : ev_X} {c0 z u pl : Nat} {t o : List Nat} {T : List Tm} {F : Nat → Option va_E} (h : CC c0 t T u o pl F) (hS : XS X c0) (hok : (sAll t).1 = true → okT (sAll t).2.2) : Ex X m_Tab_find 0 [.ref (c0 + 0), ev_dead] [] (hp c0 (26 + 5 * T.length) z F) (fiP c0 z F t T u o) := by
  obtain ⟨s0, nu0, p0, bd0, tl0, ft, hC⟩ := h.2.1
  refine Ex.nx rfl ?_
  refine Hx.get 0 rfl h.r0 rfl ?_
  refine Ex.nx rfl ?_
  refine Hx.get 0 rfl h.r0 rfl ?_
  refine Hx.callX 8 rfl rfl hC.r8 rfl rfl (cr_term hS hC) ?_
  unfold fiP
  generalize sAll t = oo at hok ⊢
  obtain ⟨b, y, x⟩ := oo
  cases b
  · rintro v1 h1 ⟨ft1, hft, rfl, F1, rfl, s1, nu1, p1, bd1, tl1, hC1⟩
    obtain ⟨g, gs⟩ := h.cr hC1
    show Ex X m_Tab_find 11 [.ref (c0 + 0), ev_dead] [.int ft1] (hp c0 (26 + 5 * T.length) _ _) _
    refine Ex.nx rfl ?_
    show Ex X m_Tab_find 12 [.ref (c0 + 0), .int ft1] [] (hp c0 (26 + 5 * T.length) _ _) _
    refine Ex.nx rfl ?_
    refine Hx.get 0 rfl g.r0 rfl ?_
    refine Hx.rowc hC1.rt rfl rfl rfl rfl (rl_clear hC1.rt (by decide)) ?_
    rintro v2 h2 ⟨rfl, F2, rfl, r1, r2⟩
    obtain ⟨g2, gs2⟩ := g.tp r1 r2
    show Ex X m_Tab_find 19 [.ref (c0 + 0), .int ft1] [] (hp c0 (26 + 5 * T.length) _ _) _
    refine Ex.nx rfl ?_
    refine Ex.nx rfl ?_
    refine Ex.ite (fun c1 => ?_) (fun c1 => ?_)
    · replace c1 : ¬ ft1 = 0 := of_decide_eq_true c1
      show Ex X m_Tab_find 37 [.ref (c0 + 0), .int ft1] [] (hp c0 (26 + 5 * T.length) _ _) _
      refine Ex.nx rfl ?_
      refine Ex.nx rfl ?_
      refine Ex.nx rfl ?_
      exact Ex.ret rfl (ev_reti rfl) (by show (if false = true then _ else _); rw [if_neg Bool.false_ne_true]; exact ⟨_, F2, z, rfl, g2, rsm.tr gs gs2, by omega, rfl⟩)
    · replace c1 : ft1 = 0 := Classical.not_not.mp (of_decide_eq_false c1)
      exact absurd c1 hft
  rintro v1 h1 ⟨rfl, F1, rfl, hC1⟩
  dsimp only at hC1
  obtain ⟨g, gs⟩ := h.cr hC1
  have hk := hok rfl
  dsimp only at hk
  show Ex X m_Tab_find 11 [.ref (c0 + 0), ev_dead] [.int 0] (hp c0 (26 + 5 * T.length) _ _) _
  refine Ex.nx rfl ?_
  show Ex X m_Tab_find 12 [.ref (c0 + 0), .int 0] [] (hp c0 (26 + 5 * T.length) _ _) _
  refine Ex.nx rfl ?_
  refine Hx.get 0 rfl g.r0 rfl ?_
  refine Hx.rowc hC1.rt rfl rfl rfl rfl (rl_clear hC1.rt (by decide)) ?_
  rintro v2 h2 ⟨rfl, F2, rfl, r1, r2⟩
  obtain ⟨g2, gs2⟩ := g.tp r1 r2
  show Ex X m_Tab_find 19 [.ref (c0 + 0), .int 0] [] (hp c0 (26 + 5 * T.length) _ _) _
  refine Ex.nx rfl ?_
  refine Ex.nx rfl ?_
  show Ex X m_Tab_find 23 [.ref (c0 + 0), .int 0] [] (hp c0 (26 + 5 * T.length) _ _) _
  refine Ex.nx rfl ?_
  refine Hx.get 0 rfl g2.r0 rfl ?_
  refine Ex.nx rfl ?_
  refine Hx.get 0 rfl g2.r0 rfl ?_
  have ht : trm c0 F2 3 64 60 (x.1, x.2.1, x.2.2.1, x.2.2.2.1, x.2.2.2.2) := (CR.tm hC1 (by have := hk.2.2.2.1; omega)).fr (fun q q1 q2 => r2 q (by omega) (by omega))
  refine Hx.call 9 rfl rfl g2.2.2.1.1 rfl rfl (tb_num g2.2.2.1 ht) ?_
  refine Ex.nx rfl ?_
  exact Ex.ret rfl (ev_reti rfl) (by show (if true = true then _ else _); rw [if_pos rfl]; exact ⟨F2, z, rfl, g2, rsm.tr gs gs2, by omega, rfl⟩)
set_option maxRecDepth 100000 in
set_option maxHeartbeats 2000000 in
theorem q_kb {X : ev_X} {c0 z u pl : Nat} {t o : List Nat} {T : List Tm} {F : Nat → Option va_E} (h : CC c0 t T u o pl F) {j ja N : Nat} {m : List Nat} {kd : Int32} (gm : rowL c0 F j ja N m) (hN : N ≤ 1000) (hj : j < 3 ∨ 8 < j) (hja : ja < 3 ∨ 8 < ja) (hm : m.length ≤ 64) (hkd : kd = 1 ∨ kd = 2 ∨ kd = 3 ∨ kd = 4 ∨ kd = 5 ∨ kd = 6 ∨ kd = 7 ∨ kd = 8) : Ex X m_Tab_keepBytes 0 [.ref (c0 + 0), .int kd, .ref (c0 + j)] [] (hp c0 (26 + 5 * T.length) z F) (kP c0 z F t T u o pl (kd, 0, 0, m, [])) := by
  obtain ⟨s0, nu0, p0, bd0, tl0, ft, hC⟩ := h.2.1
  refine Ex.nx rfl ?_
  refine Hx.get 0 rfl h.r0 rfl ?_
  refine Ex.nx rfl ?_
  refine Ex.nx rfl ?_
  refine Ex.nx rfl ?_
  refine Hx.callX 3 rfl rfl hC.r3 rfl rfl (cr_become hC kd 0 0) ?_
  rintro v1 hh ⟨rfl, F1, rfl, hC1⟩
  obtain ⟨g, gs⟩ := h.cr hC1
  show Ex X m_Tab_keepBytes 10 [.ref (c0 + 0), .int kd, .ref (c0 + j)] [] (hp c0 (26 + 5 * T.length) _ _) _
  refine Ex.nx rfl ?_
  refine Hx.get 0 rfl g.r0 rfl ?_
  refine Hx.get 3 rfl hC1.r3 rfl ?_
  refine Ex.nx rfl ?_
  have gj := gm.fr (hC1.1 _ hj) (hC1.1 _ hja)
  refine Hx.rowc hC1.rb rfl rfl rfl rfl (rl_addAll (by decide) hN (by decide) (by omega) (by omega) (by omega) (by omega) (by simp; omega) hC1.rb gj) ?_
  rintro v2 hh ⟨rfl, F2, rfl, r1, r2⟩
  have hC2 := hC1.ub r1 r2
  obtain ⟨g2, gs2⟩ := h.cr hC2
  show Ex X m_Tab_keepBytes 21 [.ref (c0 + 0), .int kd, .ref (c0 + j)] [] (hp c0 (26 + 5 * T.length) _ _) _
  refine Ex.nx rfl ?_
  refine Hx.get 0 rfl g2.r0 rfl ?_
  refine Ex.nx rfl ?_
  refine Hx.get 0 rfl g2.r0 rfl ?_
  refine Hx.callX 9 rfl rfl g2.2.2.1.1 rfl rfl (tb_keep g2.2.2.1 (CR.tm (pn := 0) hC2 (by decide))) ?_
  intro v3 h3 hq
  exact kP_ret rfl rfl g2 gs2 ⟨by simpa using hm, Nat.zero_le _, ⟨0, by decide, Or.inl rfl⟩, Nat.zero_le _, hkd⟩ (by simpa using hq)
def ptX (x : Tm) (b : Int32) : Option Tm := if b = 0 ∧ (x.1 = 5 ∨ x.1 = 6 ∨ x.1 = 7) then some (5, 0, 0, x.2.2.2.1, []) else if b = 1 ∧ x.1 = 6 then some (5, 0, 0, x.2.2.2.2, []) else if b = 2 ∧ x.1 = 7 then some (2, 0, 0, x.2.2.2.2, []) else none
def ptP (c0 z : Nat) (F : Nat → Option va_E) (t : List Nat) (T : List Tm) (u : Nat) (o : List Nat) (pl : Nat) (y : Option Tm) (r : Option Value) (h' : ev_H) : Prop := match y with
  | some x => kP c0 z F t T u o pl x r h'
  | none => cP c0 z F t T u o pl (.int (-2)) r h'
theorem kP_tl {X : ev_X} {c0 z u pl M pc nx a b w : Nat} {A : List Value} {F : Nat → Option va_E} {t o : List Nat} {T : List Tm} {x : Tm} {y : Option Tm} {v : Option Value} {h1 : ev_H} (op : pg_ops M pc = some (.ireturn, nx, a, b, w)) (hr : pg_r M = some .int) (e : y = some x) (hq : kP c0 z F t T u o pl x v h1) : Ex X M pc A (v.toList ++ []) h1 (ptP c0 z F t T u o pl y) := by
  subst e
  have hv : ∃ i : Int32, v = some (.int i) := by
    rcases hq with ⟨_, _, _, _, _, _, _, e⟩ | ⟨_, _, _, _, _, _, _, _, e⟩ | ⟨_, _, _, _, _, _, _, _, _, e⟩ <;> exact ⟨_, e⟩
  obtain ⟨i, rfl⟩ := hv
  exact Ex.ret op (ev_reti hr) hq
set_option maxRecDepth 100000 in
set_option maxHeartbeats 2000000 in
theorem q_part_in {X : ev_X} {c0 z u pl : Nat} {t o : List Nat} {T : List Tm} {F : Nat → Option va_E} (h : CC c0 t T u o pl F) {i : Nat} (hi : i < T.length) (b : Int32) : Ex X m_Tab_part 0 [.ref (c0 + 0), .int (nI (i + 1)), .int b, ev_dead] [] (hp c0 (26 + 5 * T.length) z F) (ptP c0 z F t T u o pl (ptX (T.getD i tm0) b)) := by
  obtain ⟨M1, M2, hti⟩ := h.2.2.1.2.2.2.2 i hi
  have hk64 := (h.2.2.2.2.2 i hi).1
  have hk60 := (h.2.2.2.2.2 i hi).2.1
  refine Ex.nx rfl ?_
  refine Hx.get 0 rfl h.r0 rfl ?_
  refine Ex.nx rfl ?_
  refine Hx.call 9 rfl rfl h.2.2.1.1 rfl rfl (tb_get h.2.2.1 (i := i) hi) ?_
  show Ex X m_Tab_part 8 [.ref (c0 + 0), .int (nI (i + 1)), .int b, ev_dead] [.ref (c0 + (26 + 5 * i))] (hp c0 (26 + 5 * T.length) _ _) _
  refine Ex.nx rfl ?_
  show Ex X m_Tab_part 9 [.ref (c0 + 0), .int (nI (i + 1)), .int b, .ref (c0 + (26 + 5 * i))] [] (hp c0 (26 + 5 * T.length) _ _) _
  refine Ex.nx rfl ?_
  refine Ex.nx rfl ?_
  show Ex X m_Tab_part 15 [.ref (c0 + 0), .int (nI (i + 1)), .int b, .ref (c0 + (26 + 5 * i))] [] (hp c0 (26 + 5 * T.length) _ _) _
  refine Ex.nx rfl ?_
  refine Ex.nx rfl ?_
  refine Ex.ite (fun c1 => ?_) (fun c1 => ?_)
  · replace c1 : ¬ b = 0 := of_decide_eq_true c1
    show Ex X m_Tab_part 55 [.ref (c0 + 0), .int (nI (i + 1)), .int b, .ref (c0 + (26 + 5 * i))] [] (hp c0 (26 + 5 * T.length) _ _) _
    refine Ex.nx rfl ?_
    refine Ex.nx rfl ?_
    refine Ex.nx rfl ?_
    refine Ex.ite (fun c2 => ?_) (fun c2 => ?_)
    · replace c2 : ¬ b = 1 := of_decide_eq_true c2
      show Ex X m_Tab_part 79 [.ref (c0 + 0), .int (nI (i + 1)), .int b, .ref (c0 + (26 + 5 * i))] [] (hp c0 (26 + 5 * T.length) _ _) _
      refine Ex.nx rfl ?_
      refine Ex.nx rfl ?_
      refine Ex.nx rfl ?_
      refine Ex.ite (fun c3 => ?_) (fun c3 => ?_)
      · replace c3 : ¬ b = 2 := of_decide_eq_true c3
        show Ex X m_Tab_part 103 [.ref (c0 + 0), .int (nI (i + 1)), .int b, .ref (c0 + (26 + 5 * i))] [] (hp c0 (26 + 5 * T.length) _ _) _
        refine Ex.nx rfl ?_
        exact Ex.ret rfl (ev_reti rfl) (by rw [show ptX (T.getD i tm0) b = none by simp_all [-List.getD_eq_getElem?_getD, ptX]]; exact h.same)
      · replace c3 : b = 2 := Classical.not_not.mp (of_decide_eq_false c3)
        show Ex X m_Tab_part 84 [.ref (c0 + 0), .int (nI (i + 1)), .int b, .ref (c0 + (26 + 5 * i))] [] (hp c0 (26 + 5 * T.length) _ _) _
        refine Ex.nx rfl ?_
        refine Hx.get (26 + 5 * i) rfl hti.1 rfl ?_
        refine Ex.nx rfl ?_
        refine Ex.nx rfl ?_
        refine Ex.ite (fun c4 => ?_) (fun c4 => ?_)
        · replace c4 : ¬ ((T.getD i tm0).1) = 7 := of_decide_eq_true c4
          show Ex X m_Tab_part 103 [.ref (c0 + 0), .int (nI (i + 1)), .int b, .ref (c0 + (26 + 5 * i))] [] (hp c0 (26 + 5 * T.length) _ _) _
          refine Ex.nx rfl ?_
          exact Ex.ret rfl (ev_reti rfl) (by rw [show ptX (T.getD i tm0) b = none by simp_all [-List.getD_eq_getElem?_getD, ptX]]; exact h.same)
        · replace c4 : ((T.getD i tm0).1) = 7 := Classical.not_not.mp (of_decide_eq_false c4)
          show Ex X m_Tab_part 93 [.ref (c0 + 0), .int (nI (i + 1)), .int b, .ref (c0 + (26 + 5 * i))] [] (hp c0 (26 + 5 * T.length) _ _) _
          refine Ex.nx rfl ?_
          refine Ex.nx rfl ?_
          refine Ex.nx rfl ?_
          refine Hx.get (26 + 5 * i) rfl hti.1 rfl ?_
          refine Hx.callX 0 rfl rfl h.r0 rfl rfl (q_kb h (kd := 2) hti.2.2.1 hti.2.2.2.2.1 (by omega) (by omega) (by omega) (Or.inr (Or.inl rfl))) ?_
          intro v1 h1 hq
          exact kP_tl rfl rfl (by first | (simp [-List.getD_eq_getElem?_getD, ptX, c1, c2, c3, c4]; done) | (exfalso; clear hq; simp_all [-List.getD_eq_getElem?_getD]; done)) hq
    · replace c2 : b = 1 := Classical.not_not.mp (of_decide_eq_false c2)
      show Ex X m_Tab_part 60 [.ref (c0 + 0), .int (nI (i + 1)), .int b, .ref (c0 + (26 + 5 * i))] [] (hp c0 (26 + 5 * T.length) _ _) _
      refine Ex.nx rfl ?_
      refine Hx.get (26 + 5 * i) rfl hti.1 rfl ?_
      refine Ex.nx rfl ?_
      refine Ex.nx rfl ?_
      refine Ex.ite (fun c5 => ?_) (fun c5 => ?_)
      · replace c5 : ¬ ((T.getD i tm0).1) = 6 := of_decide_eq_true c5
        show Ex X m_Tab_part 79 [.ref (c0 + 0), .int (nI (i + 1)), .int b, .ref (c0 + (26 + 5 * i))] [] (hp c0 (26 + 5 * T.length) _ _) _
        refine Ex.nx rfl ?_
        refine Ex.nx rfl ?_
        refine Ex.nx rfl ?_
        refine Ex.ite (fun c6 => ?_) (fun c6 => ?_)
        · replace c6 : ¬ b = 2 := of_decide_eq_true c6
          show Ex X m_Tab_part 103 [.ref (c0 + 0), .int (nI (i + 1)), .int b, .ref (c0 + (26 + 5 * i))] [] (hp c0 (26 + 5 * T.length) _ _) _
          refine Ex.nx rfl ?_
          exact Ex.ret rfl (ev_reti rfl) (by rw [show ptX (T.getD i tm0) b = none by simp_all [-List.getD_eq_getElem?_getD, ptX]]; exact h.same)
        · replace c6 : b = 2 := Classical.not_not.mp (of_decide_eq_false c6)
          show Ex X m_Tab_part 84 [.ref (c0 + 0), .int (nI (i + 1)), .int b, .ref (c0 + (26 + 5 * i))] [] (hp c0 (26 + 5 * T.length) _ _) _
          refine Ex.nx rfl ?_
          refine Hx.get (26 + 5 * i) rfl hti.1 rfl ?_
          refine Ex.nx rfl ?_
          refine Ex.nx rfl ?_
          refine Ex.ite (fun c7 => ?_) (fun c7 => ?_)
          · replace c7 : ¬ ((T.getD i tm0).1) = 7 := of_decide_eq_true c7
            show Ex X m_Tab_part 103 [.ref (c0 + 0), .int (nI (i + 1)), .int b, .ref (c0 + (26 + 5 * i))] [] (hp c0 (26 + 5 * T.length) _ _) _
            refine Ex.nx rfl ?_
            exact Ex.ret rfl (ev_reti rfl) (by rw [show ptX (T.getD i tm0) b = none by simp_all [-List.getD_eq_getElem?_getD, ptX]]; exact h.same)
          · replace c7 : ((T.getD i tm0).1) = 7 := Classical.not_not.mp (of_decide_eq_false c7)
            show Ex X m_Tab_part 93 [.ref (c0 + 0), .int (nI (i + 1)), .int b, .ref (c0 + (26 + 5 * i))] [] (hp c0 (26 + 5 * T.length) _ _) _
            refine Ex.nx rfl ?_
            refine Ex.nx rfl ?_
            refine Ex.nx rfl ?_
            refine Hx.get (26 + 5 * i) rfl hti.1 rfl ?_
            refine Hx.callX 0 rfl rfl h.r0 rfl rfl (q_kb h (kd := 2) hti.2.2.1 hti.2.2.2.2.1 (by omega) (by omega) (by omega) (Or.inr (Or.inl rfl))) ?_
            intro v1 h1 hq
            exact kP_tl rfl rfl (by first | (simp [-List.getD_eq_getElem?_getD, ptX, c1, c2, c5, c6, c7]; done) | (exfalso; clear hq; simp_all [-List.getD_eq_getElem?_getD]; done)) hq
      · replace c5 : ((T.getD i tm0).1) = 6 := Classical.not_not.mp (of_decide_eq_false c5)
        show Ex X m_Tab_part 69 [.ref (c0 + 0), .int (nI (i + 1)), .int b, .ref (c0 + (26 + 5 * i))] [] (hp c0 (26 + 5 * T.length) _ _) _
        refine Ex.nx rfl ?_
        refine Ex.nx rfl ?_
        refine Ex.nx rfl ?_
        refine Hx.get (26 + 5 * i) rfl hti.1 rfl ?_
        refine Hx.callX 0 rfl rfl h.r0 rfl rfl (q_kb h (kd := 5) hti.2.2.1 hti.2.2.2.2.1 (by omega) (by omega) (by omega) (Or.inr (Or.inr (Or.inr (Or.inr (Or.inl rfl)))))) ?_
        intro v1 h1 hq
        exact kP_tl rfl rfl (by first | (simp [-List.getD_eq_getElem?_getD, ptX, c1, c2, c5]; done) | (exfalso; clear hq; simp_all [-List.getD_eq_getElem?_getD]; done)) hq
  · replace c1 : b = 0 := Classical.not_not.mp (of_decide_eq_false c1)
    show Ex X m_Tab_part 19 [.ref (c0 + 0), .int (nI (i + 1)), .int b, .ref (c0 + (26 + 5 * i))] [] (hp c0 (26 + 5 * T.length) _ _) _
    refine Ex.nx rfl ?_
    refine Hx.get (26 + 5 * i) rfl hti.1 rfl ?_
    refine Ex.nx rfl ?_
    refine Ex.nx rfl ?_
    refine Ex.ite (fun c8 => ?_) (fun c8 => ?_)
    · replace c8 : ((T.getD i tm0).1) = 5 := of_decide_eq_true c8
      show Ex X m_Tab_part 45 [.ref (c0 + 0), .int (nI (i + 1)), .int b, .ref (c0 + (26 + 5 * i))] [] (hp c0 (26 + 5 * T.length) _ _) _
      refine Ex.nx rfl ?_
      refine Ex.nx rfl ?_
      refine Ex.nx rfl ?_
      refine Hx.get (26 + 5 * i) rfl hti.1 rfl ?_
      refine Hx.callX 0 rfl rfl h.r0 rfl rfl (q_kb h (kd := 5) hti.2.1 hti.2.2.2.1 (by omega) (by omega) (by omega) (Or.inr (Or.inr (Or.inr (Or.inr (Or.inl rfl)))))) ?_
      intro v1 h1 hq
      exact kP_tl rfl rfl (by first | (simp [-List.getD_eq_getElem?_getD, ptX, c1, c8]; done) | (exfalso; clear hq; simp_all [-List.getD_eq_getElem?_getD]; done)) hq
    · replace c8 : ¬ ((T.getD i tm0).1) = 5 := of_decide_eq_false c8
      show Ex X m_Tab_part 27 [.ref (c0 + 0), .int (nI (i + 1)), .int b, .ref (c0 + (26 + 5 * i))] [] (hp c0 (26 + 5 * T.length) _ _) _
      refine Ex.nx rfl ?_
      refine Hx.get (26 + 5 * i) rfl hti.1 rfl ?_
      refine Ex.nx rfl ?_
      refine Ex.nx rfl ?_
      refine Ex.ite (fun c9 => ?_) (fun c9 => ?_)
      · replace c9 : ((T.getD i tm0).1) = 6 := of_decide_eq_true c9
        show Ex X m_Tab_part 45 [.ref (c0 + 0), .int (nI (i + 1)), .int b, .ref (c0 + (26 + 5 * i))] [] (hp c0 (26 + 5 * T.length) _ _) _
        refine Ex.nx rfl ?_
        refine Ex.nx rfl ?_
        refine Ex.nx rfl ?_
        refine Hx.get (26 + 5 * i) rfl hti.1 rfl ?_
        refine Hx.callX 0 rfl rfl h.r0 rfl rfl (q_kb h (kd := 5) hti.2.1 hti.2.2.2.1 (by omega) (by omega) (by omega) (Or.inr (Or.inr (Or.inr (Or.inr (Or.inl rfl)))))) ?_
        intro v1 h1 hq
        exact kP_tl rfl rfl (by first | (simp [-List.getD_eq_getElem?_getD, ptX, c1, c8, c9]; done) | (exfalso; clear hq; simp_all [-List.getD_eq_getElem?_getD]; done)) hq
      · replace c9 : ¬ ((T.getD i tm0).1) = 6 := of_decide_eq_false c9
        show Ex X m_Tab_part 36 [.ref (c0 + 0), .int (nI (i + 1)), .int b, .ref (c0 + (26 + 5 * i))] [] (hp c0 (26 + 5 * T.length) _ _) _
        refine Ex.nx rfl ?_
        refine Hx.get (26 + 5 * i) rfl hti.1 rfl ?_
        refine Ex.nx rfl ?_
        refine Ex.nx rfl ?_
        refine Ex.ite (fun c10 => ?_) (fun c10 => ?_)
        · replace c10 : ¬ ((T.getD i tm0).1) = 7 := of_decide_eq_true c10
          show Ex X m_Tab_part 55 [.ref (c0 + 0), .int (nI (i + 1)), .int b, .ref (c0 + (26 + 5 * i))] [] (hp c0 (26 + 5 * T.length) _ _) _
          refine Ex.nx rfl ?_
          refine Ex.nx rfl ?_
          refine Ex.nx rfl ?_
          refine Ex.ite (fun c11 => ?_) (fun c11 => ?_)
          · replace c11 : ¬ b = 1 := of_decide_eq_true c11
            show Ex X m_Tab_part 79 [.ref (c0 + 0), .int (nI (i + 1)), .int b, .ref (c0 + (26 + 5 * i))] [] (hp c0 (26 + 5 * T.length) _ _) _
            refine Ex.nx rfl ?_
            refine Ex.nx rfl ?_
            refine Ex.nx rfl ?_
            refine Ex.ite (fun c12 => ?_) (fun c12 => ?_)
            · replace c12 : ¬ b = 2 := of_decide_eq_true c12
              show Ex X m_Tab_part 103 [.ref (c0 + 0), .int (nI (i + 1)), .int b, .ref (c0 + (26 + 5 * i))] [] (hp c0 (26 + 5 * T.length) _ _) _
              refine Ex.nx rfl ?_
              exact Ex.ret rfl (ev_reti rfl) (by rw [show ptX (T.getD i tm0) b = none by simp_all [-List.getD_eq_getElem?_getD, ptX]]; exact h.same)
            · replace c12 : b = 2 := Classical.not_not.mp (of_decide_eq_false c12)
              show Ex X m_Tab_part 84 [.ref (c0 + 0), .int (nI (i + 1)), .int b, .ref (c0 + (26 + 5 * i))] [] (hp c0 (26 + 5 * T.length) _ _) _
              refine Ex.nx rfl ?_
              refine Hx.get (26 + 5 * i) rfl hti.1 rfl ?_
              refine Ex.nx rfl ?_
              refine Ex.nx rfl ?_
              refine Ex.ite (fun c13 => ?_) (fun c13 => ?_)
              · replace c13 : ¬ ((T.getD i tm0).1) = 7 := of_decide_eq_true c13
                show Ex X m_Tab_part 103 [.ref (c0 + 0), .int (nI (i + 1)), .int b, .ref (c0 + (26 + 5 * i))] [] (hp c0 (26 + 5 * T.length) _ _) _
                refine Ex.nx rfl ?_
                exact Ex.ret rfl (ev_reti rfl) (by rw [show ptX (T.getD i tm0) b = none by simp_all [-List.getD_eq_getElem?_getD, ptX]]; exact h.same)
              · replace c13 : ((T.getD i tm0).1) = 7 := Classical.not_not.mp (of_decide_eq_false c13)
                exact absurd c13 c10
          · replace c11 : b = 1 := Classical.not_not.mp (of_decide_eq_false c11)
            show Ex X m_Tab_part 60 [.ref (c0 + 0), .int (nI (i + 1)), .int b, .ref (c0 + (26 + 5 * i))] [] (hp c0 (26 + 5 * T.length) _ _) _
            refine Ex.nx rfl ?_
            refine Hx.get (26 + 5 * i) rfl hti.1 rfl ?_
            refine Ex.nx rfl ?_
            refine Ex.nx rfl ?_
            refine Ex.ite (fun c14 => ?_) (fun c14 => ?_)
            · replace c14 : ¬ ((T.getD i tm0).1) = 6 := of_decide_eq_true c14
              show Ex X m_Tab_part 79 [.ref (c0 + 0), .int (nI (i + 1)), .int b, .ref (c0 + (26 + 5 * i))] [] (hp c0 (26 + 5 * T.length) _ _) _
              refine Ex.nx rfl ?_
              refine Ex.nx rfl ?_
              refine Ex.nx rfl ?_
              refine Ex.ite (fun c15 => ?_) (fun c15 => ?_)
              · replace c15 : ¬ b = 2 := of_decide_eq_true c15
                show Ex X m_Tab_part 103 [.ref (c0 + 0), .int (nI (i + 1)), .int b, .ref (c0 + (26 + 5 * i))] [] (hp c0 (26 + 5 * T.length) _ _) _
                refine Ex.nx rfl ?_
                exact Ex.ret rfl (ev_reti rfl) (by rw [show ptX (T.getD i tm0) b = none by simp_all [-List.getD_eq_getElem?_getD, ptX]]; exact h.same)
              · replace c15 : b = 2 := Classical.not_not.mp (of_decide_eq_false c15)
                show Ex X m_Tab_part 84 [.ref (c0 + 0), .int (nI (i + 1)), .int b, .ref (c0 + (26 + 5 * i))] [] (hp c0 (26 + 5 * T.length) _ _) _
                refine Ex.nx rfl ?_
                refine Hx.get (26 + 5 * i) rfl hti.1 rfl ?_
                refine Ex.nx rfl ?_
                refine Ex.nx rfl ?_
                refine Ex.ite (fun c16 => ?_) (fun c16 => ?_)
                · replace c16 : ¬ ((T.getD i tm0).1) = 7 := of_decide_eq_true c16
                  show Ex X m_Tab_part 103 [.ref (c0 + 0), .int (nI (i + 1)), .int b, .ref (c0 + (26 + 5 * i))] [] (hp c0 (26 + 5 * T.length) _ _) _
                  refine Ex.nx rfl ?_
                  exact Ex.ret rfl (ev_reti rfl) (by rw [show ptX (T.getD i tm0) b = none by simp_all [-List.getD_eq_getElem?_getD, ptX]]; exact h.same)
                · replace c16 : ((T.getD i tm0).1) = 7 := Classical.not_not.mp (of_decide_eq_false c16)
                  exact absurd c16 c10
            · replace c14 : ((T.getD i tm0).1) = 6 := Classical.not_not.mp (of_decide_eq_false c14)
              exact absurd c14 c9
        · replace c10 : ((T.getD i tm0).1) = 7 := Classical.not_not.mp (of_decide_eq_false c10)
          show Ex X m_Tab_part 45 [.ref (c0 + 0), .int (nI (i + 1)), .int b, .ref (c0 + (26 + 5 * i))] [] (hp c0 (26 + 5 * T.length) _ _) _
          refine Ex.nx rfl ?_
          refine Ex.nx rfl ?_
          refine Ex.nx rfl ?_
          refine Hx.get (26 + 5 * i) rfl hti.1 rfl ?_
          refine Hx.callX 0 rfl rfl h.r0 rfl rfl (q_kb h (kd := 5) hti.2.1 hti.2.2.2.1 (by omega) (by omega) (by omega) (Or.inr (Or.inr (Or.inr (Or.inr (Or.inl rfl)))))) ?_
          intro v1 h1 hq
          exact kP_tl rfl rfl (by first | (simp [-List.getD_eq_getElem?_getD, ptX, c1, c8, c9, c10]; done) | (exfalso; clear hq; simp_all [-List.getD_eq_getElem?_getD]; done)) hq
