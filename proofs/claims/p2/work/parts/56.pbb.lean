/-! The class's methods that change it. (rows laid by wip/whole/pb2.py) -/
section CCU
variable {c0 u u1 pl pl1 : Nat} {t t1 o : List Nat} {T : List Tm} {F F1 : Nat → Option va_E} {s p ft : Int32} {nu : Int64} {bd tl : List Nat} {x : Tm}
theorem CC.cr (h : CC c0 t T u o pl F) (hC : CR c0 F t s nu p bd tl ft (nI pl1) F1) : CC c0 t T u o pl1 F1 ∧ rsm F F1 := by
  obtain ⟨h1, -, h3, h4, ⟨d, hW⟩, h6⟩ := h
  have hq := hC.1
  exact ⟨⟨(hq 0 (by decide)).trans h1, ⟨s, nu, p, bd, tl, ft, fun _ _ => rfl, hC.2⟩, h3.fr (hq _ (by decide)) (hq _ (by decide)) (fun q q1 _ => hq q (by omega)), (hq 11 (by decide)).trans h4, ⟨d, fun _ _ => rfl, hW.2.1.fr (hq _ (by decide)) (hq _ (by decide)), hW.2.2.fr (hq _ (by decide)) (hq _ (by decide))⟩, h6⟩, fun k k1 k2 => hq k (by omega)⟩
theorem CC.tp (h : CC c0 t T u o pl F) (hr : rowL c0 F1 1 2 240 t1) (hj : ∀ j, j ≠ 1 → j ≠ 2 → F1 j = F j) : CC c0 t1 T u o pl F1 ∧ rsm F F1 := by
  obtain ⟨h1, ⟨s, nu, p, bd, tl, ft, hC⟩, h3, h4, ⟨d, hW⟩, h6⟩ := h
  refine ⟨⟨(hj 0 (by decide) (by decide)).trans h1, ⟨s, nu, p, bd, tl, ft, fun _ _ => rfl, hr, (hj 3 (by decide) (by decide)).trans hC.r3, hC.rb.fr (hj _ (by decide) (by decide)) (hj _ (by decide) (by decide)), hC.rl.fr (hj _ (by decide) (by decide)) (hj _ (by decide) (by decide)), (hj 8 (by decide) (by decide)).trans hC.r8⟩, h3.fr (hj _ (by decide) (by decide)) (hj _ (by decide) (by decide)) (fun q q1 _ => hj q (by omega) (by omega)), (hj 11 (by decide) (by decide)).trans h4, ⟨d, fun _ _ => rfl, hW.2.1.fr (hj _ (by decide) (by decide)) (hj _ (by decide) (by decide)), hW.2.2.fr (hj _ (by decide) (by decide)) (hj _ (by decide) (by decide))⟩, h6⟩, fun k k1 k2 => hj k (by omega) (by omega)⟩
theorem CC.kp (h : CC c0 t T u o pl F) (tb : tbl c0 F1 (T ++ [x]) u1) (hq : ∀ q, q < 26 → q ≠ 9 → q ≠ 10 → F1 q = F q) (hk : okT x) : CC c0 t (T ++ [x]) u1 o pl F1 ∧ rsm F F1 := by
  obtain ⟨h1, ⟨s, nu, p, bd, tl, ft, hC⟩, h3, h4, ⟨d, hW⟩, h6⟩ := h
  refine ⟨⟨(hq 0 (by decide) (by decide) (by decide)).trans h1, ⟨s, nu, p, bd, tl, ft, fun _ _ => rfl, hC.rt.fr (hq _ (by decide) (by decide) (by decide)) (hq _ (by decide) (by decide) (by decide)), (hq 3 (by decide) (by decide) (by decide)).trans hC.r3, hC.rb.fr (hq _ (by decide) (by decide) (by decide)) (hq _ (by decide) (by decide) (by decide)), hC.rl.fr (hq _ (by decide) (by decide) (by decide)) (hq _ (by decide) (by decide) (by decide)), (hq 8 (by decide) (by decide) (by decide)).trans hC.r8⟩, tb, (hq 11 (by decide) (by decide) (by decide)).trans h4, ⟨d, fun _ _ => rfl, hW.2.1.fr (hq _ (by decide) (by decide) (by decide)) (hq _ (by decide) (by decide) (by decide)), hW.2.2.fr (hq _ (by decide) (by decide) (by decide)) (hq _ (by decide) (by decide) (by decide))⟩, fun i hi => ?_⟩, fun k k1 k2 => hq k (by omega) (by omega) (by omega)⟩
  simp only [List.length_append, List.length_cons, List.length_nil] at hi
  rw [getD_tm hi]
  split
  · next q => exact h6 i q
  · exact hk
theorem CR.tm {pn : Nat} (hC : CR c0 F t s nu (nI pn) bd tl ft (nI pl) F1) (hp20 : pn ≤ 20) : trm c0 F1 3 64 60 (s, nu, pn, bd, tl) := ⟨hC.r3, hC.rb, hC.rl, by decide, by decide, hp20⟩
end CCU
/-- what a call that keeps x answers; the state behind it -/
def kP (c0 z : Nat) (F : Nat → Option va_E) (t : List Nat) (T : List Tm) (u : Nat) (o : List Nat) (pl : Nat) (x : Tm) (r : Option Value) (h' : ev_H) : Prop := (numT T x ≠ -2 ∧ cP c0 z F t T u o pl (.int (numT T x)) r h') ∨ (numT T x = -2 ∧ (2000 ≤ T.length ∨ 40000 < u + (x.2.2.2.1.length + x.2.2.2.2.length)) ∧ cP c0 z F t T u o pl (.int (-3)) r h') ∨ (numT T x = -2 ∧ T.length < 2000 ∧ u + (x.2.2.2.1.length + x.2.2.2.2.length) ≤ 40000 ∧ cP c0 z F t (T ++ [x]) (u + (x.2.2.2.1.length + x.2.2.2.2.length)) o pl (.int (nI (T.length + 1))) r h')
/-- keep, behind which the method ends -/
theorem kP_ret {X : ev_X} {c0 z u pl M pc nx a b w : Nat} {A : List Value} {F F1 : Nat → Option va_E} {t o : List Nat} {T : List Tm} {x : Tm} {v : Option Value} {h1 : ev_H} (op : pg_ops M pc = some (.ireturn, nx, a, b, w)) (hr : pg_r M = some .int) (h : CC c0 t T u o pl F1) (hs : rsm F F1) (hk : okT x) (hq : kpP c0 z F1 T u x v h1) : Ex X M pc A (v.toList ++ []) h1 (kP c0 z F t T u o pl x) := by
  rcases hq with ⟨q1, rfl, rfl⟩ | ⟨q1, q2, rfl, rfl⟩ | ⟨q1, q2, q3, rfl, F2, rfl, tb, hf⟩
  · exact Ex.ret op (ev_reti hr) (Or.inl ⟨q1, F1, z, rfl, h, hs, by omega, rfl⟩)
  · exact Ex.ret op (ev_reti hr) (Or.inr (Or.inl ⟨q1, q2, F1, z, rfl, h, hs, by omega, rfl⟩))
  · obtain ⟨c1, c2⟩ := h.kp tb hf hk
    have h64 := hk.1
    have h60 := hk.2.1
    exact Ex.ret op (ev_reti hr) (Or.inr (Or.inr ⟨q1, q2, q3, F2, _, rfl, c1, rsm.tr hs c2, by omega, rfl⟩))
theorem few_r {v : Int64} (h : few v = true) : ∃ r : Nat, r < 10 ^ 18 ∧ (v = lN r ∨ v = -lN r) := by
  obtain ⟨h1, h2⟩ := few_iff.mp h
  by_cases h0 : 0 ≤ v.toInt
  · obtain ⟨r, hr, e⟩ := lN_of (b := 10 ^ 18) h0 (by omega)
    exact ⟨r, hr, Or.inl e⟩
  · rcases i64_neg v with ⟨a, b⟩ | ⟨a, b⟩
    · omega
    · obtain ⟨r, hr, e⟩ := lN_of (x := -v) (b := 10 ^ 18) (by omega) (by omega)
      exact ⟨r, hr, Or.inr (by rw [← e, Int64.neg_neg])⟩
set_option maxRecDepth 100000 in
set_option maxHeartbeats 2000000 in
theorem q_whole {X : ev_X} {c0 z u pl : Nat} {t o : List Nat} {T : List Tm} {F : Nat → Option va_E} (h : CC c0 t T u o pl F) (v : Int64) : Ex X m_Tab_whole 0 [.ref (c0 + 0), .long v, ev_dead] [] (hp c0 (26 + 5 * T.length) z F) (if few v = true then kP c0 z F t T u o pl (3, v, 0, [], []) else cP c0 z F t T u o pl (.int (-1))) := by
  obtain ⟨s0, nu0, p0, bd0, tl0, ft, hC⟩ := h.2.1
  refine Ex.nx rfl ?_
  refine Hx.calls rfl rfl rfl rfl (sx_few X v) (fun v hv => ?_)
  subst hv
  show Ex X m_Tab_whole 4 [.ref (c0 + 0), .long v, ev_dead] [.int (bi (few v))] (hp c0 (26 + 5 * T.length) _ _) _
  refine Ex.nx rfl ?_
  refine Ex.ite (fun c1 => ?_) (fun c1 => ?_)
  · replace c1 : (few v) = true := bi_net c1
    rw [if_pos c1]
    show Ex X m_Tab_whole 9 [.ref (c0 + 0), .long v, ev_dead] [] (hp c0 (26 + 5 * T.length) _ _) _
    refine Ex.nx rfl ?_
    refine Hx.get 0 rfl h.r0 rfl ?_
    refine Ex.nx rfl ?_
    refine Ex.nx rfl ?_
    refine Ex.nx rfl ?_
    refine Hx.callX 3 rfl rfl hC.r3 rfl rfl (cr_become hC 3 v 0) ?_
    rintro v1 hh ⟨rfl, F1, rfl, hC1⟩
    obtain ⟨g, gs⟩ := h.cr hC1
    show Ex X m_Tab_whole 19 [.ref (c0 + 0), .long v, ev_dead] [] (hp c0 (26 + 5 * T.length) _ _) _
    refine Ex.nx rfl ?_
    refine Hx.get 0 rfl g.r0 rfl ?_
    refine Ex.nx rfl ?_
    refine Hx.get 0 rfl g.r0 rfl ?_
    refine Hx.callX 9 rfl rfl g.2.2.1.1 rfl rfl (tb_keep g.2.2.1 (CR.tm (pn := 0) hC1 (by omega))) ?_
    intro v2 h2 hq
    exact kP_ret rfl rfl g gs (⟨Nat.zero_le _, Nat.zero_le _, few_r c1, Nat.zero_le _, Or.inr (Or.inr (Or.inl rfl))⟩) hq
  · replace c1 : (few v) = false := bi_nef c1
    show Ex X m_Tab_whole 7 [.ref (c0 + 0), .long v, ev_dead] [] (hp c0 (26 + 5 * T.length) _ _) _
    refine Ex.nx rfl ?_
    exact Ex.ret rfl (ev_reti rfl) (by rw [if_neg (by rw [c1]; decide)]; exact h.same)
theorem lz_r : ∀ (p : Nat) (v : Int64) (r : Nat), r < 10 ^ 18 → (v = lN r ∨ v = -lN r) → ∃ r1, r1 < 10 ^ 18 ∧ ((lz p v).1 = lN r1 ∨ (lz p v).1 = -lN r1) := by
  intro p
  induction p with
  | zero => intro v r hr hv; exact ⟨r, hr, hv⟩
  | succ p ih =>
    intro v r hr hv
    rw [lz]
    split
    · refine ih (v / 10) (r / 10) (by omega) ?_
      rcases hv with rfl | rfl
      · exact Or.inl (pk_lDiv (b := 10) (by omega) (by decide) (by decide))
      · refine Or.inr (Int64.toInt_inj.mp ?_)
        have hb := lN_big (r := r) (by omega)
        have hb2 := lN_big (r := r / 10) (by omega)
        have e10 : (10 : Int64).toInt = 10 := rfl
        rcases i64_neg (lN r) with ⟨a, b⟩ | ⟨a, b⟩
        · omega
        rcases i64_neg (lN (r / 10)) with ⟨a2, b2⟩ | ⟨a2, b2⟩
        · omega
        rw [Int64.toInt_div, b, b2, hb, hb2, e10, Int.bmod_eq_of_le]
        · rw [Int.neg_tdiv]; simp
        · rw [Int.neg_tdiv]; simp; omega
        · rw [Int.neg_tdiv]; simp; omega
    · exact ⟨r, hr, hv⟩
set_option maxRecDepth 100000 in
set_option maxHeartbeats 2000000 in
theorem q_decimal {X : ev_X} {c0 z u pl : Nat} {t o : List Nat} {T : List Tm} {F : Nat → Option va_E} (h : CC c0 t T u o pl F) (v : Int64) (b : Int32) : Ex X m_Tab_decimal 0 [.ref (c0 + 0), .long v, ev_dead, .int b] [] (hp c0 (26 + 5 * T.length) z F) (if b < 0 then cP c0 z F t T u o pl (.int (-1)) else if 9 < b then cP c0 z F t T u o pl (.int (-1)) else if few v = true then kP c0 z F t T u o pl (4, (lz b.toNatClampNeg v).1, (lz b.toNatClampNeg v).2, [], []) else cP c0 z F t T u o pl (.int (-1))) := by
  obtain ⟨s0, nu0, p0, bd0, tl0, ft, hC⟩ := h.2.1
  refine Ex.nx rfl ?_
  refine Ex.nx rfl ?_
  refine Ex.ite (fun c1 => ?_) (fun c1 => ?_)
  · replace c1 : b < 0 := of_decide_eq_true c1
    show Ex X m_Tab_decimal 17 [.ref (c0 + 0), .long v, ev_dead, .int b] [] (hp c0 (26 + 5 * T.length) _ _) _
    refine Ex.nx rfl ?_
    exact Ex.ret rfl (ev_reti rfl) (by rw [if_pos c1]; exact h.same)
  · replace c1 : ¬ b < 0 := of_decide_eq_false c1
    show Ex X m_Tab_decimal 4 [.ref (c0 + 0), .long v, ev_dead, .int b] [] (hp c0 (26 + 5 * T.length) _ _) _
    refine Ex.nx rfl ?_
    refine Ex.nx rfl ?_
    refine Ex.nx rfl ?_
    refine Ex.ite (fun c2 => ?_) (fun c2 => ?_)
    · replace c2 : 9 < b := of_decide_eq_true c2
      show Ex X m_Tab_decimal 17 [.ref (c0 + 0), .long v, ev_dead, .int b] [] (hp c0 (26 + 5 * T.length) _ _) _
      refine Ex.nx rfl ?_
      exact Ex.ret rfl (ev_reti rfl) (by rw [if_neg c1, if_pos c2]; exact h.same)
    · replace c2 : ¬ 9 < b := of_decide_eq_false c2
      show Ex X m_Tab_decimal 10 [.ref (c0 + 0), .long v, ev_dead, .int b] [] (hp c0 (26 + 5 * T.length) _ _) _
      refine Ex.nx rfl ?_
      refine Hx.calls rfl rfl rfl rfl (sx_few X v) (fun v hv => ?_)
      subst hv
      show Ex X m_Tab_decimal 14 [.ref (c0 + 0), .long v, ev_dead, .int b] [.int (bi (few v))] (hp c0 (26 + 5 * T.length) _ _) _
      refine Ex.nx rfl ?_
      refine Ex.ite (fun c3 => ?_) (fun c3 => ?_)
      · replace c3 : (few v) = true := bi_net c3
        show Ex X m_Tab_decimal 19 [.ref (c0 + 0), .long v, ev_dead, .int b] [] (hp c0 (26 + 5 * T.length) _ _) _
        rw [if_neg c1, if_neg c2, if_pos c3]
        obtain ⟨p, hp9, rfl⟩ := nI_of2 (M := 9) (n := 9) rfl c1 (Int32.not_lt.mp c2)
        rw [nI_clamp (by omega)]
        refine Ex.nx rfl ?_
        refine Hx.get 0 rfl h.r0 rfl ?_
        refine Ex.nx rfl ?_
        refine Ex.nx rfl ?_
        refine Ex.nx rfl ?_
        refine Hx.callX 3 rfl rfl hC.r3 rfl rfl (cr_become hC 4 v (nI p)) ?_
        rintro v1 hh ⟨rfl, F1, rfl, hC1⟩
        obtain ⟨g, gs⟩ := h.cr hC1
        show Ex X m_Tab_decimal 29 [.ref (c0 + 0), .long v, ev_dead, .int (nI p)] [] (hp c0 (26 + 5 * T.length) _ _) _
        refine Ex.nx rfl ?_
        refine Hx.get 0 rfl g.r0 rfl ?_
        refine Hx.callX 3 rfl rfl hC1.r3 rfl rfl (cr_lz (pn := p) (by omega) hC1) ?_
        rintro v2 hh ⟨rfl, F2, rfl, hC2⟩
        obtain ⟨g2, gs2⟩ := h.cr hC2
        have hz := lz_le p v
        obtain ⟨r0, hr0, hv0⟩ := few_r c3
        show Ex X m_Tab_decimal 36 [.ref (c0 + 0), .long v, ev_dead, .int (nI p)] [] (hp c0 (26 + 5 * T.length) _ _) _
        refine Ex.nx rfl ?_
        refine Hx.get 0 rfl g2.r0 rfl ?_
        refine Ex.nx rfl ?_
        refine Hx.get 0 rfl g2.r0 rfl ?_
        refine Hx.callX 9 rfl rfl g2.2.2.1.1 rfl rfl (tb_keep g2.2.2.1 (CR.tm (pn := (lz p v).2) hC2 (by omega))) ?_
        intro v2 h2 hq
        exact kP_ret rfl rfl g2 gs2 (⟨by simp, by simp, lz_r p v r0 hr0 hv0, show (lz p v).2 ≤ 9 by omega, Or.inr (Or.inr (Or.inr (Or.inl rfl)))⟩) hq
      · replace c3 : (few v) = false := bi_nef c3
        show Ex X m_Tab_decimal 17 [.ref (c0 + 0), .long v, ev_dead, .int b] [] (hp c0 (26 + 5 * T.length) _ _) _
        refine Ex.nx rfl ?_
        exact Ex.ret rfl (ev_reti rfl) (by rw [if_neg c1, if_neg c2, if_neg (by rw [c3]; decide)]; exact h.same)
