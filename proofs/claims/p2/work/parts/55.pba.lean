/-! The class's state, and the methods that tell. (rows laid by wip/whole/pb1.py) -/
/-- the class's state: tape t, terms T with u bytes, latest written o, latest place pl -/
def CC (c0 : Nat) (t : List Nat) (T : List Tm) (u : Nat) (o : List Nat) (pl : Nat) (F : Nat → Option va_E) : Prop := F 0 = some (.inr (5, [.ref (c0 + 1), .ref (c0 + 3), .ref (c0 + 8), .ref (c0 + 9), .ref (c0 + 11)])) ∧ (∃ s nu p bd tl ft, CR c0 F t s nu p bd tl ft (nI pl) F) ∧ tbl c0 F T u ∧ W11 c0 F ∧ (∃ d, WR c0 F o d F) ∧ ∀ i, i < T.length → okT (T.getD i tm0)
/-- a call's end: the state behind it, its answer -/
def cP (c0 z : Nat) (F : Nat → Option va_E) (t : List Nat) (T : List Tm) (u : Nat) (o : List Nat) (pl : Nat) (v : Value) (r : Option Value) (h' : ev_H) : Prop := ∃ F' z', h' = hp c0 (26 + 5 * T.length) z' F' ∧ CC c0 t T u o pl F' ∧ rsm F F' ∧ z' ≤ z + 200 ∧ r = some v
section CCR
variable {X : ev_X} {c0 z u pl : Nat} {t o : List Nat} {T : List Tm} {F : Nat → Option va_E}
theorem CC.r0 (h : CC c0 t T u o pl F) : F 0 = some (.inr (5, [.ref (c0 + 1), .ref (c0 + 3), .ref (c0 + 8), .ref (c0 + 9), .ref (c0 + 11)])) := h.1
theorem CC.same (h : CC c0 t T u o pl F) {v : Value} : cP c0 z F t T u o pl v (some v) (hp c0 (26 + 5 * T.length) z F) := ⟨F, z, rfl, h, rsm.rf, by omega, rfl⟩
theorem CC.T2 (h : CC c0 t T u o pl F) : T.length ≤ 2000 := h.2.2.1.2.2.1
end CCR
set_option maxRecDepth 100000 in
set_option maxHeartbeats 2000000 in
theorem q_place {X : ev_X} {c0 z u pl : Nat} {t o : List Nat} {T : List Tm} {F : Nat → Option va_E} (h : CC c0 t T u o pl F) : Ex X m_Tab_place 0 [.ref (c0 + 0)] [] (hp c0 (26 + 5 * T.length) z F) (cP c0 z F t T u o pl (.int (nI pl))) := by
  obtain ⟨s0, nu0, p0, bd0, tl0, ft, hC⟩ := h.2.1
  refine Ex.nx rfl ?_
  refine Hx.get 0 rfl h.r0 rfl ?_
  refine Hx.call 8 rfl rfl hC.r8 rfl rfl (hx_latest hC.r8) ?_
  show Ex X m_Tab_place 7 [.ref (c0 + 0)] [.int (nI pl)] (hp c0 (26 + 5 * T.length) _ _) _
  exact Ex.ret rfl (ev_reti rfl) h.same
set_option maxRecDepth 100000 in
set_option maxHeartbeats 2000000 in
theorem q_count {X : ev_X} {c0 z u pl : Nat} {t o : List Nat} {T : List Tm} {F : Nat → Option va_E} (h : CC c0 t T u o pl F) : Ex X m_Tab_count 0 [.ref (c0 + 0)] [] (hp c0 (26 + 5 * T.length) z F) (cP c0 z F t T u o pl (.int (nI T.length))) := by
  refine Ex.nx rfl ?_
  refine Hx.get 0 rfl h.r0 rfl ?_
  refine Hx.call 9 rfl rfl h.2.2.1.1 rfl rfl (hx_tsize h.2.2.1.1) ?_
  show Ex X m_Tab_count 7 [.ref (c0 + 0)] [.int (nI T.length)] (hp c0 (26 + 5 * T.length) _ _) _
  exact Ex.ret rfl (ev_reti rfl) h.same
set_option maxRecDepth 100000 in
set_option maxHeartbeats 2000000 in
theorem q_used {X : ev_X} {c0 z u pl : Nat} {t o : List Nat} {T : List Tm} {F : Nat → Option va_E} (h : CC c0 t T u o pl F) : Ex X m_Tab_used 0 [.ref (c0 + 0)] [] (hp c0 (26 + 5 * T.length) z F) (cP c0 z F t T u o pl (.int (nI u))) := by
  refine Ex.nx rfl ?_
  refine Hx.get 0 rfl h.r0 rfl ?_
  refine Hx.call 9 rfl rfl h.2.2.1.1 rfl rfl (hx_tbytes h.2.2.1.1) ?_
  show Ex X m_Tab_used 7 [.ref (c0 + 0)] [.int (nI u)] (hp c0 (26 + 5 * T.length) _ _) _
  exact Ex.ret rfl (ev_reti rfl) h.same
set_option maxRecDepth 100000 in
set_option maxHeartbeats 2000000 in
theorem q_kind_no {X : ev_X} {c0 z u pl : Nat} {t o : List Nat} {T : List Tm} {F : Nat → Option va_E} (h : CC c0 t T u o pl F) {a : Int32} (ha : a < 1 ∨ (¬ a < 1 ∧ nI T.length < a)) : Ex X m_Tab_kind 0 [.ref (c0 + 0), .int a, ev_dead] [] (hp c0 (26 + 5 * T.length) z F) (cP c0 z F t T u o pl (.int (-1))) := by
  refine Ex.nx rfl ?_
  refine Hx.get 0 rfl h.r0 rfl ?_
  refine Ex.nx rfl ?_
  refine Hx.call 9 rfl rfl h.2.2.1.1 rfl rfl (tb_no h.2.2.1 ha) ?_
  show Ex X m_Tab_kind 8 [.ref (c0 + 0), .int a, ev_dead] [.null] (hp c0 (26 + 5 * T.length) _ _) _
  refine Ex.nx rfl ?_
  show Ex X m_Tab_kind 9 [.ref (c0 + 0), .int a, .null] [] (hp c0 (26 + 5 * T.length) _ _) _
  refine Ex.nx rfl ?_
  refine Ex.nx rfl ?_
  show Ex X m_Tab_kind 13 [.ref (c0 + 0), .int a, .null] [] (hp c0 (26 + 5 * T.length) _ _) _
  refine Ex.nx rfl ?_
  refine Ex.nx rfl ?_
  exact Ex.ret rfl (ev_reti rfl) h.same
set_option maxRecDepth 100000 in
set_option maxHeartbeats 2000000 in
theorem q_kind_in {X : ev_X} {c0 z u pl : Nat} {t o : List Nat} {T : List Tm} {F : Nat → Option va_E} (h : CC c0 t T u o pl F) {i : Nat} (hi : i < T.length) : Ex X m_Tab_kind 0 [.ref (c0 + 0), .int (nI (i + 1)), ev_dead] [] (hp c0 (26 + 5 * T.length) z F) (cP c0 z F t T u o pl (.int ((T.getD i tm0).1))) := by
  obtain ⟨M1, M2, hti⟩ := h.2.2.1.2.2.2.2 i hi
  refine Ex.nx rfl ?_
  refine Hx.get 0 rfl h.r0 rfl ?_
  refine Ex.nx rfl ?_
  refine Hx.call 9 rfl rfl h.2.2.1.1 rfl rfl (tb_get h.2.2.1 (i := i) hi) ?_
  show Ex X m_Tab_kind 8 [.ref (c0 + 0), .int (nI (i + 1)), ev_dead] [.ref (c0 + (26 + 5 * i))] (hp c0 (26 + 5 * T.length) _ _) _
  refine Ex.nx rfl ?_
  show Ex X m_Tab_kind 9 [.ref (c0 + 0), .int (nI (i + 1)), .ref (c0 + (26 + 5 * i))] [] (hp c0 (26 + 5 * T.length) _ _) _
  refine Ex.nx rfl ?_
  refine Ex.nx rfl ?_
  show Ex X m_Tab_kind 17 [.ref (c0 + 0), .int (nI (i + 1)), .ref (c0 + (26 + 5 * i))] [] (hp c0 (26 + 5 * T.length) _ _) _
  refine Ex.nx rfl ?_
  refine Hx.get (26 + 5 * i) rfl hti.1 rfl ?_
  exact Ex.ret rfl (ev_reti rfl) h.same
set_option maxRecDepth 100000 in
set_option maxHeartbeats 2000000 in
theorem q_value_no {X : ev_X} {c0 z u pl : Nat} {t o : List Nat} {T : List Tm} {F : Nat → Option va_E} (h : CC c0 t T u o pl F) {a : Int32} (ha : a < 1 ∨ (¬ a < 1 ∧ nI T.length < a)) : Ex X m_Tab_value 0 [.ref (c0 + 0), .int a, ev_dead] [] (hp c0 (26 + 5 * T.length) z F) (cP c0 z F t T u o pl (.long (0))) := by
  refine Ex.nx rfl ?_
  refine Hx.get 0 rfl h.r0 rfl ?_
  refine Ex.nx rfl ?_
  refine Hx.call 9 rfl rfl h.2.2.1.1 rfl rfl (tb_no h.2.2.1 ha) ?_
  show Ex X m_Tab_value 8 [.ref (c0 + 0), .int a, ev_dead] [.null] (hp c0 (26 + 5 * T.length) _ _) _
  refine Ex.nx rfl ?_
  show Ex X m_Tab_value 9 [.ref (c0 + 0), .int a, .null] [] (hp c0 (26 + 5 * T.length) _ _) _
  refine Ex.nx rfl ?_
  refine Ex.nx rfl ?_
  show Ex X m_Tab_value 13 [.ref (c0 + 0), .int a, .null] [] (hp c0 (26 + 5 * T.length) _ _) _
  refine Ex.nx rfl ?_
  refine Ex.nx rfl ?_
  exact Ex.ret rfl rfl h.same
set_option maxRecDepth 100000 in
set_option maxHeartbeats 2000000 in
theorem q_value_in {X : ev_X} {c0 z u pl : Nat} {t o : List Nat} {T : List Tm} {F : Nat → Option va_E} (h : CC c0 t T u o pl F) {i : Nat} (hi : i < T.length) : Ex X m_Tab_value 0 [.ref (c0 + 0), .int (nI (i + 1)), ev_dead] [] (hp c0 (26 + 5 * T.length) z F) (cP c0 z F t T u o pl (.long ((T.getD i tm0).2.1))) := by
  obtain ⟨M1, M2, hti⟩ := h.2.2.1.2.2.2.2 i hi
  refine Ex.nx rfl ?_
  refine Hx.get 0 rfl h.r0 rfl ?_
  refine Ex.nx rfl ?_
  refine Hx.call 9 rfl rfl h.2.2.1.1 rfl rfl (tb_get h.2.2.1 (i := i) hi) ?_
  show Ex X m_Tab_value 8 [.ref (c0 + 0), .int (nI (i + 1)), ev_dead] [.ref (c0 + (26 + 5 * i))] (hp c0 (26 + 5 * T.length) _ _) _
  refine Ex.nx rfl ?_
  show Ex X m_Tab_value 9 [.ref (c0 + 0), .int (nI (i + 1)), .ref (c0 + (26 + 5 * i))] [] (hp c0 (26 + 5 * T.length) _ _) _
  refine Ex.nx rfl ?_
  refine Ex.nx rfl ?_
  show Ex X m_Tab_value 17 [.ref (c0 + 0), .int (nI (i + 1)), .ref (c0 + (26 + 5 * i))] [] (hp c0 (26 + 5 * T.length) _ _) _
  refine Ex.nx rfl ?_
  refine Hx.get (26 + 5 * i) rfl hti.1 rfl ?_
  exact Ex.ret rfl rfl h.same
set_option maxRecDepth 100000 in
set_option maxHeartbeats 2000000 in
theorem q_scale_no {X : ev_X} {c0 z u pl : Nat} {t o : List Nat} {T : List Tm} {F : Nat → Option va_E} (h : CC c0 t T u o pl F) {a : Int32} (ha : a < 1 ∨ (¬ a < 1 ∧ nI T.length < a)) : Ex X m_Tab_scale 0 [.ref (c0 + 0), .int a, ev_dead] [] (hp c0 (26 + 5 * T.length) z F) (cP c0 z F t T u o pl (.int (-1))) := by
  refine Ex.nx rfl ?_
  refine Hx.get 0 rfl h.r0 rfl ?_
  refine Ex.nx rfl ?_
  refine Hx.call 9 rfl rfl h.2.2.1.1 rfl rfl (tb_no h.2.2.1 ha) ?_
  show Ex X m_Tab_scale 8 [.ref (c0 + 0), .int a, ev_dead] [.null] (hp c0 (26 + 5 * T.length) _ _) _
  refine Ex.nx rfl ?_
  show Ex X m_Tab_scale 9 [.ref (c0 + 0), .int a, .null] [] (hp c0 (26 + 5 * T.length) _ _) _
  refine Ex.nx rfl ?_
  refine Ex.nx rfl ?_
  show Ex X m_Tab_scale 13 [.ref (c0 + 0), .int a, .null] [] (hp c0 (26 + 5 * T.length) _ _) _
  refine Ex.nx rfl ?_
  refine Ex.nx rfl ?_
  exact Ex.ret rfl (ev_reti rfl) h.same
set_option maxRecDepth 100000 in
set_option maxHeartbeats 2000000 in
theorem q_scale_in {X : ev_X} {c0 z u pl : Nat} {t o : List Nat} {T : List Tm} {F : Nat → Option va_E} (h : CC c0 t T u o pl F) {i : Nat} (hi : i < T.length) : Ex X m_Tab_scale 0 [.ref (c0 + 0), .int (nI (i + 1)), ev_dead] [] (hp c0 (26 + 5 * T.length) z F) (cP c0 z F t T u o pl (.int (nI (T.getD i tm0).2.2.1))) := by
  obtain ⟨M1, M2, hti⟩ := h.2.2.1.2.2.2.2 i hi
  refine Ex.nx rfl ?_
  refine Hx.get 0 rfl h.r0 rfl ?_
  refine Ex.nx rfl ?_
  refine Hx.call 9 rfl rfl h.2.2.1.1 rfl rfl (tb_get h.2.2.1 (i := i) hi) ?_
  show Ex X m_Tab_scale 8 [.ref (c0 + 0), .int (nI (i + 1)), ev_dead] [.ref (c0 + (26 + 5 * i))] (hp c0 (26 + 5 * T.length) _ _) _
  refine Ex.nx rfl ?_
  show Ex X m_Tab_scale 9 [.ref (c0 + 0), .int (nI (i + 1)), .ref (c0 + (26 + 5 * i))] [] (hp c0 (26 + 5 * T.length) _ _) _
  refine Ex.nx rfl ?_
  refine Ex.nx rfl ?_
  show Ex X m_Tab_scale 17 [.ref (c0 + 0), .int (nI (i + 1)), .ref (c0 + (26 + 5 * i))] [] (hp c0 (26 + 5 * T.length) _ _) _
  refine Ex.nx rfl ?_
  refine Hx.get (26 + 5 * i) rfl hti.1 rfl ?_
  exact Ex.ret rfl (ev_reti rfl) h.same
set_option maxRecDepth 100000 in
set_option maxHeartbeats 2000000 in
theorem q_write_no {X : ev_X} {c0 z u pl : Nat} {t o : List Nat} {T : List Tm} {F : Nat → Option va_E} (h : CC c0 t T u o pl F) {a : Int32} (ha : a < 1 ∨ (¬ a < 1 ∧ nI T.length < a)) : Ex X m_Tab_write 0 [.ref (c0 + 0), .int a, ev_dead] [] (hp c0 (26 + 5 * T.length) z F) (cP c0 z F t T u o pl (.int (-1))) := by
  refine Ex.nx rfl ?_
  refine Hx.get 0 rfl h.r0 rfl ?_
  refine Ex.nx rfl ?_
  refine Hx.call 9 rfl rfl h.2.2.1.1 rfl rfl (tb_no h.2.2.1 ha) ?_
  show Ex X m_Tab_write 8 [.ref (c0 + 0), .int a, ev_dead] [.null] (hp c0 (26 + 5 * T.length) _ _) _
  refine Ex.nx rfl ?_
  show Ex X m_Tab_write 9 [.ref (c0 + 0), .int a, .null] [] (hp c0 (26 + 5 * T.length) _ _) _
  refine Ex.nx rfl ?_
  refine Ex.nx rfl ?_
  show Ex X m_Tab_write 13 [.ref (c0 + 0), .int a, .null] [] (hp c0 (26 + 5 * T.length) _ _) _
  refine Ex.nx rfl ?_
  refine Ex.nx rfl ?_
  exact Ex.ret rfl (ev_reti rfl) h.same
set_option maxRecDepth 100000 in
set_option maxHeartbeats 2000000 in
theorem q_part_no {X : ev_X} {c0 z u pl : Nat} {t o : List Nat} {T : List Tm} {F : Nat → Option va_E} (h : CC c0 t T u o pl F) {a : Int32} (ha : a < 1 ∨ (¬ a < 1 ∧ nI T.length < a)) (b : Int32) : Ex X m_Tab_part 0 [.ref (c0 + 0), .int a, .int b, ev_dead] [] (hp c0 (26 + 5 * T.length) z F) (cP c0 z F t T u o pl (.int (-1))) := by
  refine Ex.nx rfl ?_
  refine Hx.get 0 rfl h.r0 rfl ?_
  refine Ex.nx rfl ?_
  refine Hx.call 9 rfl rfl h.2.2.1.1 rfl rfl (tb_no h.2.2.1 ha) ?_
  show Ex X m_Tab_part 8 [.ref (c0 + 0), .int a, .int b, ev_dead] [.null] (hp c0 (26 + 5 * T.length) _ _) _
  refine Ex.nx rfl ?_
  show Ex X m_Tab_part 9 [.ref (c0 + 0), .int a, .int b, .null] [] (hp c0 (26 + 5 * T.length) _ _) _
  refine Ex.nx rfl ?_
  refine Ex.nx rfl ?_
  show Ex X m_Tab_part 13 [.ref (c0 + 0), .int a, .int b, .null] [] (hp c0 (26 + 5 * T.length) _ _) _
  refine Ex.nx rfl ?_
  exact Ex.ret rfl (ev_reti rfl) h.same
def smT (x y : Tm) : Int32 := if rkT x = rkT y then (if vlT x y = 0 ∧ ordL x.2.2.2.2 y.2.2.2.2 = 0 then 1 else if x.1 = 7 then 2 else 0) else if (str x y || str y x) = true then 2 else 0
def lsT (x y : Tm) : Int32 := if rkT x = rkT y ∧ hls x = true then (if vlT x y < 0 then 1 else 0) else 2
set_option maxRecDepth 100000 in
set_option maxHeartbeats 2000000 in
theorem q_order_nn {X : ev_X} {c0 z u pl : Nat} {t o : List Nat} {T : List Tm} {F : Nat → Option va_E} (h : CC c0 t T u o pl F) {a : Int32} (ha : a < 1 ∨ (¬ a < 1 ∧ nI T.length < a)) {b : Int32} (hb : b < 1 ∨ (¬ b < 1 ∧ nI T.length < b)) : Ex X m_Tab_order 0 [.ref (c0 + 0), .int a, .int b, ev_dead, ev_dead] [] (hp c0 (26 + 5 * T.length) z F) (cP c0 z F t T u o pl (.int (2))) := by
  refine Ex.nx rfl ?_
  refine Hx.get 0 rfl h.r0 rfl ?_
  refine Ex.nx rfl ?_
  refine Hx.call 9 rfl rfl h.2.2.1.1 rfl rfl (tb_no h.2.2.1 ha) ?_
  show Ex X m_Tab_order 8 [.ref (c0 + 0), .int a, .int b, ev_dead, ev_dead] [.null] (hp c0 (26 + 5 * T.length) _ _) _
  refine Ex.nx rfl ?_
  show Ex X m_Tab_order 9 [.ref (c0 + 0), .int a, .int b, .null, ev_dead] [] (hp c0 (26 + 5 * T.length) _ _) _
  refine Ex.nx rfl ?_
  refine Hx.get 0 rfl h.r0 rfl ?_
  refine Ex.nx rfl ?_
  refine Hx.call 9 rfl rfl h.2.2.1.1 rfl rfl (tb_no h.2.2.1 hb) ?_
  show Ex X m_Tab_order 17 [.ref (c0 + 0), .int a, .int b, .null, ev_dead] [.null] (hp c0 (26 + 5 * T.length) _ _) _
  refine Ex.nx rfl ?_
  show Ex X m_Tab_order 19 [.ref (c0 + 0), .int a, .int b, .null, .null] [] (hp c0 (26 + 5 * T.length) _ _) _
  refine Ex.nx rfl ?_
  refine Ex.nx rfl ?_
  show Ex X m_Tab_order 28 [.ref (c0 + 0), .int a, .int b, .null, .null] [] (hp c0 (26 + 5 * T.length) _ _) _
  refine Ex.nx rfl ?_
  refine Ex.nx rfl ?_
  exact Ex.ret rfl (ev_reti rfl) h.same
set_option maxRecDepth 100000 in
set_option maxHeartbeats 2000000 in
theorem q_order_ni {X : ev_X} {c0 z u pl : Nat} {t o : List Nat} {T : List Tm} {F : Nat → Option va_E} (h : CC c0 t T u o pl F) {a : Int32} (ha : a < 1 ∨ (¬ a < 1 ∧ nI T.length < a)) {j : Nat} (hj : j < T.length) : Ex X m_Tab_order 0 [.ref (c0 + 0), .int a, .int (nI (j + 1)), ev_dead, ev_dead] [] (hp c0 (26 + 5 * T.length) z F) (cP c0 z F t T u o pl (.int (2))) := by
  refine Ex.nx rfl ?_
  refine Hx.get 0 rfl h.r0 rfl ?_
  refine Ex.nx rfl ?_
  refine Hx.call 9 rfl rfl h.2.2.1.1 rfl rfl (tb_no h.2.2.1 ha) ?_
  show Ex X m_Tab_order 8 [.ref (c0 + 0), .int a, .int (nI (j + 1)), ev_dead, ev_dead] [.null] (hp c0 (26 + 5 * T.length) _ _) _
  refine Ex.nx rfl ?_
  show Ex X m_Tab_order 9 [.ref (c0 + 0), .int a, .int (nI (j + 1)), .null, ev_dead] [] (hp c0 (26 + 5 * T.length) _ _) _
  refine Ex.nx rfl ?_
  refine Hx.get 0 rfl h.r0 rfl ?_
  refine Ex.nx rfl ?_
  refine Hx.call 9 rfl rfl h.2.2.1.1 rfl rfl (tb_get h.2.2.1 (i := j) hj) ?_
  show Ex X m_Tab_order 17 [.ref (c0 + 0), .int a, .int (nI (j + 1)), .null, ev_dead] [.ref (c0 + (26 + 5 * j))] (hp c0 (26 + 5 * T.length) _ _) _
  refine Ex.nx rfl ?_
  show Ex X m_Tab_order 19 [.ref (c0 + 0), .int a, .int (nI (j + 1)), .null, .ref (c0 + (26 + 5 * j))] [] (hp c0 (26 + 5 * T.length) _ _) _
  refine Ex.nx rfl ?_
  refine Ex.nx rfl ?_
  show Ex X m_Tab_order 28 [.ref (c0 + 0), .int a, .int (nI (j + 1)), .null, .ref (c0 + (26 + 5 * j))] [] (hp c0 (26 + 5 * T.length) _ _) _
  refine Ex.nx rfl ?_
  refine Ex.nx rfl ?_
  exact Ex.ret rfl (ev_reti rfl) h.same
set_option maxRecDepth 100000 in
set_option maxHeartbeats 2000000 in
theorem q_order_in {X : ev_X} {c0 z u pl : Nat} {t o : List Nat} {T : List Tm} {F : Nat → Option va_E} (h : CC c0 t T u o pl F) {i : Nat} (hi : i < T.length) {b : Int32} (hb : b < 1 ∨ (¬ b < 1 ∧ nI T.length < b)) : Ex X m_Tab_order 0 [.ref (c0 + 0), .int (nI (i + 1)), .int b, ev_dead, ev_dead] [] (hp c0 (26 + 5 * T.length) z F) (cP c0 z F t T u o pl (.int (2))) := by
  refine Ex.nx rfl ?_
  refine Hx.get 0 rfl h.r0 rfl ?_
  refine Ex.nx rfl ?_
  refine Hx.call 9 rfl rfl h.2.2.1.1 rfl rfl (tb_get h.2.2.1 (i := i) hi) ?_
  show Ex X m_Tab_order 8 [.ref (c0 + 0), .int (nI (i + 1)), .int b, ev_dead, ev_dead] [.ref (c0 + (26 + 5 * i))] (hp c0 (26 + 5 * T.length) _ _) _
  refine Ex.nx rfl ?_
  show Ex X m_Tab_order 9 [.ref (c0 + 0), .int (nI (i + 1)), .int b, .ref (c0 + (26 + 5 * i)), ev_dead] [] (hp c0 (26 + 5 * T.length) _ _) _
  refine Ex.nx rfl ?_
  refine Hx.get 0 rfl h.r0 rfl ?_
  refine Ex.nx rfl ?_
  refine Hx.call 9 rfl rfl h.2.2.1.1 rfl rfl (tb_no h.2.2.1 hb) ?_
  show Ex X m_Tab_order 17 [.ref (c0 + 0), .int (nI (i + 1)), .int b, .ref (c0 + (26 + 5 * i)), ev_dead] [.null] (hp c0 (26 + 5 * T.length) _ _) _
  refine Ex.nx rfl ?_
  show Ex X m_Tab_order 19 [.ref (c0 + 0), .int (nI (i + 1)), .int b, .ref (c0 + (26 + 5 * i)), .null] [] (hp c0 (26 + 5 * T.length) _ _) _
  refine Ex.nx rfl ?_
  refine Ex.nx rfl ?_
  show Ex X m_Tab_order 23 [.ref (c0 + 0), .int (nI (i + 1)), .int b, .ref (c0 + (26 + 5 * i)), .null] [] (hp c0 (26 + 5 * T.length) _ _) _
  refine Ex.nx rfl ?_
  refine Ex.nx rfl ?_
  show Ex X m_Tab_order 28 [.ref (c0 + 0), .int (nI (i + 1)), .int b, .ref (c0 + (26 + 5 * i)), .null] [] (hp c0 (26 + 5 * T.length) _ _) _
  refine Ex.nx rfl ?_
  refine Ex.nx rfl ?_
  exact Ex.ret rfl (ev_reti rfl) h.same
set_option maxRecDepth 100000 in
set_option maxHeartbeats 2000000 in
theorem q_order_ii {X : ev_X} {c0 z u pl : Nat} {t o : List Nat} {T : List Tm} {F : Nat → Option va_E} (h : CC c0 t T u o pl F) {i j : Nat} (hi : i < T.length) (hj : j < T.length) : Ex X m_Tab_order 0 [.ref (c0 + 0), .int (nI (i + 1)), .int (nI (j + 1)), ev_dead, ev_dead] [] (hp c0 (26 + 5 * T.length) z F) (cP c0 z F t T u o pl (.int (orT (T.getD i tm0) (T.getD j tm0)))) := by
  obtain ⟨M1, M2, hti⟩ := h.2.2.1.2.2.2.2 i hi
  obtain ⟨M3, M4, htj⟩ := h.2.2.1.2.2.2.2 j hj
  refine Ex.nx rfl ?_
  refine Hx.get 0 rfl h.r0 rfl ?_
  refine Ex.nx rfl ?_
  refine Hx.call 9 rfl rfl h.2.2.1.1 rfl rfl (tb_get h.2.2.1 (i := i) hi) ?_
  show Ex X m_Tab_order 8 [.ref (c0 + 0), .int (nI (i + 1)), .int (nI (j + 1)), ev_dead, ev_dead] [.ref (c0 + (26 + 5 * i))] (hp c0 (26 + 5 * T.length) _ _) _
  refine Ex.nx rfl ?_
  show Ex X m_Tab_order 9 [.ref (c0 + 0), .int (nI (i + 1)), .int (nI (j + 1)), .ref (c0 + (26 + 5 * i)), ev_dead] [] (hp c0 (26 + 5 * T.length) _ _) _
  refine Ex.nx rfl ?_
  refine Hx.get 0 rfl h.r0 rfl ?_
  refine Ex.nx rfl ?_
  refine Hx.call 9 rfl rfl h.2.2.1.1 rfl rfl (tb_get h.2.2.1 (i := j) hj) ?_
  show Ex X m_Tab_order 17 [.ref (c0 + 0), .int (nI (i + 1)), .int (nI (j + 1)), .ref (c0 + (26 + 5 * i)), ev_dead] [.ref (c0 + (26 + 5 * j))] (hp c0 (26 + 5 * T.length) _ _) _
  refine Ex.nx rfl ?_
  show Ex X m_Tab_order 19 [.ref (c0 + 0), .int (nI (i + 1)), .int (nI (j + 1)), .ref (c0 + (26 + 5 * i)), .ref (c0 + (26 + 5 * j))] [] (hp c0 (26 + 5 * T.length) _ _) _
  refine Ex.nx rfl ?_
  refine Ex.nx rfl ?_
  show Ex X m_Tab_order 23 [.ref (c0 + 0), .int (nI (i + 1)), .int (nI (j + 1)), .ref (c0 + (26 + 5 * i)), .ref (c0 + (26 + 5 * j))] [] (hp c0 (26 + 5 * T.length) _ _) _
  refine Ex.nx rfl ?_
  refine Ex.nx rfl ?_
  show Ex X m_Tab_order 32 [.ref (c0 + 0), .int (nI (i + 1)), .int (nI (j + 1)), .ref (c0 + (26 + 5 * i)), .ref (c0 + (26 + 5 * j))] [] (hp c0 (26 + 5 * T.length) _ _) _
  refine Ex.nx rfl ?_
  refine Ex.nx rfl ?_
  refine Hx.call (26 + 5 * i) rfl rfl hti.1 rfl rfl (tm_ord hti htj) ?_
  show Ex X m_Tab_order 38 [.ref (c0 + 0), .int (nI (i + 1)), .int (nI (j + 1)), .ref (c0 + (26 + 5 * i)), .ref (c0 + (26 + 5 * j))] [.int (orT (T.getD i tm0) (T.getD j tm0))] (hp c0 (26 + 5 * T.length) _ _) _
  exact Ex.ret rfl (ev_reti rfl) h.same
set_option maxRecDepth 100000 in
set_option maxHeartbeats 2000000 in
theorem q_same_nn {X : ev_X} {c0 z u pl : Nat} {t o : List Nat} {T : List Tm} {F : Nat → Option va_E} (h : CC c0 t T u o pl F) {a : Int32} (ha : a < 1 ∨ (¬ a < 1 ∧ nI T.length < a)) {b : Int32} (hb : b < 1 ∨ (¬ b < 1 ∧ nI T.length < b)) : Ex X m_Tab_same 0 [.ref (c0 + 0), .int a, .int b, ev_dead, ev_dead] [] (hp c0 (26 + 5 * T.length) z F) (cP c0 z F t T u o pl (.int (2))) := by
  refine Ex.nx rfl ?_
  refine Hx.get 0 rfl h.r0 rfl ?_
  refine Ex.nx rfl ?_
  refine Hx.call 9 rfl rfl h.2.2.1.1 rfl rfl (tb_no h.2.2.1 ha) ?_
  show Ex X m_Tab_same 8 [.ref (c0 + 0), .int a, .int b, ev_dead, ev_dead] [.null] (hp c0 (26 + 5 * T.length) _ _) _
  refine Ex.nx rfl ?_
  show Ex X m_Tab_same 9 [.ref (c0 + 0), .int a, .int b, .null, ev_dead] [] (hp c0 (26 + 5 * T.length) _ _) _
  refine Ex.nx rfl ?_
  refine Hx.get 0 rfl h.r0 rfl ?_
  refine Ex.nx rfl ?_
  refine Hx.call 9 rfl rfl h.2.2.1.1 rfl rfl (tb_no h.2.2.1 hb) ?_
  show Ex X m_Tab_same 17 [.ref (c0 + 0), .int a, .int b, .null, ev_dead] [.null] (hp c0 (26 + 5 * T.length) _ _) _
  refine Ex.nx rfl ?_
  show Ex X m_Tab_same 19 [.ref (c0 + 0), .int a, .int b, .null, .null] [] (hp c0 (26 + 5 * T.length) _ _) _
  refine Ex.nx rfl ?_
  refine Ex.nx rfl ?_
  show Ex X m_Tab_same 28 [.ref (c0 + 0), .int a, .int b, .null, .null] [] (hp c0 (26 + 5 * T.length) _ _) _
  refine Ex.nx rfl ?_
  exact Ex.ret rfl (ev_reti rfl) h.same
set_option maxRecDepth 100000 in
set_option maxHeartbeats 2000000 in
theorem q_same_ni {X : ev_X} {c0 z u pl : Nat} {t o : List Nat} {T : List Tm} {F : Nat → Option va_E} (h : CC c0 t T u o pl F) {a : Int32} (ha : a < 1 ∨ (¬ a < 1 ∧ nI T.length < a)) {j : Nat} (hj : j < T.length) : Ex X m_Tab_same 0 [.ref (c0 + 0), .int a, .int (nI (j + 1)), ev_dead, ev_dead] [] (hp c0 (26 + 5 * T.length) z F) (cP c0 z F t T u o pl (.int (2))) := by
  refine Ex.nx rfl ?_
  refine Hx.get 0 rfl h.r0 rfl ?_
  refine Ex.nx rfl ?_
  refine Hx.call 9 rfl rfl h.2.2.1.1 rfl rfl (tb_no h.2.2.1 ha) ?_
  show Ex X m_Tab_same 8 [.ref (c0 + 0), .int a, .int (nI (j + 1)), ev_dead, ev_dead] [.null] (hp c0 (26 + 5 * T.length) _ _) _
  refine Ex.nx rfl ?_
  show Ex X m_Tab_same 9 [.ref (c0 + 0), .int a, .int (nI (j + 1)), .null, ev_dead] [] (hp c0 (26 + 5 * T.length) _ _) _
  refine Ex.nx rfl ?_
  refine Hx.get 0 rfl h.r0 rfl ?_
  refine Ex.nx rfl ?_
  refine Hx.call 9 rfl rfl h.2.2.1.1 rfl rfl (tb_get h.2.2.1 (i := j) hj) ?_
  show Ex X m_Tab_same 17 [.ref (c0 + 0), .int a, .int (nI (j + 1)), .null, ev_dead] [.ref (c0 + (26 + 5 * j))] (hp c0 (26 + 5 * T.length) _ _) _
  refine Ex.nx rfl ?_
  show Ex X m_Tab_same 19 [.ref (c0 + 0), .int a, .int (nI (j + 1)), .null, .ref (c0 + (26 + 5 * j))] [] (hp c0 (26 + 5 * T.length) _ _) _
  refine Ex.nx rfl ?_
  refine Ex.nx rfl ?_
  show Ex X m_Tab_same 28 [.ref (c0 + 0), .int a, .int (nI (j + 1)), .null, .ref (c0 + (26 + 5 * j))] [] (hp c0 (26 + 5 * T.length) _ _) _
  refine Ex.nx rfl ?_
  exact Ex.ret rfl (ev_reti rfl) h.same
set_option maxRecDepth 100000 in
set_option maxHeartbeats 2000000 in
theorem q_same_in {X : ev_X} {c0 z u pl : Nat} {t o : List Nat} {T : List Tm} {F : Nat → Option va_E} (h : CC c0 t T u o pl F) {i : Nat} (hi : i < T.length) {b : Int32} (hb : b < 1 ∨ (¬ b < 1 ∧ nI T.length < b)) : Ex X m_Tab_same 0 [.ref (c0 + 0), .int (nI (i + 1)), .int b, ev_dead, ev_dead] [] (hp c0 (26 + 5 * T.length) z F) (cP c0 z F t T u o pl (.int (2))) := by
  refine Ex.nx rfl ?_
  refine Hx.get 0 rfl h.r0 rfl ?_
  refine Ex.nx rfl ?_
  refine Hx.call 9 rfl rfl h.2.2.1.1 rfl rfl (tb_get h.2.2.1 (i := i) hi) ?_
  show Ex X m_Tab_same 8 [.ref (c0 + 0), .int (nI (i + 1)), .int b, ev_dead, ev_dead] [.ref (c0 + (26 + 5 * i))] (hp c0 (26 + 5 * T.length) _ _) _
  refine Ex.nx rfl ?_
  show Ex X m_Tab_same 9 [.ref (c0 + 0), .int (nI (i + 1)), .int b, .ref (c0 + (26 + 5 * i)), ev_dead] [] (hp c0 (26 + 5 * T.length) _ _) _
  refine Ex.nx rfl ?_
  refine Hx.get 0 rfl h.r0 rfl ?_
  refine Ex.nx rfl ?_
  refine Hx.call 9 rfl rfl h.2.2.1.1 rfl rfl (tb_no h.2.2.1 hb) ?_
  show Ex X m_Tab_same 17 [.ref (c0 + 0), .int (nI (i + 1)), .int b, .ref (c0 + (26 + 5 * i)), ev_dead] [.null] (hp c0 (26 + 5 * T.length) _ _) _
  refine Ex.nx rfl ?_
  show Ex X m_Tab_same 19 [.ref (c0 + 0), .int (nI (i + 1)), .int b, .ref (c0 + (26 + 5 * i)), .null] [] (hp c0 (26 + 5 * T.length) _ _) _
  refine Ex.nx rfl ?_
  refine Ex.nx rfl ?_
  show Ex X m_Tab_same 23 [.ref (c0 + 0), .int (nI (i + 1)), .int b, .ref (c0 + (26 + 5 * i)), .null] [] (hp c0 (26 + 5 * T.length) _ _) _
  refine Ex.nx rfl ?_
  refine Ex.nx rfl ?_
  show Ex X m_Tab_same 28 [.ref (c0 + 0), .int (nI (i + 1)), .int b, .ref (c0 + (26 + 5 * i)), .null] [] (hp c0 (26 + 5 * T.length) _ _) _
  refine Ex.nx rfl ?_
  exact Ex.ret rfl (ev_reti rfl) h.same
set_option maxRecDepth 100000 in
set_option maxHeartbeats 2000000 in
theorem q_same_ii {X : ev_X} {c0 z u pl : Nat} {t o : List Nat} {T : List Tm} {F : Nat → Option va_E} (h : CC c0 t T u o pl F) {i j : Nat} (hi : i < T.length) (hj : j < T.length) : Ex X m_Tab_same 0 [.ref (c0 + 0), .int (nI (i + 1)), .int (nI (j + 1)), ev_dead, ev_dead] [] (hp c0 (26 + 5 * T.length) z F) (cP c0 z F t T u o pl (.int (smT (T.getD i tm0) (T.getD j tm0)))) := by
  obtain ⟨M1, M2, hti⟩ := h.2.2.1.2.2.2.2 i hi
  obtain ⟨M3, M4, htj⟩ := h.2.2.1.2.2.2.2 j hj
  refine Ex.nx rfl ?_
  refine Hx.get 0 rfl h.r0 rfl ?_
  refine Ex.nx rfl ?_
  refine Hx.call 9 rfl rfl h.2.2.1.1 rfl rfl (tb_get h.2.2.1 (i := i) hi) ?_
  show Ex X m_Tab_same 8 [.ref (c0 + 0), .int (nI (i + 1)), .int (nI (j + 1)), ev_dead, ev_dead] [.ref (c0 + (26 + 5 * i))] (hp c0 (26 + 5 * T.length) _ _) _
  refine Ex.nx rfl ?_
  show Ex X m_Tab_same 9 [.ref (c0 + 0), .int (nI (i + 1)), .int (nI (j + 1)), .ref (c0 + (26 + 5 * i)), ev_dead] [] (hp c0 (26 + 5 * T.length) _ _) _
  refine Ex.nx rfl ?_
  refine Hx.get 0 rfl h.r0 rfl ?_
  refine Ex.nx rfl ?_
  refine Hx.call 9 rfl rfl h.2.2.1.1 rfl rfl (tb_get h.2.2.1 (i := j) hj) ?_
  show Ex X m_Tab_same 17 [.ref (c0 + 0), .int (nI (i + 1)), .int (nI (j + 1)), .ref (c0 + (26 + 5 * i)), ev_dead] [.ref (c0 + (26 + 5 * j))] (hp c0 (26 + 5 * T.length) _ _) _
  refine Ex.nx rfl ?_
  show Ex X m_Tab_same 19 [.ref (c0 + 0), .int (nI (i + 1)), .int (nI (j + 1)), .ref (c0 + (26 + 5 * i)), .ref (c0 + (26 + 5 * j))] [] (hp c0 (26 + 5 * T.length) _ _) _
  refine Ex.nx rfl ?_
  refine Ex.nx rfl ?_
  show Ex X m_Tab_same 23 [.ref (c0 + 0), .int (nI (i + 1)), .int (nI (j + 1)), .ref (c0 + (26 + 5 * i)), .ref (c0 + (26 + 5 * j))] [] (hp c0 (26 + 5 * T.length) _ _) _
  refine Ex.nx rfl ?_
  refine Ex.nx rfl ?_
  show Ex X m_Tab_same 30 [.ref (c0 + 0), .int (nI (i + 1)), .int (nI (j + 1)), .ref (c0 + (26 + 5 * i)), .ref (c0 + (26 + 5 * j))] [] (hp c0 (26 + 5 * T.length) _ _) _
  refine Ex.nx rfl ?_
  refine Hx.call (26 + 5 * i) rfl rfl hti.1 rfl rfl (tm_rank hti) ?_
  show Ex X m_Tab_same 34 [.ref (c0 + 0), .int (nI (i + 1)), .int (nI (j + 1)), .ref (c0 + (26 + 5 * i)), .ref (c0 + (26 + 5 * j))] [.int (rkT (T.getD i tm0))] (hp c0 (26 + 5 * T.length) _ _) _
  refine Ex.nx rfl ?_
  refine Hx.call (26 + 5 * j) rfl rfl htj.1 rfl rfl (tm_rank htj) ?_
  show Ex X m_Tab_same 39 [.ref (c0 + 0), .int (nI (i + 1)), .int (nI (j + 1)), .ref (c0 + (26 + 5 * i)), .ref (c0 + (26 + 5 * j))] [.int (rkT (T.getD j tm0)), .int (rkT (T.getD i tm0))] (hp c0 (26 + 5 * T.length) _ _) _
  refine Ex.nx rfl ?_
  refine Ex.ite (fun c1 => ?_) (fun c1 => ?_)
  · replace c1 : (rkT (T.getD i tm0)) = (rkT (T.getD j tm0)) := of_decide_eq_true c1
    show Ex X m_Tab_same 66 [.ref (c0 + 0), .int (nI (i + 1)), .int (nI (j + 1)), .ref (c0 + (26 + 5 * i)), .ref (c0 + (26 + 5 * j))] [] (hp c0 (26 + 5 * T.length) _ _) _
    refine Ex.nx rfl ?_
    refine Ex.nx rfl ?_
    refine Hx.call (26 + 5 * i) rfl rfl hti.1 rfl rfl (tm_val hti htj) ?_
    show Ex X m_Tab_same 72 [.ref (c0 + 0), .int (nI (i + 1)), .int (nI (j + 1)), .ref (c0 + (26 + 5 * i)), .ref (c0 + (26 + 5 * j))] [.int (vlT (T.getD i tm0) (T.getD j tm0))] (hp c0 (26 + 5 * T.length) _ _) _
    refine Ex.nx rfl ?_
    refine Ex.ite (fun c2 => ?_) (fun c2 => ?_)
    · replace c2 : ¬ (vlT (T.getD i tm0) (T.getD j tm0)) = 0 := of_decide_eq_true c2
      show Ex X m_Tab_same 92 [.ref (c0 + 0), .int (nI (i + 1)), .int (nI (j + 1)), .ref (c0 + (26 + 5 * i)), .ref (c0 + (26 + 5 * j))] [] (hp c0 (26 + 5 * T.length) _ _) _
      refine Ex.nx rfl ?_
      refine Hx.get (26 + 5 * i) rfl hti.1 rfl ?_
      refine Ex.nx rfl ?_
      refine Ex.nx rfl ?_
      refine Ex.ite (fun c3 => ?_) (fun c3 => ?_)
      · replace c3 : ¬ ((T.getD i tm0).1) = 7 := of_decide_eq_true c3
        show Ex X m_Tab_same 105 [.ref (c0 + 0), .int (nI (i + 1)), .int (nI (j + 1)), .ref (c0 + (26 + 5 * i)), .ref (c0 + (26 + 5 * j))] [] (hp c0 (26 + 5 * T.length) _ _) _
        refine Ex.nx rfl ?_
        exact Ex.ret rfl (ev_reti rfl) (by rw [show smT (T.getD i tm0) (T.getD j tm0) = 0 by simp [-List.getD_eq_getElem?_getD, smT, c1, c2, c3]]; exact h.same)
      · replace c3 : ((T.getD i tm0).1) = 7 := Classical.not_not.mp (of_decide_eq_false c3)
        show Ex X m_Tab_same 101 [.ref (c0 + 0), .int (nI (i + 1)), .int (nI (j + 1)), .ref (c0 + (26 + 5 * i)), .ref (c0 + (26 + 5 * j))] [] (hp c0 (26 + 5 * T.length) _ _) _
        refine Ex.nx rfl ?_
        refine Ex.nx rfl ?_
        exact Ex.ret rfl (ev_reti rfl) (by rw [show smT (T.getD i tm0) (T.getD j tm0) = 2 by simp [-List.getD_eq_getElem?_getD, smT, c1, c2, c3]]; exact h.same)
    · replace c2 : (vlT (T.getD i tm0) (T.getD j tm0)) = 0 := Classical.not_not.mp (of_decide_eq_false c2)
      show Ex X m_Tab_same 75 [.ref (c0 + 0), .int (nI (i + 1)), .int (nI (j + 1)), .ref (c0 + (26 + 5 * i)), .ref (c0 + (26 + 5 * j))] [] (hp c0 (26 + 5 * T.length) _ _) _
      refine Ex.nx rfl ?_
      refine Hx.get (26 + 5 * i) rfl hti.1 rfl ?_
      refine Ex.nx rfl ?_
      refine Hx.get (26 + 5 * j) rfl htj.1 rfl ?_
      refine Hx.rowE hti.2.2.1 rfl rfl rfl rfl (rl_order hti.2.2.2.2.1 htj.2.2.2.2.1 hti.2.2.1 htj.2.2.1) ?_
      show Ex X m_Tab_same 87 [.ref (c0 + 0), .int (nI (i + 1)), .int (nI (j + 1)), .ref (c0 + (26 + 5 * i)), .ref (c0 + (26 + 5 * j))] [.int (ordL (T.getD i tm0).2.2.2.2 (T.getD j tm0).2.2.2.2)] (hp c0 (26 + 5 * T.length) _ _) _
      refine Ex.nx rfl ?_
      refine Ex.ite (fun c4 => ?_) (fun c4 => ?_)
      · replace c4 : ¬ (ordL (T.getD i tm0).2.2.2.2 (T.getD j tm0).2.2.2.2) = 0 := of_decide_eq_true c4
        show Ex X m_Tab_same 92 [.ref (c0 + 0), .int (nI (i + 1)), .int (nI (j + 1)), .ref (c0 + (26 + 5 * i)), .ref (c0 + (26 + 5 * j))] [] (hp c0 (26 + 5 * T.length) _ _) _
        refine Ex.nx rfl ?_
        refine Hx.get (26 + 5 * i) rfl hti.1 rfl ?_
        refine Ex.nx rfl ?_
        refine Ex.nx rfl ?_
        refine Ex.ite (fun c5 => ?_) (fun c5 => ?_)
        · replace c5 : ¬ ((T.getD i tm0).1) = 7 := of_decide_eq_true c5
          show Ex X m_Tab_same 105 [.ref (c0 + 0), .int (nI (i + 1)), .int (nI (j + 1)), .ref (c0 + (26 + 5 * i)), .ref (c0 + (26 + 5 * j))] [] (hp c0 (26 + 5 * T.length) _ _) _
          refine Ex.nx rfl ?_
          exact Ex.ret rfl (ev_reti rfl) (by rw [show smT (T.getD i tm0) (T.getD j tm0) = 0 by simp [-List.getD_eq_getElem?_getD, smT, c1, c2, c4, c5]]; exact h.same)
        · replace c5 : ((T.getD i tm0).1) = 7 := Classical.not_not.mp (of_decide_eq_false c5)
          show Ex X m_Tab_same 101 [.ref (c0 + 0), .int (nI (i + 1)), .int (nI (j + 1)), .ref (c0 + (26 + 5 * i)), .ref (c0 + (26 + 5 * j))] [] (hp c0 (26 + 5 * T.length) _ _) _
          refine Ex.nx rfl ?_
          refine Ex.nx rfl ?_
          exact Ex.ret rfl (ev_reti rfl) (by rw [show smT (T.getD i tm0) (T.getD j tm0) = 2 by simp [-List.getD_eq_getElem?_getD, smT, c1, c2, c4, c5]]; exact h.same)
      · replace c4 : (ordL (T.getD i tm0).2.2.2.2 (T.getD j tm0).2.2.2.2) = 0 := Classical.not_not.mp (of_decide_eq_false c4)
        show Ex X m_Tab_same 90 [.ref (c0 + 0), .int (nI (i + 1)), .int (nI (j + 1)), .ref (c0 + (26 + 5 * i)), .ref (c0 + (26 + 5 * j))] [] (hp c0 (26 + 5 * T.length) _ _) _
        refine Ex.nx rfl ?_
        exact Ex.ret rfl (ev_reti rfl) (by rw [show smT (T.getD i tm0) (T.getD j tm0) = 1 by simp [-List.getD_eq_getElem?_getD, smT, c1, c2, c4]]; exact h.same)
  · replace c1 : ¬ (rkT (T.getD i tm0)) = (rkT (T.getD j tm0)) := of_decide_eq_false c1
    show Ex X m_Tab_same 42 [.ref (c0 + 0), .int (nI (i + 1)), .int (nI (j + 1)), .ref (c0 + (26 + 5 * i)), .ref (c0 + (26 + 5 * j))] [] (hp c0 (26 + 5 * T.length) _ _) _
    refine Ex.nx rfl ?_
    refine Ex.nx rfl ?_
    refine Hx.call (26 + 5 * i) rfl rfl hti.1 rfl rfl (tm_str hti htj) ?_
    show Ex X m_Tab_same 48 [.ref (c0 + 0), .int (nI (i + 1)), .int (nI (j + 1)), .ref (c0 + (26 + 5 * i)), .ref (c0 + (26 + 5 * j))] [.int (bi (str (T.getD i tm0) (T.getD j tm0)))] (hp c0 (26 + 5 * T.length) _ _) _
    refine Ex.nx rfl ?_
    refine Ex.ite (fun c6 => ?_) (fun c6 => ?_)
    · replace c6 : (str (T.getD i tm0) (T.getD j tm0)) = true := bi_net c6
      show Ex X m_Tab_same 60 [.ref (c0 + 0), .int (nI (i + 1)), .int (nI (j + 1)), .ref (c0 + (26 + 5 * i)), .ref (c0 + (26 + 5 * j))] [] (hp c0 (26 + 5 * T.length) _ _) _
      refine Ex.nx rfl ?_
      refine Ex.nx rfl ?_
      exact Ex.ret rfl (ev_reti rfl) (by rw [show smT (T.getD i tm0) (T.getD j tm0) = 2 by simp [-List.getD_eq_getElem?_getD, smT, c1, c6]]; exact h.same)
    · replace c6 : (str (T.getD i tm0) (T.getD j tm0)) = false := bi_nef c6
      show Ex X m_Tab_same 51 [.ref (c0 + 0), .int (nI (i + 1)), .int (nI (j + 1)), .ref (c0 + (26 + 5 * i)), .ref (c0 + (26 + 5 * j))] [] (hp c0 (26 + 5 * T.length) _ _) _
      refine Ex.nx rfl ?_
      refine Ex.nx rfl ?_
      refine Hx.call (26 + 5 * j) rfl rfl htj.1 rfl rfl (tm_str htj hti) ?_
      show Ex X m_Tab_same 57 [.ref (c0 + 0), .int (nI (i + 1)), .int (nI (j + 1)), .ref (c0 + (26 + 5 * i)), .ref (c0 + (26 + 5 * j))] [.int (bi (str (T.getD j tm0) (T.getD i tm0)))] (hp c0 (26 + 5 * T.length) _ _) _
      refine Ex.nx rfl ?_
      refine Ex.ite (fun c7 => ?_) (fun c7 => ?_)
      · replace c7 : (str (T.getD j tm0) (T.getD i tm0)) = false := bi_eqt c7
        show Ex X m_Tab_same 64 [.ref (c0 + 0), .int (nI (i + 1)), .int (nI (j + 1)), .ref (c0 + (26 + 5 * i)), .ref (c0 + (26 + 5 * j))] [] (hp c0 (26 + 5 * T.length) _ _) _
        refine Ex.nx rfl ?_
        exact Ex.ret rfl (ev_reti rfl) (by rw [show smT (T.getD i tm0) (T.getD j tm0) = 0 by simp [-List.getD_eq_getElem?_getD, smT, c1, c6, c7]]; exact h.same)
      · replace c7 : (str (T.getD j tm0) (T.getD i tm0)) = true := bi_eqf c7
        show Ex X m_Tab_same 60 [.ref (c0 + 0), .int (nI (i + 1)), .int (nI (j + 1)), .ref (c0 + (26 + 5 * i)), .ref (c0 + (26 + 5 * j))] [] (hp c0 (26 + 5 * T.length) _ _) _
        refine Ex.nx rfl ?_
        refine Ex.nx rfl ?_
        exact Ex.ret rfl (ev_reti rfl) (by rw [show smT (T.getD i tm0) (T.getD j tm0) = 2 by simp [-List.getD_eq_getElem?_getD, smT, c1, c6, c7]]; exact h.same)
set_option maxRecDepth 100000 in
set_option maxHeartbeats 2000000 in
theorem q_less_nn {X : ev_X} {c0 z u pl : Nat} {t o : List Nat} {T : List Tm} {F : Nat → Option va_E} (h : CC c0 t T u o pl F) {a : Int32} (ha : a < 1 ∨ (¬ a < 1 ∧ nI T.length < a)) {b : Int32} (hb : b < 1 ∨ (¬ b < 1 ∧ nI T.length < b)) : Ex X m_Tab_less 0 [.ref (c0 + 0), .int a, .int b, ev_dead, ev_dead] [] (hp c0 (26 + 5 * T.length) z F) (cP c0 z F t T u o pl (.int (2))) := by
  refine Ex.nx rfl ?_
  refine Hx.get 0 rfl h.r0 rfl ?_
  refine Ex.nx rfl ?_
  refine Hx.call 9 rfl rfl h.2.2.1.1 rfl rfl (tb_no h.2.2.1 ha) ?_
  show Ex X m_Tab_less 8 [.ref (c0 + 0), .int a, .int b, ev_dead, ev_dead] [.null] (hp c0 (26 + 5 * T.length) _ _) _
  refine Ex.nx rfl ?_
  show Ex X m_Tab_less 9 [.ref (c0 + 0), .int a, .int b, .null, ev_dead] [] (hp c0 (26 + 5 * T.length) _ _) _
  refine Ex.nx rfl ?_
  refine Hx.get 0 rfl h.r0 rfl ?_
  refine Ex.nx rfl ?_
  refine Hx.call 9 rfl rfl h.2.2.1.1 rfl rfl (tb_no h.2.2.1 hb) ?_
  show Ex X m_Tab_less 17 [.ref (c0 + 0), .int a, .int b, .null, ev_dead] [.null] (hp c0 (26 + 5 * T.length) _ _) _
  refine Ex.nx rfl ?_
  show Ex X m_Tab_less 19 [.ref (c0 + 0), .int a, .int b, .null, .null] [] (hp c0 (26 + 5 * T.length) _ _) _
  refine Ex.nx rfl ?_
  refine Ex.nx rfl ?_
  show Ex X m_Tab_less 47 [.ref (c0 + 0), .int a, .int b, .null, .null] [] (hp c0 (26 + 5 * T.length) _ _) _
  refine Ex.nx rfl ?_
  exact Ex.ret rfl (ev_reti rfl) h.same
set_option maxRecDepth 100000 in
set_option maxHeartbeats 2000000 in
theorem q_less_ni {X : ev_X} {c0 z u pl : Nat} {t o : List Nat} {T : List Tm} {F : Nat → Option va_E} (h : CC c0 t T u o pl F) {a : Int32} (ha : a < 1 ∨ (¬ a < 1 ∧ nI T.length < a)) {j : Nat} (hj : j < T.length) : Ex X m_Tab_less 0 [.ref (c0 + 0), .int a, .int (nI (j + 1)), ev_dead, ev_dead] [] (hp c0 (26 + 5 * T.length) z F) (cP c0 z F t T u o pl (.int (2))) := by
  refine Ex.nx rfl ?_
  refine Hx.get 0 rfl h.r0 rfl ?_
  refine Ex.nx rfl ?_
  refine Hx.call 9 rfl rfl h.2.2.1.1 rfl rfl (tb_no h.2.2.1 ha) ?_
  show Ex X m_Tab_less 8 [.ref (c0 + 0), .int a, .int (nI (j + 1)), ev_dead, ev_dead] [.null] (hp c0 (26 + 5 * T.length) _ _) _
  refine Ex.nx rfl ?_
  show Ex X m_Tab_less 9 [.ref (c0 + 0), .int a, .int (nI (j + 1)), .null, ev_dead] [] (hp c0 (26 + 5 * T.length) _ _) _
  refine Ex.nx rfl ?_
  refine Hx.get 0 rfl h.r0 rfl ?_
  refine Ex.nx rfl ?_
  refine Hx.call 9 rfl rfl h.2.2.1.1 rfl rfl (tb_get h.2.2.1 (i := j) hj) ?_
  show Ex X m_Tab_less 17 [.ref (c0 + 0), .int a, .int (nI (j + 1)), .null, ev_dead] [.ref (c0 + (26 + 5 * j))] (hp c0 (26 + 5 * T.length) _ _) _
  refine Ex.nx rfl ?_
  show Ex X m_Tab_less 19 [.ref (c0 + 0), .int a, .int (nI (j + 1)), .null, .ref (c0 + (26 + 5 * j))] [] (hp c0 (26 + 5 * T.length) _ _) _
  refine Ex.nx rfl ?_
  refine Ex.nx rfl ?_
  show Ex X m_Tab_less 47 [.ref (c0 + 0), .int a, .int (nI (j + 1)), .null, .ref (c0 + (26 + 5 * j))] [] (hp c0 (26 + 5 * T.length) _ _) _
  refine Ex.nx rfl ?_
  exact Ex.ret rfl (ev_reti rfl) h.same
set_option maxRecDepth 100000 in
set_option maxHeartbeats 2000000 in
theorem q_less_in {X : ev_X} {c0 z u pl : Nat} {t o : List Nat} {T : List Tm} {F : Nat → Option va_E} (h : CC c0 t T u o pl F) {i : Nat} (hi : i < T.length) {b : Int32} (hb : b < 1 ∨ (¬ b < 1 ∧ nI T.length < b)) : Ex X m_Tab_less 0 [.ref (c0 + 0), .int (nI (i + 1)), .int b, ev_dead, ev_dead] [] (hp c0 (26 + 5 * T.length) z F) (cP c0 z F t T u o pl (.int (2))) := by
  refine Ex.nx rfl ?_
  refine Hx.get 0 rfl h.r0 rfl ?_
  refine Ex.nx rfl ?_
  refine Hx.call 9 rfl rfl h.2.2.1.1 rfl rfl (tb_get h.2.2.1 (i := i) hi) ?_
  show Ex X m_Tab_less 8 [.ref (c0 + 0), .int (nI (i + 1)), .int b, ev_dead, ev_dead] [.ref (c0 + (26 + 5 * i))] (hp c0 (26 + 5 * T.length) _ _) _
  refine Ex.nx rfl ?_
  show Ex X m_Tab_less 9 [.ref (c0 + 0), .int (nI (i + 1)), .int b, .ref (c0 + (26 + 5 * i)), ev_dead] [] (hp c0 (26 + 5 * T.length) _ _) _
  refine Ex.nx rfl ?_
  refine Hx.get 0 rfl h.r0 rfl ?_
  refine Ex.nx rfl ?_
  refine Hx.call 9 rfl rfl h.2.2.1.1 rfl rfl (tb_no h.2.2.1 hb) ?_
  show Ex X m_Tab_less 17 [.ref (c0 + 0), .int (nI (i + 1)), .int b, .ref (c0 + (26 + 5 * i)), ev_dead] [.null] (hp c0 (26 + 5 * T.length) _ _) _
  refine Ex.nx rfl ?_
  show Ex X m_Tab_less 19 [.ref (c0 + 0), .int (nI (i + 1)), .int b, .ref (c0 + (26 + 5 * i)), .null] [] (hp c0 (26 + 5 * T.length) _ _) _
  refine Ex.nx rfl ?_
  refine Ex.nx rfl ?_
  show Ex X m_Tab_less 23 [.ref (c0 + 0), .int (nI (i + 1)), .int b, .ref (c0 + (26 + 5 * i)), .null] [] (hp c0 (26 + 5 * T.length) _ _) _
  refine Ex.nx rfl ?_
  refine Ex.nx rfl ?_
  show Ex X m_Tab_less 47 [.ref (c0 + 0), .int (nI (i + 1)), .int b, .ref (c0 + (26 + 5 * i)), .null] [] (hp c0 (26 + 5 * T.length) _ _) _
  refine Ex.nx rfl ?_
  exact Ex.ret rfl (ev_reti rfl) h.same
set_option maxRecDepth 100000 in
set_option maxHeartbeats 2000000 in
theorem q_less_ii {X : ev_X} {c0 z u pl : Nat} {t o : List Nat} {T : List Tm} {F : Nat → Option va_E} (h : CC c0 t T u o pl F) {i j : Nat} (hi : i < T.length) (hj : j < T.length) : Ex X m_Tab_less 0 [.ref (c0 + 0), .int (nI (i + 1)), .int (nI (j + 1)), ev_dead, ev_dead] [] (hp c0 (26 + 5 * T.length) z F) (cP c0 z F t T u o pl (.int (lsT (T.getD i tm0) (T.getD j tm0)))) := by
  obtain ⟨M1, M2, hti⟩ := h.2.2.1.2.2.2.2 i hi
  obtain ⟨M3, M4, htj⟩ := h.2.2.1.2.2.2.2 j hj
  refine Ex.nx rfl ?_
  refine Hx.get 0 rfl h.r0 rfl ?_
  refine Ex.nx rfl ?_
  refine Hx.call 9 rfl rfl h.2.2.1.1 rfl rfl (tb_get h.2.2.1 (i := i) hi) ?_
  show Ex X m_Tab_less 8 [.ref (c0 + 0), .int (nI (i + 1)), .int (nI (j + 1)), ev_dead, ev_dead] [.ref (c0 + (26 + 5 * i))] (hp c0 (26 + 5 * T.length) _ _) _
  refine Ex.nx rfl ?_
  show Ex X m_Tab_less 9 [.ref (c0 + 0), .int (nI (i + 1)), .int (nI (j + 1)), .ref (c0 + (26 + 5 * i)), ev_dead] [] (hp c0 (26 + 5 * T.length) _ _) _
  refine Ex.nx rfl ?_
  refine Hx.get 0 rfl h.r0 rfl ?_
  refine Ex.nx rfl ?_
  refine Hx.call 9 rfl rfl h.2.2.1.1 rfl rfl (tb_get h.2.2.1 (i := j) hj) ?_
  show Ex X m_Tab_less 17 [.ref (c0 + 0), .int (nI (i + 1)), .int (nI (j + 1)), .ref (c0 + (26 + 5 * i)), ev_dead] [.ref (c0 + (26 + 5 * j))] (hp c0 (26 + 5 * T.length) _ _) _
  refine Ex.nx rfl ?_
  show Ex X m_Tab_less 19 [.ref (c0 + 0), .int (nI (i + 1)), .int (nI (j + 1)), .ref (c0 + (26 + 5 * i)), .ref (c0 + (26 + 5 * j))] [] (hp c0 (26 + 5 * T.length) _ _) _
  refine Ex.nx rfl ?_
  refine Ex.nx rfl ?_
  show Ex X m_Tab_less 23 [.ref (c0 + 0), .int (nI (i + 1)), .int (nI (j + 1)), .ref (c0 + (26 + 5 * i)), .ref (c0 + (26 + 5 * j))] [] (hp c0 (26 + 5 * T.length) _ _) _
  refine Ex.nx rfl ?_
  refine Ex.nx rfl ?_
  show Ex X m_Tab_less 28 [.ref (c0 + 0), .int (nI (i + 1)), .int (nI (j + 1)), .ref (c0 + (26 + 5 * i)), .ref (c0 + (26 + 5 * j))] [] (hp c0 (26 + 5 * T.length) _ _) _
  refine Ex.nx rfl ?_
  refine Hx.call (26 + 5 * i) rfl rfl hti.1 rfl rfl (tm_rank hti) ?_
  show Ex X m_Tab_less 32 [.ref (c0 + 0), .int (nI (i + 1)), .int (nI (j + 1)), .ref (c0 + (26 + 5 * i)), .ref (c0 + (26 + 5 * j))] [.int (rkT (T.getD i tm0))] (hp c0 (26 + 5 * T.length) _ _) _
  refine Ex.nx rfl ?_
  refine Hx.call (26 + 5 * j) rfl rfl htj.1 rfl rfl (tm_rank htj) ?_
  show Ex X m_Tab_less 37 [.ref (c0 + 0), .int (nI (i + 1)), .int (nI (j + 1)), .ref (c0 + (26 + 5 * i)), .ref (c0 + (26 + 5 * j))] [.int (rkT (T.getD j tm0)), .int (rkT (T.getD i tm0))] (hp c0 (26 + 5 * T.length) _ _) _
  refine Ex.nx rfl ?_
  refine Ex.ite (fun c1 => ?_) (fun c1 => ?_)
  · replace c1 : ¬ (rkT (T.getD i tm0)) = (rkT (T.getD j tm0)) := of_decide_eq_true c1
    show Ex X m_Tab_less 47 [.ref (c0 + 0), .int (nI (i + 1)), .int (nI (j + 1)), .ref (c0 + (26 + 5 * i)), .ref (c0 + (26 + 5 * j))] [] (hp c0 (26 + 5 * T.length) _ _) _
    refine Ex.nx rfl ?_
    exact Ex.ret rfl (ev_reti rfl) (by rw [show lsT (T.getD i tm0) (T.getD j tm0) = 2 by simp [-List.getD_eq_getElem?_getD, lsT, c1]]; exact h.same)
  · replace c1 : (rkT (T.getD i tm0)) = (rkT (T.getD j tm0)) := Classical.not_not.mp (of_decide_eq_false c1)
    show Ex X m_Tab_less 40 [.ref (c0 + 0), .int (nI (i + 1)), .int (nI (j + 1)), .ref (c0 + (26 + 5 * i)), .ref (c0 + (26 + 5 * j))] [] (hp c0 (26 + 5 * T.length) _ _) _
    refine Ex.nx rfl ?_
    refine Hx.call (26 + 5 * i) rfl rfl hti.1 rfl rfl (tm_less hti) ?_
    show Ex X m_Tab_less 44 [.ref (c0 + 0), .int (nI (i + 1)), .int (nI (j + 1)), .ref (c0 + (26 + 5 * i)), .ref (c0 + (26 + 5 * j))] [.int (bi (hls (T.getD i tm0)))] (hp c0 (26 + 5 * T.length) _ _) _
    refine Ex.nx rfl ?_
    refine Ex.ite (fun c2 => ?_) (fun c2 => ?_)
    · replace c2 : (hls (T.getD i tm0)) = true := bi_net c2
      show Ex X m_Tab_less 49 [.ref (c0 + 0), .int (nI (i + 1)), .int (nI (j + 1)), .ref (c0 + (26 + 5 * i)), .ref (c0 + (26 + 5 * j))] [] (hp c0 (26 + 5 * T.length) _ _) _
      refine Ex.nx rfl ?_
      refine Ex.nx rfl ?_
      refine Hx.call (26 + 5 * i) rfl rfl hti.1 rfl rfl (tm_val hti htj) ?_
      show Ex X m_Tab_less 55 [.ref (c0 + 0), .int (nI (i + 1)), .int (nI (j + 1)), .ref (c0 + (26 + 5 * i)), .ref (c0 + (26 + 5 * j))] [.int (vlT (T.getD i tm0) (T.getD j tm0))] (hp c0 (26 + 5 * T.length) _ _) _
      refine Ex.nx rfl ?_
      refine Ex.ite (fun c3 => ?_) (fun c3 => ?_)
      · replace c3 : 0 ≤ (vlT (T.getD i tm0) (T.getD j tm0)) := of_decide_eq_true c3
        show Ex X m_Tab_less 62 [.ref (c0 + 0), .int (nI (i + 1)), .int (nI (j + 1)), .ref (c0 + (26 + 5 * i)), .ref (c0 + (26 + 5 * j))] [] (hp c0 (26 + 5 * T.length) _ _) _
        refine Ex.nx rfl ?_
        exact Ex.ret rfl (ev_reti rfl) (by rw [show lsT (T.getD i tm0) (T.getD j tm0) = 0 by simp [-List.getD_eq_getElem?_getD, lsT, c1, c2, Int32.not_lt.mpr c3]]; exact h.same)
      · replace c3 : ¬ 0 ≤ (vlT (T.getD i tm0) (T.getD j tm0)) := of_decide_eq_false c3
        show Ex X m_Tab_less 58 [.ref (c0 + 0), .int (nI (i + 1)), .int (nI (j + 1)), .ref (c0 + (26 + 5 * i)), .ref (c0 + (26 + 5 * j))] [] (hp c0 (26 + 5 * T.length) _ _) _
        refine Ex.nx rfl ?_
        refine Ex.nx rfl ?_
        exact Ex.ret rfl (ev_reti rfl) (by rw [show lsT (T.getD i tm0) (T.getD j tm0) = 1 by simp [-List.getD_eq_getElem?_getD, lsT, c1, c2, Int32.not_le.mp c3]]; exact h.same)
    · replace c2 : (hls (T.getD i tm0)) = false := bi_nef c2
      show Ex X m_Tab_less 47 [.ref (c0 + 0), .int (nI (i + 1)), .int (nI (j + 1)), .ref (c0 + (26 + 5 * i)), .ref (c0 + (26 + 5 * j))] [] (hp c0 (26 + 5 * T.length) _ _) _
      refine Ex.nx rfl ?_
      exact Ex.ret rfl (ev_reti rfl) (by rw [show lsT (T.getD i tm0) (T.getD j tm0) = 2 by simp [-List.getD_eq_getElem?_getD, lsT, c1, c2]]; exact h.same)
set_option maxRecDepth 100000 in
set_option maxHeartbeats 2000000 in
theorem q_written {X : ev_X} {c0 z u pl : Nat} {t o : List Nat} {T : List Tm} {F : Nat → Option va_E} (h : CC c0 t T u o pl F) (a : Int32) : Ex X m_Tab_written 0 [.ref (c0 + 0), .int a] [] (hp c0 (26 + 5 * T.length) z F) (cP c0 z F t T u o pl (.int (wtO o a))) := by
  obtain ⟨d, hW⟩ := h.2.2.2.2.1
  refine Ex.nx rfl ?_
  refine Hx.get 0 rfl h.r0 rfl ?_
  refine Ex.nx rfl ?_
  refine Hx.call 11 rfl rfl h.2.2.2.1 rfl rfl (wr_at h.2.2.2.1 a hW) ?_
  show Ex X m_Tab_written 8 [.ref (c0 + 0), .int a] [.int (wtO o a)] (hp c0 (26 + 5 * T.length) _ _) _
  exact Ex.ret rfl (ev_reti rfl) h.same
theorem CC.wr {c0 u pl : Nat} {t o o1 D : List Nat} {T : List Tm} {F F1 : Nat → Option va_E} (h : CC c0 t T u o pl F) (hW : WR c0 F o1 D F1) : CC c0 t T u o1 pl F1 ∧ rsm F F1 := by
  obtain ⟨h1, ⟨s, nu, p, bd, tl, ft, hC⟩, h3, h4, -, h6⟩ := h
  have hq := hW.1
  refine ⟨⟨(hq 0 (by decide)).trans h1, ⟨s, nu, p, bd, tl, ft, fun _ _ => rfl, hC.rt.fr (hq _ (by decide)) (hq _ (by decide)), (hq 3 (by decide)).trans hC.r3, hC.rb.fr (hq _ (by decide)) (hq _ (by decide)), hC.rl.fr (hq _ (by decide)) (hq _ (by decide)), (hq 8 (by decide)).trans hC.r8⟩, h3.fr (hq _ (by decide)) (hq _ (by decide)) (fun q q1 _ => hq q (by omega)), (hq 11 (by decide)).trans h4, ⟨D, fun _ _ => rfl, hW.2.1, hW.2.2⟩, h6⟩, fun k k1 k2 => hq k (by omega)⟩
set_option maxRecDepth 100000 in
set_option maxHeartbeats 2000000 in
theorem q_write_in {X : ev_X} {c0 z u pl : Nat} {t o : List Nat} {T : List Tm} {F : Nat → Option va_E} (h : CC c0 t T u o pl F) (hS : XS X c0) {i : Nat} (hi : i < T.length) {r : Nat} (hr : r < 10 ^ 18) (hx : (T.getD i tm0).2.1 = lN r ∨ (T.getD i tm0).2.1 = -lN r) : Ex X m_Tab_write 0 [.ref (c0 + 0), .int (nI (i + 1)), ev_dead] [] (hp c0 (26 + 5 * T.length) z F) (cP c0 z F t T u (wrW (T.getD i tm0) r) pl (.int (nI (wrW (T.getD i tm0) r).length))) := by
  obtain ⟨M1, M2, hti⟩ := h.2.2.1.2.2.2.2 i hi
  obtain ⟨d, hW⟩ := h.2.2.2.2.1
  refine Ex.nx rfl ?_
  refine Hx.get 0 rfl h.r0 rfl ?_
  refine Ex.nx rfl ?_
  refine Hx.call 9 rfl rfl h.2.2.1.1 rfl rfl (tb_get h.2.2.1 (i := i) hi) ?_
  show Ex X m_Tab_write 8 [.ref (c0 + 0), .int (nI (i + 1)), ev_dead] [.ref (c0 + (26 + 5 * i))] (hp c0 (26 + 5 * T.length) _ _) _
  refine Ex.nx rfl ?_
  show Ex X m_Tab_write 9 [.ref (c0 + 0), .int (nI (i + 1)), .ref (c0 + (26 + 5 * i))] [] (hp c0 (26 + 5 * T.length) _ _) _
  refine Ex.nx rfl ?_
  refine Ex.nx rfl ?_
  show Ex X m_Tab_write 17 [.ref (c0 + 0), .int (nI (i + 1)), .ref (c0 + (26 + 5 * i))] [] (hp c0 (26 + 5 * T.length) _ _) _
  refine Ex.nx rfl ?_
  refine Hx.get 0 rfl h.r0 rfl ?_
  refine Ex.nx rfl ?_
  refine Hx.callX 11 rfl rfl h.2.2.2.1 rfl rfl (wr_term h.2.2.2.1 hS hti (by omega) (h.2.2.2.2.2 i hi) hr hx hW) ?_
  rintro v hh ⟨rfl, F1, D1, rfl, hW1⟩
  obtain ⟨hc, hs⟩ := h.wr hW1
  exact Ex.ret rfl (ev_reti rfl) ⟨F1, z, rfl, hc, hs, by omega, rfl⟩
