section
/-! The class's state, and the methods that tell. (rows laid by wip/whole/pb1.py) -/
/-- the class's state: tape t, terms T with u bytes, latest written o, latest place pl -/
def CC (c0 : Nat) (t : List Nat) (T : List Tm) (u : Nat) (o : List Nat) (pl : Nat) (F : Nat → Option va_E) : Prop := F 0 = some (.inr (5, [.ref (c0 + 1), .ref (c0 + 3), .ref (c0 + 8), .ref (c0 + 9), .ref (c0 + 11)])) ∧ (∃ s nu p bd tl ft, CR c0 F t s nu p bd tl ft (nI pl) F) ∧ tbl c0 F T u ∧ W11 c0 F ∧ (∃ d, WR c0 F o d F) ∧ ∀ i, i < T.length → okT (T.getD i tm0)
/-- a call's end: the state behind it, its answer -/
def cP (c0 z : Nat) (F : Nat → Option va_E) (t : List Nat) (T : List Tm) (u : Nat) (o : List Nat) (pl : Nat) (v : Value) (r : Option Value) (h' : ev_H) : Prop := ∃ F' z', h' = hp c0 (26 + 5 * T.length) z' F' ∧ CC c0 t T u o pl F' ∧ rsm F F' ∧ z' ≤ z + 200 ∧ r = some v
section CCR
variable {X : ev_X} {c0 z u pl : Nat} {t o : List Nat} {T : List Tm} {F : Nat → Option va_E}
theorem CC.r0 (h : CC c0 t T u o pl F) : F 0 = some (.inr (5, [.ref (c0 + 1), .ref (c0 + 3), .ref (c0 + 8), .ref (c0 + 9), .ref (c0 + 11)])) := h.1
theorem CC.same (h : CC c0 t T u o pl F) {v : Value} : cP c0 z F t T u o pl v (some v) (hp c0 (26 + 5 * T.length) z F) := ⟨F, z, rfl, h, rsm.rf, by omega, rfl⟩
theorem CC.T2 (h : CC c0 t T u o pl F) : T.length ≤ 2000 := h.2.2.1.2.2.1
end CCR
set_option maxRecDepth 100000 in
set_option maxHeartbeats 2000000 in
theorem q_place {X : ev_X} {c0 z u pl : Nat} {t o : List Nat} {T : List Tm} {F : Nat → Option va_E} (h : CC c0 t T u o pl F) : Ex X m_Tab_place 0 [.ref (c0 + 0)] [] (hp c0 (26 + 5 * T.length) z F) (cP c0 z F t T u o pl (.int (nI pl))) := by
  obtain ⟨s0, nu0, p0, bd0, tl0, ft, hC⟩ := h.2.1
  refine Ex.nx rfl ?_
  refine Hx.get 0 rfl h.r0 rfl ?_
  refine Hx.call 8 rfl rfl hC.r8 rfl rfl (hx_latest hC.r8) ?_
  show Ex X m_Tab_place 7 [.ref (c0 + 0)] [.int (nI pl)] (hp c0 (26 + 5 * T.length) _ _) _
  exact Ex.ret rfl (ev_reti rfl) h.same
set_option maxRecDepth 100000 in
set_option maxHeartbeats 2000000 in
theorem q_count {X : ev_X} {c0 z u pl : Nat} {t o : List Nat} {T : List Tm} {F : Nat → Option va_E} (h : CC c0 t T u o pl F) : Ex X m_Tab_count 0 [.ref (c0 + 0)] [] (hp c0 (26 + 5 * T.length) z F) (cP c0 z F t T u o pl (.int (nI T.length))) := by
  refine Ex.nx rfl ?_
  refine Hx.get 0 rfl h.r0 rfl ?_
  refine Hx.call 9 rfl rfl h.2.2.1.1 rfl rfl (hx_tsize h.2.2.1.1) ?_
  show Ex X m_Tab_count 7 [.ref (c0 + 0)] [.int (nI T.length)] (hp c0 (26 + 5 * T.length) _ _) _
  exact Ex.ret rfl (ev_reti rfl) h.same
set_option maxRecDepth 100000 in
set_option maxHeartbeats 2000000 in
theorem q_used {X : ev_X} {c0 z u pl : Nat} {t o : List Nat} {T : List Tm} {F : Nat → Option va_E} (h : CC c0 t T u o pl F) : Ex X m_Tab_used 0 [.ref (c0 + 0)] [] (hp c0 (26 + 5 * T.length) z F) (cP c0 z F t T u o pl (.int (nI u))) := by
  refine Ex.nx rfl ?_
  refine Hx.get 0 rfl h.r0 rfl ?_
  refine Hx.call 9 rfl rfl h.2.2.1.1 rfl rfl (hx_tbytes h.2.2.1.1) ?_
  show Ex X m_Tab_used 7 [.ref (c0 + 0)] [.int (nI u)] (hp c0 (26 + 5 * T.length) _ _) _
  exact Ex.ret rfl (ev_reti rfl) h.same
set_option maxRecDepth 100000 in
set_option maxHeartbeats 2000000 in
theorem q_kind_no {X : ev_X} {c0 z u pl : Nat} {t o : List Nat} {T : List Tm} {F : Nat → Option va_E} (h : CC c0 t T u o pl F) {a : Int32} (ha : a < 1 ∨ (¬ a < 1 ∧ nI T.length < a)) : Ex X m_Tab_kind 0 [.ref (c0 + 0), .int a, ev_dead] [] (hp c0 (26 + 5 * T.length) z F) (cP c0 z F t T u o pl (.int (-1))) := by
  refine Ex.nx rfl ?_
  refine Hx.get 0 rfl h.r0 rfl ?_
  refine Ex.nx rfl ?_
  refine Hx.call 9 rfl rfl h.2.2.1.1 rfl rfl (tb_no h.2.2.1 ha) ?_
  show Ex X m_Tab_kind 8 [.ref (c0 + 0), .int a, ev_dead] [.null] (hp c0 (26 + 5 * T.length) _ _) _
  refine Ex.nx rfl ?_
  show Ex X m_Tab_kind 9 [.ref (c0 + 0), .int a, .null] [] (hp c0 (26 + 5 * T.length) _ _) _
  refine Ex.nx rfl ?_
  refine Ex.nx rfl ?_
  show Ex X m_Tab_kind 13 [.ref (c0 + 0), .int a, .null] [] (hp c0 (26 + 5 * T.length) _ _) _
  refine Ex.nx rfl ?_
  refine Ex.nx rfl ?_
  exact Ex.ret rfl (ev_reti rfl) h.same
set_option maxRecDepth 100000 in
set_option maxHeartbeats 2000000 in
theorem q_kind_in {X : ev_X} {c0 z u pl : Nat} {t o : List Nat} {T : List Tm} {F : Nat → Option va_E} (h : CC c0 t T u o pl F) {i : Nat} (hi : i < T.length) : Ex X m_Tab_kind 0 [.ref (c0 + 0), .int (nI (i + 1)), ev_dead] [] (hp c0 (26 + 5 * T.length) z F) (cP c0 z F t T u o pl (.int ((T.getD i tm0).1))) := by
  obtain ⟨M1, M2, hti⟩ := h.2.2.1.2.2.2.2 i hi
  refine Ex.nx rfl ?_
  refine Hx.get 0 rfl h.r0 rfl ?_
  refine Ex.nx rfl ?_
  refine Hx.call 9 rfl rfl h.2.2.1.1 rfl rfl (tb_get h.2.2.1 (i := i) hi) ?_
  show Ex X m_Tab_kind 8 [.ref (c0 + 0), .int (nI (i + 1)), ev_dead] [.ref (c0 + (26 + 5 * i))] (hp c0 (26 + 5 * T.length) _ _) _
  refine Ex.nx rfl ?_
  show Ex X m_Tab_kind 9 [.ref (c0 + 0), .int (nI (i + 1)), .ref (c0 + (26 + 5 * i))] [] (hp c0 (26 + 5 * T.length) _ _) _
  refine Ex.nx rfl ?_
  refine Ex.nx rfl ?_
  show Ex X m_Tab_kind 17 [.ref (c0 + 0), .int (nI (i + 1)), .ref (c0 + (26 + 5 * i))] [] (hp c0 (26 + 5 * T.length) _ _) _
  refine Ex.nx rfl ?_
  refine Hx.get (26 + 5 * i) rfl hti.1 rfl ?_
  exact Ex.ret rfl (ev_reti rfl) h.same
set_option maxRecDepth 100000 in
set_option maxHeartbeats 2000000 in
theorem q_value_no {X : ev_X} {c0 z u pl : Nat} {t o : List Nat} {T : List Tm} {F : Nat → Option va_E} (h : CC c0 t T u o pl F) {a : Int32} (ha : a < 1 ∨ (¬ a < 1 ∧ nI T.length < a)) : Ex X m_Tab_value 0 [.ref (c0 + 0), .int a, ev_dead] [] (hp c0 (26 + 5 * T.length) z F) (cP c0 z F t T u o pl (.long (0))) := by
  refine Ex.nx rfl ?_
  refine Hx.get 0 rfl h.r0 rfl ?_
  refine Ex.nx rfl ?_
  refine Hx.call 9 rfl rfl h.2.2.1.1 rfl rfl (tb_no h.2.2.1 ha) ?_
  show Ex X m_Tab_value 8 [.ref (c0 + 0), .int a, ev_dead] [.null] (hp c0 (26 + 5 * T.length) _ _) _
  refine Ex.nx rfl ?_
  show Ex X m_Tab_value 9 [.ref (c0 + 0), .int a, .null] [] (hp c0 (26 + 5 * T.length) _ _) _
  refine Ex.nx rfl ?_
  refine Ex.nx rfl ?_
  show Ex X m_Tab_value 13 [.ref (c0 + 0), .int a, .null] [] (hp c0 (26 + 5 * T.length) _ _) _
  refine Ex.nx rfl ?_
  refine Ex.nx rfl ?_
  exact Ex.ret rfl rfl h.same
set_option maxRecDepth 100000 in
set_option maxHeartbeats 2000000 in
theorem q_value_in {X : ev_X} {c0 z u pl : Nat} {t o : List Nat} {T : List Tm} {F : Nat → Option va_E} (h : CC c0 t T u o pl F) {i : Nat} (hi : i < T.length) : Ex X m_Tab_value 0 [.ref (c0 + 0), .int (nI (i + 1)), ev_dead] [] (hp c0 (26 + 5 * T.length) z F) (cP c0 z F t T u o pl (.long ((T.getD i tm0).2.1))) := by
  obtain ⟨M1, M2, hti⟩ := h.2.2.1.2.2.2.2 i hi
  refine Ex.nx rfl ?_
  refine Hx.get 0 rfl h.r0 rfl ?_
  refine Ex.nx rfl ?_
  refine Hx.call 9 rfl rfl h.2.2.1.1 rfl rfl (tb_get h.2.2.1 (i := i) hi) ?_
  show Ex X m_Tab_value 8 [.ref (c0 + 0), .int (nI (i + 1)), ev_dead] [.ref (c0 + (26 + 5 * i))] (hp c0 (26 + 5 * T.length) _ _) _
  refine Ex.nx rfl ?_
  show Ex X m_Tab_value 9 [.ref (c0 + 0), .int (nI (i + 1)), .ref (c0 + (26 + 5 * i))] [] (hp c0 (26 + 5 * T.length) _ _) _
  refine Ex.nx rfl ?_
  refine Ex.nx rfl ?_
  show Ex X m_Tab_value 17 [.ref (c0 + 0), .int (nI (i + 1)), .ref (c0 + (26 + 5 * i))] [] (hp c0 (26 + 5 * T.length) _ _) _
  refine Ex.nx rfl ?_
  refine Hx.get (26 + 5 * i) rfl hti.1 rfl ?_
  exact Ex.ret rfl rfl h.same
set_option maxRecDepth 100000 in
set_option maxHeartbeats 2000000 in
theorem q_scale_no {X : ev_X} {c0 z u pl : Nat} {t o : List Nat} {T : List Tm} {F : Nat → Option va_E} (h : CC c0 t T u o pl F) {a : Int32} (ha : a < 1 ∨ (¬ a < 1 ∧ nI T.length < a)) : Ex X m_Tab_scale 0 [.ref (c0 + 0), .int a, ev_dead] [] (hp c0 (26 + 5 * T.length) z F) (cP c0 z F t T u o pl (.int (-1))) := by
  refine Ex.nx rfl ?_
  refine Hx.get 0 rfl h.r0 rfl ?_
  refine Ex.nx rfl ?_
  refine Hx.call 9 rfl rfl h.2.2.1.1 rfl rfl (tb_no h.2.2.1 ha) ?_
  show Ex X m_Tab_scale 8 [.ref (c0 + 0), .int a, ev_dead] [.null] (hp c0 (26 + 5 * T.length) _ _) _
  refine Ex.nx rfl ?_
  show Ex X m_Tab_scale 9 [.ref (c0 + 0), .int a, .null] [] (hp c0 (26 + 5 * T.length) _ _) _
  refine Ex.nx rfl ?_
  refine Ex.nx rfl ?_
  show Ex X m_Tab_scale 13 [.ref (c0 + 0), .int a, .null] [] (hp c0 (26 + 5 * T.length) _ _) _
  refine Ex.nx rfl ?_
  refine Ex.nx rfl ?_
  exact Ex.ret rfl (ev_reti rfl) h.same
set_option maxRecDepth 100000 in
set_option maxHeartbeats 2000000 in
theorem q_scale_in {X : ev_X} {c0 z u pl : Nat} {t o : List Nat} {T : List Tm} {F : Nat → Option va_E} (h : CC c0 t T u o pl F) {i : Nat} (hi : i < T.length) : Ex X m_Tab_scale 0 [.ref (c0 + 0), .int (nI (i + 1)), ev_dead] [] (hp c0 (26 + 5 * T.length) z F) (cP c0 z F t T u o pl (.int (nI (T.getD i tm0).2.2.1))) := by
  obtain ⟨M1, M2, hti⟩ := h.2.2.1.2.2.2.2 i hi
  refine Ex.nx rfl ?_
  refine Hx.get 0 rfl h.r0 rfl ?_
  refine Ex.nx rfl ?_
  refine Hx.call 9 rfl rfl h.2.2.1.1 rfl rfl (tb_get h.2.2.1 (i := i) hi) ?_
  show Ex X m_Tab_scale 8 [.ref (c0 + 0), .int (nI (i + 1)), ev_dead] [.ref (c0 + (26 + 5 * i))] (hp c0 (26 + 5 * T.length) _ _) _
  refine Ex.nx rfl ?_
  show Ex X m_Tab_scale 9 [.ref (c0 + 0), .int (nI (i + 1)), .ref (c0 + (26 + 5 * i))] [] (hp c0 (26 + 5 * T.length) _ _) _
  refine Ex.nx rfl ?_
  refine Ex.nx rfl ?_
  show Ex X m_Tab_scale 17 [.ref (c0 + 0), .int (nI (i + 1)), .ref (c0 + (26 + 5 * i))] [] (hp c0 (26 + 5 * T.length) _ _) _
  refine Ex.nx rfl ?_
  refine Hx.get (26 + 5 * i) rfl hti.1 rfl ?_
  exact Ex.ret rfl (ev_reti rfl) h.same
set_option maxRecDepth 100000 in
set_option maxHeartbeats 2000000 in
theorem q_write_no {X : ev_X} {c0 z u pl : Nat} {t o : List Nat} {T : List Tm} {F : Nat → Option va_E} (h : CC c0 t T u o pl F) {a : Int32} (ha : a < 1 ∨ (¬ a < 1 ∧ nI T.length < a)) : Ex X m_Tab_write 0 [.ref (c0 + 0), .int a, ev_dead] [] (hp c0 (26 + 5 * T.length) z F) (cP c0 z F t T u o pl (.int (-1))) := by
  refine Ex.nx rfl ?_
  refine Hx.get 0 rfl h.r0 rfl ?_
  refine Ex.nx rfl ?_
  refine Hx.call 9 rfl rfl h.2.2.1.1 rfl rfl (tb_no h.2.2.1 ha) ?_
  show Ex X m_Tab_write 8 [.ref (c0 + 0), .int a, ev_dead] [.null] (hp c0 (26 + 5 * T.length) _ _) _
  refine Ex.nx rfl ?_
  show Ex X m_Tab_write 9 [.ref (c0 + 0), .int a, .null] [] (hp c0 (26 + 5 * T.length) _ _) _
  refine Ex.nx rfl ?_
  refine Ex.nx rfl ?_
  show Ex X m_Tab_write 13 [.ref (c0 + 0), .int a, .null] [] (hp c0 (26 + 5 * T.length) _ _) _
  refine Ex.nx rfl ?_
  refine Ex.nx rfl ?_
  exact Ex.ret rfl (ev_reti rfl) h.same
set_option maxRecDepth 100000 in
set_option maxHeartbeats 2000000 in
theorem q_part_no {X : ev_X} {c0 z u pl : Nat} {t o : List Nat} {T : List Tm} {F : Nat → Option va_E} (h : CC c0 t T u o pl F) {a : Int32} (ha : a < 1 ∨ (¬ a < 1 ∧ nI T.length < a)) (b : Int32) : Ex X m_Tab_part 0 [.ref (c0 + 0), .int a, .int b, ev_dead] [] (hp c0 (26 + 5 * T.length) z F) (cP c0 z F t T u o pl (.int (-1))) := by
  refine Ex.nx rfl ?_
  refine Hx.get 0 rfl h.r0 rfl ?_
  refine Ex.nx rfl ?_
  refine Hx.call 9 rfl rfl h.2.2.1.1 rfl rfl (tb_no h.2.2.1 ha) ?_
  show Ex X m_Tab_part 8 [.ref (c0 + 0), .int a, .int b, ev_dead] [.null] (hp c0 (26 + 5 * T.length) _ _) _
  refine Ex.nx rfl ?_
  show Ex X m_Tab_part 9 [.ref (c0 + 0), .int a, .int b, .null] [] (hp c0 (26 + 5 * T.length) _ _) _
  refine Ex.nx rfl ?_
  refine Ex.nx rfl ?_
  show Ex X m_Tab_part 13 [.ref (c0 + 0), .int a, .int b, .null] [] (hp c0 (26 + 5 * T.length) _ _) _
  refine Ex.nx rfl ?_
  exact Ex.ret rfl (ev_reti rfl) h.same
def smT (x y : Tm) : Int32 := if rkT x = rkT y then (if vlT x y = 0 ∧ ordL x.2.2.2.2 y.2.2.2.2 = 0 then 1 else if x.1 = 7 then 2 else 0) else if (str x y || str y x) = true then 2 else 0
def lsT (x y : Tm) : Int32 := if rkT x = rkT y ∧ hls x = true then (if vlT x y < 0 then 1 else 0) else 2
set_option maxRecDepth 100000 in
set_option maxHeartbeats 2000000 in
theorem q_order_nn {X : ev_X} {c0 z u pl : Nat} {t o : List Nat} {T : List Tm} {F : Nat → Option va_E} (h : CC c0 t T u o pl F) {a : Int32} (ha : a < 1 ∨ (¬ a < 1 ∧ nI T.length < a)) {b : Int32} (hb : b < 1 ∨ (¬ b < 1 ∧ nI T.length < b)) : Ex X m_Tab_order 0 [.ref (c0 + 0), .int a, .int b, ev_dead, ev_dead] [] (hp c0 (26 + 5 * T.length) z F) (cP c0 z F t T u o pl (.int (2))) := by
  refine Ex.nx rfl ?_
  refine Hx.get 0 rfl h.r0 rfl ?_
  refine Ex.nx rfl ?_
  refine Hx.call 9 rfl rfl h.2.2.1.1 rfl rfl (tb_no h.2.2.1 ha) ?_
  show Ex X m_Tab_order 8 [.ref (c0 + 0), .int a, .int b, ev_dead, ev_dead] [.null] (hp c0 (26 + 5 * T.length) _ _) _
  refine Ex.nx rfl ?_
  show Ex X m_Tab_order 9 [.ref (c0 + 0), .int a, .int b, .null, ev_dead] [] (hp c0 (26 + 5 * T.length) _ _) _
  refine Ex.nx rfl ?_
  refine Hx.get 0 rfl h.r0 rfl ?_
  refine Ex.nx rfl ?_
  refine Hx.call 9 rfl rfl h.2.2.1.1 rfl rfl (tb_no h.2.2.1 hb) ?_
  show Ex X m_Tab_order 17 [.ref (c0 + 0), .int a, .int b, .null, ev_dead] [.null] (hp c0 (26 + 5 * T.length) _ _) _
  refine Ex.nx rfl ?_
  show Ex X m_Tab_order 19 [.ref (c0 + 0), .int a, .int b, .null, .null] [] (hp c0 (26 + 5 * T.length) _ _) _
  refine Ex.nx rfl ?_
  refine Ex.nx rfl ?_
  show Ex X m_Tab_order 28 [.ref (c0 + 0), .int a, .int b, .null, .null] [] (hp c0 (26 + 5 * T.length) _ _) _
  refine Ex.nx rfl ?_
  refine Ex.nx rfl ?_
  exact Ex.ret rfl (ev_reti rfl) h.same
set_option maxRecDepth 100000 in
set_option maxHeartbeats 2000000 in
theorem q_order_ni {X : ev_X} {c0 z u pl : Nat} {t o : List Nat} {T : List Tm} {F : Nat → Option va_E} (h : CC c0 t T u o pl F) {a : Int32} (ha : a < 1 ∨ (¬ a < 1 ∧ nI T.length < a)) {j : Nat} (hj : j < T.length) : Ex X m_Tab_order 0 [.ref (c0 + 0), .int a, .int (nI (j + 1)), ev_dead, ev_dead] [] (hp c0 (26 + 5 * T.length) z F) (cP c0 z F t T u o pl (.int (2))) := by
  refine Ex.nx rfl ?_
  refine Hx.get 0 rfl h.r0 rfl ?_
  refine Ex.nx rfl ?_
  refine Hx.call 9 rfl rfl h.2.2.1.1 rfl rfl (tb_no h.2.2.1 ha) ?_
  show Ex X m_Tab_order 8 [.ref (c0 + 0), .int a, .int (nI (j + 1)), ev_dead, ev_dead] [.null] (hp c0 (26 + 5 * T.length) _ _) _
  refine Ex.nx rfl ?_
  show Ex X m_Tab_order 9 [.ref (c0 + 0), .int a, .int (nI (j + 1)), .null, ev_dead] [] (hp c0 (26 + 5 * T.length) _ _) _
  refine Ex.nx rfl ?_
  refine Hx.get 0 rfl h.r0 rfl ?_
  refine Ex.nx rfl ?_
  refine Hx.call 9 rfl rfl h.2.2.1.1 rfl rfl (tb_get h.2.2.1 (i := j) hj) ?_
  show Ex X m_Tab_order 17 [.ref (c0 + 0), .int a, .int (nI (j + 1)), .null, ev_dead] [.ref (c0 + (26 + 5 * j))] (hp c0 (26 + 5 * T.length) _ _) _
  refine Ex.nx rfl ?_
  show Ex X m_Tab_order 19 [.ref (c0 + 0), .int a, .int (nI (j + 1)), .null, .ref (c0 + (26 + 5 * j))] [] (hp c0 (26 + 5 * T.length) _ _) _
  refine Ex.nx rfl ?_
  refine Ex.nx rfl ?_
  show Ex X m_Tab_order 28 [.ref (c0 + 0), .int a, .int (nI (j + 1)), .null, .ref (c0 + (26 + 5 * j))] [] (hp c0 (26 + 5 * T.length) _ _) _
  refine Ex.nx rfl ?_
  refine Ex.nx rfl ?_
  exact Ex.ret rfl (ev_reti rfl) h.same
set_option maxRecDepth 100000 in
set_option maxHeartbeats 2000000 in
theorem q_order_in {X : ev_X} {c0 z u pl : Nat} {t o : List Nat} {T : List Tm} {F : Nat → Option va_E} (h : CC c0 t T u o pl F) {i : Nat} (hi : i < T.length) {b : Int32} (hb : b < 1 ∨ (¬ b < 1 ∧ nI T.length < b)) : Ex X m_Tab_order 0 [.ref (c0 + 0), .int (nI (i + 1)), .int b, ev_dead, ev_dead] [] (hp c0 (26 + 5 * T.length) z F) (cP c0 z F t T u o pl (.int (2))) := by
  refine Ex.nx rfl ?_
  refine Hx.get 0 rfl h.r0 rfl ?_
  refine Ex.nx rfl ?_
  refine Hx.call 9 rfl rfl h.2.2.1.1 rfl rfl (tb_get h.2.2.1 (i := i) hi) ?_
  show Ex X m_Tab_order 8 [.ref (c0 + 0), .int (nI (i + 1)), .int b, ev_dead, ev_dead] [.ref (c0 + (26 + 5 * i))] (hp c0 (26 + 5 * T.length) _ _) _
  refine Ex.nx rfl ?_
  show Ex X m_Tab_order 9 [.ref (c0 + 0), .int (nI (i + 1)), .int b, .ref (c0 + (26 + 5 * i)), ev_dead] [] (hp c0 (26 + 5 * T.length) _ _) _
  refine Ex.nx rfl ?_
  refine Hx.get 0 rfl h.r0 rfl ?_
  refine Ex.nx rfl ?_
  refine Hx.call 9 rfl rfl h.2.2.1.1 rfl rfl (tb_no h.2.2.1 hb) ?_
  show Ex X m_Tab_order 17 [.ref (c0 + 0), .int (nI (i + 1)), .int b, .ref (c0 + (26 + 5 * i)), ev_dead] [.null] (hp c0 (26 + 5 * T.length) _ _) _
  refine Ex.nx rfl ?_
  show Ex X m_Tab_order 19 [.ref (c0 + 0), .int (nI (i + 1)), .int b, .ref (c0 + (26 + 5 * i)), .null] [] (hp c0 (26 + 5 * T.length) _ _) _
  refine Ex.nx rfl ?_
  refine Ex.nx rfl ?_
  show Ex X m_Tab_order 23 [.ref (c0 + 0), .int (nI (i + 1)), .int b, .ref (c0 + (26 + 5 * i)), .null] [] (hp c0 (26 + 5 * T.length) _ _) _
  refine Ex.nx rfl ?_
  refine Ex.nx rfl ?_
  show Ex X m_Tab_order 28 [.ref (c0 + 0), .int (nI (i + 1)), .int b, .ref (c0 + (26 + 5 * i)), .null] [] (hp c0 (26 + 5 * T.length) _ _) _
  refine Ex.nx rfl ?_
  refine Ex.nx rfl ?_
  exact Ex.ret rfl (ev_reti rfl) h.same
set_option maxRecDepth 100000 in
set_option maxHeartbeats 2000000 in
theorem q_order_ii {X : ev_X} {c0 z u pl : Nat} {t o : List Nat} {T : List Tm} {F : Nat → Option va_E} (h : CC c0 t T u o pl F) {i j : Nat} (hi : i < T.length) (hj : j < T.length) : Ex X m_Tab_order 0 [.ref (c0 + 0), .int (nI (i + 1)), .int (nI (j + 1)), ev_dead, ev_dead] [] (hp c0 (26 + 5 * T.length) z F) (cP c0 z F t T u o pl (.int (orT (T.getD i tm0) (T.getD j tm0)))) := by
  obtain ⟨M1, M2, hti⟩ := h.2.2.1.2.2.2.2 i hi
  obtain ⟨M3, M4, htj⟩ := h.2.2.1.2.2.2.2 j hj
  refine Ex.nx rfl ?_
  refine Hx.get 0 rfl h.r0 rfl ?_
  refine Ex.nx rfl ?_
  refine Hx.call 9 rfl rfl h.2.2.1.1 rfl rfl (tb_get h.2.2.1 (i := i) hi) ?_
  show Ex X m_Tab_order 8 [.ref (c0 + 0), .int (nI (i + 1)), .int (nI (j + 1)), ev_dead, ev_dead] [.ref (c0 + (26 + 5 * i))] (hp c0 (26 + 5 * T.length) _ _) _
  refine Ex.nx rfl ?_
  show Ex X m_Tab_order 9 [.ref (c0 + 0), .int (nI (i + 1)), .int (nI (j + 1)), .ref (c0 + (26 + 5 * i)), ev_dead] [] (hp c0 (26 + 5 * T.length) _ _) _
  refine Ex.nx rfl ?_
  refine Hx.get 0 rfl h.r0 rfl ?_
  refine Ex.nx rfl ?_
  refine Hx.call 9 rfl rfl h.2.2.1.1 rfl rfl (tb_get h.2.2.1 (i := j) hj) ?_
  show Ex X m_Tab_order 17 [.ref (c0 + 0), .int (nI (i + 1)), .int (nI (j + 1)), .ref (c0 + (26 + 5 * i)), ev_dead] [.ref (c0 + (26 + 5 * j))] (hp c0 (26 + 5 * T.length) _ _) _
  refine Ex.nx rfl ?_
  show Ex X m_Tab_order 19 [.ref (c0 + 0), .int (nI (i + 1)), .int (nI (j + 1)), .ref (c0 + (26 + 5 * i)), .ref (c0 + (26 + 5 * j))] [] (hp c0 (26 + 5 * T.length) _ _) _
  refine Ex.nx rfl ?_
  refine Ex.nx rfl ?_
  show Ex X m_Tab_order 23 [.ref (c0 + 0), .int (nI (i + 1)), .int (nI (j + 1)), .ref (c0 + (26 + 5 * i)), .ref (c0 + (26 + 5 * j))] [] (hp c0 (26 + 5 * T.length) _ _) _
  refine Ex.nx rfl ?_
  refine Ex.nx rfl ?_
  show Ex X m_Tab_order 32 [.ref (c0 + 0), .int (nI (i + 1)), .int (nI (j + 1)), .ref (c0 + (26 + 5 * i)), .ref (c0 + (26 + 5 * j))] [] (hp c0 (26 + 5 * T.length) _ _) _
  refine Ex.nx rfl ?_
  refine Ex.nx rfl ?_
  refine Hx.call (26 + 5 * i) rfl rfl hti.1 rfl rfl (tm_ord hti htj) ?_
  show Ex X m_Tab_order 38 [.ref (c0 + 0), .int (nI (i + 1)), .int (nI (j + 1)), .ref (c0 + (26 + 5 * i)), .ref (c0 + (26 + 5 * j))] [.int (orT (T.getD i tm0) (T.getD j tm0))] (hp c0 (26 + 5 * T.length) _ _) _
  exact Ex.ret rfl (ev_reti rfl) h.same
set_option maxRecDepth 100000 in
set_option maxHeartbeats 2000000 in
theorem q_same_nn {X : ev_X} {c0 z u pl : Nat} {t o : List Nat} {T : List Tm} {F : Nat → Option va_E} (h : CC c0 t T u o pl F) {a : Int32} (ha : a < 1 ∨ (¬ a < 1 ∧ nI T.length < a)) {b : Int32} (hb : b < 1 ∨ (¬ b < 1 ∧ nI T.length < b)) : Ex X m_Tab_same 0 [.ref (c0 + 0), .int a, .int b, ev_dead, ev_dead] [] (hp c0 (26 + 5 * T.length) z F) (cP c0 z F t T u o pl (.int (2))) := by
  refine Ex.nx rfl ?_
  refine Hx.get 0 rfl h.r0 rfl ?_
  refine Ex.nx rfl ?_
  refine Hx.call 9 rfl rfl h.2.2.1.1 rfl rfl (tb_no h.2.2.1 ha) ?_
  show Ex X m_Tab_same 8 [.ref (c0 + 0), .int a, .int b, ev_dead, ev_dead] [.null] (hp c0 (26 + 5 * T.length) _ _) _
  refine Ex.nx rfl ?_
  show Ex X m_Tab_same 9 [.ref (c0 + 0), .int a, .int b, .null, ev_dead] [] (hp c0 (26 + 5 * T.length) _ _) _
  refine Ex.nx rfl ?_
  refine Hx.get 0 rfl h.r0 rfl ?_
  refine Ex.nx rfl ?_
  refine Hx.call 9 rfl rfl h.2.2.1.1 rfl rfl (tb_no h.2.2.1 hb) ?_
  show Ex X m_Tab_same 17 [.ref (c0 + 0), .int a, .int b, .null, ev_dead] [.null] (hp c0 (26 + 5 * T.length) _ _) _
  refine Ex.nx rfl ?_
  show Ex X m_Tab_same 19 [.ref (c0 + 0), .int a, .int b, .null, .null] [] (hp c0 (26 + 5 * T.length) _ _) _
  refine Ex.nx rfl ?_
  refine Ex.nx rfl ?_
  show Ex X m_Tab_same 28 [.ref (c0 + 0), .int a, .int b, .null, .null] [] (hp c0 (26 + 5 * T.length) _ _) _
  refine Ex.nx rfl ?_
  exact Ex.ret rfl (ev_reti rfl) h.same
set_option maxRecDepth 100000 in
set_option maxHeartbeats 2000000 in
theorem q_same_ni {X : ev_X} {c0 z u pl : Nat} {t o : List Nat} {T : List Tm} {F : Nat → Option va_E} (h : CC c0 t T u o pl F) {a : Int32} (ha : a < 1 ∨ (¬ a < 1 ∧ nI T.length < a)) {j : Nat} (hj : j < T.length) : Ex X m_Tab_same 0 [.ref (c0 + 0), .int a, .int (nI (j + 1)), ev_dead, ev_dead] [] (hp c0 (26 + 5 * T.length) z F) (cP c0 z F t T u o pl (.int (2))) := by
  refine Ex.nx rfl ?_
  refine Hx.get 0 rfl h.r0 rfl ?_
  refine Ex.nx rfl ?_
  refine Hx.call 9 rfl rfl h.2.2.1.1 rfl rfl (tb_no h.2.2.1 ha) ?_
  show Ex X m_Tab_same 8 [.ref (c0 + 0), .int a, .int (nI (j + 1)), ev_dead, ev_dead] [.null] (hp c0 (26 + 5 * T.length) _ _) _
  refine Ex.nx rfl ?_
  show Ex X m_Tab_same 9 [.ref (c0 + 0), .int a, .int (nI (j + 1)), .null, ev_dead] [] (hp c0 (26 + 5 * T.length) _ _) _
  refine Ex.nx rfl ?_
  refine Hx.get 0 rfl h.r0 rfl ?_
  refine Ex.nx rfl ?_
  refine Hx.call 9 rfl rfl h.2.2.1.1 rfl rfl (tb_get h.2.2.1 (i := j) hj) ?_
  show Ex X m_Tab_same 17 [.ref (c0 + 0), .int a, .int (nI (j + 1)), .null, ev_dead] [.ref (c0 + (26 + 5 * j))] (hp c0 (26 + 5 * T.length) _ _) _
  refine Ex.nx rfl ?_
  show Ex X m_Tab_same 19 [.ref (c0 + 0), .int a, .int (nI (j + 1)), .null, .ref (c0 + (26 + 5 * j))] [] (hp c0 (26 + 5 * T.length) _ _) _
  refine Ex.nx rfl ?_
  refine Ex.nx rfl ?_
  show Ex X m_Tab_same 28 [.ref (c0 + 0), .int a, .int (nI (j + 1)), .null, .ref (c0 + (26 + 5 * j))] [] (hp c0 (26 + 5 * T.length) _ _) _
  refine Ex.nx rfl ?_
  exact Ex.ret rfl (ev_reti rfl) h.same
set_option maxRecDepth 100000 in
set_option maxHeartbeats 2000000 in
theorem q_same_in {X : ev_X} {c0 z u pl : Nat} {t o : List Nat} {T : List Tm} {F : Nat → Option va_E} (h : CC c0 t T u o pl F) {i : Nat} (hi : i < T.length) {b : Int32} (hb : b < 1 ∨ (¬ b < 1 ∧ nI T.length < b)) : Ex X m_Tab_same 0 [.ref (c0 + 0), .int (nI (i + 1)), .int b, ev_dead, ev_dead] [] (hp c0 (26 + 5 * T.length) z F) (cP c0 z F t T u o pl (.int (2))) := by
  refine Ex.nx rfl ?_
  refine Hx.get 0 rfl h.r0 rfl ?_
  refine Ex.nx rfl ?_
  refine Hx.call 9 rfl rfl h.2.2.1.1 rfl rfl (tb_get h.2.2.1 (i := i) hi) ?_
  show Ex X m_Tab_same 8 [.ref (c0 + 0), .int (nI (i + 1)), .int b, ev_dead, ev_dead] [.ref (c0 + (26 + 5 * i))] (hp c0 (26 + 5 * T.length) _ _) _
  refine Ex.nx rfl ?_
  show Ex X m_Tab_same 9 [.ref (c0 + 0), .int (nI (i + 1)), .int b, .ref (c0 + (26 + 5 * i)), ev_dead] [] (hp c0 (26 + 5 * T.length) _ _) _
  refine Ex.nx rfl ?_
  refine Hx.get 0 rfl h.r0 rfl ?_
  refine Ex.nx rfl ?_
  refine Hx.call 9 rfl rfl h.2.2.1.1 rfl rfl (tb_no h.2.2.1 hb) ?_
  show Ex X m_Tab_same 17 [.ref (c0 + 0), .int (nI (i + 1)), .int b, .ref (c0 + (26 + 5 * i)), ev_dead] [.null] (hp c0 (26 + 5 * T.length) _ _) _
  refine Ex.nx rfl ?_
  show Ex X m_Tab_same 19 [.ref (c0 + 0), .int (nI (i + 1)), .int b, .ref (c0 + (26 + 5 * i)), .null] [] (hp c0 (26 + 5 * T.length) _ _) _
  refine Ex.nx rfl ?_
  refine Ex.nx rfl ?_
  show Ex X m_Tab_same 23 [.ref (c0 + 0), .int (nI (i + 1)), .int b, .ref (c0 + (26 + 5 * i)), .null] [] (hp c0 (26 + 5 * T.length) _ _) _
  refine Ex.nx rfl ?_
  refine Ex.nx rfl ?_
  show Ex X m_Tab_same 28 [.ref (c0 + 0), .int (nI (i + 1)), .int b, .ref (c0 + (26 + 5 * i)), .null] [] (hp c0 (26 + 5 * T.length) _ _) _
  refine Ex.nx rfl ?_
  exact Ex.ret rfl (ev_reti rfl) h.same
set_option maxRecDepth 100000 in
set_option maxHeartbeats 2000000 in
theorem q_same_ii {X : ev_X} {c0 z u pl : Nat} {t o : List Nat} {T : List Tm} {F : Nat → Option va_E} (h : CC c0 t T u o pl F) {i j : Nat} (hi : i < T.length) (hj : j < T.length) : Ex X m_Tab_same 0 [.ref (c0 + 0), .int (nI (i + 1)), .int (nI (j + 1)), ev_dead, ev_dead] [] (hp c0 (26 + 5 * T.length) z F) (cP c0 z F t T u o pl (.int (smT (T.getD i tm0) (T.getD j tm0)))) := by
  obtain ⟨M1, M2, hti⟩ := h.2.2.1.2.2.2.2 i hi
  obtain ⟨M3, M4, htj⟩ := h.2.2.1.2.2.2.2 j hj
  refine Ex.nx rfl ?_
  refine Hx.get 0 rfl h.r0 rfl ?_
  refine Ex.nx rfl ?_
  refine Hx.call 9 rfl rfl h.2.2.1.1 rfl rfl (tb_get h.2.2.1 (i := i) hi) ?_
  show Ex X m_Tab_same 8 [.ref (c0 + 0), .int (nI (i + 1)), .int (nI (j + 1)), ev_dead, ev_dead] [.ref (c0 + (26 + 5 * i))] (hp c0 (26 + 5 * T.length) _ _) _
  refine Ex.nx rfl ?_
  show Ex X m_Tab_same 9 [.ref (c0 + 0), .int (nI (i + 1)), .int (nI (j + 1)), .ref (c0 + (26 + 5 * i)), ev_dead] [] (hp c0 (26 + 5 * T.length) _ _) _
  refine Ex.nx rfl ?_
  refine Hx.get 0 rfl h.r0 rfl ?_
  refine Ex.nx rfl ?_
  refine Hx.call 9 rfl rfl h.2.2.1.1 rfl rfl (tb_get h.2.2.1 (i := j) hj) ?_
  show Ex X m_Tab_same 17 [.ref (c0 + 0), .int (nI (i + 1)), .int (nI (j + 1)), .ref (c0 + (26 + 5 * i)), ev_dead] [.ref (c0 + (26 + 5 * j))] (hp c0 (26 + 5 * T.length) _ _) _
  refine Ex.nx rfl ?_
  show Ex X m_Tab_same 19 [.ref (c0 + 0), .int (nI (i + 1)), .int (nI (j + 1)), .ref (c0 + (26 + 5 * i)), .ref (c0 + (26 + 5 * j))] [] (hp c0 (26 + 5 * T.length) _ _) _
  refine Ex.nx rfl ?_
  refine Ex.nx rfl ?_
  show Ex X m_Tab_same 23 [.ref (c0 + 0), .int (nI (i + 1)), .int (nI (j + 1)), .ref (c0 + (26 + 5 * i)), .ref (c0 + (26 + 5 * j))] [] (hp c0 (26 + 5 * T.length) _ _) _
  refine Ex.nx rfl ?_
  refine Ex.nx rfl ?_
  show Ex X m_Tab_same 30 [.ref (c0 + 0), .int (nI (i + 1)), .int (nI (j + 1)), .ref (c0 + (26 + 5 * i)), .ref (c0 + (26 + 5 * j))] [] (hp c0 (26 + 5 * T.length) _ _) _
  refine Ex.nx rfl ?_
  refine Hx.call (26 + 5 * i) rfl rfl hti.1 rfl rfl (tm_rank hti) ?_
  show Ex X m_Tab_same 34 [.ref (c0 + 0), .int (nI (i + 1)), .int (nI (j + 1)), .ref (c0 + (26 + 5 * i)), .ref (c0 + (26 + 5 * j))] [.int (rkT (T.getD i tm0))] (hp c0 (26 + 5 * T.length) _ _) _
  refine Ex.nx rfl ?_
  refine Hx.call (26 + 5 * j) rfl rfl htj.1 rfl rfl (tm_rank htj) ?_
  show Ex X m_Tab_same 39 [.ref (c0 + 0), .int (nI (i + 1)), .int (nI (j + 1)), .ref (c0 + (26 + 5 * i)), .ref (c0 + (26 + 5 * j))] [.int (rkT (T.getD j tm0)), .int (rkT (T.getD i tm0))] (hp c0 (26 + 5 * T.length) _ _) _
  refine Ex.nx rfl ?_
  refine Ex.ite (fun c1 => ?_) (fun c1 => ?_)
  · replace c1 : (rkT (T.getD i tm0)) = (rkT (T.getD j tm0)) := of_decide_eq_true c1
    show Ex X m_Tab_same 66 [.ref (c0 + 0), .int (nI (i + 1)), .int (nI (j + 1)), .ref (c0 + (26 + 5 * i)), .ref (c0 + (26 + 5 * j))] [] (hp c0 (26 + 5 * T.length) _ _) _
    refine Ex.nx rfl ?_
    refine Ex.nx rfl ?_
    refine Hx.call (26 + 5 * i) rfl rfl hti.1 rfl rfl (tm_val hti htj) ?_
    show Ex X m_Tab_same 72 [.ref (c0 + 0), .int (nI (i + 1)), .int (nI (j + 1)), .ref (c0 + (26 + 5 * i)), .ref (c0 + (26 + 5 * j))] [.int (vlT (T.getD i tm0) (T.getD j tm0))] (hp c0 (26 + 5 * T.length) _ _) _
    refine Ex.nx rfl ?_
    refine Ex.ite (fun c2 => ?_) (fun c2 => ?_)
    · replace c2 : ¬ (vlT (T.getD i tm0) (T.getD j tm0)) = 0 := of_decide_eq_true c2
      show Ex X m_Tab_same 92 [.ref (c0 + 0), .int (nI (i + 1)), .int (nI (j + 1)), .ref (c0 + (26 + 5 * i)), .ref (c0 + (26 + 5 * j))] [] (hp c0 (26 + 5 * T.length) _ _) _
      refine Ex.nx rfl ?_
      refine Hx.get (26 + 5 * i) rfl hti.1 rfl ?_
      refine Ex.nx rfl ?_
      refine Ex.nx rfl ?_
      refine Ex.ite (fun c3 => ?_) (fun c3 => ?_)
      · replace c3 : ¬ ((T.getD i tm0).1) = 7 := of_decide_eq_true c3
        show Ex X m_Tab_same 105 [.ref (c0 + 0), .int (nI (i + 1)), .int (nI (j + 1)), .ref (c0 + (26 + 5 * i)), .ref (c0 + (26 + 5 * j))] [] (hp c0 (26 + 5 * T.length) _ _) _
        refine Ex.nx rfl ?_
        exact Ex.ret rfl (ev_reti rfl) (by rw [show smT (T.getD i tm0) (T.getD j tm0) = 0 by simp [-List.getD_eq_getElem?_getD, smT, c1, c2, c3]]; exact h.same)
      · replace c3 : ((T.getD i tm0).1) = 7 := Classical.not_not.mp (of_decide_eq_false c3)
        show Ex X m_Tab_same 101 [.ref (c0 + 0), .int (nI (i + 1)), .int (nI (j + 1)), .ref (c0 + (26 + 5 * i)), .ref (c0 + (26 + 5 * j))] [] (hp c0 (26 + 5 * T.length) _ _) _
        refine Ex.nx rfl ?_
        refine Ex.nx rfl ?_
        exact Ex.ret rfl (ev_reti rfl) (by rw [show smT (T.getD i tm0) (T.getD j tm0) = 2 by simp [-List.getD_eq_getElem?_getD, smT, c1, c2, c3]]; exact h.same)
    · replace c2 : (vlT (T.getD i tm0) (T.getD j tm0)) = 0 := Classical.not_not.mp (of_decide_eq_false c2)
      show Ex X m_Tab_same 75 [.ref (c0 + 0), .int (nI (i + 1)), .int (nI (j + 1)), .ref (c0 + (26 + 5 * i)), .ref (c0 + (26 + 5 * j))] [] (hp c0 (26 + 5 * T.length) _ _) _
      refine Ex.nx rfl ?_
      refine Hx.get (26 + 5 * i) rfl hti.1 rfl ?_
      refine Ex.nx rfl ?_
      refine Hx.get (26 + 5 * j) rfl htj.1 rfl ?_
      refine Hx.rowE hti.2.2.1 rfl rfl rfl rfl (rl_order hti.2.2.2.2.1 htj.2.2.2.2.1 hti.2.2.1 htj.2.2.1) ?_
      show Ex X m_Tab_same 87 [.ref (c0 + 0), .int (nI (i + 1)), .int (nI (j + 1)), .ref (c0 + (26 + 5 * i)), .ref (c0 + (26 + 5 * j))] [.int (ordL (T.getD i tm0).2.2.2.2 (T.getD j tm0).2.2.2.2)] (hp c0 (26 + 5 * T.length) _ _) _
      refine Ex.nx rfl ?_
      refine Ex.ite (fun c4 => ?_) (fun c4 => ?_)
      · replace c4 : ¬ (ordL (T.getD i tm0).2.2.2.2 (T.getD j tm0).2.2.2.2) = 0 := of_decide_eq_true c4
        show Ex X m_Tab_same 92 [.ref (c0 + 0), .int (nI (i + 1)), .int (nI (j + 1)), .ref (c0 + (26 + 5 * i)), .ref (c0 + (26 + 5 * j))] [] (hp c0 (26 + 5 * T.length) _ _) _
        refine Ex.nx rfl ?_
        refine Hx.get (26 + 5 * i) rfl hti.1 rfl ?_
        refine Ex.nx rfl ?_
        refine Ex.nx rfl ?_
        refine Ex.ite (fun c5 => ?_) (fun c5 => ?_)
        · replace c5 : ¬ ((T.getD i tm0).1) = 7 := of_decide_eq_true c5
          show Ex X m_Tab_same 105 [.ref (c0 + 0), .int (nI (i + 1)), .int (nI (j + 1)), .ref (c0 + (26 + 5 * i)), .ref (c0 + (26 + 5 * j))] [] (hp c0 (26 + 5 * T.length) _ _) _
          refine Ex.nx rfl ?_
          exact Ex.ret rfl (ev_reti rfl) (by rw [show smT (T.getD i tm0) (T.getD j tm0) = 0 by simp [-List.getD_eq_getElem?_getD, smT, c1, c2, c4, c5]]; exact h.same)
        · replace c5 : ((T.getD i tm0).1) = 7 := Classical.not_not.mp (of_decide_eq_false c5)
          show Ex X m_Tab_same 101 [.ref (c0 + 0), .int (nI (i + 1)), .int (nI (j + 1)), .ref (c0 + (26 + 5 * i)), .ref (c0 + (26 + 5 * j))] [] (hp c0 (26 + 5 * T.length) _ _) _
          refine Ex.nx rfl ?_
          refine Ex.nx rfl ?_
          exact Ex.ret rfl (ev_reti rfl) (by rw [show smT (T.getD i tm0) (T.getD j tm0) = 2 by simp [-List.getD_eq_getElem?_getD, smT, c1, c2, c4, c5]]; exact h.same)
      · replace c4 : (ordL (T.getD i tm0).2.2.2.2 (T.getD j tm0).2.2.2.2) = 0 := Classical.not_not.mp (of_decide_eq_false c4)
        show Ex X m_Tab_same 90 [.ref (c0 + 0), .int (nI (i + 1)), .int (nI (j + 1)), .ref (c0 + (26 + 5 * i)), .ref (c0 + (26 + 5 * j))] [] (hp c0 (26 + 5 * T.length) _ _) _
        refine Ex.nx rfl ?_
        exact Ex.ret rfl (ev_reti rfl) (by rw [show smT (T.getD i tm0) (T.getD j tm0) = 1 by simp [-List.getD_eq_getElem?_getD, smT, c1, c2, c4]]; exact h.same)
  · replace c1 : ¬ (rkT (T.getD i tm0)) = (rkT (T.getD j tm0)) := of_decide_eq_false c1
    show Ex X m_Tab_same 42 [.ref (c0 + 0), .int (nI (i + 1)), .int (nI (j + 1)), .ref (c0 + (26 + 5 * i)), .ref (c0 + (26 + 5 * j))] [] (hp c0 (26 + 5 * T.length) _ _) _
    refine Ex.nx rfl ?_
    refine Ex.nx rfl ?_
    refine Hx.call (26 + 5 * i) rfl rfl hti.1 rfl rfl (tm_str hti htj) ?_
    show Ex X m_Tab_same 48 [.ref (c0 + 0), .int (nI (i + 1)), .int (nI (j + 1)), .ref (c0 + (26 + 5 * i)), .ref (c0 + (26 + 5 * j))] [.int (bi (str (T.getD i tm0) (T.getD j tm0)))] (hp c0 (26 + 5 * T.length) _ _) _
    refine Ex.nx rfl ?_
    refine Ex.ite (fun c6 => ?_) (fun c6 => ?_)
    · replace c6 : (str (T.getD i tm0) (T.getD j tm0)) = true := bi_net c6
      show Ex X m_Tab_same 60 [.ref (c0 + 0), .int (nI (i + 1)), .int (nI (j + 1)), .ref (c0 + (26 + 5 * i)), .ref (c0 + (26 + 5 * j))] [] (hp c0 (26 + 5 * T.length) _ _) _
      refine Ex.nx rfl ?_
      refine Ex.nx rfl ?_
      exact Ex.ret rfl (ev_reti rfl) (by rw [show smT (T.getD i tm0) (T.getD j tm0) = 2 by simp [-List.getD_eq_getElem?_getD, smT, c1, c6]]; exact h.same)
    · replace c6 : (str (T.getD i tm0) (T.getD j tm0)) = false := bi_nef c6
      show Ex X m_Tab_same 51 [.ref (c0 + 0), .int (nI (i + 1)), .int (nI (j + 1)), .ref (c0 + (26 + 5 * i)), .ref (c0 + (26 + 5 * j))] [] (hp c0 (26 + 5 * T.length) _ _) _
      refine Ex.nx rfl ?_
      refine Ex.nx rfl ?_
      refine Hx.call (26 + 5 * j) rfl rfl htj.1 rfl rfl (tm_str htj hti) ?_
      show Ex X m_Tab_same 57 [.ref (c0 + 0), .int (nI (i + 1)), .int (nI (j + 1)), .ref (c0 + (26 + 5 * i)), .ref (c0 + (26 + 5 * j))] [.int (bi (str (T.getD j tm0) (T.getD i tm0)))] (hp c0 (26 + 5 * T.length) _ _) _
      refine Ex.nx rfl ?_
      refine Ex.ite (fun c7 => ?_) (fun c7 => ?_)
      · replace c7 : (str (T.getD j tm0) (T.getD i tm0)) = false := bi_eqt c7
        show Ex X m_Tab_same 64 [.ref (c0 + 0), .int (nI (i + 1)), .int (nI (j + 1)), .ref (c0 + (26 + 5 * i)), .ref (c0 + (26 + 5 * j))] [] (hp c0 (26 + 5 * T.length) _ _) _
        refine Ex.nx rfl ?_
        exact Ex.ret rfl (ev_reti rfl) (by rw [show smT (T.getD i tm0) (T.getD j tm0) = 0 by simp [-List.getD_eq_getElem?_getD, smT, c1, c6, c7]]; exact h.same)
      · replace c7 : (str (T.getD j tm0) (T.getD i tm0)) = true := bi_eqf c7
        show Ex X m_Tab_same 60 [.ref (c0 + 0), .int (nI (i + 1)), .int (nI (j + 1)), .ref (c0 + (26 + 5 * i)), .ref (c0 + (26 + 5 * j))] [] (hp c0 (26 + 5 * T.length) _ _) _
        refine Ex.nx rfl ?_
        refine Ex.nx rfl ?_
        exact Ex.ret rfl (ev_reti rfl) (by rw [show smT (T.getD i tm0) (T.getD j tm0) = 2 by simp [-List.getD_eq_getElem?_getD, smT, c1, c6, c7]]; exact h.same)
set_option maxRecDepth 100000 in
set_option maxHeartbeats 2000000 in
theorem q_less_nn {X : ev_X} {c0 z u pl : Nat} {t o : List Nat} {T : List Tm} {F : Nat → Option va_E} (h : CC c0 t T u o pl F) {a : Int32} (ha : a < 1 ∨ (¬ a < 1 ∧ nI T.length < a)) {b : Int32} (hb : b < 1 ∨ (¬ b < 1 ∧ nI T.length < b)) : Ex X m_Tab_less 0 [.ref (c0 + 0), .int a, .int b, ev_dead, ev_dead] [] (hp c0 (26 + 5 * T.length) z F) (cP c0 z F t T u o pl (.int (2))) := by
  refine Ex.nx rfl ?_
  refine Hx.get 0 rfl h.r0 rfl ?_
  refine Ex.nx rfl ?_
  refine Hx.call 9 rfl rfl h.2.2.1.1 rfl rfl (tb_no h.2.2.1 ha) ?_
  show Ex X m_Tab_less 8 [.ref (c0 + 0), .int a, .int b, ev_dead, ev_dead] [.null] (hp c0 (26 + 5 * T.length) _ _) _
  refine Ex.nx rfl ?_
  show Ex X m_Tab_less 9 [.ref (c0 + 0), .int a, .int b, .null, ev_dead] [] (hp c0 (26 + 5 * T.length) _ _) _
  refine Ex.nx rfl ?_
  refine Hx.get 0 rfl h.r0 rfl ?_
  refine Ex.nx rfl ?_
  refine Hx.call 9 rfl rfl h.2.2.1.1 rfl rfl (tb_no h.2.2.1 hb) ?_
  show Ex X m_Tab_less 17 [.ref (c0 + 0), .int a, .int b, .null, ev_dead] [.null] (hp c0 (26 + 5 * T.length) _ _) _
  refine Ex.nx rfl ?_
  show Ex X m_Tab_less 19 [.ref (c0 + 0), .int a, .int b, .null, .null] [] (hp c0 (26 + 5 * T.length) _ _) _
  refine Ex.nx rfl ?_
  refine Ex.nx rfl ?_
  show Ex X m_Tab_less 47 [.ref (c0 + 0), .int a, .int b, .null, .null] [] (hp c0 (26 + 5 * T.length) _ _) _
  refine Ex.nx rfl ?_
  exact Ex.ret rfl (ev_reti rfl) h.same
set_option maxRecDepth 100000 in
set_option maxHeartbeats 2000000 in
theorem q_less_ni {X : ev_X} {c0 z u pl : Nat} {t o : List Nat} {T : List Tm} {F : Nat → Option va_E} (h : CC c0 t T u o pl F) {a : Int32} (ha : a < 1 ∨ (¬ a < 1 ∧ nI T.length < a)) {j : Nat} (hj : j < T.length) : Ex X m_Tab_less 0 [.ref (c0 + 0), .int a, .int (nI (j + 1)), ev_dead, ev_dead] [] (hp c0 (26 + 5 * T.length) z F) (cP c0 z F t T u o pl (.int (2))) := by
  refine Ex.nx rfl ?_
  refine Hx.get 0 rfl h.r0 rfl ?_
  refine Ex.nx rfl ?_
  refine Hx.call 9 rfl rfl h.2.2.1.1 rfl rfl (tb_no h.2.2.1 ha) ?_
  show Ex X m_Tab_less 8 [.ref (c0 + 0), .int a, .int (nI (j + 1)), ev_dead, ev_dead] [.null] (hp c0 (26 + 5 * T.length) _ _) _
  refine Ex.nx rfl ?_
  show Ex X m_Tab_less 9 [.ref (c0 + 0), .int a, .int (nI (j + 1)), .null, ev_dead] [] (hp c0 (26 + 5 * T.length) _ _) _
  refine Ex.nx rfl ?_
  refine Hx.get 0 rfl h.r0 rfl ?_
  refine Ex.nx rfl ?_
  refine Hx.call 9 rfl rfl h.2.2.1.1 rfl rfl (tb_get h.2.2.1 (i := j) hj) ?_
  show Ex X m_Tab_less 17 [.ref (c0 + 0), .int a, .int (nI (j + 1)), .null, ev_dead] [.ref (c0 + (26 + 5 * j))] (hp c0 (26 + 5 * T.length) _ _) _
  refine Ex.nx rfl ?_
  show Ex X m_Tab_less 19 [.ref (c0 + 0), .int a, .int (nI (j + 1)), .null, .ref (c0 + (26 + 5 * j))] [] (hp c0 (26 + 5 * T.length) _ _) _
  refine Ex.nx rfl ?_
  refine Ex.nx rfl ?_
  show Ex X m_Tab_less 47 [.ref (c0 + 0), .int a, .int (nI (j + 1)), .null, .ref (c0 + (26 + 5 * j))] [] (hp c0 (26 + 5 * T.length) _ _) _
  refine Ex.nx rfl ?_
  exact Ex.ret rfl (ev_reti rfl) h.same
set_option maxRecDepth 100000 in
set_option maxHeartbeats 2000000 in
theorem q_less_in {X : ev_X} {c0 z u pl : Nat} {t o : List Nat} {T : List Tm} {F : Nat → Option va_E} (h : CC c0 t T u o pl F) {i : Nat} (hi : i < T.length) {b : Int32} (hb : b < 1 ∨ (¬ b < 1 ∧ nI T.length < b)) : Ex X m_Tab_less 0 [.ref (c0 + 0), .int (nI (i + 1)), .int b, ev_dead, ev_dead] [] (hp c0 (26 + 5 * T.length) z F) (cP c0 z F t T u o pl (.int (2))) := by
  refine Ex.nx rfl ?_
  refine Hx.get 0 rfl h.r0 rfl ?_
  refine Ex.nx rfl ?_
  refine Hx.call 9 rfl rfl h.2.2.1.1 rfl rfl (tb_get h.2.2.1 (i := i) hi) ?_
  show Ex X m_Tab_less 8 [.ref (c0 + 0), .int (nI (i + 1)), .int b, ev_dead, ev_dead] [.ref (c0 + (26 + 5 * i))] (hp c0 (26 + 5 * T.length) _ _) _
  refine Ex.nx rfl ?_
  show Ex X m_Tab_less 9 [.ref (c0 + 0), .int (nI (i + 1)), .int b, .ref (c0 + (26 + 5 * i)), ev_dead] [] (hp c0 (26 + 5 * T.length) _ _) _
  refine Ex.nx rfl ?_
  refine Hx.get 0 rfl h.r0 rfl ?_
  refine Ex.nx rfl ?_
  refine Hx.call 9 rfl rfl h.2.2.1.1 rfl rfl (tb_no h.2.2.1 hb) ?_
  show Ex X m_Tab_less 17 [.ref (c0 + 0), .int (nI (i + 1)), .int b, .ref (c0 + (26 + 5 * i)), ev_dead] [.null] (hp c0 (26 + 5 * T.length) _ _) _
  refine Ex.nx rfl ?_
  show Ex X m_Tab_less 19 [.ref (c0 + 0), .int (nI (i + 1)), .int b, .ref (c0 + (26 + 5 * i)), .null] [] (hp c0 (26 + 5 * T.length) _ _) _
  refine Ex.nx rfl ?_
  refine Ex.nx rfl ?_
  show Ex X m_Tab_less 23 [.ref (c0 + 0), .int (nI (i + 1)), .int b, .ref (c0 + (26 + 5 * i)), .null] [] (hp c0 (26 + 5 * T.length) _ _) _
  refine Ex.nx rfl ?_
  refine Ex.nx rfl ?_
  show Ex X m_Tab_less 47 [.ref (c0 + 0), .int (nI (i + 1)), .int b, .ref (c0 + (26 + 5 * i)), .null] [] (hp c0 (26 + 5 * T.length) _ _) _
  refine Ex.nx rfl ?_
  exact Ex.ret rfl (ev_reti rfl) h.same
set_option maxRecDepth 100000 in
set_option maxHeartbeats 2000000 in
theorem q_less_ii {X : ev_X} {c0 z u pl : Nat} {t o : List Nat} {T : List Tm} {F : Nat → Option va_E} (h : CC c0 t T u o pl F) {i j : Nat} (hi : i < T.length) (hj : j < T.length) : Ex X m_Tab_less 0 [.ref (c0 + 0), .int (nI (i + 1)), .int (nI (j + 1)), ev_dead, ev_dead] [] (hp c0 (26 + 5 * T.length) z F) (cP c0 z F t T u o pl (.int (lsT (T.getD i tm0) (T.getD j tm0)))) := by
  obtain ⟨M1, M2, hti⟩ := h.2.2.1.2.2.2.2 i hi
  obtain ⟨M3, M4, htj⟩ := h.2.2.1.2.2.2.2 j hj
  refine Ex.nx rfl ?_
  refine Hx.get 0 rfl h.r0 rfl ?_
  refine Ex.nx rfl ?_
  refine Hx.call 9 rfl rfl h.2.2.1.1 rfl rfl (tb_get h.2.2.1 (i := i) hi) ?_
  show Ex X m_Tab_less 8 [.ref (c0 + 0), .int (nI (i + 1)), .int (nI (j + 1)), ev_dead, ev_dead] [.ref (c0 + (26 + 5 * i))] (hp c0 (26 + 5 * T.length) _ _) _
  refine Ex.nx rfl ?_
  show Ex X m_Tab_less 9 [.ref (c0 + 0), .int (nI (i + 1)), .int (nI (j + 1)), .ref (c0 + (26 + 5 * i)), ev_dead] [] (hp c0 (26 + 5 * T.length) _ _) _
  refine Ex.nx rfl ?_
  refine Hx.get 0 rfl h.r0 rfl ?_
  refine Ex.nx rfl ?_
  refine Hx.call 9 rfl rfl h.2.2.1.1 rfl rfl (tb_get h.2.2.1 (i := j) hj) ?_
  show Ex X m_Tab_less 17 [.ref (c0 + 0), .int (nI (i + 1)), .int (nI (j + 1)), .ref (c0 + (26 + 5 * i)), ev_dead] [.ref (c0 + (26 + 5 * j))] (hp c0 (26 + 5 * T.length) _ _) _
  refine Ex.nx rfl ?_
  show Ex X m_Tab_less 19 [.ref (c0 + 0), .int (nI (i + 1)), .int (nI (j + 1)), .ref (c0 + (26 + 5 * i)), .ref (c0 + (26 + 5 * j))] [] (hp c0 (26 + 5 * T.length) _ _) _
  refine Ex.nx rfl ?_
  refine Ex.nx rfl ?_
  show Ex X m_Tab_less 23 [.ref (c0 + 0), .int (nI (i + 1)), .int (nI (j + 1)), .ref (c0 + (26 + 5 * i)), .ref (c0 + (26 + 5 * j))] [] (hp c0 (26 + 5 * T.length) _ _) _
  refine Ex.nx rfl ?_
  refine Ex.nx rfl ?_
  show Ex X m_Tab_less 28 [.ref (c0 + 0), .int (nI (i + 1)), .int (nI (j + 1)), .ref (c0 + (26 + 5 * i)), .ref (c0 + (26 + 5 * j))] [] (hp c0 (26 + 5 * T.length) _ _) _
  refine Ex.nx rfl ?_
  refine Hx.call (26 + 5 * i) rfl rfl hti.1 rfl rfl (tm_rank hti) ?_
  show Ex X m_Tab_less 32 [.ref (c0 + 0), .int (nI (i + 1)), .int (nI (j + 1)), .ref (c0 + (26 + 5 * i)), .ref (c0 + (26 + 5 * j))] [.int (rkT (T.getD i tm0))] (hp c0 (26 + 5 * T.length) _ _) _
  refine Ex.nx rfl ?_
  refine Hx.call (26 + 5 * j) rfl rfl htj.1 rfl rfl (tm_rank htj) ?_
  show Ex X m_Tab_less 37 [.ref (c0 + 0), .int (nI (i + 1)), .int (nI (j + 1)), .ref (c0 + (26 + 5 * i)), .ref (c0 + (26 + 5 * j))] [.int (rkT (T.getD j tm0)), .int (rkT (T.getD i tm0))] (hp c0 (26 + 5 * T.length) _ _) _
  refine Ex.nx rfl ?_
  refine Ex.ite (fun c1 => ?_) (fun c1 => ?_)
  · replace c1 : ¬ (rkT (T.getD i tm0)) = (rkT (T.getD j tm0)) := of_decide_eq_true c1
    show Ex X m_Tab_less 47 [.ref (c0 + 0), .int (nI (i + 1)), .int (nI (j + 1)), .ref (c0 + (26 + 5 * i)), .ref (c0 + (26 + 5 * j))] [] (hp c0 (26 + 5 * T.length) _ _) _
    refine Ex.nx rfl ?_
    exact Ex.ret rfl (ev_reti rfl) (by rw [show lsT (T.getD i tm0) (T.getD j tm0) = 2 by simp [-List.getD_eq_getElem?_getD, lsT, c1]]; exact h.same)
  · replace c1 : (rkT (T.getD i tm0)) = (rkT (T.getD j tm0)) := Classical.not_not.mp (of_decide_eq_false c1)
    show Ex X m_Tab_less 40 [.ref (c0 + 0), .int (nI (i + 1)), .int (nI (j + 1)), .ref (c0 + (26 + 5 * i)), .ref (c0 + (26 + 5 * j))] [] (hp c0 (26 + 5 * T.length) _ _) _
    refine Ex.nx rfl ?_
    refine Hx.call (26 + 5 * i) rfl rfl hti.1 rfl rfl (tm_less hti) ?_
    show Ex X m_Tab_less 44 [.ref (c0 + 0), .int (nI (i + 1)), .int (nI (j + 1)), .ref (c0 + (26 + 5 * i)), .ref (c0 + (26 + 5 * j))] [.int (bi (hls (T.getD i tm0)))] (hp c0 (26 + 5 * T.length) _ _) _
    refine Ex.nx rfl ?_
    refine Ex.ite (fun c2 => ?_) (fun c2 => ?_)
    · replace c2 : (hls (T.getD i tm0)) = true := bi_net c2
      show Ex X m_Tab_less 49 [.ref (c0 + 0), .int (nI (i + 1)), .int (nI (j + 1)), .ref (c0 + (26 + 5 * i)), .ref (c0 + (26 + 5 * j))] [] (hp c0 (26 + 5 * T.length) _ _) _
      refine Ex.nx rfl ?_
      refine Ex.nx rfl ?_
      refine Hx.call (26 + 5 * i) rfl rfl hti.1 rfl rfl (tm_val hti htj) ?_
      show Ex X m_Tab_less 55 [.ref (c0 + 0), .int (nI (i + 1)), .int (nI (j + 1)), .ref (c0 + (26 + 5 * i)), .ref (c0 + (26 + 5 * j))] [.int (vlT (T.getD i tm0) (T.getD j tm0))] (hp c0 (26 + 5 * T.length) _ _) _
      refine Ex.nx rfl ?_
      refine Ex.ite (fun c3 => ?_) (fun c3 => ?_)
      · replace c3 : 0 ≤ (vlT (T.getD i tm0) (T.getD j tm0)) := of_decide_eq_true c3
        show Ex X m_Tab_less 62 [.ref (c0 + 0), .int (nI (i + 1)), .int (nI (j + 1)), .ref (c0 + (26 + 5 * i)), .ref (c0 + (26 + 5 * j))] [] (hp c0 (26 + 5 * T.length) _ _) _
        refine Ex.nx rfl ?_
        exact Ex.ret rfl (ev_reti rfl) (by rw [show lsT (T.getD i tm0) (T.getD j tm0) = 0 by simp [-List.getD_eq_getElem?_getD, lsT, c1, c2, Int32.not_lt.mpr c3]]; exact h.same)
      · replace c3 : ¬ 0 ≤ (vlT (T.getD i tm0) (T.getD j tm0)) := of_decide_eq_false c3
        show Ex X m_Tab_less 58 [.ref (c0 + 0), .int (nI (i + 1)), .int (nI (j + 1)), .ref (c0 + (26 + 5 * i)), .ref (c0 + (26 + 5 * j))] [] (hp c0 (26 + 5 * T.length) _ _) _
        refine Ex.nx rfl ?_
        refine Ex.nx rfl ?_
        exact Ex.ret rfl (ev_reti rfl) (by rw [show lsT (T.getD i tm0) (T.getD j tm0) = 1 by simp [-List.getD_eq_getElem?_getD, lsT, c1, c2, Int32.not_le.mp c3]]; exact h.same)
    · replace c2 : (hls (T.getD i tm0)) = false := bi_nef c2
      show Ex X m_Tab_less 47 [.ref (c0 + 0), .int (nI (i + 1)), .int (nI (j + 1)), .ref (c0 + (26 + 5 * i)), .ref (c0 + (26 + 5 * j))] [] (hp c0 (26 + 5 * T.length) _ _) _
      refine Ex.nx rfl ?_
      exact Ex.ret rfl (ev_reti rfl) (by rw [show lsT (T.getD i tm0) (T.getD j tm0) = 2 by simp [-List.getD_eq_getElem?_getD, lsT, c1, c2]]; exact h.same)
set_option maxRecDepth 100000 in
set_option maxHeartbeats 2000000 in
theorem q_written {X : ev_X} {c0 z u pl : Nat} {t o : List Nat} {T : List Tm} {F : Nat → Option va_E} (h : CC c0 t T u o pl F) (a : Int32) : Ex X m_Tab_written 0 [.ref (c0 + 0), .int a] [] (hp c0 (26 + 5 * T.length) z F) (cP c0 z F t T u o pl (.int (wtO o a))) := by
  obtain ⟨d, hW⟩ := h.2.2.2.2.1
  refine Ex.nx rfl ?_
  refine Hx.get 0 rfl h.r0 rfl ?_
  refine Ex.nx rfl ?_
  refine Hx.call 11 rfl rfl h.2.2.2.1 rfl rfl (wr_at h.2.2.2.1 a hW) ?_
  show Ex X m_Tab_written 8 [.ref (c0 + 0), .int a] [.int (wtO o a)] (hp c0 (26 + 5 * T.length) _ _) _
  exact Ex.ret rfl (ev_reti rfl) h.same
theorem CC.wr {c0 u pl : Nat} {t o o1 D : List Nat} {T : List Tm} {F F1 : Nat → Option va_E} (h : CC c0 t T u o pl F) (hW : WR c0 F o1 D F1) : CC c0 t T u o1 pl F1 ∧ rsm F F1 := by
  obtain ⟨h1, ⟨s, nu, p, bd, tl, ft, hC⟩, h3, h4, -, h6⟩ := h
  have hq := hW.1
  refine ⟨⟨(hq 0 (by decide)).trans h1, ⟨s, nu, p, bd, tl, ft, fun _ _ => rfl, hC.rt.fr (hq _ (by decide)) (hq _ (by decide)), (hq 3 (by decide)).trans hC.r3, hC.rb.fr (hq _ (by decide)) (hq _ (by decide)), hC.rl.fr (hq _ (by decide)) (hq _ (by decide)), (hq 8 (by decide)).trans hC.r8⟩, h3.fr (hq _ (by decide)) (hq _ (by decide)) (fun q q1 _ => hq q (by omega)), (hq 11 (by decide)).trans h4, ⟨D, fun _ _ => rfl, hW.2.1, hW.2.2⟩, h6⟩, fun k k1 k2 => hq k (by omega)⟩
set_option maxRecDepth 100000 in
set_option maxHeartbeats 2000000 in
theorem q_write_in {X : ev_X} {c0 z u pl : Nat} {t o : List Nat} {T : List Tm} {F : Nat → Option va_E} (h : CC c0 t T u o pl F) (hS : XS X c0) {i : Nat} (hi : i < T.length) {r : Nat} (hr : r < 10 ^ 18) (hx : (T.getD i tm0).2.1 = lN r ∨ (T.getD i tm0).2.1 = -lN r) : Ex X m_Tab_write 0 [.ref (c0 + 0), .int (nI (i + 1)), ev_dead] [] (hp c0 (26 + 5 * T.length) z F) (cP c0 z F t T u (wrW (T.getD i tm0) r) pl (.int (nI (wrW (T.getD i tm0) r).length))) := by
  obtain ⟨M1, M2, hti⟩ := h.2.2.1.2.2.2.2 i hi
  obtain ⟨d, hW⟩ := h.2.2.2.2.1
  refine Ex.nx rfl ?_
  refine Hx.get 0 rfl h.r0 rfl ?_
  refine Ex.nx rfl ?_
  refine Hx.call 9 rfl rfl h.2.2.1.1 rfl rfl (tb_get h.2.2.1 (i := i) hi) ?_
  show Ex X m_Tab_write 8 [.ref (c0 + 0), .int (nI (i + 1)), ev_dead] [.ref (c0 + (26 + 5 * i))] (hp c0 (26 + 5 * T.length) _ _) _
  refine Ex.nx rfl ?_
  show Ex X m_Tab_write 9 [.ref (c0 + 0), .int (nI (i + 1)), .ref (c0 + (26 + 5 * i))] [] (hp c0 (26 + 5 * T.length) _ _) _
  refine Ex.nx rfl ?_
  refine Ex.nx rfl ?_
  show Ex X m_Tab_write 17 [.ref (c0 + 0), .int (nI (i + 1)), .ref (c0 + (26 + 5 * i))] [] (hp c0 (26 + 5 * T.length) _ _) _
  refine Ex.nx rfl ?_
  refine Hx.get 0 rfl h.r0 rfl ?_
  refine Ex.nx rfl ?_
  refine Hx.callX 11 rfl rfl h.2.2.2.1 rfl rfl (wr_term h.2.2.2.1 hS hti (by omega) (h.2.2.2.2.2 i hi) hr hx hW) ?_
  rintro v hh ⟨rfl, F1, D1, rfl, hW1⟩
  obtain ⟨hc, hs⟩ := h.wr hW1
  exact Ex.ret rfl (ev_reti rfl) ⟨F1, z, rfl, hc, hs, by omega, rfl⟩
end
section
/-! The class's methods that change it. (rows laid by wip/whole/pb2.py) -/
section CCU
variable {c0 u u1 pl pl1 : Nat} {t t1 o : List Nat} {T : List Tm} {F F1 : Nat → Option va_E} {s p ft : Int32} {nu : Int64} {bd tl : List Nat} {x : Tm}
theorem CC.cr (h : CC c0 t T u o pl F) (hC : CR c0 F t s nu p bd tl ft (nI pl1) F1) : CC c0 t T u o pl1 F1 ∧ rsm F F1 := by
  obtain ⟨h1, -, h3, h4, ⟨d, hW⟩, h6⟩ := h
  have hq := hC.1
  exact ⟨⟨(hq 0 (by decide)).trans h1, ⟨s, nu, p, bd, tl, ft, fun _ _ => rfl, hC.2⟩, h3.fr (hq _ (by decide)) (hq _ (by decide)) (fun q q1 _ => hq q (by omega)), (hq 11 (by decide)).trans h4, ⟨d, fun _ _ => rfl, hW.2.1.fr (hq _ (by decide)) (hq _ (by decide)), hW.2.2.fr (hq _ (by decide)) (hq _ (by decide))⟩, h6⟩, fun k k1 k2 => hq k (by omega)⟩
theorem CC.tp (h : CC c0 t T u o pl F) (hr : rowL c0 F1 1 2 240 t1) (hj : ∀ j, j ≠ 1 → j ≠ 2 → F1 j = F j) : CC c0 t1 T u o pl F1 ∧ rsm F F1 := by
  obtain ⟨h1, ⟨s, nu, p, bd, tl, ft, hC⟩, h3, h4, ⟨d, hW⟩, h6⟩ := h
  refine ⟨⟨(hj 0 (by decide) (by decide)).trans h1, ⟨s, nu, p, bd, tl, ft, fun _ _ => rfl, hr, (hj 3 (by decide) (by decide)).trans hC.r3, hC.rb.fr (hj _ (by decide) (by decide)) (hj _ (by decide) (by decide)), hC.rl.fr (hj _ (by decide) (by decide)) (hj _ (by decide) (by decide)), (hj 8 (by decide) (by decide)).trans hC.r8⟩, h3.fr (hj _ (by decide) (by decide)) (hj _ (by decide) (by decide)) (fun q q1 _ => hj q (by omega) (by omega)), (hj 11 (by decide) (by decide)).trans h4, ⟨d, fun _ _ => rfl, hW.2.1.fr (hj _ (by decide) (by decide)) (hj _ (by decide) (by decide)), hW.2.2.fr (hj _ (by decide) (by decide)) (hj _ (by decide) (by decide))⟩, h6⟩, fun k k1 k2 => hj k (by omega) (by omega)⟩
theorem CC.kp (h : CC c0 t T u o pl F) (tb : tbl c0 F1 (T ++ [x]) u1) (hq : ∀ q, q < 26 → q ≠ 9 → q ≠ 10 → F1 q = F q) (hk : okT x) : CC c0 t (T ++ [x]) u1 o pl F1 ∧ rsm F F1 := by
  obtain ⟨h1, ⟨s, nu, p, bd, tl, ft, hC⟩, h3, h4, ⟨d, hW⟩, h6⟩ := h
  refine ⟨⟨(hq 0 (by decide) (by decide) (by decide)).trans h1, ⟨s, nu, p, bd, tl, ft, fun _ _ => rfl, hC.rt.fr (hq _ (by decide) (by decide) (by decide)) (hq _ (by decide) (by decide) (by decide)), (hq 3 (by decide) (by decide) (by decide)).trans hC.r3, hC.rb.fr (hq _ (by decide) (by decide) (by decide)) (hq _ (by decide) (by decide) (by decide)), hC.rl.fr (hq _ (by decide) (by decide) (by decide)) (hq _ (by decide) (by decide) (by decide)), (hq 8 (by decide) (by decide) (by decide)).trans hC.r8⟩, tb, (hq 11 (by decide) (by decide) (by decide)).trans h4, ⟨d, fun _ _ => rfl, hW.2.1.fr (hq _ (by decide) (by decide) (by decide)) (hq _ (by decide) (by decide) (by decide)), hW.2.2.fr (hq _ (by decide) (by decide) (by decide)) (hq _ (by decide) (by decide) (by decide))⟩, fun i hi => ?_⟩, fun k k1 k2 => hq k (by omega) (by omega) (by omega)⟩
  simp only [List.length_append, List.length_cons, List.length_nil] at hi
  rw [getD_tm hi]
  split
  · next q => exact h6 i q
  · exact hk
theorem CR.tm {pn : Nat} (hC : CR c0 F t s nu (nI pn) bd tl ft (nI pl) F1) (hp20 : pn ≤ 20) : trm c0 F1 3 64 60 (s, nu, pn, bd, tl) := ⟨hC.r3, hC.rb, hC.rl, by decide, by decide, hp20⟩
end CCU
/-- what a call that keeps x answers; the state behind it -/
def kP (c0 z : Nat) (F : Nat → Option va_E) (t : List Nat) (T : List Tm) (u : Nat) (o : List Nat) (pl : Nat) (x : Tm) (r : Option Value) (h' : ev_H) : Prop := (numT T x ≠ -2 ∧ cP c0 z F t T u o pl (.int (numT T x)) r h') ∨ (numT T x = -2 ∧ (2000 ≤ T.length ∨ 40000 < u + (x.2.2.2.1.length + x.2.2.2.2.length)) ∧ cP c0 z F t T u o pl (.int (-3)) r h') ∨ (numT T x = -2 ∧ T.length < 2000 ∧ u + (x.2.2.2.1.length + x.2.2.2.2.length) ≤ 40000 ∧ cP c0 z F t (T ++ [x]) (u + (x.2.2.2.1.length + x.2.2.2.2.length)) o pl (.int (nI (T.length + 1))) r h')
/-- keep, behind which the method ends -/
theorem kP_ret {X : ev_X} {c0 z u pl M pc nx a b w : Nat} {A : List Value} {F F1 : Nat → Option va_E} {t o : List Nat} {T : List Tm} {x : Tm} {v : Option Value} {h1 : ev_H} (op : pg_ops M pc = some (.ireturn, nx, a, b, w)) (hr : pg_r M = some .int) (h : CC c0 t T u o pl F1) (hs : rsm F F1) (hk : okT x) (hq : kpP c0 z F1 T u x v h1) : Ex X M pc A (v.toList ++ []) h1 (kP c0 z F t T u o pl x) := by
  rcases hq with ⟨q1, rfl, rfl⟩ | ⟨q1, q2, rfl, rfl⟩ | ⟨q1, q2, q3, rfl, F2, rfl, tb, hf⟩
  · exact Ex.ret op (ev_reti hr) (Or.inl ⟨q1, F1, z, rfl, h, hs, by omega, rfl⟩)
  · exact Ex.ret op (ev_reti hr) (Or.inr (Or.inl ⟨q1, q2, F1, z, rfl, h, hs, by omega, rfl⟩))
  · obtain ⟨c1, c2⟩ := h.kp tb hf hk
    have h64 := hk.1
    have h60 := hk.2.1
    exact Ex.ret op (ev_reti hr) (Or.inr (Or.inr ⟨q1, q2, q3, F2, _, rfl, c1, rsm.tr hs c2, by omega, rfl⟩))
theorem few_r {v : Int64} (h : few v = true) : ∃ r : Nat, r < 10 ^ 18 ∧ (v = lN r ∨ v = -lN r) := by
  obtain ⟨h1, h2⟩ := few_iff.mp h
  by_cases h0 : 0 ≤ v.toInt
  · obtain ⟨r, hr, e⟩ := lN_of (b := 10 ^ 18) h0 (by omega)
    exact ⟨r, hr, Or.inl e⟩
  · rcases i64_neg v with ⟨a, b⟩ | ⟨a, b⟩
    · omega
    · obtain ⟨r, hr, e⟩ := lN_of (x := -v) (b := 10 ^ 18) (by omega) (by omega)
      exact ⟨r, hr, Or.inr (by rw [← e, Int64.neg_neg])⟩
set_option maxRecDepth 100000 in
set_option maxHeartbeats 2000000 in
theorem q_whole {X : ev_X} {c0 z u pl : Nat} {t o : List Nat} {T : List Tm} {F : Nat → Option va_E} (h : CC c0 t T u o pl F) (v : Int64) : Ex X m_Tab_whole 0 [.ref (c0 + 0), .long v, ev_dead] [] (hp c0 (26 + 5 * T.length) z F) (if few v = true then kP c0 z F t T u o pl (3, v, 0, [], []) else cP c0 z F t T u o pl (.int (-1))) := by
  obtain ⟨s0, nu0, p0, bd0, tl0, ft, hC⟩ := h.2.1
  refine Ex.nx rfl ?_
  refine Hx.calls rfl rfl rfl rfl (sx_few X v) (fun v hv => ?_)
  subst hv
  show Ex X m_Tab_whole 4 [.ref (c0 + 0), .long v, ev_dead] [.int (bi (few v))] (hp c0 (26 + 5 * T.length) _ _) _
  refine Ex.nx rfl ?_
  refine Ex.ite (fun c1 => ?_) (fun c1 => ?_)
  · replace c1 : (few v) = true := bi_net c1
    rw [if_pos c1]
    show Ex X m_Tab_whole 9 [.ref (c0 + 0), .long v, ev_dead] [] (hp c0 (26 + 5 * T.length) _ _) _
    refine Ex.nx rfl ?_
    refine Hx.get 0 rfl h.r0 rfl ?_
    refine Ex.nx rfl ?_
    refine Ex.nx rfl ?_
    refine Ex.nx rfl ?_
    refine Hx.callX 3 rfl rfl hC.r3 rfl rfl (cr_become hC 3 v 0) ?_
    rintro v1 hh ⟨rfl, F1, rfl, hC1⟩
    obtain ⟨g, gs⟩ := h.cr hC1
    show Ex X m_Tab_whole 19 [.ref (c0 + 0), .long v, ev_dead] [] (hp c0 (26 + 5 * T.length) _ _) _
    refine Ex.nx rfl ?_
    refine Hx.get 0 rfl g.r0 rfl ?_
    refine Ex.nx rfl ?_
    refine Hx.get 0 rfl g.r0 rfl ?_
    refine Hx.callX 9 rfl rfl g.2.2.1.1 rfl rfl (tb_keep g.2.2.1 (CR.tm (pn := 0) hC1 (by omega))) ?_
    intro v2 h2 hq
    exact kP_ret rfl rfl g gs (⟨Nat.zero_le _, Nat.zero_le _, few_r c1, Nat.zero_le _, Or.inr (Or.inr (Or.inl rfl))⟩) hq
  · replace c1 : (few v) = false := bi_nef c1
    show Ex X m_Tab_whole 7 [.ref (c0 + 0), .long v, ev_dead] [] (hp c0 (26 + 5 * T.length) _ _) _
    refine Ex.nx rfl ?_
    exact Ex.ret rfl (ev_reti rfl) (by rw [if_neg (by rw [c1]; decide)]; exact h.same)
theorem lz_r : ∀ (p : Nat) (v : Int64) (r : Nat), r < 10 ^ 18 → (v = lN r ∨ v = -lN r) → ∃ r1, r1 < 10 ^ 18 ∧ ((lz p v).1 = lN r1 ∨ (lz p v).1 = -lN r1) := by
  intro p
  induction p with
  | zero => intro v r hr hv; exact ⟨r, hr, hv⟩
  | succ p ih =>
    intro v r hr hv
    rw [lz]
    split
    · refine ih (v / 10) (r / 10) (by omega) ?_
      rcases hv with rfl | rfl
      · exact Or.inl (pk_lDiv (b := 10) (by omega) (by decide) (by decide))
      · refine Or.inr (Int64.toInt_inj.mp ?_)
        have hb := lN_big (r := r) (by omega)
        have hb2 := lN_big (r := r / 10) (by omega)
        have e10 : (10 : Int64).toInt = 10 := rfl
        rcases i64_neg (lN r) with ⟨a, b⟩ | ⟨a, b⟩
        · omega
        rcases i64_neg (lN (r / 10)) with ⟨a2, b2⟩ | ⟨a2, b2⟩
        · omega
        rw [Int64.toInt_div, b, b2, hb, hb2, e10, Int.bmod_eq_of_le]
        · rw [Int.neg_tdiv]; simp
        · rw [Int.neg_tdiv]; simp; omega
        · rw [Int.neg_tdiv]; simp; omega
    · exact ⟨r, hr, hv⟩
set_option maxRecDepth 100000 in
set_option maxHeartbeats 2000000 in
theorem q_decimal {X : ev_X} {c0 z u pl : Nat} {t o : List Nat} {T : List Tm} {F : Nat → Option va_E} (h : CC c0 t T u o pl F) (v : Int64) (b : Int32) : Ex X m_Tab_decimal 0 [.ref (c0 + 0), .long v, ev_dead, .int b] [] (hp c0 (26 + 5 * T.length) z F) (if b < 0 then cP c0 z F t T u o pl (.int (-1)) else if 9 < b then cP c0 z F t T u o pl (.int (-1)) else if few v = true then kP c0 z F t T u o pl (4, (lz b.toNatClampNeg v).1, (lz b.toNatClampNeg v).2, [], []) else cP c0 z F t T u o pl (.int (-1))) := by
  obtain ⟨s0, nu0, p0, bd0, tl0, ft, hC⟩ := h.2.1
  refine Ex.nx rfl ?_
  refine Ex.nx rfl ?_
  refine Ex.ite (fun c1 => ?_) (fun c1 => ?_)
  · replace c1 : b < 0 := of_decide_eq_true c1
    show Ex X m_Tab_decimal 17 [.ref (c0 + 0), .long v, ev_dead, .int b] [] (hp c0 (26 + 5 * T.length) _ _) _
    refine Ex.nx rfl ?_
    exact Ex.ret rfl (ev_reti rfl) (by rw [if_pos c1]; exact h.same)
  · replace c1 : ¬ b < 0 := of_decide_eq_false c1
    show Ex X m_Tab_decimal 4 [.ref (c0 + 0), .long v, ev_dead, .int b] [] (hp c0 (26 + 5 * T.length) _ _) _
    refine Ex.nx rfl ?_
    refine Ex.nx rfl ?_
    refine Ex.nx rfl ?_
    refine Ex.ite (fun c2 => ?_) (fun c2 => ?_)
    · replace c2 : 9 < b := of_decide_eq_true c2
      show Ex X m_Tab_decimal 17 [.ref (c0 + 0), .long v, ev_dead, .int b] [] (hp c0 (26 + 5 * T.length) _ _) _
      refine Ex.nx rfl ?_
      exact Ex.ret rfl (ev_reti rfl) (by rw [if_neg c1, if_pos c2]; exact h.same)
    · replace c2 : ¬ 9 < b := of_decide_eq_false c2
      show Ex X m_Tab_decimal 10 [.ref (c0 + 0), .long v, ev_dead, .int b] [] (hp c0 (26 + 5 * T.length) _ _) _
      refine Ex.nx rfl ?_
      refine Hx.calls rfl rfl rfl rfl (sx_few X v) (fun v hv => ?_)
      subst hv
      show Ex X m_Tab_decimal 14 [.ref (c0 + 0), .long v, ev_dead, .int b] [.int (bi (few v))] (hp c0 (26 + 5 * T.length) _ _) _
      refine Ex.nx rfl ?_
      refine Ex.ite (fun c3 => ?_) (fun c3 => ?_)
      · replace c3 : (few v) = true := bi_net c3
        show Ex X m_Tab_decimal 19 [.ref (c0 + 0), .long v, ev_dead, .int b] [] (hp c0 (26 + 5 * T.length) _ _) _
        rw [if_neg c1, if_neg c2, if_pos c3]
        obtain ⟨p, hp9, rfl⟩ := nI_of2 (M := 9) (n := 9) rfl c1 (Int32.not_lt.mp c2)
        rw [nI_clamp (by omega)]
        refine Ex.nx rfl ?_
        refine Hx.get 0 rfl h.r0 rfl ?_
        refine Ex.nx rfl ?_
        refine Ex.nx rfl ?_
        refine Ex.nx rfl ?_
        refine Hx.callX 3 rfl rfl hC.r3 rfl rfl (cr_become hC 4 v (nI p)) ?_
        rintro v1 hh ⟨rfl, F1, rfl, hC1⟩
        obtain ⟨g, gs⟩ := h.cr hC1
        show Ex X m_Tab_decimal 29 [.ref (c0 + 0), .long v, ev_dead, .int (nI p)] [] (hp c0 (26 + 5 * T.length) _ _) _
        refine Ex.nx rfl ?_
        refine Hx.get 0 rfl g.r0 rfl ?_
        refine Hx.callX 3 rfl rfl hC1.r3 rfl rfl (cr_lz (pn := p) (by omega) hC1) ?_
        rintro v2 hh ⟨rfl, F2, rfl, hC2⟩
        obtain ⟨g2, gs2⟩ := h.cr hC2
        have hz := lz_le p v
        obtain ⟨r0, hr0, hv0⟩ := few_r c3
        show Ex X m_Tab_decimal 36 [.ref (c0 + 0), .long v, ev_dead, .int (nI p)] [] (hp c0 (26 + 5 * T.length) _ _) _
        refine Ex.nx rfl ?_
        refine Hx.get 0 rfl g2.r0 rfl ?_
        refine Ex.nx rfl ?_
        refine Hx.get 0 rfl g2.r0 rfl ?_
        refine Hx.callX 9 rfl rfl g2.2.2.1.1 rfl rfl (tb_keep g2.2.2.1 (CR.tm (pn := (lz p v).2) hC2 (by omega))) ?_
        intro v2 h2 hq
        exact kP_ret rfl rfl g2 gs2 (⟨by simp, by simp, lz_r p v r0 hr0 hv0, show (lz p v).2 ≤ 9 by omega, Or.inr (Or.inr (Or.inr (Or.inl rfl)))⟩) hq
      · replace c3 : (few v) = false := bi_nef c3
        show Ex X m_Tab_decimal 17 [.ref (c0 + 0), .long v, ev_dead, .int b] [] (hp c0 (26 + 5 * T.length) _ _) _
        refine Ex.nx rfl ?_
        exact Ex.ret rfl (ev_reti rfl) (by rw [if_neg c1, if_neg c2, if_neg (by rw [c3]; decide)]; exact h.same)
end
section
/-! type, read, find, part of the class. (rows laid by wip/whole/pb3.py) -/
def cbN (v : Int64) (m : Nat) : Nat := (v.toUInt64 >>> ((8 * nI m).toInt64.toUInt64 &&& Int64.toUInt64 63)).toInt64.toInt32.toBitVec.toNat % 2 ^ 8
theorem cb_N (v : Int64) (m : Nat) : cb v m = nI (cbN v m) := pk_and _ 8 (by decide)
theorem cbN_lt (v : Int64) (m : Nat) : cbN v m < 256 := Nat.mod_lt _ (by decide)
/-- the m low bytes of v, the highest first -/
def byl (v : Int64) : Nat → List Nat
  | 0 => []
  | m + 1 => cbN v m :: byl v m
theorem byl_len (v : Int64) : ∀ m, (byl v m).length = m := by
  intro m
  induction m with
  | zero => rfl
  | succ m ih => rw [byl, List.length_cons, ih]
set_option maxRecDepth 100000 in
set_option maxHeartbeats 2000000 in
theorem q_ty_l {X : ev_X} {c0 z u pl : Nat} {o : List Nat} {T : List Tm} (v : Int64) (N : Int32) : ∀ (m : Nat) (t : List Nat) (F : Nat → Option va_E) (hm : t.length + m ≤ 240) (h : CC c0 t T u o pl F), Ex X m_Tab_type 36 [.ref (c0 + 0), .long v, ev_dead, .int N, .int (nI m - 1)] [] (hp c0 (26 + 5 * T.length) z F) (cP c0 z F (t ++ byl v m) T u o pl (.int (nI (t ++ byl v m).length))) := by
  intro m
  induction m with
  | zero =>
    intro t F hm h
    show Ex X m_Tab_type 36 [.ref (c0 + 0), .long v, ev_dead, .int N, .int (-1)] [] _ _
    refine Ex.nx rfl ?_
    refine Ex.nx rfl ?_
    show Ex X m_Tab_type 66 [.ref (c0 + 0), .long v, ev_dead, .int N, .int (-1)] [] (hp c0 (26 + 5 * T.length) _ _) _
    refine Ex.nx rfl ?_
    refine Hx.get 0 rfl h.r0 rfl ?_
    obtain ⟨s0, nu0, p0, bd0, tl0, ft0, hC⟩ := h.2.1
    refine Hx.rowE hC.rt rfl rfl rfl rfl (rl_size hC.rt) ?_
    show Ex X m_Tab_type 73 [.ref (c0 + 0), .long v, ev_dead, .int N, .int (-1)] [.int (nI t.length)] (hp c0 (26 + 5 * T.length) _ _) _
    rw [byl, List.append_nil]
    exact Ex.ret rfl (ev_reti rfl) h.same
  | succ m ih =>
    intro t F hm h
    rw [nI_pred]
    refine Ex.nx rfl ?_
    refine Ex.nx rfl ?_
    refine Ex.ite (fun c1 => ?_) (fun c1 => ?_)
    · replace c1 : (nI m) < 0 := of_decide_eq_true c1
      exact absurd c1 (nI_pos (by omega))
    · replace c1 : ¬ (nI m) < 0 := of_decide_eq_false c1
      show Ex X m_Tab_type 41 [.ref (c0 + 0), .long v, ev_dead, .int N, .int (nI m)] [] (hp c0 (26 + 5 * T.length) _ _) _
      refine Ex.nx rfl ?_
      refine Hx.get 0 rfl h.r0 rfl ?_
      refine Ex.nx rfl ?_
      refine Ex.nx rfl ?_
      refine Ex.nx rfl ?_
      refine Ex.nx rfl ?_
      refine Ex.nx rfl ?_
      refine Ex.nx rfl ?_
      refine Ex.nx rfl ?_
      refine Ex.nx rfl ?_
      refine Hx.top (y := nI (cbN v m)) (cb_N v m) ?_
      obtain ⟨s0, nu0, p0, bd0, tl0, ft0, hC⟩ := h.2.1
      refine Hx.rowc hC.rt rfl rfl rfl rfl (rl_add hC.rt (by decide) (by decide) (cbN v m) (cbN_lt v m) (by omega)) ?_
      rintro v1 hh ⟨rfl, F1, rfl, r1, r2⟩
      obtain ⟨g, gs⟩ := h.tp r1 r2
      show Ex X m_Tab_type 60 [.ref (c0 + 0), .long v, ev_dead, .int N, .int (nI m)] [] (hp c0 (26 + 5 * T.length) _ _) _
      refine Ex.nx rfl ?_
      show Ex X m_Tab_type 63 [.ref (c0 + 0), .long v, ev_dead, .int N, .int ((nI m) + (-1))] [] (hp c0 (26 + 5 * T.length) _ _) _
      refine Ex.nx rfl ?_
      show Ex X m_Tab_type 36 [.ref (c0 + 0), .long v, ev_dead, .int N, .int ((nI m) + (-1))] [] (hp c0 (26 + 5 * T.length) _ _) _
      rw [show nI m + (-1) = nI m - 1 from (Int32.sub_eq_add_neg _ _).symm]
      refine (ih (t ++ [cbN v m]) F1 (by simp only [List.length_append, List.length_cons, List.length_nil]; omega) g).mono ?_
      rintro r h' ⟨F2, z2, e1, e2, e3, e4, e5⟩
      exact ⟨F2, z2, e1, by rw [byl, show t ++ (cbN v m :: byl v m) = t ++ [cbN v m] ++ byl v m by simp]; exact e2, rsm.tr gs e3, e4, by rw [e5, byl, show t ++ (cbN v m :: byl v m) = t ++ [cbN v m] ++ byl v m by simp]⟩
set_option maxRecDepth 100000 in
set_option maxHeartbeats 2000000 in
theorem q_type {X : ev_X} {c0 z u pl : Nat} {t o : List Nat} {T : List Tm} {F : Nat → Option va_E} (h : CC c0 t T u o pl F) (v : Int64) (b : Int32) : Ex X m_Tab_type 0 [.ref (c0 + 0), .long v, ev_dead, .int b, ev_dead] [] (hp c0 (26 + 5 * T.length) z F) (if b < 1 then cP c0 z F t T u o pl (.int (-1)) else if b ≤ 8 then (if nI t.length + b ≤ 240 then cP c0 z F (t ++ byl v b.toNatClampNeg) T u o pl (.int (nI (t ++ byl v b.toNatClampNeg).length)) else cP c0 z F t T u o pl (.int (-3))) else cP c0 z F t T u o pl (.int (-1))) := by
  have hl : t.length ≤ 240 := by obtain ⟨s0, nu0, p0, bd0, tl0, ft0, hC⟩ := h.2.1; exact hC.rt.le
  refine Ex.nx rfl ?_
  refine Ex.nx rfl ?_
  refine Ex.nx rfl ?_
  refine Ex.ite (fun c1 => ?_) (fun c1 => ?_)
  · replace c1 : b < 1 := of_decide_eq_true c1
    show Ex X m_Tab_type 11 [.ref (c0 + 0), .long v, ev_dead, .int b, ev_dead] [] (hp c0 (26 + 5 * T.length) _ _) _
    refine Ex.nx rfl ?_
    exact Ex.ret rfl (ev_reti rfl) (by rw [if_pos c1]; exact h.same)
  · replace c1 : ¬ b < 1 := of_decide_eq_false c1
    show Ex X m_Tab_type 5 [.ref (c0 + 0), .long v, ev_dead, .int b, ev_dead] [] (hp c0 (26 + 5 * T.length) _ _) _
    refine Ex.nx rfl ?_
    refine Ex.nx rfl ?_
    refine Ex.nx rfl ?_
    refine Ex.ite (fun c2 => ?_) (fun c2 => ?_)
    · replace c2 : b ≤ 8 := of_decide_eq_true c2
      show Ex X m_Tab_type 13 [.ref (c0 + 0), .long v, ev_dead, .int b, ev_dead] [] (hp c0 (26 + 5 * T.length) _ _) _
      refine Ex.nx rfl ?_
      refine Hx.get 0 rfl h.r0 rfl ?_
      obtain ⟨s0, nu0, p0, bd0, tl0, ft0, hC⟩ := h.2.1
      refine Hx.rowE hC.rt rfl rfl rfl rfl (rl_size hC.rt) ?_
      show Ex X m_Tab_type 20 [.ref (c0 + 0), .long v, ev_dead, .int b, ev_dead] [.int (nI t.length)] (hp c0 (26 + 5 * T.length) _ _) _
      refine Ex.nx rfl ?_
      refine Ex.nx rfl ?_
      refine Ex.nx rfl ?_
      refine Ex.nx rfl ?_
      refine Ex.ite (fun c3 => ?_) (fun c3 => ?_)
      · replace c3 : ((nI t.length) + b) ≤ 240 := of_decide_eq_true c3
        show Ex X m_Tab_type 31 [.ref (c0 + 0), .long v, ev_dead, .int b, ev_dead] [] (hp c0 (26 + 5 * T.length) _ _) _
        refine Ex.nx rfl ?_
        refine Ex.nx rfl ?_
        refine Ex.nx rfl ?_
        refine Ex.nx rfl ?_
        show Ex X m_Tab_type 36 [.ref (c0 + 0), .long v, ev_dead, .int b, .int (b - 1)] [] (hp c0 (26 + 5 * T.length) _ _) _
        show Ex X m_Tab_type 36 [.ref (c0 + 0), .long v, ev_dead, .int b, .int (b - 1)] [] (hp c0 (26 + 5 * T.length) _ _) _
        rw [if_neg c1, if_pos c2, if_pos c3]
        obtain ⟨m, hm, rfl⟩ := i32_81 c1 c2
        rw [nI_clamp (by omega)]
        exact q_ty_l v (nI m) m t F ((nI_leI (b := 240) (by omega) (by decide)).mp (by rw [← nI_add]; exact c3)) h
      · replace c3 : ¬ ((nI t.length) + b) ≤ 240 := of_decide_eq_false c3
        show Ex X m_Tab_type 28 [.ref (c0 + 0), .long v, ev_dead, .int b, ev_dead] [] (hp c0 (26 + 5 * T.length) _ _) _
        refine Ex.nx rfl ?_
        exact Ex.ret rfl (ev_reti rfl) (by rw [if_neg c1, if_pos c2, if_neg c3]; exact h.same)
    · replace c2 : ¬ b ≤ 8 := of_decide_eq_false c2
      show Ex X m_Tab_type 11 [.ref (c0 + 0), .long v, ev_dead, .int b, ev_dead] [] (hp c0 (26 + 5 * T.length) _ _) _
      refine Ex.nx rfl ?_
      exact Ex.ret rfl (ev_reti rfl) (by rw [if_neg c1, if_neg c2]; exact h.same)
/-- the answer of read: a fault at its place, or what keep answers -/
def rdP (c0 z : Nat) (F : Nat → Option va_E) (t : List Nat) (T : List Tm) (u : Nat) (o : List Nat) (r : Option Value) (h' : ev_H) : Prop := if (sAll t).1 = true then kP c0 z F [] T u o t.length (sAll t).2.2 r h' else ∃ v, cP c0 z F [] T u o (sAll t).2.1 (.int v) r h'
def fiP (c0 z : Nat) (F : Nat → Option va_E) (t : List Nat) (T : List Tm) (u : Nat) (o : List Nat) (r : Option Value) (h' : ev_H) : Prop := if (sAll t).1 = true then cP c0 z F [] T u o t.length (.int (numT T (sAll t).2.2)) r h' else ∃ v, cP c0 z F [] T u o (sAll t).2.1 (.int v) r h'
set_option maxRecDepth 100000 in
set_option maxHeartbeats 2000000 in
theorem q_read {X : ev_X} {c0 z u pl : Nat} {t o : List Nat} {T : List Tm} {F : Nat → Option va_E} (h : CC c0 t T u o pl F) (hS : XS X c0) (hok : (sAll t).1 = true → okT (sAll t).2.2) : Ex X m_Tab_read 0 [.ref (c0 + 0), ev_dead] [] (hp c0 (26 + 5 * T.length) z F) (rdP c0 z F t T u o) := by
  obtain ⟨s0, nu0, p0, bd0, tl0, ft, hC⟩ := h.2.1
  refine Ex.nx rfl ?_
  refine Hx.get 0 rfl h.r0 rfl ?_
  refine Ex.nx rfl ?_
  refine Hx.get 0 rfl h.r0 rfl ?_
  refine Hx.callX 8 rfl rfl hC.r8 rfl rfl (cr_term hS hC) ?_
  unfold rdP
  generalize sAll t = oo at hok ⊢
  obtain ⟨b, y, x⟩ := oo
  cases b
  · rintro v1 h1 ⟨ft1, hft, rfl, F1, rfl, s1, nu1, p1, bd1, tl1, hC1⟩
    obtain ⟨g, gs⟩ := h.cr hC1
    show Ex X m_Tab_read 11 [.ref (c0 + 0), ev_dead] [.int ft1] (hp c0 (26 + 5 * T.length) _ _) _
    refine Ex.nx rfl ?_
    show Ex X m_Tab_read 12 [.ref (c0 + 0), .int ft1] [] (hp c0 (26 + 5 * T.length) _ _) _
    refine Ex.nx rfl ?_
    refine Hx.get 0 rfl g.r0 rfl ?_
    refine Hx.rowc hC1.rt rfl rfl rfl rfl (rl_clear hC1.rt (by decide)) ?_
    rintro v2 h2 ⟨rfl, F2, rfl, r1, r2⟩
    obtain ⟨g2, gs2⟩ := g.tp r1 r2
    show Ex X m_Tab_read 19 [.ref (c0 + 0), .int ft1] [] (hp c0 (26 + 5 * T.length) _ _) _
    refine Ex.nx rfl ?_
    refine Ex.nx rfl ?_
    refine Ex.ite (fun c1 => ?_) (fun c1 => ?_)
    · replace c1 : ¬ ft1 = 0 := of_decide_eq_true c1
      show Ex X m_Tab_read 37 [.ref (c0 + 0), .int ft1] [] (hp c0 (26 + 5 * T.length) _ _) _
      refine Ex.nx rfl ?_
      refine Ex.nx rfl ?_
      refine Ex.nx rfl ?_
      exact Ex.ret rfl (ev_reti rfl) (by show (if false = true then _ else _); rw [if_neg Bool.false_ne_true]; exact ⟨_, F2, z, rfl, g2, rsm.tr gs gs2, by omega, rfl⟩)
    · replace c1 : ft1 = 0 := Classical.not_not.mp (of_decide_eq_false c1)
      exact absurd c1 hft
  rintro v1 h1 ⟨rfl, F1, rfl, hC1⟩
  dsimp only at hC1
  obtain ⟨g, gs⟩ := h.cr hC1
  have hk := hok rfl
  dsimp only at hk
  show Ex X m_Tab_read 11 [.ref (c0 + 0), ev_dead] [.int 0] (hp c0 (26 + 5 * T.length) _ _) _
  refine Ex.nx rfl ?_
  show Ex X m_Tab_read 12 [.ref (c0 + 0), .int 0] [] (hp c0 (26 + 5 * T.length) _ _) _
  refine Ex.nx rfl ?_
  refine Hx.get 0 rfl g.r0 rfl ?_
  refine Hx.rowc hC1.rt rfl rfl rfl rfl (rl_clear hC1.rt (by decide)) ?_
  rintro v2 h2 ⟨rfl, F2, rfl, r1, r2⟩
  obtain ⟨g2, gs2⟩ := g.tp r1 r2
  show Ex X m_Tab_read 19 [.ref (c0 + 0), .int 0] [] (hp c0 (26 + 5 * T.length) _ _) _
  refine Ex.nx rfl ?_
  refine Ex.nx rfl ?_
  show Ex X m_Tab_read 23 [.ref (c0 + 0), .int 0] [] (hp c0 (26 + 5 * T.length) _ _) _
  refine Ex.nx rfl ?_
  refine Hx.get 0 rfl g2.r0 rfl ?_
  refine Ex.nx rfl ?_
  refine Hx.get 0 rfl g2.r0 rfl ?_
  have ht : trm c0 F2 3 64 60 (x.1, x.2.1, x.2.2.1, x.2.2.2.1, x.2.2.2.2) := (CR.tm hC1 (by have := hk.2.2.2.1; omega)).fr (fun q q1 q2 => r2 q (by omega) (by omega))
  refine Hx.callX 9 rfl rfl g2.2.2.1.1 rfl rfl (tb_keep g2.2.2.1 ht) ?_
  intro v3 h3 hq
  refine Ex.nx rfl ?_
  exact (kP_ret rfl rfl g2 (rsm.tr gs gs2) hk hq).mono (fun r h' q => by show (if true = true then _ else _); rw [if_pos rfl]; exact q)
set_option maxRecDepth 100000 in
set_option maxHeartbeats 2000000 in
theorem q_find {X : ev_X} {c0 z u pl : Nat} {t o : List Nat} {T : List Tm} {F : Nat → Option va_E} (h : CC c0 t T u o pl F) (hS : XS X c0) (hok : (sAll t).1 = true → okT (sAll t).2.2) : Ex X m_Tab_find 0 [.ref (c0 + 0), ev_dead] [] (hp c0 (26 + 5 * T.length) z F) (fiP c0 z F t T u o) := by
  obtain ⟨s0, nu0, p0, bd0, tl0, ft, hC⟩ := h.2.1
  refine Ex.nx rfl ?_
  refine Hx.get 0 rfl h.r0 rfl ?_
  refine Ex.nx rfl ?_
  refine Hx.get 0 rfl h.r0 rfl ?_
  refine Hx.callX 8 rfl rfl hC.r8 rfl rfl (cr_term hS hC) ?_
  unfold fiP
  generalize sAll t = oo at hok ⊢
  obtain ⟨b, y, x⟩ := oo
  cases b
  · rintro v1 h1 ⟨ft1, hft, rfl, F1, rfl, s1, nu1, p1, bd1, tl1, hC1⟩
    obtain ⟨g, gs⟩ := h.cr hC1
    show Ex X m_Tab_find 11 [.ref (c0 + 0), ev_dead] [.int ft1] (hp c0 (26 + 5 * T.length) _ _) _
    refine Ex.nx rfl ?_
    show Ex X m_Tab_find 12 [.ref (c0 + 0), .int ft1] [] (hp c0 (26 + 5 * T.length) _ _) _
    refine Ex.nx rfl ?_
    refine Hx.get 0 rfl g.r0 rfl ?_
    refine Hx.rowc hC1.rt rfl rfl rfl rfl (rl_clear hC1.rt (by decide)) ?_
    rintro v2 h2 ⟨rfl, F2, rfl, r1, r2⟩
    obtain ⟨g2, gs2⟩ := g.tp r1 r2
    show Ex X m_Tab_find 19 [.ref (c0 + 0), .int ft1] [] (hp c0 (26 + 5 * T.length) _ _) _
    refine Ex.nx rfl ?_
    refine Ex.nx rfl ?_
    refine Ex.ite (fun c1 => ?_) (fun c1 => ?_)
    · replace c1 : ¬ ft1 = 0 := of_decide_eq_true c1
      show Ex X m_Tab_find 37 [.ref (c0 + 0), .int ft1] [] (hp c0 (26 + 5 * T.length) _ _) _
      refine Ex.nx rfl ?_
      refine Ex.nx rfl ?_
      refine Ex.nx rfl ?_
      exact Ex.ret rfl (ev_reti rfl) (by show (if false = true then _ else _); rw [if_neg Bool.false_ne_true]; exact ⟨_, F2, z, rfl, g2, rsm.tr gs gs2, by omega, rfl⟩)
    · replace c1 : ft1 = 0 := Classical.not_not.mp (of_decide_eq_false c1)
      exact absurd c1 hft
  rintro v1 h1 ⟨rfl, F1, rfl, hC1⟩
  dsimp only at hC1
  obtain ⟨g, gs⟩ := h.cr hC1
  have hk := hok rfl
  dsimp only at hk
  show Ex X m_Tab_find 11 [.ref (c0 + 0), ev_dead] [.int 0] (hp c0 (26 + 5 * T.length) _ _) _
  refine Ex.nx rfl ?_
  show Ex X m_Tab_find 12 [.ref (c0 + 0), .int 0] [] (hp c0 (26 + 5 * T.length) _ _) _
  refine Ex.nx rfl ?_
  refine Hx.get 0 rfl g.r0 rfl ?_
  refine Hx.rowc hC1.rt rfl rfl rfl rfl (rl_clear hC1.rt (by decide)) ?_
  rintro v2 h2 ⟨rfl, F2, rfl, r1, r2⟩
  obtain ⟨g2, gs2⟩ := g.tp r1 r2
  show Ex X m_Tab_find 19 [.ref (c0 + 0), .int 0] [] (hp c0 (26 + 5 * T.length) _ _) _
  refine Ex.nx rfl ?_
  refine Ex.nx rfl ?_
  show Ex X m_Tab_find 23 [.ref (c0 + 0), .int 0] [] (hp c0 (26 + 5 * T.length) _ _) _
  refine Ex.nx rfl ?_
  refine Hx.get 0 rfl g2.r0 rfl ?_
  refine Ex.nx rfl ?_
  refine Hx.get 0 rfl g2.r0 rfl ?_
  have ht : trm c0 F2 3 64 60 (x.1, x.2.1, x.2.2.1, x.2.2.2.1, x.2.2.2.2) := (CR.tm hC1 (by have := hk.2.2.2.1; omega)).fr (fun q q1 q2 => r2 q (by omega) (by omega))
  refine Hx.call 9 rfl rfl g2.2.2.1.1 rfl rfl (tb_num g2.2.2.1 ht) ?_
  refine Ex.nx rfl ?_
  exact Ex.ret rfl (ev_reti rfl) (by show (if true = true then _ else _); rw [if_pos rfl]; exact ⟨F2, z, rfl, g2, rsm.tr gs gs2, by omega, rfl⟩)
set_option maxRecDepth 100000 in
set_option maxHeartbeats 2000000 in
theorem q_kb {X : ev_X} {c0 z u pl : Nat} {t o : List Nat} {T : List Tm} {F : Nat → Option va_E} (h : CC c0 t T u o pl F) {j ja N : Nat} {m : List Nat} {kd : Int32} (gm : rowL c0 F j ja N m) (hN : N ≤ 1000) (hj : j < 3 ∨ 8 < j) (hja : ja < 3 ∨ 8 < ja) (hm : m.length ≤ 64) (hkd : kd = 1 ∨ kd = 2 ∨ kd = 3 ∨ kd = 4 ∨ kd = 5 ∨ kd = 6 ∨ kd = 7 ∨ kd = 8) : Ex X m_Tab_keepBytes 0 [.ref (c0 + 0), .int kd, .ref (c0 + j)] [] (hp c0 (26 + 5 * T.length) z F) (kP c0 z F t T u o pl (kd, 0, 0, m, [])) := by
  obtain ⟨s0, nu0, p0, bd0, tl0, ft, hC⟩ := h.2.1
  refine Ex.nx rfl ?_
  refine Hx.get 0 rfl h.r0 rfl ?_
  refine Ex.nx rfl ?_
  refine Ex.nx rfl ?_
  refine Ex.nx rfl ?_
  refine Hx.callX 3 rfl rfl hC.r3 rfl rfl (cr_become hC kd 0 0) ?_
  rintro v1 hh ⟨rfl, F1, rfl, hC1⟩
  obtain ⟨g, gs⟩ := h.cr hC1
  show Ex X m_Tab_keepBytes 10 [.ref (c0 + 0), .int kd, .ref (c0 + j)] [] (hp c0 (26 + 5 * T.length) _ _) _
  refine Ex.nx rfl ?_
  refine Hx.get 0 rfl g.r0 rfl ?_
  refine Hx.get 3 rfl hC1.r3 rfl ?_
  refine Ex.nx rfl ?_
  have gj := gm.fr (hC1.1 _ hj) (hC1.1 _ hja)
  refine Hx.rowc hC1.rb rfl rfl rfl rfl (rl_addAll (by decide) hN (by decide) (by omega) (by omega) (by omega) (by omega) (by simp; omega) hC1.rb gj) ?_
  rintro v2 hh ⟨rfl, F2, rfl, r1, r2⟩
  have hC2 := hC1.ub r1 r2
  obtain ⟨g2, gs2⟩ := h.cr hC2
  show Ex X m_Tab_keepBytes 21 [.ref (c0 + 0), .int kd, .ref (c0 + j)] [] (hp c0 (26 + 5 * T.length) _ _) _
  refine Ex.nx rfl ?_
  refine Hx.get 0 rfl g2.r0 rfl ?_
  refine Ex.nx rfl ?_
  refine Hx.get 0 rfl g2.r0 rfl ?_
  refine Hx.callX 9 rfl rfl g2.2.2.1.1 rfl rfl (tb_keep g2.2.2.1 (CR.tm (pn := 0) hC2 (by decide))) ?_
  intro v3 h3 hq
  exact kP_ret rfl rfl g2 gs2 ⟨by simpa using hm, Nat.zero_le _, ⟨0, by decide, Or.inl rfl⟩, Nat.zero_le _, hkd⟩ (by simpa using hq)
def ptX (x : Tm) (b : Int32) : Option Tm := if b = 0 ∧ (x.1 = 5 ∨ x.1 = 6 ∨ x.1 = 7) then some (5, 0, 0, x.2.2.2.1, []) else if b = 1 ∧ x.1 = 6 then some (5, 0, 0, x.2.2.2.2, []) else if b = 2 ∧ x.1 = 7 then some (2, 0, 0, x.2.2.2.2, []) else none
def ptP (c0 z : Nat) (F : Nat → Option va_E) (t : List Nat) (T : List Tm) (u : Nat) (o : List Nat) (pl : Nat) (y : Option Tm) (r : Option Value) (h' : ev_H) : Prop := match y with
  | some x => kP c0 z F t T u o pl x r h'
  | none => cP c0 z F t T u o pl (.int (-2)) r h'
theorem kP_tl {X : ev_X} {c0 z u pl M pc nx a b w : Nat} {A : List Value} {F : Nat → Option va_E} {t o : List Nat} {T : List Tm} {x : Tm} {y : Option Tm} {v : Option Value} {h1 : ev_H} (op : pg_ops M pc = some (.ireturn, nx, a, b, w)) (hr : pg_r M = some .int) (e : y = some x) (hq : kP c0 z F t T u o pl x v h1) : Ex X M pc A (v.toList ++ []) h1 (ptP c0 z F t T u o pl y) := by
  subst e
  have hv : ∃ i : Int32, v = some (.int i) := by
    rcases hq with ⟨_, _, _, _, _, _, _, e⟩ | ⟨_, _, _, _, _, _, _, _, e⟩ | ⟨_, _, _, _, _, _, _, _, _, e⟩ <;> exact ⟨_, e⟩
  obtain ⟨i, rfl⟩ := hv
  exact Ex.ret op (ev_reti hr) hq
set_option maxRecDepth 100000 in
set_option maxHeartbeats 2000000 in
theorem q_part_in {X : ev_X} {c0 z u pl : Nat} {t o : List Nat} {T : List Tm} {F : Nat → Option va_E} (h : CC c0 t T u o pl F) {i : Nat} (hi : i < T.length) (b : Int32) : Ex X m_Tab_part 0 [.ref (c0 + 0), .int (nI (i + 1)), .int b, ev_dead] [] (hp c0 (26 + 5 * T.length) z F) (ptP c0 z F t T u o pl (ptX (T.getD i tm0) b)) := by
  obtain ⟨M1, M2, hti⟩ := h.2.2.1.2.2.2.2 i hi
  have hk64 := (h.2.2.2.2.2 i hi).1
  have hk60 := (h.2.2.2.2.2 i hi).2.1
  refine Ex.nx rfl ?_
  refine Hx.get 0 rfl h.r0 rfl ?_
  refine Ex.nx rfl ?_
  refine Hx.call 9 rfl rfl h.2.2.1.1 rfl rfl (tb_get h.2.2.1 (i := i) hi) ?_
  show Ex X m_Tab_part 8 [.ref (c0 + 0), .int (nI (i + 1)), .int b, ev_dead] [.ref (c0 + (26 + 5 * i))] (hp c0 (26 + 5 * T.length) _ _) _
  refine Ex.nx rfl ?_
  show Ex X m_Tab_part 9 [.ref (c0 + 0), .int (nI (i + 1)), .int b, .ref (c0 + (26 + 5 * i))] [] (hp c0 (26 + 5 * T.length) _ _) _
  refine Ex.nx rfl ?_
  refine Ex.nx rfl ?_
  show Ex X m_Tab_part 15 [.ref (c0 + 0), .int (nI (i + 1)), .int b, .ref (c0 + (26 + 5 * i))] [] (hp c0 (26 + 5 * T.length) _ _) _
  refine Ex.nx rfl ?_
  refine Ex.nx rfl ?_
  refine Ex.ite (fun c1 => ?_) (fun c1 => ?_)
  · replace c1 : ¬ b = 0 := of_decide_eq_true c1
    show Ex X m_Tab_part 55 [.ref (c0 + 0), .int (nI (i + 1)), .int b, .ref (c0 + (26 + 5 * i))] [] (hp c0 (26 + 5 * T.length) _ _) _
    refine Ex.nx rfl ?_
    refine Ex.nx rfl ?_
    refine Ex.nx rfl ?_
    refine Ex.ite (fun c2 => ?_) (fun c2 => ?_)
    · replace c2 : ¬ b = 1 := of_decide_eq_true c2
      show Ex X m_Tab_part 79 [.ref (c0 + 0), .int (nI (i + 1)), .int b, .ref (c0 + (26 + 5 * i))] [] (hp c0 (26 + 5 * T.length) _ _) _
      refine Ex.nx rfl ?_
      refine Ex.nx rfl ?_
      refine Ex.nx rfl ?_
      refine Ex.ite (fun c3 => ?_) (fun c3 => ?_)
      · replace c3 : ¬ b = 2 := of_decide_eq_true c3
        show Ex X m_Tab_part 103 [.ref (c0 + 0), .int (nI (i + 1)), .int b, .ref (c0 + (26 + 5 * i))] [] (hp c0 (26 + 5 * T.length) _ _) _
        refine Ex.nx rfl ?_
        exact Ex.ret rfl (ev_reti rfl) (by rw [show ptX (T.getD i tm0) b = none by simp_all [-List.getD_eq_getElem?_getD, ptX]]; exact h.same)
      · replace c3 : b = 2 := Classical.not_not.mp (of_decide_eq_false c3)
        show Ex X m_Tab_part 84 [.ref (c0 + 0), .int (nI (i + 1)), .int b, .ref (c0 + (26 + 5 * i))] [] (hp c0 (26 + 5 * T.length) _ _) _
        refine Ex.nx rfl ?_
        refine Hx.get (26 + 5 * i) rfl hti.1 rfl ?_
        refine Ex.nx rfl ?_
        refine Ex.nx rfl ?_
        refine Ex.ite (fun c4 => ?_) (fun c4 => ?_)
        · replace c4 : ¬ ((T.getD i tm0).1) = 7 := of_decide_eq_true c4
          show Ex X m_Tab_part 103 [.ref (c0 + 0), .int (nI (i + 1)), .int b, .ref (c0 + (26 + 5 * i))] [] (hp c0 (26 + 5 * T.length) _ _) _
          refine Ex.nx rfl ?_
          exact Ex.ret rfl (ev_reti rfl) (by rw [show ptX (T.getD i tm0) b = none by simp_all [-List.getD_eq_getElem?_getD, ptX]]; exact h.same)
        · replace c4 : ((T.getD i tm0).1) = 7 := Classical.not_not.mp (of_decide_eq_false c4)
          show Ex X m_Tab_part 93 [.ref (c0 + 0), .int (nI (i + 1)), .int b, .ref (c0 + (26 + 5 * i))] [] (hp c0 (26 + 5 * T.length) _ _) _
          refine Ex.nx rfl ?_
          refine Ex.nx rfl ?_
          refine Ex.nx rfl ?_
          refine Hx.get (26 + 5 * i) rfl hti.1 rfl ?_
          refine Hx.callX 0 rfl rfl h.r0 rfl rfl (q_kb h (kd := 2) hti.2.2.1 hti.2.2.2.2.1 (by omega) (by omega) (by omega) (Or.inr (Or.inl rfl))) ?_
          intro v1 h1 hq
          exact kP_tl rfl rfl (by first | (simp [-List.getD_eq_getElem?_getD, ptX, c1, c2, c3, c4]; done) | (exfalso; clear hq; simp_all [-List.getD_eq_getElem?_getD]; done)) hq
    · replace c2 : b = 1 := Classical.not_not.mp (of_decide_eq_false c2)
      show Ex X m_Tab_part 60 [.ref (c0 + 0), .int (nI (i + 1)), .int b, .ref (c0 + (26 + 5 * i))] [] (hp c0 (26 + 5 * T.length) _ _) _
      refine Ex.nx rfl ?_
      refine Hx.get (26 + 5 * i) rfl hti.1 rfl ?_
      refine Ex.nx rfl ?_
      refine Ex.nx rfl ?_
      refine Ex.ite (fun c5 => ?_) (fun c5 => ?_)
      · replace c5 : ¬ ((T.getD i tm0).1) = 6 := of_decide_eq_true c5
        show Ex X m_Tab_part 79 [.ref (c0 + 0), .int (nI (i + 1)), .int b, .ref (c0 + (26 + 5 * i))] [] (hp c0 (26 + 5 * T.length) _ _) _
        refine Ex.nx rfl ?_
        refine Ex.nx rfl ?_
        refine Ex.nx rfl ?_
        refine Ex.ite (fun c6 => ?_) (fun c6 => ?_)
        · replace c6 : ¬ b = 2 := of_decide_eq_true c6
          show Ex X m_Tab_part 103 [.ref (c0 + 0), .int (nI (i + 1)), .int b, .ref (c0 + (26 + 5 * i))] [] (hp c0 (26 + 5 * T.length) _ _) _
          refine Ex.nx rfl ?_
          exact Ex.ret rfl (ev_reti rfl) (by rw [show ptX (T.getD i tm0) b = none by simp_all [-List.getD_eq_getElem?_getD, ptX]]; exact h.same)
        · replace c6 : b = 2 := Classical.not_not.mp (of_decide_eq_false c6)
          show Ex X m_Tab_part 84 [.ref (c0 + 0), .int (nI (i + 1)), .int b, .ref (c0 + (26 + 5 * i))] [] (hp c0 (26 + 5 * T.length) _ _) _
          refine Ex.nx rfl ?_
          refine Hx.get (26 + 5 * i) rfl hti.1 rfl ?_
          refine Ex.nx rfl ?_
          refine Ex.nx rfl ?_
          refine Ex.ite (fun c7 => ?_) (fun c7 => ?_)
          · replace c7 : ¬ ((T.getD i tm0).1) = 7 := of_decide_eq_true c7
            show Ex X m_Tab_part 103 [.ref (c0 + 0), .int (nI (i + 1)), .int b, .ref (c0 + (26 + 5 * i))] [] (hp c0 (26 + 5 * T.length) _ _) _
            refine Ex.nx rfl ?_
            exact Ex.ret rfl (ev_reti rfl) (by rw [show ptX (T.getD i tm0) b = none by simp_all [-List.getD_eq_getElem?_getD, ptX]]; exact h.same)
          · replace c7 : ((T.getD i tm0).1) = 7 := Classical.not_not.mp (of_decide_eq_false c7)
            show Ex X m_Tab_part 93 [.ref (c0 + 0), .int (nI (i + 1)), .int b, .ref (c0 + (26 + 5 * i))] [] (hp c0 (26 + 5 * T.length) _ _) _
            refine Ex.nx rfl ?_
            refine Ex.nx rfl ?_
            refine Ex.nx rfl ?_
            refine Hx.get (26 + 5 * i) rfl hti.1 rfl ?_
            refine Hx.callX 0 rfl rfl h.r0 rfl rfl (q_kb h (kd := 2) hti.2.2.1 hti.2.2.2.2.1 (by omega) (by omega) (by omega) (Or.inr (Or.inl rfl))) ?_
            intro v1 h1 hq
            exact kP_tl rfl rfl (by first | (simp [-List.getD_eq_getElem?_getD, ptX, c1, c2, c5, c6, c7]; done) | (exfalso; clear hq; simp_all [-List.getD_eq_getElem?_getD]; done)) hq
      · replace c5 : ((T.getD i tm0).1) = 6 := Classical.not_not.mp (of_decide_eq_false c5)
        show Ex X m_Tab_part 69 [.ref (c0 + 0), .int (nI (i + 1)), .int b, .ref (c0 + (26 + 5 * i))] [] (hp c0 (26 + 5 * T.length) _ _) _
        refine Ex.nx rfl ?_
        refine Ex.nx rfl ?_
        refine Ex.nx rfl ?_
        refine Hx.get (26 + 5 * i) rfl hti.1 rfl ?_
        refine Hx.callX 0 rfl rfl h.r0 rfl rfl (q_kb h (kd := 5) hti.2.2.1 hti.2.2.2.2.1 (by omega) (by omega) (by omega) (Or.inr (Or.inr (Or.inr (Or.inr (Or.inl rfl)))))) ?_
        intro v1 h1 hq
        exact kP_tl rfl rfl (by first | (simp [-List.getD_eq_getElem?_getD, ptX, c1, c2, c5]; done) | (exfalso; clear hq; simp_all [-List.getD_eq_getElem?_getD]; done)) hq
  · replace c1 : b = 0 := Classical.not_not.mp (of_decide_eq_false c1)
    show Ex X m_Tab_part 19 [.ref (c0 + 0), .int (nI (i + 1)), .int b, .ref (c0 + (26 + 5 * i))] [] (hp c0 (26 + 5 * T.length) _ _) _
    refine Ex.nx rfl ?_
    refine Hx.get (26 + 5 * i) rfl hti.1 rfl ?_
    refine Ex.nx rfl ?_
    refine Ex.nx rfl ?_
    refine Ex.ite (fun c8 => ?_) (fun c8 => ?_)
    · replace c8 : ((T.getD i tm0).1) = 5 := of_decide_eq_true c8
      show Ex X m_Tab_part 45 [.ref (c0 + 0), .int (nI (i + 1)), .int b, .ref (c0 + (26 + 5 * i))] [] (hp c0 (26 + 5 * T.length) _ _) _
      refine Ex.nx rfl ?_
      refine Ex.nx rfl ?_
      refine Ex.nx rfl ?_
      refine Hx.get (26 + 5 * i) rfl hti.1 rfl ?_
      refine Hx.callX 0 rfl rfl h.r0 rfl rfl (q_kb h (kd := 5) hti.2.1 hti.2.2.2.1 (by omega) (by omega) (by omega) (Or.inr (Or.inr (Or.inr (Or.inr (Or.inl rfl)))))) ?_
      intro v1 h1 hq
      exact kP_tl rfl rfl (by first | (simp [-List.getD_eq_getElem?_getD, ptX, c1, c8]; done) | (exfalso; clear hq; simp_all [-List.getD_eq_getElem?_getD]; done)) hq
    · replace c8 : ¬ ((T.getD i tm0).1) = 5 := of_decide_eq_false c8
      show Ex X m_Tab_part 27 [.ref (c0 + 0), .int (nI (i + 1)), .int b, .ref (c0 + (26 + 5 * i))] [] (hp c0 (26 + 5 * T.length) _ _) _
      refine Ex.nx rfl ?_
      refine Hx.get (26 + 5 * i) rfl hti.1 rfl ?_
      refine Ex.nx rfl ?_
      refine Ex.nx rfl ?_
      refine Ex.ite (fun c9 => ?_) (fun c9 => ?_)
      · replace c9 : ((T.getD i tm0).1) = 6 := of_decide_eq_true c9
        show Ex X m_Tab_part 45 [.ref (c0 + 0), .int (nI (i + 1)), .int b, .ref (c0 + (26 + 5 * i))] [] (hp c0 (26 + 5 * T.length) _ _) _
        refine Ex.nx rfl ?_
        refine Ex.nx rfl ?_
        refine Ex.nx rfl ?_
        refine Hx.get (26 + 5 * i) rfl hti.1 rfl ?_
        refine Hx.callX 0 rfl rfl h.r0 rfl rfl (q_kb h (kd := 5) hti.2.1 hti.2.2.2.1 (by omega) (by omega) (by omega) (Or.inr (Or.inr (Or.inr (Or.inr (Or.inl rfl)))))) ?_
        intro v1 h1 hq
        exact kP_tl rfl rfl (by first | (simp [-List.getD_eq_getElem?_getD, ptX, c1, c8, c9]; done) | (exfalso; clear hq; simp_all [-List.getD_eq_getElem?_getD]; done)) hq
      · replace c9 : ¬ ((T.getD i tm0).1) = 6 := of_decide_eq_false c9
        show Ex X m_Tab_part 36 [.ref (c0 + 0), .int (nI (i + 1)), .int b, .ref (c0 + (26 + 5 * i))] [] (hp c0 (26 + 5 * T.length) _ _) _
        refine Ex.nx rfl ?_
        refine Hx.get (26 + 5 * i) rfl hti.1 rfl ?_
        refine Ex.nx rfl ?_
        refine Ex.nx rfl ?_
        refine Ex.ite (fun c10 => ?_) (fun c10 => ?_)
        · replace c10 : ¬ ((T.getD i tm0).1) = 7 := of_decide_eq_true c10
          show Ex X m_Tab_part 55 [.ref (c0 + 0), .int (nI (i + 1)), .int b, .ref (c0 + (26 + 5 * i))] [] (hp c0 (26 + 5 * T.length) _ _) _
          refine Ex.nx rfl ?_
          refine Ex.nx rfl ?_
          refine Ex.nx rfl ?_
          refine Ex.ite (fun c11 => ?_) (fun c11 => ?_)
          · replace c11 : ¬ b = 1 := of_decide_eq_true c11
            show Ex X m_Tab_part 79 [.ref (c0 + 0), .int (nI (i + 1)), .int b, .ref (c0 + (26 + 5 * i))] [] (hp c0 (26 + 5 * T.length) _ _) _
            refine Ex.nx rfl ?_
            refine Ex.nx rfl ?_
            refine Ex.nx rfl ?_
            refine Ex.ite (fun c12 => ?_) (fun c12 => ?_)
            · replace c12 : ¬ b = 2 := of_decide_eq_true c12
              show Ex X m_Tab_part 103 [.ref (c0 + 0), .int (nI (i + 1)), .int b, .ref (c0 + (26 + 5 * i))] [] (hp c0 (26 + 5 * T.length) _ _) _
              refine Ex.nx rfl ?_
              exact Ex.ret rfl (ev_reti rfl) (by rw [show ptX (T.getD i tm0) b = none by simp_all [-List.getD_eq_getElem?_getD, ptX]]; exact h.same)
            · replace c12 : b = 2 := Classical.not_not.mp (of_decide_eq_false c12)
              show Ex X m_Tab_part 84 [.ref (c0 + 0), .int (nI (i + 1)), .int b, .ref (c0 + (26 + 5 * i))] [] (hp c0 (26 + 5 * T.length) _ _) _
              refine Ex.nx rfl ?_
              refine Hx.get (26 + 5 * i) rfl hti.1 rfl ?_
              refine Ex.nx rfl ?_
              refine Ex.nx rfl ?_
              refine Ex.ite (fun c13 => ?_) (fun c13 => ?_)
              · replace c13 : ¬ ((T.getD i tm0).1) = 7 := of_decide_eq_true c13
                show Ex X m_Tab_part 103 [.ref (c0 + 0), .int (nI (i + 1)), .int b, .ref (c0 + (26 + 5 * i))] [] (hp c0 (26 + 5 * T.length) _ _) _
                refine Ex.nx rfl ?_
                exact Ex.ret rfl (ev_reti rfl) (by rw [show ptX (T.getD i tm0) b = none by simp_all [-List.getD_eq_getElem?_getD, ptX]]; exact h.same)
              · replace c13 : ((T.getD i tm0).1) = 7 := Classical.not_not.mp (of_decide_eq_false c13)
                exact absurd c13 c10
          · replace c11 : b = 1 := Classical.not_not.mp (of_decide_eq_false c11)
            show Ex X m_Tab_part 60 [.ref (c0 + 0), .int (nI (i + 1)), .int b, .ref (c0 + (26 + 5 * i))] [] (hp c0 (26 + 5 * T.length) _ _) _
            refine Ex.nx rfl ?_
            refine Hx.get (26 + 5 * i) rfl hti.1 rfl ?_
            refine Ex.nx rfl ?_
            refine Ex.nx rfl ?_
            refine Ex.ite (fun c14 => ?_) (fun c14 => ?_)
            · replace c14 : ¬ ((T.getD i tm0).1) = 6 := of_decide_eq_true c14
              show Ex X m_Tab_part 79 [.ref (c0 + 0), .int (nI (i + 1)), .int b, .ref (c0 + (26 + 5 * i))] [] (hp c0 (26 + 5 * T.length) _ _) _
              refine Ex.nx rfl ?_
              refine Ex.nx rfl ?_
              refine Ex.nx rfl ?_
              refine Ex.ite (fun c15 => ?_) (fun c15 => ?_)
              · replace c15 : ¬ b = 2 := of_decide_eq_true c15
                show Ex X m_Tab_part 103 [.ref (c0 + 0), .int (nI (i + 1)), .int b, .ref (c0 + (26 + 5 * i))] [] (hp c0 (26 + 5 * T.length) _ _) _
                refine Ex.nx rfl ?_
                exact Ex.ret rfl (ev_reti rfl) (by rw [show ptX (T.getD i tm0) b = none by simp_all [-List.getD_eq_getElem?_getD, ptX]]; exact h.same)
              · replace c15 : b = 2 := Classical.not_not.mp (of_decide_eq_false c15)
                show Ex X m_Tab_part 84 [.ref (c0 + 0), .int (nI (i + 1)), .int b, .ref (c0 + (26 + 5 * i))] [] (hp c0 (26 + 5 * T.length) _ _) _
                refine Ex.nx rfl ?_
                refine Hx.get (26 + 5 * i) rfl hti.1 rfl ?_
                refine Ex.nx rfl ?_
                refine Ex.nx rfl ?_
                refine Ex.ite (fun c16 => ?_) (fun c16 => ?_)
                · replace c16 : ¬ ((T.getD i tm0).1) = 7 := of_decide_eq_true c16
                  show Ex X m_Tab_part 103 [.ref (c0 + 0), .int (nI (i + 1)), .int b, .ref (c0 + (26 + 5 * i))] [] (hp c0 (26 + 5 * T.length) _ _) _
                  refine Ex.nx rfl ?_
                  exact Ex.ret rfl (ev_reti rfl) (by rw [show ptX (T.getD i tm0) b = none by simp_all [-List.getD_eq_getElem?_getD, ptX]]; exact h.same)
                · replace c16 : ((T.getD i tm0).1) = 7 := Classical.not_not.mp (of_decide_eq_false c16)
                  exact absurd c16 c10
            · replace c14 : ((T.getD i tm0).1) = 6 := Classical.not_not.mp (of_decide_eq_false c14)
              exact absurd c14 c9
        · replace c10 : ((T.getD i tm0).1) = 7 := Classical.not_not.mp (of_decide_eq_false c10)
          show Ex X m_Tab_part 45 [.ref (c0 + 0), .int (nI (i + 1)), .int b, .ref (c0 + (26 + 5 * i))] [] (hp c0 (26 + 5 * T.length) _ _) _
          refine Ex.nx rfl ?_
          refine Ex.nx rfl ?_
          refine Ex.nx rfl ?_
          refine Hx.get (26 + 5 * i) rfl hti.1 rfl ?_
          refine Hx.callX 0 rfl rfl h.r0 rfl rfl (q_kb h (kd := 5) hti.2.1 hti.2.2.2.1 (by omega) (by omega) (by omega) (Or.inr (Or.inr (Or.inr (Or.inr (Or.inl rfl)))))) ?_
          intro v1 h1 hq
          exact kP_tl rfl rfl (by first | (simp [-List.getD_eq_getElem?_getD, ptX, c1, c8, c9, c10]; done) | (exfalso; clear hq; simp_all [-List.getD_eq_getElem?_getD]; done)) hq
end
