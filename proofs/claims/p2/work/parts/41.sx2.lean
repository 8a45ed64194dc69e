/-! Static methods with a switch. (rows laid by wip/whole/sx2.py) -/
theorem Hx.lsw {X : ev_X} {M pc nx a b w : Nat} {A r : List Value} {h : ev_H} {Q : Option Value → ev_H → Prop} {d off : Int} {ps : Array (Int × Int)} {x : Int32} (o : pg_ops M pc = some (.lookupswitch d ps, nx, a, b, w)) (hs : (ps.toList.zip (ps.toList.drop 1)).all (fun (a, next) => a.1 < next.1) = true) (ho : Op.lookupswitch.offset ps.toList d x.toInt = off) (h0 : 0 ≤ (pc : Int) + off) (k : Ex X M (ev_t pc off) A r h Q) : Ex X M pc A (.int x :: r) h Q := by
  refine Ex.nx (pc' := ev_t pc off) (A' := A) (st' := r) (h' := h) ?_ k
  have e1 : ev_ret M (.lookupswitch d ps) (.int x :: r) = none := rfl
  have e2 : ev_cal X (.lookupswitch d ps) a (.int x :: r) h = none := rfl
  have e3 : ∀ kv, ev_st kv (.lookupswitch d ps) (.int x :: r) = none := fun _ => rfl
  have e4 : ev_lc (.lookupswitch d ps) A (.int x :: r) = none := rfl
  have e5 : ev_br (.lookupswitch d ps) pc nx (.int x :: r) = some (ev_t pc off, r) := by
    simp only [ev_br]
    rw [if_pos ⟨hs, by rw [ho]; exact h0⟩, ho]
  unfold ev_nx
  simp only [o, e1, e2, ev_one, e3, e4, e5]
theorem Sx.lsw {X : ev_X} {M pc nx a b w : Nat} {A r : List Value} {Q : Option Value → Prop} {d off : Int} {ps : Array (Int × Int)} {x : Int32} (o : pg_ops M pc = some (.lookupswitch d ps, nx, a, b, w)) (hs : (ps.toList.zip (ps.toList.drop 1)).all (fun (a, next) => a.1 < next.1) = true) (ho : Op.lookupswitch.offset ps.toList d x.toInt = off) (h0 : 0 ≤ (pc : Int) + off) (k : Sx X M (ev_t pc off) A r Q) : Sx X M pc A (.int x :: r) Q := fun h => Hx.lsw o hs ho h0 (k h)
theorem Sx.top {X : ev_X} {M pc : Nat} {A r : List Value} {Q : Option Value → Prop} {x y : Int32} (h : x = y) (k : Sx X M pc A (.int y :: r) Q) : Sx X M pc A (.int x :: r) Q := h ▸ k
theorem i32_33 {b : Int32} : b < 33 ↔ b ≤ 32 := by
  rw [Int32.lt_iff_toInt_lt, Int32.le_iff_toInt_le, show (33 : Int32).toInt = 33 from rfl, show (32 : Int32).toInt = 32 from rfl]; omega
theorem i32_126 {b : Int32} : 126 < b ↔ ¬ b < 127 := by
  rw [Int32.lt_iff_toInt_lt, Int32.lt_iff_toInt_lt, show (126 : Int32).toInt = 126 from rfl, show (127 : Int32).toInt = 127 from rfl]; omega
theorem i32_127 {b : Int32} : 127 ≤ b ↔ ¬ b < 127 := by rw [Int32.not_lt]
def esc (b : Int32) : Int32 := if b = 34 then b else if b = 92 then b else if b = 110 then 10 else if b = 114 then 13 else if b = 116 then 9 else -1
set_option maxRecDepth 100000 in
set_option maxHeartbeats 1000000 in
theorem sx_Reader_isNB (X : ev_X) (b : Int32) : Sx X m_Reader_isNameByte 0 [.int b] [] (fun r => r = some (.int (bi (isNB b)))) := by
  refine Sx.go (fun _ => rfl) ?_
  by_cases e1 : b = 34
  · refine Sx.top (y := 34) e1 ?_
    refine Sx.go (fun _ => rfl) ?_
    show Sx X m_Reader_isNameByte 84 [.int b] [] _
    refine Sx.go (fun _ => rfl) ?_
    exact Sx.ret rfl rfl (ret_0 (by simp_all [isNB]))
  by_cases e2 : b = 60
  · refine Sx.top (y := 60) e2 ?_
    refine Sx.go (fun _ => rfl) ?_
    show Sx X m_Reader_isNameByte 84 [.int b] [] _
    refine Sx.go (fun _ => rfl) ?_
    exact Sx.ret rfl rfl (ret_0 (by simp_all [isNB]))
  by_cases e3 : b = 62
  · refine Sx.top (y := 62) e3 ?_
    refine Sx.go (fun _ => rfl) ?_
    show Sx X m_Reader_isNameByte 84 [.int b] [] _
    refine Sx.go (fun _ => rfl) ?_
    exact Sx.ret rfl rfl (ret_0 (by simp_all [isNB]))
  by_cases e4 : b = 92
  · refine Sx.top (y := 92) e4 ?_
    refine Sx.go (fun _ => rfl) ?_
    show Sx X m_Reader_isNameByte 84 [.int b] [] _
    refine Sx.go (fun _ => rfl) ?_
    exact Sx.ret rfl rfl (ret_0 (by simp_all [isNB]))
  by_cases e5 : b = 94
  · refine Sx.top (y := 94) e5 ?_
    refine Sx.go (fun _ => rfl) ?_
    show Sx X m_Reader_isNameByte 84 [.int b] [] _
    refine Sx.go (fun _ => rfl) ?_
    exact Sx.ret rfl rfl (ret_0 (by simp_all [isNB]))
  by_cases e6 : b = 96
  · refine Sx.top (y := 96) e6 ?_
    refine Sx.go (fun _ => rfl) ?_
    show Sx X m_Reader_isNameByte 84 [.int b] [] _
    refine Sx.go (fun _ => rfl) ?_
    exact Sx.ret rfl rfl (ret_0 (by simp_all [isNB]))
  by_cases e7 : b = 123
  · refine Sx.top (y := 123) e7 ?_
    refine Sx.go (fun _ => rfl) ?_
    show Sx X m_Reader_isNameByte 84 [.int b] [] _
    refine Sx.go (fun _ => rfl) ?_
    exact Sx.ret rfl rfl (ret_0 (by simp_all [isNB]))
  by_cases e8 : b = 124
  · refine Sx.top (y := 124) e8 ?_
    refine Sx.go (fun _ => rfl) ?_
    show Sx X m_Reader_isNameByte 84 [.int b] [] _
    refine Sx.go (fun _ => rfl) ?_
    exact Sx.ret rfl rfl (ret_0 (by simp_all [isNB]))
  by_cases e9 : b = 125
  · refine Sx.top (y := 125) e9 ?_
    refine Sx.go (fun _ => rfl) ?_
    show Sx X m_Reader_isNameByte 84 [.int b] [] _
    refine Sx.go (fun _ => rfl) ?_
    exact Sx.ret rfl rfl (ret_0 (by simp_all [isNB]))
  refine Sx.lsw (off := 85) rfl rfl ((lv_osw e1 rfl).trans ((lv_osw e2 rfl).trans ((lv_osw e3 rfl).trans ((lv_osw e4 rfl).trans ((lv_osw e5 rfl).trans ((lv_osw e6 rfl).trans ((lv_osw e7 rfl).trans ((lv_osw e8 rfl).trans ((lv_osw e9 rfl).trans rfl))))))))) (by decide) ?_
  show Sx X m_Reader_isNameByte 86 [.int b] [] _
  refine Sx.go (fun _ => rfl) ?_
  refine Sx.go (fun _ => rfl) ?_
  refine Sx.go (fun _ => rfl) ?_
  refine Sx.ite (fun c10 => ?_) (fun c10 => ?_)
  · replace c10 : b < 33 := of_decide_eq_true c10
    show Sx X m_Reader_isNameByte 102 [.int b] [] _
    refine Sx.go (fun _ => rfl) ?_
    rw [i32_33] at c10; exact Sx.ret rfl rfl (ret_0 (by simp_all [isNB]))
  · replace c10 : ¬ b < 33 := of_decide_eq_false c10
    show Sx X m_Reader_isNameByte 92 [.int b] [] _
    refine Sx.go (fun _ => rfl) ?_
    refine Sx.go (fun _ => rfl) ?_
    refine Sx.go (fun _ => rfl) ?_
    refine Sx.ite (fun c11 => ?_) (fun c11 => ?_)
    · replace c11 : 126 < b := of_decide_eq_true c11
      show Sx X m_Reader_isNameByte 102 [.int b] [] _
      refine Sx.go (fun _ => rfl) ?_
      rw [i32_33] at c10; rw [i32_126] at c11; exact Sx.ret rfl rfl (ret_0 (by simp_all [isNB]))
    · replace c11 : ¬ 126 < b := of_decide_eq_false c11
      show Sx X m_Reader_isNameByte 98 [.int b] [] _
      refine Sx.go (fun _ => rfl) ?_
      refine Sx.go (fun _ => rfl) ?_
      rw [i32_33] at c10; rw [i32_126] at c11; exact Sx.ret rfl rfl (ret_1 (by simp_all [isNB]))
set_option maxRecDepth 100000 in
set_option maxHeartbeats 1000000 in
theorem sx_Mod_isNB (X : ev_X) (b : Int32) : Sx X m_Mod_isNameByte 0 [.int b] [] (fun r => r = some (.int (bi (isNB b)))) := by
  refine Sx.go (fun _ => rfl) ?_
  by_cases e1 : b = 34
  · refine Sx.top (y := 34) e1 ?_
    refine Sx.go (fun _ => rfl) ?_
    show Sx X m_Mod_isNameByte 84 [.int b] [] _
    refine Sx.go (fun _ => rfl) ?_
    exact Sx.ret rfl rfl (ret_0 (by simp_all [isNB]))
  by_cases e2 : b = 60
  · refine Sx.top (y := 60) e2 ?_
    refine Sx.go (fun _ => rfl) ?_
    show Sx X m_Mod_isNameByte 84 [.int b] [] _
    refine Sx.go (fun _ => rfl) ?_
    exact Sx.ret rfl rfl (ret_0 (by simp_all [isNB]))
  by_cases e3 : b = 62
  · refine Sx.top (y := 62) e3 ?_
    refine Sx.go (fun _ => rfl) ?_
    show Sx X m_Mod_isNameByte 84 [.int b] [] _
    refine Sx.go (fun _ => rfl) ?_
    exact Sx.ret rfl rfl (ret_0 (by simp_all [isNB]))
  by_cases e4 : b = 92
  · refine Sx.top (y := 92) e4 ?_
    refine Sx.go (fun _ => rfl) ?_
    show Sx X m_Mod_isNameByte 84 [.int b] [] _
    refine Sx.go (fun _ => rfl) ?_
    exact Sx.ret rfl rfl (ret_0 (by simp_all [isNB]))
  by_cases e5 : b = 94
  · refine Sx.top (y := 94) e5 ?_
    refine Sx.go (fun _ => rfl) ?_
    show Sx X m_Mod_isNameByte 84 [.int b] [] _
    refine Sx.go (fun _ => rfl) ?_
    exact Sx.ret rfl rfl (ret_0 (by simp_all [isNB]))
  by_cases e6 : b = 96
  · refine Sx.top (y := 96) e6 ?_
    refine Sx.go (fun _ => rfl) ?_
    show Sx X m_Mod_isNameByte 84 [.int b] [] _
    refine Sx.go (fun _ => rfl) ?_
    exact Sx.ret rfl rfl (ret_0 (by simp_all [isNB]))
  by_cases e7 : b = 123
  · refine Sx.top (y := 123) e7 ?_
    refine Sx.go (fun _ => rfl) ?_
    show Sx X m_Mod_isNameByte 84 [.int b] [] _
    refine Sx.go (fun _ => rfl) ?_
    exact Sx.ret rfl rfl (ret_0 (by simp_all [isNB]))
  by_cases e8 : b = 124
  · refine Sx.top (y := 124) e8 ?_
    refine Sx.go (fun _ => rfl) ?_
    show Sx X m_Mod_isNameByte 84 [.int b] [] _
    refine Sx.go (fun _ => rfl) ?_
    exact Sx.ret rfl rfl (ret_0 (by simp_all [isNB]))
  by_cases e9 : b = 125
  · refine Sx.top (y := 125) e9 ?_
    refine Sx.go (fun _ => rfl) ?_
    show Sx X m_Mod_isNameByte 84 [.int b] [] _
    refine Sx.go (fun _ => rfl) ?_
    exact Sx.ret rfl rfl (ret_0 (by simp_all [isNB]))
  refine Sx.lsw (off := 85) rfl rfl ((lv_osw e1 rfl).trans ((lv_osw e2 rfl).trans ((lv_osw e3 rfl).trans ((lv_osw e4 rfl).trans ((lv_osw e5 rfl).trans ((lv_osw e6 rfl).trans ((lv_osw e7 rfl).trans ((lv_osw e8 rfl).trans ((lv_osw e9 rfl).trans rfl))))))))) (by decide) ?_
  show Sx X m_Mod_isNameByte 86 [.int b] [] _
  refine Sx.go (fun _ => rfl) ?_
  refine Sx.go (fun _ => rfl) ?_
  refine Sx.go (fun _ => rfl) ?_
  refine Sx.ite (fun c10 => ?_) (fun c10 => ?_)
  · replace c10 : b ≤ 32 := of_decide_eq_true c10
    show Sx X m_Mod_isNameByte 102 [.int b] [] _
    refine Sx.go (fun _ => rfl) ?_
    exact Sx.ret rfl rfl (ret_0 (by simp_all [isNB]))
  · replace c10 : ¬ b ≤ 32 := of_decide_eq_false c10
    show Sx X m_Mod_isNameByte 92 [.int b] [] _
    refine Sx.go (fun _ => rfl) ?_
    refine Sx.go (fun _ => rfl) ?_
    refine Sx.go (fun _ => rfl) ?_
    refine Sx.ite (fun c11 => ?_) (fun c11 => ?_)
    · replace c11 : 127 ≤ b := of_decide_eq_true c11
      show Sx X m_Mod_isNameByte 102 [.int b] [] _
      refine Sx.go (fun _ => rfl) ?_
      rw [i32_127] at c11; exact Sx.ret rfl rfl (ret_0 (by simp_all [isNB]))
    · replace c11 : ¬ 127 ≤ b := of_decide_eq_false c11
      show Sx X m_Mod_isNameByte 98 [.int b] [] _
      refine Sx.go (fun _ => rfl) ?_
      refine Sx.go (fun _ => rfl) ?_
      rw [i32_127] at c11; exact Sx.ret rfl rfl (ret_1 (by simp_all [isNB]))
set_option maxRecDepth 100000 in
set_option maxHeartbeats 1000000 in
theorem sx_Reader_escaped (X : ev_X) (b : Int32) : Sx X m_Reader_escaped 0 [.int b] [] (fun r => r = some (.int (esc b))) := by
  refine Sx.go (fun _ => rfl) ?_
  by_cases e1 : b = 34
  · refine Sx.top (y := 34) e1 ?_
    refine Sx.go (fun _ => rfl) ?_
    show Sx X m_Reader_escaped 52 [.int b] [] _
    refine Sx.go (fun _ => rfl) ?_
    exact Sx.ret rfl (ev_reti rfl) (by simp [esc, e1])
  by_cases e2 : b = 92
  · refine Sx.top (y := 92) e2 ?_
    refine Sx.go (fun _ => rfl) ?_
    show Sx X m_Reader_escaped 52 [.int b] [] _
    refine Sx.go (fun _ => rfl) ?_
    exact Sx.ret rfl (ev_reti rfl) (by simp [esc, e1, e2])
  by_cases e3 : b = 110
  · refine Sx.top (y := 110) e3 ?_
    refine Sx.go (fun _ => rfl) ?_
    show Sx X m_Reader_escaped 54 [.int b] [] _
    refine Sx.go (fun _ => rfl) ?_
    exact Sx.ret rfl (ev_reti rfl) (by simp [esc, e1, e2, e3])
  by_cases e4 : b = 114
  · refine Sx.top (y := 114) e4 ?_
    refine Sx.go (fun _ => rfl) ?_
    show Sx X m_Reader_escaped 57 [.int b] [] _
    refine Sx.go (fun _ => rfl) ?_
    exact Sx.ret rfl (ev_reti rfl) (by simp [esc, e1, e2, e3, e4])
  by_cases e5 : b = 116
  · refine Sx.top (y := 116) e5 ?_
    refine Sx.go (fun _ => rfl) ?_
    show Sx X m_Reader_escaped 60 [.int b] [] _
    refine Sx.go (fun _ => rfl) ?_
    exact Sx.ret rfl (ev_reti rfl) (by simp [esc, e1, e2, e3, e4, e5])
  refine Sx.lsw (off := 62) rfl rfl ((lv_osw e1 rfl).trans ((lv_osw e2 rfl).trans ((lv_osw e3 rfl).trans ((lv_osw e4 rfl).trans ((lv_osw e5 rfl).trans rfl))))) (by decide) ?_
  show Sx X m_Reader_escaped 63 [.int b] [] _
  refine Sx.go (fun _ => rfl) ?_
  exact Sx.ret rfl (ev_reti rfl) (by simp [esc, e1, e2, e3, e4, e5])
