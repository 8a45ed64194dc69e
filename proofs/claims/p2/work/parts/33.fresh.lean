/-! Methods of the class on the fresh object. (rows laid by wip/whole/h2.py) -/
def pOk (c0 n z : Nat) (F : Nat → Option va_E) (v : Option Value) (r : Option Value) (h' : ev_H) : Prop := ∃ n1 z1 F1, h' = hp c0 n1 z1 F1 ∧ n1 ≤ n + 10 ∧ z1 ≤ z + 1000 ∧ rsm F F1 ∧ r = v
theorem rsm.tr {F F1 F2 : Nat → Option va_E} (a : rsm F F1) (b : rsm F1 F2) : rsm F F2 := fun k h1 h2 => (b k h1 h2).trans (a k h1 h2)
theorem i32_01 {t : Int32} (h : ¬ t < 1) : 0 < t := by
  rw [Int32.lt_iff_toInt_lt] at h ⊢
  have h0 : (0 : Int32).toInt = 0 := rfl
  have h1 : (1 : Int32).toInt = 1 := rfl
  omega
set_option maxRecDepth 100000 in
set_option maxHeartbeats 1000000 in
theorem hx_become {X : ev_X} {c0 n z : Nat} {F : Nat → Option va_E} (s : Int32) (v : Int64) (p : Int32) {s0 p0 lb lt : Int32} {v0 : Int64} (h3 : F 3 = some (.inr (2, [.int s0, .long v0, .int p0, .ref (c0 + 4), .ref (c0 + 6)]))) (h4 : F 4 = some (.inr (1, [.ref (c0 + 5), .int lb]))) (h6 : F 6 = some (.inr (1, [.ref (c0 + 7), .int lt]))) : Ex X m_Term_become 0 [.ref (c0 + 3), .int s, .long v, ev_dead, .int p] [] (hp c0 n z F) (fun r h' => r = none ∧ h' = hp c0 n (z) (va_up (va_up (va_up (va_up (va_up F 3 (some (.inr (2, [.int s, .long v0, .int p0, .ref (c0 + 4), .ref (c0 + 6)])))) 3 (some (.inr (2, [.int s, .long v, .int p0, .ref (c0 + 4), .ref (c0 + 6)])))) 3 (some (.inr (2, [.int s, .long v, .int p, .ref (c0 + 4), .ref (c0 + 6)])))) 4 (some (.inr (1, [.ref (c0 + 5), .int 0])))) 6 (some (.inr (1, [.ref (c0 + 7), .int 0]))))) := by
  refine Ex.nx rfl ?_
  refine Ex.nx rfl ?_
  refine Hx.put 3 rfl h3 rfl rfl rfl ?_
  refine Ex.nx rfl ?_
  refine Ex.nx rfl ?_
  refine Hx.put 3 rfl rfl rfl rfl rfl ?_
  refine Ex.nx rfl ?_
  refine Ex.nx rfl ?_
  refine Hx.put 3 rfl rfl rfl rfl rfl ?_
  refine Ex.nx rfl ?_
  refine Hx.get 3 rfl rfl rfl ?_
  refine Hx.call 4 rfl rfl h4 rfl rfl (hx_clear 4 h4) ?_
  show Ex X m_Term_become 23 [.ref (c0 + 3), .int s, .long v, ev_dead, .int p] [] (hp c0 n _ _) _
  refine Ex.nx rfl ?_
  refine Hx.get 3 rfl rfl rfl ?_
  refine Hx.call 6 rfl rfl h6 rfl rfl (hx_clear 6 h6) ?_
  show Ex X m_Term_become 30 [.ref (c0 + 3), .int s, .long v, ev_dead, .int p] [] (hp c0 n _ _) _
  exact Ex.ret rfl rfl ⟨rfl, rfl⟩
set_option maxRecDepth 100000 in
set_option maxHeartbeats 1000000 in
theorem hx_latest {X : ev_X} {c0 n z : Nat} {F : Nat → Option va_E} {q1 q2 : Int32} (h8 : F 8 = some (.inr (0, [.ref (c0 + 3), .int q1, .int q2]))) : Ex X m_Reader_latestPlace 0 [.ref (c0 + 8)] [] (hp c0 n z F) (fun r h' => r = some (.int q2) ∧ h' = hp c0 n (z) (F)) := by
  refine Ex.nx rfl ?_
  refine Hx.get 8 rfl h8 rfl ?_
  exact Ex.ret rfl (ev_reti rfl) ⟨rfl, rfl⟩
set_option maxRecDepth 100000 in
set_option maxHeartbeats 1000000 in
theorem hx_tsize {X : ev_X} {c0 n z : Nat} {F : Nat → Option va_E} {q1 q2 : Int32} (h9 : F 9 = some (.inr (3, [.ref (c0 + 10), .int q1, .int q2]))) : Ex X m_Terms_size 0 [.ref (c0 + 9)] [] (hp c0 n z F) (fun r h' => r = some (.int q1) ∧ h' = hp c0 n (z) (F)) := by
  refine Ex.nx rfl ?_
  refine Hx.get 9 rfl h9 rfl ?_
  exact Ex.ret rfl (ev_reti rfl) ⟨rfl, rfl⟩
set_option maxRecDepth 100000 in
set_option maxHeartbeats 1000000 in
theorem hx_tbytes {X : ev_X} {c0 n z : Nat} {F : Nat → Option va_E} {q1 q2 : Int32} (h9 : F 9 = some (.inr (3, [.ref (c0 + 10), .int q1, .int q2]))) : Ex X m_Terms_bytes 0 [.ref (c0 + 9)] [] (hp c0 n z F) (fun r h' => r = some (.int q2) ∧ h' = hp c0 n (z) (F)) := by
  refine Ex.nx rfl ?_
  refine Hx.get 9 rfl h9 rfl ?_
  exact Ex.ret rfl (ev_reti rfl) ⟨rfl, rfl⟩
set_option maxRecDepth 100000 in
set_option maxHeartbeats 1000000 in
theorem hx_get0 {X : ev_X} {c0 n z : Nat} {F : Nat → Option va_E} (t : Int32) {q2 : Int32} (h9 : F 9 = some (.inr (3, [.ref (c0 + 10), .int 0, .int q2]))) : Ex X m_Terms_get 0 [.ref (c0 + 9), .int t] [] (hp c0 n z F) (fun r h' => r = some (.null) ∧ h' = hp c0 n (z) (F)) := by
  refine Ex.nx rfl ?_
  refine Ex.nx rfl ?_
  refine Ex.nx rfl ?_
  refine Ex.ite (fun c1 => ?_) (fun c1 => ?_)
  · replace c1 : t < 1 := of_decide_eq_true c1
    show Ex X m_Terms_get 33 [.ref (c0 + 9), .int t] [] (hp c0 n _ _) _
    refine Ex.nx rfl ?_
    exact Ex.ret rfl rfl ⟨rfl, rfl⟩
  · replace c1 : ¬ t < 1 := of_decide_eq_false c1
    show Ex X m_Terms_get 5 [.ref (c0 + 9), .int t] [] (hp c0 n _ _) _
    refine Ex.nx rfl ?_
    refine Ex.nx rfl ?_
    refine Hx.get 9 rfl h9 rfl ?_
    refine Ex.nx rfl ?_
    refine Ex.ite (fun c2 => ?_) (fun c2 => ?_)
    · replace c2 : 0 < t := of_decide_eq_true c2
      show Ex X m_Terms_get 33 [.ref (c0 + 9), .int t] [] (hp c0 n _ _) _
      refine Ex.nx rfl ?_
      exact Ex.ret rfl rfl ⟨rfl, rfl⟩
    · replace c2 : ¬ 0 < t := of_decide_eq_false c2
      exact absurd (i32_01 c1) c2
set_option maxRecDepth 100000 in
set_option maxHeartbeats 1000000 in
theorem hx_numberOf0 {X : ev_X} {c0 n z : Nat} {F : Nat → Option va_E} {q2 : Int32} (h9 : F 9 = some (.inr (3, [.ref (c0 + 10), .int 0, .int q2]))) : Ex X m_Terms_numberOf 0 [.ref (c0 + 9), .ref (c0 + 3), ev_dead, ev_dead] [] (hp c0 n z F) (fun r h' => r = some (.int (-2)) ∧ h' = hp c0 n (z) (F)) := by
  refine Ex.nx rfl ?_
  refine Ex.nx rfl ?_
  show Ex X m_Terms_numberOf 2 [.ref (c0 + 9), .ref (c0 + 3), .int 1, ev_dead] [] (hp c0 n _ _) _
  refine Ex.nx rfl ?_
  refine Ex.nx rfl ?_
  refine Hx.get 9 rfl h9 rfl ?_
  refine Ex.nx rfl ?_
  show Ex X m_Terms_numberOf 36 [.ref (c0 + 9), .ref (c0 + 3), .int 1, ev_dead] [] (hp c0 n _ _) _
  refine Ex.nx rfl ?_
  exact Ex.ret rfl (ev_reti rfl) ⟨rfl, rfl⟩
set_option maxRecDepth 100000 in
set_option maxHeartbeats 1000000 in
theorem hx_byteAt0 {X : ev_X} {c0 n z : Nat} {F : Nat → Option va_E} (t : Int32) (h11 : F 11 = some (.inr (4, [.ref (c0 + 12), .ref (c0 + 14)]))) (h12 : F 12 = some (.inr (1, [.ref (c0 + 13), .int 0]))) : Ex X m_Writer_byteAt 0 [.ref (c0 + 11), .int t] [] (hp c0 n z F) (fun r h' => r = some (.int (-1)) ∧ h' = hp c0 n (z) (F)) := by
  refine Ex.nx rfl ?_
  refine Ex.nx rfl ?_
  refine Ex.ite (fun c1 => ?_) (fun c1 => ?_)
  · replace c1 : t < 0 := of_decide_eq_true c1
    show Ex X m_Writer_byteAt 15 [.ref (c0 + 11), .int t] [] (hp c0 n _ _) _
    refine Ex.nx rfl ?_
    refine Ex.nx rfl ?_
    exact Ex.ret rfl (ev_reti rfl) ⟨rfl, rfl⟩
  · replace c1 : ¬ t < 0 := of_decide_eq_false c1
    show Ex X m_Writer_byteAt 4 [.ref (c0 + 11), .int t] [] (hp c0 n _ _) _
    refine Ex.nx rfl ?_
    refine Ex.nx rfl ?_
    refine Hx.get 11 rfl h11 rfl ?_
    refine Hx.call 12 rfl rfl h12 rfl rfl (hx_size 12 h12) ?_
    show Ex X m_Writer_byteAt 12 [.ref (c0 + 11), .int t] [.int 0, .int t] (hp c0 n _ _) _
    refine Ex.nx rfl ?_
    refine Ex.ite (fun c2 => ?_) (fun c2 => ?_)
    · replace c2 : t < 0 := of_decide_eq_true c2
      exact absurd c2 c1
    · replace c2 : ¬ t < 0 := of_decide_eq_false c2
      show Ex X m_Writer_byteAt 15 [.ref (c0 + 11), .int t] [] (hp c0 n _ _) _
      refine Ex.nx rfl ?_
      refine Ex.nx rfl ?_
      exact Ex.ret rfl (ev_reti rfl) ⟨rfl, rfl⟩
set_option maxRecDepth 100000 in
set_option maxHeartbeats 1000000 in
theorem hx_bytes {X : ev_X} {c0 n z : Nat} {F : Nat → Option va_E} {s0 p0 : Int32} {v0 : Int64} (h3 : F 3 = some (.inr (2, [.int s0, .long v0, .int p0, .ref (c0 + 4), .ref (c0 + 6)]))) (h4 : F 4 = some (.inr (1, [.ref (c0 + 5), .int 0]))) (h6 : F 6 = some (.inr (1, [.ref (c0 + 7), .int 0]))) : Ex X m_Term_bytes 0 [.ref (c0 + 3)] [] (hp c0 n z F) (fun r h' => r = some (.int 0) ∧ h' = hp c0 n (z) (F)) := by
  refine Ex.nx rfl ?_
  refine Hx.get 3 rfl h3 rfl ?_
  refine Hx.call 4 rfl rfl h4 rfl rfl (hx_size 4 h4) ?_
  show Ex X m_Term_bytes 7 [.ref (c0 + 3)] [.int 0] (hp c0 n _ _) _
  refine Ex.nx rfl ?_
  refine Hx.get 3 rfl h3 rfl ?_
  refine Hx.call 6 rfl rfl h6 rfl rfl (hx_size 6 h6) ?_
  show Ex X m_Term_bytes 14 [.ref (c0 + 3)] [.int 0, .int 0] (hp c0 n _ _) _
  refine Ex.nx rfl ?_
  show Ex X m_Term_bytes 15 [.ref (c0 + 3)] [.int 0] (hp c0 n _ _) _
  exact Ex.ret rfl (ev_reti rfl) ⟨rfl, rfl⟩
set_option maxRecDepth 100000 in
set_option maxHeartbeats 1000000 in
theorem hx_addAll0 {X : ev_X} {c0 n z : Nat} {F : Nat → Option va_E} (k j : Nat) {v : Value} (h : F j = some (.inr (1, [v, .int 0]))) : Ex X m_Row_addAll 0 [.ref (c0 + k), .ref (c0 + j), ev_dead] [] (hp c0 n z F) (fun r h' => r = none ∧ h' = hp c0 n z F) := by
  refine Ex.nx rfl ?_
  refine Ex.nx rfl ?_
  show Ex X m_Row_addAll 2 [.ref (c0 + k), .ref (c0 + j), .int 0] [] (hp c0 n _ _) _
  refine Ex.nx rfl ?_
  refine Ex.nx rfl ?_
  refine Hx.get j rfl h rfl ?_
  refine Ex.nx rfl ?_
  show Ex X m_Row_addAll 25 [.ref (c0 + k), .ref (c0 + j), .int 0] [] (hp c0 n _ _) _
  exact Ex.ret rfl rfl ⟨rfl, rfl⟩
set_option maxRecDepth 100000 in
set_option maxHeartbeats 1000000 in
theorem hx_becomeK {X : ev_X} {c0 n z : Nat} {F : Nat → Option va_E} (s : Int32) (v : Int64) (p : Int32) {s0 p0 lb lt : Int32} {v0 : Int64} (h26 : F 26 = some (.inr (2, [.int s0, .long v0, .int p0, .ref (c0 + 27), .ref (c0 + 29)]))) (h27 : F 27 = some (.inr (1, [.ref (c0 + 28), .int lb]))) (h29 : F 29 = some (.inr (1, [.ref (c0 + 30), .int lt]))) : Ex X m_Term_become 0 [.ref (c0 + 26), .int s, .long v, ev_dead, .int p] [] (hp c0 n z F) (fun r h' => r = none ∧ h' = hp c0 n (z) (va_up (va_up (va_up (va_up (va_up F 26 (some (.inr (2, [.int s, .long v0, .int p0, .ref (c0 + 27), .ref (c0 + 29)])))) 26 (some (.inr (2, [.int s, .long v, .int p0, .ref (c0 + 27), .ref (c0 + 29)])))) 26 (some (.inr (2, [.int s, .long v, .int p, .ref (c0 + 27), .ref (c0 + 29)])))) 27 (some (.inr (1, [.ref (c0 + 28), .int 0])))) 29 (some (.inr (1, [.ref (c0 + 30), .int 0]))))) := by
  refine Ex.nx rfl ?_
  refine Ex.nx rfl ?_
  refine Hx.put 26 rfl h26 rfl rfl rfl ?_
  refine Ex.nx rfl ?_
  refine Ex.nx rfl ?_
  refine Hx.put 26 rfl rfl rfl rfl rfl ?_
  refine Ex.nx rfl ?_
  refine Ex.nx rfl ?_
  refine Hx.put 26 rfl rfl rfl rfl rfl ?_
  refine Ex.nx rfl ?_
  refine Hx.get 26 rfl rfl rfl ?_
  refine Hx.call 27 rfl rfl h27 rfl rfl (hx_clear 27 h27) ?_
  show Ex X m_Term_become 23 [.ref (c0 + 26), .int s, .long v, ev_dead, .int p] [] (hp c0 n _ _) _
  refine Ex.nx rfl ?_
  refine Hx.get 26 rfl rfl rfl ?_
  refine Hx.call 29 rfl rfl h29 rfl rfl (hx_clear 29 h29) ?_
  show Ex X m_Term_become 30 [.ref (c0 + 26), .int s, .long v, ev_dead, .int p] [] (hp c0 n _ _) _
  exact Ex.ret rfl rfl ⟨rfl, rfl⟩
set_option maxRecDepth 100000 in
set_option maxHeartbeats 1000000 in
theorem hx_copy0 {X : ev_X} {c0 z : Nat} {F : Nat → Option va_E} {s : Int32} {v : Int64} {p : Int32} (h3 : F 3 = some (.inr (2, [.int s, .long v, .int p, .ref (c0 + 4), .ref (c0 + 6)]))) (h4 : F 4 = some (.inr (1, [.ref (c0 + 5), .int 0]))) (h6 : F 6 = some (.inr (1, [.ref (c0 + 7), .int 0]))) : Ex X m_Term_copy 0 [.ref (c0 + 3), ev_dead] [] (hp c0 26 z F) (fun r h' => r = some (.ref (c0 + 26)) ∧ h' = hp c0 31 (z + 5 + (4 + 0 + 0)) (va_up (va_up (va_up (va_up (va_up (va_up (va_up (va_up (va_up (va_up (va_up F 26 (some (.inr (2, [.int 0, .long 0, .int 0, .null, .null])))) 27 (some (.inr (1, [.ref (c0 + 28), .int 0])))) 28 (some (.inl (0, 0, .inl (fun _ => 0))))) 29 (some (.inr (1, [.ref (c0 + 30), .int 0])))) 30 (some (.inl (0, 0, .inl (fun _ => 0))))) 26 (some (.inr (2, [.int 0, .long 0, .int 0, .ref (c0 + 27), .ref (c0 + 29)])))) 26 (some (.inr (2, [.int s, .long 0, .int 0, .ref (c0 + 27), .ref (c0 + 29)])))) 26 (some (.inr (2, [.int s, .long v, .int 0, .ref (c0 + 27), .ref (c0 + 29)])))) 26 (some (.inr (2, [.int s, .long v, .int p, .ref (c0 + 27), .ref (c0 + 29)])))) 27 (some (.inr (1, [.ref (c0 + 28), .int 0])))) 29 (some (.inr (1, [.ref (c0 + 30), .int 0]))))) := by
  refine Hx.newo rfl rfl ?_
  show Ex X m_Term_copy 3 [.ref (c0 + 3), ev_dead] [.ref (c0 + 26)] (hp c0 27 _ _) _
  refine Ex.nx rfl ?_
  refine Ex.nx rfl ?_
  refine Hx.get 3 rfl h3 rfl ?_
  refine Hx.call 4 rfl rfl h4 rfl rfl (hx_size 4 h4) ?_
  show Ex X m_Term_copy 11 [.ref (c0 + 3), ev_dead] [.int 0, .ref (c0 + 26), .ref (c0 + 26)] (hp c0 27 _ _) _
  refine Ex.nx rfl ?_
  refine Hx.get 3 rfl h3 rfl ?_
  refine Hx.call 6 rfl rfl h6 rfl rfl (hx_size 6 h6) ?_
  show Ex X m_Term_copy 18 [.ref (c0 + 3), ev_dead] [.int 0, .int 0, .ref (c0 + 26), .ref (c0 + 26)] (hp c0 27 _ _) _
  refine Hx.callp rfl rfl rfl rfl (hx_Term 26 (R1 := 0) (R2 := 0) rfl (by decide) (by decide) (by decide)) ?_
  show Ex X m_Term_copy 21 [.ref (c0 + 3), ev_dead] [.ref (c0 + 26)] (hp c0 31 _ _) _
  refine Ex.nx rfl ?_
  show Ex X m_Term_copy 22 [.ref (c0 + 3), .ref (c0 + 26)] [] (hp c0 31 _ _) _
  refine Ex.nx rfl ?_
  refine Ex.nx rfl ?_
  refine Hx.get 3 rfl h3 rfl ?_
  refine Ex.nx rfl ?_
  refine Hx.get 3 rfl h3 rfl ?_
  refine Ex.nx rfl ?_
  refine Hx.get 3 rfl h3 rfl ?_
  refine Hx.call 26 rfl rfl rfl rfl rfl (hx_becomeK s v p rfl rfl rfl) ?_
  show Ex X m_Term_copy 38 [.ref (c0 + 3), .ref (c0 + 26)] [] (hp c0 31 _ _) _
  refine Ex.nx rfl ?_
  refine Hx.get 26 rfl rfl rfl ?_
  refine Ex.nx rfl ?_
  refine Hx.get 3 rfl h3 rfl ?_
  refine Hx.call 27 rfl rfl rfl rfl rfl (hx_addAll0 27 4 h4) ?_
  show Ex X m_Term_copy 49 [.ref (c0 + 3), .ref (c0 + 26)] [] (hp c0 31 _ _) _
  refine Ex.nx rfl ?_
  refine Hx.get 26 rfl rfl rfl ?_
  refine Ex.nx rfl ?_
  refine Hx.get 3 rfl h3 rfl ?_
  refine Hx.call 29 rfl rfl rfl rfl rfl (hx_addAll0 29 6 h6) ?_
  show Ex X m_Term_copy 60 [.ref (c0 + 3), .ref (c0 + 26)] [] (hp c0 31 _ _) _
  refine Ex.nx rfl ?_
  exact Ex.ret rfl rfl ⟨rfl, rfl⟩
set_option maxRecDepth 100000 in
set_option maxHeartbeats 1000000 in
theorem hx_keep0 {X : ev_X} {c0 z : Nat} {F : Nat → Option va_E} {s : Int32} {v : Int64} {p : Int32} (h3 : F 3 = some (.inr (2, [.int s, .long v, .int p, .ref (c0 + 4), .ref (c0 + 6)]))) (h4 : F 4 = some (.inr (1, [.ref (c0 + 5), .int 0]))) (h6 : F 6 = some (.inr (1, [.ref (c0 + 7), .int 0]))) (h9 : F 9 = some (.inr (3, [.ref (c0 + 10), .int 0, .int 0]))) (h10 : F 10 = some (.inl (2, 2000, .inr (.inr (.inr (.inr (fun _ => none))))))) : Ex X m_Terms_keep 0 [.ref (c0 + 9), .ref (c0 + 3), ev_dead] [] (hp c0 26 z F) (fun r h' => pOk c0 26 z F (some (.int 1)) r h') := by
  refine Ex.nx rfl ?_
  refine Ex.nx rfl ?_
  refine Hx.call 9 rfl rfl h9 rfl rfl (hx_numberOf0 h9) ?_
  show Ex X m_Terms_keep 5 [.ref (c0 + 9), .ref (c0 + 3), ev_dead] [.int (-2)] (hp c0 26 _ _) _
  refine Ex.nx rfl ?_
  show Ex X m_Terms_keep 6 [.ref (c0 + 9), .ref (c0 + 3), .int (-2)] [] (hp c0 26 _ _) _
  refine Ex.nx rfl ?_
  refine Ex.nx rfl ?_
  refine Ex.nx rfl ?_
  show Ex X m_Terms_keep 14 [.ref (c0 + 9), .ref (c0 + 3), .int (-2)] [] (hp c0 26 _ _) _
  refine Ex.nx rfl ?_
  refine Hx.get 9 rfl h9 rfl ?_
  refine Ex.nx rfl ?_
  show Ex X m_Terms_keep 21 [.ref (c0 + 9), .ref (c0 + 3), .int (-2)] [] (hp c0 26 _ _) _
  refine Ex.nx rfl ?_
  refine Hx.get 9 rfl h9 rfl ?_
  refine Ex.nx rfl ?_
  refine Hx.get 9 rfl h9 rfl ?_
  refine Hx.alen 10 rfl h10 rfl ?_
  refine Ex.nx rfl ?_
  show Ex X m_Terms_keep 33 [.ref (c0 + 9), .ref (c0 + 3), .int (-2)] [] (hp c0 26 _ _) _
  refine Ex.nx rfl ?_
  refine Hx.get 9 rfl h9 rfl ?_
  refine Ex.nx rfl ?_
  refine Hx.call 3 rfl rfl h3 rfl rfl (hx_bytes h3 h4 h6) ?_
  show Ex X m_Terms_keep 41 [.ref (c0 + 9), .ref (c0 + 3), .int (-2)] [.int 0, .int 0] (hp c0 26 _ _) _
  refine Ex.nx rfl ?_
  show Ex X m_Terms_keep 42 [.ref (c0 + 9), .ref (c0 + 3), .int (-2)] [.int 0] (hp c0 26 _ _) _
  refine Ex.nx rfl ?_
  refine Ex.nx rfl ?_
  show Ex X m_Terms_keep 50 [.ref (c0 + 9), .ref (c0 + 3), .int (-2)] [] (hp c0 26 _ _) _
  refine Ex.nx rfl ?_
  refine Hx.get 9 rfl h9 rfl ?_
  refine Ex.nx rfl ?_
  refine Hx.get 9 rfl h9 rfl ?_
  refine Ex.nx rfl ?_
  refine Hx.call 3 rfl rfl h3 rfl rfl (hx_copy0 h3 h4 h6) ?_
  show Ex X m_Terms_keep 62 [.ref (c0 + 9), .ref (c0 + 3), .int (-2)] [.ref (c0 + 26), .int 0, .ref (c0 + 10)] (hp c0 31 _ _) _
  refine Hx.aast 10 26 rfl h10 rfl (by decide) ?_
  refine Ex.nx rfl ?_
  refine Ex.nx rfl ?_
  refine Hx.get 9 rfl h9 rfl ?_
  refine Ex.nx rfl ?_
  refine Ex.nx rfl ?_
  show Ex X m_Terms_keep 70 [.ref (c0 + 9), .ref (c0 + 3), .int (-2)] [.int 1, .ref (c0 + 9)] (hp c0 31 _ _) _
  refine Hx.put 9 rfl h9 rfl rfl rfl ?_
  refine Ex.nx rfl ?_
  refine Ex.nx rfl ?_
  refine Hx.get 9 rfl rfl rfl ?_
  refine Ex.nx rfl ?_
  refine Hx.call 3 rfl rfl h3 rfl rfl (hx_bytes h3 h4 h6) ?_
  show Ex X m_Terms_keep 82 [.ref (c0 + 9), .ref (c0 + 3), .int (-2)] [.int 0, .int 0, .ref (c0 + 9)] (hp c0 31 _ _) _
  refine Ex.nx rfl ?_
  show Ex X m_Terms_keep 83 [.ref (c0 + 9), .ref (c0 + 3), .int (-2)] [.int 0, .ref (c0 + 9)] (hp c0 31 _ _) _
  refine Hx.put 9 rfl rfl rfl rfl rfl ?_
  refine Ex.nx rfl ?_
  refine Hx.get 9 rfl rfl rfl ?_
  exact Ex.ret rfl (ev_reti rfl) ⟨_, _, _, rfl, by omega, by omega, (rsm.up (rsm.up (rsm.up (rsm.up (rsm.up (rsm.up (rsm.up (rsm.up (rsm.up (rsm.up (rsm.up (rsm.up (rsm.up (rsm.up rsm.rf (by decide)) (by decide)) (by decide)) (by decide)) (by decide)) (by decide)) (by decide)) (by decide)) (by decide)) (by decide)) (by decide)) (by decide)) (by decide)) (by decide)), rfl⟩
set_option maxRecDepth 100000 in
set_option maxHeartbeats 1000000 in
theorem p_count {X : ev_X} {c0 z : Nat} : Ex X m_Tab_count 0 [.ref (c0 + 0)] [] (hp c0 26 z (fz c0)) (pOk c0 26 z (fz c0) (some (.int 0))) := by
  refine Ex.nx rfl ?_
  refine Hx.get 0 rfl rfl rfl ?_
  refine Hx.call 9 rfl rfl rfl rfl rfl (hx_tsize rfl) ?_
  show Ex X m_Tab_count 7 [.ref (c0 + 0)] [.int 0] (hp c0 26 _ _) _
  exact Ex.ret rfl (ev_reti rfl) ⟨_, _, _, rfl, by omega, by omega, rsm.rf, rfl⟩
set_option maxRecDepth 100000 in
set_option maxHeartbeats 1000000 in
theorem p_used {X : ev_X} {c0 z : Nat} : Ex X m_Tab_used 0 [.ref (c0 + 0)] [] (hp c0 26 z (fz c0)) (pOk c0 26 z (fz c0) (some (.int 0))) := by
  refine Ex.nx rfl ?_
  refine Hx.get 0 rfl rfl rfl ?_
  refine Hx.call 9 rfl rfl rfl rfl rfl (hx_tbytes rfl) ?_
  show Ex X m_Tab_used 7 [.ref (c0 + 0)] [.int 0] (hp c0 26 _ _) _
  exact Ex.ret rfl (ev_reti rfl) ⟨_, _, _, rfl, by omega, by omega, rsm.rf, rfl⟩
set_option maxRecDepth 100000 in
set_option maxHeartbeats 1000000 in
theorem p_place {X : ev_X} {c0 z : Nat} : Ex X m_Tab_place 0 [.ref (c0 + 0)] [] (hp c0 26 z (fz c0)) (pOk c0 26 z (fz c0) (some (.int 0))) := by
  refine Ex.nx rfl ?_
  refine Hx.get 0 rfl rfl rfl ?_
  refine Hx.call 8 rfl rfl rfl rfl rfl (hx_latest rfl) ?_
  show Ex X m_Tab_place 7 [.ref (c0 + 0)] [.int 0] (hp c0 26 _ _) _
  exact Ex.ret rfl (ev_reti rfl) ⟨_, _, _, rfl, by omega, by omega, rsm.rf, rfl⟩
set_option maxRecDepth 100000 in
set_option maxHeartbeats 1000000 in
theorem p_kind {X : ev_X} {c0 z : Nat} (t : Int32) : Ex X m_Tab_kind 0 [.ref (c0 + 0), .int t, ev_dead] [] (hp c0 26 z (fz c0)) (pOk c0 26 z (fz c0) (some (.int (-1)))) := by
  refine Ex.nx rfl ?_
  refine Hx.get 0 rfl rfl rfl ?_
  refine Ex.nx rfl ?_
  refine Hx.call 9 rfl rfl rfl rfl rfl (hx_get0 t rfl) ?_
  show Ex X m_Tab_kind 8 [.ref (c0 + 0), .int t, ev_dead] [.null] (hp c0 26 _ _) _
  refine Ex.nx rfl ?_
  show Ex X m_Tab_kind 9 [.ref (c0 + 0), .int t, .null] [] (hp c0 26 _ _) _
  refine Ex.nx rfl ?_
  refine Ex.nx rfl ?_
  show Ex X m_Tab_kind 13 [.ref (c0 + 0), .int t, .null] [] (hp c0 26 _ _) _
  refine Ex.nx rfl ?_
  refine Ex.nx rfl ?_
  exact Ex.ret rfl (ev_reti rfl) ⟨_, _, _, rfl, by omega, by omega, rsm.rf, rfl⟩
set_option maxRecDepth 100000 in
set_option maxHeartbeats 1000000 in
theorem p_value {X : ev_X} {c0 z : Nat} (t : Int32) : Ex X m_Tab_value 0 [.ref (c0 + 0), .int t, ev_dead] [] (hp c0 26 z (fz c0)) (pOk c0 26 z (fz c0) (some (.long 0))) := by
  refine Ex.nx rfl ?_
  refine Hx.get 0 rfl rfl rfl ?_
  refine Ex.nx rfl ?_
  refine Hx.call 9 rfl rfl rfl rfl rfl (hx_get0 t rfl) ?_
  show Ex X m_Tab_value 8 [.ref (c0 + 0), .int t, ev_dead] [.null] (hp c0 26 _ _) _
  refine Ex.nx rfl ?_
  show Ex X m_Tab_value 9 [.ref (c0 + 0), .int t, .null] [] (hp c0 26 _ _) _
  refine Ex.nx rfl ?_
  refine Ex.nx rfl ?_
  show Ex X m_Tab_value 13 [.ref (c0 + 0), .int t, .null] [] (hp c0 26 _ _) _
  refine Ex.nx rfl ?_
  refine Ex.nx rfl ?_
  exact Ex.ret rfl rfl ⟨_, _, _, rfl, by omega, by omega, rsm.rf, rfl⟩
set_option maxRecDepth 100000 in
set_option maxHeartbeats 1000000 in
theorem p_scale {X : ev_X} {c0 z : Nat} (t : Int32) : Ex X m_Tab_scale 0 [.ref (c0 + 0), .int t, ev_dead] [] (hp c0 26 z (fz c0)) (pOk c0 26 z (fz c0) (some (.int (-1)))) := by
  refine Ex.nx rfl ?_
  refine Hx.get 0 rfl rfl rfl ?_
  refine Ex.nx rfl ?_
  refine Hx.call 9 rfl rfl rfl rfl rfl (hx_get0 t rfl) ?_
  show Ex X m_Tab_scale 8 [.ref (c0 + 0), .int t, ev_dead] [.null] (hp c0 26 _ _) _
  refine Ex.nx rfl ?_
  show Ex X m_Tab_scale 9 [.ref (c0 + 0), .int t, .null] [] (hp c0 26 _ _) _
  refine Ex.nx rfl ?_
  refine Ex.nx rfl ?_
  show Ex X m_Tab_scale 13 [.ref (c0 + 0), .int t, .null] [] (hp c0 26 _ _) _
  refine Ex.nx rfl ?_
  refine Ex.nx rfl ?_
  exact Ex.ret rfl (ev_reti rfl) ⟨_, _, _, rfl, by omega, by omega, rsm.rf, rfl⟩
set_option maxRecDepth 100000 in
set_option maxHeartbeats 1000000 in
theorem p_write {X : ev_X} {c0 z : Nat} (t : Int32) : Ex X m_Tab_write 0 [.ref (c0 + 0), .int t, ev_dead] [] (hp c0 26 z (fz c0)) (pOk c0 26 z (fz c0) (some (.int (-1)))) := by
  refine Ex.nx rfl ?_
  refine Hx.get 0 rfl rfl rfl ?_
  refine Ex.nx rfl ?_
  refine Hx.call 9 rfl rfl rfl rfl rfl (hx_get0 t rfl) ?_
  show Ex X m_Tab_write 8 [.ref (c0 + 0), .int t, ev_dead] [.null] (hp c0 26 _ _) _
  refine Ex.nx rfl ?_
  show Ex X m_Tab_write 9 [.ref (c0 + 0), .int t, .null] [] (hp c0 26 _ _) _
  refine Ex.nx rfl ?_
  refine Ex.nx rfl ?_
  show Ex X m_Tab_write 13 [.ref (c0 + 0), .int t, .null] [] (hp c0 26 _ _) _
  refine Ex.nx rfl ?_
  refine Ex.nx rfl ?_
  exact Ex.ret rfl (ev_reti rfl) ⟨_, _, _, rfl, by omega, by omega, rsm.rf, rfl⟩
set_option maxRecDepth 100000 in
set_option maxHeartbeats 1000000 in
theorem p_part {X : ev_X} {c0 z : Nat} (t u : Int32) : Ex X m_Tab_part 0 [.ref (c0 + 0), .int t, .int u, ev_dead] [] (hp c0 26 z (fz c0)) (pOk c0 26 z (fz c0) (some (.int (-1)))) := by
  refine Ex.nx rfl ?_
  refine Hx.get 0 rfl rfl rfl ?_
  refine Ex.nx rfl ?_
  refine Hx.call 9 rfl rfl rfl rfl rfl (hx_get0 t rfl) ?_
  show Ex X m_Tab_part 8 [.ref (c0 + 0), .int t, .int u, ev_dead] [.null] (hp c0 26 _ _) _
  refine Ex.nx rfl ?_
  show Ex X m_Tab_part 9 [.ref (c0 + 0), .int t, .int u, .null] [] (hp c0 26 _ _) _
  refine Ex.nx rfl ?_
  refine Ex.nx rfl ?_
  show Ex X m_Tab_part 13 [.ref (c0 + 0), .int t, .int u, .null] [] (hp c0 26 _ _) _
  refine Ex.nx rfl ?_
  exact Ex.ret rfl (ev_reti rfl) ⟨_, _, _, rfl, by omega, by omega, rsm.rf, rfl⟩
set_option maxRecDepth 100000 in
set_option maxHeartbeats 1000000 in
theorem p_order {X : ev_X} {c0 z : Nat} (t u : Int32) : Ex X m_Tab_order 0 [.ref (c0 + 0), .int t, .int u, ev_dead, ev_dead] [] (hp c0 26 z (fz c0)) (pOk c0 26 z (fz c0) (some (.int 2))) := by
  refine Ex.nx rfl ?_
  refine Hx.get 0 rfl rfl rfl ?_
  refine Ex.nx rfl ?_
  refine Hx.call 9 rfl rfl rfl rfl rfl (hx_get0 t rfl) ?_
  show Ex X m_Tab_order 8 [.ref (c0 + 0), .int t, .int u, ev_dead, ev_dead] [.null] (hp c0 26 _ _) _
  refine Ex.nx rfl ?_
  show Ex X m_Tab_order 9 [.ref (c0 + 0), .int t, .int u, .null, ev_dead] [] (hp c0 26 _ _) _
  refine Ex.nx rfl ?_
  refine Hx.get 0 rfl rfl rfl ?_
  refine Ex.nx rfl ?_
  refine Hx.call 9 rfl rfl rfl rfl rfl (hx_get0 u rfl) ?_
  show Ex X m_Tab_order 17 [.ref (c0 + 0), .int t, .int u, .null, ev_dead] [.null] (hp c0 26 _ _) _
  refine Ex.nx rfl ?_
  show Ex X m_Tab_order 19 [.ref (c0 + 0), .int t, .int u, .null, .null] [] (hp c0 26 _ _) _
  refine Ex.nx rfl ?_
  refine Ex.nx rfl ?_
  show Ex X m_Tab_order 28 [.ref (c0 + 0), .int t, .int u, .null, .null] [] (hp c0 26 _ _) _
  refine Ex.nx rfl ?_
  refine Ex.nx rfl ?_
  exact Ex.ret rfl (ev_reti rfl) ⟨_, _, _, rfl, by omega, by omega, rsm.rf, rfl⟩
set_option maxRecDepth 100000 in
set_option maxHeartbeats 1000000 in
theorem p_same {X : ev_X} {c0 z : Nat} (t u : Int32) : Ex X m_Tab_same 0 [.ref (c0 + 0), .int t, .int u, ev_dead, ev_dead] [] (hp c0 26 z (fz c0)) (pOk c0 26 z (fz c0) (some (.int 2))) := by
  refine Ex.nx rfl ?_
  refine Hx.get 0 rfl rfl rfl ?_
  refine Ex.nx rfl ?_
  refine Hx.call 9 rfl rfl rfl rfl rfl (hx_get0 t rfl) ?_
  show Ex X m_Tab_same 8 [.ref (c0 + 0), .int t, .int u, ev_dead, ev_dead] [.null] (hp c0 26 _ _) _
  refine Ex.nx rfl ?_
  show Ex X m_Tab_same 9 [.ref (c0 + 0), .int t, .int u, .null, ev_dead] [] (hp c0 26 _ _) _
  refine Ex.nx rfl ?_
  refine Hx.get 0 rfl rfl rfl ?_
  refine Ex.nx rfl ?_
  refine Hx.call 9 rfl rfl rfl rfl rfl (hx_get0 u rfl) ?_
  show Ex X m_Tab_same 17 [.ref (c0 + 0), .int t, .int u, .null, ev_dead] [.null] (hp c0 26 _ _) _
  refine Ex.nx rfl ?_
  show Ex X m_Tab_same 19 [.ref (c0 + 0), .int t, .int u, .null, .null] [] (hp c0 26 _ _) _
  refine Ex.nx rfl ?_
  refine Ex.nx rfl ?_
  show Ex X m_Tab_same 28 [.ref (c0 + 0), .int t, .int u, .null, .null] [] (hp c0 26 _ _) _
  refine Ex.nx rfl ?_
  exact Ex.ret rfl (ev_reti rfl) ⟨_, _, _, rfl, by omega, by omega, rsm.rf, rfl⟩
set_option maxRecDepth 100000 in
set_option maxHeartbeats 1000000 in
theorem p_less {X : ev_X} {c0 z : Nat} (t u : Int32) : Ex X m_Tab_less 0 [.ref (c0 + 0), .int t, .int u, ev_dead, ev_dead] [] (hp c0 26 z (fz c0)) (pOk c0 26 z (fz c0) (some (.int 2))) := by
  refine Ex.nx rfl ?_
  refine Hx.get 0 rfl rfl rfl ?_
  refine Ex.nx rfl ?_
  refine Hx.call 9 rfl rfl rfl rfl rfl (hx_get0 t rfl) ?_
  show Ex X m_Tab_less 8 [.ref (c0 + 0), .int t, .int u, ev_dead, ev_dead] [.null] (hp c0 26 _ _) _
  refine Ex.nx rfl ?_
  show Ex X m_Tab_less 9 [.ref (c0 + 0), .int t, .int u, .null, ev_dead] [] (hp c0 26 _ _) _
  refine Ex.nx rfl ?_
  refine Hx.get 0 rfl rfl rfl ?_
  refine Ex.nx rfl ?_
  refine Hx.call 9 rfl rfl rfl rfl rfl (hx_get0 u rfl) ?_
  show Ex X m_Tab_less 17 [.ref (c0 + 0), .int t, .int u, .null, ev_dead] [.null] (hp c0 26 _ _) _
  refine Ex.nx rfl ?_
  show Ex X m_Tab_less 19 [.ref (c0 + 0), .int t, .int u, .null, .null] [] (hp c0 26 _ _) _
  refine Ex.nx rfl ?_
  refine Ex.nx rfl ?_
  show Ex X m_Tab_less 47 [.ref (c0 + 0), .int t, .int u, .null, .null] [] (hp c0 26 _ _) _
  refine Ex.nx rfl ?_
  exact Ex.ret rfl (ev_reti rfl) ⟨_, _, _, rfl, by omega, by omega, rsm.rf, rfl⟩
set_option maxRecDepth 100000 in
set_option maxHeartbeats 1000000 in
theorem p_written {X : ev_X} {c0 z : Nat} (t : Int32) : Ex X m_Tab_written 0 [.ref (c0 + 0), .int t] [] (hp c0 26 z (fz c0)) (pOk c0 26 z (fz c0) (some (.int (-1)))) := by
  refine Ex.nx rfl ?_
  refine Hx.get 0 rfl rfl rfl ?_
  refine Ex.nx rfl ?_
  refine Hx.call 11 rfl rfl rfl rfl rfl (hx_byteAt0 t rfl rfl) ?_
  show Ex X m_Tab_written 8 [.ref (c0 + 0), .int t] [.int (-1)] (hp c0 26 _ _) _
  exact Ex.ret rfl (ev_reti rfl) ⟨_, _, _, rfl, by omega, by omega, rsm.rf, rfl⟩
