/-! Truth values; methods that leave the heap as it is (Sx). -/
def bi (p : Bool) : Int32 := if p then 1 else 0
theorem bi_t {p : Bool} (h : p = true) : bi p = 1 := by rw [h]; rfl
theorem bi_f {p : Bool} (h : p = false) : bi p = 0 := by rw [h]; rfl
theorem bi_eqt {p : Bool} (h : ev_c1 .eq (bi p) = true) : p = false := by cases p <;> first | rfl | cases h
theorem bi_eqf {p : Bool} (h : ev_c1 .eq (bi p) = false) : p = true := by cases p <;> first | rfl | cases h
theorem bi_net {p : Bool} (h : ev_c1 .ne (bi p) = true) : p = true := by cases p <;> first | rfl | cases h
theorem bi_nef {p : Bool} (h : ev_c1 .ne (bi p) = false) : p = false := by cases p <;> first | rfl | cases h
theorem bi_ret {M : Nat} {p : Bool} (h : pg_r M = some .boolean) : ev_ret M .ireturn [.int (bi p)] = some (some (.int (bi p))) := by
  unfold ev_ret
  rw [h]
  cases p <;> rfl
theorem ret_1 {p : Bool} (h : p = true) : (some (.int 1) : Option Value) = some (.int (bi p)) := by rw [bi_t h]
theorem ret_0 {p : Bool} (h : p = false) : (some (.int 0) : Option Value) = some (.int (bi p)) := by rw [bi_f h]
theorem ev_reti {M : Nat} {v : Int32} (h : pg_r M = some .int) : ev_ret M .ireturn [.int v] = some (some (.int v)) := by
  unfold ev_ret
  rw [h]
  simp [narrow]
def Sx (X : ev_X) (M pc : Nat) (A st : List Value) (Q : Option Value → Prop) : Prop := ∀ h, Ex X M pc A st h (fun v h' => h' = h ∧ Q v)
section SXR
variable {X : ev_X} {M pc pc' nx a b w idx : Nat} {A A' st st' : List Value} {Q : Option Value → Prop}
theorem Sx.go (h1 : ∀ h, ev_nx X M pc A st h = some (pc', A', st', h)) (k : Sx X M pc' A' st' Q) : Sx X M pc A st Q := fun h => Ex.nx (h1 h) (k h)
theorem Sx.ite {p1 p2 : Nat} {c : Bool} (kt : c = true → Sx X M p1 A st Q) (kf : c = false → Sx X M p2 A st Q) : Sx X M (if c = true then p1 else p2) A st Q := by
  cases c
  · exact kf rfl
  · exact kt rfl
theorem Sx.ret {i : Instr} {v : Option Value} (o : pg_ops M pc = some (i, nx, a, b, w)) (hr : ev_ret M i st = some v) (q : Q v) : Sx X M pc A st Q := fun h => Ex.ret o hr ⟨rfl, q⟩
theorem Sx.scall {as rest A0 : List Value} {Q1 : Option Value → Prop} (o : pg_ops M pc = some (.invokestatic idx, nx, a, b, w)) (hs : (decide (a ∈ pg_sp)) = false) (ha : ev_argS (pg_n a) st = some (as, rest)) (he : ev_ent (pg_L a) as = some A0) (k1 : Sx X a 0 A0 [] Q1)
    (k2 : ∀ v : Option Value, Q1 v → Sx X M nx A (v.toList ++ rest) Q) : Sx X M pc A st Q := fun h => by
  refine Ex.call (rest := rest) o rfl ?_ he (k1 h) (fun v h1 ⟨q1, q2⟩ => ?_)
  · simp only [ev_cal, if_neg (of_decide_eq_false hs), ha]
  · subst q1
    exact k2 v q2 h1
end SXR
-- bytes
def isD (b : Int32) : Bool := !decide (b < 48) && !decide (57 < b)
def isL (b : Int32) : Bool := (!decide (b < 97) && !decide (122 < b)) || (!decide (b < 65) && !decide (90 < b))
def isW (b : Int32) : Bool := isL b || isD b || decide (b = 95)
def isNB (b : Int32) : Bool := !decide (b ≤ 32) && decide (b < 127) && !(decide (b = 60) || decide (b = 62) || decide (b = 34) || decide (b = 92) || decide (b = 94) || decide (b = 123) || decide (b = 124) || decide (b = 125) || decide (b = 96))
