/-! A byte of a long: the two sides take the same. -/
theorem bvx (x : BitVec 64) (s : Nat) (hs : s ≤ 56) : (x.sshiftRight s &&& 255#64).setWidth 32 = (x >>> s).setWidth 32 &&& 255#32 := by
  apply BitVec.eq_of_getLsbD_eq
  intro i hi
  have e1 : (255#64).getLsbD i = decide (i < 8) := by
    have : ∀ i, i < 32 → (255#64).getLsbD i = decide (i < 8) := by decide
    exact this i hi
  have e2 : (255#32).getLsbD i = decide (i < 8) := by
    have : ∀ i, i < 32 → (255#32).getLsbD i = decide (i < 8) := by decide
    exact this i hi
  rw [BitVec.getLsbD_setWidth, BitVec.getLsbD_and, BitVec.getLsbD_and, e1, e2, BitVec.getLsbD_setWidth, BitVec.getLsbD_sshiftRight, BitVec.getLsbD_ushiftRight]
  by_cases h8 : i < 8
  · have h1 : ¬ 64 ≤ i := by omega
    have h2 : s + i < 64 := by omega
    simp [h8, hi, h1, h2]
  · simp [h8]
theorem rb_bv (v : Int64) : ∀ m, m < 8 → (rb v m).toBitVec = (v.toBitVec.sshiftRight (8 * m) &&& 255#64).setWidth 32 := by
  intro m hm
  have h : m = 0 ∨ m = 1 ∨ m = 2 ∨ m = 3 ∨ m = 4 ∨ m = 5 ∨ m = 6 ∨ m = 7 := by omega
  rw [← BitVec.signExtend_eq_setWidth_of_le _ (by decide)]
  rcases h with rfl | rfl | rfl | rfl | rfl | rfl | rfl | rfl <;> rfl
theorem cb_bv (v : Int64) : ∀ m, m < 8 → (cb v m).toBitVec = ((v.toBitVec >>> (8 * m)).setWidth 32 &&& 255#32) := by
  intro m hm
  have h : m = 0 ∨ m = 1 ∨ m = 2 ∨ m = 3 ∨ m = 4 ∨ m = 5 ∨ m = 6 ∨ m = 7 := by omega
  rw [← BitVec.signExtend_eq_setWidth_of_le _ (by decide)]
  rcases h with rfl | rfl | rfl | rfl | rfl | rfl | rfl | rfl <;> rfl
theorem rb_cb (v : Int64) {m : Nat} (hm : m < 8) : rb v m = cb v m := Int32.toBitVec_inj.mp (by rw [rb_bv v m hm, cb_bv v m hm, bvx _ _ (by omega)])
theorem trf_get (v : Int64) : ∀ (m s : Nat) (f : Nat → Int32) (t : List Nat) (hm : m ≤ 8) (hs : s = t.length) (hf : ∀ j, j < t.length → f j = nI (t.getD j 0)), ∀ j, j < (t ++ byl v m).length → trf m s f v j = nI ((t ++ byl v m).getD j 0) := by
  intro m
  induction m with
  | zero =>
    intro s f t hm hs hf j hj
    rw [byl, List.append_nil] at hj ⊢
    exact hf j hj
  | succ m ih =>
    intro s f t hm hs hf j hj
    rw [byl, show t ++ (cbN v m :: byl v m) = t ++ [cbN v m] ++ byl v m by simp] at hj ⊢
    rw [trf]
    refine ih (s + 1) _ (t ++ [cbN v m]) (by omega) (by simp [hs]) (fun k hk => ?_) j hj
    rw [List.length_append, List.length_cons, List.length_nil] at hk
    rw [getD_snoc hk]
    subst hs
    split
    · next q => rw [pk_un (by omega)]; exact hf k q
    · next q => rw [show k = t.length by omega, pk_us, rb_cb v (by omega), cb_N]
theorem byl_by (v : Int64) : ∀ m x, x ∈ byl v m → x < 256 := by
  intro m
  induction m with
  | zero => intro x hx; exact absurd hx List.not_mem_nil
  | succ m ih =>
    intro x hx
    rw [byl, List.mem_cons] at hx
    obtain rfl | hx := hx
    · exact cbN_lt v m
    · exact ih x hx
