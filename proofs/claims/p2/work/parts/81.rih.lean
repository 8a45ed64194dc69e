/-! What the reference reads are bytes. (rows laid by wip/whole/rr17.py) -/
theorem one_by {b : Nat} (h : b < 256) : ∀ x, x ∈ [b] → x < 256 := fun x hx => by rw [List.mem_singleton] at hx; omega
theorem wN_by {bel dec : Bool} {ds : List Nat} {g W L : Nat} (h : ∀ x, x ∈ ds → x < 256) : ∀ x, x ∈ wN bel dec ds g W L → x < 256 := by
  have h1 : ∀ x a b, x ∈ (ds.drop a).take b → x < 256 := fun x a b hx => h x (List.mem_of_mem_drop (List.mem_of_mem_take hx))
  intro x hx
  unfold wN wS wZ wD at hx
  simp only [List.mem_append] at hx
  obtain hx | hx | hx | hx := hx
  · split at hx <;> simp at hx; omega
  · split at hx <;> simp at hx; omega
  · exact h1 _ _ _ hx
  · split at hx
    · simp only [List.mem_append] at hx
      obtain (hx | hx) | hx := hx
      · exact one_by (by decide) x hx
      · split at hx
        · exact one_by (by decide) x hx
        · exact absurd hx (List.not_mem_nil)
      · exact h1 _ _ _ hx
    · simp at hx
theorem nrO_by {l ds : List Nat} {q : Nat} {bf : Option Nat} (hl : ∀ i, l.getD i 0 < 256) (h : nrO l q ds bf) : ∀ i, ds.getD i 0 < 256 := by
  have h0 := rD_by l hl (l.length - sgn0 l) (sgn0 l) [] nil_by
  obtain ⟨-, e, -⟩ | ⟨q1, ds1, -, e, -, -, e2⟩ := h
  · rw [show rD l (l.length - sgn0 l) (sgn0 l) [] = _ from e] at h0; exact h0
  · rw [show rD l (l.length - sgn0 l) (sgn0 l) [] = _ from e] at h0
    have h1 := rD_by l hl (l.length - (q1 + 1)) (q1 + 1) ds1 h0
    rw [e2] at h1; exact h1
theorem wl_by : ∀ k, k < 12 → ∀ x, x ∈ wl k → x < 256 := by decide
theorem prO_by {l d : List Nat} {q kd : Nat} (hl : ∀ i, l.getD i 0 < 256) (h : prO l q d kd) : ∀ x, x ∈ d → x < 256 := by
  obtain ⟨k, hk, -, -, rfl, -⟩ | ⟨-, ds, bf, L, g, h1, -, h18, -, -, rfl, -⟩ := h
  · exact wl_by k (by omega)
  · exact wN_by (by_mem.mp (nrO_by hl h1))
theorem app_by {a b : List Nat} (ha : ∀ x, x ∈ a → x < 256) (hb : ∀ x, x ∈ b → x < 256) : ∀ x, x ∈ a ++ b → x < 256 := fun x hx => (List.mem_append.mp hx).elim (ha x) (hb x)
theorem sB_by (t : List Nat) (ht : ∀ i, t.getD i 0 < 256) : ∀ (m q : Nat) (acc : List Nat), (∀ i, acc.getD i 0 < 256) → ∀ i, (sB t m q acc).2.2.getD i 0 < 256 := by
  intro m
  induction m with
  | zero => intro q acc h; exact h
  | succ m ih =>
    intro q acc h
    rw [sB]
    repeat' split
    all_goals first | exact h | exact ih _ _ (snoc_by h (ht _))
theorem sBk_by {t : List Nat} (ht : ∀ i, t.getD i 0 < 256) : ∀ i, (sBk t).2.2.getD i 0 < 256 := by
  unfold sBk bkF
  repeat' split
  all_goals first | exact nil_by | exact sB_by t ht _ _ _ nil_by
theorem smlN_by {b : Nat} (h : b < 256) : smlN b < 256 := by
  unfold smlN
  repeat' split
  all_goals omega
theorem sT_by (t : List Nat) (ht : ∀ i, t.getD i 0 < 256) : ∀ (m q run : Nat) (fs : Bool) (acc : List Nat), (∀ i, acc.getD i 0 < 256) → ∀ i, (sT t m q run fs acc).2.2.getD i 0 < 256 := by
  intro m
  induction m with
  | zero =>
    intro q run fs acc h
    unfold sT
    repeat' split
    all_goals exact h
  | succ m ih =>
    intro q run fs acc h
    rw [sT]
    repeat' split
    all_goals first | exact h | exact ih _ _ _ _ (snoc_by h (ht _)) | exact ih _ _ _ _ (snoc_by h (smlN_by (ht _)))
theorem roO_by {t d : List Nat} {q kd qq db : Nat} (ht : ∀ i, t.getD i 0 < 256) (h : roO t q d kd qq db) : ∀ x, x ∈ d → x < 256 := by
  obtain ⟨-, b, e, rfl, -⟩ | ⟨-, b, e, rfl, -⟩ | ⟨-, q1, acc, e1, h2⟩ | ⟨h, -⟩ := h
  · have h1 := sBk_by ht; rw [e] at h1
    exact app_by (by decide) (by_mem.mp h1)
  · have h1 := sNa_by ht 0; rw [e] at h1
    exact app_by (app_by (by decide) (by_mem.mp h1)) (by decide)
  · have ha := sI_by t ht t.length 1 [] nil_by
    rw [e1] at ha
    have hr := by_mem.mp (fm_by ha)
    have h0 : ∀ x, x ∈ [34] ++ acc.flatMap esW ++ [34] → x < 256 := app_by (app_by (by decide) hr) (by decide)
    obtain ⟨-, b, e, rfl, -⟩ | ⟨-, -, b, e, h3⟩ | ⟨-, -, -, rfl, -⟩ := h2
    · have h1 := sT_by t ht (t.length - (q1 + 1)) (q1 + 1) 0 true [] nil_by; rw [e] at h1
      exact app_by (app_by h0 (by decide)) (by_mem.mp h1)
    · have h1 := sNa_by ht (q1 + 1 + 1); rw [e] at h1
      obtain ⟨-, rfl, -⟩ | ⟨-, -, h4, -⟩ | ⟨-, -, rfl, -⟩ := h3
      · exact h0
      · exact prO_by (fm_by ha) h4
      · exact app_by (app_by (app_by (app_by (app_by h0 (by decide)) (by decide)) (by decide)) (by_mem.mp h1)) (by decide)
    · exact h0
  · exact prO_by ht h
