/-! What is read may be kept. -/
theorem snoc_by {acc : List Nat} {b : Nat} (h : ∀ i, acc.getD i 0 < 256) (hb : b < 256) : ∀ i, (acc ++ [b]).getD i 0 < 256 := by
  intro i
  by_cases q : i < acc.length + 1
  · rw [getD_snoc q]
    split
    · exact h i
    · exact hb
  · rw [gd0 (by simp only [List.length_append, List.length_cons, List.length_nil]; omega)]; decide
theorem nil_by : ∀ i, ([] : List Nat).getD i 0 < 256 := fun i => by simp
theorem sI_by (t : List Nat) (ht : ∀ i, t.getD i 0 < 256) : ∀ (m q : Nat) (acc : List Nat), (∀ i, acc.getD i 0 < 256) → ∀ i, (sI t m q acc).2.2.getD i 0 < 256 := by
  intro m
  induction m with
  | zero => intro q acc h; exact h
  | succ m ih =>
    intro q acc h
    rw [sI]
    repeat' split
    all_goals first | exact h | exact ih _ _ (snoc_by h (ht _)) | exact ih _ _ (snoc_by h (eN_lt _ (ht _)))
theorem sTx_by {t : List Nat} (ht : ∀ i, t.getD i 0 < 256) : ∀ i, (sTx t).2.2.2.1.getD i 0 < 256 := by
  have h1 := sI_by t ht t.length 1 [] nil_by
  unfold sTx sTx2
  repeat' split
  all_goals first | exact h1 | exact nil_by
theorem sA_by {t : List Nat} (ht : ∀ i, t.getD i 0 < 256) (h7 : (sA t).2.2.1 = 7) : ∀ i, (sA t).2.2.2.2.2.1.getD i 0 < 256 := by
  unfold sA at h7 ⊢
  split at h7
  · next e => rw [if_pos e]; exact sTx_by ht
  · next e =>
    rw [if_neg e]
    split at h7
    · exact absurd (show (2 : Int32) = 7 from h7) (by decide)
    · next e2 =>
      rw [if_neg e2]
      split at h7
      · exact absurd (show (1 : Int32) = 7 from h7) (by decide)
      · next e3 => rw [if_neg e3]; exact nil_by
theorem sAll_ok {t : List Nat} (ht : ∀ i, t.getD i 0 < 256) (h : (sAll t).1 = true) : okT (sAll t).2.2 := by
  have h1 : (sAll1 (sA t)).1 = true → okT (sAll1 (sA t)).2.2 := by
    unfold sAll1
    by_cases e : (sA t).1 = true
    · rw [if_pos e]
      have hk := sA_ok ht e
      by_cases e7 : (sA t).2.2.1 = 7
      · rw [if_pos e7]
        exact fun h => sSe_ok (sA_by ht e7) hk.1 hk.2.1 h
      · rw [if_neg e7]; exact fun _ => hk
    · rw [if_neg e]; exact fun h => absurd h e
  unfold sAll sAll2 at h ⊢
  split at h
  · next e =>
    rw [if_pos e]
    split at h
    · cases h
    · next e2 => rw [if_neg e2]; exact h1 e
  · cases h
