/-! A call of the reference that changes nothing. -/
theorem RC.id {X : ev_X} {c0 M pc : Nat} {A st : List Value} {ts : RT} {t sh : List Nat} {u pl : Nat} {σ : Nat → Int32} {τ : Nat → Nat → Int32} {x : Value} (hC : RC ts t u pl sh σ τ) (h : Rx X c0 M pc A st σ τ (fun r σ' τ' => r = some x ∧ σ' = σ ∧ τ' = τ)) : Rx X c0 M pc A st σ τ (rC ts t u pl sh x) := h.mono (fun r σ' τ' ⟨e1, e2, e3⟩ => ⟨e1, by rw [e2, e3]; exact hC⟩)
/-- a number is a term's, or no term's -/
theorem RC.num {ts : RT} {t sh : List Nat} {u pl : Nat} {σ : Nat → Int32} {τ : Nat → Nat → Int32} (hC : RC ts t u pl sh σ τ) (x : Int32) : noT σ x ∨ ∃ i, i < ts.length ∧ x = nI (i + 1) := by
  by_cases h : (!decide (x ≤ 0) && !decide (σ 7 < x)) = false
  · exact Or.inl h
  · have h1 : (!decide (x ≤ 0) && !decide (σ 7 < x)) = true := by
      cases e : (!decide (x ≤ 0) && !decide (σ 7 < x))
      · exact absurd e h
      · rfl
    rw [Bool.and_eq_true, Bool.not_eq_true', Bool.not_eq_true', decide_eq_false_iff_not, decide_eq_false_iff_not, hC.1.1] at h1
    have hl := hC.1.2.1
    obtain ⟨m, hm, rfl⟩ := nI_of2 (M := nI ts.length) (n := ts.length) (nI_toInt (by omega)) (fun q => h1.1 (Int32.le_of_lt q)) (Int32.not_lt.mp h1.2)
    refine Or.inr ⟨m - 1, ?_, ?_⟩
    · have : m ≠ 0 := fun e => h1.1 (by rw [e]; decide)
      omega
    · have : m ≠ 0 := fun e => h1.1 (by rw [e]; decide)
      rw [show m - 1 + 1 = m by omega]
