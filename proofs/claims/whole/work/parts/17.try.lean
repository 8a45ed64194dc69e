set_option maxRecDepth 100000 in
theorem rx_isGood (X : ev_X) (c0 : Nat) (σ : Nat → Int32) (τ : Nat → Nat → Int32) : Rx X c0 m_Mod_isGood 0 [.ref (c0 + 16)] [] σ τ (fun r σ' τ' => r = some (.int (if σ 18 = 0 then 1 else 0)) ∧ σ' = σ ∧ τ' = τ) := by
  refine Rx.go (fun _ => rfl) ?_
  refine Rx.get rfl rfl ?_
  refine Rx.go (fun _ => rfl) ?_
  refine Rx.ite (fun c1 => ?_) (fun c1 => ?_)
  · simp only [ev_c1, decide_eq_true_eq] at c1
    refine Rx.go (fun _ => rfl) ?_
    exact Rx.ret rfl rfl ⟨by rw [if_neg c1]; rfl, rfl, rfl⟩
  · simp only [ev_c1, decide_eq_false_iff_not, Classical.not_not] at c1
    refine Rx.go (fun _ => rfl) ?_
    refine Rx.go (fun _ => rfl) ?_
    exact Rx.ret rfl rfl ⟨by rw [if_pos c1]; rfl, rfl, rfl⟩
set_option maxRecDepth 100000 in
theorem rx_put (X : ev_X) (c0 : Nat) (σ : Nat → Int32) (τ : Nat → Nat → Int32) (b : Int32) (h0 : ¬ (σ 10 < 0 ∨ 260 ≤ (σ 10).toNatClampNeg)) : Rx X c0 m_Mod_put 0 [.ref (c0 + 16), .int b] [] σ τ (fun r σ' τ' => r = none ∧ σ' = upd σ 10 (σ 10 + 1) ∧ τ' = va_up τ 9 (upd (τ 9) (σ 10).toNatClampNeg b)) := by
  refine Rx.go (fun _ => rfl) ?_
  refine Rx.get rfl rfl ?_
  refine Rx.go (fun _ => rfl) ?_
  refine Rx.get rfl rfl ?_
  refine Rx.go (fun _ => rfl) ?_
  refine Rx.ast 9 rfl rfl h0 ?_
  refine Rx.go (fun _ => rfl) ?_
  refine Rx.go (fun _ => rfl) ?_
  refine Rx.get rfl rfl ?_
  refine Rx.go (fun _ => rfl) ?_
  refine Rx.go (fun _ => rfl) ?_
  refine Rx.put rfl (by decide) rfl rfl ?_
  exact Rx.ret rfl rfl ⟨rfl, rfl, rfl⟩
