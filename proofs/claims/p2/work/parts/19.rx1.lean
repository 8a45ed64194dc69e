/-! Simple methods of the reference. (rows laid by wip/whole/rx2.py) -/
def tixP (σ : Nat → Int32) (t : Int32) : Prop := 0 < t.toInt ∧ t.toInt ≤ (σ 7).toInt ∧ (σ 7).toInt ≤ 2000
theorem tix_of {σ : Nat → Int32} {t : Int32} (h : t ≤ 0 ∨ σ 7 < t ∨ tixP σ t) (c : (!decide (t ≤ 0) && !decide (σ 7 < t)) = true) : tixP σ t := by
  simp only [Bool.and_eq_true, Bool.not_eq_true', decide_eq_false_iff_not] at c
  rcases h with h | h | h
  · exact absurd h c.1
  · exact absurd h c.2
  · exact h
theorem ix_lt {x y z : Int32} {n : Nat} (h0 : ¬ x < 0) (h1 : ¬ y ≤ x) (h2 : y ≤ z) (hz : z = Int32.ofNat n) (hn : n < 2 ^ 31 := by decide) : ¬ (x < 0 ∨ n ≤ x.toNatClampNeg) := by
  rintro (q | q)
  · exact h0 q
  · obtain ⟨j, hj, rfl⟩ := nI_of h0
    rw [nI_clamp hj] at q
    refine h1 (Int32.le_trans h2 ?_)
    rw [hz]
    exact nI_le q hj
set_option maxRecDepth 100000 in
set_option maxHeartbeats 1000000 in
theorem rx_isGood (X : ev_X) (c0 : Nat) (σ : Nat → Int32) (τ : Nat → Nat → Int32) : Rx X c0 m_Mod_isGood 0 [.ref (c0 + 16)] [] σ τ (fun r σ' τ' => r = some (.int (bi (decide (σ 18 = 0)))) ∧ σ' = σ ∧ τ' = τ) := by
  refine Rx.go (fun _ => rfl) ?_
  refine Rx.get rfl rfl ?_
  refine Rx.go (fun _ => rfl) ?_
  refine Rx.ite (fun c1 => ?_) (fun c1 => ?_)
  · replace c1 : ¬ (σ 18) = 0 := of_decide_eq_true c1
    show Rx X c0 m_Mod_isGood 11 [.ref (c0 + 16)] [] σ τ _
    refine Rx.go (fun _ => rfl) ?_
    exact Rx.ret rfl rfl ⟨ret_0 (by simp [decide_eq_true_eq, Int32.not_le, Int32.not_lt, c1]), rfl, rfl⟩
  · replace c1 : (σ 18) = 0 := Classical.not_not.mp (of_decide_eq_false c1)
    show Rx X c0 m_Mod_isGood 7 [.ref (c0 + 16)] [] σ τ _
    refine Rx.go (fun _ => rfl) ?_
    refine Rx.go (fun _ => rfl) ?_
    exact Rx.ret rfl rfl ⟨ret_1 (by simp [decide_eq_true_eq, Int32.not_le, Int32.not_lt, c1]), rfl, rfl⟩
set_option maxRecDepth 100000 in
set_option maxHeartbeats 1000000 in
theorem rx_put (X : ev_X) (c0 : Nat) (σ : Nat → Int32) (τ : Nat → Nat → Int32) (b : Int32) (h0 : ¬ (σ 10 < 0 ∨ 260 ≤ (σ 10).toNatClampNeg)) : Rx X c0 m_Mod_put 0 [.ref (c0 + 16), .int b] [] σ τ (fun r σ' τ' => r = none ∧ σ' = upd σ 10 (σ 10 + 1) ∧ τ' = va_up τ 9 (upd (τ 9) (σ 10).toNatClampNeg b)) := by
  refine Rx.go (fun _ => rfl) ?_
  refine Rx.get rfl rfl ?_
  refine Rx.go (fun _ => rfl) ?_
  refine Rx.get rfl rfl ?_
  refine Rx.go (fun _ => rfl) ?_
  refine Rx.ast 9 rfl rfl h0 ?_
  refine Rx.go (fun _ => rfl) ?_
  refine Rx.go (fun _ => rfl) ?_
  refine Rx.get rfl rfl ?_
  refine Rx.go (fun _ => rfl) ?_
  refine Rx.go (fun _ => rfl) ?_
  refine Rx.put rfl (by decide) rfl rfl ?_
  exact Rx.ret rfl rfl ⟨rfl, rfl, rfl⟩
set_option maxRecDepth 100000 in
set_option maxHeartbeats 1000000 in
theorem rx_begin (X : ev_X) (c0 : Nat) (σ : Nat → Int32) (τ : Nat → Nat → Int32) (b : Int32) : Rx X c0 m_Mod_begin 0 [.ref (c0 + 16), .int b] [] σ τ (fun r σ' τ' => r = none ∧ σ' = upd (upd (upd (upd σ 11 b) 10 0) 12 0) 13 0 ∧ τ' = τ) := by
  refine Rx.go (fun _ => rfl) ?_
  refine Rx.go (fun _ => rfl) ?_
  refine Rx.put rfl (by decide) rfl rfl ?_
  refine Rx.go (fun _ => rfl) ?_
  refine Rx.go (fun _ => rfl) ?_
  refine Rx.put rfl (by decide) rfl rfl ?_
  refine Rx.go (fun _ => rfl) ?_
  refine Rx.go (fun _ => rfl) ?_
  refine Rx.put rfl (by decide) rfl rfl ?_
  refine Rx.go (fun _ => rfl) ?_
  refine Rx.go (fun _ => rfl) ?_
  refine Rx.put rfl (by decide) rfl rfl ?_
  exact Rx.ret rfl rfl ⟨rfl, rfl, rfl⟩
def rfail (σ : Nat → Int32) (w p : Int32) : Nat → Int32 := if σ 18 = 0 then upd (upd σ 18 w) 19 p else σ
set_option maxRecDepth 100000 in
set_option maxHeartbeats 1000000 in
theorem rx_fail (X : ev_X) (c0 : Nat) (σ : Nat → Int32) (τ : Nat → Nat → Int32) (b p : Int32) : Rx X c0 m_Mod_fail 0 [.ref (c0 + 16), .int b, .int p] [] σ τ (fun r σ' τ' => r = none ∧ σ' = rfail σ b p ∧ τ' = τ) := by
  refine Rx.go (fun _ => rfl) ?_
  refine Rx.get rfl rfl ?_
  refine Rx.go (fun _ => rfl) ?_
  refine Rx.ite (fun c1 => ?_) (fun c1 => ?_)
  · replace c1 : (σ 18) = 0 := of_decide_eq_true c1
    show Rx X c0 m_Mod_fail 8 [.ref (c0 + 16), .int b, .int p] [] σ τ _
    refine Rx.go (fun _ => rfl) ?_
    refine Rx.go (fun _ => rfl) ?_
    refine Rx.put rfl (by decide) rfl rfl ?_
    refine Rx.go (fun _ => rfl) ?_
    refine Rx.go (fun _ => rfl) ?_
    refine Rx.put rfl (by decide) rfl rfl ?_
    exact Rx.ret rfl rfl ⟨rfl, by simp [rfail, c1], rfl⟩
  · replace c1 : ¬ (σ 18) = 0 := of_decide_eq_false c1
    show Rx X c0 m_Mod_fail 7 [.ref (c0 + 16), .int b, .int p] [] σ τ _
    exact Rx.ret rfl rfl ⟨rfl, by simp [rfail, c1], rfl⟩
def rhere (σ : Nat → Int32) (τ : Nat → Nat → Int32) : Int32 := if σ 17 ≤ σ 16 then -1 else τ 0 (σ 16).toNatClampNeg
set_option maxRecDepth 100000 in
set_option maxHeartbeats 1000000 in
theorem rx_here (X : ev_X) (c0 : Nat) (σ : Nat → Int32) (τ : Nat → Nat → Int32) (h0 : ¬ σ 16 < 0) (h1 : σ 17 ≤ 240) : Rx X c0 m_Mod_here 0 [.ref (c0 + 16)] [] σ τ (fun r σ' τ' => r = some (.int (rhere σ τ)) ∧ σ' = σ ∧ τ' = τ) := by
  refine Rx.go (fun _ => rfl) ?_
  refine Rx.get rfl rfl ?_
  refine Rx.go (fun _ => rfl) ?_
  refine Rx.get rfl rfl ?_
  refine Rx.go (fun _ => rfl) ?_
  refine Rx.ite (fun c1 => ?_) (fun c1 => ?_)
  · replace c1 : (σ 17) ≤ (σ 16) := of_decide_eq_true c1
    show Rx X c0 m_Mod_here 23 [.ref (c0 + 16)] [] σ τ _
    refine Rx.go (fun _ => rfl) ?_
    exact Rx.ret rfl (ev_reti rfl) ⟨by simp [rhere, c1], rfl, rfl⟩
  · replace c1 : ¬ (σ 17) ≤ (σ 16) := of_decide_eq_false c1
    show Rx X c0 m_Mod_here 11 [.ref (c0 + 16)] [] σ τ _
    refine Rx.go (fun _ => rfl) ?_
    refine Rx.get rfl rfl ?_
    refine Rx.go (fun _ => rfl) ?_
    refine Rx.get rfl rfl ?_
    refine Rx.ald 0 rfl rfl (ix_lt h0 c1 h1 rfl) ?_
    refine Rx.go (fun _ => rfl) ?_
    exact Rx.ret rfl (ev_reti rfl) ⟨by simp [rhere, c1], rfl, rfl⟩
def rover (σ : Nat → Int32) (g : Bool) : Nat → Int32 := if σ 16 = σ 17 then rfail σ 2 (σ 17) else if g = true then upd σ 16 (σ 16 + 1) else rfail σ 3 (σ 16)
set_option maxRecDepth 100000 in
set_option maxHeartbeats 1000000 in
theorem rx_over (X : ev_X) (c0 : Nat) (σ : Nat → Int32) (τ : Nat → Nat → Int32) (g : Bool) : Rx X c0 m_Mod_over 0 [.ref (c0 + 16), .int (bi g)] [] σ τ (fun r σ' τ' => r = none ∧ σ' = rover σ g ∧ τ' = τ) := by
  refine Rx.go (fun _ => rfl) ?_
  refine Rx.get rfl rfl ?_
  refine Rx.go (fun _ => rfl) ?_
  refine Rx.get rfl rfl ?_
  refine Rx.go (fun _ => rfl) ?_
  refine Rx.ite (fun c1 => ?_) (fun c1 => ?_)
  · replace c1 : ¬ (σ 16) = (σ 17) := of_decide_eq_true c1
    show Rx X c0 m_Mod_over 23 [.ref (c0 + 16), .int (bi g)] [] σ τ _
    refine Rx.go (fun _ => rfl) ?_
    refine Rx.go (fun _ => rfl) ?_
    refine Rx.ite (fun c2 => ?_) (fun c2 => ?_)
    · replace c2 : g = true := bi_net c2
      show Rx X c0 m_Mod_over 39 [.ref (c0 + 16), .int (bi g)] [] σ τ _
      refine Rx.go (fun _ => rfl) ?_
      refine Rx.go (fun _ => rfl) ?_
      refine Rx.get rfl rfl ?_
      refine Rx.go (fun _ => rfl) ?_
      refine Rx.go (fun _ => rfl) ?_
      refine Rx.put rfl (by decide) rfl rfl ?_
      exact Rx.ret rfl rfl ⟨rfl, by simp [rover, c1, c2], rfl⟩
    · replace c2 : g = false := bi_nef c2
      show Rx X c0 m_Mod_over 27 [.ref (c0 + 16), .int (bi g)] [] σ τ _
      refine Rx.go (fun _ => rfl) ?_
      refine Rx.go (fun _ => rfl) ?_
      refine Rx.go (fun _ => rfl) ?_
      refine Rx.get rfl rfl ?_
      refine Rx.callE rfl rfl rfl rfl (rx_fail X c0 _ _ 3 (σ 16)) ?_
      show Rx X c0 m_Mod_over 36 [.ref (c0 + 16), .int (bi g)] [] (rfail σ 3 (σ 16)) τ _
      refine Rx.go (fun _ => rfl) ?_
      exact Rx.ret rfl rfl ⟨rfl, by simp [rover, c1, c2], rfl⟩
  · replace c1 : (σ 16) = (σ 17) := Classical.not_not.mp (of_decide_eq_false c1)
    show Rx X c0 m_Mod_over 11 [.ref (c0 + 16), .int (bi g)] [] σ τ _
    refine Rx.go (fun _ => rfl) ?_
    refine Rx.go (fun _ => rfl) ?_
    refine Rx.go (fun _ => rfl) ?_
    refine Rx.get rfl rfl ?_
    refine Rx.callE rfl rfl rfl rfl (rx_fail X c0 _ _ 2 (σ 17)) ?_
    show Rx X c0 m_Mod_over 20 [.ref (c0 + 16), .int (bi g)] [] (rfail σ 2 (σ 17)) τ _
    refine Rx.go (fun _ => rfl) ?_
    exact Rx.ret rfl rfl ⟨rfl, by simp [rover, c1], rfl⟩
set_option maxRecDepth 100000 in
set_option maxHeartbeats 1000000 in
theorem rx_isTerm (X : ev_X) (c0 : Nat) (σ : Nat → Int32) (τ : Nat → Nat → Int32) (t : Int32) : Rx X c0 m_Mod_isTerm 0 [.ref (c0 + 16), .int t] [] σ τ (fun r σ' τ' => r = some (.int (bi (!decide (t ≤ 0) && !decide (σ 7 < t)))) ∧ σ' = σ ∧ τ' = τ) := by
  refine Rx.go (fun _ => rfl) ?_
  refine Rx.go (fun _ => rfl) ?_
  refine Rx.ite (fun c1 => ?_) (fun c1 => ?_)
  · replace c1 : t ≤ 0 := of_decide_eq_true c1
    show Rx X c0 m_Mod_isTerm 16 [.ref (c0 + 16), .int t] [] σ τ _
    refine Rx.go (fun _ => rfl) ?_
    exact Rx.ret rfl rfl ⟨ret_0 (by simp [Int32.not_le, Int32.not_lt, c1]), rfl, rfl⟩
  · replace c1 : ¬ t ≤ 0 := of_decide_eq_false c1
    show Rx X c0 m_Mod_isTerm 4 [.ref (c0 + 16), .int t] [] σ τ _
    refine Rx.go (fun _ => rfl) ?_
    refine Rx.go (fun _ => rfl) ?_
    refine Rx.get rfl rfl ?_
    refine Rx.go (fun _ => rfl) ?_
    refine Rx.ite (fun c2 => ?_) (fun c2 => ?_)
    · replace c2 : (σ 7) < t := of_decide_eq_true c2
      show Rx X c0 m_Mod_isTerm 16 [.ref (c0 + 16), .int t] [] σ τ _
      refine Rx.go (fun _ => rfl) ?_
      simp only [Int32.not_le, Int32.not_lt] at c1; exact Rx.ret rfl rfl ⟨ret_0 (by simp [Int32.not_le, Int32.not_lt, c1, c2]), rfl, rfl⟩
    · replace c2 : ¬ (σ 7) < t := of_decide_eq_false c2
      show Rx X c0 m_Mod_isTerm 12 [.ref (c0 + 16), .int t] [] σ τ _
      refine Rx.go (fun _ => rfl) ?_
      refine Rx.go (fun _ => rfl) ?_
      simp only [Int32.not_le, Int32.not_lt] at c1; simp only [Int32.not_le, Int32.not_lt] at c2; exact Rx.ret rfl rfl ⟨ret_1 (by simp [Int32.not_le, Int32.not_lt, c1, c2]), rfl, rfl⟩
set_option maxRecDepth 100000 in
set_option maxHeartbeats 1000000 in
theorem rx_place (X : ev_X) (c0 : Nat) (σ : Nat → Int32) (τ : Nat → Nat → Int32) : Rx X c0 m_Mod_place 0 [.ref (c0 + 16)] [] σ τ (fun r σ' τ' => r = some (.int (σ 2)) ∧ σ' = σ ∧ τ' = τ) := by
  refine Rx.go (fun _ => rfl) ?_
  refine Rx.get rfl rfl ?_
  exact Rx.ret rfl (ev_reti rfl) ⟨rfl, rfl, rfl⟩
set_option maxRecDepth 100000 in
set_option maxHeartbeats 1000000 in
theorem rx_count (X : ev_X) (c0 : Nat) (σ : Nat → Int32) (τ : Nat → Nat → Int32) : Rx X c0 m_Mod_count 0 [.ref (c0 + 16)] [] σ τ (fun r σ' τ' => r = some (.int (σ 7)) ∧ σ' = σ ∧ τ' = τ) := by
  refine Rx.go (fun _ => rfl) ?_
  refine Rx.get rfl rfl ?_
  exact Rx.ret rfl (ev_reti rfl) ⟨rfl, rfl, rfl⟩
set_option maxRecDepth 100000 in
set_option maxHeartbeats 1000000 in
theorem rx_used (X : ev_X) (c0 : Nat) (σ : Nat → Int32) (τ : Nat → Nat → Int32) : Rx X c0 m_Mod_used 0 [.ref (c0 + 16)] [] σ τ (fun r σ' τ' => r = some (.int (σ 8)) ∧ σ' = σ ∧ τ' = τ) := by
  refine Rx.go (fun _ => rfl) ?_
  refine Rx.get rfl rfl ?_
  exact Rx.ret rfl (ev_reti rfl) ⟨rfl, rfl, rfl⟩
/-- an index of a term -/
abbrev tix (σ : Nat → Int32) (t : Int32) : Prop := tixP σ t
theorem tix_a {σ : Nat → Int32} {t : Int32} (h : tix σ t) : ¬ (t < 0 ∨ 2002 ≤ t.toNatClampNeg) := vp_in_iff.mpr ⟨by have := h.1; omega, by have := h.2; omega⟩
theorem tix_b {σ : Nat → Int32} {t : Int32} (h : tix σ t) : ¬ (t + 1 < 0 ∨ 2002 ≤ (t + 1).toNatClampNeg) := by
  have h1 := h.1
  have h2 := h.2
  have e : (t + 1).toInt = t.toInt + 1 := by
    rw [Int32.toInt_add]
    have e1 : (1 : Int32).toInt = 1 := rfl
    rw [e1, Int.bmod_eq_of_le] <;> omega
  exact vp_in_iff.mpr ⟨by omega, by omega⟩
set_option maxRecDepth 100000 in
set_option maxHeartbeats 1000000 in
theorem rx_kind (X : ev_X) (c0 : Nat) (σ : Nat → Int32) (τ : Nat → Nat → Int32) (t : Int32) (h : t ≤ 0 ∨ σ 7 < t ∨ tix σ t) : Rx X c0 m_Mod_kind 0 [.ref (c0 + 16), .int t] [] σ τ (fun r σ' τ' => r = some (.int (if (!decide (t ≤ 0) && !decide (σ 7 < t)) = true then τ 5 t.toNatClampNeg else -1)) ∧ σ' = σ ∧ τ' = τ) := by
  refine Rx.go (fun _ => rfl) ?_
  refine Rx.go (fun _ => rfl) ?_
  refine Rx.callE rfl rfl rfl rfl (rx_isTerm X c0 _ _ t) ?_
  show Rx X c0 m_Mod_kind 5 [.ref (c0 + 16), .int t] [.int (bi (!decide (t ≤ 0) && !decide (σ 7 < t)))] σ τ _
  refine Rx.go (fun _ => rfl) ?_
  refine Rx.ite (fun c1 => ?_) (fun c1 => ?_)
  · replace c1 : (!decide (t ≤ 0) && !decide (σ 7 < t)) = false := bi_eqt c1
    show Rx X c0 m_Mod_kind 17 [.ref (c0 + 16), .int t] [] σ τ _
    refine Rx.go (fun _ => rfl) ?_
    exact Rx.ret rfl (ev_reti rfl) ⟨by rw [c1]; rfl, rfl, rfl⟩
  · replace c1 : (!decide (t ≤ 0) && !decide (σ 7 < t)) = true := bi_eqf c1
    show Rx X c0 m_Mod_kind 8 [.ref (c0 + 16), .int t] [] σ τ _
    refine Rx.go (fun _ => rfl) ?_
    refine Rx.get rfl rfl ?_
    refine Rx.go (fun _ => rfl) ?_
    refine Rx.ald 5 rfl rfl (tix_a (tix_of h c1)) ?_
    refine Rx.go (fun _ => rfl) ?_
    exact Rx.ret rfl (ev_reti rfl) ⟨by rw [c1]; rfl, rfl, rfl⟩
set_option maxRecDepth 100000 in
set_option maxHeartbeats 1000000 in
theorem rx_isNumber (X : ev_X) (c0 : Nat) (σ : Nat → Int32) (τ : Nat → Nat → Int32) (t : Int32) (h : tix σ t) : Rx X c0 m_Mod_isNumber 0 [.ref (c0 + 16), .int t] [] σ τ (fun r σ' τ' => r = some (.int (bi (decide (τ 5 t.toNatClampNeg = 3) || decide (τ 5 t.toNatClampNeg = 4)))) ∧ σ' = σ ∧ τ' = τ) := by
  refine Rx.go (fun _ => rfl) ?_
  refine Rx.get rfl rfl ?_
  refine Rx.go (fun _ => rfl) ?_
  refine Rx.ald 5 rfl rfl (tix_a h) ?_
  refine Rx.go (fun _ => rfl) ?_
  refine Rx.go (fun _ => rfl) ?_
  refine Rx.ite (fun c1 => ?_) (fun c1 => ?_)
  · replace c1 : (τ 5 t.toNatClampNeg) = 3 := of_decide_eq_true c1
    show Rx X c0 m_Mod_isNumber 20 [.ref (c0 + 16), .int t] [] σ τ _
    refine Rx.go (fun _ => rfl) ?_
    refine Rx.go (fun _ => rfl) ?_
    exact Rx.ret rfl rfl ⟨ret_1 (by simp [Int32.not_le, Int32.not_lt, c1]), rfl, rfl⟩
  · replace c1 : ¬ (τ 5 t.toNatClampNeg) = 3 := of_decide_eq_false c1
    show Rx X c0 m_Mod_isNumber 10 [.ref (c0 + 16), .int t] [] σ τ _
    refine Rx.go (fun _ => rfl) ?_
    refine Rx.get rfl rfl ?_
    refine Rx.go (fun _ => rfl) ?_
    refine Rx.ald 5 rfl rfl (tix_a h) ?_
    refine Rx.go (fun _ => rfl) ?_
    refine Rx.go (fun _ => rfl) ?_
    refine Rx.ite (fun c2 => ?_) (fun c2 => ?_)
    · replace c2 : ¬ (τ 5 t.toNatClampNeg) = 4 := of_decide_eq_true c2
      show Rx X c0 m_Mod_isNumber 24 [.ref (c0 + 16), .int t] [] σ τ _
      refine Rx.go (fun _ => rfl) ?_
      exact Rx.ret rfl rfl ⟨ret_0 (by simp [Int32.not_le, Int32.not_lt, c1, c2]), rfl, rfl⟩
    · replace c2 : (τ 5 t.toNatClampNeg) = 4 := Classical.not_not.mp (of_decide_eq_false c2)
      show Rx X c0 m_Mod_isNumber 20 [.ref (c0 + 16), .int t] [] σ τ _
      refine Rx.go (fun _ => rfl) ?_
      refine Rx.go (fun _ => rfl) ?_
      exact Rx.ret rfl rfl ⟨ret_1 (by simp [Int32.not_le, Int32.not_lt, c1, c2]), rfl, rfl⟩
set_option maxRecDepth 100000 in
set_option maxHeartbeats 1000000 in
theorem rx_lengthOf (X : ev_X) (c0 : Nat) (σ : Nat → Int32) (τ : Nat → Nat → Int32) (t : Int32) (h : tix σ t) : Rx X c0 m_Mod_lengthOf 0 [.ref (c0 + 16), .int t] [] σ τ (fun r σ' τ' => r = some (.int (τ 4 (t + 1).toNatClampNeg - τ 4 t.toNatClampNeg)) ∧ σ' = σ ∧ τ' = τ) := by
  refine Rx.go (fun _ => rfl) ?_
  refine Rx.get rfl rfl ?_
  refine Rx.go (fun _ => rfl) ?_
  refine Rx.go (fun _ => rfl) ?_
  refine Rx.go (fun _ => rfl) ?_
  refine Rx.ald 4 rfl rfl (tix_b h) ?_
  refine Rx.go (fun _ => rfl) ?_
  refine Rx.get rfl rfl ?_
  refine Rx.go (fun _ => rfl) ?_
  refine Rx.ald 4 rfl rfl (tix_a h) ?_
  refine Rx.go (fun _ => rfl) ?_
  exact Rx.ret rfl (ev_reti rfl) ⟨rfl, rfl, rfl⟩
set_option maxRecDepth 100000 in
set_option maxHeartbeats 1000000 in
theorem rx_rank (X : ev_X) (c0 : Nat) (σ : Nat → Int32) (τ : Nat → Nat → Int32) (t : Int32) (h : tix σ t) : Rx X c0 m_Mod_rank 0 [.ref (c0 + 16), .int t] [] σ τ (fun r σ' τ' => r = some (.int (if τ 5 t.toNatClampNeg = 4 then 3 else τ 5 t.toNatClampNeg)) ∧ σ' = σ ∧ τ' = τ) := by
  refine Rx.go (fun _ => rfl) ?_
  refine Rx.get rfl rfl ?_
  refine Rx.go (fun _ => rfl) ?_
  refine Rx.ald 5 rfl rfl (tix_a h) ?_
  refine Rx.go (fun _ => rfl) ?_
  refine Rx.go (fun _ => rfl) ?_
  refine Rx.ite (fun c1 => ?_) (fun c1 => ?_)
  · replace c1 : ¬ (τ 5 t.toNatClampNeg) = 4 := of_decide_eq_true c1
    show Rx X c0 m_Mod_rank 14 [.ref (c0 + 16), .int t] [] σ τ _
    refine Rx.go (fun _ => rfl) ?_
    refine Rx.get rfl rfl ?_
    refine Rx.go (fun _ => rfl) ?_
    refine Rx.ald 5 rfl rfl (tix_a h) ?_
    exact Rx.ret rfl (ev_reti rfl) ⟨by simp [c1], rfl, rfl⟩
  · replace c1 : (τ 5 t.toNatClampNeg) = 4 := Classical.not_not.mp (of_decide_eq_false c1)
    show Rx X c0 m_Mod_rank 10 [.ref (c0 + 16), .int t] [] σ τ _
    refine Rx.go (fun _ => rfl) ?_
    refine Rx.go (fun _ => rfl) ?_
    exact Rx.ret rfl (ev_reti rfl) ⟨by simp [c1], rfl, rfl⟩
