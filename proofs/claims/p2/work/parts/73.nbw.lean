/-! number, whole, decimal of the reference over any table. (rows laid by wip/whole/rx15.py) -/
theorem nbP.up {ts : RT} {u W r : Nat} {bel dec : Bool} {σ : Nat → Int32} {τ : Nat → Nat → Int32} {v : Option Value} {σ2 : Nat → Int32} {τ2 : Nat → Nat → Int32} {x : Int32} {f : Nat → Int32} (h : nbP ts u bel dec W r (upd σ 22 x) (va_up τ 21 f) v σ2 τ2) : nbP ts u bel dec W r σ τ v σ2 τ2 := by
  obtain ⟨L, g, σ1, τ1, h1, h2, h3, h4, h5, h6, h7, h8, h9⟩ := h
  exact ⟨L, g, σ1, τ1, h1, h2, h3, fun k k1 k2 k3 k4 k5 k6 k7 => by rw [h4 k k1 k2 k3 k4 k5 k6 k7, pk_un k6], h5, h6, h7, fun k k1 k2 => by rw [h8 k k1 k2, va_up_ne _ _ k2], h9⟩
/-- number's answer -/
def nmP (ts : RT) (u : Nat) (v : Int64) (dec : Bool) (W : Nat) (σ : Nat → Int32) (τ : Nat → Nat → Int32) (r : Option Value) (σ' : Nat → Int32) (τ' : Nat → Nat → Int32) : Prop := if few v = true then (∃ a : Nat, a < 10 ^ 18 ∧ (v = lN a ∨ v = -lN a) ∧ nbP ts u (decide (v < 0)) dec W a σ τ r σ' τ') else (r = some (.int (-1)) ∧ σ' = σ ∧ τ' = τ)
theorem nmP_i {ts : RT} {u W : Nat} {v : Int64} {dec : Bool} {σ σ' : Nat → Int32} {τ τ' : Nat → Nat → Int32} {r : Option Value} (h : nmP ts u v dec W σ τ r σ' τ') : ∃ i : Int32, r = some (.int i) := by
  unfold nmP at h
  split at h
  · obtain ⟨a, -, -, L, g, σ1, τ1, -, -, -, -, -, -, -, -, hq⟩ := h
    rcases hq with ⟨_, _, _, e, _⟩ | ⟨_, _, e, _⟩ | ⟨_, _, _, e, _⟩ <;> exact ⟨_, e⟩
  · exact ⟨_, h.1⟩
set_option maxRecDepth 100000 in
set_option maxHeartbeats 1000000 in
theorem rx_number_w (X : ev_X) (c0 : Nat) (v : Int64) {u : Nat} {ts : RT} {σ : Nat → Int32} {τ : Nat → Nat → Int32} (hR : rt σ τ ts) (h8 : σ 8 = nI u) (hu : u ≤ 40000) (hroom : off ts ts.length + 260 ≤ 132000) : Rx X c0 m_Mod_number 0 [.ref (c0 + 16), .long v, ev_dead, .int (-1), ev_dead, ev_dead, ev_dead] [] σ τ (nmP ts u v false 18 σ τ) := by
  refine Rx.go (fun _ => rfl) ?_
  refine Rx.go (fun _ => rfl) ?_
  refine Rx.go (fun _ => rfl) ?_
  refine Rx.go (fun _ => rfl) ?_
  refine Rx.ite (fun c1 => ?_) (fun c1 => ?_)
  · replace c1 : 0 ≤ (lg_cmp v 0) := of_decide_eq_true c1
    show Rx X c0 m_Mod_number 11 [.ref (c0 + 16), .long v, ev_dead, .int (-1), ev_dead, ev_dead, ev_dead] [] σ τ _
    refine Rx.go (fun _ => rfl) ?_
    refine Rx.go (fun _ => rfl) ?_
    show Rx X c0 m_Mod_number 14 [.ref (c0 + 16), .long v, ev_dead, .int (-1), .long v, ev_dead, ev_dead] [] σ τ _
    refine Rx.go (fun _ => rfl) ?_
    refine Rx.go (fun _ => rfl) ?_
    refine Rx.go (fun _ => rfl) ?_
    refine Rx.go (fun _ => rfl) ?_
    refine Rx.ite (fun c2 => ?_) (fun c2 => ?_)
    · replace c2 : 0 < (lg_cmp v 999999999999999999) := of_decide_eq_true c2
      show Rx X c0 m_Mod_number 36 [.ref (c0 + 16), .long v, ev_dead, .int (-1), .long v, ev_dead, ev_dead] [] σ τ _
      refine Rx.go (fun _ => rfl) ?_
      show Rx X c0 m_Mod_number 37 [.ref (c0 + 16), .long v, ev_dead, .int (-1), .long v, ev_dead, ev_dead] [.int (-1)] σ τ _
      exact Rx.ret rfl (ev_reti rfl) (by unfold nmP; rw [num_posB c1 c2, if_neg Bool.false_ne_true]; exact ⟨rfl, rfl, rfl⟩)
    · replace c2 : ¬ 0 < (lg_cmp v 999999999999999999) := of_decide_eq_false c2
      show Rx X c0 m_Mod_number 23 [.ref (c0 + 16), .long v, ev_dead, .int (-1), .long v, ev_dead, ev_dead] [] σ τ _
      refine Rx.go (fun _ => rfl) ?_
      refine Rx.go (fun _ => rfl) ?_
      refine Rx.go (fun _ => rfl) ?_
      refine Rx.go (fun _ => rfl) ?_
      refine Rx.ite (fun c3 => ?_) (fun c3 => ?_)
      · replace c3 : 0 ≤ (lg_cmp v 0) := of_decide_eq_true c3
        show Rx X c0 m_Mod_number 38 [.ref (c0 + 16), .long v, ev_dead, .int (-1), .long v, ev_dead, ev_dead] [] σ τ _
        refine Rx.go (fun _ => rfl) ?_
        refine Rx.go (fun _ => rfl) ?_
        refine Rx.put rfl (by decide) rfl rfl ?_
        refine Rx.go (fun _ => rfl) ?_
        refine Rx.go (fun _ => rfl) ?_
        show Rx X c0 m_Mod_number 48 [.ref (c0 + 16), .long v, ev_dead, .int (-1), .long v, ev_dead, .int 17] [] (upd σ 22 18) τ _
        show Rx X c0 m_Mod_number 48 [.ref (c0 + 16), .long v, ev_dead, .int (-1), .long v, ev_dead, .int 17] [] (upd σ 22 18) τ _
        obtain ⟨hf, r, hr, e⟩ := num_pos c1 c2
        refine (nm_l' e X c0 v (-1) _ _ 18 τ (by omega) (by decide) (nb_tw X c0 v _ (σ := upd σ 22 18) (dg_nd τ r) rfl (rt_same hR rfl rfl rfl rfl rfl) h8 hu hroom)).mono ?_
        intro z σ2 τ2 hq
        unfold nmP
        rw [if_pos hf]
        exact ⟨r, hr, Or.inl e, hq.up⟩
      · replace c3 : ¬ 0 ≤ (lg_cmp v 0) := of_decide_eq_false c3
        exact absurd c1 c3
  · replace c1 : ¬ 0 ≤ (lg_cmp v 0) := of_decide_eq_false c1
    show Rx X c0 m_Mod_number 6 [.ref (c0 + 16), .long v, ev_dead, .int (-1), ev_dead, ev_dead, ev_dead] [] σ τ _
    refine Rx.go (fun _ => rfl) ?_
    refine Rx.go (fun _ => rfl) ?_
    refine Rx.go (fun _ => rfl) ?_
    refine Rx.go (fun _ => rfl) ?_
    show Rx X c0 m_Mod_number 14 [.ref (c0 + 16), .long v, ev_dead, .int (-1), .long (-v), ev_dead, ev_dead] [] σ τ _
    refine Rx.go (fun _ => rfl) ?_
    refine Rx.go (fun _ => rfl) ?_
    refine Rx.go (fun _ => rfl) ?_
    refine Rx.go (fun _ => rfl) ?_
    refine Rx.ite (fun c4 => ?_) (fun c4 => ?_)
    · replace c4 : 0 < (lg_cmp (-v) 999999999999999999) := of_decide_eq_true c4
      show Rx X c0 m_Mod_number 36 [.ref (c0 + 16), .long v, ev_dead, .int (-1), .long (-v), ev_dead, ev_dead] [] σ τ _
      refine Rx.go (fun _ => rfl) ?_
      show Rx X c0 m_Mod_number 37 [.ref (c0 + 16), .long v, ev_dead, .int (-1), .long (-v), ev_dead, ev_dead] [.int (-1)] σ τ _
      exact Rx.ret rfl (ev_reti rfl) (by unfold nmP; rw [num_negB c1 c4, if_neg Bool.false_ne_true]; exact ⟨rfl, rfl, rfl⟩)
    · replace c4 : ¬ 0 < (lg_cmp (-v) 999999999999999999) := of_decide_eq_false c4
      show Rx X c0 m_Mod_number 23 [.ref (c0 + 16), .long v, ev_dead, .int (-1), .long (-v), ev_dead, ev_dead] [] σ τ _
      refine Rx.go (fun _ => rfl) ?_
      refine Rx.go (fun _ => rfl) ?_
      refine Rx.go (fun _ => rfl) ?_
      refine Rx.go (fun _ => rfl) ?_
      refine Rx.ite (fun c5 => ?_) (fun c5 => ?_)
      · replace c5 : 0 ≤ (lg_cmp v 0) := of_decide_eq_true c5
        exact absurd c5 c1
      · replace c5 : ¬ 0 ≤ (lg_cmp v 0) := of_decide_eq_false c5
        show Rx X c0 m_Mod_number 29 [.ref (c0 + 16), .long v, ev_dead, .int (-1), .long (-v), ev_dead, ev_dead] [] σ τ _
        refine Rx.go (fun _ => rfl) ?_
        refine Rx.go (fun _ => rfl) ?_
        refine Rx.go (fun _ => rfl) ?_
        refine Rx.go (fun _ => rfl) ?_
        refine Rx.ite (fun c6 => ?_) (fun c6 => ?_)
        · replace c6 : 0 ≤ (lg_cmp (-v) 0) := of_decide_eq_true c6
          show Rx X c0 m_Mod_number 38 [.ref (c0 + 16), .long v, ev_dead, .int (-1), .long (-v), ev_dead, ev_dead] [] σ τ _
          refine Rx.go (fun _ => rfl) ?_
          refine Rx.go (fun _ => rfl) ?_
          refine Rx.put rfl (by decide) rfl rfl ?_
          refine Rx.go (fun _ => rfl) ?_
          refine Rx.go (fun _ => rfl) ?_
          show Rx X c0 m_Mod_number 48 [.ref (c0 + 16), .long v, ev_dead, .int (-1), .long (-v), ev_dead, .int 17] [] (upd σ 22 18) τ _
          show Rx X c0 m_Mod_number 48 [.ref (c0 + 16), .long v, ev_dead, .int (-1), .long (-v), ev_dead, .int 17] [] (upd σ 22 18) τ _
          obtain ⟨hf, r, hr, e⟩ := num_neg c1 c4 c6
          refine (nm_l' e X c0 v (-1) _ _ 18 τ (by omega) (by decide) (nb_tw X c0 v _ (σ := upd σ 22 18) (dg_nd τ r) rfl (rt_same hR rfl rfl rfl rfl rfl) h8 hu hroom)).mono ?_
          intro z σ2 τ2 hq
          unfold nmP
          rw [if_pos hf]
          exact ⟨r, hr, Or.inr (by rw [← e, Int64.neg_neg]), hq.up⟩
        · replace c6 : ¬ 0 ≤ (lg_cmp (-v) 0) := of_decide_eq_false c6
          show Rx X c0 m_Mod_number 36 [.ref (c0 + 16), .long v, ev_dead, .int (-1), .long (-v), ev_dead, ev_dead] [] σ τ _
          refine Rx.go (fun _ => rfl) ?_
          show Rx X c0 m_Mod_number 37 [.ref (c0 + 16), .long v, ev_dead, .int (-1), .long (-v), ev_dead, ev_dead] [.int (-1)] σ τ _
          exact Rx.ret rfl (ev_reti rfl) (by unfold nmP; rw [num_negC c1 c6, if_neg Bool.false_ne_true]; exact ⟨rfl, rfl, rfl⟩)
set_option maxRecDepth 100000 in
set_option maxHeartbeats 1000000 in
theorem rx_number_d (X : ev_X) (c0 : Nat) (v : Int64) {p : Nat} (hp9 : p ≤ 9) {u : Nat} {ts : RT} {σ : Nat → Int32} {τ : Nat → Nat → Int32} (hR : rt σ τ ts) (h8 : σ 8 = nI u) (hu : u ≤ 40000) (hroom : off ts ts.length + 260 ≤ 132000) : Rx X c0 m_Mod_number 0 [.ref (c0 + 16), .long v, ev_dead, .int (nI p), ev_dead, ev_dead, ev_dead] [] σ τ (nmP ts u v true (18 - p) σ τ) := by
  refine Rx.go (fun _ => rfl) ?_
  refine Rx.go (fun _ => rfl) ?_
  refine Rx.go (fun _ => rfl) ?_
  refine Rx.go (fun _ => rfl) ?_
  refine Rx.ite (fun c1 => ?_) (fun c1 => ?_)
  · replace c1 : 0 ≤ (lg_cmp v 0) := of_decide_eq_true c1
    show Rx X c0 m_Mod_number 11 [.ref (c0 + 16), .long v, ev_dead, .int (nI p), ev_dead, ev_dead, ev_dead] [] σ τ _
    refine Rx.go (fun _ => rfl) ?_
    refine Rx.go (fun _ => rfl) ?_
    show Rx X c0 m_Mod_number 14 [.ref (c0 + 16), .long v, ev_dead, .int (nI p), .long v, ev_dead, ev_dead] [] σ τ _
    refine Rx.go (fun _ => rfl) ?_
    refine Rx.go (fun _ => rfl) ?_
    refine Rx.go (fun _ => rfl) ?_
    refine Rx.go (fun _ => rfl) ?_
    refine Rx.ite (fun c2 => ?_) (fun c2 => ?_)
    · replace c2 : 0 < (lg_cmp v 999999999999999999) := of_decide_eq_true c2
      show Rx X c0 m_Mod_number 36 [.ref (c0 + 16), .long v, ev_dead, .int (nI p), .long v, ev_dead, ev_dead] [] σ τ _
      refine Rx.go (fun _ => rfl) ?_
      show Rx X c0 m_Mod_number 37 [.ref (c0 + 16), .long v, ev_dead, .int (nI p), .long v, ev_dead, ev_dead] [.int (-1)] σ τ _
      exact Rx.ret rfl (ev_reti rfl) (by unfold nmP; rw [num_posB c1 c2, if_neg Bool.false_ne_true]; exact ⟨rfl, rfl, rfl⟩)
    · replace c2 : ¬ 0 < (lg_cmp v 999999999999999999) := of_decide_eq_false c2
      show Rx X c0 m_Mod_number 23 [.ref (c0 + 16), .long v, ev_dead, .int (nI p), .long v, ev_dead, ev_dead] [] σ τ _
      refine Rx.go (fun _ => rfl) ?_
      refine Rx.go (fun _ => rfl) ?_
      refine Rx.go (fun _ => rfl) ?_
      refine Rx.go (fun _ => rfl) ?_
      refine Rx.ite (fun c3 => ?_) (fun c3 => ?_)
      · replace c3 : 0 ≤ (lg_cmp v 0) := of_decide_eq_true c3
        show Rx X c0 m_Mod_number 38 [.ref (c0 + 16), .long v, ev_dead, .int (nI p), .long v, ev_dead, ev_dead] [] σ τ _
        refine Rx.go (fun _ => rfl) ?_
        refine Rx.go (fun _ => rfl) ?_
        refine Rx.put rfl (by decide) rfl rfl ?_
        refine Rx.go (fun _ => rfl) ?_
        refine Rx.go (fun _ => rfl) ?_
        show Rx X c0 m_Mod_number 48 [.ref (c0 + 16), .long v, ev_dead, .int (nI p), .long v, ev_dead, .int 17] [] (upd σ 22 18) τ _
        show Rx X c0 m_Mod_number 48 [.ref (c0 + 16), .long v, ev_dead, .int (nI p), .long v, ev_dead, .int 17] [] (upd σ 22 18) τ _
        obtain ⟨hf, r, hr, e⟩ := num_pos c1 c2
        refine (nm_l' e X c0 v (nI p) _ _ 18 τ (by omega) (by decide) (nb_td X c0 v _ hp9 (σ := upd σ 22 18) (dg_nd τ r) rfl (rt_same hR rfl rfl rfl rfl rfl) h8 hu hroom)).mono ?_
        intro z σ2 τ2 hq
        unfold nmP
        rw [if_pos hf]
        exact ⟨r, hr, Or.inl e, hq.up⟩
      · replace c3 : ¬ 0 ≤ (lg_cmp v 0) := of_decide_eq_false c3
        exact absurd c1 c3
  · replace c1 : ¬ 0 ≤ (lg_cmp v 0) := of_decide_eq_false c1
    show Rx X c0 m_Mod_number 6 [.ref (c0 + 16), .long v, ev_dead, .int (nI p), ev_dead, ev_dead, ev_dead] [] σ τ _
    refine Rx.go (fun _ => rfl) ?_
    refine Rx.go (fun _ => rfl) ?_
    refine Rx.go (fun _ => rfl) ?_
    refine Rx.go (fun _ => rfl) ?_
    show Rx X c0 m_Mod_number 14 [.ref (c0 + 16), .long v, ev_dead, .int (nI p), .long (-v), ev_dead, ev_dead] [] σ τ _
    refine Rx.go (fun _ => rfl) ?_
    refine Rx.go (fun _ => rfl) ?_
    refine Rx.go (fun _ => rfl) ?_
    refine Rx.go (fun _ => rfl) ?_
    refine Rx.ite (fun c4 => ?_) (fun c4 => ?_)
    · replace c4 : 0 < (lg_cmp (-v) 999999999999999999) := of_decide_eq_true c4
      show Rx X c0 m_Mod_number 36 [.ref (c0 + 16), .long v, ev_dead, .int (nI p), .long (-v), ev_dead, ev_dead] [] σ τ _
      refine Rx.go (fun _ => rfl) ?_
      show Rx X c0 m_Mod_number 37 [.ref (c0 + 16), .long v, ev_dead, .int (nI p), .long (-v), ev_dead, ev_dead] [.int (-1)] σ τ _
      exact Rx.ret rfl (ev_reti rfl) (by unfold nmP; rw [num_negB c1 c4, if_neg Bool.false_ne_true]; exact ⟨rfl, rfl, rfl⟩)
    · replace c4 : ¬ 0 < (lg_cmp (-v) 999999999999999999) := of_decide_eq_false c4
      show Rx X c0 m_Mod_number 23 [.ref (c0 + 16), .long v, ev_dead, .int (nI p), .long (-v), ev_dead, ev_dead] [] σ τ _
      refine Rx.go (fun _ => rfl) ?_
      refine Rx.go (fun _ => rfl) ?_
      refine Rx.go (fun _ => rfl) ?_
      refine Rx.go (fun _ => rfl) ?_
      refine Rx.ite (fun c5 => ?_) (fun c5 => ?_)
      · replace c5 : 0 ≤ (lg_cmp v 0) := of_decide_eq_true c5
        exact absurd c5 c1
      · replace c5 : ¬ 0 ≤ (lg_cmp v 0) := of_decide_eq_false c5
        show Rx X c0 m_Mod_number 29 [.ref (c0 + 16), .long v, ev_dead, .int (nI p), .long (-v), ev_dead, ev_dead] [] σ τ _
        refine Rx.go (fun _ => rfl) ?_
        refine Rx.go (fun _ => rfl) ?_
        refine Rx.go (fun _ => rfl) ?_
        refine Rx.go (fun _ => rfl) ?_
        refine Rx.ite (fun c6 => ?_) (fun c6 => ?_)
        · replace c6 : 0 ≤ (lg_cmp (-v) 0) := of_decide_eq_true c6
          show Rx X c0 m_Mod_number 38 [.ref (c0 + 16), .long v, ev_dead, .int (nI p), .long (-v), ev_dead, ev_dead] [] σ τ _
          refine Rx.go (fun _ => rfl) ?_
          refine Rx.go (fun _ => rfl) ?_
          refine Rx.put rfl (by decide) rfl rfl ?_
          refine Rx.go (fun _ => rfl) ?_
          refine Rx.go (fun _ => rfl) ?_
          show Rx X c0 m_Mod_number 48 [.ref (c0 + 16), .long v, ev_dead, .int (nI p), .long (-v), ev_dead, .int 17] [] (upd σ 22 18) τ _
          show Rx X c0 m_Mod_number 48 [.ref (c0 + 16), .long v, ev_dead, .int (nI p), .long (-v), ev_dead, .int 17] [] (upd σ 22 18) τ _
          obtain ⟨hf, r, hr, e⟩ := num_neg c1 c4 c6
          refine (nm_l' e X c0 v (nI p) _ _ 18 τ (by omega) (by decide) (nb_td X c0 v _ hp9 (σ := upd σ 22 18) (dg_nd τ r) rfl (rt_same hR rfl rfl rfl rfl rfl) h8 hu hroom)).mono ?_
          intro z σ2 τ2 hq
          unfold nmP
          rw [if_pos hf]
          exact ⟨r, hr, Or.inr (by rw [← e, Int64.neg_neg]), hq.up⟩
        · replace c6 : ¬ 0 ≤ (lg_cmp (-v) 0) := of_decide_eq_false c6
          show Rx X c0 m_Mod_number 36 [.ref (c0 + 16), .long v, ev_dead, .int (nI p), .long (-v), ev_dead, ev_dead] [] σ τ _
          refine Rx.go (fun _ => rfl) ?_
          show Rx X c0 m_Mod_number 37 [.ref (c0 + 16), .long v, ev_dead, .int (nI p), .long (-v), ev_dead, ev_dead] [.int (-1)] σ τ _
          exact Rx.ret rfl (ev_reti rfl) (by unfold nmP; rw [num_negC c1 c6, if_neg Bool.false_ne_true]; exact ⟨rfl, rfl, rfl⟩)
set_option maxRecDepth 100000 in
set_option maxHeartbeats 1000000 in
theorem rx_whole (X : ev_X) (c0 : Nat) (v : Int64) {u : Nat} {ts : RT} {σ : Nat → Int32} {τ : Nat → Nat → Int32} (hR : rt σ τ ts) (h8 : σ 8 = nI u) (hu : u ≤ 40000) (hroom : off ts ts.length + 260 ≤ 132000) : Rx X c0 m_Mod_whole 0 [.ref (c0 + 16), .long v, ev_dead] [] σ τ (nmP ts u v false 18 σ τ) := by
  refine Rx.go (fun _ => rfl) ?_
  refine Rx.go (fun _ => rfl) ?_
  refine Rx.go (fun _ => rfl) ?_
  refine Rx.call rfl rfl rfl rfl (rx_number_w X c0 v hR h8 hu hroom) ?_
  intro z σ2 τ2 hq
  obtain ⟨i, rfl⟩ := nmP_i hq
  exact Rx.ret rfl (ev_reti rfl) hq
set_option maxRecDepth 100000 in
set_option maxHeartbeats 1000000 in
theorem rx_decimal (X : ev_X) (c0 : Nat) (v : Int64) (b : Int32) {u : Nat} {ts : RT} {σ : Nat → Int32} {τ : Nat → Nat → Int32} (hR : rt σ τ ts) (h8 : σ 8 = nI u) (hu : u ≤ 40000) (hroom : off ts ts.length + 260 ≤ 132000) : Rx X c0 m_Mod_decimal 0 [.ref (c0 + 16), .long v, ev_dead, .int b] [] σ τ (fun r σ' τ' => if b < 0 then (r = some (.int (-1)) ∧ σ' = σ ∧ τ' = τ) else if 9 < b then (r = some (.int (-1)) ∧ σ' = σ ∧ τ' = τ) else nmP ts u v true (18 - b.toNatClampNeg) σ τ r σ' τ') := by
  refine Rx.go (fun _ => rfl) ?_
  refine Rx.go (fun _ => rfl) ?_
  refine Rx.ite (fun c1 => ?_) (fun c1 => ?_)
  · replace c1 : b < 0 := of_decide_eq_true c1
    show Rx X c0 m_Mod_decimal 10 [.ref (c0 + 16), .long v, ev_dead, .int b] [] σ τ _
    refine Rx.go (fun _ => rfl) ?_
    refine Rx.go (fun _ => rfl) ?_
    show Rx X c0 m_Mod_decimal 20 [.ref (c0 + 16), .long v, ev_dead, .int b] [.int (-1)] σ τ _
    exact Rx.ret rfl (ev_reti rfl) (by rw [if_pos c1]; exact ⟨rfl, rfl, rfl⟩)
  · replace c1 : ¬ b < 0 := of_decide_eq_false c1
    show Rx X c0 m_Mod_decimal 4 [.ref (c0 + 16), .long v, ev_dead, .int b] [] σ τ _
    refine Rx.go (fun _ => rfl) ?_
    refine Rx.go (fun _ => rfl) ?_
    refine Rx.go (fun _ => rfl) ?_
    refine Rx.ite (fun c2 => ?_) (fun c2 => ?_)
    · replace c2 : b ≤ 9 := of_decide_eq_true c2
      show Rx X c0 m_Mod_decimal 14 [.ref (c0 + 16), .long v, ev_dead, .int b] [] σ τ _
      refine Rx.go (fun _ => rfl) ?_
      refine Rx.go (fun _ => rfl) ?_
      refine Rx.go (fun _ => rfl) ?_
      have c3 : ¬ 9 < b := Int32.not_lt.mpr c2
      obtain ⟨p, hp9, rfl⟩ := nI_of2 (M := 9) (n := 9) rfl c1 c2
      refine Rx.call rfl rfl rfl rfl (rx_number_d X c0 v hp9 hR h8 hu hroom) ?_
      intro z σ2 τ2 hq
      obtain ⟨i, rfl⟩ := nmP_i hq
      exact Rx.ret rfl (ev_reti rfl) (by rw [if_neg c1, if_neg c3, nI_clamp (by omega)]; exact hq)
    · replace c2 : ¬ b ≤ 9 := of_decide_eq_false c2
      show Rx X c0 m_Mod_decimal 10 [.ref (c0 + 16), .long v, ev_dead, .int b] [] σ τ _
      refine Rx.go (fun _ => rfl) ?_
      refine Rx.go (fun _ => rfl) ?_
      show Rx X c0 m_Mod_decimal 20 [.ref (c0 + 16), .long v, ev_dead, .int b] [.int (-1)] σ τ _
      exact Rx.ret rfl (ev_reti rfl) (by rw [if_neg c1, if_pos (Int32.not_le.mp c2)]; exact ⟨rfl, rfl, rfl⟩)
