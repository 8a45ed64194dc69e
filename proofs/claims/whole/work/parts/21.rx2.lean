/-! The reference's table methods. (rows laid by wip/whole/rx3.py) -/
theorem gd0 {l : List Nat} {j : Nat} (h : l.length ≤ j) : l.getD j 0 = 0 := by rw [List.getD_eq_getElem?_getD, List.getElem?_eq_none h]; rfl
theorem bt_lt {σ : Nat → Int32} {τ : Nat → Nat → Int32} {ts : RT} (hR : rt σ τ ts) {i j : Nat} (hi : i < ts.length) (hj : j < 2 ^ 20) (c : ¬ nI (off ts (i + 1)) ≤ nI (off ts i + j)) : j < (bys ts i).length := by
  have h1 := off_succ ts i hi
  have h2 := rt_o hR (i := i + 1) hi
  rw [nI_leI (by omega) (by omega)] at c
  omega
theorem bt_ge {σ : Nat → Int32} {τ : Nat → Nat → Int32} {ts : RT} (hR : rt σ τ ts) {i j : Nat} (hi : i < ts.length) (hj : j < 2 ^ 20) (c : nI (off ts (i + 1)) ≤ nI (off ts i + j)) : (bys ts i).length ≤ j := by
  have h1 := off_succ ts i hi
  have h2 := rt_o hR (i := i + 1) hi
  rw [nI_leI (by omega) (by omega)] at c
  omega
set_option maxRecDepth 100000 in
set_option maxHeartbeats 1000000 in
theorem rx_byteAt (X : ev_X) (c0 : Nat) (σ : Nat → Int32) (τ : Nat → Nat → Int32) {ts : RT} (hR : rt σ τ ts) {i : Nat} (hi : i < ts.length) {j : Nat} (hj : j < 2 ^ 20) : Rx X c0 m_Mod_byteAt 0 [.ref (c0 + 16), .int (nI (i + 1)), .int (nI j)] [] σ τ (fun r σ' τ' => r = some (.int (nI ((bys ts i).getD j 0))) ∧ σ' = σ ∧ τ' = τ) := by
  refine Rx.go (fun _ => rfl) ?_
  refine Rx.get rfl rfl ?_
  refine Rx.go (fun _ => rfl) ?_
  refine Rx.aldE 4 rfl rfl (nI_ix (N := 2002) (n := i + 1) (by have := hR.2.1; omega) (by decide)) (rt_f hR (i := i) (by omega)) ?_
  refine Rx.go (fun _ => rfl) ?_
  refine Rx.go (fun _ => rfl) ?_
  refine Rx.top (y := nI (off ts i + j)) (nI_add _ _) ?_
  refine Rx.go (fun _ => rfl) ?_
  refine Rx.get rfl rfl ?_
  refine Rx.go (fun _ => rfl) ?_
  refine Rx.go (fun _ => rfl) ?_
  refine Rx.go (fun _ => rfl) ?_
  refine Rx.top (y := nI (i + 1 + 1)) (nI_1 _) ?_
  refine Rx.aldE 4 rfl rfl (nI_ix (N := 2002) (n := (i + 1) + 1) (by have := hR.2.1; omega) (by decide)) (rt_f hR (i := (i + 1)) (by omega)) ?_
  refine Rx.go (fun _ => rfl) ?_
  refine Rx.ite (fun c1 => ?_) (fun c1 => ?_)
  · replace c1 : (nI (off ts (i + 1))) ≤ (nI (off ts i + j)) := of_decide_eq_true c1
    show Rx X c0 m_Mod_byteAt 35 [.ref (c0 + 16), .int (nI (i + 1)), .int (nI j)] [] σ τ _
    refine Rx.go (fun _ => rfl) ?_
    exact Rx.ret rfl (ev_reti rfl) ⟨by rw [gd0 (bt_ge hR hi hj c1)]; rfl, rfl, rfl⟩
  · replace c1 : ¬ (nI (off ts (i + 1))) ≤ (nI (off ts i + j)) := of_decide_eq_false c1
    show Rx X c0 m_Mod_byteAt 19 [.ref (c0 + 16), .int (nI (i + 1)), .int (nI j)] [] σ τ _
    refine Rx.go (fun _ => rfl) ?_
    refine Rx.get rfl rfl ?_
    refine Rx.go (fun _ => rfl) ?_
    refine Rx.get rfl rfl ?_
    refine Rx.go (fun _ => rfl) ?_
    refine Rx.aldE 4 rfl rfl (nI_ix (N := 2002) (n := i + 1) (by have := hR.2.1; omega) (by decide)) (rt_f hR (i := i) (by omega)) ?_
    refine Rx.go (fun _ => rfl) ?_
    refine Rx.go (fun _ => rfl) ?_
    refine Rx.top (y := nI (off ts i + j)) (nI_add _ _) ?_
    refine Rx.aldE 3 rfl rfl (nI_ix (rt_b hR hi (bt_lt hR hi hj c1)).1 (by decide)) (rt_b hR hi (bt_lt hR hi hj c1)).2 ?_
    refine Rx.go (fun _ => rfl) ?_
    exact Rx.ret rfl (ev_reti rfl) ⟨rfl, rfl, rfl⟩
