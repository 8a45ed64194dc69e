/-! part of the reference: the language, the type. (rows laid by wip/whole/rr22.py) -/
theorem WS.up {σ0 σ : Nat → Int32} {τ0 τ : Nat → Nat → Int32} {d : List Nat} {j : Nat} {x : Int32} (h : WS σ0 τ0 d σ τ) (hj : j ≠ 10) : WS (upd σ0 j x) τ0 d (upd σ j x) τ := by
  obtain ⟨h1, h2, h3, h4, h5, h6⟩ := h
  refine ⟨fun k hk => ?_, h2, by rw [pk_un (Ne.symm hj)]; exact h3, h4, h5, h6⟩
  by_cases q : k = j
  · subst q; rw [pk_us, pk_us]
  · rw [pk_un q, pk_un q]; exact h1 k hk
set_option maxRecDepth 100000 in
set_option maxHeartbeats 2000000 in
theorem pt_w1 {X : ev_X} {c0 : Nat} {ts : RT} {t sh : List Nat} {u pl : Nat} {σ : Nat → Int32} {τ : Nat → Nat → Int32} {i q : Nat} (hroom : off ts ts.length + 260 ≤ 132000) (hC : RC ts t u pl sh σ τ) (hi : i < ts.length) (hq : q + 2 ≤ (bys ts i).length) (hl : (bys ts i).length ≤ 250) (v4 : Value) : Rx X c0 m_Mod_part 141 [.ref (c0 + 16), .int (nI (i + 1)), .int 1, .int (nI q), v4] [] σ τ (fun r σ' τ' => ∃ ts' u', RC ts' t u' pl sh σ' τ' ∧ mdR ts 5 ([34] ++ (bys ts i).drop (q + 2) ++ [34]) (((bys ts i).drop (q + 2)).length + 1) u ((bys ts i).drop (q + 2)).length r ts' u') := by
  refine Rx.go (fun _ => rfl) ?_
  refine Rx.go (fun _ => rfl) ?_
  refine Rx.callE rfl rfl rfl rfl (rx_begin X c0 _ _ 5) ?_
  show Rx X c0 m_Mod_part 146 [.ref (c0 + 16), .int (nI (i + 1)), .int 1, .int (nI q), v4] [] (rbg σ 5) τ _
  refine Rx.go (fun _ => rfl) ?_
  refine Rx.go (fun _ => rfl) ?_
  refine Rx.callP rfl rfl rfl rfl (ws_put 34 (ws_0 rfl) (by decide) (by decide)) ?_
  intro σ101 τ101 hW101
  show Rx X c0 m_Mod_part 152 [.ref (c0 + 16), .int (nI (i + 1)), .int 1, .int (nI q), v4] [] σ101 τ101 _
  refine Rx.go (fun _ => rfl) ?_
  refine Rx.go (fun _ => rfl) ?_
  refine Rx.go (fun _ => rfl) ?_
  refine Rx.top (y := nI (q + 2)) (nI_add q 2) ?_
  refine Rx.go (fun _ => rfl) ?_
  show Rx X c0 m_Mod_part 157 [.ref (c0 + 16), .int (nI (i + 1)), .int 1, .int (nI q), .int (nI (q + 2))] [] σ101 τ101 _
  show Rx X c0 m_Mod_part 157 [.ref (c0 + 16), .int (nI (i + 1)), .int 1, .int (nI q), .int (nI (q + 2))] [] σ101 τ101 _
  refine pt_157 (σ0 := rbg σ 5) (τ0 := τ) (rt_same hC.1 rfl rfl rfl rfl rfl) hi 1 (nI q) ((bys ts i).length - (q + 2)) (q + 2) [34] _ _ (by omega) (by simp only [List.length_cons, List.length_nil]; omega) hW101 (fun σ' τ' hW => ?_)
  have h4 : ∀ k, k ≠ 10 → k ≠ 11 → k ≠ 12 → k ≠ 13 → σ' k = σ k := fun k k1 k2 k3 k4 => (hW.1 k k1).trans (rbg_o k1 k2 k3 k4)
  have h8 := hW.2.1
  have hdl : ((bys ts i).drop (q + 2)).length + (q + 2) = (bys ts i).length := by rw [List.length_drop]; omega
  refine Rx.go (fun _ => rfl) ?_
  refine Rx.go (fun _ => rfl) ?_
  refine Rx.get rfl rfl ?_
  refine Rx.top (y := nI (((bys ts i).drop (q + 2)).length + 1)) (hW.2.2.1.trans (congrArg nI (by simp only [List.length_append, List.length_cons, List.length_nil]; omega))) ?_
  refine Rx.go (fun _ => rfl) ?_
  refine Rx.go (fun _ => rfl) ?_
  refine Rx.top (y := nI ((bys ts i).drop (q + 2)).length) (nI_s1 _) ?_
  refine Rx.put rfl (by decide) rfl rfl ?_
  refine Rx.go (fun _ => rfl) ?_
  refine Rx.go (fun _ => rfl) ?_
  refine Rx.get rfl rfl ?_
  refine Rx.top (y := nI (((bys ts i).drop (q + 2)).length + 1)) (hW.2.2.1.trans (congrArg nI (by simp only [List.length_append, List.length_cons, List.length_nil]; omega))) ?_
  refine Rx.put rfl (by decide) rfl rfl ?_
  refine Rx.go (fun _ => rfl) ?_
  refine Rx.go (fun _ => rfl) ?_
  refine Rx.callP rfl rfl rfl rfl (ws_put 34 ((hW.up (j := 13) (x := nI ((bys ts i).drop (q + 2)).length) (by decide)).up (j := 12) (x := nI (((bys ts i).drop (q + 2)).length + 1)) (by decide)) (by simp only [List.length_append, List.length_cons, List.length_nil]; omega) (by decide)) ?_
  intro σ102 τ102 hW102
  show Rx X c0 m_Mod_part 208 [.ref (c0 + 16), .int (nI (i + 1)), .int 1, .int (nI q), .int (nI (bys ts i).length)] [] σ102 τ102 _
  refine Rx.go (fun _ => rfl) ?_
  show Rx X c0 m_Mod_part 258 [.ref (c0 + 16), .int (nI (i + 1)), .int 1, .int (nI q), .int (nI (bys ts i).length)] [] σ102 τ102 _
  exact pt_end rfl hroom hC (fun k k1 k2 k3 k4 => by rw [hW102.1 k k1, pk_un k3, pk_un k4]; exact rbg_o k1 k2 k3 k4) hW102.2.1 hW102.2.2 (by simp only [List.length_append, List.length_cons, List.length_nil]; omega) (dk := 5) (hW102.1 11 (by decide)) (by decide) (q := ((bys ts i).drop (q + 2)).length + 1) (hW102.1 12 (by decide)) (by omega) (db := ((bys ts i).drop (q + 2)).length) (hW102.1 13 (by decide)) (by omega)
set_option maxRecDepth 100000 in
set_option maxHeartbeats 2000000 in
theorem pt_w2 {X : ev_X} {c0 : Nat} {ts : RT} {t sh : List Nat} {u pl : Nat} {σ : Nat → Int32} {τ : Nat → Nat → Int32} {i q : Nat} (hroom : off ts ts.length + 260 ≤ 132000) (hC : RC ts t u pl sh σ τ) (hi : i < ts.length) (hq : q + 5 ≤ (bys ts i).length) (hl : (bys ts i).length ≤ 250) (v4 : Value) : Rx X c0 m_Mod_part 211 [.ref (c0 + 16), .int (nI (i + 1)), .int 2, .int (nI q), v4] [] σ τ (fun r σ' τ' => ∃ ts' u', RC ts' t u' pl sh σ' τ' ∧ mdR ts 2 ((bys ts i).drop (q + 3)) 0 u (((bys ts i).drop (q + 3)).length - 2) r ts' u') := by
  refine Rx.go (fun _ => rfl) ?_
  refine Rx.go (fun _ => rfl) ?_
  refine Rx.callE rfl rfl rfl rfl (rx_begin X c0 _ _ 2) ?_
  show Rx X c0 m_Mod_part 216 [.ref (c0 + 16), .int (nI (i + 1)), .int 2, .int (nI q), v4] [] (rbg σ 2) τ _
  refine Rx.go (fun _ => rfl) ?_
  refine Rx.go (fun _ => rfl) ?_
  refine Rx.go (fun _ => rfl) ?_
  refine Rx.top (y := nI (q + 3)) (nI_add q 3) ?_
  refine Rx.go (fun _ => rfl) ?_
  show Rx X c0 m_Mod_part 221 [.ref (c0 + 16), .int (nI (i + 1)), .int 2, .int (nI q), .int (nI (q + 3))] [] (rbg σ 2) τ _
  show Rx X c0 m_Mod_part 221 [.ref (c0 + 16), .int (nI (i + 1)), .int 2, .int (nI q), .int (nI (q + 3))] [] (rbg σ 2) τ _
  refine pt_221 (σ0 := rbg σ 2) (τ0 := τ) (rt_same hC.1 rfl rfl rfl rfl rfl) hi 2 (nI q) ((bys ts i).length - (q + 3)) (q + 3) [] _ _ (by omega) (by simp only [List.length_cons, List.length_nil]; omega) (ws_0 rfl) (fun σ' τ' hW => ?_)
  have h4 : ∀ k, k ≠ 10 → k ≠ 11 → k ≠ 12 → k ≠ 13 → σ' k = σ k := fun k k1 k2 k3 k4 => (hW.1 k k1).trans (rbg_o k1 k2 k3 k4)
  have h8 := hW.2.1
  have hdl : ((bys ts i).drop (q + 3)).length + (q + 3) = (bys ts i).length := by rw [List.length_drop]; omega
  refine Rx.go (fun _ => rfl) ?_
  refine Rx.go (fun _ => rfl) ?_
  refine Rx.get rfl rfl ?_
  refine Rx.top (y := nI ((bys ts i).drop (q + 3)).length) hW.2.2.1 ?_
  refine Rx.go (fun _ => rfl) ?_
  refine Rx.go (fun _ => rfl) ?_
  refine Rx.top (y := nI (((bys ts i).drop (q + 3)).length - 2)) (pk_sub (b := 2) (by omega)) ?_
  refine Rx.put rfl (by decide) rfl rfl ?_
  show Rx X c0 m_Mod_part 258 [.ref (c0 + 16), .int (nI (i + 1)), .int 2, .int (nI q), .int (nI (bys ts i).length)] [] (upd σ' 13 (nI (((bys ts i).drop (q + 3)).length - 2))) τ' _
  exact pt_end rfl hroom hC (fun k k1 k2 k3 k4 => by rw [pk_un k4]; exact h4 k k1 k2 k3 k4) h8 ⟨hW.2.2.1, hW.2.2.2.1, hW.2.2.2.2.1, hW.2.2.2.2.2⟩ (d := (bys ts i).drop (q + 3)) (by omega) (dk := 2) (hW.1 11 (by decide)) (by decide) (q := 0) (hW.1 12 (by decide)) (by decide) (db := ((bys ts i).drop (q + 3)).length - 2) rfl (by omega)
