/-! part of the reference: to its end. (rows laid by wip/whole/rr21.py) -/
theorem RC.dr {ts : RT} {t sh d : List Nat} {u pl : Nat} {σ σ2 : Nat → Int32} {τ τ2 : Nat → Nat → Int32} (h : RC ts t u pl sh σ τ) (h4 : ∀ k, k ≠ 10 → k ≠ 11 → k ≠ 12 → k ≠ 13 → σ2 k = σ k) (h8 : ∀ k, k ≠ 9 → τ2 k = τ k) (hd : σ2 10 = nI d.length) (hl : d.length ≤ 250) : RC ts t u pl sh σ2 τ2 := by
  obtain ⟨a1, ⟨b1, b2, b3, b4⟩, ⟨c1, c2⟩, ⟨d1, d2, d3, d4⟩, e1, -⟩ := h
  refine ⟨rt_same a1 (h4 7 (by decide) (by decide) (by decide) (by decide)) (h8 3 (by decide)) (h8 4 (by decide)) (h8 5 (by decide)) (h8 6 (by decide)), ⟨(h4 1 (by decide) (by decide) (by decide) (by decide)).trans b1, b2, fun j hj => ?_, b4⟩, ⟨(h4 8 (by decide) (by decide) (by decide) (by decide)).trans c1, c2⟩, ⟨(h4 15 (by decide) (by decide) (by decide) (by decide)).trans d1, d2, fun k hk => ?_, d4⟩, (h4 2 (by decide) (by decide) (by decide) (by decide)).trans e1, _, hd, hl⟩
  · rw [h8 0 (by decide)]; exact b3 j hj
  · rw [h8 14 (by decide)]; exact d3 k hk
/-- the draft is made, from 258 -/
theorem pt_end {X : ev_X} {c0 : Nat} {ts : RT} {t sh : List Nat} {u pl : Nat} {σ : Nat → Int32} {τ : Nat → Nat → Int32} {σ2 : Nat → Int32} {τ2 : Nat → Nat → Int32} {d : List Nat} {dk q db : Nat} {A : List Value} {v1 v2 v3 v4 : Value} (hA : A = [.ref (c0 + 16), v1, v2, v3, v4]) (hroom : off ts ts.length + 260 ≤ 132000) (hC : RC ts t u pl sh σ τ) (h4 : ∀ k, k ≠ 10 → k ≠ 11 → k ≠ 12 → k ≠ 13 → σ2 k = σ k) (h8 : ∀ k, k ≠ 9 → τ2 k = τ k) (hd : drf σ2 τ2 d) (hl : d.length ≤ 250) (h11 : σ2 11 = nI dk) (hdk : dk < 16) (h12 : σ2 12 = nI q) (hq : q ≤ 260) (h13 : σ2 13 = nI db) (hdb : db ≤ 1000) : Rx X c0 m_Mod_part 258 A [] σ2 τ2 (fun r σ' τ' => ∃ ts' u', RC ts' t u' pl sh σ' τ' ∧ mdR ts dk d q u db r ts' u') := by
  subst hA
  have hC1 := hC.dr h4 h8 hd.1 hl
  refine Rx.go (fun _ => rfl) ?_
  refine Rx.call rfl rfl rfl rfl (rx_makeDraft X c0 _ _ hC1.1 hd h11 hdk h12 hq (u := u) hC1.2.2.1.1 hC1.2.2.1.2 h13 hdb (by omega)) ?_
  intro v σ3 τ3 hM
  exact mdP_ret (ts := ts) (dk := dk) (q := q) (u := u) (db := db) (d := d) rfl rfl hM (fun hM => hC1.md hM)
theorem rbg_o {σ : Nat → Int32} {b : Int32} {k : Nat} (h1 : k ≠ 10) (h2 : k ≠ 11) (h3 : k ≠ 12) (h4 : k ≠ 13) : rbg σ b k = σ k := by rw [rbg, pk_un h4, pk_un h3, pk_un h1, pk_un h2]
theorem itl_le : ∀ l : List Nat, itl l ≤ l.length := by
  intro l
  induction l using itl.induct <;> simp_all [itl] <;> omega
set_option maxRecDepth 100000 in
set_option maxHeartbeats 2000000 in
theorem pt_w0 {X : ev_X} {c0 : Nat} {ts : RT} {t sh : List Nat} {u pl : Nat} {σ : Nat → Int32} {τ : Nat → Nat → Int32} {i q : Nat} (hroom : off ts ts.length + 260 ≤ 132000) (hC : RC ts t u pl sh σ τ) (hi : i < ts.length) (hq : q + 1 ≤ (bys ts i).length) (hl : (bys ts i).length ≤ 250) (v4 : Value) : Rx X c0 m_Mod_part 86 [.ref (c0 + 16), .int (nI (i + 1)), .int 0, .int (nI q), v4] [] σ τ (fun r σ' τ' => ∃ ts' u', RC ts' t u' pl sh σ' τ' ∧ mdR ts 5 ((bys ts i).take (q + 1)) q u (itl (((bys ts i).take q).drop 1)) r ts' u') := by
  refine Rx.go (fun _ => rfl) ?_
  refine Rx.go (fun _ => rfl) ?_
  refine Rx.callE rfl rfl rfl rfl (rx_begin X c0 _ _ 5) ?_
  show Rx X c0 m_Mod_part 91 [.ref (c0 + 16), .int (nI (i + 1)), .int 0, .int (nI q), v4] [] (rbg σ 5) τ _
  refine Rx.go (fun _ => rfl) ?_
  refine Rx.go (fun _ => rfl) ?_
  show Rx X c0 m_Mod_part 94 [.ref (c0 + 16), .int (nI (i + 1)), .int 0, .int (nI q), .int 0] [] (rbg σ 5) τ _
  show Rx X c0 m_Mod_part 94 [.ref (c0 + 16), .int (nI (i + 1)), .int 0, .int (nI q), .int 0] [] (rbg σ 5) τ _
  refine pt_94 (σ0 := rbg σ 5) (τ0 := τ) (rt_same hC.1 rfl rfl rfl rfl rfl) hi 0 hq (fun σ' τ' hW => ?_) (q + 1) 0 _ _ (by omega) (ws_0 rfl)
  have h4 : ∀ k, k ≠ 10 → k ≠ 11 → k ≠ 12 → k ≠ 13 → σ' k = σ k := fun k k1 k2 k3 k4 => (hW.1 k k1).trans (rbg_o k1 k2 k3 k4)
  have h8 := hW.2.1
  refine Rx.go (fun _ => rfl) ?_
  refine Rx.go (fun _ => rfl) ?_
  refine Rx.put rfl (by decide) rfl rfl ?_
  refine Rx.go (fun _ => rfl) ?_
  refine Rx.go (fun _ => rfl) ?_
  refine Rx.go (fun _ => rfl) ?_
  refine Rx.go (fun _ => rfl) ?_
  refine Rx.go (fun _ => rfl) ?_
  refine Rx.callE rfl rfl rfl rfl (rx_items X c0 (upd σ' 12 (nI q)) τ' (rt_same (σ' := upd σ' 12 (nI q)) hC.1 (h4 7 (by decide) (by decide) (by decide) (by decide)) (h8 3 (by decide)) (h8 4 (by decide)) (h8 5 (by decide)) (h8 6 (by decide))) hi (f := 1) (e := q) (by omega) (by omega)) ?_
  show Rx X c0 m_Mod_part 130 [.ref (c0 + 16), .int (nI (i + 1)), .int 0, .int (nI q), .int (nI (q + 1))] [.int (nI (itl (((bys ts i).take q).drop 1))), .ref (c0 + 16)] (upd σ' 12 (nI q)) τ' _
  refine Rx.put rfl (by decide) rfl rfl ?_
  refine Rx.go (fun _ => rfl) ?_
  show Rx X c0 m_Mod_part 258 [.ref (c0 + 16), .int (nI (i + 1)), .int 0, .int (nI q), .int (nI (q + 1))] [] (upd (upd σ' 12 (nI q)) 13 (nI (itl (((bys ts i).take q).drop 1)))) τ' _
  have hlt : ((bys ts i).take (q + 1)).length ≤ 250 := by rw [List.length_take]; omega
  exact pt_end rfl hroom hC (fun k k1 k2 k3 k4 => by rw [pk_un k4, pk_un k3]; exact h4 k k1 k2 k3 k4) h8 ⟨hW.2.2.1, hW.2.2.2.1, hW.2.2.2.2.1, hW.2.2.2.2.2⟩ hlt (dk := 5) (hW.1 11 (by decide)) (by decide) (q := q) rfl (by omega) (db := itl (((bys ts i).take q).drop 1)) rfl (by have := itl_le (((bys ts i).take q).drop 1); rw [List.length_drop, List.length_take] at this; omega)
