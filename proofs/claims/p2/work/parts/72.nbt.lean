/-! number of the reference over any table. (rows laid by wip/whole/rx14.py) -/
/-- what makeDraft answers for the draft d of kind dk, quote q, db bytes; the state behind it -/
def mdP (ts : RT) (dk : Nat) (d : List Nat) (q u db : Nat) (σ : Nat → Int32) (τ : Nat → Nat → Int32) (r : Option Value) (σ' : Nat → Int32) (τ' : Nat → Nat → Int32) : Prop := (∃ j : Nat, 0 < j ∧ fdP ts dk d j ∧ r = some (.int (nI j)) ∧ σ' = σ ∧ τ' = τ) ∨ (fdP ts dk d 0 ∧ (ts.length = 2000 ∨ 40000 < u + db) ∧ r = some (.int (-3)) ∧ σ' = σ ∧ τ' = τ) ∨ (fdP ts dk d 0 ∧ ts.length < 2000 ∧ u + db ≤ 40000 ∧ r = some (.int (nI (ts.length + 1))) ∧ σ' = upd (upd σ 7 (nI (ts.length + 1))) 8 (nI (u + db)) ∧ rt σ' τ' (ts ++ [(dk, d, q)]) ∧ ∀ kk, kk ≠ 3 → kk ≠ 4 → kk ≠ 5 → kk ≠ 6 → τ' kk = τ kk)
theorem mdP_ret {X : ev_X} {c0 M pc nx a b w : Nat} {A : List Value} {ts : RT} {dk q u db : Nat} {d : List Nat} {σ σ1 : Nat → Int32} {τ τ1 : Nat → Nat → Int32} {v : Option Value} {Q : Option Value → (Nat → Int32) → (Nat → Nat → Int32) → Prop} (op : pg_ops M pc = some (.ireturn, nx, a, b, w)) (hr : pg_r M = some .int) (hq : mdP ts dk d q u db σ τ v σ1 τ1) (hQ : mdP ts dk d q u db σ τ v σ1 τ1 → Q v σ1 τ1) : Rx X c0 M pc A (v.toList ++ []) σ1 τ1 Q := by
  have hv : ∃ i : Int32, v = some (.int i) := by
    rcases hq with ⟨_, _, _, e, _⟩ | ⟨_, _, e, _⟩ | ⟨_, _, _, e, _⟩ <;> exact ⟨_, e⟩
  obtain ⟨i, rfl⟩ := hv
  exact Rx.ret op (ev_reti hr) (hQ hq)
/-- number's end: the draft out of the 18 digits of r, and what makeDraft answers for it -/
def nbP (ts : RT) (u : Nat) (bel : Bool) (dec : Bool) (W r : Nat) (σ : Nat → Int32) (τ : Nat → Nat → Int32) (v : Option Value) (σ' : Nat → Int32) (τ' : Nat → Nat → Int32) : Prop := ∃ L g σ1 τ1, trail (dgl 18 r) W L ∧ lead (dgl 18 r) W g ∧ L - W ≤ 9 ∧ (∀ k, k ≠ 10 → k ≠ 11 → k ≠ 12 → k ≠ 13 → k ≠ 18 → k ≠ 22 → k ≠ 23 → σ1 k = σ k) ∧ σ1 18 = 0 ∧ σ1 10 = nI (wN bel dec (dgl 18 r) g W L).length ∧ (wN bel dec (dgl 18 r) g W L).length ≤ 250 ∧ (∀ k, k ≠ 9 → k ≠ 21 → τ1 k = τ k) ∧ mdP ts (if dec = true then 4 else 3) (wN bel dec (dgl 18 r) g W L) 0 u 0 σ1 τ1 v σ' τ'
theorem wN_len {bel dec : Bool} {ds : List Nat} {g W L : Nat} (h18 : ds.length ≤ 18) : (wN bel dec ds g W L).length ≤ 60 := by
  unfold wN wS wZ wD
  have h1 : ((ds.drop g).take (W - g)).length ≤ 18 := by rw [List.length_take, List.length_drop]; omega
  have h2 : ((ds.drop W).take (L - W)).length ≤ 18 := by rw [List.length_take, List.length_drop]; omega
  repeat' split
  all_goals (simp only [List.length_append, List.length_cons, List.length_nil]; omega)
set_option maxRecDepth 100000 in
set_option maxHeartbeats 1000000 in
theorem nb_tw (X : ev_X) (c0 : Nat) (v rs : Int64) {r u : Nat} {ts : RT} {σ : Nat → Int32} {τ : Nat → Nat → Int32} (hn : nd τ (dgl 18 r)) (h22 : σ 22 = nI 18) (hR : rt σ τ ts) (h8 : σ 8 = nI u) (hu : u ≤ 40000) (hroom : off ts ts.length + 260 ≤ 132000) : Rx X c0 m_Mod_number 85 [.ref (c0 + 16), .long v, ev_dead, .int (-1), .long rs, ev_dead, .int (-1)] [] σ τ (nbP ts u (decide (v < 0)) false 18 r σ τ) := by
  refine Rx.go (fun _ => rfl) ?_
  refine Rx.go (fun _ => rfl) ?_
  refine Rx.go (fun _ => rfl) ?_
  show Rx X c0 m_Mod_number 90 [.ref (c0 + 16), .long v, ev_dead, .int (-1), .long rs, ev_dead, .int (-1)] [.ref (c0 + 16)] σ τ _
  refine Rx.go (fun _ => rfl) ?_
  refine Rx.go (fun _ => rfl) ?_
  refine Rx.put rfl (by decide) rfl rfl ?_
  refine Rx.go (fun _ => rfl) ?_
  refine Rx.go (fun _ => rfl) ?_
  refine Rx.put rfl (by decide) rfl rfl ?_
  refine Rx.go (fun _ => rfl) ?_
  refine Rx.go (fun _ => rfl) ?_
  refine Rx.go (fun _ => rfl) ?_
  refine Rx.go (fun _ => rfl) ?_
  refine Rx.go (fun _ => rfl) ?_
  refine Rx.ite (fun c1 => ?_) (fun c1 => ?_)
  · replace c1 : 0 ≤ (lg_cmp v 0) := of_decide_eq_true c1
    show Rx X c0 m_Mod_number 117 [.ref (c0 + 16), .long v, ev_dead, .int (-1), .long rs, ev_dead, .int (-1)] [.ref (c0 + 16)] (upd (upd σ 23 (-1)) 18 0) τ _
    refine Rx.go (fun _ => rfl) ?_
    refine Rx.go (fun _ => rfl) ?_
    refine Rx.callP rfl rfl rfl rfl (rx_wn_w X c0 hn false 0 (by rw [dgl_len]; exact h22) rfl) ?_
    intro σ1 τ1 hp1
    rw [dgl_len] at hp1
    obtain ⟨L, ht, hq⟩ := hp1
    have htl1 := ht.1
    have htl2 := ht.2.1
    rw [dgl_len] at htl2
    rcases hq with ⟨e9, g, hg, hWS⟩ | ⟨e9, -, -⟩
    rotate_left
    · exfalso; omega
    show Rx X c0 m_Mod_number 122 [.ref (c0 + 16), .long v, ev_dead, .int (-1), .long rs, ev_dead, .int (-1)] [] σ1 τ1 _
    refine Rx.go (fun _ => rfl) ?_
    have hw := hWS.1
    have hv := hWS.2.1
    have hln := wN_len (bel := false) (dec := false) (g := g) (W := 18) (L := L) (ds := dgl 18 r) (by rw [dgl_len]; decide)
    refine Rx.call rfl rfl rfl rfl (rx_makeDraft X c0 σ1 τ1 (rt_same hR (hw 7 (by decide)) (hv 3 (by decide)) (hv 4 (by decide)) (hv 5 (by decide)) (hv 6 (by decide))) hWS.2.2 (dk := 3) (hw 11 (by decide)) (by decide) (q := 0) (hw 12 (by decide)) (by decide) (u := u) ((hw 8 (by decide)).trans h8) hu (db := 0) (hw 13 (by decide)) (by decide) (by omega)) ?_
    intro z σ2 τ2 hm
    refine mdP_ret rfl rfl hm (fun hm => ?_)
    rw [show (decide (v < 0)) = false by simp [← Int64.not_le, ← lgc_ge, c1]]
    refine ⟨L, g, σ1, τ1, ht, hg, e9, fun k k1 k2 k3 k4 k5 k6 k7 => ?_, hw 18 (by decide), hWS.2.2.1, by omega, fun k k1 k2 => hv k k1, hm⟩
    rw [hw k k1]
    simp only [rbg, pk_un k1, pk_un k2, pk_un k3, pk_un k4, pk_un k5, pk_un k7]
  · replace c1 : ¬ 0 ≤ (lg_cmp v 0) := of_decide_eq_false c1
    show Rx X c0 m_Mod_number 113 [.ref (c0 + 16), .long v, ev_dead, .int (-1), .long rs, ev_dead, .int (-1)] [.ref (c0 + 16)] (upd (upd σ 23 (-1)) 18 0) τ _
    refine Rx.go (fun _ => rfl) ?_
    refine Rx.go (fun _ => rfl) ?_
    refine Rx.go (fun _ => rfl) ?_
    refine Rx.callP rfl rfl rfl rfl (rx_wn_w X c0 hn true 0 (by rw [dgl_len]; exact h22) rfl) ?_
    intro σ1 τ1 hp1
    rw [dgl_len] at hp1
    obtain ⟨L, ht, hq⟩ := hp1
    have htl1 := ht.1
    have htl2 := ht.2.1
    rw [dgl_len] at htl2
    rcases hq with ⟨e9, g, hg, hWS⟩ | ⟨e9, -, -⟩
    rotate_left
    · exfalso; omega
    show Rx X c0 m_Mod_number 122 [.ref (c0 + 16), .long v, ev_dead, .int (-1), .long rs, ev_dead, .int (-1)] [] σ1 τ1 _
    refine Rx.go (fun _ => rfl) ?_
    have hw := hWS.1
    have hv := hWS.2.1
    have hln := wN_len (bel := true) (dec := false) (g := g) (W := 18) (L := L) (ds := dgl 18 r) (by rw [dgl_len]; decide)
    refine Rx.call rfl rfl rfl rfl (rx_makeDraft X c0 σ1 τ1 (rt_same hR (hw 7 (by decide)) (hv 3 (by decide)) (hv 4 (by decide)) (hv 5 (by decide)) (hv 6 (by decide))) hWS.2.2 (dk := 3) (hw 11 (by decide)) (by decide) (q := 0) (hw 12 (by decide)) (by decide) (u := u) ((hw 8 (by decide)).trans h8) hu (db := 0) (hw 13 (by decide)) (by decide) (by omega)) ?_
    intro z σ2 τ2 hm
    refine mdP_ret rfl rfl hm (fun hm => ?_)
    rw [show (decide (v < 0)) = true by simp [← Int64.not_le, ← lgc_ge, c1]]
    refine ⟨L, g, σ1, τ1, ht, hg, e9, fun k k1 k2 k3 k4 k5 k6 k7 => ?_, hw 18 (by decide), hWS.2.2.1, by omega, fun k k1 k2 => hv k k1, hm⟩
    rw [hw k k1]
    simp only [rbg, pk_un k1, pk_un k2, pk_un k3, pk_un k4, pk_un k5, pk_un k7]
set_option maxRecDepth 100000 in
set_option maxHeartbeats 1000000 in
theorem nb_td (X : ev_X) (c0 : Nat) (v rs : Int64) {p : Nat} (hp9 : p ≤ 9) {r u : Nat} {ts : RT} {σ : Nat → Int32} {τ : Nat → Nat → Int32} (hn : nd τ (dgl 18 r)) (h22 : σ 22 = nI 18) (hR : rt σ τ ts) (h8 : σ 8 = nI u) (hu : u ≤ 40000) (hroom : off ts ts.length + 260 ≤ 132000) : Rx X c0 m_Mod_number 85 [.ref (c0 + 16), .long v, ev_dead, .int (nI p), .long rs, ev_dead, .int (-1)] [] σ τ (nbP ts u (decide (v < 0)) true (18 - p) r σ τ) := by
  refine Rx.go (fun _ => rfl) ?_
  refine Rx.go (fun _ => rfl) ?_
  refine Rx.go (fun _ => rfl) ?_
  refine Rx.ite (fun c1 => ?_) (fun c1 => ?_)
  · replace c1 : 0 ≤ (nI p) := of_decide_eq_true c1
    show Rx X c0 m_Mod_number 94 [.ref (c0 + 16), .long v, ev_dead, .int (nI p), .long rs, ev_dead, .int (-1)] [.ref (c0 + 16)] σ τ _
    refine Rx.go (fun _ => rfl) ?_
    refine Rx.go (fun _ => rfl) ?_
    refine Rx.go (fun _ => rfl) ?_
    refine Rx.top (y := nI (18 - p)) (pk_sub (a := 18) (by omega)) ?_
    refine Rx.put rfl (by decide) rfl rfl ?_
    refine Rx.go (fun _ => rfl) ?_
    refine Rx.go (fun _ => rfl) ?_
    refine Rx.put rfl (by decide) rfl rfl ?_
    refine Rx.go (fun _ => rfl) ?_
    refine Rx.go (fun _ => rfl) ?_
    refine Rx.go (fun _ => rfl) ?_
    refine Rx.go (fun _ => rfl) ?_
    refine Rx.go (fun _ => rfl) ?_
    refine Rx.ite (fun c2 => ?_) (fun c2 => ?_)
    · replace c2 : 0 ≤ (lg_cmp v 0) := of_decide_eq_true c2
      show Rx X c0 m_Mod_number 117 [.ref (c0 + 16), .long v, ev_dead, .int (nI p), .long rs, ev_dead, .int (-1)] [.ref (c0 + 16)] (upd (upd σ 23 (nI (18 - p))) 18 0) τ _
      refine Rx.go (fun _ => rfl) ?_
      refine Rx.go (fun _ => rfl) ?_
      refine Rx.callP rfl rfl rfl rfl (rx_wn_d X c0 hn false 0 (by rw [dgl_len]; exact h22) (W := 18 - p) (by rw [dgl_len]; omega) rfl) ?_
      intro σ1 τ1 hp1
      obtain ⟨L, ht, hq⟩ := hp1
      have htl1 := ht.1
      have htl2 := ht.2.1
      rw [dgl_len] at htl2
      rcases hq with ⟨e9, g, hg, hWS⟩ | ⟨e9, -, -⟩
      rotate_left
      · exfalso; omega
      show Rx X c0 m_Mod_number 122 [.ref (c0 + 16), .long v, ev_dead, .int (nI p), .long rs, ev_dead, .int (-1)] [] σ1 τ1 _
      refine Rx.go (fun _ => rfl) ?_
      have hw := hWS.1
      have hv := hWS.2.1
      have hln := wN_len (bel := false) (dec := true) (g := g) (W := (18 - p)) (L := L) (ds := dgl 18 r) (by rw [dgl_len]; decide)
      refine Rx.call rfl rfl rfl rfl (rx_makeDraft X c0 σ1 τ1 (rt_same hR (hw 7 (by decide)) (hv 3 (by decide)) (hv 4 (by decide)) (hv 5 (by decide)) (hv 6 (by decide))) hWS.2.2 (dk := 4) (hw 11 (by decide)) (by decide) (q := 0) (hw 12 (by decide)) (by decide) (u := u) ((hw 8 (by decide)).trans h8) hu (db := 0) (hw 13 (by decide)) (by decide) (by omega)) ?_
      intro z σ2 τ2 hm
      refine mdP_ret rfl rfl hm (fun hm => ?_)
      rw [show (decide (v < 0)) = false by simp [← Int64.not_le, ← lgc_ge, c2]]
      refine ⟨L, g, σ1, τ1, ht, hg, e9, fun k k1 k2 k3 k4 k5 k6 k7 => ?_, hw 18 (by decide), hWS.2.2.1, by omega, fun k k1 k2 => hv k k1, hm⟩
      rw [hw k k1]
      simp only [rbg, pk_un k1, pk_un k2, pk_un k3, pk_un k4, pk_un k5, pk_un k7]
    · replace c2 : ¬ 0 ≤ (lg_cmp v 0) := of_decide_eq_false c2
      show Rx X c0 m_Mod_number 113 [.ref (c0 + 16), .long v, ev_dead, .int (nI p), .long rs, ev_dead, .int (-1)] [.ref (c0 + 16)] (upd (upd σ 23 (nI (18 - p))) 18 0) τ _
      refine Rx.go (fun _ => rfl) ?_
      refine Rx.go (fun _ => rfl) ?_
      refine Rx.go (fun _ => rfl) ?_
      refine Rx.callP rfl rfl rfl rfl (rx_wn_d X c0 hn true 0 (by rw [dgl_len]; exact h22) (W := 18 - p) (by rw [dgl_len]; omega) rfl) ?_
      intro σ1 τ1 hp1
      obtain ⟨L, ht, hq⟩ := hp1
      have htl1 := ht.1
      have htl2 := ht.2.1
      rw [dgl_len] at htl2
      rcases hq with ⟨e9, g, hg, hWS⟩ | ⟨e9, -, -⟩
      rotate_left
      · exfalso; omega
      show Rx X c0 m_Mod_number 122 [.ref (c0 + 16), .long v, ev_dead, .int (nI p), .long rs, ev_dead, .int (-1)] [] σ1 τ1 _
      refine Rx.go (fun _ => rfl) ?_
      have hw := hWS.1
      have hv := hWS.2.1
      have hln := wN_len (bel := true) (dec := true) (g := g) (W := (18 - p)) (L := L) (ds := dgl 18 r) (by rw [dgl_len]; decide)
      refine Rx.call rfl rfl rfl rfl (rx_makeDraft X c0 σ1 τ1 (rt_same hR (hw 7 (by decide)) (hv 3 (by decide)) (hv 4 (by decide)) (hv 5 (by decide)) (hv 6 (by decide))) hWS.2.2 (dk := 4) (hw 11 (by decide)) (by decide) (q := 0) (hw 12 (by decide)) (by decide) (u := u) ((hw 8 (by decide)).trans h8) hu (db := 0) (hw 13 (by decide)) (by decide) (by omega)) ?_
      intro z σ2 τ2 hm
      refine mdP_ret rfl rfl hm (fun hm => ?_)
      rw [show (decide (v < 0)) = true by simp [← Int64.not_le, ← lgc_ge, c2]]
      refine ⟨L, g, σ1, τ1, ht, hg, e9, fun k k1 k2 k3 k4 k5 k6 k7 => ?_, hw 18 (by decide), hWS.2.2.1, by omega, fun k k1 k2 => hv k k1, hm⟩
      rw [hw k k1]
      simp only [rbg, pk_un k1, pk_un k2, pk_un k3, pk_un k4, pk_un k5, pk_un k7]
  · replace c1 : ¬ 0 ≤ (nI p) := of_decide_eq_false c1
    exact absurd (nI_pos' (by omega)) c1
