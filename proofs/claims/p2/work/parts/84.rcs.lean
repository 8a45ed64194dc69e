/-! The reference's calls over its whole state. (rows laid by wip/whole/rr19.py) -/
/-- an answer, the state behind it -/
def rC (ts : RT) (t : List Nat) (u pl : Nat) (sh : List Nat) (x : Value) (r : Option Value) (σ' : Nat → Int32) (τ' : Nat → Nat → Int32) : Prop := r = some x ∧ RC ts t u pl sh σ' τ'
section RCT
variable {ts : RT} {t sh : List Nat} {u pl : Nat} {σ σ1 σ' : Nat → Int32} {τ τ1 τ' : Nat → Nat → Int32}
theorem RC.tape {t' : List Nat} {g : Nat → Int32} (h : RC ts t u pl sh σ τ) (hl : t'.length ≤ 240) (hg : ∀ j, j < t'.length → g j = nI (t'.getD j 0)) (hb : ∀ j, t'.getD j 0 < 256) : RC ts t' u pl sh (upd σ 1 (nI t'.length)) (va_up τ 0 g) := by
  obtain ⟨h1, h2, ⟨h3, h3'⟩, ⟨h4, h5, h6, h7⟩, h8, m, h9, h10⟩ := h
  refine ⟨rt_same h1 rfl rfl rfl rfl rfl, ⟨rfl, hl, fun j hj => ?_, hb⟩, ⟨h3, h3'⟩, ⟨h4, h5, h6, h7⟩, h8, m, h9, h10⟩
  rw [va_up_self]; exact hg j hj
/-- what number answers, and the table behind it -/
def nmR (ts : RT) (u : Nat) (v : Int64) (dec : Bool) (W : Nat) (r : Option Value) (ts' : RT) (u' : Nat) : Prop := if few v = true then (∃ a : Nat, a < 10 ^ 18 ∧ (v = lN a ∨ v = -lN a) ∧ ∃ L g, trail (dgl 18 a) W L ∧ lead (dgl 18 a) W g ∧ L - W ≤ 9 ∧ mdR ts (if dec = true then 4 else 3) (wN (decide (v < 0)) dec (dgl 18 a) g W L) 0 u 0 r ts' u') else (r = some (.int (-1)) ∧ ts' = ts ∧ u' = u)
theorem RC.nm {v : Int64} {dec : Bool} {W : Nat} {r : Option Value} (h : RC ts t u pl sh σ τ) (hN : nmP ts u v dec W σ τ r σ' τ') : ∃ ts' u', RC ts' t u' pl sh σ' τ' ∧ nmR ts u v dec W r ts' u' := by
  unfold nmP at hN
  unfold nmR
  split at hN
  · next hf =>
    obtain ⟨a, ha, hv, L, g, σ1, τ1, h1, h2, h3, h4, -, h6, h7, h8, hM⟩ := hN
    have hC : RC ts t u pl sh σ1 τ1 := by
      obtain ⟨a1, ⟨b1, b2, b3, b4⟩, ⟨c1, c2⟩, ⟨d1, d2, d3, d4⟩, e1, -⟩ := h
      refine ⟨rt_same a1 (h4 7 (by decide) (by decide) (by decide) (by decide) (by decide) (by decide) (by decide)) (h8 3 (by decide) (by decide)) (h8 4 (by decide) (by decide)) (h8 5 (by decide) (by decide)) (h8 6 (by decide) (by decide)), ⟨(h4 1 (by decide) (by decide) (by decide) (by decide) (by decide) (by decide) (by decide)).trans b1, b2, fun j hj => ?_, b4⟩, ⟨(h4 8 (by decide) (by decide) (by decide) (by decide) (by decide) (by decide) (by decide)).trans c1, c2⟩, ⟨(h4 15 (by decide) (by decide) (by decide) (by decide) (by decide) (by decide) (by decide)).trans d1, d2, fun k hk => ?_, d4⟩, (h4 2 (by decide) (by decide) (by decide) (by decide) (by decide) (by decide) (by decide)).trans e1, _, h6, h7⟩
      · rw [h8 0 (by decide) (by decide)]; exact b3 j hj
      · rw [h8 14 (by decide) (by decide)]; exact d3 k hk
    obtain ⟨ts2, u2, g1, g2⟩ := hC.md hM
    exact ⟨ts2, u2, g1, by rw [if_pos hf]; exact ⟨a, ha, hv, L, g, h1, h2, h3, g2⟩⟩
  · next hf =>
    obtain ⟨e1, rfl, rfl⟩ := hN
    exact ⟨ts, u, h, by rw [if_neg hf]; exact ⟨e1, rfl, rfl⟩⟩
end RCT
theorem rc_whole {X : ev_X} {c0 : Nat} {ts : RT} {t sh : List Nat} {u pl : Nat} {σ : Nat → Int32} {τ : Nat → Nat → Int32} (hroom : off ts ts.length + 260 ≤ 132000) (hC : RC ts t u pl sh σ τ) (v : Int64) : Rx X c0 m_Mod_whole 0 [.ref (c0 + 16), .long v, ev_dead] [] σ τ (fun r σ' τ' => ∃ ts' u', RC ts' t u' pl sh σ' τ' ∧ nmR ts u v false 18 r ts' u') :=
  (rx_whole X c0 v hC.1 hC.2.2.1.1 hC.2.2.1.2 hroom).mono (fun r σ' τ' h => hC.nm h)
theorem rc_decimal {X : ev_X} {c0 : Nat} {ts : RT} {t sh : List Nat} {u pl : Nat} {σ : Nat → Int32} {τ : Nat → Nat → Int32} (hroom : off ts ts.length + 260 ≤ 132000) (hC : RC ts t u pl sh σ τ) (v : Int64) (b : Int32) : Rx X c0 m_Mod_decimal 0 [.ref (c0 + 16), .long v, ev_dead, .int b] [] σ τ (fun r σ' τ' => if b < 0 then rC ts t u pl sh (.int (-1)) r σ' τ' else if 9 < b then rC ts t u pl sh (.int (-1)) r σ' τ' else ∃ ts' u', RC ts' t u' pl sh σ' τ' ∧ nmR ts u v true (18 - b.toNatClampNeg) r ts' u') := by
  refine (rx_decimal X c0 v b hC.1 hC.2.2.1.1 hC.2.2.1.2 hroom).mono (fun r σ' τ' h => ?_)
  split at h
  · next c => rw [if_pos c]; obtain ⟨e, rfl, rfl⟩ := h; exact ⟨e, hC⟩
  · next c =>
    rw [if_neg c]
    split at h
    · next c => rw [if_pos c]; obtain ⟨e, rfl, rfl⟩ := h; exact ⟨e, hC⟩
    · next c => rw [if_neg c]; exact hC.nm h
theorem rc_written {X : ev_X} {c0 : Nat} {ts : RT} {t sh : List Nat} {u pl : Nat} {σ : Nat → Int32} {τ : Nat → Nat → Int32} (hC : RC ts t u pl sh σ τ) (x : Int32) : Rx X c0 m_Mod_written 0 [.ref (c0 + 16), .int x] [] σ τ (rC ts t u pl sh (.int (wat sh x))) :=
  (rx_written X c0 σ τ hC.2.2.2.1 x).mono (fun r σ' τ' ⟨e1, e2, e3⟩ => ⟨e1, by rw [e2, e3]; exact hC⟩)
theorem rc_write {X : ev_X} {c0 : Nat} {ts : RT} {t sh : List Nat} {u pl : Nat} {σ : Nat → Int32} {τ : Nat → Nat → Int32} (hC : RC ts t u pl sh σ τ) {i : Nat} (hi : i < ts.length) : Rx X c0 m_Mod_write 0 [.ref (c0 + 16), .int (nI (i + 1)), ev_dead] [] σ τ (rC ts t u pl (bys ts i) (.int (nI (bys ts i).length))) := by
  refine (rx_write X c0 σ τ hC.1 hi).mono (fun r σ' τ' ⟨e1, e2, e3, e4⟩ => ⟨e1, ?_⟩)
  obtain ⟨a1, ⟨b1, b2, b3, b4⟩, ⟨c1, c2⟩, -, d1, m, g1, g2⟩ := hC
  subst e2
  refine ⟨rt_same a1 rfl (e3 3 (by decide)) (e3 4 (by decide)) (e3 5 (by decide)) (e3 6 (by decide)), ⟨b1, b2, fun j hj => ?_, b4⟩, ⟨c1, c2⟩, e4, d1, m, g1, g2⟩
  rw [e3 0 (by decide)]; exact b3 j hj
theorem rc_place {X : ev_X} {c0 : Nat} {ts : RT} {t sh : List Nat} {u pl : Nat} {σ : Nat → Int32} {τ : Nat → Nat → Int32} (hC : RC ts t u pl sh σ τ) : Rx X c0 m_Mod_place 0 [.ref (c0 + 16)] [] σ τ (rC ts t u pl sh (.int (nI pl))) := by
  refine Rx.go (fun _ => rfl) ?_
  refine Rx.get rfl rfl ?_
  refine Rx.top (y := nI pl) hC.2.2.2.2.1 ?_
  exact Rx.ret rfl (ev_reti rfl) ⟨rfl, hC⟩
theorem rc_count {X : ev_X} {c0 : Nat} {ts : RT} {t sh : List Nat} {u pl : Nat} {σ : Nat → Int32} {τ : Nat → Nat → Int32} (hC : RC ts t u pl sh σ τ) : Rx X c0 m_Mod_count 0 [.ref (c0 + 16)] [] σ τ (rC ts t u pl sh (.int (nI ts.length))) := by
  refine Rx.go (fun _ => rfl) ?_
  refine Rx.get rfl rfl ?_
  refine Rx.top (y := nI ts.length) hC.1.1 ?_
  exact Rx.ret rfl (ev_reti rfl) ⟨rfl, hC⟩
theorem rc_used {X : ev_X} {c0 : Nat} {ts : RT} {t sh : List Nat} {u pl : Nat} {σ : Nat → Int32} {τ : Nat → Nat → Int32} (hC : RC ts t u pl sh σ τ) : Rx X c0 m_Mod_used 0 [.ref (c0 + 16)] [] σ τ (rC ts t u pl sh (.int (nI u))) := by
  refine Rx.go (fun _ => rfl) ?_
  refine Rx.get rfl rfl ?_
  refine Rx.top (y := nI u) hC.2.2.1.1 ?_
  exact Rx.ret rfl (ev_reti rfl) ⟨rfl, hC⟩
set_option maxRecDepth 100000 in
set_option maxHeartbeats 2000000 in
theorem rc_type {X : ev_X} {c0 : Nat} {ts : RT} {t sh : List Nat} {u pl : Nat} {σ : Nat → Int32} {τ : Nat → Nat → Int32} (hC : RC ts t u pl sh σ τ) (v : Int64) (b : Int32) : Rx X c0 m_Mod_type 0 [.ref (c0 + 16), .long v, ev_dead, .int b, ev_dead] [] σ τ (if b < 1 then rC ts t u pl sh (.int (-1)) else if b ≤ 8 then (if nI t.length + b ≤ 240 then rC ts (t ++ byl v b.toNatClampNeg) u pl sh (.int (nI (t ++ byl v b.toNatClampNeg).length)) else rC ts t u pl sh (.int (-3))) else rC ts t u pl sh (.int (-1))) := by
  refine Rx.go (fun _ => rfl) ?_
  refine Rx.go (fun _ => rfl) ?_
  refine Rx.go (fun _ => rfl) ?_
  refine Rx.ite (fun c1 => ?_) (fun c1 => ?_)
  · replace c1 : b < 1 := of_decide_eq_true c1
    show Rx X c0 m_Mod_type 11 [.ref (c0 + 16), .long v, ev_dead, .int b, ev_dead] [] σ τ _
    refine Rx.go (fun _ => rfl) ?_
    show Rx X c0 m_Mod_type 12 [.ref (c0 + 16), .long v, ev_dead, .int b, ev_dead] [.int (-1)] σ τ _
    exact Rx.ret rfl (ev_reti rfl) (by rw [if_pos c1]; exact ⟨rfl, hC⟩)
  · replace c1 : ¬ b < 1 := of_decide_eq_false c1
    show Rx X c0 m_Mod_type 5 [.ref (c0 + 16), .long v, ev_dead, .int b, ev_dead] [] σ τ _
    refine Rx.go (fun _ => rfl) ?_
    refine Rx.go (fun _ => rfl) ?_
    refine Rx.go (fun _ => rfl) ?_
    refine Rx.ite (fun c2 => ?_) (fun c2 => ?_)
    · replace c2 : b ≤ 8 := of_decide_eq_true c2
      show Rx X c0 m_Mod_type 13 [.ref (c0 + 16), .long v, ev_dead, .int b, ev_dead] [] σ τ _
      refine Rx.go (fun _ => rfl) ?_
      refine Rx.get rfl rfl ?_
      refine Rx.top (y := nI t.length) hC.2.1.1 ?_
      refine Rx.go (fun _ => rfl) ?_
      refine Rx.go (fun _ => rfl) ?_
      refine Rx.go (fun _ => rfl) ?_
      refine Rx.go (fun _ => rfl) ?_
      refine Rx.ite (fun c3 => ?_) (fun c3 => ?_)
      · replace c3 : ((nI t.length) + b) ≤ 240 := of_decide_eq_true c3
        show Rx X c0 m_Mod_type 28 [.ref (c0 + 16), .long v, ev_dead, .int b, ev_dead] [] σ τ _
        refine Rx.go (fun _ => rfl) ?_
        refine Rx.go (fun _ => rfl) ?_
        refine Rx.go (fun _ => rfl) ?_
        refine Rx.go (fun _ => rfl) ?_
        show Rx X c0 m_Mod_type 33 [.ref (c0 + 16), .long v, ev_dead, .int b, .int (b - 1)] [] σ τ _
        show Rx X c0 m_Mod_type 33 [.ref (c0 + 16), .long v, ev_dead, .int b, .int (b - 1)] [] σ τ _
        obtain ⟨m, hm, rfl⟩ := i32_81 c1 c2
        have hl := hC.2.1.2.1
        have hs : t.length + m ≤ 240 := by
          have h3 := c3
          rw [show nI t.length + nI m = nI (t.length + m) from nI_add _ _] at h3
          exact (nI_leI (b := 240) (by omega) (by decide)).mp h3
        refine (rx_type_l X c0 v (nI m) m t.length σ τ hC.2.1.1 hs).mono ?_
        rintro r σ' τ' ⟨rfl, rfl, rfl⟩
        rw [if_neg c1, if_pos c2, if_pos c3, nI_clamp (by omega)]
        have e : t.length + m = (t ++ byl v m).length := by rw [List.length_append, byl_len]
        rw [e]
        exact ⟨rfl, hC.tape (by omega) (trf_get v m t.length (τ 0) t hm rfl hC.2.1.2.2.1) (by_mem.mpr (app_by (by_mem.mp hC.2.1.2.2.2) (byl_by v m)))⟩
      · replace c3 : ¬ ((nI t.length) + b) ≤ 240 := of_decide_eq_false c3
        show Rx X c0 m_Mod_type 25 [.ref (c0 + 16), .long v, ev_dead, .int b, ev_dead] [] σ τ _
        refine Rx.go (fun _ => rfl) ?_
        show Rx X c0 m_Mod_type 27 [.ref (c0 + 16), .long v, ev_dead, .int b, ev_dead] [.int (-3)] σ τ _
        exact Rx.ret rfl (ev_reti rfl) (by rw [if_neg c1, if_pos c2, if_neg c3]; exact ⟨rfl, hC⟩)
    · replace c2 : ¬ b ≤ 8 := of_decide_eq_false c2
      show Rx X c0 m_Mod_type 11 [.ref (c0 + 16), .long v, ev_dead, .int b, ev_dead] [] σ τ _
      refine Rx.go (fun _ => rfl) ?_
      show Rx X c0 m_Mod_type 12 [.ref (c0 + 16), .long v, ev_dead, .int b, ev_dead] [.int (-1)] σ τ _
      exact Rx.ret rfl (ev_reti rfl) (by rw [if_neg c1, if_neg c2]; exact ⟨rfl, hC⟩)
