/-! The reference reads and finds. (rows laid by wip/whole/rr18.py) -/
section RCS
variable {ts ts' : RT} {t sh d : List Nat} {u pl : Nat} {σ σ1 σ' : Nat → Int32} {τ τ1 τ' : Nat → Nat → Int32} {f : Nat → Int32}
/-- behind a reading: the tape is empty, the place is w -/
theorem RC.ra {w m : Nat} (h : RC ts t u pl sh σ τ) (hF : rsF σ (va_up τ 20 f) t σ1 τ1) (hm : m ≤ 250) (h10 : σ1 10 = nI m) : RC ts [] u w sh (upd (upd σ1 2 (nI w)) 1 0) τ1 := by
  obtain ⟨h1, h2, ⟨h3, h3'⟩, ⟨h4, h5, h6, h7⟩, -⟩ := h
  obtain ⟨⟨a1, a2, a3, a4, a5⟩, ⟨b1, b2, b3, b4, b5, b6⟩, -⟩ := hF
  refine ⟨rt_same h1 (a3 : σ1 7 = σ 7) (b1.trans (va_up_ne _ _ (by decide))) (b2.trans (va_up_ne _ _ (by decide))) (b3.trans (va_up_ne _ _ (by decide))) (b4.trans (va_up_ne _ _ (by decide))), ⟨rfl, by decide, fun j hj => absurd hj (Nat.not_lt_zero _), nil_by⟩, ⟨a4.trans h3, h3'⟩, ⟨a5.trans h4, h5, fun k hk => ?_, h7⟩, rfl, m, h10, hm⟩
  rw [b5.trans (va_up_ne _ _ (by decide))]; exact h6 k hk
/-- what makeDraft answers, and the table behind it -/
def mdR (ts : RT) (dk : Nat) (d : List Nat) (q u db : Nat) (r : Option Value) (ts' : RT) (u' : Nat) : Prop := (∃ j : Nat, 0 < j ∧ fdP ts dk d j ∧ r = some (.int (nI j)) ∧ ts' = ts ∧ u' = u) ∨ (fdP ts dk d 0 ∧ (ts.length = 2000 ∨ 40000 < u + db) ∧ r = some (.int (-3)) ∧ ts' = ts ∧ u' = u) ∨ (fdP ts dk d 0 ∧ ts.length < 2000 ∧ u + db ≤ 40000 ∧ r = some (.int (nI (ts.length + 1))) ∧ ts' = ts ++ [(dk, d, q)] ∧ u' = u + db)
theorem RC.md {dk q db : Nat} {r : Option Value} (h : RC ts t u pl sh σ τ) (hM : mdP ts dk d q u db σ τ r σ' τ') : ∃ ts' u', RC ts' t u' pl sh σ' τ' ∧ mdR ts dk d q u db r ts' u' := by
  obtain ⟨j, h1, h2, h3, rfl, rfl⟩ | ⟨h1, h2, h3, rfl, rfl⟩ | ⟨h1, h2, h3, h4, rfl, h6, h7⟩ := hM
  · exact ⟨ts, u, h, Or.inl ⟨j, h1, h2, h3, rfl, rfl⟩⟩
  · exact ⟨ts, u, h, Or.inr (Or.inl ⟨h1, h2, h3, rfl, rfl⟩)⟩
  · obtain ⟨-, ⟨a1, a2, a3, a4⟩, -, ⟨c1, c2, c3, c4⟩, e1, m, e2, e3⟩ := h
    refine ⟨_, u + db, ⟨h6, ⟨a1, a2, fun j hj => ?_, a4⟩, ⟨rfl, h3⟩, ⟨c1, c2, fun k hk => ?_, c4⟩, e1, m, e2, e3⟩, Or.inr (Or.inr ⟨h1, h2, h3, h4, rfl, rfl⟩)⟩
    · rw [h7 0 (by decide) (by decide) (by decide) (by decide)]; exact a3 j hj
    · rw [h7 14 (by decide) (by decide) (by decide) (by decide)]; exact c3 k hk
end RCS
/-- a reading's fault at w -/
def raF (t : List Nat) (w : Nat) : Prop := roF t w ∨ ∃ d kd qq db, roO t w d kd qq db ∧ w < t.length
/-- read's end -/
def reP (ts : RT) (t : List Nat) (u : Nat) (sh : List Nat) (r : Option Value) (σ' : Nat → Int32) (τ' : Nat → Nat → Int32) : Prop := ∃ ts' u' pl', RC ts' [] u' pl' sh σ' τ' ∧ ((∃ d kd qq db, roO t t.length d kd qq db ∧ pl' = t.length ∧ mdR ts kd d qq u db r ts' u') ∨ (∃ x, raF t pl' ∧ r = some (.int x) ∧ ts' = ts ∧ u' = u))
/-- find's end -/
def rfP (ts : RT) (t : List Nat) (u : Nat) (sh : List Nat) (r : Option Value) (σ' : Nat → Int32) (τ' : Nat → Nat → Int32) : Prop := ∃ pl', RC ts [] u pl' sh σ' τ' ∧ ((∃ d kd qq db j, roO t t.length d kd qq db ∧ pl' = t.length ∧ fdP ts kd d j ∧ r = some (.int (if 0 < j then nI j else -2))) ∨ (∃ x, raF t pl' ∧ r = some (.int x)))
set_option maxRecDepth 100000 in
set_option maxHeartbeats 2000000 in
theorem rr_read {X : ev_X} {c0 : Nat} {ts : RT} {t sh : List Nat} {u pl : Nat} {σ : Nat → Int32} {τ : Nat → Nat → Int32} (hX : XS X c0) (hroom : off ts ts.length + 260 ≤ 132000) (hC : RC ts t u pl sh σ τ) : Rx X c0 m_Mod_read 0 [.ref (c0 + 16)] [] σ τ (reP ts t u sh) := by
  refine Rx.go (fun _ => rfl) ?_
  refine Rx.call rfl rfl rfl rfl (rr_all hX hC) ?_
  rintro v σ1 τ1 ⟨f, σ2, (⟨rfl, d, kd, qq, db, hO, hR, rfl⟩ | ⟨rfl, wn, m, j, hF, hG, hm, hj, rfl⟩)⟩
  · show Rx X c0 m_Mod_read 4 [.ref (c0 + 16)] [.int 1] (upd (upd σ2 2 (nI t.length)) 1 0) τ1 _
    have hC1 := hC.ra (w := t.length) hR.1 (roO_len hO).1 hR.f10
    have hD : drf (upd (upd σ2 2 (nI t.length)) 1 0) τ1 d := ⟨hR.f10, by have := (roO_len hO).1; omega, hR.2.2.2.1.2, by_mem.mpr (roO_by hC.2.1.2.2.2 hO)⟩
    refine Rx.go (fun _ => rfl) ?_
    show Rx X c0 m_Mod_read 7 [.ref (c0 + 16)] [] (upd (upd σ2 2 (nI t.length)) 1 0) τ1 _
    refine Rx.go (fun _ => rfl) ?_
    refine Rx.call rfl rfl rfl rfl (rx_makeDraft X c0 _ _ hC1.1 hD (show _ from hR.f11) (roO_len hO).2.1 (q := qq) (show _ from hR.f12) (roO_len hO).2.2.1 (u := u) hC1.2.2.1.1 hC1.2.2.1.2 (db := db) (show _ from hR.f13) (roO_len hO).2.2.2 (by have := (roO_len hO).1; omega)) ?_
    intro v σ3 τ3 hM
    exact Rx.go (fun _ => rfl) (mdP_ret (ts := ts) (dk := kd) (q := qq) (u := u) (db := db) (d := d) rfl rfl hM (fun hM => by
      obtain ⟨ts2, u2, h1, h2⟩ := hC1.md hM
      exact ⟨ts2, u2, _, h1, Or.inl ⟨d, kd, qq, db, hO, rfl, h2⟩⟩))
  · show Rx X c0 m_Mod_read 4 [.ref (c0 + 16)] [.int 0] (upd (upd σ2 2 (nI wn)) 1 0) τ1 _
    have hC1 := hC.ra (w := wn) hG.1 hm hG.2.2.2.2
    refine Rx.go (fun _ => rfl) ?_
    show Rx X c0 m_Mod_read 14 [.ref (c0 + 16)] [] (upd (upd σ2 2 (nI wn)) 1 0) τ1 _
    refine Rx.go (fun _ => rfl) ?_
    refine Rx.go (fun _ => rfl) ?_
    refine Rx.get rfl rfl ?_
    refine Rx.go (fun _ => rfl) ?_
    show Rx X c0 m_Mod_read 21 [.ref (c0 + 16)] [.int ((-100) - ((upd (upd σ2 2 (nI wn)) 1 0) 18))] (upd (upd σ2 2 (nI wn)) 1 0) τ1 _
    exact Rx.ret rfl (ev_reti rfl) ⟨ts, u, wn, hC1, Or.inr ⟨_, hF, rfl, rfl, rfl⟩⟩
set_option maxRecDepth 100000 in
set_option maxHeartbeats 2000000 in
theorem rr_find {X : ev_X} {c0 : Nat} {ts : RT} {t sh : List Nat} {u pl : Nat} {σ : Nat → Int32} {τ : Nat → Nat → Int32} (hX : XS X c0) (hC : RC ts t u pl sh σ τ) : Rx X c0 m_Mod_find 0 [.ref (c0 + 16), ev_dead] [] σ τ (rfP ts t u sh) := by
  refine Rx.go (fun _ => rfl) ?_
  refine Rx.call rfl rfl rfl rfl (rr_all hX hC) ?_
  rintro v σ1 τ1 ⟨f, σ2, (⟨rfl, d, kd, qq, db, hO, hR, rfl⟩ | ⟨rfl, wn, m, j, hF, hG, hm, hj, rfl⟩)⟩
  · show Rx X c0 m_Mod_find 4 [.ref (c0 + 16), ev_dead] [.int 1] (upd (upd σ2 2 (nI t.length)) 1 0) τ1 _
    have hC1 := hC.ra (w := t.length) hR.1 (roO_len hO).1 hR.f10
    have hD : drf (upd (upd σ2 2 (nI t.length)) 1 0) τ1 d := ⟨hR.f10, by have := (roO_len hO).1; omega, hR.2.2.2.1.2, by_mem.mpr (roO_by hC.2.1.2.2.2 hO)⟩
    refine Rx.go (fun _ => rfl) ?_
    show Rx X c0 m_Mod_find 15 [.ref (c0 + 16), ev_dead] [] (upd (upd σ2 2 (nI t.length)) 1 0) τ1 _
    refine Rx.go (fun _ => rfl) ?_
    refine Rx.call rfl rfl rfl rfl (rx_findDraft X c0 _ _ hC1.1 hD (show _ from hR.f11) (roO_len hO).2.1) ?_
    rintro v σ3 τ3 ⟨j, hj, rfl, e2, e3⟩
    rw [e2, e3]
    have hjl : j ≤ 2000 := by have := hC1.1.2.1; rcases hj with ⟨⟨-, h, -⟩, -⟩ | ⟨h, -⟩ <;> omega
    show Rx X c0 m_Mod_find 19 [.ref (c0 + 16), ev_dead] [.int (nI j)] (upd (upd σ2 2 (nI t.length)) 1 0) τ1 _
    refine Rx.go (fun _ => rfl) ?_
    show Rx X c0 m_Mod_find 20 [.ref (c0 + 16), .int (nI j)] [] (upd (upd σ2 2 (nI t.length)) 1 0) τ1 _
    refine Rx.go (fun _ => rfl) ?_
    refine Rx.go (fun _ => rfl) ?_
    refine Rx.ite (fun c1 => ?_) (fun c1 => ?_)
    · replace c1 : (nI j) ≤ 0 := of_decide_eq_true c1
      show Rx X c0 m_Mod_find 28 [.ref (c0 + 16), .int (nI j)] [] (upd (upd σ2 2 (nI t.length)) 1 0) τ1 _
      refine Rx.go (fun _ => rfl) ?_
      show Rx X c0 m_Mod_find 30 [.ref (c0 + 16), .int (nI j)] [.int (-2)] (upd (upd σ2 2 (nI t.length)) 1 0) τ1 _
      exact Rx.ret rfl (ev_reti rfl) ⟨t.length, hC1, Or.inl ⟨d, kd, qq, db, j, hO, rfl, hj, by rw [if_neg (fun e => absurd ((nI_leI (b := 0) (by omega) (by decide)).mp c1) (by omega))]⟩⟩
    · replace c1 : ¬ (nI j) ≤ 0 := of_decide_eq_false c1
      show Rx X c0 m_Mod_find 24 [.ref (c0 + 16), .int (nI j)] [] (upd (upd σ2 2 (nI t.length)) 1 0) τ1 _
      refine Rx.go (fun _ => rfl) ?_
      refine Rx.go (fun _ => rfl) ?_
      show Rx X c0 m_Mod_find 30 [.ref (c0 + 16), .int (nI j)] [.int (nI j)] (upd (upd σ2 2 (nI t.length)) 1 0) τ1 _
      exact Rx.ret rfl (ev_reti rfl) ⟨t.length, hC1, Or.inl ⟨d, kd, qq, db, j, hO, rfl, hj, by rw [if_pos (Nat.pos_of_ne_zero (fun e => c1 (by rw [e]; decide)))]⟩⟩
  · show Rx X c0 m_Mod_find 4 [.ref (c0 + 16), ev_dead] [.int 0] (upd (upd σ2 2 (nI wn)) 1 0) τ1 _
    have hC1 := hC.ra (w := wn) hG.1 hm hG.2.2.2.2
    refine Rx.go (fun _ => rfl) ?_
    show Rx X c0 m_Mod_find 7 [.ref (c0 + 16), ev_dead] [] (upd (upd σ2 2 (nI wn)) 1 0) τ1 _
    refine Rx.go (fun _ => rfl) ?_
    refine Rx.go (fun _ => rfl) ?_
    refine Rx.get rfl rfl ?_
    refine Rx.go (fun _ => rfl) ?_
    show Rx X c0 m_Mod_find 14 [.ref (c0 + 16), ev_dead] [.int ((-100) - ((upd (upd σ2 2 (nI wn)) 1 0) 18))] (upd (upd σ2 2 (nI wn)) 1 0) τ1 _
    exact Rx.ret rfl (ev_reti rfl) ⟨wn, hC1, Or.inr ⟨_, hF, rfl⟩⟩
