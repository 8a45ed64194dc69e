/-! part of the reference. (rows laid by wip/whole/rr23.py) -/
/-- part's answer, and the table behind it -/
def ptR (ts : RT) (i u : Nat) (w : Int32) (r : Option Value) (ts' : RT) (u' : Nat) : Prop := (w = 0 ∧ 5 ≤ knd ts i ∧ knd ts i ≤ 7 ∧ mdR ts 5 ((bys ts i).take (quo ts i + 1)) (quo ts i) u (itl (((bys ts i).take (quo ts i)).drop 1)) r ts' u') ∨ (w = 1 ∧ knd ts i = 6 ∧ mdR ts 5 ([34] ++ (bys ts i).drop (quo ts i + 2) ++ [34]) (((bys ts i).drop (quo ts i + 2)).length + 1) u ((bys ts i).drop (quo ts i + 2)).length r ts' u') ∨ (w = 2 ∧ knd ts i = 7 ∧ mdR ts 2 ((bys ts i).drop (quo ts i + 3)) 0 u (((bys ts i).drop (quo ts i + 3)).length - 2) r ts' u') ∨ (¬ (5 ≤ knd ts i ∧ knd ts i ≤ 7 ∧ (w = 0 ∨ (w = 1 ∧ knd ts i = 6) ∨ (w = 2 ∧ knd ts i = 7))) ∧ r = some (.int (-2)) ∧ ts' = ts ∧ u' = u)
theorem i32_02 {w : Int32} (h1 : ¬ w < 0) (h2 : ¬ 2 < w) : w = 0 ∨ w = 1 ∨ w = 2 := by
  obtain ⟨m, hm, rfl⟩ := nI_of2 (M := 2) (n := 2) rfl h1 (Int32.not_lt.mp h2)
  have h : m = 0 ∨ m = 1 ∨ m = 2 := by omega
  rcases h with rfl | rfl | rfl
  · exact Or.inl rfl
  · exact Or.inr (Or.inl rfl)
  · exact Or.inr (Or.inr rfl)
set_option maxRecDepth 100000 in
set_option maxHeartbeats 2000000 in
theorem rc_part {X : ev_X} {c0 : Nat} {ts : RT} {t sh : List Nat} {u pl : Nat} {σ : Nat → Int32} {τ : Nat → Nat → Int32} {i : Nat} (hroom : off ts ts.length + 260 ≤ 132000) (hC : RC ts t u pl sh σ τ) (hi : i < ts.length) (hq : 5 ≤ knd ts i → knd ts i ≤ 7 → quo ts i + 1 ≤ (bys ts i).length ∧ (knd ts i = 6 → quo ts i + 2 ≤ (bys ts i).length) ∧ (knd ts i = 7 → quo ts i + 5 ≤ (bys ts i).length)) (hl : (bys ts i).length ≤ 250) (w : Int32) : Rx X c0 m_Mod_part 0 [.ref (c0 + 16), .int (nI (i + 1)), .int w, ev_dead, ev_dead] [] σ τ (fun r σ' τ' => ∃ ts' u', RC ts' t u' pl sh σ' τ' ∧ ptR ts i u w r ts' u') := by
  have hk16 := (rt_ok hC.1 hi).2.1
  refine Rx.go (fun _ => rfl) ?_
  refine Rx.go (fun _ => rfl) ?_
  refine Rx.callE rfl rfl rfl rfl (rx_isT X c0 σ τ hC.1 hi) ?_
  show Rx X c0 m_Mod_part 5 [.ref (c0 + 16), .int (nI (i + 1)), .int w, ev_dead, ev_dead] [.int 1] σ τ _
  refine Rx.go (fun _ => rfl) ?_
  show Rx X c0 m_Mod_part 10 [.ref (c0 + 16), .int (nI (i + 1)), .int w, ev_dead, ev_dead] [] σ τ _
  refine Rx.go (fun _ => rfl) ?_
  refine Rx.get rfl rfl ?_
  refine Rx.go (fun _ => rfl) ?_
  refine Rx.aldE (v := nI (quo ts i)) 6 rfl rfl (nI_ix (N := 2002) (n := i + 1) (by have := hC.1.2.1; omega) (by decide)) (rt_q hC.1 hi) ?_
  refine Rx.go (fun _ => rfl) ?_
  show Rx X c0 m_Mod_part 17 [.ref (c0 + 16), .int (nI (i + 1)), .int w, .int (nI (quo ts i)), ev_dead] [] σ τ _
  refine Rx.go (fun _ => rfl) ?_
  refine Rx.get rfl rfl ?_
  refine Rx.go (fun _ => rfl) ?_
  refine Rx.aldE (v := nI (knd ts i)) 5 rfl rfl (nI_ix (N := 2002) (n := i + 1) (by have := hC.1.2.1; omega) (by decide)) (rt_k hC.1 hi) ?_
  refine Rx.go (fun _ => rfl) ?_
  refine Rx.go (fun _ => rfl) ?_
  refine Rx.ite (fun c1 => ?_) (fun c1 => ?_)
  · replace c1 : (nI (knd ts i)) < 5 := of_decide_eq_true c1
    have n5 : knd ts i < 5 := (nI_ltI (b := 5) (by omega) (by decide)).mp c1
    show Rx X c0 m_Mod_part 79 [.ref (c0 + 16), .int (nI (i + 1)), .int w, .int (nI (quo ts i)), ev_dead] [] σ τ _
    refine Rx.go (fun _ => rfl) ?_
    show Rx X c0 m_Mod_part 81 [.ref (c0 + 16), .int (nI (i + 1)), .int w, .int (nI (quo ts i)), ev_dead] [.int (-2)] σ τ _
    exact Rx.ret rfl (ev_reti rfl) ⟨ts, u, hC, Or.inr (Or.inr (Or.inr ⟨fun ⟨a, b, h⟩ => by
      rcases h with h | ⟨h, h'⟩ | ⟨h, h'⟩ <;> first | omega | (subst h; first | omega), rfl, rfl, rfl⟩))⟩
  · replace c1 : ¬ (nI (knd ts i)) < 5 := of_decide_eq_false c1
    have n5 : ¬ knd ts i < 5 := fun e => c1 ((nI_ltI (b := 5) (by omega) (by decide)).mpr e)
    show Rx X c0 m_Mod_part 27 [.ref (c0 + 16), .int (nI (i + 1)), .int w, .int (nI (quo ts i)), ev_dead] [] σ τ _
    refine Rx.go (fun _ => rfl) ?_
    refine Rx.get rfl rfl ?_
    refine Rx.go (fun _ => rfl) ?_
    refine Rx.aldE (v := nI (knd ts i)) 5 rfl rfl (nI_ix (N := 2002) (n := i + 1) (by have := hC.1.2.1; omega) (by decide)) (rt_k hC.1 hi) ?_
    refine Rx.go (fun _ => rfl) ?_
    refine Rx.go (fun _ => rfl) ?_
    refine Rx.ite (fun c2 => ?_) (fun c2 => ?_)
    · replace c2 : 7 < (nI (knd ts i)) := of_decide_eq_true c2
      have n7 : 7 < knd ts i := (nI_ltI (a := 7) (by decide) (by omega)).mp c2
      show Rx X c0 m_Mod_part 79 [.ref (c0 + 16), .int (nI (i + 1)), .int w, .int (nI (quo ts i)), ev_dead] [] σ τ _
      refine Rx.go (fun _ => rfl) ?_
      show Rx X c0 m_Mod_part 81 [.ref (c0 + 16), .int (nI (i + 1)), .int w, .int (nI (quo ts i)), ev_dead] [.int (-2)] σ τ _
      exact Rx.ret rfl (ev_reti rfl) ⟨ts, u, hC, Or.inr (Or.inr (Or.inr ⟨fun ⟨a, b, h⟩ => by
        rcases h with h | ⟨h, h'⟩ | ⟨h, h'⟩ <;> first | omega | (subst h; first | omega), rfl, rfl, rfl⟩))⟩
    · replace c2 : ¬ 7 < (nI (knd ts i)) := of_decide_eq_false c2
      have n7 : ¬ 7 < knd ts i := fun e => c2 ((nI_ltI (a := 7) (by decide) (by omega)).mpr e)
      show Rx X c0 m_Mod_part 38 [.ref (c0 + 16), .int (nI (i + 1)), .int w, .int (nI (quo ts i)), ev_dead] [] σ τ _
      refine Rx.go (fun _ => rfl) ?_
      refine Rx.go (fun _ => rfl) ?_
      refine Rx.ite (fun c3 => ?_) (fun c3 => ?_)
      · replace c3 : w < 0 := of_decide_eq_true c3
        show Rx X c0 m_Mod_part 79 [.ref (c0 + 16), .int (nI (i + 1)), .int w, .int (nI (quo ts i)), ev_dead] [] σ τ _
        refine Rx.go (fun _ => rfl) ?_
        show Rx X c0 m_Mod_part 81 [.ref (c0 + 16), .int (nI (i + 1)), .int w, .int (nI (quo ts i)), ev_dead] [.int (-2)] σ τ _
        exact Rx.ret rfl (ev_reti rfl) ⟨ts, u, hC, Or.inr (Or.inr (Or.inr ⟨fun ⟨a, b, h⟩ => by
          rcases h with h | ⟨h, h'⟩ | ⟨h, h'⟩ <;> first | omega | (subst h; first | omega | (exact absurd c3 (by decide))), rfl, rfl, rfl⟩))⟩
      · replace c3 : ¬ w < 0 := of_decide_eq_false c3
        show Rx X c0 m_Mod_part 42 [.ref (c0 + 16), .int (nI (i + 1)), .int w, .int (nI (quo ts i)), ev_dead] [] σ τ _
        refine Rx.go (fun _ => rfl) ?_
        refine Rx.go (fun _ => rfl) ?_
        refine Rx.go (fun _ => rfl) ?_
        refine Rx.ite (fun c4 => ?_) (fun c4 => ?_)
        · replace c4 : 2 < w := of_decide_eq_true c4
          show Rx X c0 m_Mod_part 79 [.ref (c0 + 16), .int (nI (i + 1)), .int w, .int (nI (quo ts i)), ev_dead] [] σ τ _
          refine Rx.go (fun _ => rfl) ?_
          show Rx X c0 m_Mod_part 81 [.ref (c0 + 16), .int (nI (i + 1)), .int w, .int (nI (quo ts i)), ev_dead] [.int (-2)] σ τ _
          exact Rx.ret rfl (ev_reti rfl) ⟨ts, u, hC, Or.inr (Or.inr (Or.inr ⟨fun ⟨a, b, h⟩ => by
            rcases h with h | ⟨h, h'⟩ | ⟨h, h'⟩ <;> first | omega | (subst h; first | omega | (exact absurd c3 (by decide)) | (exact absurd c4 (by decide))), rfl, rfl, rfl⟩))⟩
        · replace c4 : ¬ 2 < w := of_decide_eq_false c4
          show Rx X c0 m_Mod_part 47 [.ref (c0 + 16), .int (nI (i + 1)), .int w, .int (nI (quo ts i)), ev_dead] [] σ τ _
          refine Rx.go (fun _ => rfl) ?_
          refine Rx.go (fun _ => rfl) ?_
          refine Rx.go (fun _ => rfl) ?_
          refine Rx.ite (fun c5 => ?_) (fun c5 => ?_)
          · replace c5 : ¬ w = 1 := of_decide_eq_true c5
            show Rx X c0 m_Mod_part 63 [.ref (c0 + 16), .int (nI (i + 1)), .int w, .int (nI (quo ts i)), ev_dead] [] σ τ _
            refine Rx.go (fun _ => rfl) ?_
            refine Rx.go (fun _ => rfl) ?_
            refine Rx.go (fun _ => rfl) ?_
            refine Rx.ite (fun c6 => ?_) (fun c6 => ?_)
            · replace c6 : ¬ w = 2 := of_decide_eq_true c6
              show Rx X c0 m_Mod_part 82 [.ref (c0 + 16), .int (nI (i + 1)), .int w, .int (nI (quo ts i)), ev_dead] [] σ τ _
              show Rx X c0 m_Mod_part 82 [.ref (c0 + 16), .int (nI (i + 1)), .int w, .int (nI (quo ts i)), ev_dead] [] σ τ _
              have hm := i32_02 c3 c4
              have e : w = 0 := hm.elim id (fun h => h.elim (fun h => absurd h c5) (fun h => absurd h c6))
              subst e
              refine Rx.go (fun _ => rfl) ?_
              refine Rx.go (fun _ => rfl) ?_
              exact (pt_w0 hroom hC hi (hq (by omega) (by omega)).1 hl _).mono (fun r σ' τ' ⟨ts', u', h1, h2⟩ => ⟨ts', u', h1, Or.inl ⟨rfl, by omega, by omega, h2⟩⟩)
            · replace c6 : w = 2 := Classical.not_not.mp (of_decide_eq_false c6)
              show Rx X c0 m_Mod_part 68 [.ref (c0 + 16), .int (nI (i + 1)), .int w, .int (nI (quo ts i)), ev_dead] [] σ τ _
              refine Rx.go (fun _ => rfl) ?_
              refine Rx.get rfl rfl ?_
              refine Rx.go (fun _ => rfl) ?_
              refine Rx.aldE (v := nI (knd ts i)) 5 rfl rfl (nI_ix (N := 2002) (n := i + 1) (by have := hC.1.2.1; omega) (by decide)) (rt_k hC.1 hi) ?_
              refine Rx.go (fun _ => rfl) ?_
              refine Rx.go (fun _ => rfl) ?_
              refine Rx.ite (fun c7 => ?_) (fun c7 => ?_)
              · replace c7 : (nI (knd ts i)) = 7 := of_decide_eq_true c7
                have nk7 : knd ts i = 7 := (nI_eq (b := 7) (by omega) (by decide)).mp c7
                show Rx X c0 m_Mod_part 82 [.ref (c0 + 16), .int (nI (i + 1)), .int w, .int (nI (quo ts i)), ev_dead] [] σ τ _
                show Rx X c0 m_Mod_part 82 [.ref (c0 + 16), .int (nI (i + 1)), .int w, .int (nI (quo ts i)), ev_dead] [] σ τ _
                have e := c6
                subst e
                refine Rx.go (fun _ => rfl) ?_
                refine Rx.go (fun _ => rfl) ?_
                refine Rx.go (fun _ => rfl) ?_
                refine Rx.go (fun _ => rfl) ?_
                refine Rx.go (fun _ => rfl) ?_
                exact (pt_w2 hroom hC hi ((hq (by omega) (by omega)).2.2 nk7) hl _).mono (fun r σ' τ' ⟨ts', u', h1, h2⟩ => ⟨ts', u', h1, Or.inr (Or.inr (Or.inl ⟨rfl, nk7, h2⟩))⟩)
              · replace c7 : ¬ (nI (knd ts i)) = 7 := of_decide_eq_false c7
                have nn7 : ¬ knd ts i = 7 := fun e => c7 (by rw [e]; rfl)
                show Rx X c0 m_Mod_part 79 [.ref (c0 + 16), .int (nI (i + 1)), .int w, .int (nI (quo ts i)), ev_dead] [] σ τ _
                refine Rx.go (fun _ => rfl) ?_
                show Rx X c0 m_Mod_part 81 [.ref (c0 + 16), .int (nI (i + 1)), .int w, .int (nI (quo ts i)), ev_dead] [.int (-2)] σ τ _
                exact Rx.ret rfl (ev_reti rfl) ⟨ts, u, hC, Or.inr (Or.inr (Or.inr ⟨fun ⟨a, b, h⟩ => by
                  rcases h with h | ⟨h, h'⟩ | ⟨h, h'⟩ <;> first | omega | (subst h; first | omega | (exact absurd c3 (by decide)) | (exact absurd c4 (by decide)) | (exact absurd c5 (by decide)) | (exact absurd c6 (by decide))), rfl, rfl, rfl⟩))⟩
          · replace c5 : w = 1 := Classical.not_not.mp (of_decide_eq_false c5)
            show Rx X c0 m_Mod_part 52 [.ref (c0 + 16), .int (nI (i + 1)), .int w, .int (nI (quo ts i)), ev_dead] [] σ τ _
            refine Rx.go (fun _ => rfl) ?_
            refine Rx.get rfl rfl ?_
            refine Rx.go (fun _ => rfl) ?_
            refine Rx.aldE (v := nI (knd ts i)) 5 rfl rfl (nI_ix (N := 2002) (n := i + 1) (by have := hC.1.2.1; omega) (by decide)) (rt_k hC.1 hi) ?_
            refine Rx.go (fun _ => rfl) ?_
            refine Rx.go (fun _ => rfl) ?_
            refine Rx.ite (fun c8 => ?_) (fun c8 => ?_)
            · replace c8 : ¬ (nI (knd ts i)) = 6 := of_decide_eq_true c8
              have nn6 : ¬ knd ts i = 6 := fun e => c8 (by rw [e]; rfl)
              show Rx X c0 m_Mod_part 79 [.ref (c0 + 16), .int (nI (i + 1)), .int w, .int (nI (quo ts i)), ev_dead] [] σ τ _
              refine Rx.go (fun _ => rfl) ?_
              show Rx X c0 m_Mod_part 81 [.ref (c0 + 16), .int (nI (i + 1)), .int w, .int (nI (quo ts i)), ev_dead] [.int (-2)] σ τ _
              exact Rx.ret rfl (ev_reti rfl) ⟨ts, u, hC, Or.inr (Or.inr (Or.inr ⟨fun ⟨a, b, h⟩ => by
                rcases h with h | ⟨h, h'⟩ | ⟨h, h'⟩ <;> first | omega | (subst h; first | omega | (exact absurd c3 (by decide)) | (exact absurd c4 (by decide)) | (exact absurd c5 (by decide))), rfl, rfl, rfl⟩))⟩
            · replace c8 : (nI (knd ts i)) = 6 := Classical.not_not.mp (of_decide_eq_false c8)
              have nk6 : knd ts i = 6 := (nI_eq (b := 6) (by omega) (by decide)).mp c8
              show Rx X c0 m_Mod_part 63 [.ref (c0 + 16), .int (nI (i + 1)), .int w, .int (nI (quo ts i)), ev_dead] [] σ τ _
              refine Rx.go (fun _ => rfl) ?_
              refine Rx.go (fun _ => rfl) ?_
              refine Rx.go (fun _ => rfl) ?_
              refine Rx.ite (fun c9 => ?_) (fun c9 => ?_)
              · replace c9 : ¬ w = 2 := of_decide_eq_true c9
                show Rx X c0 m_Mod_part 82 [.ref (c0 + 16), .int (nI (i + 1)), .int w, .int (nI (quo ts i)), ev_dead] [] σ τ _
                show Rx X c0 m_Mod_part 82 [.ref (c0 + 16), .int (nI (i + 1)), .int w, .int (nI (quo ts i)), ev_dead] [] σ τ _
                have e := c5
                subst e
                refine Rx.go (fun _ => rfl) ?_
                refine Rx.go (fun _ => rfl) ?_
                refine Rx.go (fun _ => rfl) ?_
                refine Rx.go (fun _ => rfl) ?_
                refine Rx.go (fun _ => rfl) ?_
                exact (pt_w1 hroom hC hi ((hq (by omega) (by omega)).2.1 nk6) hl _).mono (fun r σ' τ' ⟨ts', u', h1, h2⟩ => ⟨ts', u', h1, Or.inr (Or.inl ⟨rfl, nk6, h2⟩)⟩)
              · replace c9 : w = 2 := Classical.not_not.mp (of_decide_eq_false c9)
                show Rx X c0 m_Mod_part 68 [.ref (c0 + 16), .int (nI (i + 1)), .int w, .int (nI (quo ts i)), ev_dead] [] σ τ _
                refine Rx.go (fun _ => rfl) ?_
                refine Rx.get rfl rfl ?_
                refine Rx.go (fun _ => rfl) ?_
                refine Rx.aldE (v := nI (knd ts i)) 5 rfl rfl (nI_ix (N := 2002) (n := i + 1) (by have := hC.1.2.1; omega) (by decide)) (rt_k hC.1 hi) ?_
                refine Rx.go (fun _ => rfl) ?_
                refine Rx.go (fun _ => rfl) ?_
                refine Rx.ite (fun c10 => ?_) (fun c10 => ?_)
                · replace c10 : (nI (knd ts i)) = 7 := of_decide_eq_true c10
                  have nk7 : knd ts i = 7 := (nI_eq (b := 7) (by omega) (by decide)).mp c10
                  show Rx X c0 m_Mod_part 82 [.ref (c0 + 16), .int (nI (i + 1)), .int w, .int (nI (quo ts i)), ev_dead] [] σ τ _
                  show Rx X c0 m_Mod_part 82 [.ref (c0 + 16), .int (nI (i + 1)), .int w, .int (nI (quo ts i)), ev_dead] [] σ τ _
                  exact absurd (c5.symm.trans c9) (by decide)
                · replace c10 : ¬ (nI (knd ts i)) = 7 := of_decide_eq_false c10
                  have nn7 : ¬ knd ts i = 7 := fun e => c10 (by rw [e]; rfl)
                  show Rx X c0 m_Mod_part 79 [.ref (c0 + 16), .int (nI (i + 1)), .int w, .int (nI (quo ts i)), ev_dead] [] σ τ _
                  refine Rx.go (fun _ => rfl) ?_
                  show Rx X c0 m_Mod_part 81 [.ref (c0 + 16), .int (nI (i + 1)), .int w, .int (nI (quo ts i)), ev_dead] [.int (-2)] σ τ _
                  exact Rx.ret rfl (ev_reti rfl) ⟨ts, u, hC, Or.inr (Or.inr (Or.inr ⟨fun ⟨a, b, h⟩ => by
                    rcases h with h | ⟨h, h'⟩ | ⟨h, h'⟩ <;> first | omega | (subst h; first | omega | (exact absurd c3 (by decide)) | (exact absurd c4 (by decide)) | (exact absurd c5 (by decide)) | (exact absurd c9 (by decide))), rfl, rfl, rfl⟩))⟩
