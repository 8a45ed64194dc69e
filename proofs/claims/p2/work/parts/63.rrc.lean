/-! The reference reads items. (rows laid by wip/whole/rr3.py) -/
/-- one item at q, as it is written -/
def sIt (t : List Nat) (q : Nat) : Bool × Nat × List Nat := if hb t q = 92 then (if q + 1 = t.length then (false, q + 1, []) else if 0 ≤ esc (hb t (q + 1)) then (true, q + 2, [92, t.getD (q + 1) 0]) else (false, q, [])) else if hb t q < 32 then (false, q, []) else if 126 < hb t q then (false, q, []) else (true, q + 1, [t.getD q 0])
theorem i32_31 {b : Int32} : b ≤ 31 ↔ b < 32 := by
  rw [Int32.lt_iff_toInt_lt, Int32.le_iff_toInt_le, show (31 : Int32).toInt = 31 from rfl, show (32 : Int32).toInt = 32 from rfl]; omega
theorem i32_12 {b : Int32} : 127 ≤ b ↔ 126 < b := by
  rw [Int32.lt_iff_toInt_lt, Int32.le_iff_toInt_le, show (126 : Int32).toInt = 126 from rfl, show (127 : Int32).toInt = 127 from rfl]; omega
theorem esc_no {c : Int32} (h1 : ¬ c = 34) (h2 : ¬ c = 92) (h3 : ¬ c = 110) (h4 : ¬ c = 114) (h5 : ¬ c = 116) : ¬ 0 ≤ esc c := by
  rw [esc, if_neg h1, if_neg h2, if_neg h3, if_neg h4, if_neg h5]; decide
theorem esc_yes {c : Int32} (h : c = 34 ∨ c = 92 ∨ c = 110 ∨ c = 114 ∨ c = 116) : 0 ≤ esc c := by
  rcases h with rfl | rfl | rfl | rfl | rfl <;> decide
set_option maxRecDepth 100000 in
set_option maxHeartbeats 2000000 in
theorem rr_item {X : ev_X} {c0 : Nat} {σ0 : Nat → Int32} {τ0 : Nat → Nat → Int32} {t : List Nat} {D : List Nat} {q k qq db : Nat} {σ : Nat → Int32} {τ : Nat → Nat → Int32} (hD : D.length ≤ 200) (hS : RS σ0 τ0 t q D k qq db σ τ) : Rx X c0 m_Mod_readItem 0 [.ref (c0 + 16), ev_dead, ev_dead, ev_dead] [] σ τ (rQ σ0 τ0 t (sIt t q) (fun q b σ' τ' => RS σ0 τ0 t q (D ++ b) k qq db σ' τ')) := by
  have hl := hS.z.tl
  have hpl := hS.pl
  refine Rx.go (fun _ => rfl) ?_
  refine Rx.callE rfl rfl rfl rfl (rz_here hS.z) ?_
  show Rx X c0 m_Mod_readItem 4 [.ref (c0 + 16), ev_dead, ev_dead, ev_dead] [.int (hb t q)] σ τ _
  refine Rx.go (fun _ => rfl) ?_
  show Rx X c0 m_Mod_readItem 5 [.ref (c0 + 16), .int (hb t q), ev_dead, ev_dead] [] σ τ _
  refine Rx.go (fun _ => rfl) ?_
  refine Rx.go (fun _ => rfl) ?_
  refine Rx.go (fun _ => rfl) ?_
  refine Rx.ite (fun c1 => ?_) (fun c1 => ?_)
  · replace c1 : (hb t q) = 92 := of_decide_eq_true c1
    show Rx X c0 m_Mod_readItem 45 [.ref (c0 + 16), .int (hb t q), ev_dead, ev_dead] [] σ τ _
    refine Rx.go (fun _ => rfl) ?_
    refine Rx.go (fun _ => rfl) ?_
    refine Rx.get rfl rfl ?_
    refine Rx.top (y := nI q) hS.f16 ?_
    refine Rx.go (fun _ => rfl) ?_
    refine Rx.go (fun _ => rfl) ?_
    refine Rx.top (y := nI (q + 1)) (nI_1 _) ?_
    refine Rx.put rfl (by decide) rfl rfl ?_
    have hS17 := hS.at1 (hb_in (by rw [c1]; decide))
    refine Rx.go (fun _ => rfl) ?_
    refine Rx.callE rfl rfl rfl rfl (rz_here hS17.z) ?_
    show Rx X c0 m_Mod_readItem 59 [.ref (c0 + 16), .int (hb t q), ev_dead, ev_dead] [.int (hb t (q + 1))] (upd σ 16 (nI (q + 1))) τ _
    refine Rx.go (fun _ => rfl) ?_
    show Rx X c0 m_Mod_readItem 60 [.ref (c0 + 16), .int (hb t q), .int (hb t (q + 1)), ev_dead] [] (upd σ 16 (nI (q + 1))) τ _
    refine Rx.go (fun _ => rfl) ?_
    refine Rx.go (fun _ => rfl) ?_
    refine Rx.go (fun _ => rfl) ?_
    refine Rx.ite (fun c2 => ?_) (fun c2 => ?_)
    · replace c2 : (hb t (q + 1)) = 34 := of_decide_eq_true c2
      show Rx X c0 m_Mod_readItem 90 [.ref (c0 + 16), .int (hb t q), .int (hb t (q + 1)), ev_dead] [] (upd σ 16 (nI (q + 1))) τ _
      refine Rx.go (fun _ => rfl) ?_
      refine Rx.go (fun _ => rfl) ?_
      refine Rx.go (fun _ => rfl) ?_
      show Rx X c0 m_Mod_readItem 96 [.ref (c0 + 16), .int (hb t q), .int (hb t (q + 1)), .int 1] [] (upd σ 16 (nI (q + 1))) τ _
      have hyes : 0 ≤ esc (hb t (q + 1)) := esc_yes (Or.inl c2)
      refine Rx.go (fun _ => rfl) ?_
      refine Rx.get rfl rfl ?_
      refine Rx.top (y := nI (q + 1)) hS17.f16 ?_
      refine Rx.go (fun _ => rfl) ?_
      refine Rx.get rfl rfl ?_
      refine Rx.top (y := nI t.length) hS17.f17 ?_
      refine Rx.go (fun _ => rfl) ?_
      refine Rx.ite (fun c3 => ?_) (fun c3 => ?_)
      · replace c3 : ¬ (nI (q + 1)) = (nI t.length) := of_decide_eq_true c3
        have hne : ¬ q + 1 = t.length := fun e => c3 (by rw [e])
        have h92 := hb_in (t := t) (q := q) (by rw [c1]; decide)
        have hq1 : q + 1 < t.length := by omega
        show Rx X c0 m_Mod_readItem 119 [.ref (c0 + 16), .int (hb t q), .int (hb t (q + 1)), .int 1] [] (upd σ 16 (nI (q + 1))) τ _
        refine Rx.go (fun _ => rfl) ?_
        refine Rx.go (fun _ => rfl) ?_
        show Rx X c0 m_Mod_readItem 134 [.ref (c0 + 16), .int (hb t q), .int (hb t (q + 1)), .int 1] [] (upd σ 16 (nI (q + 1))) τ _
        refine Rx.go (fun _ => rfl) ?_
        refine Rx.go (fun _ => rfl) ?_
        refine Rx.callP rfl rfl rfl rfl (rs_put 92 hS17 (by first | omega | (simp only [List.length_append, List.length_cons, List.length_nil]; omega))) ?_
        intro σ18 τ18 hS18
        show Rx X c0 m_Mod_readItem 140 [.ref (c0 + 16), .int (hb t q), .int (hb t (q + 1)), .int 1] [] σ18 τ18 _
        refine Rx.go (fun _ => rfl) ?_
        refine Rx.go (fun _ => rfl) ?_
        refine Rx.top (y := nI (t.getD (q + 1) 0)) (hb_lt hq1) ?_
        refine Rx.callP rfl rfl rfl rfl (rs_put (t.getD (q + 1) 0) hS18 (by first | omega | (simp only [List.length_append, List.length_cons, List.length_nil]; omega))) ?_
        intro σ19 τ19 hS19
        show Rx X c0 m_Mod_readItem 145 [.ref (c0 + 16), .int (hb t q), .int (hb t (q + 1)), .int 1] [] σ19 τ19 _
        refine Rx.go (fun _ => rfl) ?_
        refine Rx.go (fun _ => rfl) ?_
        refine Rx.get rfl rfl ?_
        refine Rx.top (y := nI (q + 1)) hS19.f16 ?_
        refine Rx.go (fun _ => rfl) ?_
        refine Rx.go (fun _ => rfl) ?_
        refine Rx.top (y := nI (q + 1 + 1)) (nI_1 _) ?_
        refine Rx.put rfl (by decide) rfl rfl ?_
        have hS20 := hS19.at1 hq1
        exact Rx.ret rfl rfl (rQ_t (show sIt t q = (true, q + 2, [92, t.getD (q + 1) 0]) from (if_pos c1).trans ((if_neg hne).trans (if_pos hyes))) (by rw [show D ++ [92, t.getD (q + 1) 0] = D ++ [92] ++ [t.getD (q + 1) 0] by simp]; exact hS20))
      · replace c3 : (nI (q + 1)) = (nI t.length) := Classical.not_not.mp (of_decide_eq_false c3)
        have heq : q + 1 = t.length := (nI_eq (by omega) (by omega)).mp c3
        show Rx X c0 m_Mod_readItem 107 [.ref (c0 + 16), .int (hb t q), .int (hb t (q + 1)), .int 1] [] (upd σ 16 (nI (q + 1))) τ _
        refine Rx.go (fun _ => rfl) ?_
        refine Rx.go (fun _ => rfl) ?_
        refine Rx.go (fun _ => rfl) ?_
        refine Rx.get rfl rfl ?_
        refine Rx.top (y := nI t.length) hS17.f17 ?_
        refine Rx.callP rfl rfl rfl rfl (rs_fl (wn := t.length) hS17 (by decide) rfl) ?_
        intro σ21 τ21 hS21
        show Rx X c0 m_Mod_readItem 116 [.ref (c0 + 16), .int (hb t q), .int (hb t (q + 1)), .int 1] [] σ21 τ21 _
        refine Rx.go (fun _ => rfl) ?_
        refine Rx.go (fun _ => rfl) ?_
        refine Rx.go (fun _ => rfl) ?_
        refine Rx.callP rfl rfl rfl rfl (rg_put _ hS21 (by first | omega | (simp only [List.length_append, List.length_cons, List.length_nil]; omega))) ?_
        intro σ22 τ22 hS22
        show Rx X c0 m_Mod_readItem 140 [.ref (c0 + 16), .int (hb t q), .int (hb t (q + 1)), .int 1] [] σ22 τ22 _
        refine Rx.go (fun _ => rfl) ?_
        refine Rx.go (fun _ => rfl) ?_
        refine Rx.callP rfl rfl rfl rfl (rg_put _ hS22 (by first | omega | (simp only [List.length_append, List.length_cons, List.length_nil]; omega))) ?_
        intro σ23 τ23 hS23
        show Rx X c0 m_Mod_readItem 145 [.ref (c0 + 16), .int (hb t q), .int (hb t (q + 1)), .int 1] [] σ23 τ23 _
        refine Rx.go (fun _ => rfl) ?_
        refine Rx.go (fun _ => rfl) ?_
        refine Rx.get rfl rfl ?_
        refine Rx.go (fun _ => rfl) ?_
        refine Rx.go (fun _ => rfl) ?_
        refine Rx.put rfl (by decide) rfl rfl ?_
        have hS24 := hS23.at1
        exact Rx.ret rfl rfl (rQ_f (b := []) (show sIt t q = (false, q + 1, []) from (if_pos c1).trans (if_pos heq)) (by rw [heq]; exact hS24) (by first | omega | (simp only [List.length_append, List.length_cons, List.length_nil]; omega)) (by omega))
    · replace c2 : ¬ (hb t (q + 1)) = 34 := of_decide_eq_false c2
      show Rx X c0 m_Mod_readItem 66 [.ref (c0 + 16), .int (hb t q), .int (hb t (q + 1)), ev_dead] [] (upd σ 16 (nI (q + 1))) τ _
      refine Rx.go (fun _ => rfl) ?_
      refine Rx.go (fun _ => rfl) ?_
      refine Rx.go (fun _ => rfl) ?_
      refine Rx.ite (fun c4 => ?_) (fun c4 => ?_)
      · replace c4 : (hb t (q + 1)) = 92 := of_decide_eq_true c4
        show Rx X c0 m_Mod_readItem 90 [.ref (c0 + 16), .int (hb t q), .int (hb t (q + 1)), ev_dead] [] (upd σ 16 (nI (q + 1))) τ _
        refine Rx.go (fun _ => rfl) ?_
        refine Rx.go (fun _ => rfl) ?_
        refine Rx.go (fun _ => rfl) ?_
        show Rx X c0 m_Mod_readItem 96 [.ref (c0 + 16), .int (hb t q), .int (hb t (q + 1)), .int 1] [] (upd σ 16 (nI (q + 1))) τ _
        have hyes : 0 ≤ esc (hb t (q + 1)) := esc_yes (Or.inr (Or.inl c4))
        refine Rx.go (fun _ => rfl) ?_
        refine Rx.get rfl rfl ?_
        refine Rx.top (y := nI (q + 1)) hS17.f16 ?_
        refine Rx.go (fun _ => rfl) ?_
        refine Rx.get rfl rfl ?_
        refine Rx.top (y := nI t.length) hS17.f17 ?_
        refine Rx.go (fun _ => rfl) ?_
        refine Rx.ite (fun c5 => ?_) (fun c5 => ?_)
        · replace c5 : ¬ (nI (q + 1)) = (nI t.length) := of_decide_eq_true c5
          have hne : ¬ q + 1 = t.length := fun e => c5 (by rw [e])
          have h92 := hb_in (t := t) (q := q) (by rw [c1]; decide)
          have hq1 : q + 1 < t.length := by omega
          show Rx X c0 m_Mod_readItem 119 [.ref (c0 + 16), .int (hb t q), .int (hb t (q + 1)), .int 1] [] (upd σ 16 (nI (q + 1))) τ _
          refine Rx.go (fun _ => rfl) ?_
          refine Rx.go (fun _ => rfl) ?_
          show Rx X c0 m_Mod_readItem 134 [.ref (c0 + 16), .int (hb t q), .int (hb t (q + 1)), .int 1] [] (upd σ 16 (nI (q + 1))) τ _
          refine Rx.go (fun _ => rfl) ?_
          refine Rx.go (fun _ => rfl) ?_
          refine Rx.callP rfl rfl rfl rfl (rs_put 92 hS17 (by first | omega | (simp only [List.length_append, List.length_cons, List.length_nil]; omega))) ?_
          intro σ25 τ25 hS25
          show Rx X c0 m_Mod_readItem 140 [.ref (c0 + 16), .int (hb t q), .int (hb t (q + 1)), .int 1] [] σ25 τ25 _
          refine Rx.go (fun _ => rfl) ?_
          refine Rx.go (fun _ => rfl) ?_
          refine Rx.top (y := nI (t.getD (q + 1) 0)) (hb_lt hq1) ?_
          refine Rx.callP rfl rfl rfl rfl (rs_put (t.getD (q + 1) 0) hS25 (by first | omega | (simp only [List.length_append, List.length_cons, List.length_nil]; omega))) ?_
          intro σ26 τ26 hS26
          show Rx X c0 m_Mod_readItem 145 [.ref (c0 + 16), .int (hb t q), .int (hb t (q + 1)), .int 1] [] σ26 τ26 _
          refine Rx.go (fun _ => rfl) ?_
          refine Rx.go (fun _ => rfl) ?_
          refine Rx.get rfl rfl ?_
          refine Rx.top (y := nI (q + 1)) hS26.f16 ?_
          refine Rx.go (fun _ => rfl) ?_
          refine Rx.go (fun _ => rfl) ?_
          refine Rx.top (y := nI (q + 1 + 1)) (nI_1 _) ?_
          refine Rx.put rfl (by decide) rfl rfl ?_
          have hS27 := hS26.at1 hq1
          exact Rx.ret rfl rfl (rQ_t (show sIt t q = (true, q + 2, [92, t.getD (q + 1) 0]) from (if_pos c1).trans ((if_neg hne).trans (if_pos hyes))) (by rw [show D ++ [92, t.getD (q + 1) 0] = D ++ [92] ++ [t.getD (q + 1) 0] by simp]; exact hS27))
        · replace c5 : (nI (q + 1)) = (nI t.length) := Classical.not_not.mp (of_decide_eq_false c5)
          have heq : q + 1 = t.length := (nI_eq (by omega) (by omega)).mp c5
          show Rx X c0 m_Mod_readItem 107 [.ref (c0 + 16), .int (hb t q), .int (hb t (q + 1)), .int 1] [] (upd σ 16 (nI (q + 1))) τ _
          refine Rx.go (fun _ => rfl) ?_
          refine Rx.go (fun _ => rfl) ?_
          refine Rx.go (fun _ => rfl) ?_
          refine Rx.get rfl rfl ?_
          refine Rx.top (y := nI t.length) hS17.f17 ?_
          refine Rx.callP rfl rfl rfl rfl (rs_fl (wn := t.length) hS17 (by decide) rfl) ?_
          intro σ28 τ28 hS28
          show Rx X c0 m_Mod_readItem 116 [.ref (c0 + 16), .int (hb t q), .int (hb t (q + 1)), .int 1] [] σ28 τ28 _
          refine Rx.go (fun _ => rfl) ?_
          refine Rx.go (fun _ => rfl) ?_
          refine Rx.go (fun _ => rfl) ?_
          refine Rx.callP rfl rfl rfl rfl (rg_put _ hS28 (by first | omega | (simp only [List.length_append, List.length_cons, List.length_nil]; omega))) ?_
          intro σ29 τ29 hS29
          show Rx X c0 m_Mod_readItem 140 [.ref (c0 + 16), .int (hb t q), .int (hb t (q + 1)), .int 1] [] σ29 τ29 _
          refine Rx.go (fun _ => rfl) ?_
          refine Rx.go (fun _ => rfl) ?_
          refine Rx.callP rfl rfl rfl rfl (rg_put _ hS29 (by first | omega | (simp only [List.length_append, List.length_cons, List.length_nil]; omega))) ?_
          intro σ30 τ30 hS30
          show Rx X c0 m_Mod_readItem 145 [.ref (c0 + 16), .int (hb t q), .int (hb t (q + 1)), .int 1] [] σ30 τ30 _
          refine Rx.go (fun _ => rfl) ?_
          refine Rx.go (fun _ => rfl) ?_
          refine Rx.get rfl rfl ?_
          refine Rx.go (fun _ => rfl) ?_
          refine Rx.go (fun _ => rfl) ?_
          refine Rx.put rfl (by decide) rfl rfl ?_
          have hS31 := hS30.at1
          exact Rx.ret rfl rfl (rQ_f (b := []) (show sIt t q = (false, q + 1, []) from (if_pos c1).trans (if_pos heq)) (by rw [heq]; exact hS31) (by first | omega | (simp only [List.length_append, List.length_cons, List.length_nil]; omega)) (by omega))
      · replace c4 : ¬ (hb t (q + 1)) = 92 := of_decide_eq_false c4
        show Rx X c0 m_Mod_readItem 72 [.ref (c0 + 16), .int (hb t q), .int (hb t (q + 1)), ev_dead] [] (upd σ 16 (nI (q + 1))) τ _
        refine Rx.go (fun _ => rfl) ?_
        refine Rx.go (fun _ => rfl) ?_
        refine Rx.go (fun _ => rfl) ?_
        refine Rx.ite (fun c6 => ?_) (fun c6 => ?_)
        · replace c6 : (hb t (q + 1)) = 110 := of_decide_eq_true c6
          show Rx X c0 m_Mod_readItem 90 [.ref (c0 + 16), .int (hb t q), .int (hb t (q + 1)), ev_dead] [] (upd σ 16 (nI (q + 1))) τ _
          refine Rx.go (fun _ => rfl) ?_
          refine Rx.go (fun _ => rfl) ?_
          refine Rx.go (fun _ => rfl) ?_
          show Rx X c0 m_Mod_readItem 96 [.ref (c0 + 16), .int (hb t q), .int (hb t (q + 1)), .int 1] [] (upd σ 16 (nI (q + 1))) τ _
          have hyes : 0 ≤ esc (hb t (q + 1)) := esc_yes (Or.inr (Or.inr (Or.inl c6)))
          refine Rx.go (fun _ => rfl) ?_
          refine Rx.get rfl rfl ?_
          refine Rx.top (y := nI (q + 1)) hS17.f16 ?_
          refine Rx.go (fun _ => rfl) ?_
          refine Rx.get rfl rfl ?_
          refine Rx.top (y := nI t.length) hS17.f17 ?_
          refine Rx.go (fun _ => rfl) ?_
          refine Rx.ite (fun c7 => ?_) (fun c7 => ?_)
          · replace c7 : ¬ (nI (q + 1)) = (nI t.length) := of_decide_eq_true c7
            have hne : ¬ q + 1 = t.length := fun e => c7 (by rw [e])
            have h92 := hb_in (t := t) (q := q) (by rw [c1]; decide)
            have hq1 : q + 1 < t.length := by omega
            show Rx X c0 m_Mod_readItem 119 [.ref (c0 + 16), .int (hb t q), .int (hb t (q + 1)), .int 1] [] (upd σ 16 (nI (q + 1))) τ _
            refine Rx.go (fun _ => rfl) ?_
            refine Rx.go (fun _ => rfl) ?_
            show Rx X c0 m_Mod_readItem 134 [.ref (c0 + 16), .int (hb t q), .int (hb t (q + 1)), .int 1] [] (upd σ 16 (nI (q + 1))) τ _
            refine Rx.go (fun _ => rfl) ?_
            refine Rx.go (fun _ => rfl) ?_
            refine Rx.callP rfl rfl rfl rfl (rs_put 92 hS17 (by first | omega | (simp only [List.length_append, List.length_cons, List.length_nil]; omega))) ?_
            intro σ32 τ32 hS32
            show Rx X c0 m_Mod_readItem 140 [.ref (c0 + 16), .int (hb t q), .int (hb t (q + 1)), .int 1] [] σ32 τ32 _
            refine Rx.go (fun _ => rfl) ?_
            refine Rx.go (fun _ => rfl) ?_
            refine Rx.top (y := nI (t.getD (q + 1) 0)) (hb_lt hq1) ?_
            refine Rx.callP rfl rfl rfl rfl (rs_put (t.getD (q + 1) 0) hS32 (by first | omega | (simp only [List.length_append, List.length_cons, List.length_nil]; omega))) ?_
            intro σ33 τ33 hS33
            show Rx X c0 m_Mod_readItem 145 [.ref (c0 + 16), .int (hb t q), .int (hb t (q + 1)), .int 1] [] σ33 τ33 _
            refine Rx.go (fun _ => rfl) ?_
            refine Rx.go (fun _ => rfl) ?_
            refine Rx.get rfl rfl ?_
            refine Rx.top (y := nI (q + 1)) hS33.f16 ?_
            refine Rx.go (fun _ => rfl) ?_
            refine Rx.go (fun _ => rfl) ?_
            refine Rx.top (y := nI (q + 1 + 1)) (nI_1 _) ?_
            refine Rx.put rfl (by decide) rfl rfl ?_
            have hS34 := hS33.at1 hq1
            exact Rx.ret rfl rfl (rQ_t (show sIt t q = (true, q + 2, [92, t.getD (q + 1) 0]) from (if_pos c1).trans ((if_neg hne).trans (if_pos hyes))) (by rw [show D ++ [92, t.getD (q + 1) 0] = D ++ [92] ++ [t.getD (q + 1) 0] by simp]; exact hS34))
          · replace c7 : (nI (q + 1)) = (nI t.length) := Classical.not_not.mp (of_decide_eq_false c7)
            have heq : q + 1 = t.length := (nI_eq (by omega) (by omega)).mp c7
            show Rx X c0 m_Mod_readItem 107 [.ref (c0 + 16), .int (hb t q), .int (hb t (q + 1)), .int 1] [] (upd σ 16 (nI (q + 1))) τ _
            refine Rx.go (fun _ => rfl) ?_
            refine Rx.go (fun _ => rfl) ?_
            refine Rx.go (fun _ => rfl) ?_
            refine Rx.get rfl rfl ?_
            refine Rx.top (y := nI t.length) hS17.f17 ?_
            refine Rx.callP rfl rfl rfl rfl (rs_fl (wn := t.length) hS17 (by decide) rfl) ?_
            intro σ35 τ35 hS35
            show Rx X c0 m_Mod_readItem 116 [.ref (c0 + 16), .int (hb t q), .int (hb t (q + 1)), .int 1] [] σ35 τ35 _
            refine Rx.go (fun _ => rfl) ?_
            refine Rx.go (fun _ => rfl) ?_
            refine Rx.go (fun _ => rfl) ?_
            refine Rx.callP rfl rfl rfl rfl (rg_put _ hS35 (by first | omega | (simp only [List.length_append, List.length_cons, List.length_nil]; omega))) ?_
            intro σ36 τ36 hS36
            show Rx X c0 m_Mod_readItem 140 [.ref (c0 + 16), .int (hb t q), .int (hb t (q + 1)), .int 1] [] σ36 τ36 _
            refine Rx.go (fun _ => rfl) ?_
            refine Rx.go (fun _ => rfl) ?_
            refine Rx.callP rfl rfl rfl rfl (rg_put _ hS36 (by first | omega | (simp only [List.length_append, List.length_cons, List.length_nil]; omega))) ?_
            intro σ37 τ37 hS37
            show Rx X c0 m_Mod_readItem 145 [.ref (c0 + 16), .int (hb t q), .int (hb t (q + 1)), .int 1] [] σ37 τ37 _
            refine Rx.go (fun _ => rfl) ?_
            refine Rx.go (fun _ => rfl) ?_
            refine Rx.get rfl rfl ?_
            refine Rx.go (fun _ => rfl) ?_
            refine Rx.go (fun _ => rfl) ?_
            refine Rx.put rfl (by decide) rfl rfl ?_
            have hS38 := hS37.at1
            exact Rx.ret rfl rfl (rQ_f (b := []) (show sIt t q = (false, q + 1, []) from (if_pos c1).trans (if_pos heq)) (by rw [heq]; exact hS38) (by first | omega | (simp only [List.length_append, List.length_cons, List.length_nil]; omega)) (by omega))
        · replace c6 : ¬ (hb t (q + 1)) = 110 := of_decide_eq_false c6
          show Rx X c0 m_Mod_readItem 78 [.ref (c0 + 16), .int (hb t q), .int (hb t (q + 1)), ev_dead] [] (upd σ 16 (nI (q + 1))) τ _
          refine Rx.go (fun _ => rfl) ?_
          refine Rx.go (fun _ => rfl) ?_
          refine Rx.go (fun _ => rfl) ?_
          refine Rx.ite (fun c8 => ?_) (fun c8 => ?_)
          · replace c8 : (hb t (q + 1)) = 114 := of_decide_eq_true c8
            show Rx X c0 m_Mod_readItem 90 [.ref (c0 + 16), .int (hb t q), .int (hb t (q + 1)), ev_dead] [] (upd σ 16 (nI (q + 1))) τ _
            refine Rx.go (fun _ => rfl) ?_
            refine Rx.go (fun _ => rfl) ?_
            refine Rx.go (fun _ => rfl) ?_
            show Rx X c0 m_Mod_readItem 96 [.ref (c0 + 16), .int (hb t q), .int (hb t (q + 1)), .int 1] [] (upd σ 16 (nI (q + 1))) τ _
            have hyes : 0 ≤ esc (hb t (q + 1)) := esc_yes (Or.inr (Or.inr (Or.inr (Or.inl c8))))
            refine Rx.go (fun _ => rfl) ?_
            refine Rx.get rfl rfl ?_
            refine Rx.top (y := nI (q + 1)) hS17.f16 ?_
            refine Rx.go (fun _ => rfl) ?_
            refine Rx.get rfl rfl ?_
            refine Rx.top (y := nI t.length) hS17.f17 ?_
            refine Rx.go (fun _ => rfl) ?_
            refine Rx.ite (fun c9 => ?_) (fun c9 => ?_)
            · replace c9 : ¬ (nI (q + 1)) = (nI t.length) := of_decide_eq_true c9
              have hne : ¬ q + 1 = t.length := fun e => c9 (by rw [e])
              have h92 := hb_in (t := t) (q := q) (by rw [c1]; decide)
              have hq1 : q + 1 < t.length := by omega
              show Rx X c0 m_Mod_readItem 119 [.ref (c0 + 16), .int (hb t q), .int (hb t (q + 1)), .int 1] [] (upd σ 16 (nI (q + 1))) τ _
              refine Rx.go (fun _ => rfl) ?_
              refine Rx.go (fun _ => rfl) ?_
              show Rx X c0 m_Mod_readItem 134 [.ref (c0 + 16), .int (hb t q), .int (hb t (q + 1)), .int 1] [] (upd σ 16 (nI (q + 1))) τ _
              refine Rx.go (fun _ => rfl) ?_
              refine Rx.go (fun _ => rfl) ?_
              refine Rx.callP rfl rfl rfl rfl (rs_put 92 hS17 (by first | omega | (simp only [List.length_append, List.length_cons, List.length_nil]; omega))) ?_
              intro σ39 τ39 hS39
              show Rx X c0 m_Mod_readItem 140 [.ref (c0 + 16), .int (hb t q), .int (hb t (q + 1)), .int 1] [] σ39 τ39 _
              refine Rx.go (fun _ => rfl) ?_
              refine Rx.go (fun _ => rfl) ?_
              refine Rx.top (y := nI (t.getD (q + 1) 0)) (hb_lt hq1) ?_
              refine Rx.callP rfl rfl rfl rfl (rs_put (t.getD (q + 1) 0) hS39 (by first | omega | (simp only [List.length_append, List.length_cons, List.length_nil]; omega))) ?_
              intro σ40 τ40 hS40
              show Rx X c0 m_Mod_readItem 145 [.ref (c0 + 16), .int (hb t q), .int (hb t (q + 1)), .int 1] [] σ40 τ40 _
              refine Rx.go (fun _ => rfl) ?_
              refine Rx.go (fun _ => rfl) ?_
              refine Rx.get rfl rfl ?_
              refine Rx.top (y := nI (q + 1)) hS40.f16 ?_
              refine Rx.go (fun _ => rfl) ?_
              refine Rx.go (fun _ => rfl) ?_
              refine Rx.top (y := nI (q + 1 + 1)) (nI_1 _) ?_
              refine Rx.put rfl (by decide) rfl rfl ?_
              have hS41 := hS40.at1 hq1
              exact Rx.ret rfl rfl (rQ_t (show sIt t q = (true, q + 2, [92, t.getD (q + 1) 0]) from (if_pos c1).trans ((if_neg hne).trans (if_pos hyes))) (by rw [show D ++ [92, t.getD (q + 1) 0] = D ++ [92] ++ [t.getD (q + 1) 0] by simp]; exact hS41))
            · replace c9 : (nI (q + 1)) = (nI t.length) := Classical.not_not.mp (of_decide_eq_false c9)
              have heq : q + 1 = t.length := (nI_eq (by omega) (by omega)).mp c9
              show Rx X c0 m_Mod_readItem 107 [.ref (c0 + 16), .int (hb t q), .int (hb t (q + 1)), .int 1] [] (upd σ 16 (nI (q + 1))) τ _
              refine Rx.go (fun _ => rfl) ?_
              refine Rx.go (fun _ => rfl) ?_
              refine Rx.go (fun _ => rfl) ?_
              refine Rx.get rfl rfl ?_
              refine Rx.top (y := nI t.length) hS17.f17 ?_
              refine Rx.callP rfl rfl rfl rfl (rs_fl (wn := t.length) hS17 (by decide) rfl) ?_
              intro σ42 τ42 hS42
              show Rx X c0 m_Mod_readItem 116 [.ref (c0 + 16), .int (hb t q), .int (hb t (q + 1)), .int 1] [] σ42 τ42 _
              refine Rx.go (fun _ => rfl) ?_
              refine Rx.go (fun _ => rfl) ?_
              refine Rx.go (fun _ => rfl) ?_
              refine Rx.callP rfl rfl rfl rfl (rg_put _ hS42 (by first | omega | (simp only [List.length_append, List.length_cons, List.length_nil]; omega))) ?_
              intro σ43 τ43 hS43
              show Rx X c0 m_Mod_readItem 140 [.ref (c0 + 16), .int (hb t q), .int (hb t (q + 1)), .int 1] [] σ43 τ43 _
              refine Rx.go (fun _ => rfl) ?_
              refine Rx.go (fun _ => rfl) ?_
              refine Rx.callP rfl rfl rfl rfl (rg_put _ hS43 (by first | omega | (simp only [List.length_append, List.length_cons, List.length_nil]; omega))) ?_
              intro σ44 τ44 hS44
              show Rx X c0 m_Mod_readItem 145 [.ref (c0 + 16), .int (hb t q), .int (hb t (q + 1)), .int 1] [] σ44 τ44 _
              refine Rx.go (fun _ => rfl) ?_
              refine Rx.go (fun _ => rfl) ?_
              refine Rx.get rfl rfl ?_
              refine Rx.go (fun _ => rfl) ?_
              refine Rx.go (fun _ => rfl) ?_
              refine Rx.put rfl (by decide) rfl rfl ?_
              have hS45 := hS44.at1
              exact Rx.ret rfl rfl (rQ_f (b := []) (show sIt t q = (false, q + 1, []) from (if_pos c1).trans (if_pos heq)) (by rw [heq]; exact hS45) (by first | omega | (simp only [List.length_append, List.length_cons, List.length_nil]; omega)) (by omega))
          · replace c8 : ¬ (hb t (q + 1)) = 114 := of_decide_eq_false c8
            show Rx X c0 m_Mod_readItem 84 [.ref (c0 + 16), .int (hb t q), .int (hb t (q + 1)), ev_dead] [] (upd σ 16 (nI (q + 1))) τ _
            refine Rx.go (fun _ => rfl) ?_
            refine Rx.go (fun _ => rfl) ?_
            refine Rx.go (fun _ => rfl) ?_
            refine Rx.ite (fun c10 => ?_) (fun c10 => ?_)
            · replace c10 : ¬ (hb t (q + 1)) = 116 := of_decide_eq_true c10
              show Rx X c0 m_Mod_readItem 94 [.ref (c0 + 16), .int (hb t q), .int (hb t (q + 1)), ev_dead] [] (upd σ 16 (nI (q + 1))) τ _
              refine Rx.go (fun _ => rfl) ?_
              refine Rx.go (fun _ => rfl) ?_
              show Rx X c0 m_Mod_readItem 96 [.ref (c0 + 16), .int (hb t q), .int (hb t (q + 1)), .int 0] [] (upd σ 16 (nI (q + 1))) τ _
              have hno : ¬ 0 ≤ esc (hb t (q + 1)) := esc_no c2 c4 c6 c8 c10
              refine Rx.go (fun _ => rfl) ?_
              refine Rx.get rfl rfl ?_
              refine Rx.top (y := nI (q + 1)) hS17.f16 ?_
              refine Rx.go (fun _ => rfl) ?_
              refine Rx.get rfl rfl ?_
              refine Rx.top (y := nI t.length) hS17.f17 ?_
              refine Rx.go (fun _ => rfl) ?_
              refine Rx.ite (fun c11 => ?_) (fun c11 => ?_)
              · replace c11 : ¬ (nI (q + 1)) = (nI t.length) := of_decide_eq_true c11
                have hne : ¬ q + 1 = t.length := fun e => c11 (by rw [e])
                have h92 := hb_in (t := t) (q := q) (by rw [c1]; decide)
                have hq1 : q + 1 < t.length := by omega
                show Rx X c0 m_Mod_readItem 119 [.ref (c0 + 16), .int (hb t q), .int (hb t (q + 1)), .int 0] [] (upd σ 16 (nI (q + 1))) τ _
                refine Rx.go (fun _ => rfl) ?_
                refine Rx.go (fun _ => rfl) ?_
                show Rx X c0 m_Mod_readItem 123 [.ref (c0 + 16), .int (hb t q), .int (hb t (q + 1)), .int 0] [] (upd σ 16 (nI (q + 1))) τ _
                refine Rx.go (fun _ => rfl) ?_
                refine Rx.go (fun _ => rfl) ?_
                refine Rx.go (fun _ => rfl) ?_
                refine Rx.get rfl rfl ?_
                refine Rx.top (y := nI (q + 1)) hS17.f16 ?_
                refine Rx.go (fun _ => rfl) ?_
                refine Rx.go (fun _ => rfl) ?_
                refine Rx.top (y := nI q) (nI_pred q) ?_
                refine Rx.callP rfl rfl rfl rfl (rs_fl (wn := q) hS17 (by decide) rfl) ?_
                intro σ46 τ46 hS46
                show Rx X c0 m_Mod_readItem 134 [.ref (c0 + 16), .int (hb t q), .int (hb t (q + 1)), .int 0] [] σ46 τ46 _
                refine Rx.go (fun _ => rfl) ?_
                refine Rx.go (fun _ => rfl) ?_
                refine Rx.callP rfl rfl rfl rfl (rg_put _ hS46 (by first | omega | (simp only [List.length_append, List.length_cons, List.length_nil]; omega))) ?_
                intro σ47 τ47 hS47
                show Rx X c0 m_Mod_readItem 140 [.ref (c0 + 16), .int (hb t q), .int (hb t (q + 1)), .int 0] [] σ47 τ47 _
                refine Rx.go (fun _ => rfl) ?_
                refine Rx.go (fun _ => rfl) ?_
                refine Rx.callP rfl rfl rfl rfl (rg_put _ hS47 (by first | omega | (simp only [List.length_append, List.length_cons, List.length_nil]; omega))) ?_
                intro σ48 τ48 hS48
                show Rx X c0 m_Mod_readItem 145 [.ref (c0 + 16), .int (hb t q), .int (hb t (q + 1)), .int 0] [] σ48 τ48 _
                refine Rx.go (fun _ => rfl) ?_
                refine Rx.go (fun _ => rfl) ?_
                refine Rx.get rfl rfl ?_
                refine Rx.go (fun _ => rfl) ?_
                refine Rx.go (fun _ => rfl) ?_
                refine Rx.put rfl (by decide) rfl rfl ?_
                have hS49 := hS48.at1
                exact Rx.ret rfl rfl (rQ_f (b := []) (show sIt t q = (false, q, []) from (if_pos c1).trans ((if_neg hne).trans (if_neg hno))) hS49 (by first | omega | (simp only [List.length_append, List.length_cons, List.length_nil]; omega)) (by omega))
              · replace c11 : (nI (q + 1)) = (nI t.length) := Classical.not_not.mp (of_decide_eq_false c11)
                have heq : q + 1 = t.length := (nI_eq (by omega) (by omega)).mp c11
                show Rx X c0 m_Mod_readItem 107 [.ref (c0 + 16), .int (hb t q), .int (hb t (q + 1)), .int 0] [] (upd σ 16 (nI (q + 1))) τ _
                refine Rx.go (fun _ => rfl) ?_
                refine Rx.go (fun _ => rfl) ?_
                refine Rx.go (fun _ => rfl) ?_
                refine Rx.get rfl rfl ?_
                refine Rx.top (y := nI t.length) hS17.f17 ?_
                refine Rx.callP rfl rfl rfl rfl (rs_fl (wn := t.length) hS17 (by decide) rfl) ?_
                intro σ50 τ50 hS50
                show Rx X c0 m_Mod_readItem 116 [.ref (c0 + 16), .int (hb t q), .int (hb t (q + 1)), .int 0] [] σ50 τ50 _
                refine Rx.go (fun _ => rfl) ?_
                refine Rx.go (fun _ => rfl) ?_
                refine Rx.go (fun _ => rfl) ?_
                refine Rx.callP rfl rfl rfl rfl (rg_put _ hS50 (by first | omega | (simp only [List.length_append, List.length_cons, List.length_nil]; omega))) ?_
                intro σ51 τ51 hS51
                show Rx X c0 m_Mod_readItem 140 [.ref (c0 + 16), .int (hb t q), .int (hb t (q + 1)), .int 0] [] σ51 τ51 _
                refine Rx.go (fun _ => rfl) ?_
                refine Rx.go (fun _ => rfl) ?_
                refine Rx.callP rfl rfl rfl rfl (rg_put _ hS51 (by first | omega | (simp only [List.length_append, List.length_cons, List.length_nil]; omega))) ?_
                intro σ52 τ52 hS52
                show Rx X c0 m_Mod_readItem 145 [.ref (c0 + 16), .int (hb t q), .int (hb t (q + 1)), .int 0] [] σ52 τ52 _
                refine Rx.go (fun _ => rfl) ?_
                refine Rx.go (fun _ => rfl) ?_
                refine Rx.get rfl rfl ?_
                refine Rx.go (fun _ => rfl) ?_
                refine Rx.go (fun _ => rfl) ?_
                refine Rx.put rfl (by decide) rfl rfl ?_
                have hS53 := hS52.at1
                exact Rx.ret rfl rfl (rQ_f (b := []) (show sIt t q = (false, q + 1, []) from (if_pos c1).trans (if_pos heq)) (by rw [heq]; exact hS53) (by first | omega | (simp only [List.length_append, List.length_cons, List.length_nil]; omega)) (by omega))
            · replace c10 : (hb t (q + 1)) = 116 := Classical.not_not.mp (of_decide_eq_false c10)
              show Rx X c0 m_Mod_readItem 90 [.ref (c0 + 16), .int (hb t q), .int (hb t (q + 1)), ev_dead] [] (upd σ 16 (nI (q + 1))) τ _
              refine Rx.go (fun _ => rfl) ?_
              refine Rx.go (fun _ => rfl) ?_
              refine Rx.go (fun _ => rfl) ?_
              show Rx X c0 m_Mod_readItem 96 [.ref (c0 + 16), .int (hb t q), .int (hb t (q + 1)), .int 1] [] (upd σ 16 (nI (q + 1))) τ _
              have hyes : 0 ≤ esc (hb t (q + 1)) := esc_yes (Or.inr (Or.inr (Or.inr (Or.inr c10))))
              refine Rx.go (fun _ => rfl) ?_
              refine Rx.get rfl rfl ?_
              refine Rx.top (y := nI (q + 1)) hS17.f16 ?_
              refine Rx.go (fun _ => rfl) ?_
              refine Rx.get rfl rfl ?_
              refine Rx.top (y := nI t.length) hS17.f17 ?_
              refine Rx.go (fun _ => rfl) ?_
              refine Rx.ite (fun c12 => ?_) (fun c12 => ?_)
              · replace c12 : ¬ (nI (q + 1)) = (nI t.length) := of_decide_eq_true c12
                have hne : ¬ q + 1 = t.length := fun e => c12 (by rw [e])
                have h92 := hb_in (t := t) (q := q) (by rw [c1]; decide)
                have hq1 : q + 1 < t.length := by omega
                show Rx X c0 m_Mod_readItem 119 [.ref (c0 + 16), .int (hb t q), .int (hb t (q + 1)), .int 1] [] (upd σ 16 (nI (q + 1))) τ _
                refine Rx.go (fun _ => rfl) ?_
                refine Rx.go (fun _ => rfl) ?_
                show Rx X c0 m_Mod_readItem 134 [.ref (c0 + 16), .int (hb t q), .int (hb t (q + 1)), .int 1] [] (upd σ 16 (nI (q + 1))) τ _
                refine Rx.go (fun _ => rfl) ?_
                refine Rx.go (fun _ => rfl) ?_
                refine Rx.callP rfl rfl rfl rfl (rs_put 92 hS17 (by first | omega | (simp only [List.length_append, List.length_cons, List.length_nil]; omega))) ?_
                intro σ54 τ54 hS54
                show Rx X c0 m_Mod_readItem 140 [.ref (c0 + 16), .int (hb t q), .int (hb t (q + 1)), .int 1] [] σ54 τ54 _
                refine Rx.go (fun _ => rfl) ?_
                refine Rx.go (fun _ => rfl) ?_
                refine Rx.top (y := nI (t.getD (q + 1) 0)) (hb_lt hq1) ?_
                refine Rx.callP rfl rfl rfl rfl (rs_put (t.getD (q + 1) 0) hS54 (by first | omega | (simp only [List.length_append, List.length_cons, List.length_nil]; omega))) ?_
                intro σ55 τ55 hS55
                show Rx X c0 m_Mod_readItem 145 [.ref (c0 + 16), .int (hb t q), .int (hb t (q + 1)), .int 1] [] σ55 τ55 _
                refine Rx.go (fun _ => rfl) ?_
                refine Rx.go (fun _ => rfl) ?_
                refine Rx.get rfl rfl ?_
                refine Rx.top (y := nI (q + 1)) hS55.f16 ?_
                refine Rx.go (fun _ => rfl) ?_
                refine Rx.go (fun _ => rfl) ?_
                refine Rx.top (y := nI (q + 1 + 1)) (nI_1 _) ?_
                refine Rx.put rfl (by decide) rfl rfl ?_
                have hS56 := hS55.at1 hq1
                exact Rx.ret rfl rfl (rQ_t (show sIt t q = (true, q + 2, [92, t.getD (q + 1) 0]) from (if_pos c1).trans ((if_neg hne).trans (if_pos hyes))) (by rw [show D ++ [92, t.getD (q + 1) 0] = D ++ [92] ++ [t.getD (q + 1) 0] by simp]; exact hS56))
              · replace c12 : (nI (q + 1)) = (nI t.length) := Classical.not_not.mp (of_decide_eq_false c12)
                have heq : q + 1 = t.length := (nI_eq (by omega) (by omega)).mp c12
                show Rx X c0 m_Mod_readItem 107 [.ref (c0 + 16), .int (hb t q), .int (hb t (q + 1)), .int 1] [] (upd σ 16 (nI (q + 1))) τ _
                refine Rx.go (fun _ => rfl) ?_
                refine Rx.go (fun _ => rfl) ?_
                refine Rx.go (fun _ => rfl) ?_
                refine Rx.get rfl rfl ?_
                refine Rx.top (y := nI t.length) hS17.f17 ?_
                refine Rx.callP rfl rfl rfl rfl (rs_fl (wn := t.length) hS17 (by decide) rfl) ?_
                intro σ57 τ57 hS57
                show Rx X c0 m_Mod_readItem 116 [.ref (c0 + 16), .int (hb t q), .int (hb t (q + 1)), .int 1] [] σ57 τ57 _
                refine Rx.go (fun _ => rfl) ?_
                refine Rx.go (fun _ => rfl) ?_
                refine Rx.go (fun _ => rfl) ?_
                refine Rx.callP rfl rfl rfl rfl (rg_put _ hS57 (by first | omega | (simp only [List.length_append, List.length_cons, List.length_nil]; omega))) ?_
                intro σ58 τ58 hS58
                show Rx X c0 m_Mod_readItem 140 [.ref (c0 + 16), .int (hb t q), .int (hb t (q + 1)), .int 1] [] σ58 τ58 _
                refine Rx.go (fun _ => rfl) ?_
                refine Rx.go (fun _ => rfl) ?_
                refine Rx.callP rfl rfl rfl rfl (rg_put _ hS58 (by first | omega | (simp only [List.length_append, List.length_cons, List.length_nil]; omega))) ?_
                intro σ59 τ59 hS59
                show Rx X c0 m_Mod_readItem 145 [.ref (c0 + 16), .int (hb t q), .int (hb t (q + 1)), .int 1] [] σ59 τ59 _
                refine Rx.go (fun _ => rfl) ?_
                refine Rx.go (fun _ => rfl) ?_
                refine Rx.get rfl rfl ?_
                refine Rx.go (fun _ => rfl) ?_
                refine Rx.go (fun _ => rfl) ?_
                refine Rx.put rfl (by decide) rfl rfl ?_
                have hS60 := hS59.at1
                exact Rx.ret rfl rfl (rQ_f (b := []) (show sIt t q = (false, q + 1, []) from (if_pos c1).trans (if_pos heq)) (by rw [heq]; exact hS60) (by first | omega | (simp only [List.length_append, List.length_cons, List.length_nil]; omega)) (by omega))
  · replace c1 : ¬ (hb t q) = 92 := of_decide_eq_false c1
    show Rx X c0 m_Mod_readItem 11 [.ref (c0 + 16), .int (hb t q), ev_dead, ev_dead] [] σ τ _
    refine Rx.go (fun _ => rfl) ?_
    refine Rx.go (fun _ => rfl) ?_
    refine Rx.go (fun _ => rfl) ?_
    refine Rx.go (fun _ => rfl) ?_
    refine Rx.ite (fun c13 => ?_) (fun c13 => ?_)
    · replace c13 : (hb t q) ≤ 31 := of_decide_eq_true c13
      show Rx X c0 m_Mod_readItem 28 [.ref (c0 + 16), .int (hb t q), ev_dead, ev_dead] [.ref (c0 + 16)] σ τ _
      refine Rx.go (fun _ => rfl) ?_
      refine Rx.callP rfl rfl rfl rfl (rs_ov_f false hS (fun h => Bool.false_ne_true h.2)) ?_
      intro σ61 τ61 hS61
      show Rx X c0 m_Mod_readItem 32 [.ref (c0 + 16), .int (hb t q), ev_dead, ev_dead] [] σ61 τ61 _
      refine Rx.go (fun _ => rfl) ?_
      refine Rx.callE rfl rfl rfl rfl (rg_good hS61) ?_
      show Rx X c0 m_Mod_readItem 36 [.ref (c0 + 16), .int (hb t q), ev_dead, ev_dead] [.int 0] σ61 τ61 _
      refine Rx.go (fun _ => rfl) ?_
      show Rx X c0 m_Mod_readItem 44 [.ref (c0 + 16), .int (hb t q), ev_dead, ev_dead] [] σ61 τ61 _
      exact Rx.ret rfl rfl (rQ_f (b := []) (show sIt t q = (false, q, []) from (if_neg c1).trans (if_pos (i32_31.mp c13))) hS61 (by first | omega | (simp only [List.length_append, List.length_cons, List.length_nil]; omega)) (by omega))
    · replace c13 : ¬ (hb t q) ≤ 31 := of_decide_eq_false c13
      show Rx X c0 m_Mod_readItem 18 [.ref (c0 + 16), .int (hb t q), ev_dead, ev_dead] [.ref (c0 + 16)] σ τ _
      refine Rx.go (fun _ => rfl) ?_
      refine Rx.go (fun _ => rfl) ?_
      refine Rx.go (fun _ => rfl) ?_
      refine Rx.ite (fun c14 => ?_) (fun c14 => ?_)
      · replace c14 : 127 ≤ (hb t q) := of_decide_eq_true c14
        show Rx X c0 m_Mod_readItem 28 [.ref (c0 + 16), .int (hb t q), ev_dead, ev_dead] [.ref (c0 + 16)] σ τ _
        refine Rx.go (fun _ => rfl) ?_
        refine Rx.callP rfl rfl rfl rfl (rs_ov_f false hS (fun h => Bool.false_ne_true h.2)) ?_
        intro σ62 τ62 hS62
        show Rx X c0 m_Mod_readItem 32 [.ref (c0 + 16), .int (hb t q), ev_dead, ev_dead] [] σ62 τ62 _
        refine Rx.go (fun _ => rfl) ?_
        refine Rx.callE rfl rfl rfl rfl (rg_good hS62) ?_
        show Rx X c0 m_Mod_readItem 36 [.ref (c0 + 16), .int (hb t q), ev_dead, ev_dead] [.int 0] σ62 τ62 _
        refine Rx.go (fun _ => rfl) ?_
        show Rx X c0 m_Mod_readItem 44 [.ref (c0 + 16), .int (hb t q), ev_dead, ev_dead] [] σ62 τ62 _
        exact Rx.ret rfl rfl (rQ_f (b := []) (show sIt t q = (false, q, []) from (if_neg c1).trans ((if_neg (fun h => c13 (i32_31.mpr h))).trans (if_pos (i32_12.mp c14)))) hS62 (by first | omega | (simp only [List.length_append, List.length_cons, List.length_nil]; omega)) (by omega))
      · replace c14 : ¬ 127 ≤ (hb t q) := of_decide_eq_false c14
        show Rx X c0 m_Mod_readItem 24 [.ref (c0 + 16), .int (hb t q), ev_dead, ev_dead] [.ref (c0 + 16)] σ τ _
        refine Rx.go (fun _ => rfl) ?_
        refine Rx.go (fun _ => rfl) ?_
        refine Rx.callP rfl rfl rfl rfl (rs_ov_t hS (hb_in (fun e => c13 (by rw [e]; decide)))) ?_
        intro σ63 τ63 hS63
        show Rx X c0 m_Mod_readItem 32 [.ref (c0 + 16), .int (hb t q), ev_dead, ev_dead] [] σ63 τ63 _
        refine Rx.go (fun _ => rfl) ?_
        refine Rx.callE rfl rfl rfl rfl (rz_good hS63.z) ?_
        show Rx X c0 m_Mod_readItem 36 [.ref (c0 + 16), .int (hb t q), ev_dead, ev_dead] [.int 1] σ63 τ63 _
        refine Rx.go (fun _ => rfl) ?_
        show Rx X c0 m_Mod_readItem 39 [.ref (c0 + 16), .int (hb t q), ev_dead, ev_dead] [] σ63 τ63 _
        refine Rx.go (fun _ => rfl) ?_
        refine Rx.go (fun _ => rfl) ?_
        refine Rx.top (y := nI (t.getD q 0)) (hb_lt (hb_in (fun e => c13 (by rw [e]; decide)))) ?_
        refine Rx.callP rfl rfl rfl rfl (rs_put (t.getD q 0) hS63 (by first | omega | (simp only [List.length_append, List.length_cons, List.length_nil]; omega))) ?_
        intro σ64 τ64 hS64
        show Rx X c0 m_Mod_readItem 44 [.ref (c0 + 16), .int (hb t q), ev_dead, ev_dead] [] σ64 τ64 _
        exact Rx.ret rfl rfl (rQ_t (show sIt t q = (true, q + 1, [t.getD q 0]) from (if_neg c1).trans ((if_neg (fun h => c13 (i32_31.mpr h))).trans (if_neg (fun h => c14 (i32_12.mpr h))))) hS64)
