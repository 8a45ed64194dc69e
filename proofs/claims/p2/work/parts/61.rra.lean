/-! The reference reads blanks. (rows laid by wip/whole/rr1.py) -/
set_option maxRecDepth 100000 in
set_option maxHeartbeats 2000000 in
theorem rr_bk_l {X : ev_X} {c0 : Nat} {σ0 : Nat → Int32} {τ0 : Nat → Nat → Int32} {t : List Nat} : ∀ (m q : Nat) (acc : List Nat) (σ : Nat → Int32) (τ : Nat → Nat → Int32) (hm : q + m = t.length) (ha : acc.length ≤ 60) (hS : RS σ0 τ0 t q ([95, 58] ++ acc) 1 0 acc.length σ τ), Rx X c0 m_Mod_readBlank 67 [.ref (c0 + 16)] [] σ τ (rQ σ0 τ0 t (sB t m q acc) (fun q b σ' τ' => RS σ0 τ0 t q ([95, 58] ++ b) 1 0 b.length σ' τ')) := by
  intro m
  induction m with
  | zero =>
    intro q acc σ τ hm ha hS
    have hl := hS.z.tl
    refine Rx.go (fun _ => rfl) ?_
    refine Rx.callE rfl rfl rfl rfl (rz_good hS.z) ?_
    show Rx X c0 m_Mod_readBlank 71 [.ref (c0 + 16)] [.int 1] σ τ _
    refine Rx.go (fun _ => rfl) ?_
    show Rx X c0 m_Mod_readBlank 74 [.ref (c0 + 16)] [] σ τ _
    refine Rx.go (fun _ => rfl) ?_
    refine Rx.callE rfl rfl rfl rfl (rz_here hS.z) ?_
    show Rx X c0 m_Mod_readBlank 78 [.ref (c0 + 16)] [.int (hb t q)] σ τ _
    refine Rx.scallE rfl rfl rfl rfl (sx_Mod_isW X (hb t q)) ?_
    show Rx X c0 m_Mod_readBlank 81 [.ref (c0 + 16)] [.int (bi (isW (hb t q)))] σ τ _
    refine Rx.go (fun _ => rfl) ?_
    refine Rx.ite (fun c1 => ?_) (fun c1 => ?_)
    · replace c1 : (isW (hb t q)) = false := bi_eqt c1
      show Rx X c0 m_Mod_readBlank 133 [.ref (c0 + 16)] [] σ τ _
      exact Rx.ret rfl rfl (rQ_t (b := acc) rfl hS)
    · replace c1 : (isW (hb t q)) = true := bi_eqf c1
      exact absurd c1 (by rw [hb_ge (show ¬ q < t.length by omega)]; decide)
  | succ m ih =>
    intro q acc σ τ hm ha hS
    have hl := hS.z.tl
    refine Rx.go (fun _ => rfl) ?_
    refine Rx.callE rfl rfl rfl rfl (rz_good hS.z) ?_
    show Rx X c0 m_Mod_readBlank 71 [.ref (c0 + 16)] [.int 1] σ τ _
    refine Rx.go (fun _ => rfl) ?_
    show Rx X c0 m_Mod_readBlank 74 [.ref (c0 + 16)] [] σ τ _
    refine Rx.go (fun _ => rfl) ?_
    refine Rx.callE rfl rfl rfl rfl (rz_here hS.z) ?_
    show Rx X c0 m_Mod_readBlank 78 [.ref (c0 + 16)] [.int (hb t q)] σ τ _
    refine Rx.scallE rfl rfl rfl rfl (sx_Mod_isW X (hb t q)) ?_
    show Rx X c0 m_Mod_readBlank 81 [.ref (c0 + 16)] [.int (bi (isW (hb t q)))] σ τ _
    refine Rx.go (fun _ => rfl) ?_
    refine Rx.ite (fun c1 => ?_) (fun c1 => ?_)
    · replace c1 : (isW (hb t q)) = false := bi_eqt c1
      show Rx X c0 m_Mod_readBlank 133 [.ref (c0 + 16)] [] σ τ _
      exact Rx.ret rfl rfl (rQ_t (show sB t (m + 1) q acc = (true, q, acc) from if_neg (by rw [c1]; decide)) hS)
    · replace c1 : (isW (hb t q)) = true := bi_eqf c1
      show Rx X c0 m_Mod_readBlank 84 [.ref (c0 + 16)] [] σ τ _
      refine Rx.go (fun _ => rfl) ?_
      refine Rx.get rfl rfl ?_
      refine Rx.top (y := nI acc.length) hS.f13 ?_
      refine Rx.go (fun _ => rfl) ?_
      refine Rx.go (fun _ => rfl) ?_
      refine Rx.ite (fun c2 => ?_) (fun c2 => ?_)
      · replace c2 : ¬ (nI acc.length) = 60 := of_decide_eq_true c2
        show Rx X c0 m_Mod_readBlank 102 [.ref (c0 + 16)] [] σ τ _
        refine Rx.go (fun _ => rfl) ?_
        refine Rx.go (fun _ => rfl) ?_
        refine Rx.callE rfl rfl rfl rfl (rz_here hS.z) ?_
        show Rx X c0 m_Mod_readBlank 107 [.ref (c0 + 16)] [.int (hb t q), .ref (c0 + 16)] σ τ _
        refine Rx.top (y := nI (t.getD q 0)) (hb_lt (by omega)) ?_
        refine Rx.callP rfl rfl rfl rfl (rs_put (t.getD q 0) hS (by first | omega | (simp only [List.length_append, List.length_cons, List.length_nil]; omega))) ?_
        intro σ1 τ1 hS1
        show Rx X c0 m_Mod_readBlank 110 [.ref (c0 + 16)] [] σ1 τ1 _
        refine Rx.go (fun _ => rfl) ?_
        refine Rx.go (fun _ => rfl) ?_
        refine Rx.get rfl rfl ?_
        refine Rx.top (y := nI acc.length) hS1.f13 ?_
        refine Rx.go (fun _ => rfl) ?_
        refine Rx.go (fun _ => rfl) ?_
        refine Rx.top (y := nI (acc.length + 1)) (nI_1 _) ?_
        refine Rx.put rfl (by decide) rfl rfl ?_
        have hS2 := hS1.db1 (x := (acc.length + 1))
        refine Rx.go (fun _ => rfl) ?_
        refine Rx.go (fun _ => rfl) ?_
        refine Rx.get rfl rfl ?_
        refine Rx.top (y := nI q) hS2.f16 ?_
        refine Rx.go (fun _ => rfl) ?_
        refine Rx.go (fun _ => rfl) ?_
        refine Rx.top (y := nI (q + 1)) (nI_1 _) ?_
        refine Rx.put rfl (by decide) rfl rfl ?_
        have hS3 := hS2.at1 (by omega)
        refine Rx.go (fun _ => rfl) ?_
        show Rx X c0 m_Mod_readBlank 67 [.ref (c0 + 16)] [] (upd (upd σ1 13 (nI (acc.length + 1))) 16 (nI (q + 1))) τ1 _
        rw [show sB t (m + 1) q acc = sB t m (q + 1) (acc ++ [t.getD q 0]) from (if_pos c1).trans (if_neg (fun e => c2 (by rw [e]; rfl)))]
        exact ih (q + 1) (acc ++ [t.getD q 0]) _ _ (by omega) (by have : acc.length ≠ 60 := fun e => c2 (by rw [e]; rfl); simp only [List.length_append, List.length_cons, List.length_nil]; omega) (by rw [← List.append_assoc, List.length_append]; exact hS3)
      · replace c2 : (nI acc.length) = 60 := Classical.not_not.mp (of_decide_eq_false c2)
        show Rx X c0 m_Mod_readBlank 93 [.ref (c0 + 16)] [] σ τ _
        refine Rx.go (fun _ => rfl) ?_
        refine Rx.go (fun _ => rfl) ?_
        refine Rx.go (fun _ => rfl) ?_
        refine Rx.get rfl rfl ?_
        refine Rx.top (y := nI q) hS.f16 ?_
        refine Rx.callP rfl rfl rfl rfl (rs_fl (wn := q) hS (by decide) rfl) ?_
        intro σ4 τ4 hS4
        show Rx X c0 m_Mod_readBlank 102 [.ref (c0 + 16)] [] σ4 τ4 _
        refine Rx.go (fun _ => rfl) ?_
        refine Rx.go (fun _ => rfl) ?_
        refine Rx.callE rfl rfl rfl rfl (rg_here hS4 (by omega)) ?_
        show Rx X c0 m_Mod_readBlank 107 [.ref (c0 + 16)] [.int (rhere σ4 τ4), .ref (c0 + 16)] σ4 τ4 _
        refine Rx.callP rfl rfl rfl rfl (rg_put _ hS4 (by first | omega | (simp only [List.length_append, List.length_cons, List.length_nil]; omega))) ?_
        intro σ5 τ5 hS5
        show Rx X c0 m_Mod_readBlank 110 [.ref (c0 + 16)] [] σ5 τ5 _
        refine Rx.go (fun _ => rfl) ?_
        refine Rx.go (fun _ => rfl) ?_
        refine Rx.get rfl rfl ?_
        refine Rx.go (fun _ => rfl) ?_
        refine Rx.go (fun _ => rfl) ?_
        refine Rx.put rfl (by decide) rfl rfl ?_
        have hS6 := hS5.up (i := 13) (x := (σ5 13) + 1) (by omega)
        refine Rx.go (fun _ => rfl) ?_
        refine Rx.go (fun _ => rfl) ?_
        refine Rx.get rfl rfl ?_
        refine Rx.go (fun _ => rfl) ?_
        refine Rx.go (fun _ => rfl) ?_
        refine Rx.put rfl (by decide) rfl rfl ?_
        have hS7 := hS6.at1
        refine Rx.go (fun _ => rfl) ?_
        refine Rx.go (fun _ => rfl) ?_
        refine Rx.callE rfl rfl rfl rfl (rg_good hS7) ?_
        show Rx X c0 m_Mod_readBlank 71 [.ref (c0 + 16)] [.int 0] (upd (upd σ5 13 ((σ5 13) + 1)) 16 (((upd σ5 13 ((σ5 13) + 1)) 16) + 1)) τ5 _
        refine Rx.go (fun _ => rfl) ?_
        show Rx X c0 m_Mod_readBlank 133 [.ref (c0 + 16)] [] (upd (upd σ5 13 ((σ5 13) + 1)) 16 (((upd σ5 13 ((σ5 13) + 1)) 16) + 1)) τ5 _
        exact Rx.ret rfl rfl (rQ_f (b := acc) (show sB t (m + 1) q acc = (false, q, acc) from (if_pos c1).trans (if_pos ((nI_eq (b := 60) (by omega) (by decide)).mp c2))) hS7 (by simp only [List.length_append, List.length_cons, List.length_nil]; omega) (by omega))
theorem sBk_2 {t : List Nat} (c1 : hb t 1 = 58) (c2 : isW (hb t 2) = false) : sBk t = (false, 2, []) := by
  have h1 := hb_in (t := t) (q := 1) (by rw [c1]; decide)
  unfold sBk
  rw [if_pos c1]
  have e : sB t (t.length - 2) 2 [] = (true, 2, []) := by
    cases h : t.length - 2 with
    | zero => rfl
    | succ m => exact if_neg (by rw [c2]; decide)
  rw [e]; rfl
theorem sB_gt (t : List Nat) : ∀ (m q : Nat) (acc : List Nat), 2 < q → 2 < (sB t m q acc).2.1 := by
  intro m
  induction m with
  | zero => intro q acc h; exact h
  | succ m ih =>
    intro q acc h
    rw [sB]
    repeat' split
    all_goals first | exact h | exact ih _ _ (by omega)
theorem sBk_1 {t : List Nat} (c1 : hb t 1 = 58) (c2 : isW (hb t 2) = true) : sBk t = sB t (t.length - 2) 2 [] := by
  have h1 := hb_in (t := t) (q := 2) (fun e => by rw [e] at c2; exact absurd c2 (by decide))
  unfold sBk
  rw [if_pos c1]
  unfold bkF
  rw [if_neg]
  rintro ⟨-, h⟩
  obtain ⟨m, hm⟩ : ∃ m, t.length - 2 = m + 1 := ⟨t.length - 3, by omega⟩
  rw [hm, show sB t (m + 1) 2 [] = sB t m 3 [t.getD 2 0] from (if_pos c2).trans (if_neg (by decide))] at h
  have := sB_gt t m 3 [t.getD 2 0] (by decide)
  omega
set_option maxRecDepth 100000 in
set_option maxHeartbeats 2000000 in
theorem rr_blank {X : ev_X} {c0 : Nat} {σ0 : Nat → Int32} {τ0 : Nat → Nat → Int32} {t : List Nat} {σ : Nat → Int32} {τ : Nat → Nat → Int32} (h0 : 0 < t.length) (hS : RZ σ0 τ0 t 0 σ τ) : Rx X c0 m_Mod_readBlank 0 [.ref (c0 + 16)] [] σ τ (rQ σ0 τ0 t (sBk t) (fun q b σ' τ' => RS σ0 τ0 t q ([95, 58] ++ b) 1 0 b.length σ' τ')) := by
  have hl := hS.tl
  refine Rx.go (fun _ => rfl) ?_
  refine Rx.go (fun _ => rfl) ?_
  refine Rx.callP rfl rfl rfl rfl (rz_begin 1 hS) ?_
  intro σ8 τ8 hS8
  show Rx X c0 m_Mod_readBlank 5 [.ref (c0 + 16)] [] σ8 τ8 _
  refine Rx.go (fun _ => rfl) ?_
  refine Rx.go (fun _ => rfl) ?_
  refine Rx.get rfl rfl ?_
  refine Rx.top (y := nI 0) hS8.f16 ?_
  refine Rx.go (fun _ => rfl) ?_
  refine Rx.go (fun _ => rfl) ?_
  refine Rx.top (y := nI (0 + 1)) (nI_1 0) ?_
  refine Rx.put rfl (by decide) rfl rfl ?_
  have hS9 := hS8.at1 h0
  refine Rx.go (fun _ => rfl) ?_
  refine Rx.go (fun _ => rfl) ?_
  refine Rx.callE rfl rfl rfl rfl (rz_here hS9.z) ?_
  show Rx X c0 m_Mod_readBlank 20 [.ref (c0 + 16)] [.int (hb t (0 + 1)), .ref (c0 + 16)] (upd σ8 16 (nI (0 + 1))) τ8 _
  refine Rx.go (fun _ => rfl) ?_
  refine Rx.go (fun _ => rfl) ?_
  refine Rx.ite (fun c1 => ?_) (fun c1 => ?_)
  · replace c1 : ¬ (hb t (0 + 1)) = 58 := of_decide_eq_true c1
    show Rx X c0 m_Mod_readBlank 29 [.ref (c0 + 16)] [.ref (c0 + 16)] (upd σ8 16 (nI (0 + 1))) τ8 _
    refine Rx.go (fun _ => rfl) ?_
    refine Rx.callP rfl rfl rfl rfl (rs_ov_f false hS9 (fun h => Bool.false_ne_true h.2)) ?_
    intro σ10 τ10 hS10
    show Rx X c0 m_Mod_readBlank 33 [.ref (c0 + 16)] [] σ10 τ10 _
    refine Rx.go (fun _ => rfl) ?_
    refine Rx.go (fun _ => rfl) ?_
    refine Rx.callP rfl rfl rfl rfl (rg_put _ hS10 (by first | omega | (simp only [List.length_append, List.length_cons, List.length_nil]; omega))) ?_
    intro σ11 τ11 hS11
    show Rx X c0 m_Mod_readBlank 39 [.ref (c0 + 16)] [] σ11 τ11 _
    refine Rx.go (fun _ => rfl) ?_
    refine Rx.go (fun _ => rfl) ?_
    refine Rx.callP rfl rfl rfl rfl (rg_put _ hS11 (by first | omega | (simp only [List.length_append, List.length_cons, List.length_nil]; omega))) ?_
    intro σ12 τ12 hS12
    show Rx X c0 m_Mod_readBlank 45 [.ref (c0 + 16)] [] σ12 τ12 _
    refine Rx.go (fun _ => rfl) ?_
    refine Rx.callE rfl rfl rfl rfl (rg_good hS12) ?_
    show Rx X c0 m_Mod_readBlank 49 [.ref (c0 + 16)] [.int 0] σ12 τ12 _
    refine Rx.go (fun _ => rfl) ?_
    show Rx X c0 m_Mod_readBlank 67 [.ref (c0 + 16)] [] σ12 τ12 _
    refine Rx.go (fun _ => rfl) ?_
    refine Rx.callE rfl rfl rfl rfl (rg_good hS12) ?_
    show Rx X c0 m_Mod_readBlank 71 [.ref (c0 + 16)] [.int 0] σ12 τ12 _
    refine Rx.go (fun _ => rfl) ?_
    show Rx X c0 m_Mod_readBlank 133 [.ref (c0 + 16)] [] σ12 τ12 _
    exact Rx.ret rfl rfl (rQ_f (b := []) (show sBk t = (false, 1, []) from if_neg c1) hS12 (by simp) (by omega))
  · replace c1 : (hb t (0 + 1)) = 58 := Classical.not_not.mp (of_decide_eq_false c1)
    show Rx X c0 m_Mod_readBlank 25 [.ref (c0 + 16)] [.ref (c0 + 16)] (upd σ8 16 (nI (0 + 1))) τ8 _
    refine Rx.go (fun _ => rfl) ?_
    refine Rx.go (fun _ => rfl) ?_
    refine Rx.callP rfl rfl rfl rfl (rs_ov_t hS9 (hb_in (by rw [c1]; decide))) ?_
    intro σ13 τ13 hS13
    show Rx X c0 m_Mod_readBlank 33 [.ref (c0 + 16)] [] σ13 τ13 _
    refine Rx.go (fun _ => rfl) ?_
    refine Rx.go (fun _ => rfl) ?_
    refine Rx.callP rfl rfl rfl rfl (rs_put 95 hS13 (by first | omega | (simp only [List.length_append, List.length_cons, List.length_nil]; omega))) ?_
    intro σ14 τ14 hS14
    show Rx X c0 m_Mod_readBlank 39 [.ref (c0 + 16)] [] σ14 τ14 _
    refine Rx.go (fun _ => rfl) ?_
    refine Rx.go (fun _ => rfl) ?_
    refine Rx.callP rfl rfl rfl rfl (rs_put 58 hS14 (by first | omega | (simp only [List.length_append, List.length_cons, List.length_nil]; omega))) ?_
    intro σ15 τ15 hS15
    show Rx X c0 m_Mod_readBlank 45 [.ref (c0 + 16)] [] σ15 τ15 _
    refine Rx.go (fun _ => rfl) ?_
    refine Rx.callE rfl rfl rfl rfl (rz_good hS15.z) ?_
    show Rx X c0 m_Mod_readBlank 49 [.ref (c0 + 16)] [.int 1] σ15 τ15 _
    refine Rx.go (fun _ => rfl) ?_
    show Rx X c0 m_Mod_readBlank 52 [.ref (c0 + 16)] [] σ15 τ15 _
    refine Rx.go (fun _ => rfl) ?_
    refine Rx.callE rfl rfl rfl rfl (rz_here hS15.z) ?_
    show Rx X c0 m_Mod_readBlank 56 [.ref (c0 + 16)] [.int (hb t ((0 + 1) + 1))] σ15 τ15 _
    refine Rx.scallE rfl rfl rfl rfl (sx_Mod_isW X (hb t ((0 + 1) + 1))) ?_
    show Rx X c0 m_Mod_readBlank 59 [.ref (c0 + 16)] [.int (bi (isW (hb t ((0 + 1) + 1))))] σ15 τ15 _
    refine Rx.go (fun _ => rfl) ?_
    refine Rx.ite (fun c2 => ?_) (fun c2 => ?_)
    · replace c2 : (isW (hb t ((0 + 1) + 1))) = true := bi_net c2
      show Rx X c0 m_Mod_readBlank 67 [.ref (c0 + 16)] [] σ15 τ15 _
      show Rx X c0 m_Mod_readBlank 67 [.ref (c0 + 16)] [] σ15 τ15 _
      rw [sBk_1 c1 c2]
      have h1 := hb_in (t := t) (q := 2) (fun e => by rw [e] at c2; exact absurd c2 (by decide))
      exact rr_bk_l (t.length - 2) 2 [] _ _ (by omega) (by decide) hS15
    · replace c2 : (isW (hb t ((0 + 1) + 1))) = false := bi_nef c2
      show Rx X c0 m_Mod_readBlank 62 [.ref (c0 + 16)] [] σ15 τ15 _
      refine Rx.go (fun _ => rfl) ?_
      refine Rx.go (fun _ => rfl) ?_
      refine Rx.callP rfl rfl rfl rfl (rs_ov_f false hS15 (fun h => Bool.false_ne_true h.2)) ?_
      intro σ16 τ16 hS16
      show Rx X c0 m_Mod_readBlank 67 [.ref (c0 + 16)] [] σ16 τ16 _
      refine Rx.go (fun _ => rfl) ?_
      refine Rx.callE rfl rfl rfl rfl (rg_good hS16) ?_
      show Rx X c0 m_Mod_readBlank 71 [.ref (c0 + 16)] [.int 0] σ16 τ16 _
      refine Rx.go (fun _ => rfl) ?_
      show Rx X c0 m_Mod_readBlank 133 [.ref (c0 + 16)] [] σ16 τ16 _
      exact Rx.ret rfl rfl (rQ_f (b := []) (sBk_2 c1 c2) hS16 (by simp) (by omega))
