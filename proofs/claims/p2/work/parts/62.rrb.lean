/-! The reference reads names. (rows laid by wip/whole/rr2.py) -/
theorem rs_ov_b {X : ev_X} {c0 : Nat} {σ0 σ : Nat → Int32} {τ0 τ : Nat → Nat → Int32} {t d : List Nat} {p k q db : Nat} {g : Bool} (hg : g = true) (h : RS σ0 τ0 t p d k q db σ τ) (hp : p < t.length) : Rx X c0 m_Mod_over 0 [.ref (c0 + 16), .int (bi g)] [] σ τ (fun r σ' τ' => r = none ∧ RS σ0 τ0 t (p + 1) d k q db σ' τ') := by
  subst hg
  exact rs_ov_t h hp
theorem nI_m : nI 4294967295 = -1 := by decide
theorem hb_put (t : List Nat) (q : Nat) : hb t q = nI (if q < t.length then t.getD q 0 else 4294967295) := by
  unfold hb
  split
  · rfl
  · exact nI_m.symm
theorem sNm_b {t : List Nat} {m q : Nat} {acc : List Nat} (hm : q + m = t.length) (c1 : ¬ (hb t q = 62 ∧ acc.length ≠ 0)) (c3 : q < t.length → ¬ acc.length = 60) (hg : ¬ (q < t.length ∧ isNB (hb t q) = true)) : sNm t m q acc = (false, q, acc) := by
  cases m with
  | zero => rw [sNm, show t.length = q by omega]
  | succ m =>
    have hq : q < t.length := by omega
    exact (if_neg c1).trans ((if_neg (c3 hq)).trans (if_neg (fun e => hg ⟨hq, e⟩)))
theorem sNm_l (t : List Nat) : ∀ (m q : Nat) (acc : List Nat), acc.length ≤ 60 → (sNm t m q acc).2.2.length ≤ 60 := by
  intro m
  induction m with
  | zero => intro q acc h; exact h
  | succ m ih =>
    intro q acc h
    rw [sNm]
    repeat' split
    all_goals first | exact h | (exact ih _ _ (by simp only [List.length_append, List.length_cons, List.length_nil]; omega))
theorem nm60 {t : List Nat} {m q : Nat} {acc : List Nat} (hm : q + m = t.length) (c1 : ¬ hb t q = 62) (e : acc.length = 60) (hlt : q < t.length) : sNm t m q acc = (false, q, acc) := by
  obtain ⟨m', rfl⟩ : ∃ m', m = m' + 1 := ⟨m - 1, by omega⟩
  exact (if_neg (fun h => c1 h.1)).trans (if_pos e)
theorem nm62 {t : List Nat} {m q : Nat} {acc : List Nat} (hm : q + m = t.length) (c1 : hb t q = 62) (hf : acc = [] → isNB (hb t q) = true) : sNm t m q acc = (true, q + 1, acc) := by
  have hlt := hb_in (t := t) (q := q) (by rw [c1]; decide)
  obtain ⟨m', rfl⟩ : ∃ m', m = m' + 1 := ⟨m - 1, by omega⟩
  refine if_pos ⟨c1, fun e => ?_⟩
  have := hf (List.length_eq_zero_iff.mp e)
  rw [c1] at this
  exact absurd this (by decide)
set_option maxRecDepth 100000 in
set_option maxHeartbeats 2000000 in
theorem rr_nm_l {X : ev_X} {c0 : Nat} {σ0 : Nat → Int32} {τ0 : Nat → Nat → Int32} {t : List Nat} {d0 : List Nat} {k qq db : Nat} (hd0 : d0.length ≤ 150) (hdb : db ≤ 1000) : ∀ (m q : Nat) (acc : List Nat) (σ : Nat → Int32) (τ : Nat → Nat → Int32) (hm : q + m = t.length) (ha : acc.length ≤ 60) (hf : acc = [] → isNB (hb t q) = true) (hS : RS σ0 τ0 t q (d0 ++ [60] ++ acc) k qq db σ τ), Rx X c0 m_Mod_readName 48 [.ref (c0 + 16), .int (nI acc.length)] [] σ τ (rQ σ0 τ0 t (sNm t m q acc) (fun q b σ' τ' => RS σ0 τ0 t q (d0 ++ [60] ++ b ++ [62]) k qq (db + b.length) σ' τ')) := by
  intro m
  induction m using Nat.strongRecOn with
  | ind m ih =>
  intro q acc σ τ hm ha hf hS
  have hl := hS.z.tl
  refine Rx.go (fun _ => rfl) ?_
  refine Rx.callE rfl rfl rfl rfl (rz_good hS.z) ?_
  show Rx X c0 m_Mod_readName 52 [.ref (c0 + 16), .int (nI acc.length)] [.int 1] σ τ _
  refine Rx.go (fun _ => rfl) ?_
  show Rx X c0 m_Mod_readName 55 [.ref (c0 + 16), .int (nI acc.length)] [] σ τ _
  refine Rx.go (fun _ => rfl) ?_
  refine Rx.callE rfl rfl rfl rfl (rz_here hS.z) ?_
  show Rx X c0 m_Mod_readName 59 [.ref (c0 + 16), .int (nI acc.length)] [.int (hb t q)] σ τ _
  refine Rx.go (fun _ => rfl) ?_
  refine Rx.go (fun _ => rfl) ?_
  refine Rx.ite (fun c1 => ?_) (fun c1 => ?_)
  · replace c1 : (hb t q) = 62 := of_decide_eq_true c1
    show Rx X c0 m_Mod_readName 115 [.ref (c0 + 16), .int (nI acc.length)] [] σ τ _
    refine Rx.go (fun _ => rfl) ?_
    refine Rx.callE rfl rfl rfl rfl (rz_good hS.z) ?_
    show Rx X c0 m_Mod_readName 119 [.ref (c0 + 16), .int (nI acc.length)] [.int 1] σ τ _
    refine Rx.go (fun _ => rfl) ?_
    show Rx X c0 m_Mod_readName 123 [.ref (c0 + 16), .int (nI acc.length)] [] σ τ _
    refine Rx.go (fun _ => rfl) ?_
    refine Rx.go (fun _ => rfl) ?_
    refine Rx.get rfl rfl ?_
    refine Rx.top (y := nI q) hS.f16 ?_
    refine Rx.go (fun _ => rfl) ?_
    refine Rx.go (fun _ => rfl) ?_
    refine Rx.top (y := nI (q + 1)) (nI_1 _) ?_
    refine Rx.put rfl (by decide) rfl rfl ?_
    have hS17 := hS.at1 (hb_in (by rw [c1]; decide))
    refine Rx.go (fun _ => rfl) ?_
    refine Rx.go (fun _ => rfl) ?_
    refine Rx.callP rfl rfl rfl rfl (rs_put 62 hS17 (by first | omega | (simp only [List.length_append, List.length_cons, List.length_nil]; omega))) ?_
    intro σ18 τ18 hS18
    show Rx X c0 m_Mod_readName 139 [.ref (c0 + 16), .int (nI acc.length)] [] σ18 τ18 _
    refine Rx.go (fun _ => rfl) ?_
    refine Rx.go (fun _ => rfl) ?_
    refine Rx.get rfl rfl ?_
    refine Rx.top (y := nI db) hS18.f13 ?_
    refine Rx.go (fun _ => rfl) ?_
    refine Rx.go (fun _ => rfl) ?_
    refine Rx.top (y := nI (db + acc.length)) (nI_add _ _) ?_
    refine Rx.put rfl (by decide) rfl rfl ?_
    have hS19 := hS18.db1 (x := (db + acc.length))
    exact Rx.ret rfl rfl (rQ_t (nm62 hm c1 hf) (by rw [show d0 ++ [60] ++ acc ++ [62] = d0 ++ [60] ++ acc ++ [62] from rfl]; exact hS19))
  · replace c1 : ¬ (hb t q) = 62 := of_decide_eq_false c1
    show Rx X c0 m_Mod_readName 64 [.ref (c0 + 16), .int (nI acc.length)] [] σ τ _
    refine Rx.go (fun _ => rfl) ?_
    refine Rx.get rfl rfl ?_
    refine Rx.top (y := nI q) hS.f16 ?_
    refine Rx.go (fun _ => rfl) ?_
    refine Rx.get rfl rfl ?_
    refine Rx.top (y := nI t.length) hS.f17 ?_
    refine Rx.go (fun _ => rfl) ?_
    refine Rx.ite (fun c2 => ?_) (fun c2 => ?_)
    · replace c2 : (nI t.length) ≤ (nI q) := of_decide_eq_true c2
      have hge : t.length ≤ q := (nI_leI (by omega) (by omega)).mp c2
      show Rx X c0 m_Mod_readName 90 [.ref (c0 + 16), .int (nI acc.length)] [] σ τ _
      refine Rx.go (fun _ => rfl) ?_
      refine Rx.go (fun _ => rfl) ?_
      refine Rx.callE rfl rfl rfl rfl (rz_here hS.z) ?_
      show Rx X c0 m_Mod_readName 95 [.ref (c0 + 16), .int (nI acc.length)] [.int (hb t q), .ref (c0 + 16)] σ τ _
      refine Rx.top (y := nI (if q < t.length then t.getD q 0 else 4294967295)) (hb_put t q) ?_
      refine Rx.callP rfl rfl rfl rfl (rs_put (if q < t.length then t.getD q 0 else 4294967295) hS (by first | omega | (simp only [List.length_append, List.length_cons, List.length_nil]; omega))) ?_
      intro σ20 τ20 hS20
      show Rx X c0 m_Mod_readName 98 [.ref (c0 + 16), .int (nI acc.length)] [] σ20 τ20 _
      refine Rx.go (fun _ => rfl) ?_
      refine Rx.go (fun _ => rfl) ?_
      refine Rx.callE rfl rfl rfl rfl (rz_here hS20.z) ?_
      show Rx X c0 m_Mod_readName 103 [.ref (c0 + 16), .int (nI acc.length)] [.int (hb t q), .ref (c0 + 16)] σ20 τ20 _
      refine Rx.scallE rfl rfl rfl rfl (sx_Mod_isNB X (hb t q)) ?_
      show Rx X c0 m_Mod_readName 106 [.ref (c0 + 16), .int (nI acc.length)] [.int (bi (isNB (hb t q))), .ref (c0 + 16)] σ20 τ20 _
      by_cases hg : q < t.length ∧ isNB (hb t q) = true
      · refine Rx.callP rfl rfl rfl rfl (rs_ov_b (g := isNB (hb t q)) hg.2 hS20 hg.1) ?_
        intro σ21 τ21 hS21
        show Rx X c0 m_Mod_readName 109 [.ref (c0 + 16), .int (nI acc.length)] [] σ21 τ21 _
        refine Rx.go (fun _ => rfl) ?_
        show Rx X c0 m_Mod_readName 112 [.ref (c0 + 16), .int ((nI acc.length) + 1)] [] σ21 τ21 _
        refine Rx.go (fun _ => rfl) ?_
        show Rx X c0 m_Mod_readName 48 [.ref (c0 + 16), .int ((nI acc.length) + 1)] [] σ21 τ21 _
        exact absurd hg.1 (by omega)
      refine Rx.callP rfl rfl rfl rfl (rs_ov_f (isNB (hb t q)) hS20 hg) ?_
      intro σ22 τ22 hS22
      show Rx X c0 m_Mod_readName 109 [.ref (c0 + 16), .int (nI acc.length)] [] σ22 τ22 _
      refine Rx.go (fun _ => rfl) ?_
      show Rx X c0 m_Mod_readName 112 [.ref (c0 + 16), .int ((nI acc.length) + 1)] [] σ22 τ22 _
      refine Rx.go (fun _ => rfl) ?_
      refine Rx.go (fun _ => rfl) ?_
      refine Rx.callE rfl rfl rfl rfl (rg_good hS22) ?_
      show Rx X c0 m_Mod_readName 52 [.ref (c0 + 16), .int ((nI acc.length) + 1)] [.int 0] σ22 τ22 _
      refine Rx.go (fun _ => rfl) ?_
      show Rx X c0 m_Mod_readName 115 [.ref (c0 + 16), .int ((nI acc.length) + 1)] [] σ22 τ22 _
      refine Rx.go (fun _ => rfl) ?_
      refine Rx.callE rfl rfl rfl rfl (rg_good hS22) ?_
      show Rx X c0 m_Mod_readName 119 [.ref (c0 + 16), .int ((nI acc.length) + 1)] [.int 0] σ22 τ22 _
      refine Rx.go (fun _ => rfl) ?_
      show Rx X c0 m_Mod_readName 122 [.ref (c0 + 16), .int ((nI acc.length) + 1)] [] σ22 τ22 _
      exact Rx.ret rfl rfl (rQ_f (b := acc) (sNm_b hm (fun h => c1 h.1) (fun hq => absurd hq (by omega)) hg) hS22 (by simp only [List.length_append, List.length_cons, List.length_nil]; omega) (by omega))
    · replace c2 : ¬ (nI t.length) ≤ (nI q) := of_decide_eq_false c2
      have hlt : q < t.length := Nat.lt_of_not_le (fun e => c2 ((nI_leI (by omega) (by omega)).mpr e))
      show Rx X c0 m_Mod_readName 75 [.ref (c0 + 16), .int (nI acc.length)] [] σ τ _
      refine Rx.go (fun _ => rfl) ?_
      refine Rx.go (fun _ => rfl) ?_
      refine Rx.go (fun _ => rfl) ?_
      refine Rx.ite (fun c3 => ?_) (fun c3 => ?_)
      · replace c3 : ¬ (nI acc.length) = 60 := of_decide_eq_true c3
        show Rx X c0 m_Mod_readName 90 [.ref (c0 + 16), .int (nI acc.length)] [] σ τ _
        refine Rx.go (fun _ => rfl) ?_
        refine Rx.go (fun _ => rfl) ?_
        refine Rx.callE rfl rfl rfl rfl (rz_here hS.z) ?_
        show Rx X c0 m_Mod_readName 95 [.ref (c0 + 16), .int (nI acc.length)] [.int (hb t q), .ref (c0 + 16)] σ τ _
        refine Rx.top (y := nI (if q < t.length then t.getD q 0 else 4294967295)) (hb_put t q) ?_
        refine Rx.callP rfl rfl rfl rfl (rs_put (if q < t.length then t.getD q 0 else 4294967295) hS (by first | omega | (simp only [List.length_append, List.length_cons, List.length_nil]; omega))) ?_
        intro σ23 τ23 hS23
        show Rx X c0 m_Mod_readName 98 [.ref (c0 + 16), .int (nI acc.length)] [] σ23 τ23 _
        refine Rx.go (fun _ => rfl) ?_
        refine Rx.go (fun _ => rfl) ?_
        refine Rx.callE rfl rfl rfl rfl (rz_here hS23.z) ?_
        show Rx X c0 m_Mod_readName 103 [.ref (c0 + 16), .int (nI acc.length)] [.int (hb t q), .ref (c0 + 16)] σ23 τ23 _
        refine Rx.scallE rfl rfl rfl rfl (sx_Mod_isNB X (hb t q)) ?_
        show Rx X c0 m_Mod_readName 106 [.ref (c0 + 16), .int (nI acc.length)] [.int (bi (isNB (hb t q))), .ref (c0 + 16)] σ23 τ23 _
        by_cases hg : q < t.length ∧ isNB (hb t q) = true
        · refine Rx.callP rfl rfl rfl rfl (rs_ov_b (g := isNB (hb t q)) hg.2 hS23 hg.1) ?_
          intro σ24 τ24 hS24
          show Rx X c0 m_Mod_readName 109 [.ref (c0 + 16), .int (nI acc.length)] [] σ24 τ24 _
          refine Rx.go (fun _ => rfl) ?_
          show Rx X c0 m_Mod_readName 112 [.ref (c0 + 16), .int ((nI acc.length) + 1)] [] σ24 τ24 _
          refine Rx.go (fun _ => rfl) ?_
          show Rx X c0 m_Mod_readName 48 [.ref (c0 + 16), .int ((nI acc.length) + 1)] [] σ24 τ24 _
          have e1 : (if q < t.length then t.getD q 0 else 4294967295) = t.getD q 0 := if_pos hg.1
          rw [e1] at hS24
          obtain ⟨m1, rfl⟩ : ∃ m1, m = m1 + 1 := ⟨m - 1, by omega⟩
          rw [show nI acc.length + 1 = nI (acc ++ [t.getD q 0]).length by rw [nI_1, List.length_append]; rfl, show sNm t (m1 + 1) q acc = sNm t m1 (q + 1) (acc ++ [t.getD q 0]) from (if_neg (fun h => c1 h.1)).trans ((if_neg (fun e => c3 (by rw [e]; rfl))).trans (if_pos hg.2))]
          exact ih m1 (by omega) (q + 1) (acc ++ [t.getD q 0]) _ _ (by omega) (by have : acc.length ≠ 60 := fun e => c3 (by rw [e]; rfl); simp only [List.length_append, List.length_cons, List.length_nil]; omega) (fun e => absurd e (by simp)) (by rw [← List.append_assoc]; exact hS24)
        refine Rx.callP rfl rfl rfl rfl (rs_ov_f (isNB (hb t q)) hS23 hg) ?_
        intro σ25 τ25 hS25
        show Rx X c0 m_Mod_readName 109 [.ref (c0 + 16), .int (nI acc.length)] [] σ25 τ25 _
        refine Rx.go (fun _ => rfl) ?_
        show Rx X c0 m_Mod_readName 112 [.ref (c0 + 16), .int ((nI acc.length) + 1)] [] σ25 τ25 _
        refine Rx.go (fun _ => rfl) ?_
        refine Rx.go (fun _ => rfl) ?_
        refine Rx.callE rfl rfl rfl rfl (rg_good hS25) ?_
        show Rx X c0 m_Mod_readName 52 [.ref (c0 + 16), .int ((nI acc.length) + 1)] [.int 0] σ25 τ25 _
        refine Rx.go (fun _ => rfl) ?_
        show Rx X c0 m_Mod_readName 115 [.ref (c0 + 16), .int ((nI acc.length) + 1)] [] σ25 τ25 _
        refine Rx.go (fun _ => rfl) ?_
        refine Rx.callE rfl rfl rfl rfl (rg_good hS25) ?_
        show Rx X c0 m_Mod_readName 119 [.ref (c0 + 16), .int ((nI acc.length) + 1)] [.int 0] σ25 τ25 _
        refine Rx.go (fun _ => rfl) ?_
        show Rx X c0 m_Mod_readName 122 [.ref (c0 + 16), .int ((nI acc.length) + 1)] [] σ25 τ25 _
        exact Rx.ret rfl rfl (rQ_f (b := acc) (sNm_b hm (fun h => c1 h.1) (fun _ => fun e => c3 (by rw [e]; rfl)) hg) hS25 (by simp only [List.length_append, List.length_cons, List.length_nil]; omega) (by omega))
      · replace c3 : (nI acc.length) = 60 := Classical.not_not.mp (of_decide_eq_false c3)
        show Rx X c0 m_Mod_readName 81 [.ref (c0 + 16), .int (nI acc.length)] [] σ τ _
        refine Rx.go (fun _ => rfl) ?_
        refine Rx.go (fun _ => rfl) ?_
        refine Rx.go (fun _ => rfl) ?_
        refine Rx.get rfl rfl ?_
        refine Rx.top (y := nI q) hS.f16 ?_
        refine Rx.callP rfl rfl rfl rfl (rs_fl (wn := q) hS (by decide) rfl) ?_
        intro σ26 τ26 hS26
        show Rx X c0 m_Mod_readName 90 [.ref (c0 + 16), .int (nI acc.length)] [] σ26 τ26 _
        refine Rx.go (fun _ => rfl) ?_
        refine Rx.go (fun _ => rfl) ?_
        refine Rx.callE rfl rfl rfl rfl (rg_here hS26 (by omega)) ?_
        show Rx X c0 m_Mod_readName 95 [.ref (c0 + 16), .int (nI acc.length)] [.int (rhere σ26 τ26), .ref (c0 + 16)] σ26 τ26 _
        refine Rx.callP rfl rfl rfl rfl (rg_put _ hS26 (by first | omega | (simp only [List.length_append, List.length_cons, List.length_nil]; omega))) ?_
        intro σ27 τ27 hS27
        show Rx X c0 m_Mod_readName 98 [.ref (c0 + 16), .int (nI acc.length)] [] σ27 τ27 _
        refine Rx.go (fun _ => rfl) ?_
        refine Rx.go (fun _ => rfl) ?_
        refine Rx.callE rfl rfl rfl rfl (rg_here hS27 (by omega)) ?_
        show Rx X c0 m_Mod_readName 103 [.ref (c0 + 16), .int (nI acc.length)] [.int (rhere σ27 τ27), .ref (c0 + 16)] σ27 τ27 _
        refine Rx.scallE rfl rfl rfl rfl (sx_Mod_isNB X (rhere σ27 τ27)) ?_
        show Rx X c0 m_Mod_readName 106 [.ref (c0 + 16), .int (nI acc.length)] [.int (bi (isNB (rhere σ27 τ27))), .ref (c0 + 16)] σ27 τ27 _
        refine Rx.callP rfl rfl rfl rfl (rg_ov (isNB (rhere σ27 τ27)) hS27) ?_
        intro σ28 τ28 hS28
        show Rx X c0 m_Mod_readName 109 [.ref (c0 + 16), .int (nI acc.length)] [] σ28 τ28 _
        refine Rx.go (fun _ => rfl) ?_
        show Rx X c0 m_Mod_readName 112 [.ref (c0 + 16), .int ((nI acc.length) + 1)] [] σ28 τ28 _
        refine Rx.go (fun _ => rfl) ?_
        refine Rx.go (fun _ => rfl) ?_
        refine Rx.callE rfl rfl rfl rfl (rg_good hS28) ?_
        show Rx X c0 m_Mod_readName 52 [.ref (c0 + 16), .int ((nI acc.length) + 1)] [.int 0] σ28 τ28 _
        refine Rx.go (fun _ => rfl) ?_
        show Rx X c0 m_Mod_readName 115 [.ref (c0 + 16), .int ((nI acc.length) + 1)] [] σ28 τ28 _
        refine Rx.go (fun _ => rfl) ?_
        refine Rx.callE rfl rfl rfl rfl (rg_good hS28) ?_
        show Rx X c0 m_Mod_readName 119 [.ref (c0 + 16), .int ((nI acc.length) + 1)] [.int 0] σ28 τ28 _
        refine Rx.go (fun _ => rfl) ?_
        show Rx X c0 m_Mod_readName 122 [.ref (c0 + 16), .int ((nI acc.length) + 1)] [] σ28 τ28 _
        exact Rx.ret rfl rfl (rQ_f (b := acc) (nm60 hm c1 ((nI_eq (b := 60) (by omega) (by decide)).mp c3) hlt) hS28 (by simp only [List.length_append, List.length_cons, List.length_nil]; omega) (by omega))
set_option maxRecDepth 100000 in
set_option maxHeartbeats 2000000 in
theorem rr_name {X : ev_X} {c0 : Nat} {σ0 : Nat → Int32} {τ0 : Nat → Nat → Int32} {t : List Nat} {d0 : List Nat} {q k qq db : Nat} {σ : Nat → Int32} {τ : Nat → Nat → Int32} (hd0 : d0.length ≤ 150) (hdb : db ≤ 1000) (hS : RS σ0 τ0 t q d0 k qq db σ τ) : Rx X c0 m_Mod_readName 0 [.ref (c0 + 16), ev_dead] [] σ τ (rQ σ0 τ0 t (sNa t q) (fun q b σ' τ' => RS σ0 τ0 t q (d0 ++ [60] ++ b ++ [62]) k qq (db + b.length) σ' τ')) := by
  have hl := hS.z.tl
  refine Rx.go (fun _ => rfl) ?_
  refine Rx.go (fun _ => rfl) ?_
  refine Rx.callE rfl rfl rfl rfl (rz_here hS.z) ?_
  show Rx X c0 m_Mod_readName 5 [.ref (c0 + 16), ev_dead] [.int (hb t q), .ref (c0 + 16)] σ τ _
  refine Rx.go (fun _ => rfl) ?_
  refine Rx.go (fun _ => rfl) ?_
  refine Rx.ite (fun c1 => ?_) (fun c1 => ?_)
  · replace c1 : ¬ (hb t q) = 60 := of_decide_eq_true c1
    show Rx X c0 m_Mod_readName 14 [.ref (c0 + 16), ev_dead] [.ref (c0 + 16)] σ τ _
    refine Rx.go (fun _ => rfl) ?_
    refine Rx.callP rfl rfl rfl rfl (rs_ov_f false hS (fun h => Bool.false_ne_true h.2)) ?_
    intro σ29 τ29 hS29
    show Rx X c0 m_Mod_readName 18 [.ref (c0 + 16), ev_dead] [] σ29 τ29 _
    refine Rx.go (fun _ => rfl) ?_
    refine Rx.go (fun _ => rfl) ?_
    refine Rx.callP rfl rfl rfl rfl (rg_put _ hS29 (by first | omega | (simp only [List.length_append, List.length_cons, List.length_nil]; omega))) ?_
    intro σ30 τ30 hS30
    show Rx X c0 m_Mod_readName 24 [.ref (c0 + 16), ev_dead] [] σ30 τ30 _
    refine Rx.go (fun _ => rfl) ?_
    refine Rx.go (fun _ => rfl) ?_
    show Rx X c0 m_Mod_readName 26 [.ref (c0 + 16), .int 0] [] σ30 τ30 _
    refine Rx.go (fun _ => rfl) ?_
    refine Rx.callE rfl rfl rfl rfl (rg_good hS30) ?_
    show Rx X c0 m_Mod_readName 30 [.ref (c0 + 16), .int 0] [.int 0] σ30 τ30 _
    refine Rx.go (fun _ => rfl) ?_
    show Rx X c0 m_Mod_readName 48 [.ref (c0 + 16), .int 0] [] σ30 τ30 _
    refine Rx.go (fun _ => rfl) ?_
    refine Rx.callE rfl rfl rfl rfl (rg_good hS30) ?_
    show Rx X c0 m_Mod_readName 52 [.ref (c0 + 16), .int 0] [.int 0] σ30 τ30 _
    refine Rx.go (fun _ => rfl) ?_
    show Rx X c0 m_Mod_readName 115 [.ref (c0 + 16), .int 0] [] σ30 τ30 _
    refine Rx.go (fun _ => rfl) ?_
    refine Rx.callE rfl rfl rfl rfl (rg_good hS30) ?_
    show Rx X c0 m_Mod_readName 119 [.ref (c0 + 16), .int 0] [.int 0] σ30 τ30 _
    refine Rx.go (fun _ => rfl) ?_
    show Rx X c0 m_Mod_readName 122 [.ref (c0 + 16), .int 0] [] σ30 τ30 _
    exact Rx.ret rfl rfl (rQ_f (b := []) (show sNa t q = (false, q, []) from if_neg c1) hS30 (by first | omega | (simp only [List.length_append, List.length_cons, List.length_nil]; omega)) (by omega))
  · replace c1 : (hb t q) = 60 := Classical.not_not.mp (of_decide_eq_false c1)
    show Rx X c0 m_Mod_readName 10 [.ref (c0 + 16), ev_dead] [.ref (c0 + 16)] σ τ _
    refine Rx.go (fun _ => rfl) ?_
    refine Rx.go (fun _ => rfl) ?_
    refine Rx.callP rfl rfl rfl rfl (rs_ov_t hS (hb_in (by rw [c1]; decide))) ?_
    intro σ31 τ31 hS31
    show Rx X c0 m_Mod_readName 18 [.ref (c0 + 16), ev_dead] [] σ31 τ31 _
    refine Rx.go (fun _ => rfl) ?_
    refine Rx.go (fun _ => rfl) ?_
    refine Rx.callP rfl rfl rfl rfl (rs_put 60 hS31 (by first | omega | (simp only [List.length_append, List.length_cons, List.length_nil]; omega))) ?_
    intro σ32 τ32 hS32
    show Rx X c0 m_Mod_readName 24 [.ref (c0 + 16), ev_dead] [] σ32 τ32 _
    refine Rx.go (fun _ => rfl) ?_
    refine Rx.go (fun _ => rfl) ?_
    show Rx X c0 m_Mod_readName 26 [.ref (c0 + 16), .int 0] [] σ32 τ32 _
    refine Rx.go (fun _ => rfl) ?_
    refine Rx.callE rfl rfl rfl rfl (rz_good hS32.z) ?_
    show Rx X c0 m_Mod_readName 30 [.ref (c0 + 16), .int 0] [.int 1] σ32 τ32 _
    refine Rx.go (fun _ => rfl) ?_
    show Rx X c0 m_Mod_readName 33 [.ref (c0 + 16), .int 0] [] σ32 τ32 _
    refine Rx.go (fun _ => rfl) ?_
    refine Rx.callE rfl rfl rfl rfl (rz_here hS32.z) ?_
    show Rx X c0 m_Mod_readName 37 [.ref (c0 + 16), .int 0] [.int (hb t (q + 1))] σ32 τ32 _
    refine Rx.scallE rfl rfl rfl rfl (sx_Mod_isNB X (hb t (q + 1))) ?_
    show Rx X c0 m_Mod_readName 40 [.ref (c0 + 16), .int 0] [.int (bi (isNB (hb t (q + 1))))] σ32 τ32 _
    refine Rx.go (fun _ => rfl) ?_
    refine Rx.ite (fun c2 => ?_) (fun c2 => ?_)
    · replace c2 : (isNB (hb t (q + 1))) = true := bi_net c2
      show Rx X c0 m_Mod_readName 48 [.ref (c0 + 16), .int 0] [] σ32 τ32 _
      show Rx X c0 m_Mod_readName 48 [.ref (c0 + 16), .int 0] [] σ32 τ32 _
      have hp1 := hb_in (t := t) (q := q) (by rw [c1]; decide)
      rw [show sNa t q = sNm t (t.length - (q + 1)) (q + 1) [] from if_pos c1]
      exact rr_nm_l hd0 hdb (t.length - (q + 1)) (q + 1) [] _ _ (by omega) (by decide) (fun _ => c2) (by rw [List.append_nil]; exact hS32)
    · replace c2 : (isNB (hb t (q + 1))) = false := bi_nef c2
      show Rx X c0 m_Mod_readName 43 [.ref (c0 + 16), .int 0] [] σ32 τ32 _
      refine Rx.go (fun _ => rfl) ?_
      refine Rx.go (fun _ => rfl) ?_
      refine Rx.callP rfl rfl rfl rfl (rs_ov_f false hS32 (fun h => Bool.false_ne_true h.2)) ?_
      intro σ33 τ33 hS33
      show Rx X c0 m_Mod_readName 48 [.ref (c0 + 16), .int 0] [] σ33 τ33 _
      refine Rx.go (fun _ => rfl) ?_
      refine Rx.callE rfl rfl rfl rfl (rg_good hS33) ?_
      show Rx X c0 m_Mod_readName 52 [.ref (c0 + 16), .int 0] [.int 0] σ33 τ33 _
      refine Rx.go (fun _ => rfl) ?_
      show Rx X c0 m_Mod_readName 115 [.ref (c0 + 16), .int 0] [] σ33 τ33 _
      refine Rx.go (fun _ => rfl) ?_
      refine Rx.callE rfl rfl rfl rfl (rg_good hS33) ?_
      show Rx X c0 m_Mod_readName 119 [.ref (c0 + 16), .int 0] [.int 0] σ33 τ33 _
      refine Rx.go (fun _ => rfl) ?_
      show Rx X c0 m_Mod_readName 122 [.ref (c0 + 16), .int 0] [] σ33 τ33 _
      have hp1 := hb_in (t := t) (q := q) (by rw [c1]; decide)
      exact Rx.ret rfl rfl (rQ_f (b := []) (show sNa t q = (false, q + 1, []) from (if_pos c1).trans (sNm_b (by omega) (fun h => h.2 rfl) (fun _ => by decide) (fun h => by rw [c2] at h; exact Bool.false_ne_true h.2))) hS33 (by simp only [List.length_append, List.length_cons, List.length_nil]; omega) (by omega))
