/-! The reference reads a text's items. (rows laid by wip/whole/rr4.py) -/
set_option maxRecDepth 100000 in
theorem esW_e : ∀ c : Nat, c < 256 → 0 ≤ esc (nI c) → esW (eN c) = [92, c] := by decide +kernel
set_option maxRecDepth 100000 in
theorem esW_p : ∀ c : Nat, c < 256 → ¬ nI c = 34 → ¬ nI c = 92 → ¬ nI c < 32 → esW c = [c] := by decide +kernel
theorem sI_f {t : List Nat} {m q : Nat} {acc : List Nat} (hm : t.length ≤ q + m) (hq : q ≤ t.length) (h34 : ¬ hb t q = 34) (h64 : q < t.length → ¬ acc.length = 64) (h : (sIt t q).1 = false) : sI t m q acc = (false, (sIt t q).2.1, acc) := by
  by_cases hlt : q < t.length
  · obtain ⟨m1, rfl⟩ : ∃ m1, m = m1 + 1 := ⟨m - 1, by omega⟩
    rw [sI, if_neg (by omega), if_neg h34, if_neg (h64 hlt)]
    unfold sIt at h ⊢
    by_cases c1 : hb t q = 92
    · rw [if_pos c1] at h
      simp only [if_pos c1]
      by_cases c2 : q + 1 = t.length
      · simp only [if_pos c2]
      · rw [if_neg c2] at h
        simp only [if_neg c2]
        by_cases c3 : 0 ≤ esc (hb t (q + 1))
        · rw [if_pos c3] at h; cases h
        · simp only [if_neg c3]
    · rw [if_neg c1] at h
      simp only [if_neg c1]
      by_cases c2 : hb t q < 32
      · simp only [if_pos c2]
      · rw [if_neg c2] at h
        simp only [if_neg c2]
        by_cases c3 : 126 < hb t q
        · simp only [if_pos c3]
        · rw [if_neg c3] at h; cases h
  · have hb1 : hb t q = -1 := hb_ge hlt
    have e : sIt t q = (false, q, []) := by
      unfold sIt
      rw [hb1]
      rfl
    rw [e]
    have hq2 : q = t.length := by omega
    cases m with
    | zero => rw [sI, hq2]
    | succ m => rw [sI, if_pos (by omega), hq2]
theorem sI_t {t : List Nat} {m q : Nat} {acc : List Nat} (hby : ∀ i, t.getD i 0 < 256) (hm : t.length ≤ q + m) (h34 : ¬ hb t q = 34) (h64 : ¬ acc.length = 64) (h : (sIt t q).1 = true) : ∃ i m1, m = m1 + 1 ∧ (sIt t q).2.2 = esW i ∧ sI t m q acc = sI t m1 (sIt t q).2.1 (acc ++ [i]) ∧ (sIt t q).2.1 ≤ t.length ∧ q < (sIt t q).2.1 := by
  have hlt : q < t.length := by
    by_cases hlt : q < t.length
    · exact hlt
    · have hb1 : hb t q = -1 := hb_ge hlt
      have e : sIt t q = (false, q, []) := by
        unfold sIt
        rw [hb1]
        rfl
      rw [e] at h; cases h
  obtain ⟨m1, rfl⟩ : ∃ m1, m = m1 + 1 := ⟨m - 1, by omega⟩
  rw [sI, if_neg (by omega), if_neg h34, if_neg h64]
  unfold sIt at h ⊢
  by_cases c1 : hb t q = 92
  · rw [if_pos c1] at h
    simp only [if_pos c1]
    by_cases c2 : q + 1 = t.length
    · rw [if_pos c2] at h; cases h
    · rw [if_neg c2] at h
      simp only [if_neg c2]
      by_cases c3 : 0 ≤ esc (hb t (q + 1))
      · simp only [if_pos c3]
        refine ⟨eN (t.getD (q + 1) 0), m1, rfl, ?_, rfl, by omega, by omega⟩
        rw [hb_lt (show q + 1 < t.length by omega)] at c3
        exact (esW_e _ (hby _) c3).symm
      · rw [if_neg c3] at h; cases h
  · rw [if_neg c1] at h
    simp only [if_neg c1]
    by_cases c2 : hb t q < 32
    · rw [if_pos c2] at h; cases h
    · rw [if_neg c2] at h
      simp only [if_neg c2]
      by_cases c3 : 126 < hb t q
      · rw [if_pos c3] at h; cases h
      · simp only [if_neg c3]
        refine ⟨t.getD q 0, m1, rfl, ?_, rfl, by omega, by omega⟩
        rw [hb_lt hlt] at h34 c1 c2
        exact (esW_p _ (hby _) h34 c1 c2).symm
theorem sI_64 {t : List Nat} {m q : Nat} {acc : List Nat} (hm : t.length ≤ q + m) (hlt : q < t.length) (h34 : ¬ hb t q = 34) (h64 : acc.length = 64) : sI t m q acc = (false, q, acc) := by
  obtain ⟨m1, rfl⟩ : ∃ m1, m = m1 + 1 := ⟨m - 1, by omega⟩
  rw [sI, if_neg (by omega), if_neg h34, if_pos h64]
theorem sI_34 {t : List Nat} {m q : Nat} {acc : List Nat} (hm : t.length ≤ q + m) (h34 : hb t q = 34) : sI t m q acc = (true, q + 1, acc) := by
  have hlt := hb_in (t := t) (q := q) (by rw [h34]; decide)
  obtain ⟨m1, rfl⟩ : ∃ m1, m = m1 + 1 := ⟨m - 1, by omega⟩
  rw [sI, if_neg (by omega), if_pos h34]
theorem sIt_lt {t : List Nat} {q : Nat} (h : (sIt t q).1 = true) : q < t.length := by
  by_cases hlt : q < t.length
  · exact hlt
  · have hb1 : hb t q = -1 := hb_ge hlt
    have e : sIt t q = (false, q, []) := by
      unfold sIt
      rw [hb1]
      rfl
    rw [e] at h; cases h
set_option maxRecDepth 100000 in
set_option maxHeartbeats 2000000 in
theorem rr_it_l {X : ev_X} {c0 : Nat} {σ0 : Nat → Int32} {τ0 : Nat → Nat → Int32} {t : List Nat} {Q : Option Value → (Nat → Int32) → (Nat → Nat → Int32) → Prop} {o0 : Bool × Nat × List Nat} (fv : Int32) (hK : ∀ {q : Nat} {acc : List Nat} {σ : Nat → Int32} {τ : Nat → Nat → Int32}, (true, q + 1, acc) = o0 → acc.length ≤ 64 → hb t q = 34 → RS σ0 τ0 t q ([34] ++ acc.flatMap esW) 5 0 acc.length σ τ → Rx X c0 m_Mod_readText 95 [.ref (c0 + 16), .int fv] [] σ τ Q) (hF : ∀ {w m j : Nat} {acc : List Nat} {σ : Nat → Int32} {τ : Nat → Nat → Int32}, (false, w, acc) = o0 → RG σ0 τ0 t w m j σ τ → m ≤ 250 → j ≤ 20 → Q none σ τ) : ∀ (m q : Nat) (acc : List Nat) (σ : Nat → Int32) (τ : Nat → Nat → Int32) (hm : t.length ≤ q + m) (hq : q ≤ t.length) (ha : acc.length ≤ 64) (ho : sI t m q acc = o0) (hS : RS σ0 τ0 t q ([34] ++ acc.flatMap esW) 5 0 acc.length σ τ), Rx X c0 m_Mod_readText 26 [.ref (c0 + 16), .int fv] [] σ τ Q := by
  intro m
  induction m using Nat.strongRecOn with
  | ind m ih =>
  intro q acc σ τ hm hq ha ho hS
  have hl := hS.z.tl
  refine Rx.go (fun _ => rfl) ?_
  refine Rx.callE rfl rfl rfl rfl (rz_good hS.z) ?_
  show Rx X c0 m_Mod_readText 30 [.ref (c0 + 16), .int fv] [.int 1] σ τ _
  refine Rx.go (fun _ => rfl) ?_
  show Rx X c0 m_Mod_readText 33 [.ref (c0 + 16), .int fv] [] σ τ _
  refine Rx.go (fun _ => rfl) ?_
  refine Rx.callE rfl rfl rfl rfl (rz_here hS.z) ?_
  show Rx X c0 m_Mod_readText 37 [.ref (c0 + 16), .int fv] [.int (hb t q)] σ τ _
  refine Rx.go (fun _ => rfl) ?_
  refine Rx.go (fun _ => rfl) ?_
  refine Rx.ite (fun c1 => ?_) (fun c1 => ?_)
  · replace c1 : (hb t q) = 34 := of_decide_eq_true c1
    show Rx X c0 m_Mod_readText 95 [.ref (c0 + 16), .int fv] [] σ τ _
    show Rx X c0 m_Mod_readText 95 [.ref (c0 + 16), .int fv] [] σ τ _
    exact hK ((sI_34 hm c1).symm.trans ho) ha c1 hS
  · replace c1 : ¬ (hb t q) = 34 := of_decide_eq_false c1
    show Rx X c0 m_Mod_readText 42 [.ref (c0 + 16), .int fv] [] σ τ _
    refine Rx.go (fun _ => rfl) ?_
    refine Rx.get rfl rfl ?_
    refine Rx.top (y := nI q) hS.f16 ?_
    refine Rx.go (fun _ => rfl) ?_
    refine Rx.get rfl rfl ?_
    refine Rx.top (y := nI t.length) hS.f17 ?_
    refine Rx.go (fun _ => rfl) ?_
    refine Rx.ite (fun c2 => ?_) (fun c2 => ?_)
    · replace c2 : (nI t.length) ≤ (nI q) := of_decide_eq_true c2
      have hge : t.length ≤ q := (nI_leI (by omega) (by omega)).mp c2
      show Rx X c0 m_Mod_readText 71 [.ref (c0 + 16), .int fv] [] σ τ _
      refine Rx.go (fun _ => rfl) ?_
      refine Rx.callE rfl rfl rfl rfl (rz_good hS.z) ?_
      show Rx X c0 m_Mod_readText 75 [.ref (c0 + 16), .int fv] [.int 1] σ τ _
      refine Rx.go (fun _ => rfl) ?_
      show Rx X c0 m_Mod_readText 78 [.ref (c0 + 16), .int fv] [] σ τ _
      refine Rx.go (fun _ => rfl) ?_
      refine Rx.call rfl rfl rfl rfl (rr_item (by have := fm_len acc; simp only [List.length_append, List.length_cons, List.length_nil]; omega) hS) ?_
      rintro v σ17 τ17 ⟨rfl, hq17⟩
      cases hI : (sIt t q).1
      · rw [hI, if_neg Bool.false_ne_true] at hq17
        obtain ⟨mm, jj, hS17, hmm, hjj⟩ := hq17
        have e0 := sI_f (acc := acc) hm hq c1 (fun hlt => absurd hlt (by omega)) hI
        show Rx X c0 m_Mod_readText 82 [.ref (c0 + 16), .int fv] [] σ17 τ17 _
        refine Rx.go (fun _ => rfl) ?_
        refine Rx.go (fun _ => rfl) ?_
        refine Rx.get rfl rfl ?_
        refine Rx.go (fun _ => rfl) ?_
        refine Rx.go (fun _ => rfl) ?_
        refine Rx.put rfl (by decide) rfl rfl ?_
        have hS18 := hS17.up (i := 13) (x := (σ17 13) + 1) (by omega)
        refine Rx.go (fun _ => rfl) ?_
        refine Rx.go (fun _ => rfl) ?_
        refine Rx.callE rfl rfl rfl rfl (rg_good hS18) ?_
        show Rx X c0 m_Mod_readText 30 [.ref (c0 + 16), .int fv] [.int 0] (upd σ17 13 ((σ17 13) + 1)) τ17 _
        refine Rx.go (fun _ => rfl) ?_
        show Rx X c0 m_Mod_readText 95 [.ref (c0 + 16), .int fv] [] (upd σ17 13 ((σ17 13) + 1)) τ17 _
        refine Rx.go (fun _ => rfl) ?_
        refine Rx.callE rfl rfl rfl rfl (rg_good hS18) ?_
        show Rx X c0 m_Mod_readText 99 [.ref (c0 + 16), .int fv] [.int 0] (upd σ17 13 ((σ17 13) + 1)) τ17 _
        refine Rx.go (fun _ => rfl) ?_
        show Rx X c0 m_Mod_readText 102 [.ref (c0 + 16), .int fv] [] (upd σ17 13 ((σ17 13) + 1)) τ17 _
        exact Rx.ret rfl rfl (hF (e0.symm.trans ho) hS18 (by omega) (by omega))
      exact absurd (sIt_lt hI) (by omega)
    · replace c2 : ¬ (nI t.length) ≤ (nI q) := of_decide_eq_false c2
      have hlt : q < t.length := Nat.lt_of_not_le (fun e => c2 ((nI_leI (by omega) (by omega)).mpr e))
      show Rx X c0 m_Mod_readText 53 [.ref (c0 + 16), .int fv] [] σ τ _
      refine Rx.go (fun _ => rfl) ?_
      refine Rx.get rfl rfl ?_
      refine Rx.top (y := nI acc.length) hS.f13 ?_
      refine Rx.go (fun _ => rfl) ?_
      refine Rx.go (fun _ => rfl) ?_
      refine Rx.ite (fun c3 => ?_) (fun c3 => ?_)
      · replace c3 : ¬ (nI acc.length) = 64 := of_decide_eq_true c3
        have d64 : ¬ acc.length = 64 := fun e => c3 (by rw [e]; rfl)
        show Rx X c0 m_Mod_readText 71 [.ref (c0 + 16), .int fv] [] σ τ _
        refine Rx.go (fun _ => rfl) ?_
        refine Rx.callE rfl rfl rfl rfl (rz_good hS.z) ?_
        show Rx X c0 m_Mod_readText 75 [.ref (c0 + 16), .int fv] [.int 1] σ τ _
        refine Rx.go (fun _ => rfl) ?_
        show Rx X c0 m_Mod_readText 78 [.ref (c0 + 16), .int fv] [] σ τ _
        refine Rx.go (fun _ => rfl) ?_
        refine Rx.call rfl rfl rfl rfl (rr_item (by have := fm_len acc; simp only [List.length_append, List.length_cons, List.length_nil]; omega) hS) ?_
        rintro v σ19 τ19 ⟨rfl, hq19⟩
        cases hI : (sIt t q).1
        · rw [hI, if_neg Bool.false_ne_true] at hq19
          obtain ⟨mm, jj, hS19, hmm, hjj⟩ := hq19
          have e0 := sI_f (acc := acc) hm hq c1 (fun _ => d64) hI
          show Rx X c0 m_Mod_readText 82 [.ref (c0 + 16), .int fv] [] σ19 τ19 _
          refine Rx.go (fun _ => rfl) ?_
          refine Rx.go (fun _ => rfl) ?_
          refine Rx.get rfl rfl ?_
          refine Rx.go (fun _ => rfl) ?_
          refine Rx.go (fun _ => rfl) ?_
          refine Rx.put rfl (by decide) rfl rfl ?_
          have hS20 := hS19.up (i := 13) (x := (σ19 13) + 1) (by omega)
          refine Rx.go (fun _ => rfl) ?_
          refine Rx.go (fun _ => rfl) ?_
          refine Rx.callE rfl rfl rfl rfl (rg_good hS20) ?_
          show Rx X c0 m_Mod_readText 30 [.ref (c0 + 16), .int fv] [.int 0] (upd σ19 13 ((σ19 13) + 1)) τ19 _
          refine Rx.go (fun _ => rfl) ?_
          show Rx X c0 m_Mod_readText 95 [.ref (c0 + 16), .int fv] [] (upd σ19 13 ((σ19 13) + 1)) τ19 _
          refine Rx.go (fun _ => rfl) ?_
          refine Rx.callE rfl rfl rfl rfl (rg_good hS20) ?_
          show Rx X c0 m_Mod_readText 99 [.ref (c0 + 16), .int fv] [.int 0] (upd σ19 13 ((σ19 13) + 1)) τ19 _
          refine Rx.go (fun _ => rfl) ?_
          show Rx X c0 m_Mod_readText 102 [.ref (c0 + 16), .int fv] [] (upd σ19 13 ((σ19 13) + 1)) τ19 _
          exact Rx.ret rfl rfl (hF (e0.symm.trans ho) hS20 (by omega) (by omega))
        rw [hI, if_pos rfl] at hq19
        obtain ⟨it, m1, e1, e2, e3, e4, e5⟩ := sI_t hS.z.by hm c1 d64 hI
        rw [e2] at hq19
        show Rx X c0 m_Mod_readText 82 [.ref (c0 + 16), .int fv] [] σ19 τ19 _
        refine Rx.go (fun _ => rfl) ?_
        refine Rx.go (fun _ => rfl) ?_
        refine Rx.get rfl rfl ?_
        refine Rx.top (y := nI acc.length) hq19.f13 ?_
        refine Rx.go (fun _ => rfl) ?_
        refine Rx.go (fun _ => rfl) ?_
        refine Rx.top (y := nI (acc.length + 1)) (nI_1 _) ?_
        refine Rx.put rfl (by decide) rfl rfl ?_
        have hS21 := hq19.db1 (x := (acc.length + 1))
        refine Rx.go (fun _ => rfl) ?_
        show Rx X c0 m_Mod_readText 26 [.ref (c0 + 16), .int fv] [] (upd σ19 13 (nI (acc.length + 1))) τ19 _
        exact ih m1 (by omega) _ (acc ++ [it]) _ _ (by omega) e4 (by have : acc.length ≠ 64 := d64; simp only [List.length_append, List.length_cons, List.length_nil]; omega) (e3.symm.trans ho) (by rw [List.flatMap_append, ← List.append_assoc, List.length_append]; simpa using hS21)
      · replace c3 : (nI acc.length) = 64 := Classical.not_not.mp (of_decide_eq_false c3)
        have d64 : acc.length = 64 := (nI_eq (b := 64) (by omega) (by decide)).mp c3
        show Rx X c0 m_Mod_readText 62 [.ref (c0 + 16), .int fv] [] σ τ _
        refine Rx.go (fun _ => rfl) ?_
        refine Rx.go (fun _ => rfl) ?_
        refine Rx.go (fun _ => rfl) ?_
        refine Rx.get rfl rfl ?_
        refine Rx.top (y := nI q) hS.f16 ?_
        refine Rx.callP rfl rfl rfl rfl (rs_fl (wn := q) hS (by decide) rfl) ?_
        intro σ22 τ22 hS22
        show Rx X c0 m_Mod_readText 71 [.ref (c0 + 16), .int fv] [] σ22 τ22 _
        refine Rx.go (fun _ => rfl) ?_
        refine Rx.callE rfl rfl rfl rfl (rg_good hS22) ?_
        show Rx X c0 m_Mod_readText 75 [.ref (c0 + 16), .int fv] [.int 0] σ22 τ22 _
        refine Rx.go (fun _ => rfl) ?_
        show Rx X c0 m_Mod_readText 82 [.ref (c0 + 16), .int fv] [] σ22 τ22 _
        refine Rx.go (fun _ => rfl) ?_
        refine Rx.go (fun _ => rfl) ?_
        refine Rx.get rfl rfl ?_
        refine Rx.go (fun _ => rfl) ?_
        refine Rx.go (fun _ => rfl) ?_
        refine Rx.put rfl (by decide) rfl rfl ?_
        have hS23 := hS22.up (i := 13) (x := (σ22 13) + 1) (by omega)
        refine Rx.go (fun _ => rfl) ?_
        refine Rx.go (fun _ => rfl) ?_
        refine Rx.callE rfl rfl rfl rfl (rg_good hS23) ?_
        show Rx X c0 m_Mod_readText 30 [.ref (c0 + 16), .int fv] [.int 0] (upd σ22 13 ((σ22 13) + 1)) τ22 _
        refine Rx.go (fun _ => rfl) ?_
        show Rx X c0 m_Mod_readText 95 [.ref (c0 + 16), .int fv] [] (upd σ22 13 ((σ22 13) + 1)) τ22 _
        refine Rx.go (fun _ => rfl) ?_
        refine Rx.callE rfl rfl rfl rfl (rg_good hS23) ?_
        show Rx X c0 m_Mod_readText 99 [.ref (c0 + 16), .int fv] [.int 0] (upd σ22 13 ((σ22 13) + 1)) τ22 _
        refine Rx.go (fun _ => rfl) ?_
        show Rx X c0 m_Mod_readText 102 [.ref (c0 + 16), .int fv] [] (upd σ22 13 ((σ22 13) + 1)) τ22 _
        exact Rx.ret rfl rfl (hF ((sI_64 hm hlt c1 d64).symm.trans ho) hS23 (by have := fm_len acc; simp only [List.length_append, List.length_cons, List.length_nil]; omega) (by omega))
