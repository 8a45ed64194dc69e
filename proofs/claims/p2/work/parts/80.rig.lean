/-! The reference reads its tape. (rows laid by wip/whole/rr16.py) -/
theorem nI_any (x : Int32) : ∃ n, x = nI n := ⟨x.toBitVec.toNat, Int32.toBitVec_inj.mp (by simp [nI])⟩
/-- the reference between two calls: its table, its tape, the sum of items, the place, what is shown -/
def RC (ts : RT) (t : List Nat) (u pl : Nat) (sh : List Nat) (σ : Nat → Int32) (τ : Nat → Nat → Int32) : Prop := rt σ τ ts ∧ (σ 1 = nI t.length ∧ t.length ≤ 240 ∧ (∀ j, j < t.length → τ 0 j = nI (t.getD j 0)) ∧ ∀ j, t.getD j 0 < 256) ∧ (σ 8 = nI u ∧ u ≤ 40000) ∧ shw σ τ sh ∧ σ 2 = nI pl ∧ ∃ m, σ 10 = nI m ∧ m ≤ 250
theorem RC.rs {ts : RT} {t sh : List Nat} {u pl : Nat} {σ : Nat → Int32} {τ : Nat → Nat → Int32} (h : RC ts t u pl sh σ τ) : ∃ D k qq db, D.length ≤ 250 ∧ RS σ τ t 0 D k qq db (upd (upd (upd σ 16 0) 17 (nI t.length)) 18 0) τ := by
  obtain ⟨-, ⟨h1, h2, h3, h4⟩, -, -, -, m, h10, hm⟩ := h
  obtain ⟨k, hk⟩ := nI_any (σ 11)
  obtain ⟨q, hq⟩ := nI_any (σ 12)
  obtain ⟨db, hdb⟩ := nI_any (σ 13)
  have hf : ∀ j, ∃ n, τ 9 j = nI n := fun j => nI_any _
  obtain ⟨g, hg⟩ := Classical.axiomOfChoice hf
  refine ⟨(List.range m).map g, k, q, db, by simp; omega, ⟨⟨rfl, rfl, rfl, rfl, rfl⟩, ⟨rfl, rfl, rfl, rfl, rfl, rfl⟩, h3, h2, h4, rfl⟩, ⟨rfl, Nat.zero_le _⟩, rfl, ⟨?_, fun j hj => ?_⟩, hk, hq, hdb⟩
  · rw [List.length_map, List.length_range]; exact h10
  · rw [List.length_map, List.length_range] at hj
    rw [hg j, List.getD_eq_getElem?_getD, List.getElem?_map, List.getElem?_range hj]; rfl
/-- readAll's end -/
def raP (σ : Nat → Int32) (τ : Nat → Nat → Int32) (t : List Nat) (r : Option Value) (σ' : Nat → Int32) (τ' : Nat → Nat → Int32) : Prop := ∃ f σ1, (r = some (.int 1) ∧ ∃ d kd qq db, roO t t.length d kd qq db ∧ RS σ (va_up τ 20 f) t t.length d kd qq db σ1 τ' ∧ σ' = upd (upd σ1 2 (nI t.length)) 1 0) ∨ (r = some (.int 0) ∧ ∃ w m j, (roF t w ∨ ∃ d kd qq db, roO t w d kd qq db ∧ w < t.length) ∧ RG σ (va_up τ 20 f) t w m j σ1 τ' ∧ m ≤ 250 ∧ j ≤ 20 ∧ σ' = upd (upd σ1 2 (nI w)) 1 0)
theorem roO_len {t d : List Nat} {q kd qq db : Nat} (h : roO t q d kd qq db) : d.length ≤ 250 ∧ kd < 16 ∧ qq ≤ 260 ∧ db ≤ 1000 := by
  obtain ⟨-, b, e, rfl, rfl, rfl, rfl⟩ | ⟨-, b, e, rfl, rfl, rfl, rfl⟩ | ⟨-, q1, acc, e1, h2⟩ | ⟨h, rfl, rfl⟩ := h
  · have := sBk_l t; rw [e] at this; simp only [List.length_append, List.length_cons, List.length_nil] at this ⊢; omega
  · have := sNa_l t 0; rw [e] at this; simp only [List.length_append, List.length_cons, List.length_nil] at this ⊢; omega
  · have hl := sI_l t t.length 1 [] (by decide)
    rw [e1] at hl
    have hr := fm_len acc
    dsimp only at hl
    obtain ⟨-, b, e, rfl, rfl, rfl, rfl⟩ | ⟨-, -, b, e, h3⟩ | ⟨-, -, -, rfl, rfl, rfl, rfl⟩ := h2
    · have := sT_l t (t.length - (q1 + 1)) (q1 + 1) 0 true [] (by decide); rw [e] at this; simp only [List.length_append, List.length_cons, List.length_nil] at this ⊢; omega
    · have := sNa_l t (q1 + 1 + 1); rw [e] at this
      obtain ⟨-, rfl, rfl, rfl, rfl⟩ | ⟨-, -, h4, rfl, rfl⟩ | ⟨-, -, rfl, rfl, rfl, rfl⟩ := h3
      · simp only [List.length_append, List.length_cons, List.length_nil] at this ⊢; omega
      · have := prO_len h4; have := prO_kd h4; omega
      · simp only [List.length_append, List.length_cons, List.length_nil] at this ⊢; omega
    · simp only [List.length_append, List.length_cons, List.length_nil]; omega
  · have := prO_len h; have := prO_kd h; omega
set_option maxRecDepth 100000 in
set_option maxHeartbeats 2000000 in
theorem rr_all {X : ev_X} {c0 : Nat} {ts : RT} {t sh : List Nat} {u pl : Nat} {σ : Nat → Int32} {τ : Nat → Nat → Int32} (hX : XS X c0) (hC : RC ts t u pl sh σ τ) : Rx X c0 m_Mod_readAll 0 [.ref (c0 + 16)] [] σ τ (raP σ τ t) := by
  have hl := hC.2.1.2.1
  refine Rx.go (fun _ => rfl) ?_
  refine Rx.go (fun _ => rfl) ?_
  refine Rx.put rfl (by decide) rfl rfl ?_
  refine Rx.go (fun _ => rfl) ?_
  refine Rx.go (fun _ => rfl) ?_
  refine Rx.get rfl rfl ?_
  refine Rx.top (y := nI t.length) hC.2.1.1 ?_
  refine Rx.put rfl (by decide) rfl rfl ?_
  refine Rx.go (fun _ => rfl) ?_
  refine Rx.go (fun _ => rfl) ?_
  refine Rx.put rfl (by decide) rfl rfl ?_
  refine Rx.go (fun _ => rfl) ?_
  obtain ⟨D, k, qq, db, hD, hS⟩ := hC.rs
  refine Rx.call rfl rfl rfl rfl (rr_one hX hD hS) ?_
  rintro v σ1 τ1 ⟨rfl, f, (⟨q, d, kd, qq2, db2, hO, hR⟩ | ⟨wn, m, j, hF, hG, hm, hj⟩)⟩
  · show Rx X c0 m_Mod_readAll 22 [.ref (c0 + 16)] [] σ1 τ1 _
    refine Rx.go (fun _ => rfl) ?_
    refine Rx.callE rfl rfl rfl rfl (rz_good hR.z) ?_
    show Rx X c0 m_Mod_readAll 26 [.ref (c0 + 16)] [.int 1] σ1 τ1 _
    refine Rx.go (fun _ => rfl) ?_
    show Rx X c0 m_Mod_readAll 29 [.ref (c0 + 16)] [] σ1 τ1 _
    refine Rx.go (fun _ => rfl) ?_
    refine Rx.get rfl rfl ?_
    refine Rx.top (y := nI q) hR.f16 ?_
    refine Rx.go (fun _ => rfl) ?_
    refine Rx.get rfl rfl ?_
    refine Rx.top (y := nI t.length) hR.f17 ?_
    refine Rx.go (fun _ => rfl) ?_
    refine Rx.ite (fun c1 => ?_) (fun c1 => ?_)
    · replace c1 : (nI t.length) ≤ (nI q) := of_decide_eq_true c1
      show Rx X c0 m_Mod_readAll 50 [.ref (c0 + 16)] [] σ1 τ1 _
      refine Rx.go (fun _ => rfl) ?_
      refine Rx.go (fun _ => rfl) ?_
      refine Rx.callE rfl rfl rfl rfl (rz_good hR.z) ?_
      show Rx X c0 m_Mod_readAll 55 [.ref (c0 + 16)] [.int 1, .ref (c0 + 16)] σ1 τ1 _
      refine Rx.go (fun _ => rfl) ?_
      show Rx X c0 m_Mod_readAll 58 [.ref (c0 + 16)] [.ref (c0 + 16)] σ1 τ1 _
      refine Rx.go (fun _ => rfl) ?_
      refine Rx.get rfl rfl ?_
      refine Rx.top (y := nI t.length) (hR.1.1.1.trans hC.2.1.1) ?_
      refine Rx.go (fun _ => rfl) ?_
      refine Rx.put rfl (by decide) rfl rfl ?_
      refine Rx.go (fun _ => rfl) ?_
      refine Rx.go (fun _ => rfl) ?_
      refine Rx.put rfl (by decide) rfl rfl ?_
      refine Rx.go (fun _ => rfl) ?_
      refine Rx.callE rfl rfl rfl rfl (rx_isGood X c0 _ _) ?_
      refine Rx.top (y := 1) (bi_t (decide_eq_true (show (upd (upd σ1 2 (nI t.length)) 1 0) 18 = 0 from hR.2.2.1))) ?_
      show Rx X c0 m_Mod_readAll 81 [.ref (c0 + 16)] [.int 1] (upd (upd σ1 2 (nI t.length)) 1 0) τ1 _
      show Rx X c0 m_Mod_readAll 81 [.ref (c0 + 16)] [.int 1] (upd (upd σ1 2 (nI t.length)) 1 0) τ1 _
      have e : q = t.length := by have := (nI_leI (by omega) (by have := hR.pl; omega)).mp c1; have := hR.pl; omega
      subst e
      exact Rx.ret rfl rfl ⟨f, _, Or.inl ⟨rfl, d, kd, qq2, db2, hO, hR, rfl⟩⟩
    · replace c1 : ¬ (nI t.length) ≤ (nI q) := of_decide_eq_false c1
      show Rx X c0 m_Mod_readAll 40 [.ref (c0 + 16)] [] σ1 τ1 _
      refine Rx.go (fun _ => rfl) ?_
      refine Rx.go (fun _ => rfl) ?_
      refine Rx.go (fun _ => rfl) ?_
      refine Rx.get rfl rfl ?_
      refine Rx.top (y := nI q) hR.f16 ?_
      refine Rx.callP rfl rfl rfl rfl (rs_fl (wn := q) hR (by decide) rfl) ?_
      intro σ17 τ17 hS17
      show Rx X c0 m_Mod_readAll 50 [.ref (c0 + 16)] [] σ17 τ17 _
      refine Rx.go (fun _ => rfl) ?_
      refine Rx.go (fun _ => rfl) ?_
      refine Rx.callE rfl rfl rfl rfl (rg_good hS17) ?_
      show Rx X c0 m_Mod_readAll 55 [.ref (c0 + 16)] [.int 0, .ref (c0 + 16)] σ17 τ17 _
      refine Rx.go (fun _ => rfl) ?_
      show Rx X c0 m_Mod_readAll 65 [.ref (c0 + 16)] [.ref (c0 + 16)] σ17 τ17 _
      refine Rx.go (fun _ => rfl) ?_
      refine Rx.get rfl rfl ?_
      refine Rx.top (y := nI q) hS17.2.2.2.1 ?_
      refine Rx.put rfl (by decide) rfl rfl ?_
      refine Rx.go (fun _ => rfl) ?_
      refine Rx.go (fun _ => rfl) ?_
      refine Rx.put rfl (by decide) rfl rfl ?_
      refine Rx.go (fun _ => rfl) ?_
      refine Rx.callE rfl rfl rfl rfl (rx_isGood X c0 _ _) ?_
      refine Rx.top (y := 0) (bi_f (decide_eq_false (show ¬ (upd (upd σ17 2 (nI q)) 1 0) 18 = 0 from hS17.2.2.1))) ?_
      show Rx X c0 m_Mod_readAll 81 [.ref (c0 + 16)] [.int 0] (upd (upd σ17 2 (nI q)) 1 0) τ17 _
      show Rx X c0 m_Mod_readAll 81 [.ref (c0 + 16)] [.int 0] (upd (upd σ17 2 (nI q)) 1 0) τ17 _
      exact Rx.ret rfl rfl ⟨f, _, Or.inr ⟨rfl, _, _, _, Or.inr ⟨d, kd, qq2, db2, hO, Nat.lt_of_not_le (fun e => c1 ((nI_leI (by omega) (by have := hR.pl; omega)).mpr e))⟩, hS17, (roO_len hO).1, by omega, rfl⟩⟩
  · show Rx X c0 m_Mod_readAll 22 [.ref (c0 + 16)] [] σ1 τ1 _
    refine Rx.go (fun _ => rfl) ?_
    refine Rx.callE rfl rfl rfl rfl (rg_good hG) ?_
    show Rx X c0 m_Mod_readAll 26 [.ref (c0 + 16)] [.int 0] σ1 τ1 _
    refine Rx.go (fun _ => rfl) ?_
    show Rx X c0 m_Mod_readAll 50 [.ref (c0 + 16)] [] σ1 τ1 _
    refine Rx.go (fun _ => rfl) ?_
    refine Rx.go (fun _ => rfl) ?_
    refine Rx.callE rfl rfl rfl rfl (rg_good hG) ?_
    show Rx X c0 m_Mod_readAll 55 [.ref (c0 + 16)] [.int 0, .ref (c0 + 16)] σ1 τ1 _
    refine Rx.go (fun _ => rfl) ?_
    show Rx X c0 m_Mod_readAll 65 [.ref (c0 + 16)] [.ref (c0 + 16)] σ1 τ1 _
    refine Rx.go (fun _ => rfl) ?_
    refine Rx.get rfl rfl ?_
    refine Rx.top (y := nI wn) hG.2.2.2.1 ?_
    refine Rx.put rfl (by decide) rfl rfl ?_
    refine Rx.go (fun _ => rfl) ?_
    refine Rx.go (fun _ => rfl) ?_
    refine Rx.put rfl (by decide) rfl rfl ?_
    refine Rx.go (fun _ => rfl) ?_
    refine Rx.callE rfl rfl rfl rfl (rx_isGood X c0 _ _) ?_
    refine Rx.top (y := 0) (bi_f (decide_eq_false (show ¬ (upd (upd σ1 2 (nI wn)) 1 0) 18 = 0 from hG.2.2.1))) ?_
    show Rx X c0 m_Mod_readAll 81 [.ref (c0 + 16)] [.int 0] (upd (upd σ1 2 (nI wn)) 1 0) τ1 _
    show Rx X c0 m_Mod_readAll 81 [.ref (c0 + 16)] [.int 0] (upd (upd σ1 2 (nI wn)) 1 0) τ1 _
    exact Rx.ret rfl rfl ⟨f, _, Or.inr ⟨rfl, _, _, _, Or.inl hF, hG, hm, hj, rfl⟩⟩
