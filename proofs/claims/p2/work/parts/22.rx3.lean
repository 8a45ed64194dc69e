/-! makeDraft of the reference. (rows laid by wip/whole/rx4.py) -/
theorem off_app (ts : RT) (t : Nat × List Nat × Nat) : ∀ i, i ≤ ts.length → off (ts ++ [t]) i = off ts i := by
  induction ts with
  | nil => intro i h; rw [show i = 0 by simpa using h]; rfl
  | cons a l ih =>
    intro i h
    cases i with
    | zero => rfl
    | succ i => simp only [List.cons_append, off]; rw [ih i (by simpa using h)]
theorem getD_app {ts : RT} {t z : Nat × List Nat × Nat} {i : Nat} (h : i < ts.length) : (ts ++ [t]).getD i z = ts.getD i z := by
  rw [List.getD_eq_getElem?_getD, List.getD_eq_getElem?_getD, List.getElem?_append_left h]
theorem getD_last {ts : RT} {t z : Nat × List Nat × Nat} : (ts ++ [t]).getD ts.length z = t := by
  rw [List.getD_eq_getElem?_getD, List.getElem?_append_right (Nat.le_refl _), Nat.sub_self]; rfl
theorem bys_app {ts : RT} {t : Nat × List Nat × Nat} {i : Nat} (h : i < ts.length) : bys (ts ++ [t]) i = bys ts i := by unfold bys; rw [getD_app h]
theorem knd_app {ts : RT} {t : Nat × List Nat × Nat} {i : Nat} (h : i < ts.length) : knd (ts ++ [t]) i = knd ts i := by unfold knd; rw [getD_app h]
theorem quo_app {ts : RT} {t : Nat × List Nat × Nat} {i : Nat} (h : i < ts.length) : quo (ts ++ [t]) i = quo ts i := by unfold quo; rw [getD_app h]
theorem rt_app {σ σ' : Nat → Int32} {τ τ' : Nat → Nat → Int32} {ts : RT} {dk q : Nat} {d : List Nat} (hR : rt σ τ ts) (hdl : d.length ≤ 260) (hdb : ∀ k, d.getD k 0 < 256) (hdk : dk < 16) (hq : q ≤ 260) (hroom : off ts ts.length + d.length ≤ 132000) (hl : ts.length < 2000) (h7 : σ' 7 = nI (ts.length + 1))
    (h5 : τ' 5 = upd (τ 5) (ts.length + 1) (nI dk)) (h6 : τ' 6 = upd (τ 6) (ts.length + 1) (nI q)) (h4 : τ' 4 = upd (τ 4) (ts.length + 1 + 1) (nI (off ts ts.length + d.length))) (h3a : ∀ x, x < off ts ts.length → τ' 3 x = τ 3 x) (h3b : ∀ j, j < d.length → τ' 3 (off ts ts.length + j) = nI (d.getD j 0)) : rt σ' τ' (ts ++ [(dk, d, q)]) := by
  have hlen : (ts ++ [(dk, d, q)]).length = ts.length + 1 := by simp
  have hlast : (ts ++ [(dk, d, q)]).getD ts.length (0, [], 0) = (dk, d, q) := getD_last
  have hoff : off (ts ++ [(dk, d, q)]) (ts.length + 1) = off ts ts.length + d.length := by
    rw [off_succ _ _ (by omega), off_app _ _ _ (Nat.le_refl _)]; unfold bys; rw [hlast]
  refine ⟨by rw [hlen]; exact h7, by omega, by rw [hlen, hoff]; exact hroom, fun i hi => ?_, fun i hi => ?_⟩
  · rw [h4]
    rcases Nat.lt_or_ge ts.length i with q1 | q1
    · rw [show i = ts.length + 1 by omega, pk_us, hoff]
    · rw [pk_un (by omega), off_app _ _ _ q1]; exact hR.2.2.2.1 i q1
  · rw [hlen] at hi
    rcases Nat.lt_or_ge i ts.length with q1 | q1
    · obtain ⟨g1, g2, g3, g4⟩ := hR.2.2.2.2 i q1
      refine ⟨by rw [h5, pk_un (by omega), knd_app q1]; exact g1, by rw [h6, pk_un (by omega), quo_app q1]; exact g2, fun k hk => ?_, ?_⟩
      · rw [bys_app q1] at hk ⊢
        rw [off_app _ _ _ (by omega), h3a _ (by have := off_succ ts i q1; have := off_le ts (i + 1) ts.length (by omega) (Nat.le_refl _); omega)]
        exact g3 k hk
      · unfold okb; rw [bys_app q1, knd_app q1, quo_app q1]; exact g4
    · rw [show i = ts.length by omega]
      unfold okb bys knd quo
      rw [hlast]
      refine ⟨by rw [h5, pk_us], by rw [h6, pk_us], fun k hk => ?_, hdb, hdk, hdl, hq⟩
      rw [off_app _ _ _ (Nat.le_refl _)]; exact h3b k hk
theorem md_step {τ τ1 : Nat → Nat → Int32} {o k : Nat} {d : List Nat} (hk : k < d.length) (ho : o + d.length ≤ 132000) (he : ∀ kk, kk ≠ 3 → τ1 kk = τ kk) (hx : ∀ x, x < o → τ1 3 x = τ 3 x) (hj : ∀ j, j < k → τ1 3 (o + j) = nI (d.getD j 0)) :
    (∀ kk, kk ≠ 3 → va_up τ1 3 (upd (τ1 3) (nI (o + k)).toNatClampNeg (nI (d.getD k 0))) kk = τ kk) ∧ (∀ x, x < o → va_up τ1 3 (upd (τ1 3) (nI (o + k)).toNatClampNeg (nI (d.getD k 0))) 3 x = τ 3 x) ∧ ∀ j, j < k + 1 → va_up τ1 3 (upd (τ1 3) (nI (o + k)).toNatClampNeg (nI (d.getD k 0))) 3 (o + j) = nI (d.getD j 0) := by
  rw [nI_clamp (by omega)]
  refine ⟨fun kk hkk => by rw [va_up_ne _ _ hkk]; exact he kk hkk, fun x h => by rw [va_up_self, pk_un (by omega)]; exact hx x h, fun j h => ?_⟩
  rw [va_up_self]
  rcases Nat.lt_or_ge j k with q | q
  · rw [pk_un (by omega)]; exact hj j q
  · rw [show j = k by omega, pk_us]
theorem md_ge {k : Nat} {d : List Nat} (hdl : d.length ≤ 260) (hk : k ≤ d.length) (c : nI d.length ≤ nI k) : k = d.length := by
  rw [nI_leI (by omega) (by omega)] at c; omega
theorem md_lt {k : Nat} {d : List Nat} (hdl : d.length ≤ 260) (hk : k ≤ d.length) (c : ¬ nI d.length ≤ nI k) : k < d.length := by
  rw [nI_leI (by omega) (by omega)] at c; omega
set_option maxRecDepth 100000 in
set_option maxHeartbeats 1000000 in
theorem rx_makeDraft_l (X : ev_X) (c0 : Nat) (σ : Nat → Int32) (τ : Nat → Nat → Int32) {n o : Nat} {d : List Nat} (z : Int32) (h7 : σ 7 = nI (n + 1)) (h10 : σ 10 = nI d.length) (hdl : d.length ≤ 260) (hn : n < 2000) (ho : o + d.length ≤ 132000) (h4 : τ 4 (n + 1) = nI o) (h9 : ∀ k, k < d.length → τ 9 k = nI (d.getD k 0)) : ∀ (m : Nat) (k : Nat) (τ1 : Nat → Nat → Int32) (hk : k ≤ d.length) (hm : d.length + 1 ≤ k + m) (he : ∀ kk, kk ≠ 3 → τ1 kk = τ kk) (hx : ∀ x, x < o → τ1 3 x = τ 3 x) (hj : ∀ j, j < k → τ1 3 (o + j) = nI (d.getD j 0)), Rx X c0 m_Mod_makeDraft 101 [.ref (c0 + 16), .int z, .int (nI k)] [] σ τ1 (fun r σ' τ' => r = some (.int (nI (n + 1))) ∧ σ' = upd σ 8 (σ 8 + σ 13) ∧ (∀ kk, kk ≠ 3 → τ' kk = τ kk) ∧ (∀ x, x < o → τ' 3 x = τ 3 x) ∧ ∀ j, j < d.length → τ' 3 (o + j) = nI (d.getD j 0)) := by
  intro m
  induction m with
  | zero => intro k τ1 hk hm he hx hj; exact absurd hm (by omega)
  | succ m ih =>
    intro k τ1 hk hm he hx hj
    refine Rx.go (fun _ => rfl) ?_
    refine Rx.go (fun _ => rfl) ?_
    refine Rx.get rfl rfl ?_
    refine Rx.top (y := nI d.length) h10 ?_
    refine Rx.go (fun _ => rfl) ?_
    refine Rx.ite (fun c1 => ?_) (fun c1 => ?_)
    · replace c1 : (nI d.length) ≤ (nI k) := of_decide_eq_true c1
      show Rx X c0 m_Mod_makeDraft 137 [.ref (c0 + 16), .int z, .int (nI k)] [] σ τ1 _
      refine Rx.go (fun _ => rfl) ?_
      refine Rx.go (fun _ => rfl) ?_
      refine Rx.get rfl rfl ?_
      refine Rx.go (fun _ => rfl) ?_
      refine Rx.get rfl rfl ?_
      refine Rx.go (fun _ => rfl) ?_
      refine Rx.put rfl (by decide) rfl rfl ?_
      refine Rx.go (fun _ => rfl) ?_
      refine Rx.get rfl rfl ?_
      exact Rx.ret rfl (ev_reti rfl) ⟨congrArg (fun x => some (Value.int x)) h7, rfl, he, hx, by rw [← md_ge hdl hk c1]; exact hj⟩
    · replace c1 : ¬ (nI d.length) ≤ (nI k) := of_decide_eq_false c1
      have hlt := md_lt hdl hk c1
      show Rx X c0 m_Mod_makeDraft 109 [.ref (c0 + 16), .int z, .int (nI k)] [] σ τ1 _
      refine Rx.go (fun _ => rfl) ?_
      refine Rx.get rfl rfl ?_
      refine Rx.go (fun _ => rfl) ?_
      refine Rx.get rfl rfl ?_
      refine Rx.go (fun _ => rfl) ?_
      refine Rx.get rfl rfl ?_
      refine Rx.top (y := nI (n + 1)) h7 ?_
      refine Rx.aldE (v := nI o) 4 rfl rfl (nI_ix (N := 2002) (n := n + 1) (by omega) (by decide)) (by rw [he 4 (by decide), nI_clamp (by omega)]; exact h4) ?_
      refine Rx.go (fun _ => rfl) ?_
      refine Rx.go (fun _ => rfl) ?_
      refine Rx.top (y := nI (o + k)) (nI_add _ _) ?_
      refine Rx.go (fun _ => rfl) ?_
      refine Rx.get rfl rfl ?_
      refine Rx.go (fun _ => rfl) ?_
      refine Rx.aldE (v := nI (d.getD k 0)) 9 rfl rfl (nI_ix (N := 260) (n := k) (by omega) (by decide)) (by rw [he 9 (by decide), nI_clamp (by omega)]; exact h9 k hlt) ?_
      refine Rx.ast 3 rfl rfl (nI_ix (N := 132000) (n := o + k) (by omega) (by decide)) ?_
      refine Rx.go (fun _ => rfl) ?_
      show Rx X c0 m_Mod_makeDraft 134 [.ref (c0 + 16), .int z, .int ((nI k) + 1)] [] σ (va_up τ1 3 (upd (τ1 3) (nI (o + k)).toNatClampNeg (nI (d.getD k 0)))) _
      refine Rx.go (fun _ => rfl) ?_
      show Rx X c0 m_Mod_makeDraft 101 [.ref (c0 + 16), .int z, .int ((nI k) + 1)] [] σ (va_up τ1 3 (upd (τ1 3) (nI (o + k)).toNatClampNeg (nI (d.getD k 0)))) _
      rw [nI_1 k]
      obtain ⟨g1, g2, g3⟩ := md_step hlt ho he hx hj
      exact ih (k + 1) _ hlt (by omega) g1 g2 g3
section MD
variable {σ : Nat → Int32} {τ : Nat → Nat → Int32} {ts : RT} {dk j u db : Nat} {d : List Nat}
theorem md_pos (c : ¬ nI j ≤ 0) : 0 < j := by
  rcases Nat.eq_zero_or_pos j with q | q
  · subst q; exact absurd (by rw [nI_0]; exact Int32.le_refl _) c
  · exact q
theorem md_0 (hR : rt σ τ ts) (hj : fdP ts dk d j) (c : nI j ≤ 0) : j = 0 := by
  rcases hj with ⟨⟨h1, h2, -⟩, -⟩ | ⟨h, -⟩
  · exact absurd c (nI_nle h1 (by have := hR.2.1; omega))
  · exact h
theorem md_2000 (hR : rt σ τ ts) (c : σ 7 = 2000) : ts.length = 2000 := (nI_eq (by have := hR.2.1; omega) (by decide)).mp (hR.1.symm.trans c)
theorem md_n2 (hR : rt σ τ ts) (c : ¬ σ 7 = 2000) : ts.length < 2000 := by
  have h1 := hR.2.1
  rcases Nat.lt_or_ge ts.length 2000 with q | q
  · exact q
  · exact absurd (by rw [hR.1, show ts.length = 2000 by omega]; rfl) c
theorem md_big (hu : u ≤ 40000) (hdb : db ≤ 1000) (c : ¬ nI (u + db) ≤ 40000) : 40000 < u + db := by
  rw [show (40000 : Int32) = nI 40000 from rfl, nI_leI (by omega) (by decide)] at c; omega
theorem md_small (hu : u ≤ 40000) (hdb : db ≤ 1000) (c : nI (u + db) ≤ 40000) : u + db ≤ 40000 := by
  rw [show (40000 : Int32) = nI 40000 from rfl, nI_leI (by omega) (by decide)] at c; omega
theorem md_f (hR : rt σ τ ts) {f : Nat → Int32} (hf : f = upd (τ 4) (nI (ts.length + 1 + 1)).toNatClampNeg (nI (off ts ts.length + d.length))) : f (ts.length + 1) = nI (off ts ts.length) := by
  rw [hf, nI_clamp (by have := hR.2.1; omega), pk_un (by omega)]; exact hR.2.2.2.1 _ (Nat.le_refl _)
end MD
set_option maxRecDepth 100000 in
set_option maxHeartbeats 1000000 in
theorem rx_makeDraft (X : ev_X) (c0 : Nat) (σ : Nat → Int32) (τ : Nat → Nat → Int32) {ts : RT} (hR : rt σ τ ts) {d : List Nat} (hd : drf σ τ d) {dk : Nat} (hk : σ 11 = nI dk) (hdk : dk < 16) {q u db : Nat} (h12 : σ 12 = nI q) (hq : q ≤ 260) (h8 : σ 8 = nI u) (hu : u ≤ 40000) (h13 : σ 13 = nI db) (hdb : db ≤ 1000) (hroom : off ts ts.length + d.length ≤ 132000) : Rx X c0 m_Mod_makeDraft 0 [.ref (c0 + 16), ev_dead, ev_dead] [] σ τ (fun r σ' τ' => (∃ j : Nat, 0 < j ∧ fdP ts dk d j ∧ r = some (.int (nI j)) ∧ σ' = σ ∧ τ' = τ) ∨ (fdP ts dk d 0 ∧ (ts.length = 2000 ∨ 40000 < u + db) ∧ r = some (.int (-3)) ∧ σ' = σ ∧ τ' = τ) ∨ (fdP ts dk d 0 ∧ ts.length < 2000 ∧ u + db ≤ 40000 ∧ r = some (.int (nI (ts.length + 1))) ∧ σ' = upd (upd σ 7 (nI (ts.length + 1))) 8 (nI (u + db)) ∧ rt σ' τ' (ts ++ [(dk, d, q)]) ∧ ∀ kk, kk ≠ 3 → kk ≠ 4 → kk ≠ 5 → kk ≠ 6 → τ' kk = τ kk)) := by
  refine Rx.go (fun _ => rfl) ?_
  refine Rx.callX rfl rfl rfl rfl (rx_findDraft X c0 _ _ hR hd hk hdk) (fun j hj => ?_)
  show Rx X c0 m_Mod_makeDraft 4 [.ref (c0 + 16), ev_dead, ev_dead] [.int (nI j)] σ τ _
  refine Rx.go (fun _ => rfl) ?_
  show Rx X c0 m_Mod_makeDraft 5 [.ref (c0 + 16), .int (nI j), ev_dead] [] σ τ _
  refine Rx.go (fun _ => rfl) ?_
  refine Rx.go (fun _ => rfl) ?_
  refine Rx.ite (fun c1 => ?_) (fun c1 => ?_)
  · replace c1 : (nI j) ≤ 0 := of_decide_eq_true c1
    show Rx X c0 m_Mod_makeDraft 11 [.ref (c0 + 16), .int (nI j), ev_dead] [] σ τ _
    refine Rx.go (fun _ => rfl) ?_
    refine Rx.get rfl rfl ?_
    refine Rx.go (fun _ => rfl) ?_
    refine Rx.go (fun _ => rfl) ?_
    refine Rx.ite (fun c2 => ?_) (fun c2 => ?_)
    · replace c2 : (σ 7) = 2000 := of_decide_eq_true c2
      show Rx X c0 m_Mod_makeDraft 35 [.ref (c0 + 16), .int (nI j), ev_dead] [] σ τ _
      refine Rx.go (fun _ => rfl) ?_
      exact Rx.ret rfl (ev_reti rfl) (Or.inr (Or.inl ⟨md_0 hR hj c1 ▸ hj, Or.inl (md_2000 hR c2), rfl, rfl, rfl⟩))
    · replace c2 : ¬ (σ 7) = 2000 := of_decide_eq_false c2
      show Rx X c0 m_Mod_makeDraft 21 [.ref (c0 + 16), .int (nI j), ev_dead] [] σ τ _
      refine Rx.go (fun _ => rfl) ?_
      refine Rx.get rfl rfl ?_
      refine Rx.go (fun _ => rfl) ?_
      refine Rx.get rfl rfl ?_
      refine Rx.go (fun _ => rfl) ?_
      refine Rx.top (y := nI (u + db)) (by rw [h8, h13]; exact nI_add _ _) ?_
      refine Rx.go (fun _ => rfl) ?_
      refine Rx.go (fun _ => rfl) ?_
      refine Rx.ite (fun c3 => ?_) (fun c3 => ?_)
      · replace c3 : (nI (u + db)) ≤ 40000 := of_decide_eq_true c3
        show Rx X c0 m_Mod_makeDraft 38 [.ref (c0 + 16), .int (nI j), ev_dead] [] σ τ _
        refine Rx.go (fun _ => rfl) ?_
        refine Rx.go (fun _ => rfl) ?_
        refine Rx.get rfl rfl ?_
        refine Rx.go (fun _ => rfl) ?_
        refine Rx.go (fun _ => rfl) ?_
        refine Rx.top (y := nI (ts.length + 1)) (by rw [hR.1]; exact nI_1 _) ?_
        refine Rx.put rfl (by decide) rfl rfl ?_
        refine Rx.go (fun _ => rfl) ?_
        refine Rx.get rfl rfl ?_
        refine Rx.go (fun _ => rfl) ?_
        refine Rx.get rfl rfl ?_
        refine Rx.go (fun _ => rfl) ?_
        refine Rx.get rfl rfl ?_
        refine Rx.ast 5 rfl rfl (nI_ix (N := 2002) (n := ts.length + 1) (by have := hR.2.1; omega) (by decide)) ?_
        refine Rx.go (fun _ => rfl) ?_
        refine Rx.get rfl rfl ?_
        refine Rx.go (fun _ => rfl) ?_
        refine Rx.get rfl rfl ?_
        refine Rx.go (fun _ => rfl) ?_
        refine Rx.get rfl rfl ?_
        refine Rx.ast 6 rfl rfl (nI_ix (N := 2002) (n := ts.length + 1) (by have := hR.2.1; omega) (by decide)) ?_
        refine Rx.go (fun _ => rfl) ?_
        refine Rx.get rfl rfl ?_
        refine Rx.go (fun _ => rfl) ?_
        refine Rx.get rfl rfl ?_
        refine Rx.go (fun _ => rfl) ?_
        refine Rx.go (fun _ => rfl) ?_
        refine Rx.top (y := nI (ts.length + 1 + 1)) (nI_1 _) ?_
        refine Rx.go (fun _ => rfl) ?_
        refine Rx.get rfl rfl ?_
        refine Rx.go (fun _ => rfl) ?_
        refine Rx.get rfl rfl ?_
        refine Rx.aldE (v := nI (off ts ts.length)) 4 rfl rfl (nI_ix (N := 2002) (n := ts.length + 1) (by have := hR.2.1; omega) (by decide)) (rt_f hR (Nat.le_refl _)) ?_
        refine Rx.go (fun _ => rfl) ?_
        refine Rx.get rfl rfl ?_
        refine Rx.go (fun _ => rfl) ?_
        refine Rx.top (y := nI (off ts ts.length + d.length)) (by show nI _ + σ 10 = _; rw [hd.1]; exact nI_add _ _) ?_
        refine Rx.ast 4 rfl rfl (nI_ix (N := 2002) (n := ts.length + 1 + 1) (by have := md_n2 hR c2; omega) (by decide)) ?_
        refine Rx.go (fun _ => rfl) ?_
        refine Rx.go (fun _ => rfl) ?_
        show Rx X c0 m_Mod_makeDraft 101 [.ref (c0 + 16), .int (nI j), .int 0] [] (upd σ 7 (nI (ts.length + 1))) (va_up (va_up (va_up τ 5 (upd (τ 5) (nI (ts.length + 1)).toNatClampNeg (σ 11))) 6 (upd ((va_up τ 5 (upd (τ 5) (nI (ts.length + 1)).toNatClampNeg (σ 11))) 6) (nI (ts.length + 1)).toNatClampNeg (σ 12))) 4 (upd ((va_up (va_up τ 5 (upd (τ 5) (nI (ts.length + 1)).toNatClampNeg (σ 11))) 6 (upd ((va_up τ 5 (upd (τ 5) (nI (ts.length + 1)).toNatClampNeg (σ 11))) 6) (nI (ts.length + 1)).toNatClampNeg (σ 12))) 4) (nI (ts.length + 1 + 1)).toNatClampNeg (nI (off ts ts.length + d.length)))) _
        show Rx X c0 m_Mod_makeDraft 101 [.ref (c0 + 16), .int (nI j), .int 0] [] (upd σ 7 (nI (ts.length + 1))) (va_up (va_up (va_up τ 5 (upd (τ 5) (nI (ts.length + 1)).toNatClampNeg (σ 11))) 6 (upd ((va_up τ 5 (upd (τ 5) (nI (ts.length + 1)).toNatClampNeg (σ 11))) 6) (nI (ts.length + 1)).toNatClampNeg (σ 12))) 4 (upd ((va_up (va_up τ 5 (upd (τ 5) (nI (ts.length + 1)).toNatClampNeg (σ 11))) 6 (upd ((va_up τ 5 (upd (τ 5) (nI (ts.length + 1)).toNatClampNeg (σ 11))) 6) (nI (ts.length + 1)).toNatClampNeg (σ 12))) 4) (nI (ts.length + 1 + 1)).toNatClampNeg (nI (off ts ts.length + d.length)))) _
        refine (rx_makeDraft_l X c0 (upd σ 7 (nI (ts.length + 1))) (va_up (va_up (va_up τ 5 (upd (τ 5) (nI (ts.length + 1)).toNatClampNeg (σ 11))) 6 (upd ((va_up τ 5 (upd (τ 5) (nI (ts.length + 1)).toNatClampNeg (σ 11))) 6) (nI (ts.length + 1)).toNatClampNeg (σ 12))) 4 (upd ((va_up (va_up τ 5 (upd (τ 5) (nI (ts.length + 1)).toNatClampNeg (σ 11))) 6 (upd ((va_up τ 5 (upd (τ 5) (nI (ts.length + 1)).toNatClampNeg (σ 11))) 6) (nI (ts.length + 1)).toNatClampNeg (σ 12))) 4) (nI (ts.length + 1 + 1)).toNatClampNeg (nI (off ts ts.length + d.length)))) (n := ts.length) (o := off ts ts.length) (d := d) _ rfl hd.1 hd.2.1 (md_n2 hR c2) hroom (md_f hR rfl) hd.2.2.1 (d.length + 1) 0 (va_up (va_up (va_up τ 5 (upd (τ 5) (nI (ts.length + 1)).toNatClampNeg (σ 11))) 6 (upd ((va_up τ 5 (upd (τ 5) (nI (ts.length + 1)).toNatClampNeg (σ 11))) 6) (nI (ts.length + 1)).toNatClampNeg (σ 12))) 4 (upd ((va_up (va_up τ 5 (upd (τ 5) (nI (ts.length + 1)).toNatClampNeg (σ 11))) 6 (upd ((va_up τ 5 (upd (τ 5) (nI (ts.length + 1)).toNatClampNeg (σ 11))) 6) (nI (ts.length + 1)).toNatClampNeg (σ 12))) 4) (nI (ts.length + 1 + 1)).toNatClampNeg (nI (off ts ts.length + d.length)))) (Nat.zero_le _) (by omega) (fun _ _ => rfl) (fun _ _ => rfl) (fun j q => absurd q (by omega))).mono ?_
        rintro r σ' τ' ⟨rfl, rfl, e1, e2, e3⟩
        refine Or.inr (Or.inr ⟨md_0 hR hj c1 ▸ hj, md_n2 hR c2, md_small hu hdb c3, rfl, ?_, ?_, ?_⟩)
        · show upd (upd σ 7 (nI (ts.length + 1))) 8 (σ 8 + σ 13) = _
          rw [h8, h13, nI_add]
        · refine rt_app hR hd.2.1 hd.2.2.2 hdk hq hroom (md_n2 hR c2) rfl ?_ ?_ ?_ e2 e3
          · rw [e1 5 (by decide)]
            show upd (τ 5) (nI (ts.length + 1)).toNatClampNeg (σ 11) = _
            rw [nI_clamp (by have := hR.2.1; omega), hk]
          · rw [e1 6 (by decide)]
            show upd (τ 6) (nI (ts.length + 1)).toNatClampNeg (σ 12) = _
            rw [nI_clamp (by have := hR.2.1; omega), h12]
          · rw [e1 4 (by decide)]
            show upd (τ 4) (nI (ts.length + 1 + 1)).toNatClampNeg _ = _
            rw [nI_clamp (by have := hR.2.1; omega)]
        · intro kk k3 k4 k5 k6
          rw [e1 kk k3]
          simp [va_up, k4, k5, k6]
      · replace c3 : ¬ (nI (u + db)) ≤ 40000 := of_decide_eq_false c3
        show Rx X c0 m_Mod_makeDraft 35 [.ref (c0 + 16), .int (nI j), ev_dead] [] σ τ _
        refine Rx.go (fun _ => rfl) ?_
        exact Rx.ret rfl (ev_reti rfl) (Or.inr (Or.inl ⟨md_0 hR hj c1 ▸ hj, Or.inr (md_big hu hdb c3), rfl, rfl, rfl⟩))
  · replace c1 : ¬ (nI j) ≤ 0 := of_decide_eq_false c1
    show Rx X c0 m_Mod_makeDraft 9 [.ref (c0 + 16), .int (nI j), ev_dead] [] σ τ _
    refine Rx.go (fun _ => rfl) ?_
    exact Rx.ret rfl (ev_reti rfl) (Or.inl ⟨j, md_pos c1, hj, rfl, rfl, rfl⟩)
