/-! Terms told by the reference. (rows laid by wip/whole/rx5.py) -/
/-- a number of no term -/
def noT (σ : Nat → Int32) (t : Int32) : Prop := (!decide (t ≤ 0) && !decide (σ 7 < t)) = false
theorem isT_in {σ : Nat → Int32} {τ : Nat → Nat → Int32} {ts : RT} (hR : rt σ τ ts) {i : Nat} (hi : i < ts.length) : (!decide (nI (i + 1) ≤ 0) && !decide (σ 7 < nI (i + 1))) = true := by
  have h1 := hR.2.1
  rw [hR.1]
  simp [nI_nle (n := i + 1) (by omega) (by omega), nI_ltI (a := ts.length) (b := i + 1) (by omega) (by omega)]
  omega
theorem isT_cases {σ : Nat → Int32} {τ : Nat → Nat → Int32} {ts : RT} (hR : rt σ τ ts) (t : Int32) : noT σ t ∨ ∃ i, i < ts.length ∧ t = nI (i + 1) := by
  have h1 := hR.2.1
  by_cases c1 : t ≤ 0
  · exact Or.inl (by simp [noT, c1])
  by_cases c2 : σ 7 < t
  · exact Or.inl (by simp [noT, c2])
  right
  obtain ⟨j, hj, rfl⟩ := nI_of (x := t) (fun q => c1 (Int32.le_of_lt q))
  rw [hR.1, nI_ltI (by omega) hj] at c2
  have h0 : j ≠ 0 := fun q => c1 (by rw [q, nI_0]; exact Int32.le_refl _)
  exact ⟨j - 1, by omega, by rw [show j - 1 + 1 = j by omega]⟩
theorem rx_isT (X : ev_X) (c0 : Nat) (σ : Nat → Int32) (τ : Nat → Nat → Int32) {ts : RT} (hR : rt σ τ ts) {i : Nat} (hi : i < ts.length) : Rx X c0 m_Mod_isTerm 0 [.ref (c0 + 16), .int (nI (i + 1))] [] σ τ (fun r σ' τ' => r = some (.int 1) ∧ σ' = σ ∧ τ' = τ) :=
  (rx_isTerm X c0 σ τ (nI (i + 1))).mono (fun r σ' τ' ⟨h1, h2⟩ => ⟨by rw [h1, isT_in hR hi]; rfl, h2⟩)
theorem rx_noT (X : ev_X) (c0 : Nat) (σ : Nat → Int32) (τ : Nat → Nat → Int32) (t : Int32) (h : noT σ t) : Rx X c0 m_Mod_isTerm 0 [.ref (c0 + 16), .int t] [] σ τ (fun r σ' τ' => r = some (.int 0) ∧ σ' = σ ∧ τ' = τ) :=
  (rx_isTerm X c0 σ τ t).mono (fun r σ' τ' ⟨h1, h2⟩ => ⟨by rw [h1, h]; rfl, h2⟩)
set_option maxRecDepth 100000 in
set_option maxHeartbeats 1000000 in
theorem rx_write_no (X : ev_X) (c0 : Nat) (σ : Nat → Int32) (τ : Nat → Nat → Int32) (t : Int32) (hb : noT σ t) : Rx X c0 m_Mod_write 0 [.ref (c0 + 16), .int t, ev_dead] [] σ τ (fun r σ' τ' => r = some (.int (-1)) ∧ σ' = σ ∧ τ' = τ) := by
  refine Rx.go (fun _ => rfl) ?_
  refine Rx.go (fun _ => rfl) ?_
  refine Rx.callE rfl rfl rfl rfl (rx_noT X c0 _ _ _ hb) ?_
  show Rx X c0 m_Mod_write 5 [.ref (c0 + 16), .int t, ev_dead] [.int 0] σ τ _
  refine Rx.go (fun _ => rfl) ?_
  show Rx X c0 m_Mod_write 8 [.ref (c0 + 16), .int t, ev_dead] [] σ τ _
  refine Rx.go (fun _ => rfl) ?_
  exact Rx.ret rfl (ev_reti rfl) ⟨rfl, rfl, rfl⟩
set_option maxRecDepth 100000 in
set_option maxHeartbeats 1000000 in
theorem rx_kind_no (X : ev_X) (c0 : Nat) (σ : Nat → Int32) (τ : Nat → Nat → Int32) (t : Int32) (hb : noT σ t) : Rx X c0 m_Mod_kind 0 [.ref (c0 + 16), .int t] [] σ τ (fun r σ' τ' => r = some (.int (-1)) ∧ σ' = σ ∧ τ' = τ) := by
  refine Rx.go (fun _ => rfl) ?_
  refine Rx.go (fun _ => rfl) ?_
  refine Rx.callE rfl rfl rfl rfl (rx_noT X c0 _ _ _ hb) ?_
  show Rx X c0 m_Mod_kind 5 [.ref (c0 + 16), .int t] [.int 0] σ τ _
  refine Rx.go (fun _ => rfl) ?_
  show Rx X c0 m_Mod_kind 17 [.ref (c0 + 16), .int t] [] σ τ _
  refine Rx.go (fun _ => rfl) ?_
  exact Rx.ret rfl (ev_reti rfl) ⟨rfl, rfl, rfl⟩
set_option maxRecDepth 100000 in
set_option maxHeartbeats 1000000 in
theorem rx_scale_no (X : ev_X) (c0 : Nat) (σ : Nat → Int32) (τ : Nat → Nat → Int32) (t : Int32) (hb : noT σ t) : Rx X c0 m_Mod_scale 0 [.ref (c0 + 16), .int t, ev_dead, ev_dead] [] σ τ (fun r σ' τ' => r = some (.int (-1)) ∧ σ' = σ ∧ τ' = τ) := by
  refine Rx.go (fun _ => rfl) ?_
  refine Rx.go (fun _ => rfl) ?_
  refine Rx.callE rfl rfl rfl rfl (rx_noT X c0 _ _ _ hb) ?_
  show Rx X c0 m_Mod_scale 5 [.ref (c0 + 16), .int t, ev_dead, ev_dead] [.int 0] σ τ _
  refine Rx.go (fun _ => rfl) ?_
  show Rx X c0 m_Mod_scale 8 [.ref (c0 + 16), .int t, ev_dead, ev_dead] [] σ τ _
  refine Rx.go (fun _ => rfl) ?_
  exact Rx.ret rfl (ev_reti rfl) ⟨rfl, rfl, rfl⟩
set_option maxRecDepth 100000 in
set_option maxHeartbeats 1000000 in
theorem rx_value_no (X : ev_X) (c0 : Nat) (σ : Nat → Int32) (τ : Nat → Nat → Int32) (t : Int32) (hb : noT σ t) : Rx X c0 m_Mod_value 0 [.ref (c0 + 16), .int t, ev_dead, ev_dead, ev_dead, ev_dead, ev_dead, ev_dead] [] σ τ (fun r σ' τ' => r = some (.long 0) ∧ σ' = σ ∧ τ' = τ) := by
  refine Rx.go (fun _ => rfl) ?_
  refine Rx.go (fun _ => rfl) ?_
  refine Rx.callE rfl rfl rfl rfl (rx_noT X c0 _ _ _ hb) ?_
  show Rx X c0 m_Mod_value 5 [.ref (c0 + 16), .int t, ev_dead, ev_dead, ev_dead, ev_dead, ev_dead, ev_dead] [.int 0] σ τ _
  refine Rx.go (fun _ => rfl) ?_
  show Rx X c0 m_Mod_value 8 [.ref (c0 + 16), .int t, ev_dead, ev_dead, ev_dead, ev_dead, ev_dead, ev_dead] [] σ τ _
  refine Rx.go (fun _ => rfl) ?_
  exact Rx.ret rfl rfl ⟨rfl, rfl, rfl⟩
set_option maxRecDepth 100000 in
set_option maxHeartbeats 1000000 in
theorem rx_part_no (X : ev_X) (c0 : Nat) (σ : Nat → Int32) (τ : Nat → Nat → Int32) (t : Int32) (hb : noT σ t) (w : Int32) : Rx X c0 m_Mod_part 0 [.ref (c0 + 16), .int t, .int w, ev_dead, ev_dead] [] σ τ (fun r σ' τ' => r = some (.int (-1)) ∧ σ' = σ ∧ τ' = τ) := by
  refine Rx.go (fun _ => rfl) ?_
  refine Rx.go (fun _ => rfl) ?_
  refine Rx.callE rfl rfl rfl rfl (rx_noT X c0 _ _ _ hb) ?_
  show Rx X c0 m_Mod_part 5 [.ref (c0 + 16), .int t, .int w, ev_dead, ev_dead] [.int 0] σ τ _
  refine Rx.go (fun _ => rfl) ?_
  show Rx X c0 m_Mod_part 8 [.ref (c0 + 16), .int t, .int w, ev_dead, ev_dead] [] σ τ _
  refine Rx.go (fun _ => rfl) ?_
  exact Rx.ret rfl (ev_reti rfl) ⟨rfl, rfl, rfl⟩
set_option maxRecDepth 100000 in
set_option maxHeartbeats 1000000 in
theorem rx_kind_i (X : ev_X) (c0 : Nat) (σ : Nat → Int32) (τ : Nat → Nat → Int32) {ts : RT} (hR : rt σ τ ts) {i : Nat} (hi : i < ts.length) : Rx X c0 m_Mod_kind 0 [.ref (c0 + 16), .int (nI (i + 1))] [] σ τ (fun r σ' τ' => r = some (.int (nI (knd ts i))) ∧ σ' = σ ∧ τ' = τ) := by
  refine Rx.go (fun _ => rfl) ?_
  refine Rx.go (fun _ => rfl) ?_
  refine Rx.callE rfl rfl rfl rfl (rx_isT X c0 _ _ hR hi) ?_
  show Rx X c0 m_Mod_kind 5 [.ref (c0 + 16), .int (nI (i + 1))] [.int 1] σ τ _
  refine Rx.go (fun _ => rfl) ?_
  show Rx X c0 m_Mod_kind 8 [.ref (c0 + 16), .int (nI (i + 1))] [] σ τ _
  refine Rx.go (fun _ => rfl) ?_
  refine Rx.get rfl rfl ?_
  refine Rx.go (fun _ => rfl) ?_
  refine Rx.aldE (v := nI (knd ts i)) 5 rfl rfl (nI_ix (N := 2002) (n := i + 1) (by have := hR.2.1; omega) (by decide)) (rt_k hR hi) ?_
  refine Rx.go (fun _ => rfl) ?_
  exact Rx.ret rfl (ev_reti rfl) ⟨rfl, rfl, rfl⟩
theorem kn_e {σ : Nat → Int32} {τ : Nat → Nat → Int32} {ts : RT} (hR : rt σ τ ts) {i n : Nat} (hi : i < ts.length) {z : Int32} (hz : z = nI n) (hn : n < 2 ^ 31) (c : nI (knd ts i) = z) : knd ts i = n := (nI_eq (by have := (rt_ok hR hi).2.1; omega) hn).mp (c.trans hz)
theorem kn_n {ts : RT} {i n : Nat} {z : Int32} (hz : z = nI n) (c : ¬ nI (knd ts i) = z) : ¬ knd ts i = n := fun q => c (by rw [q, hz])
set_option maxRecDepth 100000 in
set_option maxHeartbeats 1000000 in
theorem rx_isNum (X : ev_X) (c0 : Nat) (σ : Nat → Int32) (τ : Nat → Nat → Int32) {ts : RT} (hR : rt σ τ ts) {i : Nat} (hi : i < ts.length) : Rx X c0 m_Mod_isNumber 0 [.ref (c0 + 16), .int (nI (i + 1))] [] σ τ (fun r σ' τ' => r = some (.int (bi (decide (knd ts i = 3) || decide (knd ts i = 4)))) ∧ σ' = σ ∧ τ' = τ) := by
  refine Rx.go (fun _ => rfl) ?_
  refine Rx.get rfl rfl ?_
  refine Rx.go (fun _ => rfl) ?_
  refine Rx.aldE (v := nI (knd ts i)) 5 rfl rfl (nI_ix (N := 2002) (n := i + 1) (by have := hR.2.1; omega) (by decide)) (rt_k hR hi) ?_
  refine Rx.go (fun _ => rfl) ?_
  refine Rx.go (fun _ => rfl) ?_
  refine Rx.ite (fun c1 => ?_) (fun c1 => ?_)
  · replace c1 : (nI (knd ts i)) = 3 := of_decide_eq_true c1
    show Rx X c0 m_Mod_isNumber 20 [.ref (c0 + 16), .int (nI (i + 1))] [] σ τ _
    refine Rx.go (fun _ => rfl) ?_
    refine Rx.go (fun _ => rfl) ?_
    exact Rx.ret rfl rfl ⟨ret_1 (by simp [kn_e hR hi (n := 3) rfl (by decide) c1]), rfl, rfl⟩
  · replace c1 : ¬ (nI (knd ts i)) = 3 := of_decide_eq_false c1
    show Rx X c0 m_Mod_isNumber 10 [.ref (c0 + 16), .int (nI (i + 1))] [] σ τ _
    refine Rx.go (fun _ => rfl) ?_
    refine Rx.get rfl rfl ?_
    refine Rx.go (fun _ => rfl) ?_
    refine Rx.aldE (v := nI (knd ts i)) 5 rfl rfl (nI_ix (N := 2002) (n := i + 1) (by have := hR.2.1; omega) (by decide)) (rt_k hR hi) ?_
    refine Rx.go (fun _ => rfl) ?_
    refine Rx.go (fun _ => rfl) ?_
    refine Rx.ite (fun c2 => ?_) (fun c2 => ?_)
    · replace c2 : ¬ (nI (knd ts i)) = 4 := of_decide_eq_true c2
      show Rx X c0 m_Mod_isNumber 24 [.ref (c0 + 16), .int (nI (i + 1))] [] σ τ _
      refine Rx.go (fun _ => rfl) ?_
      exact Rx.ret rfl rfl ⟨ret_0 (by simp [kn_n (n := 3) rfl c1, kn_n (n := 4) rfl c2]), rfl, rfl⟩
    · replace c2 : (nI (knd ts i)) = 4 := Classical.not_not.mp (of_decide_eq_false c2)
      show Rx X c0 m_Mod_isNumber 20 [.ref (c0 + 16), .int (nI (i + 1))] [] σ τ _
      refine Rx.go (fun _ => rfl) ?_
      refine Rx.go (fun _ => rfl) ?_
      exact Rx.ret rfl rfl ⟨ret_1 (by simp [kn_e hR hi (n := 4) rfl (by decide) c2]), rfl, rfl⟩
set_option maxRecDepth 100000 in
set_option maxHeartbeats 1000000 in
theorem rx_rnk (X : ev_X) (c0 : Nat) (σ : Nat → Int32) (τ : Nat → Nat → Int32) {ts : RT} (hR : rt σ τ ts) {i : Nat} (hi : i < ts.length) : Rx X c0 m_Mod_rank 0 [.ref (c0 + 16), .int (nI (i + 1))] [] σ τ (fun r σ' τ' => r = some (.int (nI (if knd ts i = 4 then 3 else knd ts i))) ∧ σ' = σ ∧ τ' = τ) := by
  refine Rx.go (fun _ => rfl) ?_
  refine Rx.get rfl rfl ?_
  refine Rx.go (fun _ => rfl) ?_
  refine Rx.aldE (v := nI (knd ts i)) 5 rfl rfl (nI_ix (N := 2002) (n := i + 1) (by have := hR.2.1; omega) (by decide)) (rt_k hR hi) ?_
  refine Rx.go (fun _ => rfl) ?_
  refine Rx.go (fun _ => rfl) ?_
  refine Rx.ite (fun c1 => ?_) (fun c1 => ?_)
  · replace c1 : ¬ (nI (knd ts i)) = 4 := of_decide_eq_true c1
    show Rx X c0 m_Mod_rank 14 [.ref (c0 + 16), .int (nI (i + 1))] [] σ τ _
    refine Rx.go (fun _ => rfl) ?_
    refine Rx.get rfl rfl ?_
    refine Rx.go (fun _ => rfl) ?_
    refine Rx.aldE (v := nI (knd ts i)) 5 rfl rfl (nI_ix (N := 2002) (n := i + 1) (by have := hR.2.1; omega) (by decide)) (rt_k hR hi) ?_
    exact Rx.ret rfl (ev_reti rfl) ⟨by rw [if_neg (kn_n (n := 4) rfl c1)], rfl, rfl⟩
  · replace c1 : (nI (knd ts i)) = 4 := Classical.not_not.mp (of_decide_eq_false c1)
    show Rx X c0 m_Mod_rank 10 [.ref (c0 + 16), .int (nI (i + 1))] [] σ τ _
    refine Rx.go (fun _ => rfl) ?_
    refine Rx.go (fun _ => rfl) ?_
    exact Rx.ret rfl (ev_reti rfl) ⟨by rw [if_pos (kn_e hR hi (n := 4) rfl (by decide) c1)]; rfl, rfl, rfl⟩
def dotp : List Nat → Nat
  | [] => 0
  | b :: l => if b = 46 then 0 else dotp l + 1
theorem dotp_le (l : List Nat) : dotp l ≤ l.length := by
  induction l with
  | nil => exact Nat.le_refl _
  | cons b l ih => simp only [dotp]; split <;> simp <;> omega
theorem dotp_is : ∀ (l : List Nat) (k : Nat), k ≤ l.length → (∀ j, j < k → l.getD j 0 ≠ 46) → (k < l.length → l.getD k 0 = 46) → dotp l = k := by
  intro l
  induction l with
  | nil => intro k h1 _ _; simp at h1; rw [h1]; rfl
  | cons b l ih =>
    intro k h1 h2 h3
    cases k with
    | zero => have := h3 (by simp); simp only [List.getD_cons_zero] at this; simp [dotp, this]
    | succ k =>
      have h0 := h2 0 (by omega)
      simp only [List.getD_cons_zero] at h0
      simp only [dotp, if_neg h0]
      rw [ih k (by simpa using h1) (fun j hj => by have := h2 (j + 1) (by omega); simpa using this) (fun hk => by have := h3 (by simpa using hk); simpa using this)]
theorem ls_ge {σ : Nat → Int32} {τ : Nat → Nat → Int32} {ts : RT} (hR : rt σ τ ts) {i k : Nat} (hi : i < ts.length) (hk : k ≤ (bys ts i).length) (c : nI (bys ts i).length ≤ nI k) : k = (bys ts i).length := isd_ge hR hi hk c
theorem bt_e {σ : Nat → Int32} {τ : Nat → Nat → Int32} {ts : RT} (hR : rt σ τ ts) {i k n : Nat} (hi : i < ts.length) {z : Int32} (hz : z = nI n) (hn : n < 2 ^ 31) (c : nI ((bys ts i).getD k 0) = z) : (bys ts i).getD k 0 = n := (nI_eq (by have := (rt_ok hR hi).1 k; omega) hn).mp (c.trans hz)
theorem bt_n {ts : RT} {i k n : Nat} {z : Int32} (hz : z = nI n) (c : ¬ nI ((bys ts i).getD k 0) = z) : (bys ts i).getD k 0 ≠ n := fun q => c (by rw [q, hz])
set_option maxRecDepth 100000 in
set_option maxHeartbeats 1000000 in
theorem rx_dotOf_l (X : ev_X) (c0 : Nat) (σ : Nat → Int32) (τ : Nat → Nat → Int32) {ts : RT} (hR : rt σ τ ts) {i : Nat} (hi : i < ts.length) : ∀ (m : Nat) (k : Nat) (hk : k ≤ (bys ts i).length) (hm : (bys ts i).length + 1 ≤ k + m) (hn : ∀ j, j < k → (bys ts i).getD j 0 ≠ 46), Rx X c0 m_Mod_dotOf 2 [.ref (c0 + 16), .int (nI (i + 1)), .int (nI k)] [] σ τ (fun r σ' τ' => r = some (.int (nI (dotp (bys ts i)))) ∧ σ' = σ ∧ τ' = τ) := by
  intro m
  induction m with
  | zero => intro k hk hm hn; exact absurd hm (by omega)
  | succ m ih =>
    intro k hk hm hn
    refine Rx.go (fun _ => rfl) ?_
    refine Rx.go (fun _ => rfl) ?_
    refine Rx.go (fun _ => rfl) ?_
    refine Rx.callE rfl rfl rfl rfl (rx_lenOf X c0 _ _ hR hi) ?_
    show Rx X c0 m_Mod_dotOf 8 [.ref (c0 + 16), .int (nI (i + 1)), .int (nI k)] [.int (nI (bys ts i).length), .int (nI k)] σ τ _
    refine Rx.go (fun _ => rfl) ?_
    refine Rx.ite (fun c1 => ?_) (fun c1 => ?_)
    · replace c1 : (nI (bys ts i).length) ≤ (nI k) := of_decide_eq_true c1
      show Rx X c0 m_Mod_dotOf 28 [.ref (c0 + 16), .int (nI (i + 1)), .int (nI k)] [] σ τ _
      refine Rx.go (fun _ => rfl) ?_
      exact Rx.ret rfl (ev_reti rfl) ⟨by rw [dotp_is _ k hk hn (fun q => absurd (ls_ge hR hi hk c1) (by omega))], rfl, rfl⟩
    · replace c1 : ¬ (nI (bys ts i).length) ≤ (nI k) := of_decide_eq_false c1
      have hlt := isd_lt hR hi hk c1
      show Rx X c0 m_Mod_dotOf 11 [.ref (c0 + 16), .int (nI (i + 1)), .int (nI k)] [] σ τ _
      refine Rx.go (fun _ => rfl) ?_
      refine Rx.go (fun _ => rfl) ?_
      refine Rx.go (fun _ => rfl) ?_
      refine Rx.callE rfl rfl rfl rfl (rx_byteAt X c0 _ _ hR hi (j := k) (by have := (rt_ok hR hi).2.2.1; omega)) ?_
      show Rx X c0 m_Mod_dotOf 17 [.ref (c0 + 16), .int (nI (i + 1)), .int (nI k)] [.int (nI ((bys ts i).getD k 0))] σ τ _
      refine Rx.go (fun _ => rfl) ?_
      refine Rx.go (fun _ => rfl) ?_
      refine Rx.ite (fun c2 => ?_) (fun c2 => ?_)
      · replace c2 : (nI ((bys ts i).getD k 0)) = 46 := of_decide_eq_true c2
        show Rx X c0 m_Mod_dotOf 28 [.ref (c0 + 16), .int (nI (i + 1)), .int (nI k)] [] σ τ _
        refine Rx.go (fun _ => rfl) ?_
        exact Rx.ret rfl (ev_reti rfl) ⟨by rw [dotp_is _ k hk hn (fun _ => bt_e hR hi (n := 46) rfl (by decide) c2)], rfl, rfl⟩
      · replace c2 : ¬ (nI ((bys ts i).getD k 0)) = 46 := of_decide_eq_false c2
        show Rx X c0 m_Mod_dotOf 22 [.ref (c0 + 16), .int (nI (i + 1)), .int (nI k)] [] σ τ _
        refine Rx.go (fun _ => rfl) ?_
        show Rx X c0 m_Mod_dotOf 25 [.ref (c0 + 16), .int (nI (i + 1)), .int ((nI k) + 1)] [] σ τ _
        refine Rx.go (fun _ => rfl) ?_
        show Rx X c0 m_Mod_dotOf 2 [.ref (c0 + 16), .int (nI (i + 1)), .int ((nI k) + 1)] [] σ τ _
        rw [nI_1 k]
        exact ih (k + 1) hlt (by omega) (fun j hj => (Nat.lt_or_ge j k).elim (hn j) (fun q => by rw [show j = k by omega]; exact bt_n (n := 46) rfl c2))
set_option maxRecDepth 100000 in
set_option maxHeartbeats 1000000 in
theorem rx_dotOf (X : ev_X) (c0 : Nat) (σ : Nat → Int32) (τ : Nat → Nat → Int32) {ts : RT} (hR : rt σ τ ts) {i : Nat} (hi : i < ts.length) : Rx X c0 m_Mod_dotOf 0 [.ref (c0 + 16), .int (nI (i + 1)), ev_dead] [] σ τ (fun r σ' τ' => r = some (.int (nI (dotp (bys ts i)))) ∧ σ' = σ ∧ τ' = τ) := by
  refine Rx.go (fun _ => rfl) ?_
  refine Rx.go (fun _ => rfl) ?_
  show Rx X c0 m_Mod_dotOf 2 [.ref (c0 + 16), .int (nI (i + 1)), .int 0] [] σ τ _
  show Rx X c0 m_Mod_dotOf 2 [.ref (c0 + 16), .int (nI (i + 1)), .int 0] [] σ τ _
  exact rx_dotOf_l X c0 σ τ hR hi ((bys ts i).length + 1) 0 (Nat.zero_le _) (by omega) (fun j q => absurd q (by omega))
