/-! scale, write, written, itemAt, items, orderRows of the reference. (rows laid by wip/whole/rx6.py) -/
theorem dotp_ne (l : List Nat) : ∀ j, j < dotp l → l.getD j 0 ≠ 46 := by
  induction l with
  | nil => intro j h; exact absurd h (Nat.not_lt_zero _)
  | cons b l ih =>
    intro j h
    by_cases hb : b = 46
    · simp [dotp, hb] at h
    · simp only [dotp, if_neg hb] at h
      cases j with
      | zero => simpa using hb
      | succ j => have := ih j (by omega); simpa using this
theorem dotp_at (l : List Nat) : dotp l < l.length → l.getD (dotp l) 0 = 46 := by
  induction l with
  | nil => intro h; exact absurd h (Nat.not_lt_zero _)
  | cons b l ih =>
    intro h
    by_cases hb : b = 46
    · simp [dotp, hb]
    · simp only [dotp, if_neg hb] at h ⊢
      have := ih (by simpa using h); simpa using this
/-- how many digits stand behind the dot of a written decimal -/
def scl (l : List Nat) : Nat := if l.length = dotp l + 2 ∧ l.getD (dotp l + 1) 0 = 48 then 0 else l.length - dotp l - 1
theorem sc_eq2 {σ : Nat → Int32} {τ : Nat → Nat → Int32} {ts : RT} (hR : rt σ τ ts) {i : Nat} (hi : i < ts.length) (c : nI (bys ts i).length = nI (dotp (bys ts i) + 2)) : (bys ts i).length = dotp (bys ts i) + 2 := (nI_eq (by have := (rt_ok hR hi).2.2.1; omega) (by have := dotp_le (bys ts i); have := (rt_ok hR hi).2.2.1; omega)).mp c
theorem sc_sub {σ : Nat → Int32} {τ : Nat → Nat → Int32} {ts : RT} (hR : rt σ τ ts) {i : Nat} (hi : i < ts.length) (hdot : dotp (bys ts i) < (bys ts i).length) : nI (bys ts i).length - nI (dotp (bys ts i)) - 1 = nI ((bys ts i).length - dotp (bys ts i) - 1) := by
  rw [pk_sub (by omega), show (bys ts i).length - dotp (bys ts i) = ((bys ts i).length - dotp (bys ts i) - 1) + 1 by omega, nI_pred]
  rfl
set_option maxRecDepth 100000 in
set_option maxHeartbeats 1000000 in
theorem rx_scale_l (X : ev_X) (c0 : Nat) (σ : Nat → Int32) (τ : Nat → Nat → Int32) {ts : RT} (hR : rt σ τ ts) {i : Nat} (hi : i < ts.length) (hdot : dotp (bys ts i) < (bys ts i).length) : ∀ (m : Nat) (k : Nat) (hk : k ≤ dotp (bys ts i)) (hm : dotp (bys ts i) + 1 ≤ k + m), Rx X c0 m_Mod_scale 30 [.ref (c0 + 16), .int (nI (i + 1)), .int (nI (bys ts i).length), .int (nI k)] [] σ τ (fun r σ' τ' => r = some (.int (nI (scl (bys ts i)))) ∧ σ' = σ ∧ τ' = τ) := by
  intro m
  induction m with
  | zero => intro k hk hm; exact absurd hm (by omega)
  | succ m ih =>
    intro k hk hm
    refine Rx.go (fun _ => rfl) ?_
    refine Rx.go (fun _ => rfl) ?_
    refine Rx.go (fun _ => rfl) ?_
    refine Rx.callE rfl rfl rfl rfl (rx_byteAt X c0 _ _ hR hi (j := k) (by have := (rt_ok hR hi).2.2.1; omega)) ?_
    show Rx X c0 m_Mod_scale 36 [.ref (c0 + 16), .int (nI (i + 1)), .int (nI (bys ts i).length), .int (nI k)] [.int (nI ((bys ts i).getD k 0))] σ τ _
    refine Rx.go (fun _ => rfl) ?_
    refine Rx.go (fun _ => rfl) ?_
    refine Rx.ite (fun c1 => ?_) (fun c1 => ?_)
    · replace c1 : (nI ((bys ts i).getD k 0)) = 46 := of_decide_eq_true c1
      have hke : k = dotp (bys ts i) := Nat.le_antisymm hk (Nat.le_of_not_lt (fun q => dotp_ne _ k q (bt_e hR hi (n := 46) rfl (by decide) c1)))
      rw [hke] at c1 ⊢
      show Rx X c0 m_Mod_scale 47 [.ref (c0 + 16), .int (nI (i + 1)), .int (nI (bys ts i).length), .int (nI (dotp (bys ts i)))] [] σ τ _
      refine Rx.go (fun _ => rfl) ?_
      refine Rx.go (fun _ => rfl) ?_
      refine Rx.go (fun _ => rfl) ?_
      refine Rx.go (fun _ => rfl) ?_
      refine Rx.top (y := nI (dotp (bys ts i) + 2)) (nI_add _ 2) ?_
      refine Rx.go (fun _ => rfl) ?_
      refine Rx.ite (fun c2 => ?_) (fun c2 => ?_)
      · replace c2 : ¬ (nI (bys ts i).length) = (nI (dotp (bys ts i) + 2)) := of_decide_eq_true c2
        show Rx X c0 m_Mod_scale 71 [.ref (c0 + 16), .int (nI (i + 1)), .int (nI (bys ts i).length), .int (nI (dotp (bys ts i)))] [] σ τ _
        refine Rx.go (fun _ => rfl) ?_
        refine Rx.go (fun _ => rfl) ?_
        refine Rx.go (fun _ => rfl) ?_
        refine Rx.go (fun _ => rfl) ?_
        refine Rx.go (fun _ => rfl) ?_
        show Rx X c0 m_Mod_scale 76 [.ref (c0 + 16), .int (nI (i + 1)), .int (nI (bys ts i).length), .int (nI (dotp (bys ts i)))] [.int (((nI (bys ts i).length) - (nI (dotp (bys ts i)))) - 1)] σ τ _
        exact Rx.ret rfl (ev_reti rfl) ⟨by rw [sc_sub hR hi hdot, show scl (bys ts i) = _ from if_neg (fun q => c2 (by rw [q.1]))], rfl, rfl⟩
      · replace c2 : (nI (bys ts i).length) = (nI (dotp (bys ts i) + 2)) := Classical.not_not.mp (of_decide_eq_false c2)
        show Rx X c0 m_Mod_scale 54 [.ref (c0 + 16), .int (nI (i + 1)), .int (nI (bys ts i).length), .int (nI (dotp (bys ts i)))] [] σ τ _
        refine Rx.go (fun _ => rfl) ?_
        refine Rx.go (fun _ => rfl) ?_
        refine Rx.go (fun _ => rfl) ?_
        refine Rx.go (fun _ => rfl) ?_
        refine Rx.go (fun _ => rfl) ?_
        refine Rx.top (y := nI (dotp (bys ts i) + 1)) (nI_1 _) ?_
        refine Rx.callE rfl rfl rfl rfl (rx_byteAt X c0 _ _ hR hi (j := dotp (bys ts i) + 1) (by have := (rt_ok hR hi).2.2.1; omega)) ?_
        show Rx X c0 m_Mod_scale 62 [.ref (c0 + 16), .int (nI (i + 1)), .int (nI (bys ts i).length), .int (nI (dotp (bys ts i)))] [.int (nI ((bys ts i).getD (dotp (bys ts i) + 1) 0))] σ τ _
        refine Rx.go (fun _ => rfl) ?_
        refine Rx.go (fun _ => rfl) ?_
        refine Rx.ite (fun c3 => ?_) (fun c3 => ?_)
        · replace c3 : ¬ (nI ((bys ts i).getD (dotp (bys ts i) + 1) 0)) = 48 := of_decide_eq_true c3
          show Rx X c0 m_Mod_scale 71 [.ref (c0 + 16), .int (nI (i + 1)), .int (nI (bys ts i).length), .int (nI (dotp (bys ts i)))] [] σ τ _
          refine Rx.go (fun _ => rfl) ?_
          refine Rx.go (fun _ => rfl) ?_
          refine Rx.go (fun _ => rfl) ?_
          refine Rx.go (fun _ => rfl) ?_
          refine Rx.go (fun _ => rfl) ?_
          show Rx X c0 m_Mod_scale 76 [.ref (c0 + 16), .int (nI (i + 1)), .int (nI (bys ts i).length), .int (nI (dotp (bys ts i)))] [.int (((nI (bys ts i).length) - (nI (dotp (bys ts i)))) - 1)] σ τ _
          exact Rx.ret rfl (ev_reti rfl) ⟨by rw [sc_sub hR hi hdot, show scl (bys ts i) = _ from if_neg (fun q => bt_n (n := 48) rfl c3 q.2)], rfl, rfl⟩
        · replace c3 : (nI ((bys ts i).getD (dotp (bys ts i) + 1) 0)) = 48 := Classical.not_not.mp (of_decide_eq_false c3)
          show Rx X c0 m_Mod_scale 67 [.ref (c0 + 16), .int (nI (i + 1)), .int (nI (bys ts i).length), .int (nI (dotp (bys ts i)))] [] σ τ _
          refine Rx.go (fun _ => rfl) ?_
          refine Rx.go (fun _ => rfl) ?_
          show Rx X c0 m_Mod_scale 76 [.ref (c0 + 16), .int (nI (i + 1)), .int (nI (bys ts i).length), .int (nI (dotp (bys ts i)))] [.int 0] σ τ _
          exact Rx.ret rfl (ev_reti rfl) ⟨by rw [show scl (bys ts i) = 0 from if_pos ⟨sc_eq2 hR hi c2, bt_e hR hi (n := 48) rfl (by decide) c3⟩]; rfl, rfl, rfl⟩
    · replace c1 : ¬ (nI ((bys ts i).getD k 0)) = 46 := of_decide_eq_false c1
      show Rx X c0 m_Mod_scale 41 [.ref (c0 + 16), .int (nI (i + 1)), .int (nI (bys ts i).length), .int (nI k)] [] σ τ _
      refine Rx.go (fun _ => rfl) ?_
      show Rx X c0 m_Mod_scale 44 [.ref (c0 + 16), .int (nI (i + 1)), .int (nI (bys ts i).length), .int ((nI k) + 1)] [] σ τ _
      refine Rx.go (fun _ => rfl) ?_
      show Rx X c0 m_Mod_scale 30 [.ref (c0 + 16), .int (nI (i + 1)), .int (nI (bys ts i).length), .int ((nI k) + 1)] [] σ τ _
      rw [nI_1 k]
      exact ih (k + 1) (Nat.lt_of_le_of_ne hk (fun q => bt_n (n := 46) rfl c1 (by rw [q]; exact dotp_at _ hdot))) (by omega)
set_option maxRecDepth 100000 in
set_option maxHeartbeats 1000000 in
theorem rx_scale_4 (X : ev_X) (c0 : Nat) (σ : Nat → Int32) (τ : Nat → Nat → Int32) {ts : RT} (hR : rt σ τ ts) {i : Nat} (hi : i < ts.length) (h4 : knd ts i = 4) (hdot : dotp (bys ts i) < (bys ts i).length) : Rx X c0 m_Mod_scale 0 [.ref (c0 + 16), .int (nI (i + 1)), ev_dead, ev_dead] [] σ τ (fun r σ' τ' => r = some (.int (nI (scl (bys ts i)))) ∧ σ' = σ ∧ τ' = τ) := by
  refine Rx.go (fun _ => rfl) ?_
  refine Rx.go (fun _ => rfl) ?_
  refine Rx.callE rfl rfl rfl rfl (rx_isT X c0 _ _ hR hi) ?_
  show Rx X c0 m_Mod_scale 5 [.ref (c0 + 16), .int (nI (i + 1)), ev_dead, ev_dead] [.int 1] σ τ _
  refine Rx.go (fun _ => rfl) ?_
  show Rx X c0 m_Mod_scale 10 [.ref (c0 + 16), .int (nI (i + 1)), ev_dead, ev_dead] [] σ τ _
  refine Rx.go (fun _ => rfl) ?_
  refine Rx.get rfl rfl ?_
  refine Rx.go (fun _ => rfl) ?_
  refine Rx.aldE (v := nI (knd ts i)) 5 rfl rfl (nI_ix (N := 2002) (n := i + 1) (by have := hR.2.1; omega) (by decide)) (rt_k hR hi) ?_
  refine Rx.go (fun _ => rfl) ?_
  refine Rx.go (fun _ => rfl) ?_
  refine Rx.ite (fun c1 => ?_) (fun c1 => ?_)
  · replace c1 : (nI (knd ts i)) = 4 := of_decide_eq_true c1
    show Rx X c0 m_Mod_scale 22 [.ref (c0 + 16), .int (nI (i + 1)), ev_dead, ev_dead] [] σ τ _
    refine Rx.go (fun _ => rfl) ?_
    refine Rx.go (fun _ => rfl) ?_
    refine Rx.callE rfl rfl rfl rfl (rx_lenOf X c0 _ _ hR hi) ?_
    show Rx X c0 m_Mod_scale 27 [.ref (c0 + 16), .int (nI (i + 1)), ev_dead, ev_dead] [.int (nI (bys ts i).length)] σ τ _
    refine Rx.go (fun _ => rfl) ?_
    show Rx X c0 m_Mod_scale 28 [.ref (c0 + 16), .int (nI (i + 1)), .int (nI (bys ts i).length), ev_dead] [] σ τ _
    refine Rx.go (fun _ => rfl) ?_
    refine Rx.go (fun _ => rfl) ?_
    show Rx X c0 m_Mod_scale 30 [.ref (c0 + 16), .int (nI (i + 1)), .int (nI (bys ts i).length), .int 0] [] σ τ _
    show Rx X c0 m_Mod_scale 30 [.ref (c0 + 16), .int (nI (i + 1)), .int (nI (bys ts i).length), .int 0] [] σ τ _
    exact rx_scale_l X c0 σ τ hR hi hdot (dotp (bys ts i) + 1) 0 (Nat.zero_le _) (by omega)
  · replace c1 : ¬ (nI (knd ts i)) = 4 := of_decide_eq_false c1
    show Rx X c0 m_Mod_scale 20 [.ref (c0 + 16), .int (nI (i + 1)), ev_dead, ev_dead] [] σ τ _
    refine Rx.go (fun _ => rfl) ?_
    show Rx X c0 m_Mod_scale 21 [.ref (c0 + 16), .int (nI (i + 1)), ev_dead, ev_dead] [.int 0] σ τ _
    exact absurd (by rw [h4]; rfl) c1
set_option maxRecDepth 100000 in
set_option maxHeartbeats 1000000 in
theorem rx_scale_0 (X : ev_X) (c0 : Nat) (σ : Nat → Int32) (τ : Nat → Nat → Int32) {ts : RT} (hR : rt σ τ ts) {i : Nat} (hi : i < ts.length) (h4 : knd ts i ≠ 4) : Rx X c0 m_Mod_scale 0 [.ref (c0 + 16), .int (nI (i + 1)), ev_dead, ev_dead] [] σ τ (fun r σ' τ' => r = some (.int 0) ∧ σ' = σ ∧ τ' = τ) := by
  refine Rx.go (fun _ => rfl) ?_
  refine Rx.go (fun _ => rfl) ?_
  refine Rx.callE rfl rfl rfl rfl (rx_isT X c0 _ _ hR hi) ?_
  show Rx X c0 m_Mod_scale 5 [.ref (c0 + 16), .int (nI (i + 1)), ev_dead, ev_dead] [.int 1] σ τ _
  refine Rx.go (fun _ => rfl) ?_
  show Rx X c0 m_Mod_scale 10 [.ref (c0 + 16), .int (nI (i + 1)), ev_dead, ev_dead] [] σ τ _
  refine Rx.go (fun _ => rfl) ?_
  refine Rx.get rfl rfl ?_
  refine Rx.go (fun _ => rfl) ?_
  refine Rx.aldE (v := nI (knd ts i)) 5 rfl rfl (nI_ix (N := 2002) (n := i + 1) (by have := hR.2.1; omega) (by decide)) (rt_k hR hi) ?_
  refine Rx.go (fun _ => rfl) ?_
  refine Rx.go (fun _ => rfl) ?_
  refine Rx.ite (fun c1 => ?_) (fun c1 => ?_)
  · replace c1 : (nI (knd ts i)) = 4 := of_decide_eq_true c1
    show Rx X c0 m_Mod_scale 22 [.ref (c0 + 16), .int (nI (i + 1)), ev_dead, ev_dead] [] σ τ _
    show Rx X c0 m_Mod_scale 22 [.ref (c0 + 16), .int (nI (i + 1)), ev_dead, ev_dead] [] σ τ _
    exact absurd (kn_e hR hi (n := 4) rfl (by decide) c1) h4
  · replace c1 : ¬ (nI (knd ts i)) = 4 := of_decide_eq_false c1
    show Rx X c0 m_Mod_scale 20 [.ref (c0 + 16), .int (nI (i + 1)), ev_dead, ev_dead] [] σ τ _
    refine Rx.go (fun _ => rfl) ?_
    show Rx X c0 m_Mod_scale 21 [.ref (c0 + 16), .int (nI (i + 1)), ev_dead, ev_dead] [.int 0] σ τ _
    exact Rx.ret rfl (ev_reti rfl) ⟨rfl, rfl, rfl⟩
/-- what was written latest -/
def shw (σ : Nat → Int32) (τ : Nat → Nat → Int32) (sh : List Nat) : Prop := σ 15 = nI sh.length ∧ sh.length ≤ 260 ∧ (∀ k, k < sh.length → τ 14 k = nI (sh.getD k 0)) ∧ ∀ k, sh.getD k 0 < 256
theorem sw_in {σ : Nat → Int32} {τ : Nat → Nat → Int32} {sh : List Nat} (h : shw σ τ sh) {x : Int32} (c1 : ¬ x < 0) (c2 : ¬ σ 15 ≤ x) : ∃ j, j < sh.length ∧ x = nI j := by
  obtain ⟨j, hj, rfl⟩ := nI_of c1
  rw [h.1, nI_leI (by have := h.2.1; omega) hj] at c2
  exact ⟨j, by omega, rfl⟩
/-- byte x of what was written -/
def wat (sh : List Nat) (x : Int32) : Int32 := if x < 0 then -1 else if nI sh.length ≤ x then -1 else nI (sh.getD x.toNatClampNeg 0)
theorem sw_v {σ : Nat → Int32} {τ : Nat → Nat → Int32} {sh : List Nat} (h : shw σ τ sh) {x : Int32} (c1 : ¬ x < 0) (c2 : ¬ σ 15 ≤ x) : ¬ (x < 0 ∨ 260 ≤ x.toNatClampNeg) ∧ τ 14 x.toNatClampNeg = wat sh x := by
  obtain ⟨j, hj, rfl⟩ := sw_in h c1 c2
  have h2 := h.2.1
  refine ⟨nI_ix (by omega) (by decide), ?_⟩
  rw [wat, if_neg c1, if_neg (by rw [← h.1]; exact c2), nI_clamp (by omega)]
  exact h.2.2.1 j hj
set_option maxRecDepth 100000 in
set_option maxHeartbeats 1000000 in
theorem rx_written (X : ev_X) (c0 : Nat) (σ : Nat → Int32) (τ : Nat → Nat → Int32) {sh : List Nat} (hs : shw σ τ sh) (x : Int32) : Rx X c0 m_Mod_written 0 [.ref (c0 + 16), .int x] [] σ τ (fun r σ' τ' => r = some (.int (wat sh x)) ∧ σ' = σ ∧ τ' = τ) := by
  refine Rx.go (fun _ => rfl) ?_
  refine Rx.go (fun _ => rfl) ?_
  refine Rx.ite (fun c1 => ?_) (fun c1 => ?_)
  · replace c1 : x < 0 := of_decide_eq_true c1
    show Rx X c0 m_Mod_written 21 [.ref (c0 + 16), .int x] [] σ τ _
    refine Rx.go (fun _ => rfl) ?_
    show Rx X c0 m_Mod_written 22 [.ref (c0 + 16), .int x] [.int (-1)] σ τ _
    exact Rx.ret rfl (ev_reti rfl) ⟨by rw [wat, if_pos c1], rfl, rfl⟩
  · replace c1 : ¬ x < 0 := of_decide_eq_false c1
    show Rx X c0 m_Mod_written 4 [.ref (c0 + 16), .int x] [] σ τ _
    refine Rx.go (fun _ => rfl) ?_
    refine Rx.go (fun _ => rfl) ?_
    refine Rx.get rfl rfl ?_
    refine Rx.go (fun _ => rfl) ?_
    refine Rx.ite (fun c2 => ?_) (fun c2 => ?_)
    · replace c2 : (σ 15) ≤ x := of_decide_eq_true c2
      show Rx X c0 m_Mod_written 21 [.ref (c0 + 16), .int x] [] σ τ _
      refine Rx.go (fun _ => rfl) ?_
      show Rx X c0 m_Mod_written 22 [.ref (c0 + 16), .int x] [.int (-1)] σ τ _
      exact Rx.ret rfl (ev_reti rfl) ⟨by rw [wat, if_neg c1, if_pos (by rw [← hs.1]; exact c2)], rfl, rfl⟩
    · replace c2 : ¬ (σ 15) ≤ x := of_decide_eq_false c2
      show Rx X c0 m_Mod_written 12 [.ref (c0 + 16), .int x] [] σ τ _
      refine Rx.go (fun _ => rfl) ?_
      refine Rx.get rfl rfl ?_
      refine Rx.go (fun _ => rfl) ?_
      refine Rx.aldE (v := wat sh x) 14 rfl rfl (sw_v hs c1 c2).1 (sw_v hs c1 c2).2 ?_
      refine Rx.go (fun _ => rfl) ?_
      show Rx X c0 m_Mod_written 22 [.ref (c0 + 16), .int x] [.int (wat sh x)] σ τ _
      exact Rx.ret rfl (ev_reti rfl) ⟨rfl, rfl, rfl⟩
theorem wr_step {τ τ1 : Nat → Nat → Int32} {k : Nat} {d : List Nat} (hk : k < d.length) (hl : d.length ≤ 260) (he : ∀ kk, kk ≠ 14 → τ1 kk = τ kk) (hj : ∀ j, j < k → τ1 14 j = nI (d.getD j 0)) :
    (∀ kk, kk ≠ 14 → va_up τ1 14 (upd (τ1 14) (nI k).toNatClampNeg (nI (d.getD k 0))) kk = τ kk) ∧ ∀ j, j < k + 1 → va_up τ1 14 (upd (τ1 14) (nI k).toNatClampNeg (nI (d.getD k 0))) 14 j = nI (d.getD j 0) := by
  rw [nI_clamp (by omega)]
  refine ⟨fun kk hkk => by rw [va_up_ne _ _ hkk]; exact he kk hkk, fun j h => ?_⟩
  rw [va_up_self]
  rcases Nat.lt_or_ge j k with q | q
  · rw [pk_un (by omega)]; exact hj j q
  · rw [show j = k by omega, pk_us]
theorem rt_same {σ σ' : Nat → Int32} {τ τ' : Nat → Nat → Int32} {ts : RT} (h : rt σ τ ts) (h7 : σ' 7 = σ 7) (h3 : τ' 3 = τ 3) (h4 : τ' 4 = τ 4) (h5 : τ' 5 = τ 5) (h6 : τ' 6 = τ 6) : rt σ' τ' ts := by
  unfold rt; rw [h7, h3, h4, h5, h6]; exact h
set_option maxRecDepth 100000 in
set_option maxHeartbeats 1000000 in
theorem rx_write_l (X : ev_X) (c0 : Nat) (σ : Nat → Int32) (τ : Nat → Nat → Int32) {ts : RT} (hR : rt σ τ ts) {i : Nat} (hi : i < ts.length) (h15 : σ 15 = nI (bys ts i).length) : ∀ (m : Nat) (k : Nat) (τ1 : Nat → Nat → Int32) (hk : k ≤ (bys ts i).length) (hm : (bys ts i).length + 1 ≤ k + m) (he : ∀ kk, kk ≠ 14 → τ1 kk = τ kk) (hj : ∀ j, j < k → τ1 14 j = nI ((bys ts i).getD j 0)), Rx X c0 m_Mod_write 21 [.ref (c0 + 16), .int (nI (i + 1)), .int (nI k)] [] σ τ1 (fun r σ' τ' => r = some (.int (nI (bys ts i).length)) ∧ σ' = σ ∧ (∀ kk, kk ≠ 14 → τ' kk = τ kk) ∧ ∀ j, j < (bys ts i).length → τ' 14 j = nI ((bys ts i).getD j 0)) := by
  intro m
  induction m with
  | zero => intro k τ1 hk hm he hj; exact absurd hm (by omega)
  | succ m ih =>
    intro k τ1 hk hm he hj
    refine Rx.go (fun _ => rfl) ?_
    refine Rx.go (fun _ => rfl) ?_
    refine Rx.get rfl rfl ?_
    refine Rx.top (y := nI (bys ts i).length) h15 ?_
    refine Rx.go (fun _ => rfl) ?_
    refine Rx.ite (fun c1 => ?_) (fun c1 => ?_)
    · replace c1 : (nI (bys ts i).length) ≤ (nI k) := of_decide_eq_true c1
      show Rx X c0 m_Mod_write 47 [.ref (c0 + 16), .int (nI (i + 1)), .int (nI k)] [] σ τ1 _
      refine Rx.go (fun _ => rfl) ?_
      refine Rx.get rfl rfl ?_
      show Rx X c0 m_Mod_write 51 [.ref (c0 + 16), .int (nI (i + 1)), .int (nI k)] [.int (σ 15)] σ τ1 _
      exact Rx.ret rfl (ev_reti rfl) ⟨congrArg (fun x => some (Value.int x)) h15, rfl, he, by rw [← isd_ge hR hi hk c1]; exact hj⟩
    · replace c1 : ¬ (nI (bys ts i).length) ≤ (nI k) := of_decide_eq_false c1
      have hlt := isd_lt hR hi hk c1
      show Rx X c0 m_Mod_write 29 [.ref (c0 + 16), .int (nI (i + 1)), .int (nI k)] [] σ τ1 _
      refine Rx.go (fun _ => rfl) ?_
      refine Rx.get rfl rfl ?_
      refine Rx.go (fun _ => rfl) ?_
      refine Rx.go (fun _ => rfl) ?_
      refine Rx.go (fun _ => rfl) ?_
      refine Rx.go (fun _ => rfl) ?_
      refine Rx.callE rfl rfl rfl rfl (rx_byteAt X c0 _ _ (rt_same hR rfl (he 3 (by decide)) (he 4 (by decide)) (he 5 (by decide)) (he 6 (by decide))) hi (j := k) (by have := (rt_ok hR hi).2.2.1; omega)) ?_
      show Rx X c0 m_Mod_write 40 [.ref (c0 + 16), .int (nI (i + 1)), .int (nI k)] [.int (nI ((bys ts i).getD k 0)), .int (nI k), .ref (c0 + 23)] σ τ1 _
      refine Rx.ast 14 rfl rfl (nI_ix (N := 260) (n := k) (by have := (rt_ok hR hi).2.2.1; omega) (by decide)) ?_
      refine Rx.go (fun _ => rfl) ?_
      show Rx X c0 m_Mod_write 44 [.ref (c0 + 16), .int (nI (i + 1)), .int ((nI k) + 1)] [] σ (va_up τ1 14 (upd (τ1 14) (nI k).toNatClampNeg (nI ((bys ts i).getD k 0)))) _
      refine Rx.go (fun _ => rfl) ?_
      show Rx X c0 m_Mod_write 21 [.ref (c0 + 16), .int (nI (i + 1)), .int ((nI k) + 1)] [] σ (va_up τ1 14 (upd (τ1 14) (nI k).toNatClampNeg (nI ((bys ts i).getD k 0)))) _
      rw [nI_1 k]
      obtain ⟨g1, g2⟩ := wr_step hlt (rt_ok hR hi).2.2.1 he hj
      exact ih (k + 1) _ hlt (by omega) g1 g2
set_option maxRecDepth 100000 in
set_option maxHeartbeats 1000000 in
theorem rx_write (X : ev_X) (c0 : Nat) (σ : Nat → Int32) (τ : Nat → Nat → Int32) {ts : RT} (hR : rt σ τ ts) {i : Nat} (hi : i < ts.length) : Rx X c0 m_Mod_write 0 [.ref (c0 + 16), .int (nI (i + 1)), ev_dead] [] σ τ (fun r σ' τ' => r = some (.int (nI (bys ts i).length)) ∧ σ' = upd σ 15 (nI (bys ts i).length) ∧ (∀ kk, kk ≠ 14 → τ' kk = τ kk) ∧ shw σ' τ' (bys ts i)) := by
  refine Rx.go (fun _ => rfl) ?_
  refine Rx.go (fun _ => rfl) ?_
  refine Rx.callE rfl rfl rfl rfl (rx_isT X c0 _ _ hR hi) ?_
  show Rx X c0 m_Mod_write 5 [.ref (c0 + 16), .int (nI (i + 1)), ev_dead] [.int 1] σ τ _
  refine Rx.go (fun _ => rfl) ?_
  show Rx X c0 m_Mod_write 10 [.ref (c0 + 16), .int (nI (i + 1)), ev_dead] [] σ τ _
  refine Rx.go (fun _ => rfl) ?_
  refine Rx.go (fun _ => rfl) ?_
  refine Rx.go (fun _ => rfl) ?_
  refine Rx.callE rfl rfl rfl rfl (rx_lenOf X c0 _ _ hR hi) ?_
  show Rx X c0 m_Mod_write 16 [.ref (c0 + 16), .int (nI (i + 1)), ev_dead] [.int (nI (bys ts i).length), .ref (c0 + 16)] σ τ _
  refine Rx.put rfl (by decide) rfl rfl ?_
  refine Rx.go (fun _ => rfl) ?_
  refine Rx.go (fun _ => rfl) ?_
  show Rx X c0 m_Mod_write 21 [.ref (c0 + 16), .int (nI (i + 1)), .int 0] [] (upd σ 15 (nI (bys ts i).length)) τ _
  show Rx X c0 m_Mod_write 21 [.ref (c0 + 16), .int (nI (i + 1)), .int 0] [] (upd σ 15 (nI (bys ts i).length)) τ _
  refine (rx_write_l X c0 (upd σ 15 (nI (bys ts i).length)) τ (rt_same hR rfl rfl rfl rfl rfl) hi rfl ((bys ts i).length + 1) 0 τ (Nat.zero_le _) (by omega) (fun _ _ => rfl) (fun j q => absurd q (by omega))).mono ?_
  rintro r σ' τ' ⟨rfl, rfl, e1, e2⟩
  exact ⟨rfl, rfl, e1, rfl, (rt_ok hR hi).2.2.1, e2, (rt_ok hR hi).1⟩
