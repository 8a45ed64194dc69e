/-! The reference's table methods. (rows laid by wip/whole/rx3.py) -/
theorem len_of {ts : RT} {i : Nat} (hi : i < ts.length) : nI (off ts (i + 1)) - nI (off ts i) = nI (bys ts i).length := by
  rw [off_succ ts i hi, pk_sub (by omega)]; congr 1; omega
theorem isd_s {b d : Nat → Nat} {k : Nat} (h : ∀ j, j < k → b j = d j) (e : b k = d k) : ∀ j, j < k + 1 → b j = d j := fun j hj => by
  rcases Nat.lt_or_ge j k with q | q
  · exact h j q
  · rw [show j = k by omega]; exact e
section ISD
variable {σ : Nat → Int32} {τ : Nat → Nat → Int32} {ts : RT} {i k dk : Nat} {d : List Nat} {g : Bool}
theorem isd_e (hR : rt σ τ ts) (hi : i < ts.length) (hd : drf σ τ d) (c : nI ((bys ts i).getD k 0) = nI (d.getD k 0)) : (bys ts i).getD k 0 = d.getD k 0 := (nI_eq (by have := (rt_ok hR hi).1 k; omega) (by have := hd.2.2.2 k; omega)).mp c
theorem isd_ne (hR : rt σ τ ts) (hi : i < ts.length) (hd : drf σ τ d) (c : ¬ nI ((bys ts i).getD k 0) = nI (d.getD k 0)) : bys ts i ≠ d := fun q => c (by rw [q])
theorem isd_n (h : bys ts i ≠ d) : (decide (knd ts i = dk) && decide (bys ts i = d)) = false := by simp [h]
theorem isd_k0 (h : knd ts i ≠ dk) : (decide (knd ts i = dk) && decide (bys ts i = d)) = false := by simp [h]
theorem isd_k (hR : rt σ τ ts) (hi : i < ts.length) (hdk : dk < 16) (c : nI (knd ts i) = nI dk) : knd ts i = dk := (nI_eq (by have := (rt_ok hR hi).2.1; omega) (by omega)).mp c
theorem isd_z (hR : rt σ τ ts) (hi : i < ts.length) (hd : drf σ τ d) (c : nI (bys ts i).length = nI d.length) : (bys ts i).length = d.length := (nI_eq (by have := (rt_ok hR hi).2.2.1; omega) (by have := hd.2.1; omega)).mp c
theorem isd_lt (hR : rt σ τ ts) (hi : i < ts.length) (hkn : k ≤ (bys ts i).length) (c : ¬ nI (bys ts i).length ≤ nI k) : k < (bys ts i).length := by
  have h1 := (rt_ok hR hi).2.2.1
  rw [nI_leI (by omega) (by omega)] at c
  omega
theorem isd_ge (hR : rt σ τ ts) (hi : i < ts.length) (hkn : k ≤ (bys ts i).length) (c : nI (bys ts i).length ≤ nI k) : k = (bys ts i).length := by
  have h1 := (rt_ok hR hi).2.2.1
  rw [nI_leI (by omega) (by omega)] at c
  omega
theorem isd_end (hg : g = true → knd ts i = dk ∧ (bys ts i).length = d.length ∧ ∀ j, j < k → (bys ts i).getD j 0 = d.getD j 0) (hf : g = false → (decide (knd ts i = dk) && decide (bys ts i = d)) = false) (hk : k = (bys ts i).length) : g = (decide (knd ts i = dk) && decide (bys ts i = d)) := by
  cases g with
  | false => exact (hf rfl).symm
  | true =>
    obtain ⟨h1, h2, h3⟩ := hg rfl
    have := getD_ext0 h2 (fun j hj => h3 j (by omega))
    simp [h1, this]
end ISD
theorem gd0 {l : List Nat} {j : Nat} (h : l.length ≤ j) : l.getD j 0 = 0 := by rw [List.getD_eq_getElem?_getD, List.getElem?_eq_none h]; rfl
theorem bt_lt {σ : Nat → Int32} {τ : Nat → Nat → Int32} {ts : RT} (hR : rt σ τ ts) {i j : Nat} (hi : i < ts.length) (hj : j < 2 ^ 20) (c : ¬ nI (off ts (i + 1)) ≤ nI (off ts i + j)) : j < (bys ts i).length := by
  have h1 := off_succ ts i hi
  have h2 := rt_o hR (i := i + 1) hi
  rw [nI_leI (by omega) (by omega)] at c
  omega
theorem bt_ge {σ : Nat → Int32} {τ : Nat → Nat → Int32} {ts : RT} (hR : rt σ τ ts) {i j : Nat} (hi : i < ts.length) (hj : j < 2 ^ 20) (c : nI (off ts (i + 1)) ≤ nI (off ts i + j)) : (bys ts i).length ≤ j := by
  have h1 := off_succ ts i hi
  have h2 := rt_o hR (i := i + 1) hi
  rw [nI_leI (by omega) (by omega)] at c
  omega
set_option maxRecDepth 100000 in
set_option maxHeartbeats 1000000 in
theorem rx_byteAt (X : ev_X) (c0 : Nat) (σ : Nat → Int32) (τ : Nat → Nat → Int32) {ts : RT} (hR : rt σ τ ts) {i : Nat} (hi : i < ts.length) {j : Nat} (hj : j < 2 ^ 20) : Rx X c0 m_Mod_byteAt 0 [.ref (c0 + 16), .int (nI (i + 1)), .int (nI j)] [] σ τ (fun r σ' τ' => r = some (.int (nI ((bys ts i).getD j 0))) ∧ σ' = σ ∧ τ' = τ) := by
  refine Rx.go (fun _ => rfl) ?_
  refine Rx.get rfl rfl ?_
  refine Rx.go (fun _ => rfl) ?_
  refine Rx.aldE (v := nI (off ts i)) 4 rfl rfl (nI_ix (N := 2002) (n := i + 1) (by have := hR.2.1; omega) (by decide)) (rt_f hR (i := i) (by omega)) ?_
  refine Rx.go (fun _ => rfl) ?_
  refine Rx.go (fun _ => rfl) ?_
  refine Rx.top (y := nI (off ts i + j)) (nI_add _ _) ?_
  refine Rx.go (fun _ => rfl) ?_
  refine Rx.get rfl rfl ?_
  refine Rx.go (fun _ => rfl) ?_
  refine Rx.go (fun _ => rfl) ?_
  refine Rx.go (fun _ => rfl) ?_
  refine Rx.top (y := nI (i + 1 + 1)) (nI_1 _) ?_
  refine Rx.aldE (v := nI (off ts (i + 1))) 4 rfl rfl (nI_ix (N := 2002) (n := (i + 1) + 1) (by have := hR.2.1; omega) (by decide)) (rt_f hR (i := (i + 1)) (by omega)) ?_
  refine Rx.go (fun _ => rfl) ?_
  refine Rx.ite (fun c1 => ?_) (fun c1 => ?_)
  · replace c1 : (nI (off ts (i + 1))) ≤ (nI (off ts i + j)) := of_decide_eq_true c1
    show Rx X c0 m_Mod_byteAt 35 [.ref (c0 + 16), .int (nI (i + 1)), .int (nI j)] [] σ τ _
    refine Rx.go (fun _ => rfl) ?_
    exact Rx.ret rfl (ev_reti rfl) ⟨by rw [gd0 (bt_ge hR hi hj c1)]; rfl, rfl, rfl⟩
  · replace c1 : ¬ (nI (off ts (i + 1))) ≤ (nI (off ts i + j)) := of_decide_eq_false c1
    show Rx X c0 m_Mod_byteAt 19 [.ref (c0 + 16), .int (nI (i + 1)), .int (nI j)] [] σ τ _
    refine Rx.go (fun _ => rfl) ?_
    refine Rx.get rfl rfl ?_
    refine Rx.go (fun _ => rfl) ?_
    refine Rx.get rfl rfl ?_
    refine Rx.go (fun _ => rfl) ?_
    refine Rx.aldE (v := nI (off ts i)) 4 rfl rfl (nI_ix (N := 2002) (n := i + 1) (by have := hR.2.1; omega) (by decide)) (rt_f hR (i := i) (by omega)) ?_
    refine Rx.go (fun _ => rfl) ?_
    refine Rx.go (fun _ => rfl) ?_
    refine Rx.top (y := nI (off ts i + j)) (nI_add _ _) ?_
    refine Rx.aldE (v := nI ((bys ts i).getD j 0)) 3 rfl rfl (nI_ix (rt_b hR hi (bt_lt hR hi hj c1)).1 (by decide)) (rt_b hR hi (bt_lt hR hi hj c1)).2 ?_
    refine Rx.go (fun _ => rfl) ?_
    exact Rx.ret rfl (ev_reti rfl) ⟨rfl, rfl, rfl⟩
set_option maxRecDepth 100000 in
set_option maxHeartbeats 1000000 in
theorem rx_lenOf (X : ev_X) (c0 : Nat) (σ : Nat → Int32) (τ : Nat → Nat → Int32) {ts : RT} (hR : rt σ τ ts) {i : Nat} (hi : i < ts.length) : Rx X c0 m_Mod_lengthOf 0 [.ref (c0 + 16), .int (nI (i + 1))] [] σ τ (fun r σ' τ' => r = some (.int (nI (bys ts i).length)) ∧ σ' = σ ∧ τ' = τ) := by
  refine Rx.go (fun _ => rfl) ?_
  refine Rx.get rfl rfl ?_
  refine Rx.go (fun _ => rfl) ?_
  refine Rx.go (fun _ => rfl) ?_
  refine Rx.go (fun _ => rfl) ?_
  refine Rx.top (y := nI (i + 1 + 1)) (nI_1 _) ?_
  refine Rx.aldE (v := nI (off ts (i + 1))) 4 rfl rfl (nI_ix (N := 2002) (n := (i + 1) + 1) (by have := hR.2.1; omega) (by decide)) (rt_f hR (i := (i + 1)) (by omega)) ?_
  refine Rx.go (fun _ => rfl) ?_
  refine Rx.get rfl rfl ?_
  refine Rx.go (fun _ => rfl) ?_
  refine Rx.aldE (v := nI (off ts i)) 4 rfl rfl (nI_ix (N := 2002) (n := i + 1) (by have := hR.2.1; omega) (by decide)) (rt_f hR (i := i) (by omega)) ?_
  refine Rx.go (fun _ => rfl) ?_
  refine Rx.top (y := nI (bys ts i).length) (len_of hi) ?_
  exact Rx.ret rfl (ev_reti rfl) ⟨rfl, rfl, rfl⟩
set_option maxRecDepth 100000 in
set_option maxHeartbeats 1000000 in
theorem rx_isDraft_l (X : ev_X) (c0 : Nat) (σ : Nat → Int32) (τ : Nat → Nat → Int32) {ts : RT} (hR : rt σ τ ts) {i : Nat} (hi : i < ts.length) {d : List Nat} (hd : drf σ τ d) {dk : Nat} (hk : σ 11 = nI dk) (hdk : dk < 16) : ∀ (m : Nat) (k : Nat) (g : Bool) (hkn : k ≤ (bys ts i).length) (hm : (bys ts i).length + 1 ≤ k + m) (hg : g = true → knd ts i = dk ∧ (bys ts i).length = d.length ∧ ∀ j, j < k → (bys ts i).getD j 0 = d.getD j 0) (hf : g = false → (decide (knd ts i = dk) && decide (bys ts i = d)) = false), Rx X c0 m_Mod_isDraft 46 [.ref (c0 + 16), .int (nI (i + 1)), .int (nI (bys ts i).length), .int (bi g), .int (nI k)] [] σ τ (fun r σ' τ' => r = some (.int (bi (decide (knd ts i = dk) && decide (bys ts i = d)))) ∧ σ' = σ ∧ τ' = τ) := by
  intro m
  induction m with
  | zero => intro k g hkn hm hg hf; exact absurd hm (by omega)
  | succ m ih =>
    intro k g hkn hm hg hf
    refine Rx.go (fun _ => rfl) ?_
    refine Rx.go (fun _ => rfl) ?_
    refine Rx.go (fun _ => rfl) ?_
    refine Rx.ite (fun c1 => ?_) (fun c1 => ?_)
    · replace c1 : (nI (bys ts i).length) ≤ (nI k) := of_decide_eq_true c1
      show Rx X c0 m_Mod_isDraft 92 [.ref (c0 + 16), .int (nI (i + 1)), .int (nI (bys ts i).length), .int (bi g), .int (nI k)] [] σ τ _
      refine Rx.go (fun _ => rfl) ?_
      exact Rx.ret rfl (bi_ret rfl) ⟨by rw [isd_end hg hf (isd_ge hR hi hkn c1)], rfl, rfl⟩
    · replace c1 : ¬ (nI (bys ts i).length) ≤ (nI k) := of_decide_eq_false c1
      have hlt := isd_lt hR hi hkn c1
      show Rx X c0 m_Mod_isDraft 52 [.ref (c0 + 16), .int (nI (i + 1)), .int (nI (bys ts i).length), .int (bi g), .int (nI k)] [] σ τ _
      refine Rx.go (fun _ => rfl) ?_
      refine Rx.go (fun _ => rfl) ?_
      refine Rx.ite (fun c2 => ?_) (fun c2 => ?_)
      · replace c2 : g = false := bi_eqt c2
        show Rx X c0 m_Mod_isDraft 92 [.ref (c0 + 16), .int (nI (i + 1)), .int (nI (bys ts i).length), .int (bi g), .int (nI k)] [] σ τ _
        refine Rx.go (fun _ => rfl) ?_
        exact Rx.ret rfl (bi_ret rfl) ⟨by rw [hf c2, c2], rfl, rfl⟩
      · replace c2 : g = true := bi_eqf c2
        show Rx X c0 m_Mod_isDraft 56 [.ref (c0 + 16), .int (nI (i + 1)), .int (nI (bys ts i).length), .int (bi g), .int (nI k)] [] σ τ _
        refine Rx.go (fun _ => rfl) ?_
        refine Rx.get rfl rfl ?_
        refine Rx.go (fun _ => rfl) ?_
        refine Rx.get rfl rfl ?_
        refine Rx.go (fun _ => rfl) ?_
        refine Rx.aldE (v := nI (off ts i)) 4 rfl rfl (nI_ix (N := 2002) (n := i + 1) (by have := hR.2.1; omega) (by decide)) (rt_f hR (i := i) (by omega)) ?_
        refine Rx.go (fun _ => rfl) ?_
        refine Rx.go (fun _ => rfl) ?_
        refine Rx.top (y := nI (off ts i + k)) (nI_add _ _) ?_
        refine Rx.aldE (v := nI ((bys ts i).getD k 0)) 3 rfl rfl (nI_ix (rt_b hR hi hlt).1 (by decide)) (rt_b hR hi hlt).2 ?_
        refine Rx.go (fun _ => rfl) ?_
        refine Rx.get rfl rfl ?_
        refine Rx.go (fun _ => rfl) ?_
        refine Rx.aldE (v := nI (d.getD k 0)) 9 rfl rfl (nI_ix (N := 260) (n := k) (by have := hd.2.1; have := (hg c2).2.1; omega) (by decide)) (drf_v hd (by have := (hg c2).2.1; omega)) ?_
        refine Rx.go (fun _ => rfl) ?_
        refine Rx.ite (fun c3 => ?_) (fun c3 => ?_)
        · replace c3 : ¬ (nI ((bys ts i).getD k 0)) = (nI (d.getD k 0)) := of_decide_eq_true c3
          show Rx X c0 m_Mod_isDraft 84 [.ref (c0 + 16), .int (nI (i + 1)), .int (nI (bys ts i).length), .int (bi g), .int (nI k)] [] σ τ _
          refine Rx.go (fun _ => rfl) ?_
          refine Rx.go (fun _ => rfl) ?_
          show Rx X c0 m_Mod_isDraft 86 [.ref (c0 + 16), .int (nI (i + 1)), .int (nI (bys ts i).length), .int 0, .int (nI k)] [] σ τ _
          refine Rx.go (fun _ => rfl) ?_
          show Rx X c0 m_Mod_isDraft 89 [.ref (c0 + 16), .int (nI (i + 1)), .int (nI (bys ts i).length), .int 0, .int ((nI k) + 1)] [] σ τ _
          refine Rx.go (fun _ => rfl) ?_
          show Rx X c0 m_Mod_isDraft 46 [.ref (c0 + 16), .int (nI (i + 1)), .int (nI (bys ts i).length), .int 0, .int ((nI k) + 1)] [] σ τ _
          rw [nI_1 k]
          exact ih (k + 1) false (by omega) (by omega) (fun q => by cases q) (fun _ => isd_n (isd_ne hR hi hd c3))
        · replace c3 : (nI ((bys ts i).getD k 0)) = (nI (d.getD k 0)) := Classical.not_not.mp (of_decide_eq_false c3)
          show Rx X c0 m_Mod_isDraft 80 [.ref (c0 + 16), .int (nI (i + 1)), .int (nI (bys ts i).length), .int (bi g), .int (nI k)] [] σ τ _
          refine Rx.go (fun _ => rfl) ?_
          refine Rx.go (fun _ => rfl) ?_
          refine Rx.go (fun _ => rfl) ?_
          show Rx X c0 m_Mod_isDraft 86 [.ref (c0 + 16), .int (nI (i + 1)), .int (nI (bys ts i).length), .int 1, .int (nI k)] [] σ τ _
          refine Rx.go (fun _ => rfl) ?_
          show Rx X c0 m_Mod_isDraft 89 [.ref (c0 + 16), .int (nI (i + 1)), .int (nI (bys ts i).length), .int 1, .int ((nI k) + 1)] [] σ τ _
          refine Rx.go (fun _ => rfl) ?_
          show Rx X c0 m_Mod_isDraft 46 [.ref (c0 + 16), .int (nI (i + 1)), .int (nI (bys ts i).length), .int 1, .int ((nI k) + 1)] [] σ τ _
          rw [nI_1 k]
          exact ih (k + 1) true (by omega) (by omega) (fun _ => ⟨(hg c2).1, (hg c2).2.1, isd_s (hg c2).2.2 (isd_e hR hi hd c3)⟩) (fun q => by cases q)
set_option maxRecDepth 100000 in
set_option maxHeartbeats 1000000 in
theorem rx_isDraft (X : ev_X) (c0 : Nat) (σ : Nat → Int32) (τ : Nat → Nat → Int32) {ts : RT} (hR : rt σ τ ts) {i : Nat} (hi : i < ts.length) {d : List Nat} (hd : drf σ τ d) {dk : Nat} (hk : σ 11 = nI dk) (hdk : dk < 16) : Rx X c0 m_Mod_isDraft 0 [.ref (c0 + 16), .int (nI (i + 1)), ev_dead, ev_dead, ev_dead] [] σ τ (fun r σ' τ' => r = some (.int (bi (decide (knd ts i = dk) && decide (bys ts i = d)))) ∧ σ' = σ ∧ τ' = τ) := by
  refine Rx.go (fun _ => rfl) ?_
  refine Rx.get rfl rfl ?_
  refine Rx.go (fun _ => rfl) ?_
  refine Rx.go (fun _ => rfl) ?_
  refine Rx.go (fun _ => rfl) ?_
  refine Rx.top (y := nI (i + 1 + 1)) (nI_1 _) ?_
  refine Rx.aldE (v := nI (off ts (i + 1))) 4 rfl rfl (nI_ix (N := 2002) (n := (i + 1) + 1) (by have := hR.2.1; omega) (by decide)) (rt_f hR (i := (i + 1)) (by omega)) ?_
  refine Rx.go (fun _ => rfl) ?_
  refine Rx.get rfl rfl ?_
  refine Rx.go (fun _ => rfl) ?_
  refine Rx.aldE (v := nI (off ts i)) 4 rfl rfl (nI_ix (N := 2002) (n := i + 1) (by have := hR.2.1; omega) (by decide)) (rt_f hR (i := i) (by omega)) ?_
  refine Rx.go (fun _ => rfl) ?_
  refine Rx.top (y := nI (bys ts i).length) (len_of hi) ?_
  refine Rx.go (fun _ => rfl) ?_
  show Rx X c0 m_Mod_isDraft 16 [.ref (c0 + 16), .int (nI (i + 1)), .int (nI (bys ts i).length), ev_dead, ev_dead] [] σ τ _
  refine Rx.go (fun _ => rfl) ?_
  refine Rx.get rfl rfl ?_
  refine Rx.go (fun _ => rfl) ?_
  refine Rx.aldE (v := nI (knd ts i)) 5 rfl rfl (nI_ix (N := 2002) (n := i + 1) (by have := hR.2.1; omega) (by decide)) (rt_k hR hi) ?_
  refine Rx.go (fun _ => rfl) ?_
  refine Rx.get rfl rfl ?_
  refine Rx.go (fun _ => rfl) ?_
  refine Rx.ite (fun c1 => ?_) (fun c1 => ?_)
  · replace c1 : ¬ (nI (knd ts i)) = (σ 11) := of_decide_eq_true c1
    show Rx X c0 m_Mod_isDraft 41 [.ref (c0 + 16), .int (nI (i + 1)), .int (nI (bys ts i).length), ev_dead, ev_dead] [] σ τ _
    refine Rx.go (fun _ => rfl) ?_
    refine Rx.go (fun _ => rfl) ?_
    show Rx X c0 m_Mod_isDraft 43 [.ref (c0 + 16), .int (nI (i + 1)), .int (nI (bys ts i).length), .int 0, ev_dead] [] σ τ _
    refine Rx.go (fun _ => rfl) ?_
    refine Rx.go (fun _ => rfl) ?_
    show Rx X c0 m_Mod_isDraft 46 [.ref (c0 + 16), .int (nI (i + 1)), .int (nI (bys ts i).length), .int 0, .int 0] [] σ τ _
    show Rx X c0 m_Mod_isDraft 46 [.ref (c0 + 16), .int (nI (i + 1)), .int (nI (bys ts i).length), .int 0, .int 0] [] σ τ _
    exact rx_isDraft_l X c0 σ τ hR hi hd hk hdk ((bys ts i).length + 1) 0 false (Nat.zero_le _) (by omega) (fun q => by cases q) (fun _ => isd_k0 (fun q => c1 (by rw [q, hk])))
  · replace c1 : (nI (knd ts i)) = (σ 11) := Classical.not_not.mp (of_decide_eq_false c1)
    show Rx X c0 m_Mod_isDraft 29 [.ref (c0 + 16), .int (nI (i + 1)), .int (nI (bys ts i).length), ev_dead, ev_dead] [] σ τ _
    refine Rx.go (fun _ => rfl) ?_
    refine Rx.go (fun _ => rfl) ?_
    refine Rx.get rfl rfl ?_
    refine Rx.go (fun _ => rfl) ?_
    refine Rx.ite (fun c2 => ?_) (fun c2 => ?_)
    · replace c2 : ¬ (nI (bys ts i).length) = (σ 10) := of_decide_eq_true c2
      show Rx X c0 m_Mod_isDraft 41 [.ref (c0 + 16), .int (nI (i + 1)), .int (nI (bys ts i).length), ev_dead, ev_dead] [] σ τ _
      refine Rx.go (fun _ => rfl) ?_
      refine Rx.go (fun _ => rfl) ?_
      show Rx X c0 m_Mod_isDraft 43 [.ref (c0 + 16), .int (nI (i + 1)), .int (nI (bys ts i).length), .int 0, ev_dead] [] σ τ _
      refine Rx.go (fun _ => rfl) ?_
      refine Rx.go (fun _ => rfl) ?_
      show Rx X c0 m_Mod_isDraft 46 [.ref (c0 + 16), .int (nI (i + 1)), .int (nI (bys ts i).length), .int 0, .int 0] [] σ τ _
      show Rx X c0 m_Mod_isDraft 46 [.ref (c0 + 16), .int (nI (i + 1)), .int (nI (bys ts i).length), .int 0, .int 0] [] σ τ _
      exact rx_isDraft_l X c0 σ τ hR hi hd hk hdk ((bys ts i).length + 1) 0 false (Nat.zero_le _) (by omega) (fun q => by cases q) (fun _ => isd_n (fun q => c2 (by rw [q, hd.1])))
    · replace c2 : (nI (bys ts i).length) = (σ 10) := Classical.not_not.mp (of_decide_eq_false c2)
      show Rx X c0 m_Mod_isDraft 37 [.ref (c0 + 16), .int (nI (i + 1)), .int (nI (bys ts i).length), ev_dead, ev_dead] [] σ τ _
      refine Rx.go (fun _ => rfl) ?_
      refine Rx.go (fun _ => rfl) ?_
      refine Rx.go (fun _ => rfl) ?_
      show Rx X c0 m_Mod_isDraft 43 [.ref (c0 + 16), .int (nI (i + 1)), .int (nI (bys ts i).length), .int 1, ev_dead] [] σ τ _
      refine Rx.go (fun _ => rfl) ?_
      refine Rx.go (fun _ => rfl) ?_
      show Rx X c0 m_Mod_isDraft 46 [.ref (c0 + 16), .int (nI (i + 1)), .int (nI (bys ts i).length), .int 1, .int 0] [] σ τ _
      show Rx X c0 m_Mod_isDraft 46 [.ref (c0 + 16), .int (nI (i + 1)), .int (nI (bys ts i).length), .int 1, .int 0] [] σ τ _
      exact rx_isDraft_l X c0 σ τ hR hi hd hk hdk ((bys ts i).length + 1) 0 true (Nat.zero_le _) (by omega) (fun _ => ⟨isd_k hR hi hdk (c1.trans hk), isd_z hR hi hd (c2.trans hd.1), fun j q => absurd q (by omega)⟩) (fun q => by cases q)
def isP (ts : RT) (dk : Nat) (d : List Nat) (i : Nat) : Prop := knd ts i = dk ∧ bys ts i = d
/-- the place, from 1, of the first term that is (dk, d); 0: none -/
def fdP (ts : RT) (dk : Nat) (d : List Nat) (j : Nat) : Prop := (0 < j ∧ j ≤ ts.length ∧ isP ts dk d (j - 1)) ∧ (∀ i, i < j - 1 → ¬ isP ts dk d i) ∨ j = 0 ∧ ∀ i, i < ts.length → ¬ isP ts dk d i
theorem isP_t {ts : RT} {dk i : Nat} {d : List Nat} (h : (decide (knd ts i = dk) && decide (bys ts i = d)) = true) : isP ts dk d i := by simpa [isP] using h
theorem isP_f {ts : RT} {dk i : Nat} {d : List Nat} (h : (decide (knd ts i = dk) && decide (bys ts i = d)) = false) : ¬ isP ts dk d i := by
  intro q; rw [q.1, q.2] at h; simp at h
theorem isP_s {ts : RT} {dk i : Nat} {d : List Nat} (h : ∀ j, j < i → ¬ isP ts dk d j) (e : ¬ isP ts dk d i) : ∀ j, j < i + 1 → ¬ isP ts dk d j := fun j hj => by
  rcases Nat.lt_or_ge j i with q | q
  · exact h j q
  · rw [show j = i by omega]; exact e
theorem fd_gt {σ : Nat → Int32} {τ : Nat → Nat → Int32} {ts : RT} (hR : rt σ τ ts) {i : Nat} (hi : i ≤ ts.length) (c : σ 7 < nI (i + 1)) : i = ts.length := by
  rw [hR.1, nI_ltI (by have := hR.2.1; omega) (by have := hR.2.1; omega)] at c; omega
theorem fd_le {σ : Nat → Int32} {τ : Nat → Nat → Int32} {ts : RT} (hR : rt σ τ ts) {i : Nat} (hi : i ≤ ts.length) (c : ¬ σ 7 < nI (i + 1)) : i < ts.length := by
  rw [hR.1, nI_ltI (by have := hR.2.1; omega) (by have := hR.2.1; omega)] at c; omega
set_option maxRecDepth 100000 in
set_option maxHeartbeats 1000000 in
theorem rx_findDraft_l (X : ev_X) (c0 : Nat) (σ : Nat → Int32) (τ : Nat → Nat → Int32) {ts : RT} (hR : rt σ τ ts) {d : List Nat} (hd : drf σ τ d) {dk : Nat} (hk : σ 11 = nI dk) (hdk : dk < 16) : ∀ (m : Nat) (i : Nat) (hi : i ≤ ts.length) (hm : ts.length + 1 ≤ i + m) (hn : ∀ j, j < i → ¬ isP ts dk d j), Rx X c0 m_Mod_findDraft 2 [.ref (c0 + 16), .int (nI (i + 1))] [] σ τ (fun r σ' τ' => ∃ j : Nat, fdP ts dk d j ∧ r = some (.int (nI j)) ∧ σ' = σ ∧ τ' = τ) := by
  intro m
  induction m with
  | zero => intro i hi hm hn; exact absurd hm (by omega)
  | succ m ih =>
    intro i hi hm hn
    refine Rx.go (fun _ => rfl) ?_
    refine Rx.go (fun _ => rfl) ?_
    refine Rx.get rfl rfl ?_
    refine Rx.go (fun _ => rfl) ?_
    refine Rx.ite (fun c1 => ?_) (fun c1 => ?_)
    · replace c1 : (σ 7) < (nI (i + 1)) := of_decide_eq_true c1
      show Rx X c0 m_Mod_findDraft 24 [.ref (c0 + 16), .int (nI (i + 1))] [] σ τ _
      refine Rx.go (fun _ => rfl) ?_
      refine Rx.go (fun _ => rfl) ?_
      refine Rx.get rfl rfl ?_
      refine Rx.go (fun _ => rfl) ?_
      refine Rx.ite (fun c2 => ?_) (fun c2 => ?_)
      · replace c2 : (σ 7) < (nI (i + 1)) := of_decide_eq_true c2
        show Rx X c0 m_Mod_findDraft 36 [.ref (c0 + 16), .int (nI (i + 1))] [] σ τ _
        refine Rx.go (fun _ => rfl) ?_
        exact Rx.ret rfl (ev_reti rfl) ⟨0, Or.inr ⟨rfl, fun j hj => hn j (by have := fd_gt hR hi c1; omega)⟩, rfl, rfl, rfl⟩
      · replace c2 : ¬ (σ 7) < (nI (i + 1)) := of_decide_eq_false c2
        show Rx X c0 m_Mod_findDraft 32 [.ref (c0 + 16), .int (nI (i + 1))] [] σ τ _
        refine Rx.go (fun _ => rfl) ?_
        refine Rx.go (fun _ => rfl) ?_
        exact absurd c1 c2
    · replace c1 : ¬ (σ 7) < (nI (i + 1)) := of_decide_eq_false c1
      have hlt := fd_le hR hi c1
      show Rx X c0 m_Mod_findDraft 10 [.ref (c0 + 16), .int (nI (i + 1))] [] σ τ _
      refine Rx.go (fun _ => rfl) ?_
      refine Rx.go (fun _ => rfl) ?_
      refine Rx.callE rfl rfl rfl rfl (rx_isDraft X c0 _ _ hR hlt hd hk hdk) ?_
      show Rx X c0 m_Mod_findDraft 15 [.ref (c0 + 16), .int (nI (i + 1))] [.int (bi (decide (knd ts i = dk) && decide (bys ts i = d)))] σ τ _
      refine Rx.go (fun _ => rfl) ?_
      refine Rx.ite (fun c3 => ?_) (fun c3 => ?_)
      · replace c3 : (decide (knd ts i = dk) && decide (bys ts i = d)) = true := bi_net c3
        show Rx X c0 m_Mod_findDraft 24 [.ref (c0 + 16), .int (nI (i + 1))] [] σ τ _
        refine Rx.go (fun _ => rfl) ?_
        refine Rx.go (fun _ => rfl) ?_
        refine Rx.get rfl rfl ?_
        refine Rx.go (fun _ => rfl) ?_
        refine Rx.ite (fun c4 => ?_) (fun c4 => ?_)
        · replace c4 : (σ 7) < (nI (i + 1)) := of_decide_eq_true c4
          show Rx X c0 m_Mod_findDraft 36 [.ref (c0 + 16), .int (nI (i + 1))] [] σ τ _
          refine Rx.go (fun _ => rfl) ?_
          exact absurd c4 (by rw [hR.1]; exact nI_nlt (by omega) (by have := hR.2.1; omega))
        · replace c4 : ¬ (σ 7) < (nI (i + 1)) := of_decide_eq_false c4
          show Rx X c0 m_Mod_findDraft 32 [.ref (c0 + 16), .int (nI (i + 1))] [] σ τ _
          refine Rx.go (fun _ => rfl) ?_
          refine Rx.go (fun _ => rfl) ?_
          exact Rx.ret rfl (ev_reti rfl) ⟨i + 1, Or.inl ⟨⟨by omega, by omega, isP_t c3⟩, fun j hj => hn j (by omega)⟩, rfl, rfl, rfl⟩
      · replace c3 : (decide (knd ts i = dk) && decide (bys ts i = d)) = false := bi_nef c3
        show Rx X c0 m_Mod_findDraft 18 [.ref (c0 + 16), .int (nI (i + 1))] [] σ τ _
        refine Rx.go (fun _ => rfl) ?_
        show Rx X c0 m_Mod_findDraft 21 [.ref (c0 + 16), .int ((nI (i + 1)) + 1)] [] σ τ _
        refine Rx.go (fun _ => rfl) ?_
        show Rx X c0 m_Mod_findDraft 2 [.ref (c0 + 16), .int ((nI (i + 1)) + 1)] [] σ τ _
        rw [nI_1 (i + 1)]
        exact ih (i + 1) hlt (by omega) (isP_s hn (isP_f c3))
set_option maxRecDepth 100000 in
set_option maxHeartbeats 1000000 in
theorem rx_findDraft (X : ev_X) (c0 : Nat) (σ : Nat → Int32) (τ : Nat → Nat → Int32) {ts : RT} (hR : rt σ τ ts) {d : List Nat} (hd : drf σ τ d) {dk : Nat} (hk : σ 11 = nI dk) (hdk : dk < 16) : Rx X c0 m_Mod_findDraft 0 [.ref (c0 + 16), ev_dead] [] σ τ (fun r σ' τ' => ∃ j : Nat, fdP ts dk d j ∧ r = some (.int (nI j)) ∧ σ' = σ ∧ τ' = τ) := by
  refine Rx.go (fun _ => rfl) ?_
  refine Rx.go (fun _ => rfl) ?_
  show Rx X c0 m_Mod_findDraft 2 [.ref (c0 + 16), .int 1] [] σ τ _
  show Rx X c0 m_Mod_findDraft 2 [.ref (c0 + 16), .int 1] [] σ τ _
  exact rx_findDraft_l X c0 σ τ hR hd hk hdk (ts.length + 1) 0 (Nat.zero_le _) (by omega) (fun j q => absurd q (by omega))
