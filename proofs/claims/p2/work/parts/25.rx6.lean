/-! itemAt, items, orderRows of the reference. (rows laid by wip/whole/rx7.py) -/
/-- the item that begins at k -/
def itA (l : List Nat) (k : Nat) : Nat := if l.getD k 0 = 92 then (if l.getD (k + 1) 0 = 110 then 10 else if l.getD (k + 1) 0 = 114 then 13 else if l.getD (k + 1) 0 = 116 then 9 else l.getD (k + 1) 0) else l.getD k 0
/-- how many items -/
def itl : List Nat → Nat
  | [] => 0
  | [_] => 1
  | b :: c :: s => if b = 92 then itl s + 1 else itl (c :: s) + 1
theorem drop_getD {l : List Nat} {k : Nat} (h : k < l.length) : l.drop k = l.getD k 0 :: l.drop (k + 1) := by
  rw [List.drop_eq_getElem_cons h, List.getD_eq_getElem?_getD, List.getElem?_eq_getElem h]; rfl
theorem itl_step {l : List Nat} {k : Nat} (h : k < l.length) : itl (l.drop k) = itl (l.drop (k + (if l.getD k 0 = 92 then 2 else 1))) + 1 := by
  rw [drop_getD h]
  by_cases hb : l.getD k 0 = 92
  · rw [if_pos hb, hb]
    by_cases h2 : k + 1 < l.length
    · rw [drop_getD h2]; simp [itl]
    · rw [List.drop_eq_nil_of_le (by omega), List.drop_eq_nil_of_le (by omega)]; rfl
  · rw [if_neg hb]
    by_cases h2 : k + 1 < l.length
    · rw [drop_getD h2]; simp only [itl, if_neg hb]
    · rw [List.drop_eq_nil_of_le (by omega)]; rfl
theorem take_getD {l : List Nat} {e k : Nat} (h : k < e) : (l.take e).getD k 0 = l.getD k 0 := by
  rw [List.getD_eq_getElem?_getD, List.getD_eq_getElem?_getD, List.getElem?_take_of_lt h]
/-- from p to e the bytes are the items A -/
def seg (l : List Nat) (e : Nat) : Nat → List Nat → Prop
  | p, [] => p = e
  | p, a :: A => p < e ∧ itA l p = a ∧ seg l e (p + (if l.getD p 0 = 92 then 2 else 1)) A
theorem seg_cons {l : List Nat} {e p : Nat} {A : List Nat} (h : seg l e p A) (hp : p < e) : ∃ a A', A = a :: A' ∧ itA l p = a ∧ seg l e (p + (if l.getD p 0 = 92 then 2 else 1)) A' := by
  cases A with
  | nil => exact absurd h (by simp only [seg]; omega)
  | cons a A' => exact ⟨a, A', rfl, h.2.1, h.2.2⟩
theorem seg_nil {l : List Nat} {e p : Nat} {A : List Nat} (h : seg l e p A) (hp : e ≤ p) : A = [] := by
  cases A with
  | nil => rfl
  | cons a A' => exact absurd h.1 (by omega)
def lexc : List Nat → List Nat → Int32
  | [], [] => 0
  | [], _ :: _ => -1
  | _ :: _, [] => 1
  | a :: A, b :: B => if a = b then lexc A B else sgn (nI a - nI b)
theorem itA_lt {σ : Nat → Int32} {τ : Nat → Nat → Int32} {ts : RT} (hR : rt σ τ ts) {i : Nat} (hi : i < ts.length) (k : Nat) : itA (bys ts i) k < 256 := by
  have h1 := (rt_ok hR hi).1 k
  have h2 := (rt_ok hR hi).1 (k + 1)
  unfold itA
  repeat' split
  all_goals omega
set_option maxRecDepth 100000 in
set_option maxHeartbeats 1000000 in
theorem rx_itemAt (X : ev_X) (c0 : Nat) (σ : Nat → Int32) (τ : Nat → Nat → Int32) {ts : RT} (hR : rt σ τ ts) {i : Nat} (hi : i < ts.length) {k : Nat} (hk : k < 2 ^ 19) : Rx X c0 m_Mod_itemAt 0 [.ref (c0 + 16), .int (nI (i + 1)), .int (nI k), ev_dead, ev_dead] [] σ τ (fun r σ' τ' => r = some (.int (nI (itA (bys ts i) k))) ∧ σ' = σ ∧ τ' = τ) := by
  refine Rx.go (fun _ => rfl) ?_
  refine Rx.go (fun _ => rfl) ?_
  refine Rx.go (fun _ => rfl) ?_
  refine Rx.callE rfl rfl rfl rfl (rx_byteAt X c0 _ _ hR hi (j := k) (by omega)) ?_
  show Rx X c0 m_Mod_itemAt 6 [.ref (c0 + 16), .int (nI (i + 1)), .int (nI k), ev_dead, ev_dead] [.int (nI ((bys ts i).getD k 0))] σ τ _
  refine Rx.go (fun _ => rfl) ?_
  show Rx X c0 m_Mod_itemAt 7 [.ref (c0 + 16), .int (nI (i + 1)), .int (nI k), .int (nI ((bys ts i).getD k 0)), ev_dead] [] σ τ _
  refine Rx.go (fun _ => rfl) ?_
  refine Rx.go (fun _ => rfl) ?_
  refine Rx.go (fun _ => rfl) ?_
  refine Rx.ite (fun c1 => ?_) (fun c1 => ?_)
  · replace c1 : (nI ((bys ts i).getD k 0)) = 92 := of_decide_eq_true c1
    show Rx X c0 m_Mod_itemAt 15 [.ref (c0 + 16), .int (nI (i + 1)), .int (nI k), .int (nI ((bys ts i).getD k 0)), ev_dead] [] σ τ _
    refine Rx.go (fun _ => rfl) ?_
    refine Rx.go (fun _ => rfl) ?_
    refine Rx.go (fun _ => rfl) ?_
    refine Rx.go (fun _ => rfl) ?_
    refine Rx.go (fun _ => rfl) ?_
    refine Rx.top (y := nI (k + 1)) (nI_1 _) ?_
    refine Rx.callE rfl rfl rfl rfl (rx_byteAt X c0 _ _ hR hi (j := k + 1) (by omega)) ?_
    show Rx X c0 m_Mod_itemAt 23 [.ref (c0 + 16), .int (nI (i + 1)), .int (nI k), .int (nI ((bys ts i).getD k 0)), ev_dead] [.int (nI ((bys ts i).getD (k + 1) 0))] σ τ _
    refine Rx.go (fun _ => rfl) ?_
    show Rx X c0 m_Mod_itemAt 25 [.ref (c0 + 16), .int (nI (i + 1)), .int (nI k), .int (nI ((bys ts i).getD k 0)), .int (nI ((bys ts i).getD (k + 1) 0))] [] σ τ _
    refine Rx.go (fun _ => rfl) ?_
    refine Rx.go (fun _ => rfl) ?_
    refine Rx.go (fun _ => rfl) ?_
    refine Rx.ite (fun c2 => ?_) (fun c2 => ?_)
    · replace c2 : ¬ (nI ((bys ts i).getD (k + 1) 0)) = 110 := of_decide_eq_true c2
      show Rx X c0 m_Mod_itemAt 37 [.ref (c0 + 16), .int (nI (i + 1)), .int (nI k), .int (nI ((bys ts i).getD k 0)), .int (nI ((bys ts i).getD (k + 1) 0))] [] σ τ _
      refine Rx.go (fun _ => rfl) ?_
      refine Rx.go (fun _ => rfl) ?_
      refine Rx.go (fun _ => rfl) ?_
      refine Rx.ite (fun c3 => ?_) (fun c3 => ?_)
      · replace c3 : ¬ (nI ((bys ts i).getD (k + 1) 0)) = 114 := of_decide_eq_true c3
        show Rx X c0 m_Mod_itemAt 49 [.ref (c0 + 16), .int (nI (i + 1)), .int (nI k), .int (nI ((bys ts i).getD k 0)), .int (nI ((bys ts i).getD (k + 1) 0))] [] σ τ _
        refine Rx.go (fun _ => rfl) ?_
        refine Rx.go (fun _ => rfl) ?_
        refine Rx.go (fun _ => rfl) ?_
        refine Rx.ite (fun c4 => ?_) (fun c4 => ?_)
        · replace c4 : ¬ (nI ((bys ts i).getD (k + 1) 0)) = 116 := of_decide_eq_true c4
          show Rx X c0 m_Mod_itemAt 61 [.ref (c0 + 16), .int (nI (i + 1)), .int (nI k), .int (nI ((bys ts i).getD k 0)), .int (nI ((bys ts i).getD (k + 1) 0))] [] σ τ _
          refine Rx.go (fun _ => rfl) ?_
          show Rx X c0 m_Mod_itemAt 63 [.ref (c0 + 16), .int (nI (i + 1)), .int (nI k), .int (nI ((bys ts i).getD k 0)), .int (nI ((bys ts i).getD (k + 1) 0))] [.int (nI ((bys ts i).getD (k + 1) 0))] σ τ _
          exact Rx.ret rfl (ev_reti rfl) ⟨by rw [itA, if_pos (bt_e hR hi (n := 92) rfl (by decide) c1), if_neg (bt_n (n := 110) rfl c2), if_neg (bt_n (n := 114) rfl c3), if_neg (bt_n (n := 116) rfl c4)], rfl, rfl⟩
        · replace c4 : (nI ((bys ts i).getD (k + 1) 0)) = 116 := Classical.not_not.mp (of_decide_eq_false c4)
          show Rx X c0 m_Mod_itemAt 56 [.ref (c0 + 16), .int (nI (i + 1)), .int (nI k), .int (nI ((bys ts i).getD k 0)), .int (nI ((bys ts i).getD (k + 1) 0))] [] σ τ _
          refine Rx.go (fun _ => rfl) ?_
          refine Rx.go (fun _ => rfl) ?_
          show Rx X c0 m_Mod_itemAt 63 [.ref (c0 + 16), .int (nI (i + 1)), .int (nI k), .int (nI ((bys ts i).getD k 0)), .int (nI ((bys ts i).getD (k + 1) 0))] [.int 9] σ τ _
          exact Rx.ret rfl (ev_reti rfl) ⟨by rw [itA, if_pos (bt_e hR hi (n := 92) rfl (by decide) c1), if_neg (bt_n (n := 110) rfl c2), if_neg (bt_n (n := 114) rfl c3), if_pos (bt_e hR hi (n := 116) rfl (by decide) c4)]; rfl, rfl, rfl⟩
      · replace c3 : (nI ((bys ts i).getD (k + 1) 0)) = 114 := Classical.not_not.mp (of_decide_eq_false c3)
        show Rx X c0 m_Mod_itemAt 44 [.ref (c0 + 16), .int (nI (i + 1)), .int (nI k), .int (nI ((bys ts i).getD k 0)), .int (nI ((bys ts i).getD (k + 1) 0))] [] σ τ _
        refine Rx.go (fun _ => rfl) ?_
        refine Rx.go (fun _ => rfl) ?_
        show Rx X c0 m_Mod_itemAt 63 [.ref (c0 + 16), .int (nI (i + 1)), .int (nI k), .int (nI ((bys ts i).getD k 0)), .int (nI ((bys ts i).getD (k + 1) 0))] [.int 13] σ τ _
        exact Rx.ret rfl (ev_reti rfl) ⟨by rw [itA, if_pos (bt_e hR hi (n := 92) rfl (by decide) c1), if_neg (bt_n (n := 110) rfl c2), if_pos (bt_e hR hi (n := 114) rfl (by decide) c3)]; rfl, rfl, rfl⟩
    · replace c2 : (nI ((bys ts i).getD (k + 1) 0)) = 110 := Classical.not_not.mp (of_decide_eq_false c2)
      show Rx X c0 m_Mod_itemAt 32 [.ref (c0 + 16), .int (nI (i + 1)), .int (nI k), .int (nI ((bys ts i).getD k 0)), .int (nI ((bys ts i).getD (k + 1) 0))] [] σ τ _
      refine Rx.go (fun _ => rfl) ?_
      refine Rx.go (fun _ => rfl) ?_
      show Rx X c0 m_Mod_itemAt 63 [.ref (c0 + 16), .int (nI (i + 1)), .int (nI k), .int (nI ((bys ts i).getD k 0)), .int (nI ((bys ts i).getD (k + 1) 0))] [.int 10] σ τ _
      exact Rx.ret rfl (ev_reti rfl) ⟨by rw [itA, if_pos (bt_e hR hi (n := 92) rfl (by decide) c1), if_pos (bt_e hR hi (n := 110) rfl (by decide) c2)]; rfl, rfl, rfl⟩
  · replace c1 : ¬ (nI ((bys ts i).getD k 0)) = 92 := of_decide_eq_false c1
    show Rx X c0 m_Mod_itemAt 13 [.ref (c0 + 16), .int (nI (i + 1)), .int (nI k), .int (nI ((bys ts i).getD k 0)), ev_dead] [] σ τ _
    refine Rx.go (fun _ => rfl) ?_
    show Rx X c0 m_Mod_itemAt 14 [.ref (c0 + 16), .int (nI (i + 1)), .int (nI k), .int (nI ((bys ts i).getD k 0)), ev_dead] [.int (nI ((bys ts i).getD k 0))] σ τ _
    exact Rx.ret rfl (ev_reti rfl) ⟨by rw [itA, if_neg (bt_n (n := 92) rfl c1)], rfl, rfl⟩
theorem it_lt {e k : Nat} (h1 : e < 2 ^ 31) (h2 : k < 2 ^ 31) (c : ¬ nI e ≤ nI k) : k < e := by
  rw [nI_leI h1 h2] at c; omega
theorem it_ge {e k : Nat} (h1 : e < 2 ^ 31) (h2 : k < 2 ^ 31) (c : nI e ≤ nI k) : e ≤ k := by
  rw [nI_leI h1 h2] at c; exact c
set_option maxRecDepth 100000 in
set_option maxHeartbeats 1000000 in
theorem rx_items_l (X : ev_X) (c0 : Nat) (σ : Nat → Int32) (τ : Nat → Nat → Int32) {ts : RT} (hR : rt σ τ ts) {i : Nat} (hi : i < ts.length) {e R f0 : Nat} (he : e ≤ (bys ts i).length) : ∀ (m : Nat) (k a : Nat) (hk : k ≤ e + 1) (hm : e + 2 ≤ k + m) (hr : a + itl (((bys ts i).take e).drop k) = R), Rx X c0 m_Mod_items 6 [.ref (c0 + 16), .int (nI (i + 1)), .int (nI f0), .int (nI e), .int (nI a), .int (nI k)] [] σ τ (fun r σ' τ' => r = some (.int (nI R)) ∧ σ' = σ ∧ τ' = τ) := by
  intro m
  induction m with
  | zero => intro k a hk hm hr; exact absurd hm (by omega)
  | succ m ih =>
    intro k a hk hm hr
    refine Rx.go (fun _ => rfl) ?_
    refine Rx.go (fun _ => rfl) ?_
    refine Rx.go (fun _ => rfl) ?_
    refine Rx.ite (fun c1 => ?_) (fun c1 => ?_)
    · replace c1 : (nI e) ≤ (nI k) := of_decide_eq_true c1
      have hge : e ≤ k := it_ge (by have := (rt_ok hR hi).2.2.1; omega) (by have := (rt_ok hR hi).2.2.1; omega) c1
      show Rx X c0 m_Mod_items 36 [.ref (c0 + 16), .int (nI (i + 1)), .int (nI f0), .int (nI e), .int (nI a), .int (nI k)] [] σ τ _
      refine Rx.go (fun _ => rfl) ?_
      show Rx X c0 m_Mod_items 38 [.ref (c0 + 16), .int (nI (i + 1)), .int (nI f0), .int (nI e), .int (nI a), .int (nI k)] [.int (nI a)] σ τ _
      exact Rx.ret rfl (ev_reti rfl) ⟨by rw [← hr, List.drop_eq_nil_of_le (by rw [List.length_take]; omega)]; rfl, rfl, rfl⟩
    · replace c1 : ¬ (nI e) ≤ (nI k) := of_decide_eq_false c1
      have hlt : k < e := it_lt (by have := (rt_ok hR hi).2.2.1; omega) (by have := (rt_ok hR hi).2.2.1; omega) c1
      show Rx X c0 m_Mod_items 12 [.ref (c0 + 16), .int (nI (i + 1)), .int (nI f0), .int (nI e), .int (nI a), .int (nI k)] [] σ τ _
      refine Rx.go (fun _ => rfl) ?_
      refine Rx.go (fun _ => rfl) ?_
      refine Rx.go (fun _ => rfl) ?_
      refine Rx.callE rfl rfl rfl rfl (rx_byteAt X c0 _ _ hR hi (j := k) (by have := (rt_ok hR hi).2.2.1; omega)) ?_
      show Rx X c0 m_Mod_items 19 [.ref (c0 + 16), .int (nI (i + 1)), .int (nI f0), .int (nI e), .int (nI a), .int (nI k)] [.int (nI ((bys ts i).getD k 0))] σ τ _
      refine Rx.go (fun _ => rfl) ?_
      refine Rx.go (fun _ => rfl) ?_
      refine Rx.ite (fun c2 => ?_) (fun c2 => ?_)
      · replace c2 : ¬ (nI ((bys ts i).getD k 0)) = 92 := of_decide_eq_true c2
        show Rx X c0 m_Mod_items 27 [.ref (c0 + 16), .int (nI (i + 1)), .int (nI f0), .int (nI e), .int (nI a), .int (nI k)] [] σ τ _
        refine Rx.go (fun _ => rfl) ?_
        show Rx X c0 m_Mod_items 30 [.ref (c0 + 16), .int (nI (i + 1)), .int (nI f0), .int (nI e), .int ((nI a) + 1), .int (nI k)] [] σ τ _
        refine Rx.go (fun _ => rfl) ?_
        show Rx X c0 m_Mod_items 33 [.ref (c0 + 16), .int (nI (i + 1)), .int (nI f0), .int (nI e), .int ((nI a) + 1), .int ((nI k) + 1)] [] σ τ _
        refine Rx.go (fun _ => rfl) ?_
        show Rx X c0 m_Mod_items 6 [.ref (c0 + 16), .int (nI (i + 1)), .int (nI f0), .int (nI e), .int ((nI a) + 1), .int ((nI k) + 1)] [] σ τ _
        rw [nI_1 k, nI_1 a]
        exact ih (k + 1) (a + 1) (by omega) (by omega) (by rw [← hr, itl_step (l := (bys ts i).take e) (k := k) (by rw [List.length_take]; omega), take_getD hlt, if_neg (bt_n (n := 92) rfl c2)]; omega)
      · replace c2 : (nI ((bys ts i).getD k 0)) = 92 := Classical.not_not.mp (of_decide_eq_false c2)
        show Rx X c0 m_Mod_items 24 [.ref (c0 + 16), .int (nI (i + 1)), .int (nI f0), .int (nI e), .int (nI a), .int (nI k)] [] σ τ _
        refine Rx.go (fun _ => rfl) ?_
        show Rx X c0 m_Mod_items 27 [.ref (c0 + 16), .int (nI (i + 1)), .int (nI f0), .int (nI e), .int (nI a), .int ((nI k) + 1)] [] σ τ _
        refine Rx.go (fun _ => rfl) ?_
        show Rx X c0 m_Mod_items 30 [.ref (c0 + 16), .int (nI (i + 1)), .int (nI f0), .int (nI e), .int ((nI a) + 1), .int ((nI k) + 1)] [] σ τ _
        refine Rx.go (fun _ => rfl) ?_
        show Rx X c0 m_Mod_items 33 [.ref (c0 + 16), .int (nI (i + 1)), .int (nI f0), .int (nI e), .int ((nI a) + 1), .int (((nI k) + 1) + 1)] [] σ τ _
        refine Rx.go (fun _ => rfl) ?_
        show Rx X c0 m_Mod_items 6 [.ref (c0 + 16), .int (nI (i + 1)), .int (nI f0), .int (nI e), .int ((nI a) + 1), .int (((nI k) + 1) + 1)] [] σ τ _
        rw [nI_1 k, nI_1 (k + 1), nI_1 a]
        exact ih (k + 1 + 1) (a + 1) (by omega) (by omega) (by rw [← hr, itl_step (l := (bys ts i).take e) (k := k) (by rw [List.length_take]; omega), take_getD hlt, if_pos (bt_e hR hi (n := 92) rfl (by decide) c2), show k + 2 = k + 1 + 1 from rfl]; omega)
set_option maxRecDepth 100000 in
set_option maxHeartbeats 1000000 in
theorem rx_items (X : ev_X) (c0 : Nat) (σ : Nat → Int32) (τ : Nat → Nat → Int32) {ts : RT} (hR : rt σ τ ts) {i : Nat} (hi : i < ts.length) {f e : Nat} (hf : f ≤ e + 1) (he : e ≤ (bys ts i).length) : Rx X c0 m_Mod_items 0 [.ref (c0 + 16), .int (nI (i + 1)), .int (nI f), .int (nI e), ev_dead, ev_dead] [] σ τ (fun r σ' τ' => r = some (.int (nI (itl (((bys ts i).take e).drop f)))) ∧ σ' = σ ∧ τ' = τ) := by
  refine Rx.go (fun _ => rfl) ?_
  refine Rx.go (fun _ => rfl) ?_
  show Rx X c0 m_Mod_items 3 [.ref (c0 + 16), .int (nI (i + 1)), .int (nI f), .int (nI e), .int 0, ev_dead] [] σ τ _
  refine Rx.go (fun _ => rfl) ?_
  refine Rx.go (fun _ => rfl) ?_
  show Rx X c0 m_Mod_items 6 [.ref (c0 + 16), .int (nI (i + 1)), .int (nI f), .int (nI e), .int 0, .int (nI f)] [] σ τ _
  show Rx X c0 m_Mod_items 6 [.ref (c0 + 16), .int (nI (i + 1)), .int (nI f), .int (nI e), .int 0, .int (nI f)] [] σ τ _
  exact rx_items_l X c0 σ τ hR hi he (e + 2) f 0 hf (by omega) (Nat.zero_add _)
theorem or_ab {σ : Nat → Int32} {τ : Nat → Nat → Int32} {ts : RT} (hR : rt σ τ ts) {ia ib p q a b : Nat} (hia : ia < ts.length) (hib : ib < ts.length) (ha : itA (bys ts ia) p = a) (hb : itA (bys ts ib) q = b) (c : nI (itA (bys ts ia) p) = nI (itA (bys ts ib) q)) : a = b := by
  have := (nI_eq (by have := itA_lt hR hia p; omega) (by have := itA_lt hR hib q; omega)).mp c
  omega
theorem seg_le {l : List Nat} {e p n : Nat} {A : List Nat} (h : seg l e p A) (hn : e ≤ n) : p ≤ n := by
  cases A with
  | nil => have : p = e := h; omega
  | cons a A => have := h.1; omega
set_option maxRecDepth 100000 in
set_option maxHeartbeats 1000000 in
theorem rx_orderRows_l (X : ev_X) (c0 : Nat) (σ : Nat → Int32) (τ : Nat → Nat → Int32) {ts : RT} (hR : rt σ τ ts) {ia ib : Nat} (hia : ia < ts.length) (hib : ib < ts.length) {ea eb : Nat} (hea : ea ≤ (bys ts ia).length) (heb : eb ≤ (bys ts ib).length) (z1 z2 : Int32) : ∀ (m : Nat) (A B : List Nat) (p q : Nat) (hm : A.length < m) (hpl : p ≤ (bys ts ia).length) (hql : q ≤ (bys ts ib).length) (ha : seg (bys ts ia) ea p A) (hb : seg (bys ts ib) eb q B), Rx X c0 m_Mod_orderRows 7 [.ref (c0 + 16), .int (nI (ia + 1)), .int z1, .int (nI ea), .int (nI (ib + 1)), .int z2, .int (nI eb), .int (nI p), .int (nI q)] [] σ τ (fun r σ' τ' => r = some (.int (lexc A B)) ∧ σ' = σ ∧ τ' = τ) := by
  intro m
  induction m with
  | zero => intro A B p q hm hpl hql ha hb; exact absurd hm (Nat.not_lt_zero _)
  | succ m ih =>
    intro A B p q hm hpl hql ha hb
    refine Rx.go (fun _ => rfl) ?_
    refine Rx.go (fun _ => rfl) ?_
    refine Rx.go (fun _ => rfl) ?_
    refine Rx.ite (fun c1 => ?_) (fun c1 => ?_)
    · replace c1 : (nI ea) ≤ (nI p) := of_decide_eq_true c1
      have hge : ea ≤ p := it_ge (by have := (rt_ok hR hia).2.2.1; omega) (by have := (rt_ok hR hia).2.2.1; omega) c1
      show Rx X c0 m_Mod_orderRows 86 [.ref (c0 + 16), .int (nI (ia + 1)), .int z1, .int (nI ea), .int (nI (ib + 1)), .int z2, .int (nI eb), .int (nI p), .int (nI q)] [] σ τ _
      refine Rx.go (fun _ => rfl) ?_
      refine Rx.go (fun _ => rfl) ?_
      refine Rx.go (fun _ => rfl) ?_
      refine Rx.ite (fun c2 => ?_) (fun c2 => ?_)
      · replace c2 : (nI ea) ≤ (nI p) := of_decide_eq_true c2
        show Rx X c0 m_Mod_orderRows 119 [.ref (c0 + 16), .int (nI (ia + 1)), .int z1, .int (nI ea), .int (nI (ib + 1)), .int z2, .int (nI eb), .int (nI p), .int (nI q)] [] σ τ _
        refine Rx.go (fun _ => rfl) ?_
        refine Rx.go (fun _ => rfl) ?_
        refine Rx.go (fun _ => rfl) ?_
        refine Rx.ite (fun c3 => ?_) (fun c3 => ?_)
        · replace c3 : (nI ea) ≤ (nI p) := of_decide_eq_true c3
          show Rx X c0 m_Mod_orderRows 129 [.ref (c0 + 16), .int (nI (ia + 1)), .int z1, .int (nI ea), .int (nI (ib + 1)), .int z2, .int (nI eb), .int (nI p), .int (nI q)] [] σ τ _
          refine Rx.go (fun _ => rfl) ?_
          refine Rx.go (fun _ => rfl) ?_
          refine Rx.go (fun _ => rfl) ?_
          refine Rx.ite (fun c4 => ?_) (fun c4 => ?_)
          · replace c4 : (nI eb) ≤ (nI q) := of_decide_eq_true c4
            show Rx X c0 m_Mod_orderRows 140 [.ref (c0 + 16), .int (nI (ia + 1)), .int z1, .int (nI ea), .int (nI (ib + 1)), .int z2, .int (nI eb), .int (nI p), .int (nI q)] [] σ τ _
            refine Rx.go (fun _ => rfl) ?_
            show Rx X c0 m_Mod_orderRows 141 [.ref (c0 + 16), .int (nI (ia + 1)), .int z1, .int (nI ea), .int (nI (ib + 1)), .int z2, .int (nI eb), .int (nI p), .int (nI q)] [.int 0] σ τ _
            rw [seg_nil ha hge, seg_nil hb (it_ge (by have := (rt_ok hR hib).2.2.1; omega) (by have := (rt_ok hR hib).2.2.1; omega) c4)]
            exact Rx.ret rfl (ev_reti rfl) ⟨rfl, rfl, rfl⟩
          · replace c4 : ¬ (nI eb) ≤ (nI q) := of_decide_eq_false c4
            show Rx X c0 m_Mod_orderRows 136 [.ref (c0 + 16), .int (nI (ia + 1)), .int z1, .int (nI ea), .int (nI (ib + 1)), .int z2, .int (nI eb), .int (nI p), .int (nI q)] [] σ τ _
            refine Rx.go (fun _ => rfl) ?_
            refine Rx.go (fun _ => rfl) ?_
            show Rx X c0 m_Mod_orderRows 141 [.ref (c0 + 16), .int (nI (ia + 1)), .int z1, .int (nI ea), .int (nI (ib + 1)), .int z2, .int (nI eb), .int (nI p), .int (nI q)] [.int (-1)] σ τ _
            rw [seg_nil ha hge]
            obtain ⟨b, B', rfl, -, -⟩ := seg_cons hb (it_lt (by have := (rt_ok hR hib).2.2.1; omega) (by have := (rt_ok hR hib).2.2.1; omega) c4)
            exact Rx.ret rfl (ev_reti rfl) ⟨rfl, rfl, rfl⟩
        · replace c3 : ¬ (nI ea) ≤ (nI p) := of_decide_eq_false c3
          exact absurd c1 c3
      · replace c2 : ¬ (nI ea) ≤ (nI p) := of_decide_eq_false c2
        exact absurd c1 c2
    · replace c1 : ¬ (nI ea) ≤ (nI p) := of_decide_eq_false c1
      obtain ⟨a, A', rfl, ha1, ha2⟩ := seg_cons ha (it_lt (by have := (rt_ok hR hia).2.2.1; omega) (by have := (rt_ok hR hia).2.2.1; omega) c1)
      show Rx X c0 m_Mod_orderRows 13 [.ref (c0 + 16), .int (nI (ia + 1)), .int z1, .int (nI ea), .int (nI (ib + 1)), .int z2, .int (nI eb), .int (nI p), .int (nI q)] [] σ τ _
      refine Rx.go (fun _ => rfl) ?_
      refine Rx.go (fun _ => rfl) ?_
      refine Rx.go (fun _ => rfl) ?_
      refine Rx.ite (fun c5 => ?_) (fun c5 => ?_)
      · replace c5 : (nI eb) ≤ (nI q) := of_decide_eq_true c5
        have hgeb : eb ≤ q := it_ge (by have := (rt_ok hR hib).2.2.1; omega) (by have := (rt_ok hR hib).2.2.1; omega) c5
        show Rx X c0 m_Mod_orderRows 86 [.ref (c0 + 16), .int (nI (ia + 1)), .int z1, .int (nI ea), .int (nI (ib + 1)), .int z2, .int (nI eb), .int (nI p), .int (nI q)] [] σ τ _
        refine Rx.go (fun _ => rfl) ?_
        refine Rx.go (fun _ => rfl) ?_
        refine Rx.go (fun _ => rfl) ?_
        refine Rx.ite (fun c6 => ?_) (fun c6 => ?_)
        · replace c6 : (nI ea) ≤ (nI p) := of_decide_eq_true c6
          exact absurd c6 c1
        · replace c6 : ¬ (nI ea) ≤ (nI p) := of_decide_eq_false c6
          show Rx X c0 m_Mod_orderRows 92 [.ref (c0 + 16), .int (nI (ia + 1)), .int z1, .int (nI ea), .int (nI (ib + 1)), .int z2, .int (nI eb), .int (nI p), .int (nI q)] [] σ τ _
          refine Rx.go (fun _ => rfl) ?_
          refine Rx.go (fun _ => rfl) ?_
          refine Rx.go (fun _ => rfl) ?_
          refine Rx.ite (fun c7 => ?_) (fun c7 => ?_)
          · replace c7 : (nI eb) ≤ (nI q) := of_decide_eq_true c7
            show Rx X c0 m_Mod_orderRows 119 [.ref (c0 + 16), .int (nI (ia + 1)), .int z1, .int (nI ea), .int (nI (ib + 1)), .int z2, .int (nI eb), .int (nI p), .int (nI q)] [] σ τ _
            refine Rx.go (fun _ => rfl) ?_
            refine Rx.go (fun _ => rfl) ?_
            refine Rx.go (fun _ => rfl) ?_
            refine Rx.ite (fun c8 => ?_) (fun c8 => ?_)
            · replace c8 : (nI ea) ≤ (nI p) := of_decide_eq_true c8
              exact absurd c8 c1
            · replace c8 : ¬ (nI ea) ≤ (nI p) := of_decide_eq_false c8
              show Rx X c0 m_Mod_orderRows 125 [.ref (c0 + 16), .int (nI (ia + 1)), .int z1, .int (nI ea), .int (nI (ib + 1)), .int z2, .int (nI eb), .int (nI p), .int (nI q)] [] σ τ _
              refine Rx.go (fun _ => rfl) ?_
              refine Rx.go (fun _ => rfl) ?_
              show Rx X c0 m_Mod_orderRows 141 [.ref (c0 + 16), .int (nI (ia + 1)), .int z1, .int (nI ea), .int (nI (ib + 1)), .int z2, .int (nI eb), .int (nI p), .int (nI q)] [.int 1] σ τ _
              rw [seg_nil hb hgeb]
              exact Rx.ret rfl (ev_reti rfl) ⟨rfl, rfl, rfl⟩
          · replace c7 : ¬ (nI eb) ≤ (nI q) := of_decide_eq_false c7
            exact absurd c5 c7
      · replace c5 : ¬ (nI eb) ≤ (nI q) := of_decide_eq_false c5
        obtain ⟨b, B', rfl, hb1, hb2⟩ := seg_cons hb (it_lt (by have := (rt_ok hR hib).2.2.1; omega) (by have := (rt_ok hR hib).2.2.1; omega) c5)
        show Rx X c0 m_Mod_orderRows 20 [.ref (c0 + 16), .int (nI (ia + 1)), .int z1, .int (nI ea), .int (nI (ib + 1)), .int z2, .int (nI eb), .int (nI p), .int (nI q)] [] σ τ _
        refine Rx.go (fun _ => rfl) ?_
        refine Rx.go (fun _ => rfl) ?_
        refine Rx.go (fun _ => rfl) ?_
        refine Rx.callE rfl rfl rfl rfl (rx_itemAt X c0 _ _ hR hia (k := p) (by have := (rt_ok hR hia).2.2.1; omega)) ?_
        show Rx X c0 m_Mod_orderRows 27 [.ref (c0 + 16), .int (nI (ia + 1)), .int z1, .int (nI ea), .int (nI (ib + 1)), .int z2, .int (nI eb), .int (nI p), .int (nI q)] [.int (nI (itA (bys ts ia) p))] σ τ _
        refine Rx.go (fun _ => rfl) ?_
        refine Rx.go (fun _ => rfl) ?_
        refine Rx.go (fun _ => rfl) ?_
        refine Rx.callE rfl rfl rfl rfl (rx_itemAt X c0 _ _ hR hib (k := q) (by have := (rt_ok hR hib).2.2.1; omega)) ?_
        show Rx X c0 m_Mod_orderRows 35 [.ref (c0 + 16), .int (nI (ia + 1)), .int z1, .int (nI ea), .int (nI (ib + 1)), .int z2, .int (nI eb), .int (nI p), .int (nI q)] [.int (nI (itA (bys ts ib) q)), .int (nI (itA (bys ts ia) p))] σ τ _
        refine Rx.go (fun _ => rfl) ?_
        refine Rx.ite (fun c9 => ?_) (fun c9 => ?_)
        · replace c9 : ¬ (nI (itA (bys ts ia) p)) = (nI (itA (bys ts ib) q)) := of_decide_eq_true c9
          show Rx X c0 m_Mod_orderRows 86 [.ref (c0 + 16), .int (nI (ia + 1)), .int z1, .int (nI ea), .int (nI (ib + 1)), .int z2, .int (nI eb), .int (nI p), .int (nI q)] [] σ τ _
          refine Rx.go (fun _ => rfl) ?_
          refine Rx.go (fun _ => rfl) ?_
          refine Rx.go (fun _ => rfl) ?_
          refine Rx.ite (fun c10 => ?_) (fun c10 => ?_)
          · replace c10 : (nI ea) ≤ (nI p) := of_decide_eq_true c10
            exact absurd c10 c1
          · replace c10 : ¬ (nI ea) ≤ (nI p) := of_decide_eq_false c10
            show Rx X c0 m_Mod_orderRows 92 [.ref (c0 + 16), .int (nI (ia + 1)), .int z1, .int (nI ea), .int (nI (ib + 1)), .int z2, .int (nI eb), .int (nI p), .int (nI q)] [] σ τ _
            refine Rx.go (fun _ => rfl) ?_
            refine Rx.go (fun _ => rfl) ?_
            refine Rx.go (fun _ => rfl) ?_
            refine Rx.ite (fun c11 => ?_) (fun c11 => ?_)
            · replace c11 : (nI eb) ≤ (nI q) := of_decide_eq_true c11
              exact absurd c11 c5
            · replace c11 : ¬ (nI eb) ≤ (nI q) := of_decide_eq_false c11
              show Rx X c0 m_Mod_orderRows 99 [.ref (c0 + 16), .int (nI (ia + 1)), .int z1, .int (nI ea), .int (nI (ib + 1)), .int z2, .int (nI eb), .int (nI p), .int (nI q)] [] σ τ _
              refine Rx.go (fun _ => rfl) ?_
              refine Rx.go (fun _ => rfl) ?_
              refine Rx.go (fun _ => rfl) ?_
              refine Rx.callE rfl rfl rfl rfl (rx_itemAt X c0 _ _ hR hia (k := p) (by have := (rt_ok hR hia).2.2.1; omega)) ?_
              show Rx X c0 m_Mod_orderRows 106 [.ref (c0 + 16), .int (nI (ia + 1)), .int z1, .int (nI ea), .int (nI (ib + 1)), .int z2, .int (nI eb), .int (nI p), .int (nI q)] [.int (nI (itA (bys ts ia) p))] σ τ _
              refine Rx.go (fun _ => rfl) ?_
              refine Rx.go (fun _ => rfl) ?_
              refine Rx.go (fun _ => rfl) ?_
              refine Rx.callE rfl rfl rfl rfl (rx_itemAt X c0 _ _ hR hib (k := q) (by have := (rt_ok hR hib).2.2.1; omega)) ?_
              show Rx X c0 m_Mod_orderRows 114 [.ref (c0 + 16), .int (nI (ia + 1)), .int z1, .int (nI ea), .int (nI (ib + 1)), .int z2, .int (nI eb), .int (nI p), .int (nI q)] [.int (nI (itA (bys ts ib) q)), .int (nI (itA (bys ts ia) p))] σ τ _
              refine Rx.go (fun _ => rfl) ?_
              refine Rx.scallE rfl rfl rfl rfl (sx_Mod_sign X _) ?_
              show Rx X c0 m_Mod_orderRows 118 [.ref (c0 + 16), .int (nI (ia + 1)), .int z1, .int (nI ea), .int (nI (ib + 1)), .int z2, .int (nI eb), .int (nI p), .int (nI q)] [.int (sgn ((nI (itA (bys ts ia) p)) - (nI (itA (bys ts ib) q))))] σ τ _
              show Rx X c0 m_Mod_orderRows 118 [.ref (c0 + 16), .int (nI (ia + 1)), .int z1, .int (nI ea), .int (nI (ib + 1)), .int z2, .int (nI eb), .int (nI p), .int (nI q)] [.int (sgn ((nI (itA (bys ts ia) p)) - (nI (itA (bys ts ib) q))))] σ τ _
              exact Rx.ret rfl (ev_reti rfl) ⟨by rw [ha1, hb1, show lexc (a :: A') (b :: B') = _ from if_neg (fun z => c9 (by rw [ha1, hb1, z]))], rfl, rfl⟩
        · replace c9 : (nI (itA (bys ts ia) p)) = (nI (itA (bys ts ib) q)) := Classical.not_not.mp (of_decide_eq_false c9)
          show Rx X c0 m_Mod_orderRows 38 [.ref (c0 + 16), .int (nI (ia + 1)), .int z1, .int (nI ea), .int (nI (ib + 1)), .int z2, .int (nI eb), .int (nI p), .int (nI q)] [] σ τ _
          refine Rx.go (fun _ => rfl) ?_
          refine Rx.go (fun _ => rfl) ?_
          refine Rx.go (fun _ => rfl) ?_
          refine Rx.go (fun _ => rfl) ?_
          refine Rx.callE rfl rfl rfl rfl (rx_byteAt X c0 _ _ hR hia (j := p) (by have := (rt_ok hR hia).2.2.1; omega)) ?_
          show Rx X c0 m_Mod_orderRows 47 [.ref (c0 + 16), .int (nI (ia + 1)), .int z1, .int (nI ea), .int (nI (ib + 1)), .int z2, .int (nI eb), .int (nI p), .int (nI q)] [.int (nI ((bys ts ia).getD p 0)), .int (nI p)] σ τ _
          refine Rx.go (fun _ => rfl) ?_
          refine Rx.go (fun _ => rfl) ?_
          refine Rx.ite (fun c12 => ?_) (fun c12 => ?_)
          · replace c12 : ¬ (nI ((bys ts ia).getD p 0)) = 92 := of_decide_eq_true c12
            show Rx X c0 m_Mod_orderRows 56 [.ref (c0 + 16), .int (nI (ia + 1)), .int z1, .int (nI ea), .int (nI (ib + 1)), .int z2, .int (nI eb), .int (nI p), .int (nI q)] [.int (nI p)] σ τ _
            refine Rx.go (fun _ => rfl) ?_
            refine Rx.go (fun _ => rfl) ?_
            refine Rx.top (y := nI (p + 1)) (nI_1 _) ?_
            refine Rx.go (fun _ => rfl) ?_
            show Rx X c0 m_Mod_orderRows 60 [.ref (c0 + 16), .int (nI (ia + 1)), .int z1, .int (nI ea), .int (nI (ib + 1)), .int z2, .int (nI eb), .int (nI (p + 1)), .int (nI q)] [] σ τ _
            refine Rx.go (fun _ => rfl) ?_
            refine Rx.go (fun _ => rfl) ?_
            refine Rx.go (fun _ => rfl) ?_
            refine Rx.go (fun _ => rfl) ?_
            refine Rx.callE rfl rfl rfl rfl (rx_byteAt X c0 _ _ hR hib (j := q) (by have := (rt_ok hR hib).2.2.1; omega)) ?_
            show Rx X c0 m_Mod_orderRows 70 [.ref (c0 + 16), .int (nI (ia + 1)), .int z1, .int (nI ea), .int (nI (ib + 1)), .int z2, .int (nI eb), .int (nI (p + 1)), .int (nI q)] [.int (nI ((bys ts ib).getD q 0)), .int (nI q)] σ τ _
            refine Rx.go (fun _ => rfl) ?_
            refine Rx.go (fun _ => rfl) ?_
            refine Rx.ite (fun c13 => ?_) (fun c13 => ?_)
            · replace c13 : ¬ (nI ((bys ts ib).getD q 0)) = 92 := of_decide_eq_true c13
              show Rx X c0 m_Mod_orderRows 79 [.ref (c0 + 16), .int (nI (ia + 1)), .int z1, .int (nI ea), .int (nI (ib + 1)), .int z2, .int (nI eb), .int (nI (p + 1)), .int (nI q)] [.int (nI q)] σ τ _
              refine Rx.go (fun _ => rfl) ?_
              refine Rx.go (fun _ => rfl) ?_
              refine Rx.top (y := nI (q + 1)) (nI_1 _) ?_
              refine Rx.go (fun _ => rfl) ?_
              show Rx X c0 m_Mod_orderRows 83 [.ref (c0 + 16), .int (nI (ia + 1)), .int z1, .int (nI ea), .int (nI (ib + 1)), .int z2, .int (nI eb), .int (nI (p + 1)), .int (nI (q + 1))] [] σ τ _
              refine Rx.go (fun _ => rfl) ?_
              show Rx X c0 m_Mod_orderRows 7 [.ref (c0 + 16), .int (nI (ia + 1)), .int z1, .int (nI ea), .int (nI (ib + 1)), .int z2, .int (nI eb), .int (nI (p + 1)), .int (nI (q + 1))] [] σ τ _
              rw [if_neg (bt_n (n := 92) rfl c12)] at ha2
              rw [if_neg (bt_n (n := 92) rfl c13)] at hb2
              rw [show lexc (a :: A') (b :: B') = lexc A' B' from if_pos (or_ab hR hia hib ha1 hb1 c9)]
              exact ih A' B' _ _ (by simpa using hm) (seg_le ha2 hea) (seg_le hb2 heb) ha2 hb2
            · replace c13 : (nI ((bys ts ib).getD q 0)) = 92 := Classical.not_not.mp (of_decide_eq_false c13)
              show Rx X c0 m_Mod_orderRows 75 [.ref (c0 + 16), .int (nI (ia + 1)), .int z1, .int (nI ea), .int (nI (ib + 1)), .int z2, .int (nI eb), .int (nI (p + 1)), .int (nI q)] [.int (nI q)] σ τ _
              refine Rx.go (fun _ => rfl) ?_
              refine Rx.go (fun _ => rfl) ?_
              refine Rx.go (fun _ => rfl) ?_
              refine Rx.top (y := nI (q + 2)) (nI_add _ 2) ?_
              refine Rx.go (fun _ => rfl) ?_
              show Rx X c0 m_Mod_orderRows 83 [.ref (c0 + 16), .int (nI (ia + 1)), .int z1, .int (nI ea), .int (nI (ib + 1)), .int z2, .int (nI eb), .int (nI (p + 1)), .int (nI (q + 2))] [] σ τ _
              refine Rx.go (fun _ => rfl) ?_
              show Rx X c0 m_Mod_orderRows 7 [.ref (c0 + 16), .int (nI (ia + 1)), .int z1, .int (nI ea), .int (nI (ib + 1)), .int z2, .int (nI eb), .int (nI (p + 1)), .int (nI (q + 2))] [] σ τ _
              rw [if_neg (bt_n (n := 92) rfl c12)] at ha2
              rw [if_pos (bt_e hR hib (n := 92) rfl (by decide) c13)] at hb2
              rw [show lexc (a :: A') (b :: B') = lexc A' B' from if_pos (or_ab hR hia hib ha1 hb1 c9)]
              exact ih A' B' _ _ (by simpa using hm) (seg_le ha2 hea) (seg_le hb2 heb) ha2 hb2
          · replace c12 : (nI ((bys ts ia).getD p 0)) = 92 := Classical.not_not.mp (of_decide_eq_false c12)
            show Rx X c0 m_Mod_orderRows 52 [.ref (c0 + 16), .int (nI (ia + 1)), .int z1, .int (nI ea), .int (nI (ib + 1)), .int z2, .int (nI eb), .int (nI p), .int (nI q)] [.int (nI p)] σ τ _
            refine Rx.go (fun _ => rfl) ?_
            refine Rx.go (fun _ => rfl) ?_
            refine Rx.go (fun _ => rfl) ?_
            refine Rx.top (y := nI (p + 2)) (nI_add _ 2) ?_
            refine Rx.go (fun _ => rfl) ?_
            show Rx X c0 m_Mod_orderRows 60 [.ref (c0 + 16), .int (nI (ia + 1)), .int z1, .int (nI ea), .int (nI (ib + 1)), .int z2, .int (nI eb), .int (nI (p + 2)), .int (nI q)] [] σ τ _
            refine Rx.go (fun _ => rfl) ?_
            refine Rx.go (fun _ => rfl) ?_
            refine Rx.go (fun _ => rfl) ?_
            refine Rx.go (fun _ => rfl) ?_
            refine Rx.callE rfl rfl rfl rfl (rx_byteAt X c0 _ _ hR hib (j := q) (by have := (rt_ok hR hib).2.2.1; omega)) ?_
            show Rx X c0 m_Mod_orderRows 70 [.ref (c0 + 16), .int (nI (ia + 1)), .int z1, .int (nI ea), .int (nI (ib + 1)), .int z2, .int (nI eb), .int (nI (p + 2)), .int (nI q)] [.int (nI ((bys ts ib).getD q 0)), .int (nI q)] σ τ _
            refine Rx.go (fun _ => rfl) ?_
            refine Rx.go (fun _ => rfl) ?_
            refine Rx.ite (fun c14 => ?_) (fun c14 => ?_)
            · replace c14 : ¬ (nI ((bys ts ib).getD q 0)) = 92 := of_decide_eq_true c14
              show Rx X c0 m_Mod_orderRows 79 [.ref (c0 + 16), .int (nI (ia + 1)), .int z1, .int (nI ea), .int (nI (ib + 1)), .int z2, .int (nI eb), .int (nI (p + 2)), .int (nI q)] [.int (nI q)] σ τ _
              refine Rx.go (fun _ => rfl) ?_
              refine Rx.go (fun _ => rfl) ?_
              refine Rx.top (y := nI (q + 1)) (nI_1 _) ?_
              refine Rx.go (fun _ => rfl) ?_
              show Rx X c0 m_Mod_orderRows 83 [.ref (c0 + 16), .int (nI (ia + 1)), .int z1, .int (nI ea), .int (nI (ib + 1)), .int z2, .int (nI eb), .int (nI (p + 2)), .int (nI (q + 1))] [] σ τ _
              refine Rx.go (fun _ => rfl) ?_
              show Rx X c0 m_Mod_orderRows 7 [.ref (c0 + 16), .int (nI (ia + 1)), .int z1, .int (nI ea), .int (nI (ib + 1)), .int z2, .int (nI eb), .int (nI (p + 2)), .int (nI (q + 1))] [] σ τ _
              rw [if_pos (bt_e hR hia (n := 92) rfl (by decide) c12)] at ha2
              rw [if_neg (bt_n (n := 92) rfl c14)] at hb2
              rw [show lexc (a :: A') (b :: B') = lexc A' B' from if_pos (or_ab hR hia hib ha1 hb1 c9)]
              exact ih A' B' _ _ (by simpa using hm) (seg_le ha2 hea) (seg_le hb2 heb) ha2 hb2
            · replace c14 : (nI ((bys ts ib).getD q 0)) = 92 := Classical.not_not.mp (of_decide_eq_false c14)
              show Rx X c0 m_Mod_orderRows 75 [.ref (c0 + 16), .int (nI (ia + 1)), .int z1, .int (nI ea), .int (nI (ib + 1)), .int z2, .int (nI eb), .int (nI (p + 2)), .int (nI q)] [.int (nI q)] σ τ _
              refine Rx.go (fun _ => rfl) ?_
              refine Rx.go (fun _ => rfl) ?_
              refine Rx.go (fun _ => rfl) ?_
              refine Rx.top (y := nI (q + 2)) (nI_add _ 2) ?_
              refine Rx.go (fun _ => rfl) ?_
              show Rx X c0 m_Mod_orderRows 83 [.ref (c0 + 16), .int (nI (ia + 1)), .int z1, .int (nI ea), .int (nI (ib + 1)), .int z2, .int (nI eb), .int (nI (p + 2)), .int (nI (q + 2))] [] σ τ _
              refine Rx.go (fun _ => rfl) ?_
              show Rx X c0 m_Mod_orderRows 7 [.ref (c0 + 16), .int (nI (ia + 1)), .int z1, .int (nI ea), .int (nI (ib + 1)), .int z2, .int (nI eb), .int (nI (p + 2)), .int (nI (q + 2))] [] σ τ _
              rw [if_pos (bt_e hR hia (n := 92) rfl (by decide) c12)] at ha2
              rw [if_pos (bt_e hR hib (n := 92) rfl (by decide) c14)] at hb2
              rw [show lexc (a :: A') (b :: B') = lexc A' B' from if_pos (or_ab hR hia hib ha1 hb1 c9)]
              exact ih A' B' _ _ (by simpa using hm) (seg_le ha2 hea) (seg_le hb2 heb) ha2 hb2
set_option maxRecDepth 100000 in
set_option maxHeartbeats 1000000 in
theorem rx_orderRows (X : ev_X) (c0 : Nat) (σ : Nat → Int32) (τ : Nat → Nat → Int32) {ts : RT} (hR : rt σ τ ts) {ia ib : Nat} (hia : ia < ts.length) (hib : ib < ts.length) {ea eb : Nat} (hea : ea ≤ (bys ts ia).length) (heb : eb ≤ (bys ts ib).length) {fa fb : Nat} {A B : List Nat} (ha : seg (bys ts ia) ea fa A) (hb : seg (bys ts ib) eb fb B) : Rx X c0 m_Mod_orderRows 0 [.ref (c0 + 16), .int (nI (ia + 1)), .int (nI fa), .int (nI ea), .int (nI (ib + 1)), .int (nI fb), .int (nI eb), ev_dead, ev_dead] [] σ τ (fun r σ' τ' => r = some (.int (lexc A B)) ∧ σ' = σ ∧ τ' = τ) := by
  refine Rx.go (fun _ => rfl) ?_
  refine Rx.go (fun _ => rfl) ?_
  show Rx X c0 m_Mod_orderRows 3 [.ref (c0 + 16), .int (nI (ia + 1)), .int (nI fa), .int (nI ea), .int (nI (ib + 1)), .int (nI fb), .int (nI eb), .int (nI fa), ev_dead] [] σ τ _
  refine Rx.go (fun _ => rfl) ?_
  refine Rx.go (fun _ => rfl) ?_
  show Rx X c0 m_Mod_orderRows 7 [.ref (c0 + 16), .int (nI (ia + 1)), .int (nI fa), .int (nI ea), .int (nI (ib + 1)), .int (nI fb), .int (nI eb), .int (nI fa), .int (nI fb)] [] σ τ _
  show Rx X c0 m_Mod_orderRows 7 [.ref (c0 + 16), .int (nI (ia + 1)), .int (nI fa), .int (nI ea), .int (nI (ib + 1)), .int (nI fb), .int (nI eb), .int (nI fa), .int (nI fb)] [] σ τ _
  exact rx_orderRows_l X c0 σ τ hR hia hib hea heb _ _ (A.length + 1) A B fa fb (by omega) (seg_le ha hea) (seg_le hb heb) ha hb
