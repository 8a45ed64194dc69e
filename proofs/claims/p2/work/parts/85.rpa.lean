/-! part of the reference: its loops. (rows laid by wip/whole/rr20.py) -/
theorem WS.rt {σ0 σ : Nat → Int32} {τ0 τ : Nat → Nat → Int32} {d : List Nat} {ts : RT} (hR : rt σ0 τ0 ts) (h : WS σ0 τ0 d σ τ) : rt σ τ ts := rt_same hR (h.1 7 (by decide)) (h.2.1 3 (by decide)) (h.2.1 4 (by decide)) (h.2.1 5 (by decide)) (h.2.1 6 (by decide))
theorem dr_s {l d : List Nat} {k : Nat} (hk : k < l.length) : (d ++ [l.getD k 0]) ++ l.drop (k + 1) = d ++ l.drop k := by
  rw [List.drop_eq_getElem_cons hk, List.append_assoc, List.getD_eq_getElem?_getD, List.getElem?_eq_getElem hk]; rfl
theorem tk_s {l : List Nat} {k : Nat} (hk : k < l.length) : l.take k ++ [l.getD k 0] = l.take (k + 1) := by
  rw [List.take_succ, List.getD_eq_getElem?_getD, List.getElem?_eq_getElem hk]; rfl
set_option maxRecDepth 100000 in
set_option maxHeartbeats 2000000 in
theorem pt_157 {X : ev_X} {c0 : Nat} {Q : Option Value → (Nat → Int32) → (Nat → Nat → Int32) → Prop} {σ0 : Nat → Int32} {τ0 : Nat → Nat → Int32} {ts : RT} (hR : rt σ0 τ0 ts) {i : Nat} (hi : i < ts.length) (wv qv : Int32) : ∀ (m k : Nat) (d : List Nat) (σ : Nat → Int32) (τ : Nat → Nat → Int32) (hm : k + m = (bys ts i).length) (hd : d.length + m ≤ 259) (hW : WS σ0 τ0 d σ τ) (hK : ∀ (σ' : Nat → Int32) (τ' : Nat → Nat → Int32), WS σ0 τ0 (d ++ (bys ts i).drop k) σ' τ' → Rx X c0 m_Mod_part 184 [.ref (c0 + 16), .int (nI (i + 1)), .int wv, .int qv, .int (nI (bys ts i).length)] [] σ' τ' Q), Rx X c0 m_Mod_part 157 [.ref (c0 + 16), .int (nI (i + 1)), .int wv, .int qv, .int (nI k)] [] σ τ Q := by
  intro m
  induction m with
  | zero =>
    intro k d σ τ hm hd hW hK
    have h260 := (rt_ok hR hi).2.2.1
    refine Rx.go (fun _ => rfl) ?_
    refine Rx.go (fun _ => rfl) ?_
    refine Rx.go (fun _ => rfl) ?_
    refine Rx.callE rfl rfl rfl rfl (rx_lenOf X c0 _ _ (WS.rt hR hW) hi) ?_
    show Rx X c0 m_Mod_part 164 [.ref (c0 + 16), .int (nI (i + 1)), .int wv, .int qv, .int (nI k)] [.int (nI (bys ts i).length), .int (nI k)] σ τ _
    refine Rx.go (fun _ => rfl) ?_
    refine Rx.ite (fun c1 => ?_) (fun c1 => ?_)
    · replace c1 : (nI (bys ts i).length) ≤ (nI k) := of_decide_eq_true c1
      show Rx X c0 m_Mod_part 184 [.ref (c0 + 16), .int (nI (i + 1)), .int wv, .int qv, .int (nI k)] [] σ τ _
      show Rx X c0 m_Mod_part 184 [.ref (c0 + 16), .int (nI (i + 1)), .int wv, .int qv, .int (nI k)] [] σ τ _
      have e : k = (bys ts i).length := by omega
      subst e
      rw [List.drop_length, List.append_nil] at hK
      exact hK _ _ hW
    · replace c1 : ¬ (nI (bys ts i).length) ≤ (nI k) := of_decide_eq_false c1
      exact absurd (show nI (bys ts i).length ≤ nI k by rw [show k = (bys ts i).length by omega]; exact Int32.le_refl _) c1
  | succ m ih =>
    intro k d σ τ hm hd hW hK
    have h260 := (rt_ok hR hi).2.2.1
    refine Rx.go (fun _ => rfl) ?_
    refine Rx.go (fun _ => rfl) ?_
    refine Rx.go (fun _ => rfl) ?_
    refine Rx.callE rfl rfl rfl rfl (rx_lenOf X c0 _ _ (WS.rt hR hW) hi) ?_
    show Rx X c0 m_Mod_part 164 [.ref (c0 + 16), .int (nI (i + 1)), .int wv, .int qv, .int (nI k)] [.int (nI (bys ts i).length), .int (nI k)] σ τ _
    refine Rx.go (fun _ => rfl) ?_
    refine Rx.ite (fun c1 => ?_) (fun c1 => ?_)
    · replace c1 : (nI (bys ts i).length) ≤ (nI k) := of_decide_eq_true c1
      exact absurd ((nI_leI (by omega) (by omega)).mp c1) (by omega)
    · replace c1 : ¬ (nI (bys ts i).length) ≤ (nI k) := of_decide_eq_false c1
      show Rx X c0 m_Mod_part 167 [.ref (c0 + 16), .int (nI (i + 1)), .int wv, .int qv, .int (nI k)] [] σ τ _
      refine Rx.go (fun _ => rfl) ?_
      refine Rx.go (fun _ => rfl) ?_
      refine Rx.go (fun _ => rfl) ?_
      refine Rx.go (fun _ => rfl) ?_
      refine Rx.callE rfl rfl rfl rfl (rx_byteAt X c0 _ _ (WS.rt hR hW) hi (j := k) (by omega)) ?_
      show Rx X c0 m_Mod_part 175 [.ref (c0 + 16), .int (nI (i + 1)), .int wv, .int qv, .int (nI k)] [.int (nI ((bys ts i).getD k 0)), .ref (c0 + 16)] σ τ _
      refine Rx.callP rfl rfl rfl rfl (ws_put ((bys ts i).getD k 0) hW (by omega) ((rt_ok hR hi).1 k)) ?_
      intro σ1 τ1 hW1
      show Rx X c0 m_Mod_part 178 [.ref (c0 + 16), .int (nI (i + 1)), .int wv, .int qv, .int (nI k)] [] σ1 τ1 _
      refine Rx.go (fun _ => rfl) ?_
      show Rx X c0 m_Mod_part 181 [.ref (c0 + 16), .int (nI (i + 1)), .int wv, .int qv, .int ((nI k) + 1)] [] σ1 τ1 _
      refine Rx.go (fun _ => rfl) ?_
      show Rx X c0 m_Mod_part 157 [.ref (c0 + 16), .int (nI (i + 1)), .int wv, .int qv, .int ((nI k) + 1)] [] σ1 τ1 _
      rw [show nI k + 1 = nI (k + 1) from nI_1 k]
      exact ih (k + 1) (d ++ [(bys ts i).getD k 0]) _ _ (by omega) (by simp only [List.length_append, List.length_cons, List.length_nil]; omega) hW1 (by rw [dr_s (by omega)]; exact hK)
set_option maxRecDepth 100000 in
set_option maxHeartbeats 2000000 in
theorem pt_221 {X : ev_X} {c0 : Nat} {Q : Option Value → (Nat → Int32) → (Nat → Nat → Int32) → Prop} {σ0 : Nat → Int32} {τ0 : Nat → Nat → Int32} {ts : RT} (hR : rt σ0 τ0 ts) {i : Nat} (hi : i < ts.length) (wv qv : Int32) : ∀ (m k : Nat) (d : List Nat) (σ : Nat → Int32) (τ : Nat → Nat → Int32) (hm : k + m = (bys ts i).length) (hd : d.length + m ≤ 259) (hW : WS σ0 τ0 d σ τ) (hK : ∀ (σ' : Nat → Int32) (τ' : Nat → Nat → Int32), WS σ0 τ0 (d ++ (bys ts i).drop k) σ' τ' → Rx X c0 m_Mod_part 248 [.ref (c0 + 16), .int (nI (i + 1)), .int wv, .int qv, .int (nI (bys ts i).length)] [] σ' τ' Q), Rx X c0 m_Mod_part 221 [.ref (c0 + 16), .int (nI (i + 1)), .int wv, .int qv, .int (nI k)] [] σ τ Q := by
  intro m
  induction m with
  | zero =>
    intro k d σ τ hm hd hW hK
    have h260 := (rt_ok hR hi).2.2.1
    refine Rx.go (fun _ => rfl) ?_
    refine Rx.go (fun _ => rfl) ?_
    refine Rx.go (fun _ => rfl) ?_
    refine Rx.callE rfl rfl rfl rfl (rx_lenOf X c0 _ _ (WS.rt hR hW) hi) ?_
    show Rx X c0 m_Mod_part 228 [.ref (c0 + 16), .int (nI (i + 1)), .int wv, .int qv, .int (nI k)] [.int (nI (bys ts i).length), .int (nI k)] σ τ _
    refine Rx.go (fun _ => rfl) ?_
    refine Rx.ite (fun c1 => ?_) (fun c1 => ?_)
    · replace c1 : (nI (bys ts i).length) ≤ (nI k) := of_decide_eq_true c1
      show Rx X c0 m_Mod_part 248 [.ref (c0 + 16), .int (nI (i + 1)), .int wv, .int qv, .int (nI k)] [] σ τ _
      show Rx X c0 m_Mod_part 248 [.ref (c0 + 16), .int (nI (i + 1)), .int wv, .int qv, .int (nI k)] [] σ τ _
      have e : k = (bys ts i).length := by omega
      subst e
      rw [List.drop_length, List.append_nil] at hK
      exact hK _ _ hW
    · replace c1 : ¬ (nI (bys ts i).length) ≤ (nI k) := of_decide_eq_false c1
      exact absurd (show nI (bys ts i).length ≤ nI k by rw [show k = (bys ts i).length by omega]; exact Int32.le_refl _) c1
  | succ m ih =>
    intro k d σ τ hm hd hW hK
    have h260 := (rt_ok hR hi).2.2.1
    refine Rx.go (fun _ => rfl) ?_
    refine Rx.go (fun _ => rfl) ?_
    refine Rx.go (fun _ => rfl) ?_
    refine Rx.callE rfl rfl rfl rfl (rx_lenOf X c0 _ _ (WS.rt hR hW) hi) ?_
    show Rx X c0 m_Mod_part 228 [.ref (c0 + 16), .int (nI (i + 1)), .int wv, .int qv, .int (nI k)] [.int (nI (bys ts i).length), .int (nI k)] σ τ _
    refine Rx.go (fun _ => rfl) ?_
    refine Rx.ite (fun c1 => ?_) (fun c1 => ?_)
    · replace c1 : (nI (bys ts i).length) ≤ (nI k) := of_decide_eq_true c1
      exact absurd ((nI_leI (by omega) (by omega)).mp c1) (by omega)
    · replace c1 : ¬ (nI (bys ts i).length) ≤ (nI k) := of_decide_eq_false c1
      show Rx X c0 m_Mod_part 231 [.ref (c0 + 16), .int (nI (i + 1)), .int wv, .int qv, .int (nI k)] [] σ τ _
      refine Rx.go (fun _ => rfl) ?_
      refine Rx.go (fun _ => rfl) ?_
      refine Rx.go (fun _ => rfl) ?_
      refine Rx.go (fun _ => rfl) ?_
      refine Rx.callE rfl rfl rfl rfl (rx_byteAt X c0 _ _ (WS.rt hR hW) hi (j := k) (by omega)) ?_
      show Rx X c0 m_Mod_part 239 [.ref (c0 + 16), .int (nI (i + 1)), .int wv, .int qv, .int (nI k)] [.int (nI ((bys ts i).getD k 0)), .ref (c0 + 16)] σ τ _
      refine Rx.callP rfl rfl rfl rfl (ws_put ((bys ts i).getD k 0) hW (by omega) ((rt_ok hR hi).1 k)) ?_
      intro σ2 τ2 hW2
      show Rx X c0 m_Mod_part 242 [.ref (c0 + 16), .int (nI (i + 1)), .int wv, .int qv, .int (nI k)] [] σ2 τ2 _
      refine Rx.go (fun _ => rfl) ?_
      show Rx X c0 m_Mod_part 245 [.ref (c0 + 16), .int (nI (i + 1)), .int wv, .int qv, .int ((nI k) + 1)] [] σ2 τ2 _
      refine Rx.go (fun _ => rfl) ?_
      show Rx X c0 m_Mod_part 221 [.ref (c0 + 16), .int (nI (i + 1)), .int wv, .int qv, .int ((nI k) + 1)] [] σ2 τ2 _
      rw [show nI k + 1 = nI (k + 1) from nI_1 k]
      exact ih (k + 1) (d ++ [(bys ts i).getD k 0]) _ _ (by omega) (by simp only [List.length_append, List.length_cons, List.length_nil]; omega) hW2 (by rw [dr_s (by omega)]; exact hK)
set_option maxRecDepth 100000 in
set_option maxHeartbeats 2000000 in
theorem pt_94 {X : ev_X} {c0 : Nat} {Q : Option Value → (Nat → Int32) → (Nat → Nat → Int32) → Prop} {σ0 : Nat → Int32} {τ0 : Nat → Nat → Int32} {ts : RT} (hR : rt σ0 τ0 ts) {i : Nat} (hi : i < ts.length) (wv : Int32) {q : Nat} (hq : q + 1 ≤ (bys ts i).length) (hK : ∀ (σ' : Nat → Int32) (τ' : Nat → Nat → Int32), WS σ0 τ0 ((bys ts i).take (q + 1)) σ' τ' → Rx X c0 m_Mod_part 117 [.ref (c0 + 16), .int (nI (i + 1)), .int wv, .int (nI q), .int (nI (q + 1))] [] σ' τ' Q) : ∀ (m k : Nat) (σ : Nat → Int32) (τ : Nat → Nat → Int32) (hm : k + m = q + 1) (hW : WS σ0 τ0 ((bys ts i).take k) σ τ), Rx X c0 m_Mod_part 94 [.ref (c0 + 16), .int (nI (i + 1)), .int wv, .int (nI q), .int (nI k)] [] σ τ Q := by
  intro m
  induction m with
  | zero =>
    intro k σ τ hm hW
    have h260 := (rt_ok hR hi).2.2.1
    refine Rx.go (fun _ => rfl) ?_
    refine Rx.go (fun _ => rfl) ?_
    refine Rx.go (fun _ => rfl) ?_
    refine Rx.ite (fun c1 => ?_) (fun c1 => ?_)
    · replace c1 : (nI q) < (nI k) := of_decide_eq_true c1
      show Rx X c0 m_Mod_part 117 [.ref (c0 + 16), .int (nI (i + 1)), .int wv, .int (nI q), .int (nI k)] [] σ τ _
      show Rx X c0 m_Mod_part 117 [.ref (c0 + 16), .int (nI (i + 1)), .int wv, .int (nI q), .int (nI k)] [] σ τ _
      have e : k = q + 1 := by omega
      subst e
      exact hK _ _ hW
    · replace c1 : ¬ (nI q) < (nI k) := of_decide_eq_false c1
      exact absurd ((nI_ltI (by omega) (by omega)).mpr (show q < k by omega)) c1
  | succ m ih =>
    intro k σ τ hm hW
    have h260 := (rt_ok hR hi).2.2.1
    refine Rx.go (fun _ => rfl) ?_
    refine Rx.go (fun _ => rfl) ?_
    refine Rx.go (fun _ => rfl) ?_
    refine Rx.ite (fun c1 => ?_) (fun c1 => ?_)
    · replace c1 : (nI q) < (nI k) := of_decide_eq_true c1
      exact absurd ((nI_ltI (by omega) (by omega)).mp c1) (by omega)
    · replace c1 : ¬ (nI q) < (nI k) := of_decide_eq_false c1
      show Rx X c0 m_Mod_part 100 [.ref (c0 + 16), .int (nI (i + 1)), .int wv, .int (nI q), .int (nI k)] [] σ τ _
      refine Rx.go (fun _ => rfl) ?_
      refine Rx.go (fun _ => rfl) ?_
      refine Rx.go (fun _ => rfl) ?_
      refine Rx.go (fun _ => rfl) ?_
      refine Rx.callE rfl rfl rfl rfl (rx_byteAt X c0 _ _ (WS.rt hR hW) hi (j := k) (by omega)) ?_
      show Rx X c0 m_Mod_part 108 [.ref (c0 + 16), .int (nI (i + 1)), .int wv, .int (nI q), .int (nI k)] [.int (nI ((bys ts i).getD k 0)), .ref (c0 + 16)] σ τ _
      refine Rx.callP rfl rfl rfl rfl (ws_put ((bys ts i).getD k 0) hW (by rw [List.length_take]; omega) ((rt_ok hR hi).1 k)) ?_
      intro σ3 τ3 hW3
      show Rx X c0 m_Mod_part 111 [.ref (c0 + 16), .int (nI (i + 1)), .int wv, .int (nI q), .int (nI k)] [] σ3 τ3 _
      refine Rx.go (fun _ => rfl) ?_
      show Rx X c0 m_Mod_part 114 [.ref (c0 + 16), .int (nI (i + 1)), .int wv, .int (nI q), .int ((nI k) + 1)] [] σ3 τ3 _
      refine Rx.go (fun _ => rfl) ?_
      show Rx X c0 m_Mod_part 94 [.ref (c0 + 16), .int (nI (i + 1)), .int wv, .int (nI q), .int ((nI k) + 1)] [] σ3 τ3 _
      rw [show nI k + 1 = nI (k + 1) from nI_1 k]
      exact ih (k + 1) _ _ (by omega) (by rw [← tk_s (by omega)]; exact hW3)
