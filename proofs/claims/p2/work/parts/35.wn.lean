/-! The reference writes a number. (rows laid by wip/whole/rx12.py) -/
def WS (σ0 : Nat → Int32) (τ0 : Nat → Nat → Int32) (d : List Nat) (σ : Nat → Int32) (τ : Nat → Nat → Int32) : Prop := (∀ k, k ≠ 10 → σ k = σ0 k) ∧ (∀ k, k ≠ 9 → τ k = τ0 k) ∧ drf σ τ d
def nd (τ0 : Nat → Nat → Int32) (ds : List Nat) : Prop := ds.length ≤ 18 ∧ (∀ k, k < ds.length → τ0 21 k = nI (ds.getD k 0)) ∧ ∀ k, ds.getD k 0 < 256
section WSR
variable {X : ev_X} {c0 : Nat} {σ0 σ : Nat → Int32} {τ0 τ : Nat → Nat → Int32} {d ds : List Nat}
theorem ws_put (b : Nat) (h : WS σ0 τ0 d σ τ) (hd : d.length < 260) (hb : b < 256) : Rx X c0 m_Mod_put 0 [.ref (c0 + 16), .int (nI b)] [] σ τ (fun r σ' τ' => r = none ∧ WS σ0 τ0 (d ++ [b]) σ' τ') := by
  obtain ⟨h1, h2, h3, h4, h5, h6⟩ := h
  refine (rx_put X c0 σ τ (nI b) (by rw [h3]; exact nI_ix hd (by decide))).mono ?_
  rintro r σ' τ' ⟨rfl, rfl, rfl⟩
  refine ⟨rfl, fun k hk => by rw [pk_un hk]; exact h1 k hk, fun k hk => by rw [va_up_ne _ _ hk]; exact h2 k hk, ?_, ?_, ?_, ?_⟩
  · rw [pk_us, h3, nI_1, List.length_append]; rfl
  · simp only [List.length_append, List.length_cons, List.length_nil]; omega
  · intro j hj
    rw [va_up_self, h3, nI_clamp (by omega)]
    simp only [List.length_append, List.length_cons, List.length_nil] at hj
    rw [getD_snoc hj]
    split
    · next q => rw [pk_un (by omega)]; exact h5 j q
    · next q => rw [show j = d.length by omega, pk_us]
  · intro k
    by_cases hk : k < d.length + 1
    · rw [getD_snoc hk]
      split
      · exact h6 k
      · exact hb
    · rw [gd0 (by simp only [List.length_append, List.length_cons, List.length_nil]; omega)]; decide
theorem ws_dg (hn : nd τ0 ds) (h : WS σ0 τ0 d σ τ) {k : Nat} (hk : k < ds.length) : τ 21 (nI k).toNatClampNeg = nI (ds.getD k 0) := by
  rw [nI_clamp (by have := hn.1; omega), h.2.1 21 (by decide)]; exact hn.2.1 k hk
theorem nd_dg (hn : nd τ ds) {k : Nat} (hk : k < ds.length) : τ 21 (nI k).toNatClampNeg = nI (ds.getD k 0) := by
  rw [nI_clamp (by have := hn.1; omega)]; exact hn.2.1 k hk
end WSR
theorem dt_s {ds d : List Nat} {k m : Nat} (hk : k < ds.length) : (d ++ [ds.getD k 0]) ++ (ds.drop (k + 1)).take m = d ++ (ds.drop k).take (m + 1) := by
  rw [List.drop_eq_getElem_cons hk, List.take_succ_cons, List.append_assoc, List.getD_eq_getElem?_getD, List.getElem?_eq_getElem hk]; rfl
theorem dl_s {d : List Nat} {b m n : Nat} (h : d.length + (m + 1) ≤ n) : (d ++ [b]).length + m ≤ n := by
  simp only [List.length_append, List.length_cons, List.length_nil]; omega
set_option maxRecDepth 100000 in
set_option maxHeartbeats 1000000 in
theorem wn_E (X : ev_X) (c0 : Nat) {σ0 : Nat → Int32} {τ0 : Nat → Nat → Int32} {ds : List Nat} (hn : nd τ0 ds) (bel : Bool) (fr : Int32) {W Ls f : Nat} (hL : Ls ≤ ds.length) : ∀ (m k : Nat) (d : List Nat) (σ : Nat → Int32) (τ : Nat → Nat → Int32) (hW : WS σ0 τ0 d σ τ) (hk : k + m = Ls) (hd : d.length + m ≤ 200), Rx X c0 m_Mod_writeNumber 201 [.ref (c0 + 16), .int (bi bel), .int fr, .int (nI W), .int (nI Ls), .int (nI f), .int (nI k)] [] σ τ (fun r σ' τ' => r = none ∧ WS σ0 τ0 (d ++ (ds.drop k).take m) σ' τ') := by
  intro m
  have hn18 := hn.1
  induction m with
  | zero =>
    intro k d σ τ hW hk hd
    rw [List.take_zero, List.append_nil]
    refine Rx.go (fun _ => rfl) ?_
    refine Rx.go (fun _ => rfl) ?_
    refine Rx.go (fun _ => rfl) ?_
    refine Rx.ite (fun c1 => ?_) (fun c1 => ?_)
    · replace c1 : (nI Ls) ≤ (nI k) := of_decide_eq_true c1
      show Rx X c0 m_Mod_writeNumber 225 [.ref (c0 + 16), .int (bi bel), .int fr, .int (nI W), .int (nI Ls), .int (nI f), .int (nI k)] [] σ τ _
      exact Rx.ret rfl rfl ⟨rfl, hW⟩
    · replace c1 : ¬ (nI Ls) ≤ (nI k) := of_decide_eq_false c1
      exact absurd (show nI Ls ≤ nI k by rw [show k = Ls by omega]; exact Int32.le_refl _) c1
  | succ m ih =>
    intro k d σ τ hW hk hd
    refine Rx.go (fun _ => rfl) ?_
    refine Rx.go (fun _ => rfl) ?_
    refine Rx.go (fun _ => rfl) ?_
    refine Rx.ite (fun c1 => ?_) (fun c1 => ?_)
    · replace c1 : (nI Ls) ≤ (nI k) := of_decide_eq_true c1
      exact absurd ((nI_leI (by omega) (by omega)).mp c1) (by omega)
    · replace c1 : ¬ (nI Ls) ≤ (nI k) := of_decide_eq_false c1
      show Rx X c0 m_Mod_writeNumber 208 [.ref (c0 + 16), .int (bi bel), .int fr, .int (nI W), .int (nI Ls), .int (nI f), .int (nI k)] [] σ τ _
      refine Rx.go (fun _ => rfl) ?_
      refine Rx.go (fun _ => rfl) ?_
      refine Rx.get rfl rfl ?_
      refine Rx.go (fun _ => rfl) ?_
      refine Rx.aldE (v := nI (ds.getD k 0)) 21 rfl rfl (nI_ix (show k < 40 by have := hn.1; omega) (by decide)) (ws_dg hn hW (by omega)) ?_
      refine Rx.callP rfl rfl rfl rfl (ws_put (ds.getD k 0) hW (by omega) (hn.2.2 k)) ?_
      intro σ1 τ1 W1
      show Rx X c0 m_Mod_writeNumber 219 [.ref (c0 + 16), .int (bi bel), .int fr, .int (nI W), .int (nI Ls), .int (nI f), .int (nI k)] [] σ1 τ1 _
      refine Rx.go (fun _ => rfl) ?_
      show Rx X c0 m_Mod_writeNumber 222 [.ref (c0 + 16), .int (bi bel), .int fr, .int (nI W), .int (nI Ls), .int (nI f), .int ((nI k) + 1)] [] σ1 τ1 _
      refine Rx.go (fun _ => rfl) ?_
      show Rx X c0 m_Mod_writeNumber 201 [.ref (c0 + 16), .int (bi bel), .int fr, .int (nI W), .int (nI Ls), .int (nI f), .int ((nI k) + 1)] [] σ1 τ1 _
      rw [show nI k + 1 = nI (k + 1) from nI_1 k]
      refine (ih (k + 1) _ _ _ W1 (by omega) (dl_s hd)).mono ?_
      intro r σ' τ' h
      rw [dt_s (by omega)] at h
      exact h
def wD (ds : List Nat) (W Ls : Nat) : List Nat := [46] ++ (if Ls = W then [48] else []) ++ (ds.drop W).take (Ls - W)
set_option maxRecDepth 100000 in
set_option maxHeartbeats 1000000 in
theorem wn_D (X : ev_X) (c0 : Nat) {σ0 : Nat → Int32} {τ0 : Nat → Nat → Int32} {ds : List Nat} (hn : nd τ0 ds) (bel : Bool) (fr : Int32) {W Ls f : Nat} (kv : Value) (hL : Ls ≤ ds.length) (hWL : W ≤ Ls) {d : List Nat} {σ : Nat → Int32} {τ : Nat → Nat → Int32} (hW : WS σ0 τ0 d σ τ) (hd : d.length ≤ 100) : Rx X c0 m_Mod_writeNumber 180 [.ref (c0 + 16), .int (bi bel), .int fr, .int (nI W), .int (nI Ls), .int (nI f), kv] [] σ τ (fun r σ' τ' => r = none ∧ WS σ0 τ0 (d ++ wD ds W Ls) σ' τ') := by
  have hn18 := hn.1
  refine Rx.go (fun _ => rfl) ?_
  refine Rx.go (fun _ => rfl) ?_
  refine Rx.callP rfl rfl rfl rfl (ws_put 46 hW (by first | omega | (simp only [List.length_append, List.length_cons, List.length_nil]; omega)) (by decide)) ?_
  intro σ2 τ2 W2
  show Rx X c0 m_Mod_writeNumber 186 [.ref (c0 + 16), .int (bi bel), .int fr, .int (nI W), .int (nI Ls), .int (nI f), kv] [] σ2 τ2 _
  refine Rx.go (fun _ => rfl) ?_
  refine Rx.go (fun _ => rfl) ?_
  refine Rx.go (fun _ => rfl) ?_
  refine Rx.ite (fun c1 => ?_) (fun c1 => ?_)
  · replace c1 : ¬ (nI Ls) = (nI W) := of_decide_eq_true c1
    show Rx X c0 m_Mod_writeNumber 198 [.ref (c0 + 16), .int (bi bel), .int fr, .int (nI W), .int (nI Ls), .int (nI f), kv] [] σ2 τ2 _
    refine Rx.go (fun _ => rfl) ?_
    refine Rx.go (fun _ => rfl) ?_
    show Rx X c0 m_Mod_writeNumber 201 [.ref (c0 + 16), .int (bi bel), .int fr, .int (nI W), .int (nI Ls), .int (nI f), .int (nI W)] [] σ2 τ2 _
    show Rx X c0 m_Mod_writeNumber 201 [.ref (c0 + 16), .int (bi bel), .int fr, .int (nI W), .int (nI Ls), .int (nI f), .int (nI W)] [] σ2 τ2 _
    refine (wn_E X c0 hn bel fr hL (Ls - W) W _ _ _ W2 (by omega) (by simp only [List.length_append, List.length_cons, List.length_nil]; omega)).mono ?_
    rintro r σ' τ' ⟨rfl, h⟩
    refine ⟨rfl, ?_⟩
    rw [wD, if_neg (fun q => c1 (by rw [q]))]
    simp only [List.append_assoc, List.nil_append] at h ⊢
    exact h
  · replace c1 : (nI Ls) = (nI W) := Classical.not_not.mp (of_decide_eq_false c1)
    show Rx X c0 m_Mod_writeNumber 192 [.ref (c0 + 16), .int (bi bel), .int fr, .int (nI W), .int (nI Ls), .int (nI f), kv] [] σ2 τ2 _
    refine Rx.go (fun _ => rfl) ?_
    refine Rx.go (fun _ => rfl) ?_
    refine Rx.callP rfl rfl rfl rfl (ws_put 48 W2 (by first | omega | (simp only [List.length_append, List.length_cons, List.length_nil]; omega)) (by decide)) ?_
    intro σ3 τ3 W3
    show Rx X c0 m_Mod_writeNumber 198 [.ref (c0 + 16), .int (bi bel), .int fr, .int (nI W), .int (nI Ls), .int (nI f), kv] [] σ3 τ3 _
    refine Rx.go (fun _ => rfl) ?_
    refine Rx.go (fun _ => rfl) ?_
    show Rx X c0 m_Mod_writeNumber 201 [.ref (c0 + 16), .int (bi bel), .int fr, .int (nI W), .int (nI Ls), .int (nI f), .int (nI W)] [] σ3 τ3 _
    show Rx X c0 m_Mod_writeNumber 201 [.ref (c0 + 16), .int (bi bel), .int fr, .int (nI W), .int (nI Ls), .int (nI f), .int (nI W)] [] σ3 τ3 _
    refine (wn_E X c0 hn bel fr hL (Ls - W) W _ _ _ W3 (by omega) (by simp only [List.length_append, List.length_cons, List.length_nil]; omega)).mono ?_
    rintro r σ' τ' ⟨rfl, h⟩
    refine ⟨rfl, ?_⟩
    rw [wD, if_pos ((nI_eq (by omega) (by omega)).mp c1)]
    simp only [List.append_assoc] at h ⊢
    exact h
set_option maxRecDepth 100000 in
set_option maxHeartbeats 1000000 in
theorem wn_Cw (X : ev_X) (c0 : Nat) {σ0 : Nat → Int32} {τ0 : Nat → Nat → Int32} {ds : List Nat} (hn : nd τ0 ds) (bel : Bool) (fr : Int32) {W Ls f : Nat} (hL : Ls ≤ ds.length) (hWL : W ≤ Ls) (hb : σ0 23 = -1) : ∀ (m k : Nat) (d : List Nat) (σ : Nat → Int32) (τ : Nat → Nat → Int32) (hW : WS σ0 τ0 d σ τ) (hk : k + m = W) (hd : d.length + m ≤ 50), Rx X c0 m_Mod_writeNumber 149 [.ref (c0 + 16), .int (bi bel), .int fr, .int (nI W), .int (nI Ls), .int (nI f), .int (nI k)] [] σ τ (fun r σ' τ' => r = none ∧ WS σ0 τ0 (d ++ (ds.drop k).take m) σ' τ') := by
  intro m
  have hn18 := hn.1
  induction m with
  | zero =>
    intro k d σ τ hW hk hd
    rw [List.take_zero, List.append_nil]
    refine Rx.go (fun _ => rfl) ?_
    refine Rx.go (fun _ => rfl) ?_
    refine Rx.go (fun _ => rfl) ?_
    refine Rx.ite (fun c1 => ?_) (fun c1 => ?_)
    · replace c1 : (nI W) ≤ (nI k) := of_decide_eq_true c1
      show Rx X c0 m_Mod_writeNumber 172 [.ref (c0 + 16), .int (bi bel), .int fr, .int (nI W), .int (nI Ls), .int (nI f), .int (nI k)] [] σ τ _
      refine Rx.go (fun _ => rfl) ?_
      refine Rx.get rfl rfl ?_
      refine Rx.top (y := (-1)) ((hW.1 23 (by decide)).trans hb) ?_
      refine Rx.go (fun _ => rfl) ?_
      show Rx X c0 m_Mod_writeNumber 179 [.ref (c0 + 16), .int (bi bel), .int fr, .int (nI W), .int (nI Ls), .int (nI f), .int (nI k)] [] σ τ _
      exact Rx.ret rfl rfl ⟨rfl, hW⟩
    · replace c1 : ¬ (nI W) ≤ (nI k) := of_decide_eq_false c1
      exact absurd (show nI W ≤ nI k by rw [show k = W by omega]; exact Int32.le_refl _) c1
  | succ m ih =>
    intro k d σ τ hW hk hd
    refine Rx.go (fun _ => rfl) ?_
    refine Rx.go (fun _ => rfl) ?_
    refine Rx.go (fun _ => rfl) ?_
    refine Rx.ite (fun c1 => ?_) (fun c1 => ?_)
    · replace c1 : (nI W) ≤ (nI k) := of_decide_eq_true c1
      exact absurd ((nI_leI (by omega) (by omega)).mp c1) (by omega)
    · replace c1 : ¬ (nI W) ≤ (nI k) := of_decide_eq_false c1
      show Rx X c0 m_Mod_writeNumber 155 [.ref (c0 + 16), .int (bi bel), .int fr, .int (nI W), .int (nI Ls), .int (nI f), .int (nI k)] [] σ τ _
      refine Rx.go (fun _ => rfl) ?_
      refine Rx.go (fun _ => rfl) ?_
      refine Rx.get rfl rfl ?_
      refine Rx.go (fun _ => rfl) ?_
      refine Rx.aldE (v := nI (ds.getD k 0)) 21 rfl rfl (nI_ix (show k < 40 by have := hn.1; omega) (by decide)) (ws_dg hn hW (by omega)) ?_
      refine Rx.callP rfl rfl rfl rfl (ws_put (ds.getD k 0) hW (by omega) (hn.2.2 k)) ?_
      intro σ4 τ4 W4
      show Rx X c0 m_Mod_writeNumber 166 [.ref (c0 + 16), .int (bi bel), .int fr, .int (nI W), .int (nI Ls), .int (nI f), .int (nI k)] [] σ4 τ4 _
      refine Rx.go (fun _ => rfl) ?_
      show Rx X c0 m_Mod_writeNumber 169 [.ref (c0 + 16), .int (bi bel), .int fr, .int (nI W), .int (nI Ls), .int (nI f), .int ((nI k) + 1)] [] σ4 τ4 _
      refine Rx.go (fun _ => rfl) ?_
      show Rx X c0 m_Mod_writeNumber 149 [.ref (c0 + 16), .int (bi bel), .int fr, .int (nI W), .int (nI Ls), .int (nI f), .int ((nI k) + 1)] [] σ4 τ4 _
      rw [show nI k + 1 = nI (k + 1) from nI_1 k]
      refine (ih (k + 1) _ _ _ W4 (by omega) (dl_s hd)).mono ?_
      intro r σ' τ' h
      rw [dt_s (by omega)] at h
      exact h
set_option maxRecDepth 100000 in
set_option maxHeartbeats 1000000 in
theorem wn_Cd (X : ev_X) (c0 : Nat) {σ0 : Nat → Int32} {τ0 : Nat → Nat → Int32} {ds : List Nat} (hn : nd τ0 ds) (bel : Bool) (fr : Int32) {W Ls f : Nat} (hL : Ls ≤ ds.length) (hWL : W ≤ Ls) (hb : σ0 23 = nI W) : ∀ (m k : Nat) (d : List Nat) (σ : Nat → Int32) (τ : Nat → Nat → Int32) (hW : WS σ0 τ0 d σ τ) (hk : k + m = W) (hd : d.length + m ≤ 50), Rx X c0 m_Mod_writeNumber 149 [.ref (c0 + 16), .int (bi bel), .int fr, .int (nI W), .int (nI Ls), .int (nI f), .int (nI k)] [] σ τ (fun r σ' τ' => r = none ∧ WS σ0 τ0 (d ++ (ds.drop k).take m ++ wD ds W Ls) σ' τ') := by
  intro m
  have hn18 := hn.1
  induction m with
  | zero =>
    intro k d σ τ hW hk hd
    rw [List.take_zero, List.append_nil]
    refine Rx.go (fun _ => rfl) ?_
    refine Rx.go (fun _ => rfl) ?_
    refine Rx.go (fun _ => rfl) ?_
    refine Rx.ite (fun c1 => ?_) (fun c1 => ?_)
    · replace c1 : (nI W) ≤ (nI k) := of_decide_eq_true c1
      show Rx X c0 m_Mod_writeNumber 172 [.ref (c0 + 16), .int (bi bel), .int fr, .int (nI W), .int (nI Ls), .int (nI f), .int (nI k)] [] σ τ _
      refine Rx.go (fun _ => rfl) ?_
      refine Rx.get rfl rfl ?_
      refine Rx.top (y := nI W) ((hW.1 23 (by decide)).trans hb) ?_
      refine Rx.go (fun _ => rfl) ?_
      refine Rx.ite (fun c2 => ?_) (fun c2 => ?_)
      · replace c2 : 0 ≤ (nI W) := of_decide_eq_true c2
        show Rx X c0 m_Mod_writeNumber 180 [.ref (c0 + 16), .int (bi bel), .int fr, .int (nI W), .int (nI Ls), .int (nI f), .int (nI k)] [] σ τ _
        show Rx X c0 m_Mod_writeNumber 180 [.ref (c0 + 16), .int (bi bel), .int fr, .int (nI W), .int (nI Ls), .int (nI f), .int (nI k)] [] σ τ _
        exact wn_D X c0 hn bel fr _ hL hWL hW (by omega)
      · replace c2 : ¬ 0 ≤ (nI W) := of_decide_eq_false c2
        exact absurd (nI_pos' (by omega)) c2
    · replace c1 : ¬ (nI W) ≤ (nI k) := of_decide_eq_false c1
      exact absurd (show nI W ≤ nI k by rw [show k = W by omega]; exact Int32.le_refl _) c1
  | succ m ih =>
    intro k d σ τ hW hk hd
    refine Rx.go (fun _ => rfl) ?_
    refine Rx.go (fun _ => rfl) ?_
    refine Rx.go (fun _ => rfl) ?_
    refine Rx.ite (fun c1 => ?_) (fun c1 => ?_)
    · replace c1 : (nI W) ≤ (nI k) := of_decide_eq_true c1
      exact absurd ((nI_leI (by omega) (by omega)).mp c1) (by omega)
    · replace c1 : ¬ (nI W) ≤ (nI k) := of_decide_eq_false c1
      show Rx X c0 m_Mod_writeNumber 155 [.ref (c0 + 16), .int (bi bel), .int fr, .int (nI W), .int (nI Ls), .int (nI f), .int (nI k)] [] σ τ _
      refine Rx.go (fun _ => rfl) ?_
      refine Rx.go (fun _ => rfl) ?_
      refine Rx.get rfl rfl ?_
      refine Rx.go (fun _ => rfl) ?_
      refine Rx.aldE (v := nI (ds.getD k 0)) 21 rfl rfl (nI_ix (show k < 40 by have := hn.1; omega) (by decide)) (ws_dg hn hW (by omega)) ?_
      refine Rx.callP rfl rfl rfl rfl (ws_put (ds.getD k 0) hW (by omega) (hn.2.2 k)) ?_
      intro σ5 τ5 W5
      show Rx X c0 m_Mod_writeNumber 166 [.ref (c0 + 16), .int (bi bel), .int fr, .int (nI W), .int (nI Ls), .int (nI f), .int (nI k)] [] σ5 τ5 _
      refine Rx.go (fun _ => rfl) ?_
      show Rx X c0 m_Mod_writeNumber 169 [.ref (c0 + 16), .int (bi bel), .int fr, .int (nI W), .int (nI Ls), .int (nI f), .int ((nI k) + 1)] [] σ5 τ5 _
      refine Rx.go (fun _ => rfl) ?_
      show Rx X c0 m_Mod_writeNumber 149 [.ref (c0 + 16), .int (bi bel), .int fr, .int (nI W), .int (nI Ls), .int (nI f), .int ((nI k) + 1)] [] σ5 τ5 _
      rw [show nI k + 1 = nI (k + 1) from nI_1 k]
      refine (ih (k + 1) _ _ _ W5 (by omega) (dl_s hd)).mono ?_
      intro r σ' τ' h
      rw [dt_s (by omega)] at h
      exact h
def wS (bel : Bool) (f W Ls : Nat) : List Nat := if (bel && (decide (f < W) || decide (W < Ls))) = true then [45] else []
def wZ (f W : Nat) : List Nat := if f = W then [48] else []
def wN (bel dec : Bool) (ds : List Nat) (f W Ls : Nat) : List Nat := wS bel f W Ls ++ (wZ f W ++ ((ds.drop f).take (W - f) ++ (if dec = true then wD ds W Ls else [])))
set_option maxRecDepth 100000 in
set_option maxHeartbeats 1000000 in
theorem wn_Bw (X : ev_X) (c0 : Nat) {σ0 : Nat → Int32} {τ0 : Nat → Nat → Int32} {ds : List Nat} (hn : nd τ0 ds) (bel : Bool) (fr : Int32) {W Ls f : Nat} (kv : Value) (hL : Ls ≤ ds.length) (hWL : W ≤ Ls) (hf : f ≤ W) (hb : σ0 23 = -1) {σ : Nat → Int32} {τ : Nat → Nat → Int32} (hW : WS σ0 τ0 [] σ τ) : Rx X c0 m_Mod_writeNumber 111 [.ref (c0 + 16), .int (bi bel), .int fr, .int (nI W), .int (nI Ls), .int (nI f), kv] [] σ τ (fun r σ' τ' => r = none ∧ WS σ0 τ0 (wN bel false ds f W Ls) σ' τ') := by
  have hn18 := hn.1
  refine Rx.go (fun _ => rfl) ?_
  refine Rx.go (fun _ => rfl) ?_
  refine Rx.ite (fun c1 => ?_) (fun c1 => ?_)
  · replace c1 : bel = false := bi_eqt c1
    show Rx X c0 m_Mod_writeNumber 133 [.ref (c0 + 16), .int (bi bel), .int fr, .int (nI W), .int (nI Ls), .int (nI f), kv] [] σ τ _
    refine Rx.go (fun _ => rfl) ?_
    refine Rx.go (fun _ => rfl) ?_
    refine Rx.go (fun _ => rfl) ?_
    refine Rx.ite (fun c2 => ?_) (fun c2 => ?_)
    · replace c2 : ¬ (nI f) = (nI W) := of_decide_eq_true c2
      have e3 : ¬ f = W := fun q => c2 (by rw [q])
      show Rx X c0 m_Mod_writeNumber 145 [.ref (c0 + 16), .int (bi bel), .int fr, .int (nI W), .int (nI Ls), .int (nI f), kv] [] σ τ _
      refine Rx.go (fun _ => rfl) ?_
      refine Rx.go (fun _ => rfl) ?_
      show Rx X c0 m_Mod_writeNumber 149 [.ref (c0 + 16), .int (bi bel), .int fr, .int (nI W), .int (nI Ls), .int (nI f), .int (nI f)] [] σ τ _
      show Rx X c0 m_Mod_writeNumber 149 [.ref (c0 + 16), .int (bi bel), .int fr, .int (nI W), .int (nI Ls), .int (nI f), .int (nI f)] [] σ τ _
      refine (wn_Cw X c0 hn bel fr hL hWL hb (W - f) f _ _ _ hW (by omega) (by first | omega | (simp only [List.length_append, List.length_cons, List.length_nil]; omega))).mono ?_
      rintro r σ' τ' ⟨rfl, h⟩
      refine ⟨rfl, ?_⟩
      have eq : wN bel false ds f W Ls = ([] : List Nat) ++ (ds.drop f).take (W - f) := by first | (exfalso; omega) | simp [wN, wS, wZ, c1, e3]
      rw [eq]
      exact h
    · replace c2 : (nI f) = (nI W) := Classical.not_not.mp (of_decide_eq_false c2)
      have e3 : f = W := (nI_eq (by omega) (by omega)).mp c2
      show Rx X c0 m_Mod_writeNumber 139 [.ref (c0 + 16), .int (bi bel), .int fr, .int (nI W), .int (nI Ls), .int (nI f), kv] [] σ τ _
      refine Rx.go (fun _ => rfl) ?_
      refine Rx.go (fun _ => rfl) ?_
      refine Rx.callP rfl rfl rfl rfl (ws_put 48 hW (by first | omega | (simp only [List.length_append, List.length_cons, List.length_nil]; omega)) (by decide)) ?_
      intro σ6 τ6 W6
      show Rx X c0 m_Mod_writeNumber 145 [.ref (c0 + 16), .int (bi bel), .int fr, .int (nI W), .int (nI Ls), .int (nI f), kv] [] σ6 τ6 _
      refine Rx.go (fun _ => rfl) ?_
      refine Rx.go (fun _ => rfl) ?_
      show Rx X c0 m_Mod_writeNumber 149 [.ref (c0 + 16), .int (bi bel), .int fr, .int (nI W), .int (nI Ls), .int (nI f), .int (nI f)] [] σ6 τ6 _
      show Rx X c0 m_Mod_writeNumber 149 [.ref (c0 + 16), .int (bi bel), .int fr, .int (nI W), .int (nI Ls), .int (nI f), .int (nI f)] [] σ6 τ6 _
      refine (wn_Cw X c0 hn bel fr hL hWL hb (W - f) f _ _ _ W6 (by omega) (by first | omega | (simp only [List.length_append, List.length_cons, List.length_nil]; omega))).mono ?_
      rintro r σ' τ' ⟨rfl, h⟩
      refine ⟨rfl, ?_⟩
      have eq : wN bel false ds f W Ls = (([] : List Nat) ++ [48]) ++ (ds.drop f).take (W - f) := by first | (exfalso; omega) | simp [wN, wS, wZ, c1, e3]
      rw [eq]
      exact h
  · replace c1 : bel = true := bi_eqf c1
    show Rx X c0 m_Mod_writeNumber 115 [.ref (c0 + 16), .int (bi bel), .int fr, .int (nI W), .int (nI Ls), .int (nI f), kv] [] σ τ _
    refine Rx.go (fun _ => rfl) ?_
    refine Rx.go (fun _ => rfl) ?_
    refine Rx.go (fun _ => rfl) ?_
    refine Rx.ite (fun c3 => ?_) (fun c3 => ?_)
    · replace c3 : (nI f) < (nI W) := of_decide_eq_true c3
      have e1 : f < W := (nI_ltI (by omega) (by omega)).mp c3
      show Rx X c0 m_Mod_writeNumber 127 [.ref (c0 + 16), .int (bi bel), .int fr, .int (nI W), .int (nI Ls), .int (nI f), kv] [] σ τ _
      refine Rx.go (fun _ => rfl) ?_
      refine Rx.go (fun _ => rfl) ?_
      refine Rx.callP rfl rfl rfl rfl (ws_put 45 hW (by first | omega | (simp only [List.length_append, List.length_cons, List.length_nil]; omega)) (by decide)) ?_
      intro σ7 τ7 W7
      show Rx X c0 m_Mod_writeNumber 133 [.ref (c0 + 16), .int (bi bel), .int fr, .int (nI W), .int (nI Ls), .int (nI f), kv] [] σ7 τ7 _
      refine Rx.go (fun _ => rfl) ?_
      refine Rx.go (fun _ => rfl) ?_
      refine Rx.go (fun _ => rfl) ?_
      refine Rx.ite (fun c4 => ?_) (fun c4 => ?_)
      · replace c4 : ¬ (nI f) = (nI W) := of_decide_eq_true c4
        have e3 : ¬ f = W := fun q => c4 (by rw [q])
        show Rx X c0 m_Mod_writeNumber 145 [.ref (c0 + 16), .int (bi bel), .int fr, .int (nI W), .int (nI Ls), .int (nI f), kv] [] σ7 τ7 _
        refine Rx.go (fun _ => rfl) ?_
        refine Rx.go (fun _ => rfl) ?_
        show Rx X c0 m_Mod_writeNumber 149 [.ref (c0 + 16), .int (bi bel), .int fr, .int (nI W), .int (nI Ls), .int (nI f), .int (nI f)] [] σ7 τ7 _
        show Rx X c0 m_Mod_writeNumber 149 [.ref (c0 + 16), .int (bi bel), .int fr, .int (nI W), .int (nI Ls), .int (nI f), .int (nI f)] [] σ7 τ7 _
        refine (wn_Cw X c0 hn bel fr hL hWL hb (W - f) f _ _ _ W7 (by omega) (by first | omega | (simp only [List.length_append, List.length_cons, List.length_nil]; omega))).mono ?_
        rintro r σ' τ' ⟨rfl, h⟩
        refine ⟨rfl, ?_⟩
        have eq : wN bel false ds f W Ls = (([] : List Nat) ++ [45]) ++ (ds.drop f).take (W - f) := by first | (exfalso; omega) | simp [wN, wS, wZ, c1, e1, e3]
        rw [eq]
        exact h
      · replace c4 : (nI f) = (nI W) := Classical.not_not.mp (of_decide_eq_false c4)
        have e3 : f = W := (nI_eq (by omega) (by omega)).mp c4
        show Rx X c0 m_Mod_writeNumber 139 [.ref (c0 + 16), .int (bi bel), .int fr, .int (nI W), .int (nI Ls), .int (nI f), kv] [] σ7 τ7 _
        refine Rx.go (fun _ => rfl) ?_
        refine Rx.go (fun _ => rfl) ?_
        refine Rx.callP rfl rfl rfl rfl (ws_put 48 W7 (by first | omega | (simp only [List.length_append, List.length_cons, List.length_nil]; omega)) (by decide)) ?_
        intro σ8 τ8 W8
        show Rx X c0 m_Mod_writeNumber 145 [.ref (c0 + 16), .int (bi bel), .int fr, .int (nI W), .int (nI Ls), .int (nI f), kv] [] σ8 τ8 _
        refine Rx.go (fun _ => rfl) ?_
        refine Rx.go (fun _ => rfl) ?_
        show Rx X c0 m_Mod_writeNumber 149 [.ref (c0 + 16), .int (bi bel), .int fr, .int (nI W), .int (nI Ls), .int (nI f), .int (nI f)] [] σ8 τ8 _
        show Rx X c0 m_Mod_writeNumber 149 [.ref (c0 + 16), .int (bi bel), .int fr, .int (nI W), .int (nI Ls), .int (nI f), .int (nI f)] [] σ8 τ8 _
        refine (wn_Cw X c0 hn bel fr hL hWL hb (W - f) f _ _ _ W8 (by omega) (by first | omega | (simp only [List.length_append, List.length_cons, List.length_nil]; omega))).mono ?_
        rintro r σ' τ' ⟨rfl, h⟩
        refine ⟨rfl, ?_⟩
        have eq : wN bel false ds f W Ls = ((([] : List Nat) ++ [45]) ++ [48]) ++ (ds.drop f).take (W - f) := by first | (exfalso; omega) | simp [wN, wS, wZ, c1, e1, e3]
        rw [eq]
        exact h
    · replace c3 : ¬ (nI f) < (nI W) := of_decide_eq_false c3
      have e1 : ¬ f < W := fun q => c3 ((nI_ltI (by omega) (by omega)).mpr q)
      show Rx X c0 m_Mod_writeNumber 121 [.ref (c0 + 16), .int (bi bel), .int fr, .int (nI W), .int (nI Ls), .int (nI f), kv] [] σ τ _
      refine Rx.go (fun _ => rfl) ?_
      refine Rx.go (fun _ => rfl) ?_
      refine Rx.go (fun _ => rfl) ?_
      refine Rx.ite (fun c5 => ?_) (fun c5 => ?_)
      · replace c5 : (nI Ls) ≤ (nI W) := of_decide_eq_true c5
        have e2 : ¬ W < Ls := by have := (nI_leI (by omega) (by omega)).mp c5; omega
        show Rx X c0 m_Mod_writeNumber 133 [.ref (c0 + 16), .int (bi bel), .int fr, .int (nI W), .int (nI Ls), .int (nI f), kv] [] σ τ _
        refine Rx.go (fun _ => rfl) ?_
        refine Rx.go (fun _ => rfl) ?_
        refine Rx.go (fun _ => rfl) ?_
        refine Rx.ite (fun c6 => ?_) (fun c6 => ?_)
        · replace c6 : ¬ (nI f) = (nI W) := of_decide_eq_true c6
          have e3 : ¬ f = W := fun q => c6 (by rw [q])
          show Rx X c0 m_Mod_writeNumber 145 [.ref (c0 + 16), .int (bi bel), .int fr, .int (nI W), .int (nI Ls), .int (nI f), kv] [] σ τ _
          refine Rx.go (fun _ => rfl) ?_
          refine Rx.go (fun _ => rfl) ?_
          show Rx X c0 m_Mod_writeNumber 149 [.ref (c0 + 16), .int (bi bel), .int fr, .int (nI W), .int (nI Ls), .int (nI f), .int (nI f)] [] σ τ _
          show Rx X c0 m_Mod_writeNumber 149 [.ref (c0 + 16), .int (bi bel), .int fr, .int (nI W), .int (nI Ls), .int (nI f), .int (nI f)] [] σ τ _
          refine (wn_Cw X c0 hn bel fr hL hWL hb (W - f) f _ _ _ hW (by omega) (by first | omega | (simp only [List.length_append, List.length_cons, List.length_nil]; omega))).mono ?_
          rintro r σ' τ' ⟨rfl, h⟩
          refine ⟨rfl, ?_⟩
          have eq : wN bel false ds f W Ls = ([] : List Nat) ++ (ds.drop f).take (W - f) := by first | (exfalso; omega) | simp [wN, wS, wZ, c1, e1, e2, e3]
          rw [eq]
          exact h
        · replace c6 : (nI f) = (nI W) := Classical.not_not.mp (of_decide_eq_false c6)
          have e3 : f = W := (nI_eq (by omega) (by omega)).mp c6
          show Rx X c0 m_Mod_writeNumber 139 [.ref (c0 + 16), .int (bi bel), .int fr, .int (nI W), .int (nI Ls), .int (nI f), kv] [] σ τ _
          refine Rx.go (fun _ => rfl) ?_
          refine Rx.go (fun _ => rfl) ?_
          refine Rx.callP rfl rfl rfl rfl (ws_put 48 hW (by first | omega | (simp only [List.length_append, List.length_cons, List.length_nil]; omega)) (by decide)) ?_
          intro σ9 τ9 W9
          show Rx X c0 m_Mod_writeNumber 145 [.ref (c0 + 16), .int (bi bel), .int fr, .int (nI W), .int (nI Ls), .int (nI f), kv] [] σ9 τ9 _
          refine Rx.go (fun _ => rfl) ?_
          refine Rx.go (fun _ => rfl) ?_
          show Rx X c0 m_Mod_writeNumber 149 [.ref (c0 + 16), .int (bi bel), .int fr, .int (nI W), .int (nI Ls), .int (nI f), .int (nI f)] [] σ9 τ9 _
          show Rx X c0 m_Mod_writeNumber 149 [.ref (c0 + 16), .int (bi bel), .int fr, .int (nI W), .int (nI Ls), .int (nI f), .int (nI f)] [] σ9 τ9 _
          refine (wn_Cw X c0 hn bel fr hL hWL hb (W - f) f _ _ _ W9 (by omega) (by first | omega | (simp only [List.length_append, List.length_cons, List.length_nil]; omega))).mono ?_
          rintro r σ' τ' ⟨rfl, h⟩
          refine ⟨rfl, ?_⟩
          have eq : wN bel false ds f W Ls = (([] : List Nat) ++ [48]) ++ (ds.drop f).take (W - f) := by first | (exfalso; omega) | simp [wN, wS, wZ, c1, e1, e2, e3]
          rw [eq]
          exact h
      · replace c5 : ¬ (nI Ls) ≤ (nI W) := of_decide_eq_false c5
        have e2 : W < Ls := Nat.lt_of_not_le (fun q => c5 ((nI_leI (by omega) (by omega)).mpr q))
        show Rx X c0 m_Mod_writeNumber 127 [.ref (c0 + 16), .int (bi bel), .int fr, .int (nI W), .int (nI Ls), .int (nI f), kv] [] σ τ _
        refine Rx.go (fun _ => rfl) ?_
        refine Rx.go (fun _ => rfl) ?_
        refine Rx.callP rfl rfl rfl rfl (ws_put 45 hW (by first | omega | (simp only [List.length_append, List.length_cons, List.length_nil]; omega)) (by decide)) ?_
        intro σ10 τ10 W10
        show Rx X c0 m_Mod_writeNumber 133 [.ref (c0 + 16), .int (bi bel), .int fr, .int (nI W), .int (nI Ls), .int (nI f), kv] [] σ10 τ10 _
        refine Rx.go (fun _ => rfl) ?_
        refine Rx.go (fun _ => rfl) ?_
        refine Rx.go (fun _ => rfl) ?_
        refine Rx.ite (fun c7 => ?_) (fun c7 => ?_)
        · replace c7 : ¬ (nI f) = (nI W) := of_decide_eq_true c7
          have e3 : ¬ f = W := fun q => c7 (by rw [q])
          show Rx X c0 m_Mod_writeNumber 145 [.ref (c0 + 16), .int (bi bel), .int fr, .int (nI W), .int (nI Ls), .int (nI f), kv] [] σ10 τ10 _
          refine Rx.go (fun _ => rfl) ?_
          refine Rx.go (fun _ => rfl) ?_
          show Rx X c0 m_Mod_writeNumber 149 [.ref (c0 + 16), .int (bi bel), .int fr, .int (nI W), .int (nI Ls), .int (nI f), .int (nI f)] [] σ10 τ10 _
          show Rx X c0 m_Mod_writeNumber 149 [.ref (c0 + 16), .int (bi bel), .int fr, .int (nI W), .int (nI Ls), .int (nI f), .int (nI f)] [] σ10 τ10 _
          refine (wn_Cw X c0 hn bel fr hL hWL hb (W - f) f _ _ _ W10 (by omega) (by first | omega | (simp only [List.length_append, List.length_cons, List.length_nil]; omega))).mono ?_
          rintro r σ' τ' ⟨rfl, h⟩
          refine ⟨rfl, ?_⟩
          have eq : wN bel false ds f W Ls = (([] : List Nat) ++ [45]) ++ (ds.drop f).take (W - f) := by first | (exfalso; omega) | simp [wN, wS, wZ, c1, e1, e2, e3]
          rw [eq]
          exact h
        · replace c7 : (nI f) = (nI W) := Classical.not_not.mp (of_decide_eq_false c7)
          have e3 : f = W := (nI_eq (by omega) (by omega)).mp c7
          show Rx X c0 m_Mod_writeNumber 139 [.ref (c0 + 16), .int (bi bel), .int fr, .int (nI W), .int (nI Ls), .int (nI f), kv] [] σ10 τ10 _
          refine Rx.go (fun _ => rfl) ?_
          refine Rx.go (fun _ => rfl) ?_
          refine Rx.callP rfl rfl rfl rfl (ws_put 48 W10 (by first | omega | (simp only [List.length_append, List.length_cons, List.length_nil]; omega)) (by decide)) ?_
          intro σ11 τ11 W11
          show Rx X c0 m_Mod_writeNumber 145 [.ref (c0 + 16), .int (bi bel), .int fr, .int (nI W), .int (nI Ls), .int (nI f), kv] [] σ11 τ11 _
          refine Rx.go (fun _ => rfl) ?_
          refine Rx.go (fun _ => rfl) ?_
          show Rx X c0 m_Mod_writeNumber 149 [.ref (c0 + 16), .int (bi bel), .int fr, .int (nI W), .int (nI Ls), .int (nI f), .int (nI f)] [] σ11 τ11 _
          show Rx X c0 m_Mod_writeNumber 149 [.ref (c0 + 16), .int (bi bel), .int fr, .int (nI W), .int (nI Ls), .int (nI f), .int (nI f)] [] σ11 τ11 _
          refine (wn_Cw X c0 hn bel fr hL hWL hb (W - f) f _ _ _ W11 (by omega) (by first | omega | (simp only [List.length_append, List.length_cons, List.length_nil]; omega))).mono ?_
          rintro r σ' τ' ⟨rfl, h⟩
          refine ⟨rfl, ?_⟩
          have eq : wN bel false ds f W Ls = ((([] : List Nat) ++ [45]) ++ [48]) ++ (ds.drop f).take (W - f) := by first | (exfalso; omega) | simp [wN, wS, wZ, c1, e1, e2, e3]
          rw [eq]
          exact h
set_option maxRecDepth 100000 in
set_option maxHeartbeats 1000000 in
theorem wn_Bd (X : ev_X) (c0 : Nat) {σ0 : Nat → Int32} {τ0 : Nat → Nat → Int32} {ds : List Nat} (hn : nd τ0 ds) (bel : Bool) (fr : Int32) {W Ls f : Nat} (kv : Value) (hL : Ls ≤ ds.length) (hWL : W ≤ Ls) (hf : f ≤ W) (hb : σ0 23 = nI W) {σ : Nat → Int32} {τ : Nat → Nat → Int32} (hW : WS σ0 τ0 [] σ τ) : Rx X c0 m_Mod_writeNumber 111 [.ref (c0 + 16), .int (bi bel), .int fr, .int (nI W), .int (nI Ls), .int (nI f), kv] [] σ τ (fun r σ' τ' => r = none ∧ WS σ0 τ0 (wN bel true ds f W Ls) σ' τ') := by
  have hn18 := hn.1
  refine Rx.go (fun _ => rfl) ?_
  refine Rx.go (fun _ => rfl) ?_
  refine Rx.ite (fun c1 => ?_) (fun c1 => ?_)
  · replace c1 : bel = false := bi_eqt c1
    show Rx X c0 m_Mod_writeNumber 133 [.ref (c0 + 16), .int (bi bel), .int fr, .int (nI W), .int (nI Ls), .int (nI f), kv] [] σ τ _
    refine Rx.go (fun _ => rfl) ?_
    refine Rx.go (fun _ => rfl) ?_
    refine Rx.go (fun _ => rfl) ?_
    refine Rx.ite (fun c2 => ?_) (fun c2 => ?_)
    · replace c2 : ¬ (nI f) = (nI W) := of_decide_eq_true c2
      have e3 : ¬ f = W := fun q => c2 (by rw [q])
      show Rx X c0 m_Mod_writeNumber 145 [.ref (c0 + 16), .int (bi bel), .int fr, .int (nI W), .int (nI Ls), .int (nI f), kv] [] σ τ _
      refine Rx.go (fun _ => rfl) ?_
      refine Rx.go (fun _ => rfl) ?_
      show Rx X c0 m_Mod_writeNumber 149 [.ref (c0 + 16), .int (bi bel), .int fr, .int (nI W), .int (nI Ls), .int (nI f), .int (nI f)] [] σ τ _
      show Rx X c0 m_Mod_writeNumber 149 [.ref (c0 + 16), .int (bi bel), .int fr, .int (nI W), .int (nI Ls), .int (nI f), .int (nI f)] [] σ τ _
      refine (wn_Cd X c0 hn bel fr hL hWL hb (W - f) f _ _ _ hW (by omega) (by first | omega | (simp only [List.length_append, List.length_cons, List.length_nil]; omega))).mono ?_
      rintro r σ' τ' ⟨rfl, h⟩
      refine ⟨rfl, ?_⟩
      have eq : wN bel true ds f W Ls = ([] : List Nat) ++ (ds.drop f).take (W - f) ++ wD ds W Ls := by first | (exfalso; omega) | simp [wN, wS, wZ, c1, e3]
      rw [eq]
      exact h
    · replace c2 : (nI f) = (nI W) := Classical.not_not.mp (of_decide_eq_false c2)
      have e3 : f = W := (nI_eq (by omega) (by omega)).mp c2
      show Rx X c0 m_Mod_writeNumber 139 [.ref (c0 + 16), .int (bi bel), .int fr, .int (nI W), .int (nI Ls), .int (nI f), kv] [] σ τ _
      refine Rx.go (fun _ => rfl) ?_
      refine Rx.go (fun _ => rfl) ?_
      refine Rx.callP rfl rfl rfl rfl (ws_put 48 hW (by first | omega | (simp only [List.length_append, List.length_cons, List.length_nil]; omega)) (by decide)) ?_
      intro σ12 τ12 W12
      show Rx X c0 m_Mod_writeNumber 145 [.ref (c0 + 16), .int (bi bel), .int fr, .int (nI W), .int (nI Ls), .int (nI f), kv] [] σ12 τ12 _
      refine Rx.go (fun _ => rfl) ?_
      refine Rx.go (fun _ => rfl) ?_
      show Rx X c0 m_Mod_writeNumber 149 [.ref (c0 + 16), .int (bi bel), .int fr, .int (nI W), .int (nI Ls), .int (nI f), .int (nI f)] [] σ12 τ12 _
      show Rx X c0 m_Mod_writeNumber 149 [.ref (c0 + 16), .int (bi bel), .int fr, .int (nI W), .int (nI Ls), .int (nI f), .int (nI f)] [] σ12 τ12 _
      refine (wn_Cd X c0 hn bel fr hL hWL hb (W - f) f _ _ _ W12 (by omega) (by first | omega | (simp only [List.length_append, List.length_cons, List.length_nil]; omega))).mono ?_
      rintro r σ' τ' ⟨rfl, h⟩
      refine ⟨rfl, ?_⟩
      have eq : wN bel true ds f W Ls = (([] : List Nat) ++ [48]) ++ (ds.drop f).take (W - f) ++ wD ds W Ls := by first | (exfalso; omega) | simp [wN, wS, wZ, c1, e3]
      rw [eq]
      exact h
  · replace c1 : bel = true := bi_eqf c1
    show Rx X c0 m_Mod_writeNumber 115 [.ref (c0 + 16), .int (bi bel), .int fr, .int (nI W), .int (nI Ls), .int (nI f), kv] [] σ τ _
    refine Rx.go (fun _ => rfl) ?_
    refine Rx.go (fun _ => rfl) ?_
    refine Rx.go (fun _ => rfl) ?_
    refine Rx.ite (fun c3 => ?_) (fun c3 => ?_)
    · replace c3 : (nI f) < (nI W) := of_decide_eq_true c3
      have e1 : f < W := (nI_ltI (by omega) (by omega)).mp c3
      show Rx X c0 m_Mod_writeNumber 127 [.ref (c0 + 16), .int (bi bel), .int fr, .int (nI W), .int (nI Ls), .int (nI f), kv] [] σ τ _
      refine Rx.go (fun _ => rfl) ?_
      refine Rx.go (fun _ => rfl) ?_
      refine Rx.callP rfl rfl rfl rfl (ws_put 45 hW (by first | omega | (simp only [List.length_append, List.length_cons, List.length_nil]; omega)) (by decide)) ?_
      intro σ13 τ13 W13
      show Rx X c0 m_Mod_writeNumber 133 [.ref (c0 + 16), .int (bi bel), .int fr, .int (nI W), .int (nI Ls), .int (nI f), kv] [] σ13 τ13 _
      refine Rx.go (fun _ => rfl) ?_
      refine Rx.go (fun _ => rfl) ?_
      refine Rx.go (fun _ => rfl) ?_
      refine Rx.ite (fun c4 => ?_) (fun c4 => ?_)
      · replace c4 : ¬ (nI f) = (nI W) := of_decide_eq_true c4
        have e3 : ¬ f = W := fun q => c4 (by rw [q])
        show Rx X c0 m_Mod_writeNumber 145 [.ref (c0 + 16), .int (bi bel), .int fr, .int (nI W), .int (nI Ls), .int (nI f), kv] [] σ13 τ13 _
        refine Rx.go (fun _ => rfl) ?_
        refine Rx.go (fun _ => rfl) ?_
        show Rx X c0 m_Mod_writeNumber 149 [.ref (c0 + 16), .int (bi bel), .int fr, .int (nI W), .int (nI Ls), .int (nI f), .int (nI f)] [] σ13 τ13 _
        show Rx X c0 m_Mod_writeNumber 149 [.ref (c0 + 16), .int (bi bel), .int fr, .int (nI W), .int (nI Ls), .int (nI f), .int (nI f)] [] σ13 τ13 _
        refine (wn_Cd X c0 hn bel fr hL hWL hb (W - f) f _ _ _ W13 (by omega) (by first | omega | (simp only [List.length_append, List.length_cons, List.length_nil]; omega))).mono ?_
        rintro r σ' τ' ⟨rfl, h⟩
        refine ⟨rfl, ?_⟩
        have eq : wN bel true ds f W Ls = (([] : List Nat) ++ [45]) ++ (ds.drop f).take (W - f) ++ wD ds W Ls := by first | (exfalso; omega) | simp [wN, wS, wZ, c1, e1, e3]
        rw [eq]
        exact h
      · replace c4 : (nI f) = (nI W) := Classical.not_not.mp (of_decide_eq_false c4)
        have e3 : f = W := (nI_eq (by omega) (by omega)).mp c4
        show Rx X c0 m_Mod_writeNumber 139 [.ref (c0 + 16), .int (bi bel), .int fr, .int (nI W), .int (nI Ls), .int (nI f), kv] [] σ13 τ13 _
        refine Rx.go (fun _ => rfl) ?_
        refine Rx.go (fun _ => rfl) ?_
        refine Rx.callP rfl rfl rfl rfl (ws_put 48 W13 (by first | omega | (simp only [List.length_append, List.length_cons, List.length_nil]; omega)) (by decide)) ?_
        intro σ14 τ14 W14
        show Rx X c0 m_Mod_writeNumber 145 [.ref (c0 + 16), .int (bi bel), .int fr, .int (nI W), .int (nI Ls), .int (nI f), kv] [] σ14 τ14 _
        refine Rx.go (fun _ => rfl) ?_
        refine Rx.go (fun _ => rfl) ?_
        show Rx X c0 m_Mod_writeNumber 149 [.ref (c0 + 16), .int (bi bel), .int fr, .int (nI W), .int (nI Ls), .int (nI f), .int (nI f)] [] σ14 τ14 _
        show Rx X c0 m_Mod_writeNumber 149 [.ref (c0 + 16), .int (bi bel), .int fr, .int (nI W), .int (nI Ls), .int (nI f), .int (nI f)] [] σ14 τ14 _
        refine (wn_Cd X c0 hn bel fr hL hWL hb (W - f) f _ _ _ W14 (by omega) (by first | omega | (simp only [List.length_append, List.length_cons, List.length_nil]; omega))).mono ?_
        rintro r σ' τ' ⟨rfl, h⟩
        refine ⟨rfl, ?_⟩
        have eq : wN bel true ds f W Ls = ((([] : List Nat) ++ [45]) ++ [48]) ++ (ds.drop f).take (W - f) ++ wD ds W Ls := by first | (exfalso; omega) | simp [wN, wS, wZ, c1, e1, e3]
        rw [eq]
        exact h
    · replace c3 : ¬ (nI f) < (nI W) := of_decide_eq_false c3
      have e1 : ¬ f < W := fun q => c3 ((nI_ltI (by omega) (by omega)).mpr q)
      show Rx X c0 m_Mod_writeNumber 121 [.ref (c0 + 16), .int (bi bel), .int fr, .int (nI W), .int (nI Ls), .int (nI f), kv] [] σ τ _
      refine Rx.go (fun _ => rfl) ?_
      refine Rx.go (fun _ => rfl) ?_
      refine Rx.go (fun _ => rfl) ?_
      refine Rx.ite (fun c5 => ?_) (fun c5 => ?_)
      · replace c5 : (nI Ls) ≤ (nI W) := of_decide_eq_true c5
        have e2 : ¬ W < Ls := by have := (nI_leI (by omega) (by omega)).mp c5; omega
        show Rx X c0 m_Mod_writeNumber 133 [.ref (c0 + 16), .int (bi bel), .int fr, .int (nI W), .int (nI Ls), .int (nI f), kv] [] σ τ _
        refine Rx.go (fun _ => rfl) ?_
        refine Rx.go (fun _ => rfl) ?_
        refine Rx.go (fun _ => rfl) ?_
        refine Rx.ite (fun c6 => ?_) (fun c6 => ?_)
        · replace c6 : ¬ (nI f) = (nI W) := of_decide_eq_true c6
          have e3 : ¬ f = W := fun q => c6 (by rw [q])
          show Rx X c0 m_Mod_writeNumber 145 [.ref (c0 + 16), .int (bi bel), .int fr, .int (nI W), .int (nI Ls), .int (nI f), kv] [] σ τ _
          refine Rx.go (fun _ => rfl) ?_
          refine Rx.go (fun _ => rfl) ?_
          show Rx X c0 m_Mod_writeNumber 149 [.ref (c0 + 16), .int (bi bel), .int fr, .int (nI W), .int (nI Ls), .int (nI f), .int (nI f)] [] σ τ _
          show Rx X c0 m_Mod_writeNumber 149 [.ref (c0 + 16), .int (bi bel), .int fr, .int (nI W), .int (nI Ls), .int (nI f), .int (nI f)] [] σ τ _
          refine (wn_Cd X c0 hn bel fr hL hWL hb (W - f) f _ _ _ hW (by omega) (by first | omega | (simp only [List.length_append, List.length_cons, List.length_nil]; omega))).mono ?_
          rintro r σ' τ' ⟨rfl, h⟩
          refine ⟨rfl, ?_⟩
          have eq : wN bel true ds f W Ls = ([] : List Nat) ++ (ds.drop f).take (W - f) ++ wD ds W Ls := by first | (exfalso; omega) | simp [wN, wS, wZ, c1, e1, e2, e3]
          rw [eq]
          exact h
        · replace c6 : (nI f) = (nI W) := Classical.not_not.mp (of_decide_eq_false c6)
          have e3 : f = W := (nI_eq (by omega) (by omega)).mp c6
          show Rx X c0 m_Mod_writeNumber 139 [.ref (c0 + 16), .int (bi bel), .int fr, .int (nI W), .int (nI Ls), .int (nI f), kv] [] σ τ _
          refine Rx.go (fun _ => rfl) ?_
          refine Rx.go (fun _ => rfl) ?_
          refine Rx.callP rfl rfl rfl rfl (ws_put 48 hW (by first | omega | (simp only [List.length_append, List.length_cons, List.length_nil]; omega)) (by decide)) ?_
          intro σ15 τ15 W15
          show Rx X c0 m_Mod_writeNumber 145 [.ref (c0 + 16), .int (bi bel), .int fr, .int (nI W), .int (nI Ls), .int (nI f), kv] [] σ15 τ15 _
          refine Rx.go (fun _ => rfl) ?_
          refine Rx.go (fun _ => rfl) ?_
          show Rx X c0 m_Mod_writeNumber 149 [.ref (c0 + 16), .int (bi bel), .int fr, .int (nI W), .int (nI Ls), .int (nI f), .int (nI f)] [] σ15 τ15 _
          show Rx X c0 m_Mod_writeNumber 149 [.ref (c0 + 16), .int (bi bel), .int fr, .int (nI W), .int (nI Ls), .int (nI f), .int (nI f)] [] σ15 τ15 _
          refine (wn_Cd X c0 hn bel fr hL hWL hb (W - f) f _ _ _ W15 (by omega) (by first | omega | (simp only [List.length_append, List.length_cons, List.length_nil]; omega))).mono ?_
          rintro r σ' τ' ⟨rfl, h⟩
          refine ⟨rfl, ?_⟩
          have eq : wN bel true ds f W Ls = (([] : List Nat) ++ [48]) ++ (ds.drop f).take (W - f) ++ wD ds W Ls := by first | (exfalso; omega) | simp [wN, wS, wZ, c1, e1, e2, e3]
          rw [eq]
          exact h
      · replace c5 : ¬ (nI Ls) ≤ (nI W) := of_decide_eq_false c5
        have e2 : W < Ls := Nat.lt_of_not_le (fun q => c5 ((nI_leI (by omega) (by omega)).mpr q))
        show Rx X c0 m_Mod_writeNumber 127 [.ref (c0 + 16), .int (bi bel), .int fr, .int (nI W), .int (nI Ls), .int (nI f), kv] [] σ τ _
        refine Rx.go (fun _ => rfl) ?_
        refine Rx.go (fun _ => rfl) ?_
        refine Rx.callP rfl rfl rfl rfl (ws_put 45 hW (by first | omega | (simp only [List.length_append, List.length_cons, List.length_nil]; omega)) (by decide)) ?_
        intro σ16 τ16 W16
        show Rx X c0 m_Mod_writeNumber 133 [.ref (c0 + 16), .int (bi bel), .int fr, .int (nI W), .int (nI Ls), .int (nI f), kv] [] σ16 τ16 _
        refine Rx.go (fun _ => rfl) ?_
        refine Rx.go (fun _ => rfl) ?_
        refine Rx.go (fun _ => rfl) ?_
        refine Rx.ite (fun c7 => ?_) (fun c7 => ?_)
        · replace c7 : ¬ (nI f) = (nI W) := of_decide_eq_true c7
          have e3 : ¬ f = W := fun q => c7 (by rw [q])
          show Rx X c0 m_Mod_writeNumber 145 [.ref (c0 + 16), .int (bi bel), .int fr, .int (nI W), .int (nI Ls), .int (nI f), kv] [] σ16 τ16 _
          refine Rx.go (fun _ => rfl) ?_
          refine Rx.go (fun _ => rfl) ?_
          show Rx X c0 m_Mod_writeNumber 149 [.ref (c0 + 16), .int (bi bel), .int fr, .int (nI W), .int (nI Ls), .int (nI f), .int (nI f)] [] σ16 τ16 _
          show Rx X c0 m_Mod_writeNumber 149 [.ref (c0 + 16), .int (bi bel), .int fr, .int (nI W), .int (nI Ls), .int (nI f), .int (nI f)] [] σ16 τ16 _
          refine (wn_Cd X c0 hn bel fr hL hWL hb (W - f) f _ _ _ W16 (by omega) (by first | omega | (simp only [List.length_append, List.length_cons, List.length_nil]; omega))).mono ?_
          rintro r σ' τ' ⟨rfl, h⟩
          refine ⟨rfl, ?_⟩
          have eq : wN bel true ds f W Ls = (([] : List Nat) ++ [45]) ++ (ds.drop f).take (W - f) ++ wD ds W Ls := by first | (exfalso; omega) | simp [wN, wS, wZ, c1, e1, e2, e3]
          rw [eq]
          exact h
        · replace c7 : (nI f) = (nI W) := Classical.not_not.mp (of_decide_eq_false c7)
          have e3 : f = W := (nI_eq (by omega) (by omega)).mp c7
          show Rx X c0 m_Mod_writeNumber 139 [.ref (c0 + 16), .int (bi bel), .int fr, .int (nI W), .int (nI Ls), .int (nI f), kv] [] σ16 τ16 _
          refine Rx.go (fun _ => rfl) ?_
          refine Rx.go (fun _ => rfl) ?_
          refine Rx.callP rfl rfl rfl rfl (ws_put 48 W16 (by first | omega | (simp only [List.length_append, List.length_cons, List.length_nil]; omega)) (by decide)) ?_
          intro σ17 τ17 W17
          show Rx X c0 m_Mod_writeNumber 145 [.ref (c0 + 16), .int (bi bel), .int fr, .int (nI W), .int (nI Ls), .int (nI f), kv] [] σ17 τ17 _
          refine Rx.go (fun _ => rfl) ?_
          refine Rx.go (fun _ => rfl) ?_
          show Rx X c0 m_Mod_writeNumber 149 [.ref (c0 + 16), .int (bi bel), .int fr, .int (nI W), .int (nI Ls), .int (nI f), .int (nI f)] [] σ17 τ17 _
          show Rx X c0 m_Mod_writeNumber 149 [.ref (c0 + 16), .int (bi bel), .int fr, .int (nI W), .int (nI Ls), .int (nI f), .int (nI f)] [] σ17 τ17 _
          refine (wn_Cd X c0 hn bel fr hL hWL hb (W - f) f _ _ _ W17 (by omega) (by first | omega | (simp only [List.length_append, List.length_cons, List.length_nil]; omega))).mono ?_
          rintro r σ' τ' ⟨rfl, h⟩
          refine ⟨rfl, ?_⟩
          have eq : wN bel true ds f W Ls = ((([] : List Nat) ++ [45]) ++ [48]) ++ (ds.drop f).take (W - f) ++ wD ds W Ls := by first | (exfalso; omega) | simp [wN, wS, wZ, c1, e1, e2, e3]
          rw [eq]
          exact h
def lead (ds : List Nat) (W f : Nat) : Prop := f ≤ W ∧ (∀ j, j < f → ds.getD j 0 = 48) ∧ (f = W ∨ ds.getD f 0 ≠ 48)
def trail (ds : List Nat) (W L : Nat) : Prop := W ≤ L ∧ L ≤ ds.length ∧ (∀ j, L ≤ j → j < ds.length → ds.getD j 0 = 48) ∧ (L = W ∨ ds.getD (L - 1) 0 ≠ 48)
theorem dg48 {τ0 : Nat → Nat → Int32} {ds : List Nat} (hn : nd τ0 ds) {k : Nat} (c : nI (ds.getD k 0) = 48) : ds.getD k 0 = 48 := (nI_eq (b := 48) (by have := hn.2.2 k; omega) (by decide)).mp c
theorem dg48n {ds : List Nat} {k : Nat} (c : ¬ nI (ds.getD k 0) = 48) : ds.getD k 0 ≠ 48 := fun q => c (by rw [q]; rfl)
set_option maxRecDepth 100000 in
set_option maxHeartbeats 1000000 in
theorem wn_Aw (X : ev_X) (c0 : Nat) {σ0 : Nat → Int32} {τ0 : Nat → Nat → Int32} {ds : List Nat} (hn : nd τ0 ds) (bel : Bool) (fr : Int32) {W Ls : Nat} (kv : Value) (hL : Ls ≤ ds.length) (hWL : W ≤ Ls) (hb : σ0 23 = -1) {σ : Nat → Int32} {τ : Nat → Nat → Int32} (hW : WS σ0 τ0 [] σ τ) : ∀ (m f : Nat) (hm : f + m = W) (hz : ∀ j, j < f → ds.getD j 0 = 48), Rx X c0 m_Mod_writeNumber 87 [.ref (c0 + 16), .int (bi bel), .int fr, .int (nI W), .int (nI Ls), .int (nI f), kv] [] σ τ (fun r σ' τ' => r = none ∧ ∃ g, lead ds W g ∧ WS σ0 τ0 (wN bel false ds g W Ls) σ' τ') := by
  intro m
  have hn18 := hn.1
  induction m with
  | zero =>
    intro f hm hz
    refine Rx.go (fun _ => rfl) ?_
    refine Rx.go (fun _ => rfl) ?_
    refine Rx.go (fun _ => rfl) ?_
    refine Rx.ite (fun c1 => ?_) (fun c1 => ?_)
    · replace c1 : (nI W) ≤ (nI f) := of_decide_eq_true c1
      show Rx X c0 m_Mod_writeNumber 111 [.ref (c0 + 16), .int (bi bel), .int fr, .int (nI W), .int (nI Ls), .int (nI f), kv] [] σ τ _
      show Rx X c0 m_Mod_writeNumber 111 [.ref (c0 + 16), .int (bi bel), .int fr, .int (nI W), .int (nI Ls), .int (nI f), kv] [] σ τ _
      refine (wn_Bw X c0 hn bel fr kv hL hWL (by omega) hb hW).mono ?_
      rintro r σ' τ' ⟨rfl, h⟩
      exact ⟨rfl, f, ⟨by omega, hz, Or.inl (by omega)⟩, h⟩
    · replace c1 : ¬ (nI W) ≤ (nI f) := of_decide_eq_false c1
      exact absurd (show nI W ≤ nI f by rw [show f = W by omega]; exact Int32.le_refl _) c1
  | succ m ih =>
    intro f hm hz
    refine Rx.go (fun _ => rfl) ?_
    refine Rx.go (fun _ => rfl) ?_
    refine Rx.go (fun _ => rfl) ?_
    refine Rx.ite (fun c1 => ?_) (fun c1 => ?_)
    · replace c1 : (nI W) ≤ (nI f) := of_decide_eq_true c1
      exact absurd ((nI_leI (by omega) (by omega)).mp c1) (by omega)
    · replace c1 : ¬ (nI W) ≤ (nI f) := of_decide_eq_false c1
      show Rx X c0 m_Mod_writeNumber 93 [.ref (c0 + 16), .int (bi bel), .int fr, .int (nI W), .int (nI Ls), .int (nI f), kv] [] σ τ _
      refine Rx.go (fun _ => rfl) ?_
      refine Rx.get rfl rfl ?_
      refine Rx.go (fun _ => rfl) ?_
      refine Rx.aldE (v := nI (ds.getD f 0)) 21 rfl rfl (nI_ix (show f < 40 by have := hn.1; omega) (by decide)) (ws_dg hn hW (by omega)) ?_
      refine Rx.go (fun _ => rfl) ?_
      refine Rx.go (fun _ => rfl) ?_
      refine Rx.ite (fun c2 => ?_) (fun c2 => ?_)
      · replace c2 : ¬ (nI (ds.getD f 0)) = 48 := of_decide_eq_true c2
        show Rx X c0 m_Mod_writeNumber 111 [.ref (c0 + 16), .int (bi bel), .int fr, .int (nI W), .int (nI Ls), .int (nI f), kv] [] σ τ _
        show Rx X c0 m_Mod_writeNumber 111 [.ref (c0 + 16), .int (bi bel), .int fr, .int (nI W), .int (nI Ls), .int (nI f), kv] [] σ τ _
        refine (wn_Bw X c0 hn bel fr kv hL hWL (by omega) hb hW).mono ?_
        rintro r σ' τ' ⟨rfl, h⟩
        exact ⟨rfl, f, ⟨by omega, hz, Or.inr (dg48n c2)⟩, h⟩
      · replace c2 : (nI (ds.getD f 0)) = 48 := Classical.not_not.mp (of_decide_eq_false c2)
        show Rx X c0 m_Mod_writeNumber 105 [.ref (c0 + 16), .int (bi bel), .int fr, .int (nI W), .int (nI Ls), .int (nI f), kv] [] σ τ _
        refine Rx.go (fun _ => rfl) ?_
        show Rx X c0 m_Mod_writeNumber 108 [.ref (c0 + 16), .int (bi bel), .int fr, .int (nI W), .int (nI Ls), .int ((nI f) + 1), kv] [] σ τ _
        refine Rx.go (fun _ => rfl) ?_
        show Rx X c0 m_Mod_writeNumber 87 [.ref (c0 + 16), .int (bi bel), .int fr, .int (nI W), .int (nI Ls), .int ((nI f) + 1), kv] [] σ τ _
        rw [show nI f + 1 = nI (f + 1) from nI_1 f]
        exact ih (f + 1) (by omega) (fun j hj => by
          by_cases q : j < f
          · exact hz j q
          · rw [show j = f by omega]; exact dg48 hn c2)
set_option maxRecDepth 100000 in
set_option maxHeartbeats 1000000 in
theorem wn_Ad (X : ev_X) (c0 : Nat) {σ0 : Nat → Int32} {τ0 : Nat → Nat → Int32} {ds : List Nat} (hn : nd τ0 ds) (bel : Bool) (fr : Int32) {W Ls : Nat} (kv : Value) (hL : Ls ≤ ds.length) (hWL : W ≤ Ls) (hb : σ0 23 = nI W) {σ : Nat → Int32} {τ : Nat → Nat → Int32} (hW : WS σ0 τ0 [] σ τ) : ∀ (m f : Nat) (hm : f + m = W) (hz : ∀ j, j < f → ds.getD j 0 = 48), Rx X c0 m_Mod_writeNumber 87 [.ref (c0 + 16), .int (bi bel), .int fr, .int (nI W), .int (nI Ls), .int (nI f), kv] [] σ τ (fun r σ' τ' => r = none ∧ ∃ g, lead ds W g ∧ WS σ0 τ0 (wN bel true ds g W Ls) σ' τ') := by
  intro m
  have hn18 := hn.1
  induction m with
  | zero =>
    intro f hm hz
    refine Rx.go (fun _ => rfl) ?_
    refine Rx.go (fun _ => rfl) ?_
    refine Rx.go (fun _ => rfl) ?_
    refine Rx.ite (fun c1 => ?_) (fun c1 => ?_)
    · replace c1 : (nI W) ≤ (nI f) := of_decide_eq_true c1
      show Rx X c0 m_Mod_writeNumber 111 [.ref (c0 + 16), .int (bi bel), .int fr, .int (nI W), .int (nI Ls), .int (nI f), kv] [] σ τ _
      show Rx X c0 m_Mod_writeNumber 111 [.ref (c0 + 16), .int (bi bel), .int fr, .int (nI W), .int (nI Ls), .int (nI f), kv] [] σ τ _
      refine (wn_Bd X c0 hn bel fr kv hL hWL (by omega) hb hW).mono ?_
      rintro r σ' τ' ⟨rfl, h⟩
      exact ⟨rfl, f, ⟨by omega, hz, Or.inl (by omega)⟩, h⟩
    · replace c1 : ¬ (nI W) ≤ (nI f) := of_decide_eq_false c1
      exact absurd (show nI W ≤ nI f by rw [show f = W by omega]; exact Int32.le_refl _) c1
  | succ m ih =>
    intro f hm hz
    refine Rx.go (fun _ => rfl) ?_
    refine Rx.go (fun _ => rfl) ?_
    refine Rx.go (fun _ => rfl) ?_
    refine Rx.ite (fun c1 => ?_) (fun c1 => ?_)
    · replace c1 : (nI W) ≤ (nI f) := of_decide_eq_true c1
      exact absurd ((nI_leI (by omega) (by omega)).mp c1) (by omega)
    · replace c1 : ¬ (nI W) ≤ (nI f) := of_decide_eq_false c1
      show Rx X c0 m_Mod_writeNumber 93 [.ref (c0 + 16), .int (bi bel), .int fr, .int (nI W), .int (nI Ls), .int (nI f), kv] [] σ τ _
      refine Rx.go (fun _ => rfl) ?_
      refine Rx.get rfl rfl ?_
      refine Rx.go (fun _ => rfl) ?_
      refine Rx.aldE (v := nI (ds.getD f 0)) 21 rfl rfl (nI_ix (show f < 40 by have := hn.1; omega) (by decide)) (ws_dg hn hW (by omega)) ?_
      refine Rx.go (fun _ => rfl) ?_
      refine Rx.go (fun _ => rfl) ?_
      refine Rx.ite (fun c2 => ?_) (fun c2 => ?_)
      · replace c2 : ¬ (nI (ds.getD f 0)) = 48 := of_decide_eq_true c2
        show Rx X c0 m_Mod_writeNumber 111 [.ref (c0 + 16), .int (bi bel), .int fr, .int (nI W), .int (nI Ls), .int (nI f), kv] [] σ τ _
        show Rx X c0 m_Mod_writeNumber 111 [.ref (c0 + 16), .int (bi bel), .int fr, .int (nI W), .int (nI Ls), .int (nI f), kv] [] σ τ _
        refine (wn_Bd X c0 hn bel fr kv hL hWL (by omega) hb hW).mono ?_
        rintro r σ' τ' ⟨rfl, h⟩
        exact ⟨rfl, f, ⟨by omega, hz, Or.inr (dg48n c2)⟩, h⟩
      · replace c2 : (nI (ds.getD f 0)) = 48 := Classical.not_not.mp (of_decide_eq_false c2)
        show Rx X c0 m_Mod_writeNumber 105 [.ref (c0 + 16), .int (bi bel), .int fr, .int (nI W), .int (nI Ls), .int (nI f), kv] [] σ τ _
        refine Rx.go (fun _ => rfl) ?_
        show Rx X c0 m_Mod_writeNumber 108 [.ref (c0 + 16), .int (bi bel), .int fr, .int (nI W), .int (nI Ls), .int ((nI f) + 1), kv] [] σ τ _
        refine Rx.go (fun _ => rfl) ?_
        show Rx X c0 m_Mod_writeNumber 87 [.ref (c0 + 16), .int (bi bel), .int fr, .int (nI W), .int (nI Ls), .int ((nI f) + 1), kv] [] σ τ _
        rw [show nI f + 1 = nI (f + 1) from nI_1 f]
        exact ih (f + 1) (by omega) (fun j hj => by
          by_cases q : j < f
          · exact hz j q
          · rw [show j = f by omega]; exact dg48 hn c2)
def rbg (σ : Nat → Int32) (b : Int32) : Nat → Int32 := upd (upd (upd (upd σ 11 b) 10 0) 12 0) 13 0
def wnP (bel dec : Bool) (fr : Int32) (ds : List Nat) (W : Nat) (σ0 : Nat → Int32) (τ0 : Nat → Nat → Int32) (σ' : Nat → Int32) (τ' : Nat → Nat → Int32) : Prop := ∃ L, trail ds W L ∧ ((L - W ≤ 9 ∧ ∃ g, lead ds W g ∧ WS σ0 τ0 (wN bel dec ds g W L) σ' τ') ∨ (9 < L - W ∧ σ' = rfail σ0 6 fr ∧ τ' = τ0))
theorem Rx.topL {X : ev_X} {c0 M pc : Nat} {A r : List Value} {σ : Nat → Int32} {τ : Nat → Nat → Int32} {Q : Option Value → (Nat → Int32) → (Nat → Nat → Int32) → Prop} {x y : Int64} (h : x = y) (k : Rx X c0 M pc A (.long y :: r) σ τ Q) : Rx X c0 M pc A (.long x :: r) σ τ Q := h ▸ k
theorem ws_0 {σ0 : Nat → Int32} {τ0 : Nat → Nat → Int32} (h : σ0 10 = 0) : WS σ0 τ0 [] σ0 τ0 := ⟨fun _ _ => rfl, fun _ _ => rfl, h, by decide, fun k hk => absurd hk (Nat.not_lt_zero k), fun k => by simp⟩
set_option maxRecDepth 100000 in
set_option maxHeartbeats 1000000 in
theorem wn_Tw (X : ev_X) (c0 : Nat) {σ0 : Nat → Int32} {τ0 : Nat → Nat → Int32} {ds : List Nat} (hn : nd τ0 ds) (bel : Bool) (fr : Int32) {W : Nat} (fv kv : Value) (hb : σ0 23 = -1) (hW : WS σ0 τ0 [] σ0 τ0) : ∀ (m : Nat) (hm : W + m ≤ ds.length) (hz : ∀ j, W + m ≤ j → j < ds.length → ds.getD j 0 = 48), Rx X c0 m_Mod_writeNumber 41 [.ref (c0 + 16), .int (bi bel), .int fr, .int (nI W), .int (nI (W + m)), fv, kv] [] σ0 τ0 (fun r σ' τ' => r = none ∧ wnP bel false fr ds W σ0 τ0 σ' τ') := by
  intro m
  have hn18 := hn.1
  induction m with
  | zero =>
    intro hm hz
    show Rx X c0 m_Mod_writeNumber 41 [.ref (c0 + 16), .int (bi bel), .int fr, .int (nI W), .int (nI W), fv, kv] [] σ0 τ0 _
    refine Rx.go (fun _ => rfl) ?_
    refine Rx.go (fun _ => rfl) ?_
    refine Rx.go (fun _ => rfl) ?_
    refine Rx.ite (fun c1 => ?_) (fun c1 => ?_)
    · replace c1 : (nI W) ≤ (nI W) := of_decide_eq_true c1
      show Rx X c0 m_Mod_writeNumber 67 [.ref (c0 + 16), .int (bi bel), .int fr, .int (nI W), .int (nI W), fv, kv] [] σ0 τ0 _
      refine Rx.go (fun _ => rfl) ?_
      refine Rx.go (fun _ => rfl) ?_
      refine Rx.go (fun _ => rfl) ?_
      refine Rx.top (y := nI (W - W)) (pk_sub (by omega)) ?_
      refine Rx.go (fun _ => rfl) ?_
      refine Rx.go (fun _ => rfl) ?_
      refine Rx.ite (fun c2 => ?_) (fun c2 => ?_)
      · replace c2 : (nI (W - W)) ≤ 9 := of_decide_eq_true c2
        have e9 : W - W ≤ 9 := (nI_leI (b := 9) (by omega) (by omega)).mp c2
        show Rx X c0 m_Mod_writeNumber 84 [.ref (c0 + 16), .int (bi bel), .int fr, .int (nI W), .int (nI W), fv, kv] [] σ0 τ0 _
        refine Rx.go (fun _ => rfl) ?_
        refine Rx.go (fun _ => rfl) ?_
        show Rx X c0 m_Mod_writeNumber 87 [.ref (c0 + 16), .int (bi bel), .int fr, .int (nI W), .int (nI W), .int 0, kv] [] σ0 τ0 _
        show Rx X c0 m_Mod_writeNumber 87 [.ref (c0 + 16), .int (bi bel), .int fr, .int (nI W), .int (nI W), .int 0, kv] [] σ0 τ0 _
        refine (wn_Aw X c0 hn bel fr _ (Ls := W) (by omega) (by omega) hb hW W 0 (by omega) (fun j hj => absurd hj (Nat.not_lt_zero j))).mono ?_
        rintro r σ' τ' ⟨rfl, g, hg, h⟩
        exact ⟨rfl, W, ⟨by omega, by omega, hz, Or.inl rfl⟩, Or.inl ⟨e9, g, hg, h⟩⟩
      · replace c2 : ¬ (nI (W - W)) ≤ 9 := of_decide_eq_false c2
        have e9 : 9 < W - W := Nat.lt_of_not_le (fun q => c2 ((nI_leI (b := 9) (by omega) (by omega)).mpr q))
        show Rx X c0 m_Mod_writeNumber 76 [.ref (c0 + 16), .int (bi bel), .int fr, .int (nI W), .int (nI W), fv, kv] [] σ0 τ0 _
        refine Rx.go (fun _ => rfl) ?_
        refine Rx.go (fun _ => rfl) ?_
        refine Rx.go (fun _ => rfl) ?_
        refine Rx.callE rfl rfl rfl rfl (rx_fail X c0 _ _ 6 fr) ?_
        show Rx X c0 m_Mod_writeNumber 83 [.ref (c0 + 16), .int (bi bel), .int fr, .int (nI W), .int (nI W), fv, kv] [] (rfail σ0 6 fr) τ0 _
        exact Rx.ret rfl rfl ⟨rfl, W, ⟨by omega, by omega, hz, Or.inl rfl⟩, Or.inr ⟨e9, rfl, rfl⟩⟩
    · replace c1 : ¬ (nI W) ≤ (nI W) := of_decide_eq_false c1
      exact absurd (Int32.le_refl _) c1
  | succ m ih =>
    intro hm hz
    refine Rx.go (fun _ => rfl) ?_
    refine Rx.go (fun _ => rfl) ?_
    refine Rx.go (fun _ => rfl) ?_
    refine Rx.ite (fun c1 => ?_) (fun c1 => ?_)
    · replace c1 : (nI (W + (m + 1))) ≤ (nI W) := of_decide_eq_true c1
      exact absurd ((nI_leI (by omega) (by omega)).mp c1) (by omega)
    · replace c1 : ¬ (nI (W + (m + 1))) ≤ (nI W) := of_decide_eq_false c1
      show Rx X c0 m_Mod_writeNumber 47 [.ref (c0 + 16), .int (bi bel), .int fr, .int (nI W), .int (nI (W + (m + 1))), fv, kv] [] σ0 τ0 _
      refine Rx.go (fun _ => rfl) ?_
      refine Rx.get rfl rfl ?_
      refine Rx.go (fun _ => rfl) ?_
      refine Rx.go (fun _ => rfl) ?_
      refine Rx.go (fun _ => rfl) ?_
      refine Rx.top (y := nI (W + m)) (nI_pred (W + m)) ?_
      refine Rx.aldE (v := nI (ds.getD (W + m) 0)) 21 rfl rfl (nI_ix (show W + m < 40 by omega) (by decide)) (nd_dg hn (by omega)) ?_
      refine Rx.go (fun _ => rfl) ?_
      refine Rx.go (fun _ => rfl) ?_
      refine Rx.ite (fun c2 => ?_) (fun c2 => ?_)
      · replace c2 : ¬ (nI (ds.getD (W + m) 0)) = 48 := of_decide_eq_true c2
        show Rx X c0 m_Mod_writeNumber 67 [.ref (c0 + 16), .int (bi bel), .int fr, .int (nI W), .int (nI (W + (m + 1))), fv, kv] [] σ0 τ0 _
        refine Rx.go (fun _ => rfl) ?_
        refine Rx.go (fun _ => rfl) ?_
        refine Rx.go (fun _ => rfl) ?_
        refine Rx.top (y := nI (W + (m + 1) - W)) (pk_sub (by omega)) ?_
        refine Rx.go (fun _ => rfl) ?_
        refine Rx.go (fun _ => rfl) ?_
        refine Rx.ite (fun c3 => ?_) (fun c3 => ?_)
        · replace c3 : (nI (W + (m + 1) - W)) ≤ 9 := of_decide_eq_true c3
          have e9 : W + (m + 1) - W ≤ 9 := (nI_leI (b := 9) (by omega) (by omega)).mp c3
          show Rx X c0 m_Mod_writeNumber 84 [.ref (c0 + 16), .int (bi bel), .int fr, .int (nI W), .int (nI (W + (m + 1))), fv, kv] [] σ0 τ0 _
          refine Rx.go (fun _ => rfl) ?_
          refine Rx.go (fun _ => rfl) ?_
          show Rx X c0 m_Mod_writeNumber 87 [.ref (c0 + 16), .int (bi bel), .int fr, .int (nI W), .int (nI (W + (m + 1))), .int 0, kv] [] σ0 τ0 _
          show Rx X c0 m_Mod_writeNumber 87 [.ref (c0 + 16), .int (bi bel), .int fr, .int (nI W), .int (nI (W + (m + 1))), .int 0, kv] [] σ0 τ0 _
          refine (wn_Aw X c0 hn bel fr _ (Ls := W + (m + 1)) (by omega) (by omega) hb hW W 0 (by omega) (fun j hj => absurd hj (Nat.not_lt_zero j))).mono ?_
          rintro r σ' τ' ⟨rfl, g, hg, h⟩
          exact ⟨rfl, W + (m + 1), ⟨by omega, by omega, hz, Or.inr (dg48n c2)⟩, Or.inl ⟨e9, g, hg, h⟩⟩
        · replace c3 : ¬ (nI (W + (m + 1) - W)) ≤ 9 := of_decide_eq_false c3
          have e9 : 9 < W + (m + 1) - W := Nat.lt_of_not_le (fun q => c3 ((nI_leI (b := 9) (by omega) (by omega)).mpr q))
          show Rx X c0 m_Mod_writeNumber 76 [.ref (c0 + 16), .int (bi bel), .int fr, .int (nI W), .int (nI (W + (m + 1))), fv, kv] [] σ0 τ0 _
          refine Rx.go (fun _ => rfl) ?_
          refine Rx.go (fun _ => rfl) ?_
          refine Rx.go (fun _ => rfl) ?_
          refine Rx.callE rfl rfl rfl rfl (rx_fail X c0 _ _ 6 fr) ?_
          show Rx X c0 m_Mod_writeNumber 83 [.ref (c0 + 16), .int (bi bel), .int fr, .int (nI W), .int (nI (W + (m + 1))), fv, kv] [] (rfail σ0 6 fr) τ0 _
          exact Rx.ret rfl rfl ⟨rfl, W + (m + 1), ⟨by omega, by omega, hz, Or.inr (dg48n c2)⟩, Or.inr ⟨e9, rfl, rfl⟩⟩
      · replace c2 : (nI (ds.getD (W + m) 0)) = 48 := Classical.not_not.mp (of_decide_eq_false c2)
        show Rx X c0 m_Mod_writeNumber 61 [.ref (c0 + 16), .int (bi bel), .int fr, .int (nI W), .int (nI (W + (m + 1))), fv, kv] [] σ0 τ0 _
        refine Rx.go (fun _ => rfl) ?_
        show Rx X c0 m_Mod_writeNumber 64 [.ref (c0 + 16), .int (bi bel), .int fr, .int (nI W), .int ((nI (W + (m + 1))) + (-1)), fv, kv] [] σ0 τ0 _
        refine Rx.go (fun _ => rfl) ?_
        show Rx X c0 m_Mod_writeNumber 41 [.ref (c0 + 16), .int (bi bel), .int fr, .int (nI W), .int ((nI (W + (m + 1))) + (-1)), fv, kv] [] σ0 τ0 _
        rw [show nI (W + (m + 1)) + (-1) = nI (W + m) from pk_m1 (W + m)]
        exact ih (by omega) (fun j h1 h2 => by
          by_cases q : j = W + m
          · rw [q]; exact dg48 hn c2
          · exact hz j (by omega) h2)
set_option maxRecDepth 100000 in
set_option maxHeartbeats 1000000 in
theorem wn_Td (X : ev_X) (c0 : Nat) {σ0 : Nat → Int32} {τ0 : Nat → Nat → Int32} {ds : List Nat} (hn : nd τ0 ds) (bel : Bool) (fr : Int32) {W : Nat} (fv kv : Value) (hb : σ0 23 = nI W) (hW : WS σ0 τ0 [] σ0 τ0) : ∀ (m : Nat) (hm : W + m ≤ ds.length) (hz : ∀ j, W + m ≤ j → j < ds.length → ds.getD j 0 = 48), Rx X c0 m_Mod_writeNumber 41 [.ref (c0 + 16), .int (bi bel), .int fr, .int (nI W), .int (nI (W + m)), fv, kv] [] σ0 τ0 (fun r σ' τ' => r = none ∧ wnP bel true fr ds W σ0 τ0 σ' τ') := by
  intro m
  have hn18 := hn.1
  induction m with
  | zero =>
    intro hm hz
    show Rx X c0 m_Mod_writeNumber 41 [.ref (c0 + 16), .int (bi bel), .int fr, .int (nI W), .int (nI W), fv, kv] [] σ0 τ0 _
    refine Rx.go (fun _ => rfl) ?_
    refine Rx.go (fun _ => rfl) ?_
    refine Rx.go (fun _ => rfl) ?_
    refine Rx.ite (fun c1 => ?_) (fun c1 => ?_)
    · replace c1 : (nI W) ≤ (nI W) := of_decide_eq_true c1
      show Rx X c0 m_Mod_writeNumber 67 [.ref (c0 + 16), .int (bi bel), .int fr, .int (nI W), .int (nI W), fv, kv] [] σ0 τ0 _
      refine Rx.go (fun _ => rfl) ?_
      refine Rx.go (fun _ => rfl) ?_
      refine Rx.go (fun _ => rfl) ?_
      refine Rx.top (y := nI (W - W)) (pk_sub (by omega)) ?_
      refine Rx.go (fun _ => rfl) ?_
      refine Rx.go (fun _ => rfl) ?_
      refine Rx.ite (fun c2 => ?_) (fun c2 => ?_)
      · replace c2 : (nI (W - W)) ≤ 9 := of_decide_eq_true c2
        have e9 : W - W ≤ 9 := (nI_leI (b := 9) (by omega) (by omega)).mp c2
        show Rx X c0 m_Mod_writeNumber 84 [.ref (c0 + 16), .int (bi bel), .int fr, .int (nI W), .int (nI W), fv, kv] [] σ0 τ0 _
        refine Rx.go (fun _ => rfl) ?_
        refine Rx.go (fun _ => rfl) ?_
        show Rx X c0 m_Mod_writeNumber 87 [.ref (c0 + 16), .int (bi bel), .int fr, .int (nI W), .int (nI W), .int 0, kv] [] σ0 τ0 _
        show Rx X c0 m_Mod_writeNumber 87 [.ref (c0 + 16), .int (bi bel), .int fr, .int (nI W), .int (nI W), .int 0, kv] [] σ0 τ0 _
        refine (wn_Ad X c0 hn bel fr _ (Ls := W) (by omega) (by omega) hb hW W 0 (by omega) (fun j hj => absurd hj (Nat.not_lt_zero j))).mono ?_
        rintro r σ' τ' ⟨rfl, g, hg, h⟩
        exact ⟨rfl, W, ⟨by omega, by omega, hz, Or.inl rfl⟩, Or.inl ⟨e9, g, hg, h⟩⟩
      · replace c2 : ¬ (nI (W - W)) ≤ 9 := of_decide_eq_false c2
        have e9 : 9 < W - W := Nat.lt_of_not_le (fun q => c2 ((nI_leI (b := 9) (by omega) (by omega)).mpr q))
        show Rx X c0 m_Mod_writeNumber 76 [.ref (c0 + 16), .int (bi bel), .int fr, .int (nI W), .int (nI W), fv, kv] [] σ0 τ0 _
        refine Rx.go (fun _ => rfl) ?_
        refine Rx.go (fun _ => rfl) ?_
        refine Rx.go (fun _ => rfl) ?_
        refine Rx.callE rfl rfl rfl rfl (rx_fail X c0 _ _ 6 fr) ?_
        show Rx X c0 m_Mod_writeNumber 83 [.ref (c0 + 16), .int (bi bel), .int fr, .int (nI W), .int (nI W), fv, kv] [] (rfail σ0 6 fr) τ0 _
        exact Rx.ret rfl rfl ⟨rfl, W, ⟨by omega, by omega, hz, Or.inl rfl⟩, Or.inr ⟨e9, rfl, rfl⟩⟩
    · replace c1 : ¬ (nI W) ≤ (nI W) := of_decide_eq_false c1
      exact absurd (Int32.le_refl _) c1
  | succ m ih =>
    intro hm hz
    refine Rx.go (fun _ => rfl) ?_
    refine Rx.go (fun _ => rfl) ?_
    refine Rx.go (fun _ => rfl) ?_
    refine Rx.ite (fun c1 => ?_) (fun c1 => ?_)
    · replace c1 : (nI (W + (m + 1))) ≤ (nI W) := of_decide_eq_true c1
      exact absurd ((nI_leI (by omega) (by omega)).mp c1) (by omega)
    · replace c1 : ¬ (nI (W + (m + 1))) ≤ (nI W) := of_decide_eq_false c1
      show Rx X c0 m_Mod_writeNumber 47 [.ref (c0 + 16), .int (bi bel), .int fr, .int (nI W), .int (nI (W + (m + 1))), fv, kv] [] σ0 τ0 _
      refine Rx.go (fun _ => rfl) ?_
      refine Rx.get rfl rfl ?_
      refine Rx.go (fun _ => rfl) ?_
      refine Rx.go (fun _ => rfl) ?_
      refine Rx.go (fun _ => rfl) ?_
      refine Rx.top (y := nI (W + m)) (nI_pred (W + m)) ?_
      refine Rx.aldE (v := nI (ds.getD (W + m) 0)) 21 rfl rfl (nI_ix (show W + m < 40 by omega) (by decide)) (nd_dg hn (by omega)) ?_
      refine Rx.go (fun _ => rfl) ?_
      refine Rx.go (fun _ => rfl) ?_
      refine Rx.ite (fun c2 => ?_) (fun c2 => ?_)
      · replace c2 : ¬ (nI (ds.getD (W + m) 0)) = 48 := of_decide_eq_true c2
        show Rx X c0 m_Mod_writeNumber 67 [.ref (c0 + 16), .int (bi bel), .int fr, .int (nI W), .int (nI (W + (m + 1))), fv, kv] [] σ0 τ0 _
        refine Rx.go (fun _ => rfl) ?_
        refine Rx.go (fun _ => rfl) ?_
        refine Rx.go (fun _ => rfl) ?_
        refine Rx.top (y := nI (W + (m + 1) - W)) (pk_sub (by omega)) ?_
        refine Rx.go (fun _ => rfl) ?_
        refine Rx.go (fun _ => rfl) ?_
        refine Rx.ite (fun c3 => ?_) (fun c3 => ?_)
        · replace c3 : (nI (W + (m + 1) - W)) ≤ 9 := of_decide_eq_true c3
          have e9 : W + (m + 1) - W ≤ 9 := (nI_leI (b := 9) (by omega) (by omega)).mp c3
          show Rx X c0 m_Mod_writeNumber 84 [.ref (c0 + 16), .int (bi bel), .int fr, .int (nI W), .int (nI (W + (m + 1))), fv, kv] [] σ0 τ0 _
          refine Rx.go (fun _ => rfl) ?_
          refine Rx.go (fun _ => rfl) ?_
          show Rx X c0 m_Mod_writeNumber 87 [.ref (c0 + 16), .int (bi bel), .int fr, .int (nI W), .int (nI (W + (m + 1))), .int 0, kv] [] σ0 τ0 _
          show Rx X c0 m_Mod_writeNumber 87 [.ref (c0 + 16), .int (bi bel), .int fr, .int (nI W), .int (nI (W + (m + 1))), .int 0, kv] [] σ0 τ0 _
          refine (wn_Ad X c0 hn bel fr _ (Ls := W + (m + 1)) (by omega) (by omega) hb hW W 0 (by omega) (fun j hj => absurd hj (Nat.not_lt_zero j))).mono ?_
          rintro r σ' τ' ⟨rfl, g, hg, h⟩
          exact ⟨rfl, W + (m + 1), ⟨by omega, by omega, hz, Or.inr (dg48n c2)⟩, Or.inl ⟨e9, g, hg, h⟩⟩
        · replace c3 : ¬ (nI (W + (m + 1) - W)) ≤ 9 := of_decide_eq_false c3
          have e9 : 9 < W + (m + 1) - W := Nat.lt_of_not_le (fun q => c3 ((nI_leI (b := 9) (by omega) (by omega)).mpr q))
          show Rx X c0 m_Mod_writeNumber 76 [.ref (c0 + 16), .int (bi bel), .int fr, .int (nI W), .int (nI (W + (m + 1))), fv, kv] [] σ0 τ0 _
          refine Rx.go (fun _ => rfl) ?_
          refine Rx.go (fun _ => rfl) ?_
          refine Rx.go (fun _ => rfl) ?_
          refine Rx.callE rfl rfl rfl rfl (rx_fail X c0 _ _ 6 fr) ?_
          show Rx X c0 m_Mod_writeNumber 83 [.ref (c0 + 16), .int (bi bel), .int fr, .int (nI W), .int (nI (W + (m + 1))), fv, kv] [] (rfail σ0 6 fr) τ0 _
          exact Rx.ret rfl rfl ⟨rfl, W + (m + 1), ⟨by omega, by omega, hz, Or.inr (dg48n c2)⟩, Or.inr ⟨e9, rfl, rfl⟩⟩
      · replace c2 : (nI (ds.getD (W + m) 0)) = 48 := Classical.not_not.mp (of_decide_eq_false c2)
        show Rx X c0 m_Mod_writeNumber 61 [.ref (c0 + 16), .int (bi bel), .int fr, .int (nI W), .int (nI (W + (m + 1))), fv, kv] [] σ0 τ0 _
        refine Rx.go (fun _ => rfl) ?_
        show Rx X c0 m_Mod_writeNumber 64 [.ref (c0 + 16), .int (bi bel), .int fr, .int (nI W), .int ((nI (W + (m + 1))) + (-1)), fv, kv] [] σ0 τ0 _
        refine Rx.go (fun _ => rfl) ?_
        show Rx X c0 m_Mod_writeNumber 41 [.ref (c0 + 16), .int (bi bel), .int fr, .int (nI W), .int ((nI (W + (m + 1))) + (-1)), fv, kv] [] σ0 τ0 _
        rw [show nI (W + (m + 1)) + (-1) = nI (W + m) from pk_m1 (W + m)]
        exact ih (by omega) (fun j h1 h2 => by
          by_cases q : j = W + m
          · rw [q]; exact dg48 hn c2
          · exact hz j (by omega) h2)
set_option maxRecDepth 100000 in
set_option maxHeartbeats 1000000 in
theorem rx_wn_w (X : ev_X) (c0 : Nat) {σ : Nat → Int32} {τ : Nat → Nat → Int32} {ds : List Nat} (hn : nd τ ds) (bel : Bool) (fr : Int32) (h22 : σ 22 = nI ds.length) (hb : σ 23 = -1) : Rx X c0 m_Mod_writeNumber 0 [.ref (c0 + 16), .int (bi bel), .int fr, ev_dead, ev_dead, ev_dead, ev_dead] [] σ τ (fun r σ' τ' => r = none ∧ wnP bel false fr ds ds.length (rbg σ 3) τ σ' τ') := by
  have hn18 := hn.1
  refine Rx.go (fun _ => rfl) ?_
  refine Rx.go (fun _ => rfl) ?_
  refine Rx.get rfl rfl ?_
  refine Rx.top (y := (-1)) hb ?_
  refine Rx.go (fun _ => rfl) ?_
  show Rx X c0 m_Mod_writeNumber 8 [.ref (c0 + 16), .int (bi bel), .int fr, ev_dead, ev_dead, ev_dead, ev_dead] [.ref (c0 + 16)] σ τ _
  refine Rx.go (fun _ => rfl) ?_
  refine Rx.go (fun _ => rfl) ?_
  refine Rx.callE rfl rfl rfl rfl (rx_begin X c0 _ _ 3) ?_
  show Rx X c0 m_Mod_writeNumber 16 [.ref (c0 + 16), .int (bi bel), .int fr, ev_dead, ev_dead, ev_dead, ev_dead] [] (rbg σ 3) τ _
  refine Rx.go (fun _ => rfl) ?_
  refine Rx.get rfl rfl ?_
  refine Rx.top (y := (-1)) hb ?_
  refine Rx.go (fun _ => rfl) ?_
  show Rx X c0 m_Mod_writeNumber 23 [.ref (c0 + 16), .int (bi bel), .int fr, ev_dead, ev_dead, ev_dead, ev_dead] [] (rbg σ 3) τ _
  refine Rx.go (fun _ => rfl) ?_
  refine Rx.get rfl rfl ?_
  refine Rx.top (y := nI ds.length) h22 ?_
  refine Rx.go (fun _ => rfl) ?_
  refine Rx.go (fun _ => rfl) ?_
  show Rx X c0 m_Mod_writeNumber 35 [.ref (c0 + 16), .int (bi bel), .int fr, .int (nI ds.length), ev_dead, ev_dead, ev_dead] [] (rbg σ 3) τ _
  refine Rx.go (fun _ => rfl) ?_
  refine Rx.get rfl rfl ?_
  refine Rx.top (y := nI ds.length) h22 ?_
  refine Rx.go (fun _ => rfl) ?_
  show Rx X c0 m_Mod_writeNumber 41 [.ref (c0 + 16), .int (bi bel), .int fr, .int (nI ds.length), .int (nI ds.length), ev_dead, ev_dead] [] (rbg σ 3) τ _
  show Rx X c0 m_Mod_writeNumber 41 [.ref (c0 + 16), .int (bi bel), .int fr, .int (nI ds.length), .int (nI ds.length), ev_dead, ev_dead] [] (rbg σ 3) τ _
  exact wn_Tw X c0 (σ0 := rbg σ 3) hn bel fr (W := ds.length) _ _ hb (ws_0 rfl) 0 (Nat.le_refl _) (fun j h1 h2 => absurd h2 (by omega))
set_option maxRecDepth 100000 in
set_option maxHeartbeats 1000000 in
theorem rx_wn_d (X : ev_X) (c0 : Nat) {σ : Nat → Int32} {τ : Nat → Nat → Int32} {ds : List Nat} (hn : nd τ ds) (bel : Bool) (fr : Int32) (h22 : σ 22 = nI ds.length) {W : Nat} (hWn : W ≤ ds.length) (hb : σ 23 = nI W) : Rx X c0 m_Mod_writeNumber 0 [.ref (c0 + 16), .int (bi bel), .int fr, ev_dead, ev_dead, ev_dead, ev_dead] [] σ τ (fun r σ' τ' => r = none ∧ wnP bel true fr ds W (rbg σ 4) τ σ' τ') := by
  have hn18 := hn.1
  refine Rx.go (fun _ => rfl) ?_
  refine Rx.go (fun _ => rfl) ?_
  refine Rx.get rfl rfl ?_
  refine Rx.top (y := nI W) hb ?_
  refine Rx.go (fun _ => rfl) ?_
  refine Rx.ite (fun c1 => ?_) (fun c1 => ?_)
  · replace c1 : 0 ≤ (nI W) := of_decide_eq_true c1
    show Rx X c0 m_Mod_writeNumber 12 [.ref (c0 + 16), .int (bi bel), .int fr, ev_dead, ev_dead, ev_dead, ev_dead] [.ref (c0 + 16)] σ τ _
    refine Rx.go (fun _ => rfl) ?_
    refine Rx.callE rfl rfl rfl rfl (rx_begin X c0 _ _ 4) ?_
    show Rx X c0 m_Mod_writeNumber 16 [.ref (c0 + 16), .int (bi bel), .int fr, ev_dead, ev_dead, ev_dead, ev_dead] [] (rbg σ 4) τ _
    refine Rx.go (fun _ => rfl) ?_
    refine Rx.get rfl rfl ?_
    refine Rx.top (y := nI W) hb ?_
    refine Rx.go (fun _ => rfl) ?_
    refine Rx.ite (fun c2 => ?_) (fun c2 => ?_)
    · replace c2 : 0 ≤ (nI W) := of_decide_eq_true c2
      show Rx X c0 m_Mod_writeNumber 30 [.ref (c0 + 16), .int (bi bel), .int fr, ev_dead, ev_dead, ev_dead, ev_dead] [] (rbg σ 4) τ _
      refine Rx.go (fun _ => rfl) ?_
      refine Rx.get rfl rfl ?_
      refine Rx.top (y := nI W) hb ?_
      refine Rx.go (fun _ => rfl) ?_
      show Rx X c0 m_Mod_writeNumber 35 [.ref (c0 + 16), .int (bi bel), .int fr, .int (nI W), ev_dead, ev_dead, ev_dead] [] (rbg σ 4) τ _
      refine Rx.go (fun _ => rfl) ?_
      refine Rx.get rfl rfl ?_
      refine Rx.top (y := nI ds.length) h22 ?_
      refine Rx.go (fun _ => rfl) ?_
      show Rx X c0 m_Mod_writeNumber 41 [.ref (c0 + 16), .int (bi bel), .int fr, .int (nI W), .int (nI ds.length), ev_dead, ev_dead] [] (rbg σ 4) τ _
      show Rx X c0 m_Mod_writeNumber 41 [.ref (c0 + 16), .int (bi bel), .int fr, .int (nI W), .int (nI ds.length), ev_dead, ev_dead] [] (rbg σ 4) τ _
      rw [show nI ds.length = nI (W + (ds.length - W)) by rw [Nat.add_sub_cancel' hWn]]
      exact wn_Td X c0 (σ0 := rbg σ 4) hn bel fr _ _ hb (ws_0 rfl) (ds.length - W) (by omega) (fun j h1 h2 => absurd h2 (by omega))
    · replace c2 : ¬ 0 ≤ (nI W) := of_decide_eq_false c2
      exact absurd c1 c2
  · replace c1 : ¬ 0 ≤ (nI W) := of_decide_eq_false c1
    exact absurd (nI_pos' (by omega)) c1
