/-! The reference's isWordAt. (rows laid by wip/whole/rr9.py) -/
theorem RS.f9 {σ0 σ : Nat → Int32} {τ0 τ : Nat → Nat → Int32} {t d : List Nat} {p k q db j : Nat} (h : RS σ0 τ0 t p d k q db σ τ) (hj : j < d.length) : τ 9 j = nI (d.getD j 0) := h.2.2.2.1.2 j hj
theorem wa_len {E b : List Nat} : nI (E ++ b ++ [62]).length - nI E.length = nI (b.length + 1) := by
  rw [pk_sub (by simp only [List.length_append, List.length_cons, List.length_nil]; omega)]
  congr 1
  simp only [List.length_append, List.length_cons, List.length_nil]
  omega
theorem ap_get {E b : List Nat} {i : Nat} (h : i < b.length) : (E ++ b ++ [62]).getD (E.length + i) 0 = b.getD i 0 := by
  rw [List.append_assoc, List.getD_eq_getElem?_getD, List.getElem?_append_right (by omega), Nat.add_sub_cancel_left, List.getElem?_append_left h, ← List.getD_eq_getElem?_getD]
set_option maxRecDepth 100000 in
set_option maxHeartbeats 2000000 in
theorem rr_wa_f {X : ev_X} {c0 : Nat} (hX : XS X c0) {σ0 : Nat → Int32} {τ0 : Nat → Nat → Int32} {t : List Nat} {k : Nat} (hk : k < 12) {E b : List Nat} {p kd q db : Nat} (hE : E.length + b.length ≤ 240) (hby : ∀ i, b.getD i 0 < 256) {σ : Nat → Int32} {τ : Nat → Nat → Int32} (hS : RS σ0 τ0 t p (E ++ b ++ [62]) kd q db σ τ) (hne : b ≠ wl k) (i : Nat) : Rx X c0 m_Mod_isWordAt 22 [.ref (c0 + 16), .int (nI E.length), .ref (X.2.1 k), .int 0, .int (nI i)] [] σ τ (fun r σ' τ' => r = some (.int (bi (decide (b = wl k)))) ∧ σ' = σ ∧ τ' = τ) := by
  refine Rx.go (fun _ => rfl) ?_
  refine Rx.go (fun _ => rfl) ?_
  refine Rx.strc hX hk rfl rfl rfl rfl (fun h hl => hs_length hX hl hk) ?_
  show Rx X c0 m_Mod_isWordAt 28 [.ref (c0 + 16), .int (nI E.length), .ref (X.2.1 k), .int 0, .int (nI i)] [.int (nI (wlen k)), .int (nI i)] σ τ _
  refine Rx.go (fun _ => rfl) ?_
  refine Rx.ite (fun c1 => ?_) (fun c1 => ?_)
  · replace c1 : (nI (wlen k)) ≤ (nI i) := of_decide_eq_true c1
    show Rx X c0 m_Mod_isWordAt 65 [.ref (c0 + 16), .int (nI E.length), .ref (X.2.1 k), .int 0, .int (nI i)] [] σ τ _
    refine Rx.go (fun _ => rfl) ?_
    show Rx X c0 m_Mod_isWordAt 66 [.ref (c0 + 16), .int (nI E.length), .ref (X.2.1 k), .int 0, .int (nI i)] [.int 0] σ τ _
    exact Rx.ret rfl rfl ⟨ret_0 (decide_eq_false hne), rfl, rfl⟩
  · replace c1 : ¬ (nI (wlen k)) ≤ (nI i) := of_decide_eq_false c1
    show Rx X c0 m_Mod_isWordAt 31 [.ref (c0 + 16), .int (nI E.length), .ref (X.2.1 k), .int 0, .int (nI i)] [] σ τ _
    refine Rx.go (fun _ => rfl) ?_
    refine Rx.go (fun _ => rfl) ?_
    show Rx X c0 m_Mod_isWordAt 65 [.ref (c0 + 16), .int (nI E.length), .ref (X.2.1 k), .int 0, .int (nI i)] [] σ τ _
    refine Rx.go (fun _ => rfl) ?_
    show Rx X c0 m_Mod_isWordAt 66 [.ref (c0 + 16), .int (nI E.length), .ref (X.2.1 k), .int 0, .int (nI i)] [.int 0] σ τ _
    exact Rx.ret rfl rfl ⟨ret_0 (decide_eq_false hne), rfl, rfl⟩
set_option maxRecDepth 100000 in
set_option maxHeartbeats 2000000 in
theorem rr_wa_l {X : ev_X} {c0 : Nat} (hX : XS X c0) {σ0 : Nat → Int32} {τ0 : Nat → Nat → Int32} {t : List Nat} {k : Nat} (hk : k < 12) {E b : List Nat} {p kd q db : Nat} (hE : E.length + b.length ≤ 240) (hby : ∀ i, b.getD i 0 < 256) {σ : Nat → Int32} {τ : Nat → Nat → Int32} (hS : RS σ0 τ0 t p (E ++ b ++ [62]) kd q db σ τ) (hlen : b.length = wlen k) : ∀ (m i : Nat) (hm : i + m = wlen k) (hp1 : ∀ x, x < i → hb b x = nI (wch k x)), Rx X c0 m_Mod_isWordAt 22 [.ref (c0 + 16), .int (nI E.length), .ref (X.2.1 k), .int 1, .int (nI i)] [] σ τ (fun r σ' τ' => r = some (.int (bi (decide (b = wl k)))) ∧ σ' = σ ∧ τ' = τ) := by
  have hw := wlen_all k hk
  intro m
  induction m with
  | zero =>
    intro i hm hp1
    refine Rx.go (fun _ => rfl) ?_
    refine Rx.go (fun _ => rfl) ?_
    refine Rx.strc hX hk rfl rfl rfl rfl (fun h hl => hs_length hX hl hk) ?_
    show Rx X c0 m_Mod_isWordAt 28 [.ref (c0 + 16), .int (nI E.length), .ref (X.2.1 k), .int 1, .int (nI i)] [.int (nI (wlen k)), .int (nI i)] σ τ _
    refine Rx.go (fun _ => rfl) ?_
    refine Rx.ite (fun c1 => ?_) (fun c1 => ?_)
    · replace c1 : (nI (wlen k)) ≤ (nI i) := of_decide_eq_true c1
      show Rx X c0 m_Mod_isWordAt 65 [.ref (c0 + 16), .int (nI E.length), .ref (X.2.1 k), .int 1, .int (nI i)] [] σ τ _
      refine Rx.go (fun _ => rfl) ?_
      show Rx X c0 m_Mod_isWordAt 66 [.ref (c0 + 16), .int (nI E.length), .ref (X.2.1 k), .int 1, .int (nI i)] [.int 1] σ τ _
      exact Rx.ret rfl rfl ⟨ret_1 (decide_eq_true (wl_t hk hby hlen (fun x hx => hp1 x (by omega)))), rfl, rfl⟩
    · replace c1 : ¬ (nI (wlen k)) ≤ (nI i) := of_decide_eq_false c1
      exact absurd (show nI (wlen k) ≤ nI i by rw [show i = wlen k by omega]; exact Int32.le_refl _) c1
  | succ m ih =>
    intro i hm hp1
    refine Rx.go (fun _ => rfl) ?_
    refine Rx.go (fun _ => rfl) ?_
    refine Rx.strc hX hk rfl rfl rfl rfl (fun h hl => hs_length hX hl hk) ?_
    show Rx X c0 m_Mod_isWordAt 28 [.ref (c0 + 16), .int (nI E.length), .ref (X.2.1 k), .int 1, .int (nI i)] [.int (nI (wlen k)), .int (nI i)] σ τ _
    refine Rx.go (fun _ => rfl) ?_
    refine Rx.ite (fun c1 => ?_) (fun c1 => ?_)
    · replace c1 : (nI (wlen k)) ≤ (nI i) := of_decide_eq_true c1
      exact absurd ((nI_leI (by omega) (by omega)).mp c1) (by omega)
    · replace c1 : ¬ (nI (wlen k)) ≤ (nI i) := of_decide_eq_false c1
      show Rx X c0 m_Mod_isWordAt 31 [.ref (c0 + 16), .int (nI E.length), .ref (X.2.1 k), .int 1, .int (nI i)] [] σ τ _
      refine Rx.go (fun _ => rfl) ?_
      refine Rx.go (fun _ => rfl) ?_
      show Rx X c0 m_Mod_isWordAt 35 [.ref (c0 + 16), .int (nI E.length), .ref (X.2.1 k), .int 1, .int (nI i)] [] σ τ _
      refine Rx.go (fun _ => rfl) ?_
      refine Rx.get rfl rfl ?_
      refine Rx.go (fun _ => rfl) ?_
      refine Rx.go (fun _ => rfl) ?_
      refine Rx.go (fun _ => rfl) ?_
      refine Rx.top (y := nI (E.length + i)) (nI_add _ _) ?_
      refine Rx.aldE (v := nI (b.getD i 0)) 9 rfl rfl (nI_ix (show E.length + i < 260 by omega) (by decide)) (by rw [nI_clamp (by omega), hS.f9 (by simp only [List.length_append, List.length_cons, List.length_nil]; omega), ap_get (by omega)]) ?_
      refine Rx.go (fun _ => rfl) ?_
      refine Rx.go (fun _ => rfl) ?_
      refine Rx.strc hX hk rfl rfl rfl rfl (fun h hl => hs_char hX hl hk (j := i) (by omega)) ?_
      show Rx X c0 m_Mod_isWordAt 50 [.ref (c0 + 16), .int (nI E.length), .ref (X.2.1 k), .int 1, .int (nI i)] [.int (nI (wch k i)), .int (nI (b.getD i 0))] σ τ _
      refine Rx.go (fun _ => rfl) ?_
      refine Rx.ite (fun c2 => ?_) (fun c2 => ?_)
      · replace c2 : ¬ (nI (b.getD i 0)) = (nI (wch k i)) := of_decide_eq_true c2
        show Rx X c0 m_Mod_isWordAt 57 [.ref (c0 + 16), .int (nI E.length), .ref (X.2.1 k), .int 1, .int (nI i)] [] σ τ _
        refine Rx.go (fun _ => rfl) ?_
        refine Rx.go (fun _ => rfl) ?_
        show Rx X c0 m_Mod_isWordAt 59 [.ref (c0 + 16), .int (nI E.length), .ref (X.2.1 k), .int 0, .int (nI i)] [] σ τ _
        refine Rx.go (fun _ => rfl) ?_
        show Rx X c0 m_Mod_isWordAt 62 [.ref (c0 + 16), .int (nI E.length), .ref (X.2.1 k), .int 0, .int ((nI i) + 1)] [] σ τ _
        refine Rx.go (fun _ => rfl) ?_
        show Rx X c0 m_Mod_isWordAt 22 [.ref (c0 + 16), .int (nI E.length), .ref (X.2.1 k), .int 0, .int ((nI i) + 1)] [] σ τ _
        rw [show nI i + 1 = nI (i + 1) from nI_1 i]
        exact rr_wa_f hX hk hE hby hS (fun e => c2 (by rw [← hb_lt (show i < b.length by omega)]; exact wl_f e (by omega))) (i + 1)
      · replace c2 : (nI (b.getD i 0)) = (nI (wch k i)) := Classical.not_not.mp (of_decide_eq_false c2)
        show Rx X c0 m_Mod_isWordAt 53 [.ref (c0 + 16), .int (nI E.length), .ref (X.2.1 k), .int 1, .int (nI i)] [] σ τ _
        refine Rx.go (fun _ => rfl) ?_
        refine Rx.go (fun _ => rfl) ?_
        refine Rx.go (fun _ => rfl) ?_
        show Rx X c0 m_Mod_isWordAt 59 [.ref (c0 + 16), .int (nI E.length), .ref (X.2.1 k), .int 1, .int (nI i)] [] σ τ _
        refine Rx.go (fun _ => rfl) ?_
        show Rx X c0 m_Mod_isWordAt 62 [.ref (c0 + 16), .int (nI E.length), .ref (X.2.1 k), .int 1, .int ((nI i) + 1)] [] σ τ _
        refine Rx.go (fun _ => rfl) ?_
        show Rx X c0 m_Mod_isWordAt 22 [.ref (c0 + 16), .int (nI E.length), .ref (X.2.1 k), .int 1, .int ((nI i) + 1)] [] σ τ _
        rw [show nI i + 1 = nI (i + 1) from nI_1 i]
        exact ih (i + 1) (by omega) (fun x hx => by
          by_cases hxi : x < i
          · exact hp1 x hxi
          · rw [show x = i by omega, hb_lt (by omega)]; exact c2)
set_option maxRecDepth 100000 in
set_option maxHeartbeats 2000000 in
theorem rr_wa {X : ev_X} {c0 : Nat} (hX : XS X c0) {σ0 : Nat → Int32} {τ0 : Nat → Nat → Int32} {t : List Nat} {k : Nat} (hk : k < 12) {E b : List Nat} {p kd q db : Nat} (hE : E.length + b.length ≤ 240) (hby : ∀ i, b.getD i 0 < 256) {σ : Nat → Int32} {τ : Nat → Nat → Int32} (hS : RS σ0 τ0 t p (E ++ b ++ [62]) kd q db σ τ) : Rx X c0 m_Mod_isWordAt 0 [.ref (c0 + 16), .int (nI E.length), .ref (X.2.1 k), ev_dead, ev_dead] [] σ τ (fun r σ' τ' => r = some (.int (bi (decide (b = wl k)))) ∧ σ' = σ ∧ τ' = τ) := by
  have hw := wlen_all k hk
  refine Rx.go (fun _ => rfl) ?_
  refine Rx.get rfl rfl ?_
  refine Rx.top (y := nI ((E ++ b ++ [62]).length)) hS.f10 ?_
  refine Rx.go (fun _ => rfl) ?_
  refine Rx.go (fun _ => rfl) ?_
  refine Rx.top (y := nI (b.length + 1)) wa_len ?_
  refine Rx.go (fun _ => rfl) ?_
  refine Rx.strc hX hk rfl rfl rfl rfl (fun h hl => hs_length hX hl hk) ?_
  show Rx X c0 m_Mod_isWordAt 10 [.ref (c0 + 16), .int (nI E.length), .ref (X.2.1 k), ev_dead, ev_dead] [.int (nI (wlen k)), .int (nI (b.length + 1))] σ τ _
  refine Rx.go (fun _ => rfl) ?_
  refine Rx.go (fun _ => rfl) ?_
  refine Rx.top (y := nI (wlen k + 1)) (nI_1 _) ?_
  refine Rx.go (fun _ => rfl) ?_
  refine Rx.ite (fun c1 => ?_) (fun c1 => ?_)
  · replace c1 : (nI (b.length + 1)) = (nI (wlen k + 1)) := of_decide_eq_true c1
    show Rx X c0 m_Mod_isWordAt 17 [.ref (c0 + 16), .int (nI E.length), .ref (X.2.1 k), ev_dead, ev_dead] [] σ τ _
    refine Rx.go (fun _ => rfl) ?_
    refine Rx.go (fun _ => rfl) ?_
    show Rx X c0 m_Mod_isWordAt 19 [.ref (c0 + 16), .int (nI E.length), .ref (X.2.1 k), .int 1, ev_dead] [] σ τ _
    refine Rx.go (fun _ => rfl) ?_
    refine Rx.go (fun _ => rfl) ?_
    show Rx X c0 m_Mod_isWordAt 22 [.ref (c0 + 16), .int (nI E.length), .ref (X.2.1 k), .int 1, .int 0] [] σ τ _
    show Rx X c0 m_Mod_isWordAt 22 [.ref (c0 + 16), .int (nI E.length), .ref (X.2.1 k), .int 1, .int 0] [] σ τ _
    exact rr_wa_l hX hk hE hby hS (by have := (nI_eq (by omega) (by omega)).mp c1; omega) (wlen k) 0 (by omega) (fun x hx => absurd hx (Nat.not_lt_zero x))
  · replace c1 : ¬ (nI (b.length + 1)) = (nI (wlen k + 1)) := of_decide_eq_false c1
    show Rx X c0 m_Mod_isWordAt 15 [.ref (c0 + 16), .int (nI E.length), .ref (X.2.1 k), ev_dead, ev_dead] [] σ τ _
    refine Rx.go (fun _ => rfl) ?_
    show Rx X c0 m_Mod_isWordAt 16 [.ref (c0 + 16), .int (nI E.length), .ref (X.2.1 k), ev_dead, ev_dead] [.int 0] σ τ _
    exact Rx.ret rfl rfl ⟨ret_0 (decide_eq_false (fun e => c1 (by rw [e, wl_len]))), rfl, rfl⟩
