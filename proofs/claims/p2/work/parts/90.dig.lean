/-! A number's digits, both ways: tdl and nbl against the list of digits. -/
theorem ofD_nil : ofD [] = 0 := rfl
theorem digs_l {a b : List Nat} (h : digs (a ++ b)) : digs a := fun x hx => h x (List.mem_append_left _ hx)
theorem digs_r {a b : List Nat} (h : digs (a ++ b)) : digs b := fun x hx => h x (List.mem_append_right _ hx)
theorem digs_a {a b : List Nat} (h : digs a) (h' : digs b) : digs (a ++ b) := fun x hx => (List.mem_append.mp hx).elim (h x) (h' x)
theorem snoc_ex {e : List Nat} (h : e ≠ []) : ∃ e' d, e = e' ++ [d] := ⟨e.dropLast, e.getLast h, (List.dropLast_concat_getLast h).symm⟩
theorem ofD_pos : ∀ (n : Nat) (e : List Nat), e.length = n → digs e → e ≠ [] → e.getD 0 0 ≠ 48 → 0 < ofD e := by
  intro n
  induction n with
  | zero => intro e hn _ hne; exact absurd (List.length_eq_zero_iff.mp hn) hne
  | succ n ih =>
    intro e hn hd hne h0
    obtain ⟨e', d, rfl⟩ := snoc_ex hne
    rw [ofD_s]
    have hdd := hd d (by simp)
    by_cases hz : e' = []
    · subst hz
      simp only [List.nil_append, List.getD_cons_zero] at h0
      omega
    · have hp : 0 < e'.length := List.length_pos_iff.mpr hz
      have := ih e' (by simpa using hn) (digs_l hd) hz (by rw [gd_app hp] at h0; exact h0)
      omega
theorem tdl_0 (m i ep : Nat) (h : ep ≤ i) : tdl m i 0 ep = [] := by
  cases m with
  | zero => rfl
  | succ m => rw [tdl, if_neg (by omega)]
theorem tdl_e : ∀ (m i : Nat) (e : List Nat) (ep : Nat), digs e → e.length ≤ m → ep ≤ i + e.length → (i + e.length ≤ ep ∨ e.getD 0 0 ≠ 48) → tdl m i (ofD e) ep = e.reverse := by
  intro m
  induction m with
  | zero =>
    intro i e ep hd hl h1 h2
    have : e = [] := List.length_eq_zero_iff.mp (by omega)
    subst this; rfl
  | succ m ih =>
    intro i e ep hd hl h1 h2
    by_cases hz : e = []
    · subst hz
      rw [ofD_nil, tdl_0 _ _ _ (by simpa using h1)]; rfl
    · have hc : 0 < ofD e ∨ i < ep := by
        by_cases hi : i < ep
        · exact Or.inr hi
        · refine Or.inl (ofD_pos _ e rfl hd hz ?_)
          have hp : 0 < e.length := List.length_pos_iff.mpr hz
          rcases h2 with h2 | h2
          · omega
          · exact h2
      obtain ⟨e', d, rfl⟩ := snoc_ex hz
      have hdd := hd d (by simp)
      rw [tdl, if_pos hc, ofD_s, List.reverse_append, List.reverse_cons, List.reverse_nil, List.nil_append, List.singleton_append]
      rw [show (ofD e' * 10 + (d - 48)) % 10 = d - 48 by omega, show (ofD e' * 10 + (d - 48)) / 10 = ofD e' by omega, show 48 + (d - 48) = d by omega]
      congr 1
      simp only [List.length_append, List.length_cons, List.length_nil] at hl h1 h2
      by_cases hz' : e' = []
      · subst hz'
        rw [ofD_nil, tdl_0 _ _ _ (by simpa using h1)]; rfl
      · have hp : 0 < e'.length := List.length_pos_iff.mpr hz'
        refine ih (i + 1) e' ep (digs_l hd) (by omega) (by omega) ?_
        rcases h2 with h2 | h2
        · exact Or.inl (by omega)
        · exact Or.inr (by rw [gd_app hp] at h2; exact h2)
theorem rev_get {e : List Nat} {k : Nat} (h : k < e.length) : e.reverse.getD k 0 = e.getD (e.length - 1 - k) 0 := by
  rw [List.getD_eq_getElem?_getD, List.getElem?_reverse h, ← List.getD_eq_getElem?_getD]
/-- below the dot: the last k digits -/
theorem nbl_lo {e : List Nat} {p : Nat} : ∀ k, k ≤ e.length → k < p ∨ p = 0 → nbl e.reverse p k = e.drop (e.length - k) := by
  intro k
  induction k with
  | zero => intro h1 h2; rw [nbl, Nat.sub_zero, List.drop_length]
  | succ k ih =>
    intro h1 h2
    rw [nbl, if_neg (by omega), List.nil_append, ih (by omega) (by omega), rev_get (by omega), drop_getD (k := e.length - (k + 1)) (by omega)]
    rw [show e.length - 1 - k = e.length - (k + 1) by omega, show e.length - (k + 1) + 1 = e.length - k by omega]; rfl
theorem nbl_p {e : List Nat} {p : Nat} (h0 : 0 < p) (hp : p ≤ e.length) : nbl e.reverse p p = [46] ++ e.drop (e.length - p) := by
  obtain ⟨k, rfl⟩ : ∃ k, p = k + 1 := ⟨p - 1, by omega⟩
  rw [nbl, if_pos rfl, nbl_lo k (by omega) (by omega), rev_get (by omega), drop_getD (k := e.length - (k + 1)) (by omega)]
  rw [show e.length - 1 - k = e.length - (k + 1) by omega, show e.length - (k + 1) + 1 = e.length - k by omega]; rfl
theorem nbl_hi {e : List Nat} {p : Nat} (h0 : 0 < p) : ∀ j, p + j ≤ e.length → nbl e.reverse p (p + j) = (e.drop (e.length - (p + j))).take j ++ ([46] ++ e.drop (e.length - p)) := by
  intro j
  induction j with
  | zero => intro h; rw [Nat.add_zero, nbl_p h0 h, List.take_zero]; rfl
  | succ j ih =>
    intro h
    rw [show p + (j + 1) = (p + j) + 1 by omega, nbl, if_neg (by omega), List.nil_append, ih (by omega), rev_get (by omega), drop_getD (k := e.length - (p + j + 1)) (by omega), List.take_succ_cons]
    rw [show e.length - 1 - (p + j) = e.length - (p + j + 1) by omega, show e.length - (p + j + 1) + 1 = e.length - (p + j) by omega]; rfl
/-- all of it -/
theorem nbl_all {e : List Nat} {p : Nat} (hp : p < e.length) : nbl e.reverse p e.length = e.take (e.length - p) ++ ((if p = 0 then [] else [46]) ++ e.drop (e.length - p)) := by
  by_cases h0 : p = 0
  · subst h0
    rw [nbl_lo e.length (Nat.le_refl _) (Or.inr rfl), Nat.sub_self, List.drop_zero, if_pos rfl, Nat.sub_zero, List.take_length, List.drop_length, List.append_nil, List.append_nil]
  · have h := nbl_hi (e := e) (p := p) (by omega) (e.length - p) (by omega)
    rw [show p + (e.length - p) = e.length by omega, Nat.sub_self, List.drop_zero] at h
    rw [h, if_neg h0]
