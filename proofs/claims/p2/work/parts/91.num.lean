/-! What the two sides write of a number is the same. -/
theorem neg_lN {r : Nat} (hr : r < 10 ^ 18) : (-lN r).toInt = -(r : Int) := by
  rw [Int64.toInt_neg, lN_big (by omega), Int.bmod_eq_of_le] <;> omega
theorem sg_p {r : Nat} (hr : r < 10 ^ 18) : 0 ≤ lg_cmp (lN r) 0 := by
  rw [lgc_ge, Int64.le_iff_toInt_le, lN_big (by omega)]
  exact Int.natCast_nonneg r
theorem sg_n {r : Nat} (hr : r < 10 ^ 18) : 0 ≤ lg_cmp (-lN r) 0 ↔ r = 0 := by
  rw [lgc_ge, Int64.le_iff_toInt_le, neg_lN hr, Int64.toInt_zero]
  omega
theorem ofD_z : ∀ (z y : List Nat), (∀ x, x ∈ z → x = 48) → ofD (z ++ y) = ofD y := by
  intro z
  induction z with
  | nil => intro y _; rfl
  | cons a z ih =>
    intro y h
    have h1 := ih y (fun x hx => h x (List.mem_cons_of_mem _ hx))
    have h2 := h a List.mem_cons_self
    subst h2
    rw [← h1]; rfl
theorem ofD_e {e : List Nat} {d : Nat} (hd : 48 ≤ d) (h : d ≠ 48) : 0 < ofD (e ++ [d]) := by rw [ofD_s]; omega
/-- the digits that are written -/
def eD (ds : List Nat) (g W L : Nat) : List Nat := wZ g W ++ (ds.drop g).take (L - g)
theorem seg_digs {ds : List Nat} (hd : digs ds) (a b : Nat) : digs ((ds.drop a).take b) := fun x hx => hd x (List.mem_of_mem_drop (List.mem_of_mem_take hx))
section EDR
variable {ds : List Nat} {g W L : Nat}
theorem eD_digs (hd : digs ds) : digs (eD ds g W L) := by
  unfold eD wZ
  refine digs_a ?_ (seg_digs hd _ _)
  split
  · intro x hx; rw [List.mem_singleton] at hx; omega
  · intro x hx; exact absurd hx List.not_mem_nil
theorem wZ_len : (wZ g W).length = if g = W then 1 else 0 := by unfold wZ; split <;> rfl
theorem eD_len (hg : lead ds W g) (ht : trail ds W L) : (eD ds g W L).length = (if g = W then 1 else 0) + (L - g) := by
  unfold eD
  have h1 := hg.1
  have h2 := ht.1
  have h3 := ht.2.1
  rw [List.length_append, wZ_len, List.length_take, List.length_drop]
  omega
theorem eD_of (hg : lead ds W g) (ht : trail ds W L) : ofD (eD ds g W L) = ofD (ds.take L) := by
  have h1 := hg.1
  have h2 := ht.1
  have h3 := ht.2.1
  have e1 : ds.take L = ds.take g ++ (ds.drop g).take (L - g) := by
    rw [← List.take_append_drop g (ds.take L), List.take_take, Nat.min_eq_left (by omega), List.drop_take]
  rw [e1, eD, ofD_z, ofD_z]
  · intro x hx
    obtain ⟨j, hj⟩ := List.mem_iff_getElem?.mp hx
    have hjl : j < g := by
      have := (List.getElem?_eq_some_iff.mp hj).1
      rw [List.length_take] at this; omega
    rw [List.getElem?_take, if_pos hjl] at hj
    have := hg.2.1 j hjl
    rw [List.getD_eq_getElem?_getD, hj] at this
    exact this
  · intro x hx
    unfold wZ at hx
    split at hx
    · rwa [List.mem_singleton] at hx
    · exact absurd hx List.not_mem_nil
theorem eD_0 (hW : W ≤ ds.length) (hg : lead ds W g) (ht : trail ds W L) (h : g < W) : (eD ds g W L).getD 0 0 ≠ 48 := by
  have h2 := ht.1
  have h3 := ht.2.1
  unfold eD wZ
  rw [if_neg (by omega), List.nil_append, List.getD_eq_getElem?_getD, List.getElem?_take, if_pos (by omega), List.getElem?_drop, Nat.add_zero, ← List.getD_eq_getElem?_getD]
  exact hg.2.2.elim (fun e => absurd e (by omega)) id
theorem eD_tdl (hd : digs ds) (h18 : ds.length ≤ 18) (hW : W ≤ ds.length) (hg : lead ds W g) (ht : trail ds W L) (h9 : L - W ≤ 9) : tdl 18 0 (ofD (ds.take L)) (L - W + 1) = (eD ds g W L).reverse := by
  have h1 := hg.1
  have h2 := ht.1
  have h3 := ht.2.1
  have hl := eD_len hg ht
  rw [← eD_of hg ht]
  by_cases h : g = W
  · rw [if_pos h] at hl
    exact tdl_e 18 0 _ _ (eD_digs hd) (by omega) (by omega) (Or.inl (by omega))
  · rw [if_neg h] at hl
    exact tdl_e 18 0 _ _ (eD_digs hd) (by omega) (by omega) (Or.inr (eD_0 hW hg ht (by omega)))
theorem eD_pos (hd : digs ds) (hW : W ≤ ds.length) (hg : lead ds W g) (ht : trail ds W L) : 0 < ofD (ds.take L) ↔ (g < W ∨ W < L) := by
  have h1 := hg.1
  have h2 := ht.1
  have h3 := ht.2.1
  have hl := eD_len hg ht
  rw [← eD_of hg ht]
  constructor
  · intro h
    by_cases hc : g < W ∨ W < L
    · exact hc
    · have e1 : g = W := by omega
      have e2 : L = W := by omega
      subst e1
      subst e2
      rw [eD, Nat.sub_self, List.take_zero, List.append_nil, wZ, if_pos rfl] at h
      exact absurd h (by decide)
  · rintro (h | h)
    · refine ofD_pos _ _ rfl (eD_digs hd) (fun e => ?_) (eD_0 hW hg ht h)
      rw [e, List.length_nil, if_neg (by omega)] at hl
      omega
    · have hn : ds.getD (L - 1) 0 ≠ 48 := ht.2.2.2.elim (fun e => absurd e (by omega)) id
      have hm : 48 ≤ ds.getD (L - 1) 0 := by
        rw [List.getD_eq_getElem?_getD, List.getElem?_eq_getElem (show L - 1 < ds.length by omega)]
        exact (hd _ (List.getElem_mem _)).1
      have e : (ds.drop g).take (L - g) = (ds.drop g).take (L - 1 - g) ++ [ds.getD (L - 1) 0] := by
        rw [show L - g = (L - 1 - g) + 1 by omega, List.take_succ, List.getElem?_drop, show g + (L - 1 - g) = L - 1 by omega, List.getD_eq_getElem?_getD, List.getElem?_eq_getElem (show L - 1 < ds.length by omega)]; rfl
      rw [eD, e, ← List.append_assoc]
      exact ofD_e hm hn
end EDR
