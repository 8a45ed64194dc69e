/-! nuW is wN. -/
section NUW
variable {ds : List Nat} {g W L : Nat}
theorem eD_kp (hg : lead ds W g) (ht : trail ds W L) : (eD ds g W L).length - (L - W) = (wZ g W).length + (W - g) := by
  have h1 := hg.1
  have h2 := ht.1
  rw [eD_len hg ht, wZ_len]
  omega
theorem eD_take (hg : lead ds W g) (ht : trail ds W L) : (eD ds g W L).take ((eD ds g W L).length - (L - W)) = wZ g W ++ (ds.drop g).take (W - g) := by
  have h1 := hg.1
  have h2 := ht.1
  rw [eD_kp hg ht, eD, List.take_length_add_append, List.take_take, Nat.min_eq_left (by omega)]
theorem eD_drop (hg : lead ds W g) (ht : trail ds W L) : (eD ds g W L).drop ((eD ds g W L).length - (L - W)) = (ds.drop W).take (L - W) := by
  have h1 := hg.1
  have h2 := ht.1
  rw [eD_kp hg ht, eD, List.drop_length_add_append, List.drop_take, List.drop_drop, show g + (W - g) = W by omega, show L - g - (W - g) = L - W by omega]
theorem wl_7 : wl 7 = [46, 48] := by decide
theorem wN_nuW {bel dec : Bool} (hd : digs ds) (h18 : ds.length ≤ 18) (hW : W ≤ ds.length) (hg : lead ds W g) (ht : trail ds W L) (h9 : L - W ≤ 9) (hdec : dec = false → L = W) {x : Tm} (hx1 : x.1 = if dec = true then 4 else 3) (hx2 : x.2.1 = if bel = true then -lN (ofD (ds.take L)) else lN (ofD (ds.take L))) (hx3 : x.2.2.1 = L - W) : nuW x (ofD (ds.take L)) = wN bel dec ds g W L := by
  have h1 := hg.1
  have h2 := ht.1
  have h3 := ht.2.1
  have hl := eD_len hg ht
  have hr : ofD (ds.take L) < 10 ^ 18 := Nat.lt_of_lt_of_le (ofD_lt (fun x hx => hd x (List.mem_of_mem_take hx))) (pow18 (by rw [List.length_take]; omega))
  have hs : (if 0 ≤ lg_cmp x.2.1 0 then ([] : List Nat) else [45]) = wS bel g W L := by
    have hp := eD_pos hd hW hg ht
    rw [hx2]
    unfold wS
    cases bel
    · rw [if_neg Bool.false_ne_true, if_pos (sg_p hr), if_neg (by simp)]
    · rw [if_pos rfl]
      by_cases h : g < W ∨ W < L
      · rw [if_neg (fun h' => by have := (sg_n hr).mp h'; have := hp.mpr h; omega), if_pos (by simpa using h)]
      · rw [if_pos ((sg_n hr).mpr (by have := fun q => h (hp.mp q); omega)), if_neg (by simpa using h)]
  have hp : L - W < (eD ds g W L).length := by rw [hl]; split <;> omega
  unfold nuW wN
  rw [hs, hx3, eD_tdl hd h18 hW hg ht h9, List.length_reverse, nbl_all hp, eD_take hg ht, eD_drop hg ht, hx1]
  cases dec
  · have e := hdec rfl
    subst e
    rw [Nat.sub_self, if_pos rfl, List.take_zero, if_neg (by simp), if_neg Bool.false_ne_true]
    simp
  · rw [if_pos rfl, if_pos rfl]
    unfold wD
    by_cases e : L = W
    · subst e
      rw [Nat.sub_self, if_pos rfl, if_pos rfl, List.take_zero, if_pos ⟨rfl, rfl⟩, wl_7]
      simp
    · rw [if_neg (show ¬ L - W = 0 by omega), if_neg e, if_neg (fun h => by have := h.2; omega)]
      simp
end NUW
