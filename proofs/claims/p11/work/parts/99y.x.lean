section
/-! value: what the reference answers is what the class answers. -/
theorem lN_dig {a b : Nat} (h1 : 48 ≤ b) (h2 : b ≤ 57) : 10 * lN a + (nI b).toInt64 - 48 = lN (a * 10 + (b - 48)) := by
  rw [nI_l (by omega), show (10 : Int64) = lN 10 from rfl, lN_mul, lN_add, show (48 : Int64) = lN 48 from rfl]
  have e : lN (10 * a + b) = lN (a * 10 + (b - 48)) + lN 48 := by rw [lN_add, show a * 10 + (b - 48) + 48 = 10 * a + b by omega]
  rw [e, Int64.add_sub_cancel]
theorem isD_n {d : Nat} (h1 : 48 ≤ d) (h2 : d ≤ 57) : isD (nI d) = true := by
  unfold isD
  have c1 : ¬ nI d < 48 := fun h => by have := (nI_ltI (a := d) (b := 48) (by omega) (by decide)).mp h; omega
  have c2 : ¬ 57 < nI d := fun h => by have := (nI_ltI (a := 57) (b := d) (by decide) (by omega)).mp h; omega
  simp [c1, c2]
theorem ng_ne {j : Nat} (h : j ≤ 2000) : ¬ -nI (j + 1) = 0 := by
  intro e
  have e2 : nI (j + 1) = nI 0 := by
    have := congrArg (fun x => -x) e
    rw [Int32.neg_neg] at this
    rw [this]; rfl
  have := (nI_eq (by omega) (by decide)).mp e2
  omega
theorem ng_s (j : Nat) : -nI j + -1 = -nI (j + 1) := by rw [← nI_1, Int32.neg_add, Int32.sub_eq_add_neg]
theorem vg_n (bh : Int32) : ∀ (e y : List Nat) (a j : Nat), digs e → j + e.length ≤ 1000 → vgo bh (e ++ y) (lN a) (-nI (j + 1)) = vgo bh y (lN (e.foldl (fun a d => a * 10 + (d - 48)) a)) (-nI (j + 1 + e.length)) := by
  intro e
  induction e with
  | nil => intro y a j _ _; rfl
  | cons d e ih =>
    intro y a j hd hj
    have h := hd d List.mem_cons_self
    rw [List.length_cons] at hj
    rw [List.cons_append, vgo, if_neg (ng_ne (by omega)), if_neg (by omega), if_pos (isD_n h.1 h.2), lN_dig h.1 h.2, ng_s, ih y _ (j + 1) (fun x hx => hd x (List.mem_cons_of_mem _ hx)) (by omega), List.foldl_cons, List.length_cons]
    rw [show j + 1 + 1 + e.length = j + 1 + (e.length + 1) by omega]
theorem ps_ne {j : Nat} (h : j ≤ 2000) : ¬ nI (j + 1) = 0 := by
  intro e
  have := (nI_eq (a := j + 1) (b := 0) (by omega) (by decide)).mp e
  omega
theorem ps_s (j : Nat) : nI (j + 1) + -1 = nI j := by rw [← nI_1, Int32.add_assoc]; exact Int32.add_zero _
theorem vg_p (bh : Int32) : ∀ (d : List Nat) (a : Nat), digs d → d.length ≤ 100 → vgo bh d (lN a) (nI d.length) = lN (d.foldl (fun a d => a * 10 + (d - 48)) a) := by
  intro d
  induction d with
  | nil => intro a _ _; rfl
  | cons x d ih =>
    intro a hd hl
    have h := hd x List.mem_cons_self
    rw [List.length_cons] at hl
    rw [List.length_cons, vgo, if_neg (ps_ne (by omega)), if_neg (by omega), if_pos (isD_n h.1 h.2), lN_dig h.1 h.2, ps_s, ih _ (fun y hy => hd y (List.mem_cons_of_mem _ hy)) (by omega), List.foldl_cons]
theorem vl_ok {s : Bool} {r : Nat} (hr : r < 10 ^ 18) {bh : Int32} {y : List Nat} (hy : y.getD 0 0 ≠ 45) (hg : vgo bh y (lN 0) (-nI (0 + 1)) = lN r) : vlu bh (sgW (sN s r) ++ y) = sN s r := by
  unfold vlu sgW
  by_cases c : 0 ≤ lg_cmp (sN s r) 0
  · rw [if_pos c, List.nil_append, if_neg hy, show vgo bh y 0 (-1) = lN r from hg]
    cases s
    · rfl
    · have := (sg_n hr).mp c
      subst this; rfl
  · rw [if_neg c]
    show (if (45 :: y).getD 0 0 = 45 then - vgo bh (45 :: y) 0 (-1) else vgo bh (45 :: y) 0 (-1)) = _
    rw [if_pos (show (45 :: y).getD 0 0 = 45 from rfl), vgo, if_neg (by decide), if_neg (by decide), if_neg (by decide), show vgo bh y 0 (-1) = lN r from hg]
    cases s
    · exact absurd (sg_p hr) c
    · rfl
theorem digs_0 {e : List Nat} (h : digs e) (y : List Nat) (hy : y.getD 0 0 ≠ 45) : (e ++ y).getD 0 0 ≠ 45 := by
  cases e with
  | nil => exact hy
  | cons a e =>
    have := h a List.mem_cons_self
    show a ≠ 45
    omega
theorem value_eq {c0 u pl : Nat} {t o : List Nat} {F : Nat → Option va_E} {T : List Tm} (hC : CC c0 t T u o pl F) (hc : cT T) {i : Nat} (hi : i < T.length) : (T.getD i tm0).2.1 = vlR (T.map en) i (T.getD i tm0).2.2.1 := by
  unfold vlR
  rw [m_knd hi, m_bys hi]
  have ox := hC.ok i hi
  rcases (hc i hi).1 with ⟨b, e, -⟩ | ⟨b, e, -⟩ | ⟨v, e⟩ | ⟨v, p, e, hc4⟩ | ⟨b, e⟩ | ⟨b, c, e, -⟩ | ⟨b, c, e, -⟩ | e | e <;> rw [e] at ox ⊢
  · rfl
  · rfl
  · obtain ⟨-, -, ov, op, -⟩ := ox
    obtain ⟨s, r, hr, e2, hm⟩ := okv ov
    dsimp only at e2 hm
    obtain ⟨d, h1, h2, h3, -⟩ := nu_3 (v := v) (b := []) (c := []) hr
    have hl : d.length ≤ 1000 := by
      have := congrArg List.length h1
      have h40 := nuW_len (x := (3, v, 0, [], [])) (r := r)
      rw [this, List.length_append] at h40
      omega
    show v = vlu (nI 0) (nuW (3, v, 0, [], []) (mag v))
    rw [hm, h1]
    subst e2
    refine (vl_ok hr ?_ ?_).symm
    · have := digs_0 h2 [] (by decide)
      rw [List.append_nil] at this; exact this
    · have := vg_n (nI 0) d [] 0 0 h2 (by omega)
      rw [List.append_nil] at this
      rw [this]
      show lN (ofD d) = lN r
      rw [h3]
  · obtain ⟨-, -, ov, op, -⟩ := ox
    obtain ⟨s, r, hr, e2, hm⟩ := okv ov
    dsimp only at e2 hm op
    obtain ⟨a, d, h1, h2, h3, h4, h5⟩ := nu_4 (v := v) (b := []) (c := []) hr op
    have hl : a.length ≤ 1000 := by
      have := congrArg List.length h1
      have h40 := nuW_len (x := (4, v, p, [], [])) (r := r)
      rw [this, List.length_append, List.length_append] at h40
      omega
    show v = vlu (nI p) (nuW (4, v, p, [], []) (mag v))
    rw [hm, h1]
    subst e2
    refine (vl_ok hr (digs_0 h2 _ (by show 46 ≠ 45; decide)) ?_).symm
    rw [vg_n (nI p) a (46 :: d) 0 0 h2 (by omega), vgo, if_neg (by rw [show 0 + 1 + a.length = a.length + 1 by omega]; exact ng_ne (by omega)), if_pos rfl]
    rcases h5 with ⟨rfl, e1, e2⟩ | ⟨e0, e1, e2⟩
    · rw [vg_0 (show nI 0 = 0 from rfl)]
      show lN (ofD a) = lN r
      rw [e2]
    · rw [← e1, vg_p (nI d.length) d _ h3 (by omega), ← e2]
      unfold ofD
      rw [List.foldl_append]
  · rfl
  · rfl
  · rfl
  · rfl
  · rfl
end
