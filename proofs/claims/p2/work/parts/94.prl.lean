/-! A truth or a number: what the class reads is what the reference reads. -/
def mag (v : Int64) : Nat := v.toInt.natAbs
theorem mag_s {s : Bool} {r : Nat} (hr : r < 10 ^ 18) : mag (sN s r) = r := by
  unfold mag
  cases s
  · show (lN r).toInt.natAbs = r
    rw [lN_big (by omega)]; exact Int.natAbs_natCast r
  · show (-lN r).toInt.natAbs = r
    rw [neg_lN hr]; omega
/-- what the reference keeps of x -/
def qu (x : Tm) : Nat := if x.1 = 5 ∨ x.1 = 6 ∨ x.1 = 7 then (x.2.2.2.1.flatMap esW).length + 1 else 0
def en (x : Tm) : Nat × List Nat × Nat := (x.1.toNatClampNeg, wrW x (mag x.2.1), qu x)
def nm (x : Int32 × Int64 × Nat) : Tm := (x.1, x.2.1, x.2.2, [], [])
/-- bytes that are written as they are -/
def n92 (l : List Nat) : Prop := ∀ x, x ∈ l → esW x = [x]
/-- a term as it is kept -/
def cn (x : Tm) : Prop := (∃ b, x = (1, 0, 0, b, []) ∧ n92 b) ∨ (∃ b, x = (2, 0, 0, b, []) ∧ n92 b) ∨ (∃ v, x = (3, v, 0, [], [])) ∨ (∃ v p, x = (4, v, p, [], []) ∧ (p = 0 ∨ v - v / 10 * 10 ≠ 0)) ∨ (∃ b, x = (5, 0, 0, b, [])) ∨ (∃ b c, x = (6, 0, 0, b, c) ∧ n92 c) ∨ (∃ b c, x = (7, 0, 0, b, c) ∧ n92 c) ∨ x = (8, 0, 0, [], []) ∨ x = (8, 1, 0, [], [])
theorem cn1 {b : List Nat} (h : n92 b) : cn (1, 0, 0, b, []) := Or.inl ⟨b, rfl, h⟩
theorem cn2 {b : List Nat} (h : n92 b) : cn (2, 0, 0, b, []) := Or.inr (Or.inl ⟨b, rfl, h⟩)
theorem cn3 {v : Int64} : cn (3, v, 0, [], []) := Or.inr (Or.inr (Or.inl ⟨v, rfl⟩))
theorem cn4 {v : Int64} {p : Nat} (h : p = 0 ∨ v - v / 10 * 10 ≠ 0) : cn (4, v, p, [], []) := Or.inr (Or.inr (Or.inr (Or.inl ⟨v, p, rfl, h⟩)))
theorem cn5 {b : List Nat} : cn (5, 0, 0, b, []) := Or.inr (Or.inr (Or.inr (Or.inr (Or.inl ⟨b, rfl⟩))))
theorem cn6 {b c : List Nat} (h : n92 c) : cn (6, 0, 0, b, c) := Or.inr (Or.inr (Or.inr (Or.inr (Or.inr (Or.inl ⟨b, c, rfl, h⟩)))))
theorem cn7 {b c : List Nat} (h : n92 c) : cn (7, 0, 0, b, c) := Or.inr (Or.inr (Or.inr (Or.inr (Or.inr (Or.inr (Or.inl ⟨b, c, rfl, h⟩))))))
theorem cn80 : cn (8, 0, 0, [], []) := Or.inr (Or.inr (Or.inr (Or.inr (Or.inr (Or.inr (Or.inr (Or.inl rfl)))))))
theorem cn81 : cn (8, 1, 0, [], []) := Or.inr (Or.inr (Or.inr (Or.inr (Or.inr (Or.inr (Or.inr (Or.inr rfl)))))))
theorem tl_1 {l : List Nat} {k : Nat} (hk : (k = 0 ∧ hb l 0 = 116) ∨ (k = 1 ∧ hb l 0 = 102)) : sTl l k (wlen k) 0 = sTl l k (wlen k - 1) 1 := by
  rcases hk with ⟨rfl, h⟩ | ⟨rfl, h⟩
  · exact if_pos h
  · exact if_pos h
theorem tr_O {l : List Nat} {k q : Nat} (tv : Int32) (hk : (k = 0 ∧ hb l 0 = 116) ∨ (k = 1 ∧ hb l 0 = 102)) (h : trO l k = (true, q, ())) : sTr l k tv = (true, q, 8, tv.toInt64, 0) := by
  unfold trO at h
  rw [tl_1 hk] at h
  unfold sTr
  split at h
  · cases h
  · next e =>
    rw [e]
    dsimp only
    split at h
    · cases h
    · next e2 =>
      rw [if_neg e2]
      injection h with _ h
      injection h with h _
      rw [h]
theorem tr_F {l : List Nat} {k w : Nat} (tv : Int32) (hk : (k = 0 ∧ hb l 0 = 116) ∨ (k = 1 ∧ hb l 0 = 102)) (h : trO l k = (false, w, ())) : sTr l k tv = (false, w, 0, 0, 0) := by
  unfold trO at h
  rw [tl_1 hk] at h
  unfold sTr
  split at h
  · next x e =>
    rw [e]
    injection h with _ h
    injection h with h _
    rw [h]
  · next e =>
    rw [e]
    dsimp only
    split at h
    · next e2 =>
      rw [if_pos e2]
      injection h with _ h
      injection h with h _
      rw [h]
    · cases h
theorem nuB_n {l : List Nat} (h : nuB l) : ¬ hb l 0 = 116 ∧ ¬ hb l 0 = 102 ∧ ¬ (!(decide (hb l 0 = 43) || decide (hb l 0 = 45)) && !isD (hb l 0) && !decide (hb l 0 = 46)) = true := by
  rcases h with h | h | h | h
  · rw [h]; decide
  · rw [h]; decide
  · rw [h]; decide
  · refine ⟨fun e => ?_, fun e => ?_, fun e => ?_⟩
    · rw [e] at h; exact absurd h (by decide)
    · rw [e] at h; exact absurd h (by decide)
    · rw [h] at e; simp at e
theorem sP_nu {l : List Nat} (h : nuB l) : sP l = if hb l 0 = 45 then ((sNu1 l (sgn0 l) 0).1, (sNu1 l (sgn0 l) 0).2.1, (sNu1 l (sgn0 l) 0).2.2.1, -(sNu1 l (sgn0 l) 0).2.2.2.1, (sNu1 l (sgn0 l) 0).2.2.2.2) else sNu1 l (sgn0 l) 0 := by
  obtain ⟨h1, h2, h3⟩ := nuB_n h
  unfold sP
  rw [if_neg h1, if_neg h2, if_neg h3]
theorem en_t : en (nm (8, (1 : Int32).toInt64, 0)) = (8, wl 0, 0) := by decide +kernel
theorem en_f : en (nm (8, (0 : Int32).toInt64, 0)) = (8, wl 1, 0) := by decide +kernel
theorem pr_O {l d : List Nat} {q kd : Nat} (hl : ∀ i, l.getD i 0 < 256) (h : prO l q d kd) : ∃ x : Int32 × Int64 × Nat, sP l = (true, q, x) ∧ en (nm x) = (kd, d, 0) ∧ cn (nm x) := by
  obtain ⟨k, hk, ht, -, rfl, rfl⟩ | ⟨hB, ds, bf, L, g, h1, ht, h18, h9, hg, rfl, rfl⟩ := h
  · rcases hk with ⟨rfl, h0⟩ | ⟨rfl, h0⟩
    · refine ⟨(8, (1 : Int32).toInt64, 0), ?_, en_t, cn81⟩
      unfold sP
      rw [if_pos h0]
      exact tr_O 1 (Or.inl ⟨rfl, h0⟩) ht
    · refine ⟨(8, (0 : Int32).toInt64, 0), ?_, en_f, cn80⟩
      unfold sP
      rw [if_neg (by rw [h0]; decide), if_pos h0]
      exact tr_O 0 (Or.inr ⟨rfl, h0⟩) ht
  · have hd := nr_d hl h1
    have hn := nu_O hl h1 h18 ht
    rw [if_neg (by omega)] at hn
    have hr : ofD (ds.take L) < 10 ^ 18 := Nat.lt_of_lt_of_le (ofD_lt (fun x hx => hd.1 x (List.mem_of_mem_take hx))) (pow18 (by rw [List.length_take]; omega))
    refine ⟨(if bf.isSome = true then 4 else 3, sN (decide (hb l 0 = 45)) (ofD (ds.take L)), L - bW ds bf), ?_, ?_, ?_⟩
    · rw [sP_nu hB, hn]
      by_cases h45 : hb l 0 = 45
      · rw [if_pos h45]; simp [sN, h45]
      · rw [if_neg h45]; simp [sN, h45]
    · have hw := wN_nuW (bel := decide (hb l 0 = 45)) (dec := bf.isSome) hd.1 h18 hd.2 hg ht h9 (fun e => by cases bf with | none => (have := ht.1; have := ht.2.1; simp only [bW] at *; omega) | some w => cases e) (x := nm (if bf.isSome = true then 4 else 3, sN (decide (hb l 0 = 45)) (ofD (ds.take L)), L - bW ds bf)) rfl rfl rfl
      rw [← hw]
      unfold en
      rw [show (nm (if bf.isSome = true then 4 else 3, sN (decide (hb l 0 = 45)) (ofD (ds.take L)), L - bW ds bf)).2.1 = sN (decide (hb l 0 = 45)) (ofD (ds.take L)) from rfl, mag_s hr]
      cases bf with
      | none => rfl
      | some w => rfl
    · cases bf with
      | none =>
        have e : L - bW ds none = 0 := by have := ht.1; have := ht.2.1; simp only [bW] at *; omega
        rw [e]
        exact cn3
      | some w =>
        refine cn4 ?_
        rcases ht.2.2.2 with e | e
        · exact Or.inl (show L - bW ds (some w) = 0 by omega)
        · by_cases e0 : L = bW ds (some w)
          · exact Or.inl (show L - bW ds (some w) = 0 by omega)
          · refine Or.inr (fun h0 => e ?_)
            have h1 := ht.1
            have h2 := ht.2.1
            have h3 := (sN_rem hr).mp h0
            have hL : ds.take L = ds.take (L - 1) ++ [ds.getD (L - 1) 0] := by
              rw [List.getD_eq_getElem?_getD, List.getElem?_eq_getElem (show L - 1 < ds.length by omega), Option.getD_some, List.take_append_getElem (by omega), show L - 1 + 1 = L by omega]
            have h4 := hd.1 (ds.getD (L - 1) 0) (by rw [List.getD_eq_getElem?_getD, List.getElem?_eq_getElem (show L - 1 < ds.length by omega)]; exact List.getElem_mem _)
            rw [hL, ofD_s] at h3
            omega
theorem pr_F {l : List Nat} {w : Nat} (hl : ∀ i, l.getD i 0 < 256) (h : prF l w) : (sP l).1 = false ∧ (sP l).2.1 = w := by
  obtain ⟨k, hk, ht⟩ | ⟨hB, h⟩ | ⟨rfl, h1, h2, h3⟩ := h
  · rcases hk with ⟨rfl, h0⟩ | ⟨rfl, h0⟩
    · unfold sP
      rw [if_pos h0, tr_F 1 (Or.inl ⟨rfl, h0⟩) ht]
      exact ⟨rfl, rfl⟩
    · unfold sP
      rw [if_neg (by rw [h0]; decide), if_pos h0, tr_F 0 (Or.inr ⟨rfl, h0⟩) ht]
      exact ⟨rfl, rfl⟩
  · have hn : (sNu1 l (sgn0 l) 0).1 = false ∧ (sNu1 l (sgn0 l) 0).2.1 = w := by
      rcases h with h | ⟨rfl, q, ds, bf, L, h1, ht, h18, h9⟩
      · exact nu_F hl h
      · rw [nu_O hl h1 h18 ht, if_pos h9]; exact ⟨rfl, rfl⟩
    rw [sP_nu hB]
    split
    · exact hn
    · exact hn
  · unfold sP
    rw [if_neg h1, if_neg h2, if_pos]
    · exact ⟨rfl, rfl⟩
    · unfold nuB at h3
      simp only [not_or] at h3
      obtain ⟨a, b, c, d⟩ := h3
      simp [a, b, c, d]
/-! Bytes of a truth or a number: none of them is written with a backslash. -/
theorem tl_n (l : List Nat) (k : Nat) : ∀ (m j : Nat), sTl l k m j = none → ∀ i, j ≤ i → i < j + m → hb l i = nI (wch k i) := by
  intro m
  induction m with
  | zero => intro j _ i h1 h2; omega
  | succ m ih =>
    intro j h i h1 h2
    rw [sTl] at h
    split at h
    · next e =>
      by_cases hi : i = j
      · rw [hi]; exact e
      · exact ih (j + 1) h i (by omega) (by omega)
    · cases h
theorem rD_all (l : List Nat) : ∀ (m q : Nat) (ds : List Nat) (i : Nat), q ≤ i → i < (rD l m q ds).2.1 → isD (hb l i) = true := by
  intro m
  induction m with
  | zero => intro q ds i h1 h2; rw [rD] at h2; exact absurd h2 (by dsimp only; omega)
  | succ m ih =>
    intro q ds i h1 h2
    rw [rD] at h2
    split at h2
    · next e =>
      by_cases hi : i = q
      · rw [hi]; exact e
      · split at h2
        · exact absurd h2 (by dsimp only; omega)
        · exact ih (q + 1) _ i (by omega) h2
    · exact absurd h2 (by dsimp only; omega)
theorem sNu1_cl {l : List Nat} (hl : ∀ i, l.getD i 0 < 256) (h : (sNu1 l (sgn0 l) 0).1 = true) : ∀ i, sgn0 l ≤ i → i < (sNu1 l (sgn0 l) 0).2.1 → hb l i = 46 ∨ isD (hb l i) = true := by
  have e1 := sD_0 hl
  have ha : ∀ i, sgn0 l ≤ i → i < (rDs l).2.1 → isD (hb l i) = true := fun i => rD_all l (l.length - sgn0 l) (sgn0 l) [] i
  intro i hi1 hi2
  unfold sNu1 at h hi2
  dsimp only at h hi2
  rw [e1] at h hi2
  generalize hR : rDs l = o at h hi2 ha
  obtain ⟨b, q1, ds1⟩ := o
  dsimp only at h hi2 ha
  cases b
  · rw [if_pos rfl] at h; cases h
  · rw [if_neg (by decide)] at h hi2
    by_cases c46 : hb l q1 = 46
    · rw [if_pos c46] at h hi2
      unfold sNu2 at h hi2
      dsimp only at h hi2
      rw [sD_1 hl hR] at h hi2
      have hb2 := rD_all l (l.length - (q1 + 1)) (q1 + 1) ds1 i
      generalize rD l (l.length - (q1 + 1)) (q1 + 1) ds1 = o2 at h hi2 hb2
      obtain ⟨b2, q2, ds2⟩ := o2
      dsimp only at h hi2 hb2
      cases b2
      · rw [if_pos rfl] at h; cases h
      · rw [if_neg (by decide)] at h hi2
        by_cases cq : q2 = q1 + 1
        · rw [if_pos cq] at h; cases h
        · rw [if_neg cq] at h hi2
          by_cases c9 : 9 < (lz (q2 - q1 - 1) (lN (ofD ds2))).2
          · rw [if_pos c9] at h; cases h
          · rw [if_neg c9] at hi2
            dsimp only at hi2
            by_cases c : i < q1
            · exact Or.inr (ha i hi1 c)
            · by_cases c2 : i = q1
              · rw [c2]; exact Or.inl c46
              · exact Or.inr (hb2 (by omega) hi2)
    · rw [if_neg c46] at h hi2
      by_cases cq : q1 = sgn0 l
      · rw [if_pos cq] at h; cases h
      · rw [if_neg cq] at hi2
        exact Or.inr (ha i hi1 hi2)
def pln (b : Int32) : Bool := !decide (b = 92) && !decide (b = 9) && !decide (b = 10) && !decide (b = 13) && !decide (b = 34)
theorem isD_pln {b : Int32} (h : isD b = true) : pln b = true := by
  have h1 : b ≠ 92 := fun e => by rw [e] at h; exact absurd h (by decide)
  have h2 : b ≠ 9 := fun e => by rw [e] at h; exact absurd h (by decide)
  have h3 : b ≠ 10 := fun e => by rw [e] at h; exact absurd h (by decide)
  have h4 : b ≠ 13 := fun e => by rw [e] at h; exact absurd h (by decide)
  have h5 : b ≠ 34 := fun e => by rw [e] at h; exact absurd h (by decide)
  simp [pln, h1, h2, h3, h4, h5]
theorem pln_esW {b : Nat} (h : pln (nI b) = true) : esW b = [b] := by
  unfold esW
  repeat' split
  all_goals first | rfl | (next e => rw [e] at h; exact absurd h (by decide))
theorem wl_pln : ∀ k, k < 2 → ∀ i, i < wlen k → pln (nI (wch k i)) = true := by decide +kernel
theorem sTr_cl {l : List Nat} {k : Nat} {tv : Int32} (hk : (k = 0 ∧ hb l 0 = 116) ∨ (k = 1 ∧ hb l 0 = 102)) (h : (sTr l k tv).1 = true) : ∀ i, i < (sTr l k tv).2.1 → pln (hb l i) = true := by
  have e := tl_1 hk
  unfold sTr at h ⊢
  split at h
  · cases h
  · next hn =>
    split at h
    · cases h
    · next e2 =>
      rw [if_neg e2]
      intro i hi
      rw [hn] at e
      have := tl_n l k (wlen k) 0 e i (by omega) (by simpa using hi)
      rw [this]
      exact wl_pln k (by omega) i hi
theorem sP_cl {l : List Nat} (hl : ∀ i, l.getD i 0 < 256) (h : (sP l).1 = true) : ∀ i, i < (sP l).2.1 → pln (hb l i) = true := by
  by_cases c1 : hb l 0 = 116
  · unfold sP at h ⊢
    rw [if_pos c1] at h ⊢
    exact sTr_cl (Or.inl ⟨rfl, c1⟩) h
  by_cases c2 : hb l 0 = 102
  · unfold sP at h ⊢
    rw [if_neg c1, if_pos c2] at h ⊢
    exact sTr_cl (Or.inr ⟨rfl, c2⟩) h
  by_cases hB : nuB l
  · rw [sP_nu hB] at h ⊢
    have h1 : (sNu1 l (sgn0 l) 0).1 = true := by split at h <;> exact h
    have h2 : (if hb l 0 = 45 then ((sNu1 l (sgn0 l) 0).1, (sNu1 l (sgn0 l) 0).2.1, (sNu1 l (sgn0 l) 0).2.2.1, -(sNu1 l (sgn0 l) 0).2.2.2.1, (sNu1 l (sgn0 l) 0).2.2.2.2) else sNu1 l (sgn0 l) 0).2.1 = (sNu1 l (sgn0 l) 0).2.1 := by split <;> rfl
    rw [h2]
    intro i hi
    by_cases hs : sgn0 l ≤ i
    · rcases sNu1_cl hl h1 i hs hi with e | e
      · rw [e]; decide
      · exact isD_pln e
    · have h0 : i = 0 ∧ (decide (hb l 0 = 43) || decide (hb l 0 = 45)) = true := by
        unfold sgn0 at hs
        split at hs
        · next e => exact ⟨by omega, e⟩
        · omega
      rw [h0.1]
      have h3 := h0.2
      rw [Bool.or_eq_true, decide_eq_true_eq, decide_eq_true_eq] at h3
      rcases h3 with e | e
      · rw [e]; decide
      · rw [e]; decide
  · unfold sP at h
    unfold nuB at hB
    simp only [not_or] at hB
    obtain ⟨a, b, c, d⟩ := hB
    rw [if_neg c1, if_neg c2, if_pos (by simp [a, b, c, d])] at h
    cases h
theorem esW_92 {b : Nat} (h : esW b ≠ [b]) : 92 ∈ esW b := by
  unfold esW at h ⊢
  repeat' split
  all_goals first | decide | (exfalso; apply h; simp [*])
theorem fm_id : ∀ (acc : List Nat), (∀ b, b ∈ acc → esW b = [b]) → acc.flatMap esW = acc := by
  intro acc
  induction acc with
  | nil => intro _; rfl
  | cons a acc ih =>
    intro h
    rw [List.flatMap_cons, h a List.mem_cons_self, ih (fun b hb => h b (List.mem_cons_of_mem _ hb))]; rfl
theorem hb_mem {l : List Nat} {b : Nat} (h : b ∈ l) : ∃ i, i < l.length ∧ hb l i = nI b := by
  obtain ⟨i, hi, e⟩ := List.mem_iff_getElem.mp h
  refine ⟨i, hi, ?_⟩
  rw [hb_lt hi, List.getD_eq_getElem?_getD, List.getElem?_eq_getElem hi, e]; rfl
theorem fm_raw {acc : List Nat} (h : ∀ i, i < (acc.flatMap esW).length → pln (hb (acc.flatMap esW) i) = true) : acc.flatMap esW = acc := by
  refine fm_id acc (fun b hb => ?_)
  by_cases e : esW b = [b]
  · exact e
  · obtain ⟨i, hi, h92⟩ := hb_mem (List.mem_flatMap.mpr ⟨b, hb, esW_92 e⟩)
    have := h i hi
    rw [h92] at this
    exact absurd this (by decide)
theorem fm_acc {acc : List Nat} (h : ∀ i, i < acc.length → pln (hb acc i) = true) : acc.flatMap esW = acc := by
  refine fm_id acc (fun b hb => ?_)
  obtain ⟨i, hi, e⟩ := hb_mem hb
  have := h i hi
  rw [e] at this
  exact pln_esW this
/-- inside a type: taken -/
theorem in_O {acc d : List Nat} {kd : Nat} (ha : ∀ i, acc.getD i 0 < 256) (h : prO (acc.flatMap esW) (acc.flatMap esW).length d kd) : ∃ x : Int32 × Int64 × Nat, sP acc = (true, acc.length, x) ∧ en (nm x) = (kd, d, 0) ∧ cn (nm x) := by
  obtain ⟨x, e, hx⟩ := pr_O (fm_by ha) h
  have hc := sP_cl (fm_by ha) (by rw [e])
  rw [e] at hc
  have hr := fm_raw hc
  rw [hr] at e
  exact ⟨x, e, hx⟩
/-- inside a type: not taken -/
theorem in_F {acc : List Nat} {kk : Nat} (ha : ∀ i, acc.getD i 0 < 256) (h : (∃ w, prF (acc.flatMap esW) w) ∨ (∃ q d kd, prO (acc.flatMap esW) q d kd ∧ ¬ (q = (acc.flatMap esW).length ∧ kd = kk))) : ¬ ((sP acc).1 = true ∧ (sP acc).2.1 = acc.length ∧ (sP acc).2.2.1.toNatClampNeg = kk) := by
  rintro ⟨h1, h2, h3⟩
  have hc := sP_cl ha h1
  rw [h2] at hc
  have hr := fm_acc hc
  rw [hr] at h
  rcases h with ⟨w, h⟩ | ⟨q, d, kd, h, hn⟩
  · rw [(pr_F ha h).1] at h1; cases h1
  · obtain ⟨x, e, hx⟩ := pr_O ha h
    rw [e] at h2 h3
    refine hn ⟨h2, ?_⟩
    rw [← h3]
    exact (congrArg (fun p => p.1) hx.1).symm
