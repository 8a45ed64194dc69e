/-! Digits and their number; what is read may be kept. -/
def ofD (ds : List Nat) : Nat := ds.foldl (fun a d => a * 10 + (d - 48)) 0
theorem ofD_s (ds : List Nat) (d : Nat) : ofD (ds ++ [d]) = ofD ds * 10 + (d - 48) := by simp [ofD, List.foldl_append]
def digs (ds : List Nat) : Prop := ∀ d ∈ ds, 48 ≤ d ∧ d ≤ 57
theorem digs_s {ds : List Nat} {d : Nat} (h : digs ds) (hd : 48 ≤ d ∧ d ≤ 57) : digs (ds ++ [d]) := by
  intro x hx
  rcases List.mem_append.mp hx with h1 | h1
  · exact h x h1
  · rw [List.mem_singleton] at h1; rw [h1]; exact hd
theorem fold_lt : ∀ (ds : List Nat) (a : Nat), digs ds → ds.foldl (fun a d => a * 10 + (d - 48)) a + 1 ≤ (a + 1) * 10 ^ ds.length := by
  intro ds
  induction ds with
  | nil => intro a _; simp
  | cons d ds ih =>
    intro a h
    rw [List.foldl_cons, List.length_cons, Nat.pow_succ]
    have h1 := ih (a * 10 + (d - 48)) (fun x hx => h x (List.mem_cons_of_mem _ hx))
    have h2 := h d List.mem_cons_self
    refine Nat.le_trans h1 ?_
    have h3 : a * 10 + (d - 48) + 1 ≤ (a + 1) * 10 := by omega
    calc (a * 10 + (d - 48) + 1) * 10 ^ ds.length ≤ ((a + 1) * 10) * 10 ^ ds.length := Nat.mul_le_mul_right _ h3
      _ = (a + 1) * (10 ^ ds.length * 10) := by rw [Nat.mul_assoc, Nat.mul_comm 10]
theorem ofD_lt {ds : List Nat} (h : digs ds) : ofD ds < 10 ^ ds.length := by
  have := fold_lt ds 0 h
  rw [Nat.zero_add, Nat.one_mul] at this
  exact this
theorem isD_b {l : List Nat} {q : Nat} (h : isD (hb l q) = true) : q < l.length ∧ 48 ≤ l.getD q 0 ∧ (l.getD q 0 < 256 → l.getD q 0 ≤ 57) := by
  have hq : q < l.length := hb_in (fun e => by rw [e] at h; exact absurd h (by decide))
  rw [hb_lt hq] at h
  have h1 : ¬ nI (l.getD q 0) < 48 ∧ ¬ 57 < nI (l.getD q 0) := by
    unfold isD at h
    simpa using h
  refine ⟨hq, ?_, fun hlt => ?_⟩
  · by_cases hc : l.getD q 0 < 48
    · exact absurd (nI_lt (b := 48) hc (by decide)) h1.1
    · omega
  · by_cases hc : 57 < l.getD q 0
    · exact absurd (nI_lt (a := 57) hc (by omega)) h1.2
    · omega
theorem dg_l {c : Nat} (h1 : 48 ≤ c) (h2 : c ≤ 57) : (nI c - 48).toInt64 = lN (c - 48) := by
  rw [show nI c - 48 = nI (c - 48) from pk_sub (b := 48) h1]
  exact nI_l (by omega)
theorem rD_digs (l : List Nat) (hl : ∀ i, l.getD i 0 < 256) : ∀ (m q : Nat) (ds : List Nat), digs ds → digs (rD l m q ds).2.2 := by
  intro m
  induction m with
  | zero => intro q ds h; exact h
  | succ m ih =>
    intro q ds h
    rw [rD]
    split
    · next e =>
      split
      · exact h
      · obtain ⟨h1, h2, h3⟩ := isD_b e
        exact ih _ _ (digs_s h ⟨h2, h3 (hl q)⟩)
    · exact h
theorem rD_18 (l : List Nat) : ∀ (m q : Nat) (ds : List Nat), ds.length ≤ 18 → (rD l m q ds).2.2.length ≤ 18 := by
  intro m
  induction m with
  | zero => intro q ds h; exact h
  | succ m ih =>
    intro q ds h
    rw [rD]
    repeat' split
    all_goals first | exact h | (exact ih _ _ (by simp only [List.length_append, List.length_cons, List.length_nil]; omega))
theorem rD_q (l : List Nat) : ∀ (m q : Nat) (ds : List Nat), q ≤ (rD l m q ds).2.1 ∧ (rD l m q ds).2.2.length + q = ds.length + (rD l m q ds).2.1 := by
  intro m
  induction m with
  | zero => intro q ds; exact ⟨Nat.le_refl _, rfl⟩
  | succ m ih =>
    intro q ds
    rw [rD]
    repeat' split
    all_goals first | exact ⟨Nat.le_refl _, rfl⟩ | (have := ih (q + 1) (ds ++ [l.getD q 0]); simp only [List.length_append, List.length_cons, List.length_nil] at this; exact ⟨by omega, by omega⟩)
/-- the class's digits are the reference's -/
theorem sD_rD (l : List Nat) (hl : ∀ i, l.getD i 0 < 256) (st mo : Nat) : ∀ (m q : Nat) (ds : List Nat), st ≤ q → ds.length ≤ 18 → ds.length + mo = 18 + (q - st) → sD l st mo m q (lN (ofD ds)) = ((rD l m q ds).1, (rD l m q ds).2.1, lN (ofD (rD l m q ds).2.2)) := by
  intro m
  induction m with
  | zero => intro q ds h1 h2 h3; rfl
  | succ m ih =>
    intro q ds h1 h2 h3
    rw [sD, rD]
    by_cases e : isD (hb l q) = true
    · rw [if_pos e, if_pos e]
      obtain ⟨g1, g2, g3⟩ := isD_b e
      by_cases e18 : ds.length = 18
      · rw [if_pos (by omega), if_pos e18]
      · rw [if_neg (by omega), if_neg e18]
        have hv : lN (ofD ds) * 10 + (hb l q - 48).toInt64 = lN (ofD (ds ++ [l.getD q 0])) := by
          rw [hb_lt g1, dg_l g2 (g3 (hl q)), show (10 : Int64) = lN 10 from rfl, lN_mul, lN_add, ofD_s]
        rw [hv]
        exact ih (q + 1) (ds ++ [l.getD q 0]) (by omega) (by simp only [List.length_append, List.length_cons, List.length_nil]; omega) (by simp only [List.length_append, List.length_cons, List.length_nil]; omega)
    · rw [if_neg e, if_neg e]
/-- a number read: bounded -/
def okN (x : Int32 × Int64 × Nat) : Prop := (∃ r : Nat, r < 10 ^ 18 ∧ (x.2.1 = lN r ∨ x.2.1 = -lN r)) ∧ x.2.2 ≤ 9 ∧ (x.1 = 3 ∨ x.1 = 4 ∨ x.1 = 8)
theorem pow18 {n : Nat} (h : n ≤ 18) : 10 ^ n ≤ 10 ^ 18 := Nat.pow_le_pow_right (by decide) h
theorem sNu1_ok {l : List Nat} (hl : ∀ i, l.getD i 0 < 256) {st : Nat} (hst : st ≤ l.length) (h : (sNu1 l st 0).1 = true) : okN (sNu1 l st 0).2.2 := by
  have e1 := sD_rD l hl st 18 (l.length - st) st [] (Nat.le_refl _) (by decide) (by simp)
  have hd1 := rD_digs l hl (l.length - st) st [] (fun d hd => absurd hd List.not_mem_nil)
  have h181 := rD_18 l (l.length - st) st [] (by decide)
  have hq1 := rD_q l (l.length - st) st []
  rw [show lN (ofD []) = 0 from rfl] at e1
  unfold sNu1 at h ⊢
  dsimp only at h ⊢
  rw [e1] at h ⊢
  generalize rD l (l.length - st) st [] = o at h hd1 h181 hq1 ⊢
  obtain ⟨b, q1, ds⟩ := o
  dsimp only at h hd1 h181 hq1 ⊢
  cases b
  · rw [if_pos rfl] at h; cases h
  · rw [if_neg (by decide)] at h ⊢
    have hlt := Nat.lt_of_lt_of_le (ofD_lt hd1) (pow18 h181)
    by_cases c46 : hb l q1 = 46
    · rw [if_pos c46] at h ⊢
      have hq46 := hb_in (t := l) (q := q1) (by rw [c46]; decide)
      unfold sNu2 at h ⊢
      dsimp only at h ⊢
      simp only [List.length_nil] at hq1
      have e2 := sD_rD l hl (q1 + 1) (18 - (q1 - st)) (l.length - (q1 + 1)) (q1 + 1) ds (Nat.le_refl _) h181 (by omega)
      have hd2 := rD_digs l hl (l.length - (q1 + 1)) (q1 + 1) ds hd1
      have h182 := rD_18 l (l.length - (q1 + 1)) (q1 + 1) ds h181
      rw [e2] at h ⊢
      generalize rD l (l.length - (q1 + 1)) (q1 + 1) ds = o2 at h hd2 h182 ⊢
      obtain ⟨b2, q2, ds2⟩ := o2
      dsimp only at h hd2 h182 ⊢
      cases b2
      · rw [if_pos rfl] at h; cases h
      · rw [if_neg (by decide)] at h ⊢
        by_cases cq : q2 = q1 + 1
        · rw [if_pos cq] at h; cases h
        · rw [if_neg cq] at h ⊢
          by_cases c9 : 9 < (lz (q2 - q1 - 1) (lN (ofD ds2))).2
          · rw [if_pos c9] at h; cases h
          · rw [if_neg c9]
            exact ⟨lz_r _ _ _ (Nat.lt_of_lt_of_le (ofD_lt hd2) (pow18 h182)) (Or.inl rfl), Nat.not_lt.mp c9, Or.inr (Or.inl rfl)⟩
    · rw [if_neg c46] at h ⊢
      by_cases cq : q1 = st
      · rw [if_pos cq] at h; cases h
      · rw [if_neg cq]
        exact ⟨⟨ofD ds, hlt, Or.inl rfl⟩, Nat.zero_le _, Or.inl rfl⟩
theorem sTr_ok {l : List Nat} {k : Nat} {tv : Int32} (htv : tv = 1 ∨ tv = 0) (h : (sTr l k tv).1 = true) : okN (sTr l k tv).2.2 := by
  unfold sTr at h ⊢
  split at h
  · cases h
  · split at h
    · cases h
    · next e1 e2 =>
      rw [if_neg e2]
      refine ⟨?_, Nat.zero_le _, Or.inr (Or.inr rfl)⟩
      rcases htv with rfl | rfl
      · exact ⟨1, by decide, Or.inl (show (1 : Int32).toInt64 = lN 1 by decide)⟩
      · exact ⟨0, by decide, Or.inl (show (0 : Int32).toInt64 = lN 0 by decide)⟩
theorem sgn0_le (l : List Nat) : sgn0 l ≤ l.length := by
  unfold sgn0
  split
  · next e => have := hb_in (t := l) (q := 0) (sgn_ne e); omega
  · exact Nat.zero_le _
theorem sP_ok {l : List Nat} (hl : ∀ i, l.getD i 0 < 256) (h : (sP l).1 = true) : okN (sP l).2.2 := by
  unfold sP at h ⊢
  by_cases c1 : hb l 0 = 116
  · simp only [if_pos c1] at h ⊢; exact sTr_ok (Or.inl rfl) h
  · by_cases c2 : hb l 0 = 102
    · simp only [if_neg c1, if_pos c2] at h ⊢; exact sTr_ok (Or.inr rfl) h
    · simp only [if_neg c1, if_neg c2] at h ⊢
      by_cases c3 : (!(decide (hb l 0 = 43) || decide (hb l 0 = 45)) && !isD (hb l 0) && !decide (hb l 0 = 46)) = true
      · rw [if_pos c3] at h; cases h
      · rw [if_neg c3] at h ⊢
        by_cases c4 : hb l 0 = 45
        · rw [if_pos c4] at h ⊢
          obtain ⟨⟨r, hr, hv⟩, h2, h3⟩ := sNu1_ok hl (sgn0_le l) h
          refine ⟨⟨r, hr, ?_⟩, h2, h3⟩
          rcases hv with e | e
          · exact Or.inr (by show -_ = _; rw [e])
          · exact Or.inl (by show -_ = _; rw [e, Int64.neg_neg])
        · rw [if_neg c4] at h ⊢
          exact sNu1_ok hl (sgn0_le l) h
theorem sI_l (t : List Nat) : ∀ (m q : Nat) (acc : List Nat), acc.length ≤ 64 → (sI t m q acc).2.2.length ≤ 64 := by
  intro m
  induction m with
  | zero => intro q acc h; exact h
  | succ m ih =>
    intro q acc h
    rw [sI]
    repeat' split
    all_goals first | exact h | (exact ih _ _ (by simp only [List.length_append, List.length_cons, List.length_nil]; omega))
theorem sB_l (t : List Nat) : ∀ (m q : Nat) (acc : List Nat), acc.length ≤ 60 → (sB t m q acc).2.2.length ≤ 60 := by
  intro m
  induction m with
  | zero => intro q acc h; exact h
  | succ m ih =>
    intro q acc h
    rw [sB]
    repeat' split
    all_goals first | exact h | (exact ih _ _ (by simp only [List.length_append, List.length_cons, List.length_nil]; omega))
theorem sT_l (t : List Nat) : ∀ (m q run : Nat) (fs : Bool) (acc : List Nat), acc.length ≤ 20 → (sT t m q run fs acc).2.2.length ≤ 20 := by
  intro m
  induction m with
  | zero => intro q run fs acc h; rw [sT]; split <;> exact h
  | succ m ih =>
    intro q run fs acc h
    rw [sT]
    split
    · exact h
    · split
      · exact h
      · next e1 e2 =>
        have h20 : acc.length ≠ 20 := fun e => e2 (by rw [decide_eq_true e]; rfl)
        split
        · exact h
        · exact ih _ _ _ _ (by simp only [List.length_append, List.length_cons, List.length_nil]; omega)
theorem sNa_l (t : List Nat) (q : Nat) : (sNa t q).2.2.length ≤ 60 := by
  unfold sNa
  split
  · exact sNm_l t _ _ _ (by decide)
  · exact Nat.zero_le _
theorem sBk_l (t : List Nat) : (sBk t).2.2.length ≤ 60 := by
  unfold sBk bkF
  split
  · split
    · exact Nat.zero_le _
    · exact sB_l t _ _ _ (by decide)
  · exact Nat.zero_le _
theorem z_ok : ∃ r : Nat, r < 10 ^ 18 ∧ ((0 : Int64) = lN r ∨ (0 : Int64) = -lN r) := ⟨0, by decide, Or.inl rfl⟩
theorem sTx_ok {t : List Nat} (h : (sTx t).1 = true) : (sTx t).2.2.2.1.length ≤ 64 ∧ (sTx t).2.2.2.2.length ≤ 60 ∧ ((sTx t).2.2.1 = 5 ∨ (sTx t).2.2.1 = 6 ∨ (sTx t).2.2.1 = 7) := by
  have h1 := sI_l t t.length 1 [] (by decide)
  unfold sTx at h ⊢
  split at h
  · next e =>
    rw [if_pos e]
    unfold sTx2 at h ⊢
    split at h
    · next e1 => rw [if_pos e1]; exact ⟨h1, Nat.le_trans (sT_l t _ _ _ _ _ (by decide)) (by decide), Or.inr (Or.inl rfl)⟩
    · next e1 =>
      rw [if_neg e1]
      split at h
      · next e2 =>
        rw [if_pos e2]
        split at h
        · next e3 => rw [if_pos e3]; exact ⟨h1, sNa_l t _, Or.inr (Or.inr rfl)⟩
        · cases h
      · next e2 => rw [if_neg e2]; exact ⟨h1, by simp, Or.inl rfl⟩
  · cases h
theorem sA_ok {t : List Nat} (hl : ∀ i, t.getD i 0 < 256) (h : (sA t).1 = true) : okT (sA t).2.2 := by
  unfold sA at h ⊢
  split at h
  · next e =>
    rw [if_pos e]
    obtain ⟨a, b, c⟩ := sTx_ok h
    exact ⟨a, b, z_ok, Nat.zero_le _, by rcases c with c | c | c <;> simp [mp, c]⟩
  · next e =>
    rw [if_neg e]
    split at h
    · next e2 => rw [if_pos e2]; exact ⟨Nat.le_trans (sNa_l t 0) (by decide), Nat.zero_le _, z_ok, Nat.zero_le _, Or.inr (Or.inl rfl)⟩
    · next e2 =>
      rw [if_neg e2]
      split at h
      · next e3 => rw [if_pos e3]; exact ⟨Nat.le_trans (sBk_l t) (by decide), Nat.zero_le _, z_ok, Nat.zero_le _, Or.inl rfl⟩
      · next e3 =>
        rw [if_neg e3]
        obtain ⟨a, b, c⟩ := sP_ok hl h
        exact ⟨Nat.zero_le _, Nat.zero_le _, a, b, by rcases c with c | c | c <;> simp [mp, c]⟩
theorem sSe_ok {b tl : List Nat} {q : Nat} (hl : ∀ i, b.getD i 0 < 256) (hb : b.length ≤ 64) (ht : tl.length ≤ 60) (h : (sSe b tl q).1 = true) : okT (sSe b tl q).2.2 := by
  unfold sSe at h ⊢
  split at h
  · next e => rw [if_pos e]; exact ⟨hb, Nat.zero_le _, z_ok, Nat.zero_le _, by simp⟩
  · next e =>
    rw [if_neg e]
    split at h
    · next e2 => rw [if_pos e2]; exact ⟨hb, ht, z_ok, Nat.zero_le _, by simp⟩
    · next e2 =>
      rw [if_neg e2]
      split at h
      · next e3 =>
        rw [if_pos e3]
        obtain ⟨x1, x2, x3⟩ := sP_ok hl e3.1
        exact ⟨Nat.zero_le _, Nat.zero_le _, x1, x2, by rcases x3 with c | c | c <;> simp [c]⟩
      · cases h
