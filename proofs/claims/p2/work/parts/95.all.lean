/-! What the class reads is what the reference reads: sAll against roO, raF. -/
def sm (x : Tm) : Nat := x.2.2.2.1.length + x.2.2.2.2.length
theorem wl_6 : wl 6 = [95, 58] := by decide
theorem wl_11 : wl 11 = [94, 94] := by decide
theorem en_1 {b : List Nat} : en (1, 0, 0, b, []) = (1, [95, 58] ++ b, 0) := by
  show ((1 : Nat), wl 6 ++ b, 0) = _
  rw [wl_6]
theorem en_2 {b : List Nat} : en (2, 0, 0, b, []) = (2, [60] ++ b ++ [62], 0) := rfl
theorem en_5 {b : List Nat} : en (5, 0, 0, b, []) = (5, [34] ++ b.flatMap esW ++ [34], (b.flatMap esW).length + 1) := by
  show ((5 : Nat), [34] ++ b.flatMap esW ++ [34] ++ [], (b.flatMap esW).length + 1) = _
  rw [List.append_nil]
theorem en_6 {b c : List Nat} : en (6, 0, 0, b, c) = (6, [34] ++ b.flatMap esW ++ [34] ++ [64] ++ c, (b.flatMap esW).length + 1) := by
  show ((6 : Nat), [34] ++ b.flatMap esW ++ [34] ++ ([64] ++ c), (b.flatMap esW).length + 1) = _
  rw [← List.append_assoc]
theorem en_7 {b c : List Nat} : en (7, 0, 0, b, c) = (7, [34] ++ b.flatMap esW ++ [34] ++ [94] ++ [94] ++ [60] ++ c ++ [62], (b.flatMap esW).length + 1) := by
  show ((7 : Nat), [34] ++ b.flatMap esW ++ [34] ++ (wl 11 ++ ([60] ++ c ++ [62])), (b.flatMap esW).length + 1) = _
  rw [wl_11]
  simp
theorem n92_s {l : List Nat} {b : Nat} (h : n92 l) (hb : esW b = [b]) : n92 (l ++ [b]) := by
  intro x hx
  rcases List.mem_append.mp hx with h1 | h1
  · exact h x h1
  · rw [List.mem_singleton] at h1; rw [h1]; exact hb
theorem n92_nil : n92 [] := fun x hx => absurd hx List.not_mem_nil
theorem pln_of {b : Int32} {f : Int32 → Bool} (h : f b = true) (h1 : f 92 = false) (h2 : f 9 = false) (h3 : f 10 = false) (h4 : f 13 = false) (h5 : f 34 = false) : pln b = true := by
  have g1 : b ≠ 92 := fun e => by rw [e, h1] at h; cases h
  have g2 : b ≠ 9 := fun e => by rw [e, h2] at h; cases h
  have g3 : b ≠ 10 := fun e => by rw [e, h3] at h; cases h
  have g4 : b ≠ 13 := fun e => by rw [e, h4] at h; cases h
  have g5 : b ≠ 34 := fun e => by rw [e, h5] at h; cases h
  simp [pln, g1, g2, g3, g4, g5]
theorem ne92 {t : List Nat} {q : Nat} (f : Int32 → Bool) (h : f (hb t q) = true) (h1 : f 92 = false) (h2 : f 9 = false) (h3 : f 10 = false) (h4 : f 13 = false) (h5 : f 34 = false) (h6 : f (-1) = false) : pln (nI (t.getD q 0)) = true := by
  have hq : q < t.length := hb_in (fun e2 => by rw [e2, h6] at h; cases h)
  rw [hb_lt hq] at h
  exact pln_of h h1 h2 h3 h4 h5
theorem sB_92 (t : List Nat) : ∀ (m q : Nat) (acc : List Nat), n92 acc → n92 (sB t m q acc).2.2 := by
  intro m
  induction m with
  | zero => intro q acc h; exact h
  | succ m ih =>
    intro q acc h
    rw [sB]
    split
    · next e =>
      split
      · exact h
      · exact ih _ _ (n92_s h (pln_esW (ne92 isW e rfl rfl rfl rfl rfl rfl)))
    · exact h
theorem sBk_92 {t b : List Nat} {q : Nat} (e : sBk t = (true, q, b)) : n92 b := by
  have h := sB_92 t (t.length - 2) 2 [] n92_nil
  unfold sBk bkF at e
  split at e
  · split at e
    · cases e
    · rw [e] at h; exact h
  · cases e
theorem sNm_92 (t : List Nat) : ∀ (m q : Nat) (acc : List Nat), n92 acc → n92 (sNm t m q acc).2.2 := by
  intro m
  induction m with
  | zero => intro q acc h; exact h
  | succ m ih =>
    intro q acc h
    rw [sNm]
    split
    · exact h
    · split
      · exact h
      · split
        · next e => exact ih _ _ (n92_s h (pln_esW (ne92 isNB e rfl rfl rfl rfl rfl rfl)))
        · exact h
theorem sNa_92 {t b : List Nat} {q q0 : Nat} {g : Bool} (e : sNa t q0 = (g, q, b)) : n92 b := by
  have h := sNm_92 t (t.length - (q0 + 1)) (q0 + 1) [] n92_nil
  unfold sNa at e
  split at e
  · rw [e] at h; exact h
  · injection e with _ e
    injection e with _ e
    rw [← e]; exact n92_nil
theorem sml_92 {t : List Nat} {q : Nat} (h : (isL (hb t q) || isD (hb t q) || decide (hb t q = 45)) = true) : esW (smlN (t.getD q 0)) = [smlN (t.getD q 0)] := by
  have h1 := pln_esW (ne92 (fun b => isL b || isD b || decide (b = 45)) h rfl rfl rfl rfl rfl rfl)
  unfold smlN
  split
  · unfold esW
    rw [if_neg (by omega), if_neg (by omega), if_neg (by omega), if_neg (by omega), if_neg (by omega)]
  · exact h1
theorem sT_92 (t : List Nat) : ∀ (m q run : Nat) (fs : Bool) (acc : List Nat), n92 acc → n92 (sT t m q run fs acc).2.2 := by
  intro m
  induction m with
  | zero => intro q run fs acc h; rw [sT]; split <;> exact h
  | succ m ih =>
    intro q run fs acc h
    rw [sT]
    split
    · exact h
    · split
      · exact h
      · next e3 =>
        split
        · exact h
        · next e4 =>
          refine ih _ _ _ _ (n92_s h (sml_92 ?_))
          cases hL : isL (hb t q)
          · cases hD : isD (hb t q)
            · cases h45 : decide (hb t q = 45)
              · rw [hL, hD, h45] at e4
                exact absurd rfl e4
              · rfl
            · rfl
          · rfl
theorem snm_ty {b : List Nat} : (tyk b = none ∧ snm b = 7) ∨ ∃ k, tyk b = some k ∧ snm b ≠ 7 ∧ (snm b).toNatClampNeg = k := by
  unfold tyk snm
  repeat' split
  · exact Or.inr ⟨3, rfl, by decide, rfl⟩
  · exact Or.inr ⟨4, rfl, by decide, rfl⟩
  · exact Or.inr ⟨8, rfl, by decide, rfl⟩
  · exact Or.inl ⟨rfl, rfl⟩
theorem sP_kd {l : List Nat} (hl : ∀ i, l.getD i 0 < 256) (h : (sP l).1 = true) {m : Int32} (hm : m = 3 ∨ m = 4 ∨ m = 8) (e : (sP l).2.2.1.toNatClampNeg = m.toNatClampNeg) : (sP l).2.2.1 = m := by
  obtain ⟨-, -, h3⟩ := sP_ok hl h
  rcases h3 with h3 | h3 | h3 <;> rcases hm with rfl | rfl | rfl <;> rw [h3] at e ⊢ <;> first | rfl | exact absurd e (by decide)
theorem snm_k {b : List Nat} (h : snm b ≠ 7) : snm b = 3 ∨ snm b = 4 ∨ snm b = 8 := by
  unfold snm at h ⊢
  repeat' split
  all_goals first | exact Or.inl rfl | exact Or.inr (Or.inl rfl) | exact Or.inr (Or.inr rfl) | (exfalso; apply h; simp [*])
/-- a type: taken -/
theorem ty_O {t acc b d : List Nat} {q q1 kd qq db : Nat} (ha : ∀ i, acc.getD i 0 < 256) (hn : n92 b) (h : (b = wl 2 ∧ d = [34] ++ acc.flatMap esW ++ [34] ∧ kd = 5 ∧ qq = (acc.flatMap esW).length + 1 ∧ db = acc.length) ∨ (b ≠ wl 2 ∧ tyk b = some kd ∧ prO (acc.flatMap esW) (acc.flatMap esW).length d kd ∧ qq = 0 ∧ db = 0) ∨ (b ≠ wl 2 ∧ tyk b = none ∧ d = [34] ++ acc.flatMap esW ++ [34] ++ [94] ++ [94] ++ [60] ++ b ++ [62] ∧ kd = 7 ∧ qq = (acc.flatMap esW).length + 1 ∧ db = acc.length + b.length)) : ∃ x : Tm, sSe acc b q = (true, q, x) ∧ en x = (kd, d, qq) ∧ sm x = db ∧ cn x := by
  unfold sSe
  rcases h with ⟨hb, rfl, rfl, rfl, rfl⟩ | ⟨hb, hk, hp, rfl, rfl⟩ | ⟨hb, hk, rfl, rfl, rfl, rfl⟩
  · rw [if_pos hb]
    exact ⟨_, rfl, en_5, rfl, cn5⟩
  · rw [if_neg hb]
    obtain ⟨x, e, hx⟩ := in_O ha hp
    rcases snm_ty (b := b) with ⟨h1, -⟩ | ⟨k, h1, h7, hs⟩
    · rw [h1] at hk; cases hk
    · rw [h1] at hk
      injection hk with hk
      subst hk
      have hkd : x.1.toNatClampNeg = k := congrArg (fun p => p.1) hx.1
      have h3 := sP_kd ha (by rw [e]) (snm_k h7) (by rw [e, hs]; exact hkd)
      rw [if_neg h7, if_pos ⟨by rw [e], by rw [e], h3⟩, e]
      exact ⟨nm x, rfl, hx.1, rfl, hx.2⟩
  · rw [if_neg hb]
    rcases snm_ty (b := b) with ⟨-, h7⟩ | ⟨k, h1, -⟩
    · rw [if_pos h7]
      exact ⟨_, rfl, en_7, rfl, cn7 hn⟩
    · rw [h1] at hk; cases hk
/-- a type: not taken -/
theorem ty_F {acc b : List Nat} {q kk : Nat} (ha : ∀ i, acc.getD i 0 < 256) (hb : b ≠ wl 2) (hk : tyk b = some kk) (h : (∃ w, prF (acc.flatMap esW) w) ∨ (∃ q d kd, prO (acc.flatMap esW) q d kd ∧ ¬ (q = (acc.flatMap esW).length ∧ kd = kk))) : (sSe acc b q).1 = false ∧ (sSe acc b q).2.1 = 0 := by
  have hn := in_F ha h
  unfold sSe
  rcases snm_ty (b := b) with ⟨h1, -⟩ | ⟨k, h1, h7, hs⟩
  · rw [h1] at hk; cases hk
  · rw [h1] at hk
    injection hk with hk
    subst hk
    rw [if_neg hb, if_neg h7, if_neg]
    · exact ⟨rfl, rfl⟩
    · rintro ⟨a1, a2, a3⟩
      exact hn ⟨a1, a2, by rw [a3]; exact hs⟩
theorem mp_e {α β : Type} {o : Bool × Nat × α} {f : α → β} {b : Bool} {q : Nat} {a : α} (e : o = (b, q, a)) : mp o f = (b, q, f a) := by subst e; rfl
theorem pr_n0 {l d : List Nat} {q kd : Nat} (h : prO l q d kd) : ¬ hb l 0 = 34 ∧ ¬ hb l 0 = 60 ∧ ¬ hb l 0 = 95 := by
  obtain ⟨k, hk, -⟩ | ⟨hB, -⟩ := h
  · rcases hk with ⟨-, e⟩ | ⟨-, e⟩
    · rw [e]; decide
    · rw [e]; decide
  · rcases hB with e | e | e | e
    · rw [e]; decide
    · rw [e]; decide
    · rw [e]; decide
    · refine ⟨fun e2 => ?_, fun e2 => ?_, fun e2 => ?_⟩
      · rw [e2] at e; exact absurd e (by decide)
      · rw [e2] at e; exact absurd e (by decide)
      · rw [e2] at e; exact absurd e (by decide)
theorem a1_e {t : List Nat} {q : Nat} {x : Tm} (e : sA t = (true, q, x)) (h7 : x.1 ≠ 7) : sAll1 (sA t) = (true, q, x) := by
  rw [e]
  unfold sAll1
  rw [if_pos rfl, if_neg h7]
theorem a1_7 {t b c : List Nat} {q : Nat} (e : sA t = (true, q, 7, 0, 0, b, c)) : sAll1 (sA t) = sSe b c q := by
  rw [e]
  unfold sAll1
  rw [if_pos rfl, if_pos rfl]
theorem a1_f {t : List Nat} {w : Nat} (e1 : (sA t).1 = false) (e2 : (sA t).2.1 = w) : (sAll1 (sA t)).1 = false ∧ (sAll1 (sA t)).2.1 = w := by
  unfold sAll1
  rw [if_neg (by rw [e1]; decide)]
  exact ⟨e1, e2⟩
theorem sA_34 {t : List Nat} (h : hb t 0 = 34) {q1 : Nat} {acc : List Nat} (e : sI t t.length 1 [] = (true, q1, acc)) : sA t = mp (sTx2 t q1 acc) (fun x => (x.1, 0, 0, x.2.1, x.2.2)) := by
  unfold sA sTx
  rw [if_pos h, e, if_pos rfl]
/-- taken up to q -/
theorem ro_O {t d : List Nat} {q kd qq db : Nat} (ht : ∀ i, t.getD i 0 < 256) (h : roO t q d kd qq db) : ∃ x : Tm, sAll1 (sA t) = (true, q, x) ∧ en x = (kd, d, qq) ∧ sm x = db ∧ cn x := by
  obtain ⟨h0, b, e, rfl, rfl, rfl, rfl⟩ | ⟨h0, b, e, rfl, rfl, rfl, rfl⟩ | ⟨h0, q1, acc, e1, h2⟩ | ⟨h, rfl, rfl⟩ := h
  · refine ⟨(1, 0, 0, b, []), a1_e ?_ (show (1 : Int32) ≠ 7 by decide), en_1, rfl, cn1 (sBk_92 e)⟩
    unfold sA
    rw [if_neg (by rw [h0]; decide), if_neg (by rw [h0]; decide), if_pos h0]
    exact mp_e e
  · refine ⟨(2, 0, 0, b, []), a1_e ?_ (show (2 : Int32) ≠ 7 by decide), en_2, rfl, cn2 (sNa_92 e)⟩
    unfold sA
    rw [if_neg (by rw [h0]; decide), if_pos h0]
    exact mp_e e
  · have hA := sA_34 h0 e1
    have ha := sI_by t ht t.length 1 [] nil_by
    rw [e1] at ha
    unfold sTx2 at hA
    obtain ⟨h6, b, e, rfl, rfl, rfl, rfl⟩ | ⟨h6, h7, b, e, h8⟩ | ⟨h6, h7, rfl, rfl, rfl, rfl, rfl⟩ := h2
    · rw [if_pos h6, mp_e e] at hA
      exact ⟨(6, 0, 0, acc, b), a1_e hA (show (6 : Int32) ≠ 7 by decide), en_6, rfl, cn6 (by have := sT_92 t (t.length - (q1 + 1)) (q1 + 1) 0 true [] n92_nil; rw [e] at this; exact this)⟩
    · rw [if_neg (by rw [h6]; decide), if_pos h6, if_pos h7, mp_e (show sNa t (q1 + 2) = (true, q, b) from e)] at hA
      rw [a1_7 hA]
      exact ty_O (t := t) (q1 := q1) ha (sNa_92 e) h8
    · rw [if_neg h6, if_neg h7] at hA
      exact ⟨(5, 0, 0, acc, []), a1_e hA (show (5 : Int32) ≠ 7 by decide), en_5, rfl, cn5⟩
  · obtain ⟨x, e, hx⟩ := pr_O ht h
    obtain ⟨n1, n2, n3⟩ := pr_n0 h
    refine ⟨nm x, a1_e ?_ ?_, hx.1, rfl, hx.2⟩
    · unfold sA
      rw [if_neg n1, if_neg n2, if_neg n3, mp_e e]; rfl
    · have h3 := (sP_ok ht (by rw [e])).2.2
      rw [e] at h3
      show x.1 ≠ 7
      rcases h3 with h3 | h3 | h3 <;> rw [show x.1 = _ from h3] <;> decide
/-- not taken, at w -/
theorem ro_F {t : List Nat} {w : Nat} (ht : ∀ i, t.getD i 0 < 256) (h : roF t w) : (sAll1 (sA t)).1 = false ∧ (sAll1 (sA t)).2.1 = w := by
  obtain ⟨h0, b, e⟩ | ⟨h0, b, e⟩ | ⟨h0, h⟩ | ⟨n3, n2, n1, h⟩ := h
  · have hA : sA t = mp (sBk t) (fun b => (1, 0, 0, b, [])) := by
      unfold sA
      rw [if_neg (by rw [h0]; decide), if_neg (by rw [h0]; decide), if_pos h0]
    rw [mp_e e] at hA
    exact a1_f (by rw [hA]) (by rw [hA])
  · have hA : sA t = mp (sNa t 0) (fun b => (2, 0, 0, b, [])) := by
      unfold sA
      rw [if_neg (by rw [h0]; decide), if_pos h0]
    rw [mp_e e] at hA
    exact a1_f (by rw [hA]) (by rw [hA])
  · rcases h with ⟨acc, e⟩ | ⟨q1, acc, e1, h2⟩
    · have hA : sA t = (false, w, 0, 0, 0, [], []) := by
        unfold sA sTx
        rw [if_pos h0, e, if_neg Bool.false_ne_true]; rfl
      exact a1_f (by rw [hA]) (by rw [hA])
    · have hA := sA_34 h0 e1
      have ha := sI_by t ht t.length 1 [] nil_by
      rw [e1] at ha
      unfold sTx2 at hA
      rcases h2 with ⟨h6, b, e⟩ | ⟨h6, ⟨h7, rfl⟩ | ⟨h7, b, e⟩ | ⟨h7, rfl, q, b, kk, e, hb2, hk, hp⟩⟩
      · rw [if_pos h6, mp_e e] at hA
        exact a1_f (by rw [hA]; rfl) (by rw [hA]; rfl)
      · rw [if_neg (by rw [h6]; decide), if_pos h6, if_neg h7] at hA
        exact a1_f (by rw [hA]; rfl) (by rw [hA]; rfl)
      · rw [if_neg (by rw [h6]; decide), if_pos h6, if_pos h7, mp_e (show sNa t (q1 + 2) = (false, w, b) from e)] at hA
        exact a1_f (by rw [hA]; rfl) (by rw [hA]; rfl)
      · rw [if_neg (by rw [h6]; decide), if_pos h6, if_pos h7, mp_e (show sNa t (q1 + 2) = (true, q, b) from e)] at hA
        rw [a1_7 hA]
        exact ty_F ha hb2 hk hp
  · have hp := pr_F ht h
    have hA : sA t = mp (sP t) (fun x => (x.1, x.2.1, x.2.2, [], [])) := by
      unfold sA
      rw [if_neg n1, if_neg n2, if_neg n3]
    exact a1_f (by rw [hA]; exact hp.1) (by rw [hA]; exact hp.2)
theorem all_O {t d : List Nat} {kd qq db : Nat} (ht : ∀ i, t.getD i 0 < 256) (h : roO t t.length d kd qq db) : ∃ x : Tm, sAll t = (true, t.length, x) ∧ en x = (kd, d, qq) ∧ sm x = db ∧ cn x := by
  obtain ⟨x, e, hx⟩ := ro_O ht h
  refine ⟨x, ?_, hx⟩
  unfold sAll sAll2
  rw [e, if_pos rfl, if_neg (Nat.lt_irrefl _)]
theorem all_F {t : List Nat} {w : Nat} (ht : ∀ i, t.getD i 0 < 256) (h : raF t w) : (sAll t).1 = false ∧ (sAll t).2.1 = w := by
  unfold sAll sAll2
  rcases h with h | ⟨d, kd, qq, db, h, hw⟩
  · obtain ⟨e1, e2⟩ := ro_F ht h
    rw [if_neg (by rw [e1]; decide)]
    exact ⟨rfl, e2⟩
  · obtain ⟨x, e, -⟩ := ro_O ht h
    rw [e, if_pos rfl, if_pos hw]
    exact ⟨rfl, rfl⟩
