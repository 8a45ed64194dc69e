/-! part on both sides; scale; the rows of a term as the reference's order takes them. -/
theorem itl_1 {c : Nat} (h : c ≠ 92) (l : List Nat) : itl (c :: l) = itl l + 1 := by
  cases l with
  | nil => rfl
  | cons y l => rw [itl, if_neg h]
theorem itl_fm : ∀ (b : List Nat), itl (b.flatMap esW) = b.length := by
  intro b
  induction b with
  | nil => rfl
  | cons c b ih =>
    rw [List.flatMap_cons, List.length_cons]
    rcases esW_c c with ⟨h1, h2, h3⟩ | ⟨y, h3, h4⟩
    · rw [h3, List.singleton_append, itl_1 h2, ih]
    · rw [h3]
      show itl (92 :: y :: b.flatMap esW) = _
      rw [itl, if_pos rfl, ih]
def ptE (ts : RT) (e : Nat × List Nat × Nat) (u : Nat) (w : Int32) (r : Option Value) (ts' : RT) (u' : Nat) : Prop := (w = 0 ∧ 5 ≤ e.1 ∧ e.1 ≤ 7 ∧ mdR ts 5 (e.2.1.take (e.2.2 + 1)) e.2.2 u (itl ((e.2.1.take e.2.2).drop 1)) r ts' u') ∨ (w = 1 ∧ e.1 = 6 ∧ mdR ts 5 ([34] ++ e.2.1.drop (e.2.2 + 2) ++ [34]) ((e.2.1.drop (e.2.2 + 2)).length + 1) u (e.2.1.drop (e.2.2 + 2)).length r ts' u') ∨ (w = 2 ∧ e.1 = 7 ∧ mdR ts 2 (e.2.1.drop (e.2.2 + 3)) 0 u ((e.2.1.drop (e.2.2 + 3)).length - 2) r ts' u') ∨ (¬ (5 ≤ e.1 ∧ e.1 ≤ 7 ∧ (w = 0 ∨ (w = 1 ∧ e.1 = 6) ∨ (w = 2 ∧ e.1 = 7))) ∧ r = some (.int (-2)) ∧ ts' = ts ∧ u' = u)
theorem ptR_E {T : List Tm} {i u u' : Nat} {w : Int32} {r : Option Value} {ts' : RT} (hi : i < T.length) (h : ptR (T.map en) i u w r ts' u') : ptE (T.map en) (en (T.getD i tm0)) u w r ts' u' := by
  unfold ptR at h
  rw [m_knd hi, m_bys hi, m_quo hi] at h
  exact h
theorem ptE_no {ts : RT} {e : Nat × List Nat × Nat} {u u' : Nat} {w : Int32} {r : Option Value} {ts' : RT} (h : ptE ts e u w r ts' u') (hn : ¬ (5 ≤ e.1 ∧ e.1 ≤ 7 ∧ (w = 0 ∨ (w = 1 ∧ e.1 = 6) ∨ (w = 2 ∧ e.1 = 7)))) : r = some (.int (-2)) ∧ ts' = ts ∧ u' = u := by
  rcases h with ⟨h1, h2, h3, -⟩ | ⟨h1, h2, -⟩ | ⟨h1, h2, -⟩ | ⟨-, h⟩
  · exact absurd ⟨h2, h3, Or.inl h1⟩ hn
  · exact absurd ⟨by omega, by omega, Or.inr (Or.inl ⟨h1, h2⟩)⟩ hn
  · exact absurd ⟨by omega, by omega, Or.inr (Or.inr ⟨h1, h2⟩)⟩ hn
  · exact h
theorem ptE_0 {ts : RT} {e : Nat × List Nat × Nat} {u u' : Nat} {r : Option Value} {ts' : RT} (h : ptE ts e u 0 r ts' u') (h5 : 5 ≤ e.1) (h7 : e.1 ≤ 7) : mdR ts 5 (e.2.1.take (e.2.2 + 1)) e.2.2 u (itl ((e.2.1.take e.2.2).drop 1)) r ts' u' := by
  rcases h with ⟨-, -, -, h⟩ | ⟨h1, -⟩ | ⟨h1, -⟩ | ⟨h, -⟩
  · exact h
  · exact absurd h1 (by decide)
  · exact absurd h1 (by decide)
  · exact absurd ⟨h5, h7, Or.inl rfl⟩ h
theorem ptE_1 {ts : RT} {e : Nat × List Nat × Nat} {u u' : Nat} {r : Option Value} {ts' : RT} (h : ptE ts e u 1 r ts' u') (h6 : e.1 = 6) : mdR ts 5 ([34] ++ e.2.1.drop (e.2.2 + 2) ++ [34]) ((e.2.1.drop (e.2.2 + 2)).length + 1) u (e.2.1.drop (e.2.2 + 2)).length r ts' u' := by
  rcases h with ⟨h1, -⟩ | ⟨-, -, h⟩ | ⟨h1, -⟩ | ⟨h, -⟩
  · exact absurd h1 (by decide)
  · exact h
  · exact absurd h1 (by decide)
  · exact absurd ⟨by omega, by omega, Or.inr (Or.inl ⟨rfl, h6⟩)⟩ h
theorem ptE_2 {ts : RT} {e : Nat × List Nat × Nat} {u u' : Nat} {r : Option Value} {ts' : RT} (h : ptE ts e u 2 r ts' u') (h7 : e.1 = 7) : mdR ts 2 (e.2.1.drop (e.2.2 + 3)) 0 u ((e.2.1.drop (e.2.2 + 3)).length - 2) r ts' u' := by
  rcases h with ⟨h1, -⟩ | ⟨h1, -⟩ | ⟨-, -, h⟩ | ⟨h, -⟩
  · exact absurd h1 (by decide)
  · exact absurd h1 (by decide)
  · exact h
  · exact absurd ⟨by omega, by omega, Or.inr (Or.inr ⟨rfl, h7⟩)⟩ h
theorem tx_t1 (m y : List Nat) : ([34] ++ m ++ [34] ++ y).take (m.length + 1 + 1) = [34] ++ m ++ [34] := List.take_left' (by simp)
theorem tx_t2 (m y : List Nat) : (([34] ++ m ++ [34] ++ y).take (m.length + 1)).drop 1 = m := by
  rw [List.append_assoc ([34] ++ m), List.take_left' (by simp)]; rfl
theorem tx_d6 (m c : List Nat) : ([34] ++ m ++ [34] ++ [64] ++ c).drop (m.length + 1 + 2) = c := List.drop_left' (by simp)
theorem tx_d7 (m c : List Nat) : ([34] ++ m ++ [34] ++ [94] ++ [94] ++ [60] ++ c ++ [62]).drop (m.length + 1 + 3) = [60] ++ c ++ [62] := by
  rw [List.append_assoc, List.append_assoc]
  rw [List.drop_left' (by simp)]; simp
theorem ok0 {k : Int32} {b c : List Nat} (hb : b.length ≤ 64) (hc : c.length ≤ 60) (hk : k = 1 ∨ k = 2 ∨ k = 3 ∨ k = 4 ∨ k = 5 ∨ k = 6 ∨ k = 7 ∨ k = 8) : okT (k, 0, 0, b, c) := ⟨hb, hc, ⟨0, by decide, Or.inl rfl⟩, Nat.zero_le _, hk⟩
/-- the body of a text, taken out -/
theorem pt_body {e : Nat × List Nat × Nat} {b y : List Nat} {k : Nat} (he : e = (k, [34] ++ b.flatMap esW ++ [34] ++ y, (b.flatMap esW).length + 1)) (h5 : 5 ≤ k) (h7 : k ≤ 7) {ts : RT} {u u' : Nat} {r : Option Value} {ts' : RT} (h : ptE ts e u 0 r ts' u') : mdR ts (en (5, 0, 0, b, [])).1 (en (5, 0, 0, b, [])).2.1 (en (5, 0, 0, b, [])).2.2 u (sm (5, 0, 0, b, [])) r ts' u' := by
  subst he
  have h1 := ptE_0 h h5 h7
  dsimp only at h1
  rw [tx_t1, tx_t2, itl_fm] at h1
  rw [en_5]
  exact h1
theorem pt_link {x : Tm} (cx : cn x) (ox : okT x) (w : Int32) : (ptX x w = none ∧ ∀ ts u r ts' u', ptE ts (en x) u w r ts' u' → r = some (.int (-2)) ∧ ts' = ts ∧ u' = u) ∨ ∃ y, ptX x w = some y ∧ cn y ∧ okT y ∧ ∀ ts u r ts' u', ptE ts (en x) u w r ts' u' → mdR ts (en y).1 (en y).2.1 (en y).2.2 u (sm y) r ts' u' := by
  obtain ⟨o1, o2, -⟩ := ox
  have non : ∀ (x : Tm), ¬ (x.1 = 5 ∨ x.1 = 6 ∨ x.1 = 7) → ptX x w = none := by
    intro x h
    unfold ptX
    rw [if_neg (fun q => h q.2), if_neg (fun q => h (Or.inr (Or.inl q.2))), if_neg (fun q => h (Or.inr (Or.inr q.2)))]
  rcases cx with ⟨b, rfl, hb⟩ | ⟨b, rfl, hb⟩ | ⟨v, rfl⟩ | ⟨v, p, rfl, hc⟩ | ⟨b, rfl⟩ | ⟨b, c, rfl, hb⟩ | ⟨b, c, rfl, hb⟩ | rfl | rfl
  · exact Or.inl ⟨non _ (show ¬ ((1 : Int32) = 5 ∨ (1 : Int32) = 6 ∨ (1 : Int32) = 7) by decide), fun ts u r ts' u' h => ptE_no h (fun q => absurd q.1 (by show ¬ 5 ≤ 1; decide))⟩
  · exact Or.inl ⟨non _ (show ¬ ((2 : Int32) = 5 ∨ (2 : Int32) = 6 ∨ (2 : Int32) = 7) by decide), fun ts u r ts' u' h => ptE_no h (fun q => absurd q.1 (by show ¬ 5 ≤ 2; decide))⟩
  · exact Or.inl ⟨non _ (show ¬ ((3 : Int32) = 5 ∨ (3 : Int32) = 6 ∨ (3 : Int32) = 7) by decide), fun ts u r ts' u' h => ptE_no h (fun q => absurd q.1 (by show ¬ 5 ≤ 3; decide))⟩
  · exact Or.inl ⟨non _ (show ¬ ((4 : Int32) = 5 ∨ (4 : Int32) = 6 ∨ (4 : Int32) = 7) by decide), fun ts u r ts' u' h => ptE_no h (fun q => absurd q.1 (by show ¬ 5 ≤ 4; decide))⟩
  · by_cases h0 : w = 0
    · subst h0
      exact Or.inr ⟨(5, 0, 0, b, []), if_pos ⟨rfl, Or.inl rfl⟩, cn5, ok0 o1 (Nat.zero_le _) (by decide), fun ts u r ts' u' h => pt_body (y := []) (by rw [en_5, List.append_nil]) (by decide) (by decide) h⟩
    · refine Or.inl ⟨?_, fun ts u r ts' u' h => ptE_no h (fun q => ?_)⟩
      · unfold ptX
        rw [if_neg (fun q => h0 q.1), if_neg (fun q => absurd (show (5 : Int32) = 6 from q.2) (by decide)), if_neg (fun q => absurd (show (5 : Int32) = 7 from q.2) (by decide))]
      · rcases q.2.2 with q | q | q
        · exact h0 q
        · exact absurd (show 5 = 6 from q.2) (by decide)
        · exact absurd (show 5 = 7 from q.2) (by decide)
  · by_cases h0 : w = 0
    · subst h0
      exact Or.inr ⟨(5, 0, 0, b, []), if_pos ⟨rfl, Or.inr (Or.inl rfl)⟩, cn5, ok0 o1 (Nat.zero_le _) (by decide), fun ts u r ts' u' h => pt_body (y := [64] ++ c) (by rw [en_6, List.append_assoc ([34] ++ b.flatMap esW ++ [34])]) (by decide) (by decide) h⟩
    · by_cases h1 : w = 1
      · subst h1
        refine Or.inr ⟨(5, 0, 0, c, []), ?_, cn5, ok0 (Nat.le_trans o2 (by decide)) (Nat.zero_le _) (by decide), fun ts u r ts' u' h => ?_⟩
        · unfold ptX
          rw [if_neg (fun q => h0 q.1), if_pos ⟨rfl, rfl⟩]
        · have h2 := ptE_1 h rfl
          rw [en_6] at h2
          dsimp only at h2
          rw [tx_d6] at h2
          rw [en_5, fm_id c hb]
          exact h2
      · refine Or.inl ⟨?_, fun ts u r ts' u' h => ptE_no h (fun q => ?_)⟩
        · unfold ptX
          rw [if_neg (fun q => h0 q.1), if_neg (fun q => h1 q.1), if_neg (fun q => absurd (show (6 : Int32) = 7 from q.2) (by decide))]
        · rcases q.2.2 with q | q | q
          · exact h0 q
          · exact h1 q.1
          · exact absurd (show 6 = 7 from q.2) (by decide)
  · by_cases h0 : w = 0
    · subst h0
      exact Or.inr ⟨(5, 0, 0, b, []), if_pos ⟨rfl, Or.inr (Or.inr rfl)⟩, cn5, ok0 o1 (Nat.zero_le _) (by decide), fun ts u r ts' u' h => pt_body (k := 7) (y := [94] ++ ([94] ++ ([60] ++ (c ++ [62])))) (by rw [en_7]; simp) (by decide) (by decide) h⟩
    · by_cases h1 : w = 2
      · subst h1
        refine Or.inr ⟨(2, 0, 0, c, []), ?_, cn2 hb, ok0 (Nat.le_trans o2 (by decide)) (Nat.zero_le _) (by decide), fun ts u r ts' u' h => ?_⟩
        · unfold ptX
          rw [if_neg (fun q => h0 q.1), if_neg (fun q => absurd (show (2 : Int32) = 1 from q.1) (by decide)), if_pos ⟨rfl, rfl⟩]
        · have h2 := ptE_2 h rfl
          rw [en_7] at h2
          dsimp only at h2
          rw [tx_d7] at h2
          rw [en_2]
          have e2 : ([60] ++ c ++ [62] : List Nat).length - 2 = c.length := by simp
          rw [e2] at h2
          exact h2
      · refine Or.inl ⟨?_, fun ts u r ts' u' h => ptE_no h (fun q => ?_)⟩
        · unfold ptX
          rw [if_neg (fun q => h0 q.1), if_neg (fun q => absurd (show (7 : Int32) = 6 from q.2) (by decide)), if_neg (fun q => h1 q.1)]
        · rcases q.2.2 with q | q | q
          · exact h0 q
          · exact absurd (show 7 = 6 from q.2) (by decide)
          · exact h1 q.1
  · exact Or.inl ⟨non _ (by decide), fun ts u r ts' u' h => ptE_no h (fun q => absurd q.2.1 (by show ¬ 8 ≤ 7; decide))⟩
  · exact Or.inl ⟨non _ (by decide), fun ts u r ts' u' h => ptE_no h (fun q => absurd q.2.1 (by show ¬ 8 ≤ 7; decide))⟩
theorem pt_bd {x : Tm} (cx : cn x) : 5 ≤ (en x).1 → (en x).1 ≤ 7 → (en x).2.2 + 1 ≤ (en x).2.1.length ∧ ((en x).1 = 6 → (en x).2.2 + 2 ≤ (en x).2.1.length) ∧ ((en x).1 = 7 → (en x).2.2 + 5 ≤ (en x).2.1.length) := by
  intro h5 h7
  rcases cx with ⟨b, rfl, hb⟩ | ⟨b, rfl, hb⟩ | ⟨v, rfl⟩ | ⟨v, p, rfl, hc⟩ | ⟨b, rfl⟩ | ⟨b, c, rfl, hb⟩ | ⟨b, c, rfl, hb⟩ | rfl | rfl
  · exact absurd (show 5 ≤ 1 from h5) (by decide)
  · exact absurd (show 5 ≤ 2 from h5) (by decide)
  · exact absurd (show 5 ≤ 3 from h5) (by decide)
  · exact absurd (show 5 ≤ 4 from h5) (by decide)
  · rw [en_5]
    simp only [List.length_append, List.length_cons, List.length_nil]
    exact ⟨by omega, fun h => absurd h (by decide), fun h => absurd h (by decide)⟩
  · rw [en_6]
    simp only [List.length_append, List.length_cons, List.length_nil]
    exact ⟨by omega, fun _ => by omega, fun h => absurd h (by decide)⟩
  · rw [en_7]
    simp only [List.length_append, List.length_cons, List.length_nil]
    exact ⟨by omega, fun h => absurd h (by decide), fun _ => by omega⟩
  · exact absurd (show 8 ≤ 7 from h7) (by decide)
  · exact absurd (show 8 ≤ 7 from h7) (by decide)
section PRJ
variable {c0 n z u pl : Nat} {t o : List Nat} {T : List Tm} {F : Nat → Option va_E} {σ : Nat → Int32} {τ : Nat → Nat → Int32}
theorem pv_part (hM : RM c0 (hp c0 n z F) σ τ) (hc : cT T) (ho : oT T) (hT : T.length ≤ 2000) {i : Nat} (hi : i < T.length) (w : Int32) : PV Value.int c0 z T.length σ τ True (ptP c0 z F t T u o pl (ptX (T.getD i tm0) w)) (fun r σ' τ' => ∃ ts' u', RC ts' t u' pl o σ' τ' ∧ ptR (T.map en) i u w r ts' u') := by
  rcases pt_link (hc i hi) (ho i hi) w with ⟨e, h⟩ | ⟨y, e, cy, oy, h⟩
  · rw [e]
    refine pv_nof hM hc ?_
    rintro r σ' τ' ⟨ts', u', h1, h2⟩
    exact ⟨ts', u', h1, h _ _ _ _ _ (ptR_E hi h2)⟩
  · rw [e]
    refine pv_kp hM hc ho cy oy hT ?_
    rintro r σ' τ' ⟨ts', u', h1, h2⟩
    exact ⟨ts', u', h1, h _ _ _ _ _ (ptR_E hi h2)⟩
end PRJ
/-- the numbers that are no term's -/
theorem no_cl {σ : Nat → Int32} {m : Nat} (h7 : σ 7 = nI m) {a : Int32} (h : noT σ a) : a < 1 ∨ (¬ a < 1 ∧ nI m < a) := by
  unfold noT at h
  rw [h7] at h
  by_cases c : a < 1
  · exact Or.inl c
  · refine Or.inr ⟨c, ?_⟩
    have h0 : ¬ a ≤ 0 := by
      rw [Int32.lt_iff_toInt_lt] at c
      rw [Int32.le_iff_toInt_le]
      have e1 : (1 : Int32).toInt = 1 := rfl
      have e0 : (0 : Int32).toInt = 0 := rfl
      omega
    by_cases c2 : nI m < a
    · exact c2
    · simp [h0, c2] at h
