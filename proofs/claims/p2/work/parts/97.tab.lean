/-! One table, kept twice: T and T.map en. -/
section MEN
variable {T : List Tm} {i : Nat}
theorem men (h : i < T.length) : (T.map en).getD i (0, [], 0) = en (T.getD i tm0) := by
  rw [List.getD_eq_getElem?_getD, List.getElem?_map, List.getElem?_eq_getElem h, List.getD_eq_getElem?_getD, List.getElem?_eq_getElem h]; rfl
theorem m_knd (h : i < T.length) : knd (T.map en) i = (en (T.getD i tm0)).1 := by unfold knd; rw [men h]
theorem m_bys (h : i < T.length) : bys (T.map en) i = (en (T.getD i tm0)).2.1 := by unfold bys; rw [men h]
theorem m_quo (h : i < T.length) : quo (T.map en) i = (en (T.getD i tm0)).2.2 := by unfold quo; rw [men h]
theorem m_len : (T.map en).length = T.length := List.length_map en
def cT (T : List Tm) : Prop := ∀ i, i < T.length → cn (T.getD i tm0)
def oT (T : List Tm) : Prop := ∀ i, i < T.length → okT (T.getD i tm0)
theorem isP_m {x : Tm} (hc : cT T) (ho : oT T) (cx : cn x) (ox : okT x) (hi : i < T.length) : isP (T.map en) (en x).1 (en x).2.1 i ↔ T.getD i tm0 = x := by
  unfold isP
  rw [m_knd hi, m_bys hi]
  constructor
  · rintro ⟨h1, h2⟩; exact en_inj (hc i hi) cx (ho i hi) ox h1 h2
  · intro h; rw [h]; exact ⟨rfl, rfl⟩
theorem fnT_0 {x : Tm} : ∀ (m i : Nat), (∀ k, i ≤ k → k < i + m → T.getD k tm0 ≠ x) → fnT T x m i = -2 := by
  intro m
  induction m with
  | zero => intro i _; rfl
  | succ m ih =>
    intro i h
    rw [fnT, if_neg (h i (Nat.le_refl _) (by omega))]
    exact ih (i + 1) (fun k h1 h2 => h k (by omega) (by omega))
theorem fnT_j {x : Tm} {k : Nat} (hk : T.getD k tm0 = x) : ∀ (m i : Nat), i ≤ k → k < i + m → (∀ l, i ≤ l → l < k → T.getD l tm0 ≠ x) → fnT T x m i = nI (k + 1) := by
  intro m
  induction m with
  | zero => intro i h1 h2; omega
  | succ m ih =>
    intro i h1 h2 h
    rw [fnT]
    by_cases e : i = k
    · rw [if_pos (by rw [e]; exact hk), e]
    · rw [if_neg (h i (Nat.le_refl _) (by omega))]
      exact ih (i + 1) (by omega) (by omega) (fun l h3 h4 => h l (by omega) h4)
theorem fd_m {x : Tm} (hc : cT T) (ho : oT T) (cx : cn x) (ox : okT x) {j : Nat} (h : fdP (T.map en) (en x).1 (en x).2.1 j) : (0 < j ∧ j ≤ T.length ∧ numT T x = nI j) ∨ (j = 0 ∧ numT T x = -2) := by
  rcases h with ⟨⟨h1, h2, h3⟩, h4⟩ | ⟨h1, h2⟩
  · rw [m_len] at h2
    refine Or.inl ⟨h1, h2, ?_⟩
    have e := fnT_j (T := T) (k := j - 1) ((isP_m hc ho cx ox (by omega)).mp h3) T.length 0 (by omega) (by omega) (fun l _ hl e => h4 l hl ((isP_m hc ho cx ox (by omega)).mpr e))
    rw [show j - 1 + 1 = j by omega] at e
    exact e
  · refine Or.inr ⟨h1, fnT_0 T.length 0 (fun k _ hk e => ?_)⟩
    exact h2 k (by rw [m_len]; omega) ((isP_m hc ho cx ox (by omega)).mpr e)
theorem cT_s {x : Tm} (hc : cT T) (cx : cn x) : cT (T ++ [x]) := by
  intro i hi
  rw [List.length_append, List.length_cons, List.length_nil] at hi
  rw [getD_tm hi]
  split
  · next q => exact hc i q
  · exact cx
theorem map_s {x : Tm} : (T ++ [x]).map en = T.map en ++ [en x] := by rw [List.map_append]; rfl
end MEN
/-- kept on both sides -/
theorem kp_md {c0 z u pl u' : Nat} {F : Nat → Option va_E} {t o : List Nat} {T : List Tm} {x : Tm} {rA rB : Option Value} {h' : ev_H} {ts' : RT} (hc : cT T) (ho : oT T) (cx : cn x) (ox : okT x) (hK : kP c0 z F t T u o pl x rA h') (hM : mdR (T.map en) (en x).1 (en x).2.1 (en x).2.2 u (sm x) rB ts' u') (hT : T.length ≤ 2000) : ∃ T' v, ts' = T'.map en ∧ cT T' ∧ T'.length ≤ T.length + 1 ∧ rB = some (.int v) ∧ cP c0 z F t T' u' o pl (.int v) rA h' := by
  rcases hM with ⟨j, h1, h2, rfl, rfl, rfl⟩ | ⟨h2, h3, rfl, rfl, rfl⟩ | ⟨h2, h3, h4, rfl, rfl, rfl⟩
  · rcases fd_m hc ho cx ox h2 with ⟨-, e2, e3⟩ | ⟨e1, -⟩
    · have hn : ¬ numT T x = -2 := by
        rw [e3]
        intro e
        have := nI_pos (n := j) (by omega)
        rw [e] at this
        exact this (by decide)
      rcases hK with ⟨-, k2⟩ | ⟨k1, -⟩ | ⟨k1, -⟩
      · rw [e3] at k2
        exact ⟨T, nI j, rfl, hc, by omega, rfl, k2⟩
      · exact absurd k1 hn
      · exact absurd k1 hn
    · omega
  · rcases fd_m hc ho cx ox h2 with ⟨e1, -⟩ | ⟨-, e3⟩
    · omega
    · rw [m_len] at h3
      rcases hK with ⟨k1, -⟩ | ⟨-, -, k3⟩ | ⟨-, k2, k3, -⟩
      · exact absurd e3 k1
      · exact ⟨T, -3, rfl, hc, by omega, rfl, k3⟩
      · unfold sm at h3; omega
  · rcases fd_m hc ho cx ox h2 with ⟨e1, -⟩ | ⟨-, e3⟩
    · omega
    · rw [m_len] at h3 ⊢
      rcases hK with ⟨k1, -⟩ | ⟨-, k2, -⟩ | ⟨-, -, -, k4⟩
      · exact absurd e3 k1
      · unfold sm at h4; omega
      · exact ⟨T ++ [x], nI (T.length + 1), by rw [map_s], cT_s hc cx, by rw [List.length_append, List.length_cons, List.length_nil]; omega, rfl, k4⟩
theorem nbl_len (D : List Nat) (p : Nat) : ∀ k, (nbl D p k).length ≤ 2 * k := by
  intro k
  induction k with
  | zero => rw [nbl]; exact Nat.le_refl _
  | succ k ih =>
    rw [nbl]
    simp only [List.length_append, List.length_cons, List.length_nil]
    split <;> simp only [List.length_cons, List.length_nil] <;> omega
theorem nuW_len {x : Tm} {r : Nat} : (nuW x r).length ≤ 40 := by
  unfold nuW
  have h1 := tdl_len 18 0 r (x.2.2.1 + 1)
  have h2 := nbl_len (tdl 18 0 r (x.2.2.1 + 1)) x.2.2.1 (tdl 18 0 r (x.2.2.1 + 1)).length
  rw [List.length_append, List.length_append, wl_7]
  have h3 : (if 0 ≤ lg_cmp x.2.1 0 then ([] : List Nat) else [45]).length ≤ 1 := by split <;> simp
  have h4 : (if x.1 = 4 ∧ x.2.2.1 = 0 then [46, 48] else ([] : List Nat)).length ≤ 2 := by split <;> simp
  omega
theorem en_len {x : Tm} (hc : cn x) (ho : okT x) : (en x).2.1.length ≤ 200 := by
  obtain ⟨h1, h2, -⟩ := ho
  rcases hc with ⟨b, rfl, hb⟩ | ⟨b, rfl, hb⟩ | ⟨v, rfl⟩ | ⟨v, p, rfl, hc⟩ | ⟨b, rfl⟩ | ⟨b, c, rfl, hb⟩ | ⟨b, c, rfl, hb⟩ | rfl | rfl
  · dsimp only at h1
    rw [en_1]
    simp only [List.length_append, List.length_cons, List.length_nil]; omega
  · dsimp only at h1
    rw [en_2]
    simp only [List.length_append, List.length_cons, List.length_nil]; omega
  · exact Nat.le_trans (nuW_len (x := (3, v, 0, [], []))) (by decide)
  · exact Nat.le_trans (nuW_len (x := (4, v, p, [], []))) (by decide)
  · dsimp only at h1
    have := fm_len b
    rw [en_5]
    simp only [List.length_append, List.length_cons, List.length_nil]; omega
  · dsimp only at h1 h2
    have := fm_len b
    rw [en_6]
    simp only [List.length_append, List.length_cons, List.length_nil]; omega
  · dsimp only at h1 h2
    have := fm_len b
    rw [en_7]
    simp only [List.length_append, List.length_cons, List.length_nil]; omega
  · exact (by decide : (wl 1).length ≤ 200)
  · exact (by decide : (wl 0).length ≤ 200)
theorem off_200 : ∀ (ts : RT) (n : Nat), (∀ e, e ∈ ts → e.2.1.length ≤ 200) → off ts n ≤ 200 * n := by
  intro ts
  induction ts with
  | nil => intro n _; cases n <;> simp [off]
  | cons a ts ih =>
    intro n h
    cases n with
    | zero => simp [off]
    | succ n =>
      rw [off]
      have h1 := h a List.mem_cons_self
      have h2 := ih n (fun e he => h e (List.mem_cons_of_mem _ he))
      omega
theorem room {T : List Tm} (hc : cT T) (ho : oT T) (h : T.length ≤ 600) : off (T.map en) (T.map en).length + 260 ≤ 132000 := by
  have := off_200 (T.map en) (T.map en).length (fun e he => by
    obtain ⟨x, hx, rfl⟩ := List.mem_map.mp he
    obtain ⟨i, hi, e⟩ := List.mem_iff_getElem.mp hx
    have e2 : T.getD i tm0 = x := by rw [List.getD_eq_getElem?_getD, List.getElem?_eq_getElem hi, e]; rfl
    rw [← e2]
    exact en_len (hc i hi) (ho i hi))
  rw [m_len] at this ⊢
  omega
