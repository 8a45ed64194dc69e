/-! The reference's rows of a term; the dot of a decimal; scale. -/
theorem gd_at (pre post : List Nat) (a : Nat) : (pre ++ (a :: post)).getD pre.length 0 = a := by simp [List.getD_eq_getElem?_getD]
theorem seg_fm : ∀ (A l pre post : List Nat), l = pre ++ (A.flatMap esW ++ post) → seg l (pre.length + (A.flatMap esW).length) pre.length A := by
  intro A
  induction A with
  | nil => intro l pre post e; show pre.length = pre.length + 0; omega
  | cons a A ih =>
    intro l pre post e
    rw [List.flatMap_cons] at e ⊢
    rcases esW_c a with ⟨h1, h2, h3⟩ | ⟨y, h3, h4⟩
    · rw [h3] at e ⊢
      have h0 : l.getD pre.length 0 = a := by rw [e]; exact gd_at pre _ a
      have h5 := ih l (pre ++ [a]) post (by rw [e]; simp)
      rw [List.length_append] at h5 ⊢
      refine ⟨by simp only [List.length_cons, List.length_nil]; omega, ?_, ?_⟩
      · unfold itA; rw [if_neg (by rw [h0]; exact h2), h0]
      · rw [if_neg (by rw [h0]; exact h2)]
        simp only [List.length_cons, List.length_nil, Nat.zero_add] at h5 ⊢
        rw [← Nat.add_assoc]
        exact h5
    · rw [h3] at e ⊢
      have h0 : l.getD pre.length 0 = 92 := by rw [e]; exact gd_at pre _ 92
      have h6 : l.getD (pre.length + 1) 0 = y := by
        have := gd_at (pre ++ [92]) (A.flatMap esW ++ post) y
        rw [List.length_append, List.length_cons, List.length_nil, Nat.zero_add] at this
        rw [e]
        rw [← this]
        simp
      have h5 := ih l (pre ++ [92, y]) post (by rw [e]; simp)
      rw [List.length_append] at h5 ⊢
      refine ⟨by simp only [List.length_cons, List.length_nil]; omega, ?_, ?_⟩
      · unfold itA; rw [if_pos h0, h6, h4]; rfl
      · rw [if_pos h0]
        simp only [List.length_cons, List.length_nil, Nat.zero_add] at h5 ⊢
        rw [← Nat.add_assoc]
        exact h5
theorem n92_fm {b : List Nat} (h : n92 b) : b.flatMap esW = b := fm_id b h
/-- what the reference's order takes behind the body -/
def tlR (x : Tm) : List Nat := if x.1 = 6 then [64] ++ x.2.2.2.2 else if x.1 = 7 then [94] ++ ([94] ++ ([60] ++ x.2.2.2.2)) else []
theorem n92_c {a : Nat} {l : List Nat} (ha : esW a = [a]) (h : n92 l) : n92 ([a] ++ l) := by
  intro x hx
  rcases List.mem_cons.mp hx with rfl | hx
  · exact ha
  · exact h x hx
theorem seg_n {l A pre post : List Nat} {p e : Nat} (hA : n92 A) (h : l = pre ++ (A ++ post)) (hp : pre.length = p) (he : p + A.length = e) : seg l e p A := by
  have h1 := seg_fm A l pre post (by rw [n92_fm hA]; exact h)
  rw [n92_fm hA, hp, he] at h1
  exact h1
theorem twf_m {T : List Tm} (hc : cT T) {i : Nat} (hi : i < T.length) : twf (T.map en) i (T.getD i tm0).2.2.2.1 (tlR (T.getD i tm0)) := by
  unfold twf
  rw [m_knd hi, m_bys hi, m_quo hi]
  rcases hc i hi with ⟨b, e, hb⟩ | ⟨b, e, hb⟩ | ⟨v, e⟩ | ⟨v, p, e, hc⟩ | ⟨b, e⟩ | ⟨b, c, e, hb⟩ | ⟨b, c, e, hb⟩ | e | e <;> rw [e]
  · rw [en_1]
    dsimp only
    refine ⟨by decide, fun _ => ?_, fun h => absurd h (by decide), fun h => absurd h (by decide)⟩
    exact seg_n hb (show [95, 58] ++ b = [95, 58] ++ (b ++ []) by rw [List.append_nil]) rfl (by simp only [List.length_append, List.length_cons, List.length_nil])
  · rw [en_2]
    dsimp only
    refine ⟨by decide, fun h => absurd h (by decide), fun _ => ⟨by simp only [List.length_append, List.length_cons, List.length_nil]; omega, ?_⟩, fun h => absurd h (by decide)⟩
    exact seg_n (pre := [60]) (post := [62]) hb (List.append_assoc _ _ _) rfl (by simp only [List.length_append, List.length_cons, List.length_nil]; omega)
  · exact ⟨(by decide : 1 ≤ 3 ∧ 3 ≤ 8), fun h => absurd (show 3 = 1 from h) (by decide), fun h => absurd (show 3 = 2 from h) (by decide), fun h => absurd (show 5 ≤ 3 from h) (by decide)⟩
  · exact ⟨(by decide : 1 ≤ 4 ∧ 4 ≤ 8), fun h => absurd (show 4 = 1 from h) (by decide), fun h => absurd (show 4 = 2 from h) (by decide), fun h => absurd (show 5 ≤ 4 from h) (by decide)⟩
  · rw [en_5]
    dsimp only
    refine ⟨by decide, fun h => absurd h (by decide), fun h => absurd h (by decide), fun _ _ => ⟨?_, ?_, ?_, ?_⟩⟩
    · simp only [List.length_append, List.length_cons, List.length_nil]; omega
    · simp only [List.length_append, List.length_cons, List.length_nil]; omega
    · have := seg_fm b ([34] ++ b.flatMap esW ++ [34]) [34] [34] (List.append_assoc _ _ _)
      rw [show ([34] : List Nat).length + (b.flatMap esW).length = (b.flatMap esW).length + 1 by simp only [List.length_cons, List.length_nil]; omega] at this
      exact this
    · show (b.flatMap esW).length + 1 + 1 = _
      rw [if_neg (by decide)]
      simp only [List.length_append, List.length_cons, List.length_nil]; omega
  · rw [en_6]
    dsimp only
    refine ⟨by decide, fun h => absurd h (by decide), fun h => absurd h (by decide), fun _ _ => ⟨?_, ?_, ?_, ?_⟩⟩
    · simp only [List.length_append, List.length_cons, List.length_nil]; omega
    · simp only [List.length_append, List.length_cons, List.length_nil]; omega
    · have := seg_fm b ([34] ++ b.flatMap esW ++ [34] ++ [64] ++ c) [34] ([34] ++ ([64] ++ c)) (by simp)
      rw [show ([34] : List Nat).length + (b.flatMap esW).length = (b.flatMap esW).length + 1 by simp only [List.length_cons, List.length_nil]; omega] at this
      exact this
    · rw [show tlR (6, 0, 0, b, c) = [64] ++ c from rfl]
      exact seg_n (pre := [34] ++ b.flatMap esW ++ [34]) (post := []) (show n92 ([64] ++ c) from n92_c (by decide) hb) (by simp) (by simp only [List.length_append, List.length_cons, List.length_nil]; omega) (by rw [if_neg (by decide)]; simp only [List.length_append, List.length_cons, List.length_nil]; omega)
  · rw [en_7]
    dsimp only
    refine ⟨by decide, fun h => absurd h (by decide), fun h => absurd h (by decide), fun _ _ => ⟨?_, ?_, ?_, ?_⟩⟩
    · simp only [List.length_append, List.length_cons, List.length_nil]; omega
    · simp only [List.length_append, List.length_cons, List.length_nil]; omega
    · have := seg_fm b ([34] ++ b.flatMap esW ++ [34] ++ [94] ++ [94] ++ [60] ++ c ++ [62]) [34] ([34] ++ ([94] ++ ([94] ++ ([60] ++ (c ++ [62]))))) (by simp)
      rw [show ([34] : List Nat).length + (b.flatMap esW).length = (b.flatMap esW).length + 1 by simp only [List.length_cons, List.length_nil]; omega] at this
      exact this
    · rw [show tlR (7, 0, 0, b, c) = [94] ++ ([94] ++ ([60] ++ c)) from rfl]
      exact seg_n (pre := [34] ++ b.flatMap esW ++ [34]) (post := [62]) (show n92 ([94] ++ ([94] ++ ([60] ++ c))) from n92_c (by decide) (n92_c (by decide) (n92_c (by decide) hb))) (by simp) (by simp only [List.length_append, List.length_cons, List.length_nil]; omega) (by rw [if_pos rfl]; simp only [List.length_append, List.length_cons, List.length_nil]; omega)
  · exact ⟨(by decide : 1 ≤ 8 ∧ 8 ≤ 8), fun h => absurd (show 8 = 1 from h) (by decide), fun h => absurd (show 8 = 2 from h) (by decide), fun _ h => absurd (show 8 ≤ 7 from h) (by decide)⟩
  · exact ⟨(by decide : 1 ≤ 8 ∧ 8 ≤ 8), fun h => absurd (show 8 = 1 from h) (by decide), fun h => absurd (show 8 = 2 from h) (by decide), fun _ h => absurd (show 8 ≤ 7 from h) (by decide)⟩
/-- the dot -/
theorem sgW_46 {v : Int64} : ∀ x, x ∈ sgW v → x ≠ 46 := by
  unfold sgW
  split
  · intro x hx; exact absurd hx List.not_mem_nil
  · intro x hx; rw [List.mem_singleton] at hx; omega
theorem dot_at {l pre d : List Nat} (h : l = pre ++ (46 :: d)) (hp : ∀ x, x ∈ pre → x ≠ 46) : dotp l = pre.length ∧ l.length = pre.length + 1 + d.length := by
  have hl : l.length = pre.length + 1 + d.length := by rw [h]; simp only [List.length_append, List.length_cons]; omega
  refine ⟨dotp_is l pre.length (by omega) (fun j hj => ?_) (fun _ => by rw [h]; exact gd_at pre d 46), hl⟩
  rw [h, gd_app hj, List.getD_eq_getElem?_getD, List.getElem?_eq_getElem hj]
  exact hp _ (List.getElem_mem _)
theorem scl_4 {v : Int64} {p : Nat} (hc : p = 0 ∨ v - v / 10 * 10 ≠ 0) (ox : okT (4, v, p, [], [])) : dotp (en (4, v, p, [], [])).2.1 < (en (4, v, p, [], [])).2.1.length ∧ scl (en (4, v, p, [], [])).2.1 = p := by
  obtain ⟨-, -, ov, op, -⟩ := ox
  obtain ⟨s, r, hr, e, hm⟩ := okv ov
  dsimp only at e hm op
  obtain ⟨a, d, h1, h2, h3, h4, h5⟩ := nu_4 (v := v) (b := []) (c := []) hr op
  have hb : (en (4, v, p, [], [])).2.1 = (sgW v ++ a) ++ (46 :: d) := by
    show nuW (4, v, p, [], []) (mag v) = _
    rw [hm, h1, List.append_assoc]
  have hp : ∀ x, x ∈ sgW v ++ a → x ≠ 46 := by
    intro x hx
    rcases List.mem_append.mp hx with hx | hx
    · exact sgW_46 x hx
    · have := h2 x hx; omega
  obtain ⟨k1, k2⟩ := dot_at hb hp
  refine ⟨by omega, ?_⟩
  unfold scl
  rw [k1, k2]
  rcases h5 with ⟨rfl, e1, e2⟩ | ⟨e0, e1, e2⟩
  · subst e1
    refine if_pos ⟨by simp only [List.length_cons, List.length_nil], ?_⟩
    rw [hb]
    have := gd_at ((sgW v ++ a) ++ [46]) [] 48
    rw [List.length_append (as := sgW v ++ a), List.length_cons, List.length_nil, Nat.zero_add] at this
    rw [List.append_assoc (sgW v ++ a) [46]] at this
    exact this
  · rw [if_neg]
    · omega
    · rintro ⟨q1, q2⟩
      have hd1 : d.length = 1 := by omega
      obtain ⟨y, rfl⟩ := List.length_eq_one_iff.mp hd1
      rw [hb] at q2
      have := gd_at ((sgW v ++ a) ++ [46]) [] y
      rw [List.length_append (as := sgW v ++ a), List.length_cons, List.length_nil, Nat.zero_add] at this
      rw [List.append_assoc (sgW v ++ a) [46]] at this
      have hy : y = 48 := this.symm.trans q2
      subst hy
      rw [ofD_s] at e2
      rcases hc with hc | hc
      · omega
      · rw [e] at hc
        exact hc ((sN_rem hr).mpr (by omega))
