/-! What the reference keeps tells the term: en is one to one on what is kept. -/
theorem tdl_ex : ∀ (m i r ep : Nat), r < 10 ^ m → ∃ e, tdl m i r ep = e.reverse ∧ digs e ∧ ofD e = r ∧ (ep - i ≤ m → ep ≤ i + e.length) := by
  intro m
  induction m with
  | zero => intro i r ep hr; exact ⟨[], rfl, digs_nil, by rw [ofD_nil]; simp at hr; omega, fun h => by rw [List.length_nil]; omega⟩
  | succ m ih =>
    intro i r ep hr
    by_cases hc : 0 < r ∨ i < ep
    · obtain ⟨e, h1, h2, h3, h4⟩ := ih (i + 1) (r / 10) ep (by rw [Nat.pow_succ] at hr; omega)
      refine ⟨e ++ [48 + r % 10], ?_, digs_s h2 (by omega), ?_, fun h => ?_⟩
      · rw [tdl, if_pos hc, h1, List.reverse_append]; rfl
      · rw [ofD_s, h3]; omega
      · have := h4 (by omega)
        rw [List.length_append, List.length_cons, List.length_nil]; omega
    · exact ⟨[], by rw [tdl, if_neg hc]; rfl, digs_nil, by rw [ofD_nil]; omega, fun h => by rw [List.length_nil]; omega⟩
def sgW (v : Int64) : List Nat := if 0 ≤ lg_cmp v 0 then [] else [45]
theorem nu_3 {v : Int64} {b c : List Nat} {r : Nat} (hr : r < 10 ^ 18) : ∃ e, nuW (3, v, 0, b, c) r = sgW v ++ e ∧ digs e ∧ ofD e = r := by
  obtain ⟨e, h1, h2, h3, h4⟩ := tdl_ex 18 0 r (0 + 1) hr
  have hp := h4 (by omega)
  refine ⟨e, ?_, h2, h3⟩
  show sgW v ++ nbl (tdl 18 0 r (0 + 1)) 0 (tdl 18 0 r (0 + 1)).length ++ (if (3 : Int32) = 4 ∧ (0 : Nat) = 0 then wl 7 else []) = _
  rw [h1, List.length_reverse, nbl_all (by omega), if_pos rfl, if_neg (by decide), List.append_nil, Nat.sub_zero, List.take_length, List.drop_length, List.append_nil, List.append_nil]
theorem nu_4 {v : Int64} {b c : List Nat} {r p : Nat} (hr : r < 10 ^ 18) (hp9 : p ≤ 9) : ∃ a d, nuW (4, v, p, b, c) r = sgW v ++ (a ++ (46 :: d)) ∧ digs a ∧ digs d ∧ a ≠ [] ∧ ((p = 0 ∧ d = [48] ∧ ofD a = r) ∨ (0 < p ∧ d.length = p ∧ ofD (a ++ d) = r)) := by
  obtain ⟨e, h1, h2, h3, h4⟩ := tdl_ex 18 0 r (p + 1) hr
  have hp := h4 (by omega)
  have e1 : nuW (4, v, p, b, c) r = sgW v ++ (e.take (e.length - p) ++ ((if p = 0 then [] else [46]) ++ e.drop (e.length - p))) ++ (if p = 0 then [46, 48] else []) := by
    show sgW v ++ nbl (tdl 18 0 r (p + 1)) p (tdl 18 0 r (p + 1)).length ++ (if (4 : Int32) = 4 ∧ p = 0 then wl 7 else []) = _
    rw [h1, List.length_reverse, nbl_all (by omega), wl_7]
    by_cases h0 : p = 0
    · rw [if_pos (show (4 : Int32) = 4 ∧ p = 0 from ⟨rfl, h0⟩), if_pos h0, if_pos h0]
    · rw [if_neg (fun h : (4 : Int32) = 4 ∧ p = 0 => h0 h.2), if_neg h0, if_neg h0]
  by_cases h0 : p = 0
  · subst h0
    refine ⟨e, [48], ?_, h2, fun x hx => by rw [List.mem_singleton] at hx; omega, fun h => by rw [h] at hp; simp at hp, Or.inl ⟨rfl, rfl, h3⟩⟩
    rw [e1, if_pos rfl, if_pos rfl, Nat.sub_zero, List.take_length, List.drop_length, List.append_nil, List.append_nil, List.append_assoc]
  · refine ⟨e.take (e.length - p), e.drop (e.length - p), ?_, fun x hx => h2 x (List.mem_of_mem_take hx), fun x hx => h2 x (List.mem_of_mem_drop hx), ?_, Or.inr ⟨by omega, ?_, by rw [List.take_append_drop]; exact h3⟩⟩
    · rw [e1, if_neg h0, if_neg h0, List.append_nil]; rfl
    · intro h
      have := congrArg List.length h
      rw [List.length_take, List.length_nil] at this
      omega
    · rw [List.length_drop]; omega
theorem sg_cn {v v' : Int64} {a a' : List Nat} (ha : digs a) (ha' : digs a') {y y' : List Nat} (hn : a ≠ []) (hn' : a' ≠ []) (h : sgW v ++ (a ++ y) = sgW v' ++ (a' ++ y')) : sgW v = sgW v' ∧ a ++ y = a' ++ y' := by
  have key : ∀ (c c' : List Nat), digs c → c ≠ [] → ∀ (w w' : List Nat), c ++ w = 45 :: w' → False := by
    intro c c' hc hcn w w' e
    cases c with
    | nil => exact hcn rfl
    | cons x c =>
      injection e with e1 _
      have := hc x List.mem_cons_self
      omega
  unfold sgW at h ⊢
  by_cases c1 : 0 ≤ lg_cmp v 0
  · by_cases c2 : 0 ≤ lg_cmp v' 0
    · rw [if_pos c1, if_pos c2] at h ⊢; exact ⟨rfl, h⟩
    · rw [if_pos c1, if_neg c2] at h; exact (key a a' ha hn _ _ h).elim
  · by_cases c2 : 0 ≤ lg_cmp v' 0
    · rw [if_neg c1, if_pos c2] at h; exact (key a' a ha' hn' _ _ h.symm).elim
    · rw [if_neg c1, if_neg c2] at h ⊢
      injection h with _ h
      exact ⟨rfl, h⟩
theorem sg_v {s s' : Bool} {r : Nat} (hr : r < 10 ^ 18) (h : sgW (sN s r) = sgW (sN s' r)) : sN s r = sN s' r := by
  have hp := sg_p hr
  have hn := sg_n hr
  unfold sgW at h
  cases s <;> cases s'
  · rfl
  · rw [show sN false r = lN r from rfl, show sN true r = -lN r from rfl, if_pos hp] at h
    by_cases c : 0 ≤ lg_cmp (-lN r) 0
    · have := hn.mp c; subst this; rfl
    · rw [if_neg c] at h; cases h
  · rw [show sN false r = lN r from rfl, show sN true r = -lN r from rfl, if_pos hp] at h
    by_cases c : 0 ≤ lg_cmp (-lN r) 0
    · have := hn.mp c; subst this; rfl
    · rw [if_neg c] at h; cases h
  · rfl
theorem dot_cn : ∀ (a a' d d' : List Nat), digs a → digs a' → a ++ (46 :: d) = a' ++ (46 :: d') → a = a' ∧ d = d' := by
  intro a
  induction a with
  | nil =>
    intro a' d d' h h' e
    cases a' with
    | nil => injection e with _ e; exact ⟨rfl, e⟩
    | cons x a' =>
      injection e with e _
      have := h' x List.mem_cons_self
      omega
  | cons x a ih =>
    intro a' d d' h h' e
    cases a' with
    | nil =>
      injection e with e _
      have := h x List.mem_cons_self
      omega
    | cons x' a' =>
      injection e with e1 e2
      obtain ⟨h1, h2⟩ := ih a' d d' (fun y hy => h y (List.mem_cons_of_mem _ hy)) (fun y hy => h' y (List.mem_cons_of_mem _ hy)) e2
      exact ⟨by rw [e1, h1], h2⟩
theorem okv {v : Int64} (h : ∃ r : Nat, r < 10 ^ 18 ∧ (v = lN r ∨ v = -lN r)) : ∃ s r, r < 10 ^ 18 ∧ v = sN s r ∧ mag v = r := by
  obtain ⟨r, hr, e | e⟩ := h
  · exact ⟨false, r, hr, e, by rw [e]; exact mag_s (s := false) hr⟩
  · exact ⟨true, r, hr, e, by rw [e]; exact mag_s (s := true) hr⟩
theorem ne_of {a : List Nat} (h : digs a) (e : 0 < a.length) : a ≠ [] := fun h => by rw [h] at e; exact absurd e (by decide)
theorem in_3 {v v' : Int64} (ov : ∃ r : Nat, r < 10 ^ 18 ∧ (v = lN r ∨ v = -lN r)) (ov' : ∃ r : Nat, r < 10 ^ 18 ∧ (v' = lN r ∨ v' = -lN r)) (h : nuW (3, v, 0, [], []) (mag v) = nuW (3, v', 0, [], []) (mag v')) : v = v' := by
  obtain ⟨s, r, hr, rfl, hm⟩ := okv ov
  obtain ⟨s', r', hr', rfl, hm'⟩ := okv ov'
  rw [hm, hm'] at h
  obtain ⟨e, h1, h2, h3⟩ := nu_3 (v := sN s r) (b := []) (c := []) hr
  obtain ⟨e', h1', h2', h3'⟩ := nu_3 (v := sN s' r') (b := []) (c := []) hr'
  rw [h1, h1'] at h
  have hn : ∀ (w : Int64) (r : Nat) (hr : r < 10 ^ 18) (e : List Nat), nuW (3, w, 0, [], []) r = sgW w ++ e → e ≠ [] := by
    intro w r hr e he h0
    obtain ⟨e2, g1, g2, g3, g4⟩ := tdl_ex 18 0 r (0 + 1) hr
    have hp := g4 (by omega)
    have hh : nuW (3, w, 0, [], []) r = sgW w ++ e2 := by
      show sgW w ++ nbl (tdl 18 0 r (0 + 1)) 0 (tdl 18 0 r (0 + 1)).length ++ (if (3 : Int32) = 4 ∧ (0 : Nat) = 0 then wl 7 else []) = _
      rw [g1, List.length_reverse, nbl_all (by omega), if_pos rfl, if_neg (by decide), List.append_nil, Nat.sub_zero, List.take_length, List.drop_length, List.append_nil, List.append_nil]
    rw [hh] at he
    have := List.append_cancel_left he
    rw [this, h0] at hp
    simp at hp
  obtain ⟨k1, k2⟩ := sg_cn (y := []) (y' := []) h2 h2' (hn _ _ hr _ h1) (hn _ _ hr' _ h1') (by rw [List.append_nil, List.append_nil]; exact h)
  rw [List.append_nil, List.append_nil] at k2
  have hrr : r = r' := by rw [← h3, ← h3', k2]
  subst hrr
  exact sg_v hr k1
theorem in_4 {v v' : Int64} {p p' : Nat} (ov : ∃ r : Nat, r < 10 ^ 18 ∧ (v = lN r ∨ v = -lN r)) (ov' : ∃ r : Nat, r < 10 ^ 18 ∧ (v' = lN r ∨ v' = -lN r)) (hp : p ≤ 9) (hp' : p' ≤ 9) (hc : p = 0 ∨ v - v / 10 * 10 ≠ 0) (hc' : p' = 0 ∨ v' - v' / 10 * 10 ≠ 0) (h : nuW (4, v, p, [], []) (mag v) = nuW (4, v', p', [], []) (mag v')) : v = v' ∧ p = p' := by
  obtain ⟨s, r, hr, rfl, hm⟩ := okv ov
  obtain ⟨s', r', hr', rfl, hm'⟩ := okv ov'
  rw [hm, hm'] at h
  obtain ⟨a, d, h1, h2, h3, h4, h5⟩ := nu_4 (v := sN s r) (b := []) (c := []) hr hp
  obtain ⟨a', d', h1', h2', h3', h4', h5'⟩ := nu_4 (v := sN s' r') (b := []) (c := []) hr' hp'
  rw [h1, h1'] at h
  obtain ⟨k1, k2⟩ := sg_cn h2 h2' h4 h4' h
  obtain ⟨k3, k4⟩ := dot_cn a a' d d' h2 h2' k2
  subst k3
  subst k4
  have h10 : ∀ (q : Nat) (x : Nat), d = [48] → ofD (a ++ d) = x → x % 10 = 0 := by
    intro q x e e2
    rw [e, ofD_s] at e2
    omega
  have key : r = r' ∧ p = p' := by
    rcases h5 with ⟨rfl, e1, e2⟩ | ⟨e0, e1, e2⟩
    · rcases h5' with ⟨rfl, -, e2'⟩ | ⟨e0', e1', e2'⟩
      · exact ⟨by rw [← e2, e2'], rfl⟩
      · have hz := h10 0 _ e1 e2'
        rcases hc' with hc' | hc'
        · omega
        · exact absurd ((sN_rem hr').mpr hz) hc'
    · rcases h5' with ⟨rfl, e1', e2'⟩ | ⟨e0', e1', e2'⟩
      · have hz := h10 0 _ e1' e2
        rcases hc with hc | hc
        · omega
        · exact absurd ((sN_rem hr).mpr hz) hc
      · exact ⟨by rw [← e2, e2'], by omega⟩
  obtain ⟨rfl, rfl⟩ := key
  exact ⟨sg_v hr k1, rfl⟩
theorem esW_c (c : Nat) : (c ≠ 34 ∧ c ≠ 92 ∧ esW c = [c]) ∨ ∃ y, esW c = [92, y] ∧ c = eN y := by
  unfold esW
  split
  · next e => exact Or.inr ⟨116, by decide, by rw [e]; decide⟩
  · split
    · next e => exact Or.inr ⟨110, by decide, by rw [e]; decide⟩
    · split
      · next e => exact Or.inr ⟨114, by decide, by rw [e]; decide⟩
      · split
        · next e => exact Or.inr ⟨34, rfl, by rw [e]; decide⟩
        · split
          · next e => exact Or.inr ⟨92, rfl, by rw [e]; decide⟩
          · next e1 e2 => exact Or.inl ⟨e1, e2, rfl⟩
theorem fm_cn : ∀ (a b r r' : List Nat), a.flatMap esW ++ (34 :: r) = b.flatMap esW ++ (34 :: r') → a = b ∧ r = r' := by
  intro a
  induction a with
  | nil =>
    intro b r r' e
    cases b with
    | nil => injection e with _ e; exact ⟨rfl, e⟩
    | cons c b =>
      rw [List.flatMap_nil, List.nil_append, List.flatMap_cons] at e
      rcases esW_c c with ⟨h1, h2, h3⟩ | ⟨y, h3, -⟩
      · rw [h3] at e; injection e with e _; exact absurd e.symm h1
      · rw [h3] at e; injection e with e _; exact absurd e (by decide)
  | cons x a ih =>
    intro b r r' e
    cases b with
    | nil =>
      rw [List.flatMap_nil, List.nil_append, List.flatMap_cons] at e
      rcases esW_c x with ⟨h1, h2, h3⟩ | ⟨y, h3, -⟩
      · rw [h3] at e; injection e with e _; exact absurd e h1
      · rw [h3] at e; injection e with e _; exact absurd e (by decide)
    | cons c b =>
      rw [List.flatMap_cons, List.flatMap_cons, List.append_assoc, List.append_assoc] at e
      have key : x = c ∧ a.flatMap esW ++ (34 :: r) = b.flatMap esW ++ (34 :: r') := by
        rcases esW_c x with ⟨h1, h2, h3⟩ | ⟨y, h3, h4⟩
        · rcases esW_c c with ⟨g1, g2, g3⟩ | ⟨y', g3, g4⟩
          · rw [h3, g3] at e; injection e with e1 e2; exact ⟨e1, e2⟩
          · rw [h3, g3] at e; injection e with e1 e2; exact absurd e1 h2
        · rcases esW_c c with ⟨g1, g2, g3⟩ | ⟨y', g3, g4⟩
          · rw [h3, g3] at e; injection e with e1 e2; exact absurd e1.symm g2
          · rw [h3, g3] at e; injection e with e1 e2; injection e2 with e2 e3; exact ⟨by rw [h4, g4, e2], e3⟩
      obtain ⟨h1, h2⟩ := ih b r r' key.2
      exact ⟨by rw [key.1, h1], h2⟩
theorem en_inj {x y : Tm} (hx : cn x) (hy : cn y) (ox : okT x) (oy : okT y) (h1 : (en x).1 = (en y).1) (h2 : (en x).2.1 = (en y).2.1) : x = y := by
  obtain ⟨-, -, ov, op, -⟩ := ox
  obtain ⟨-, -, ov', op', -⟩ := oy
  rcases hx with ⟨b, rfl, hb⟩ | ⟨b, rfl, hb⟩ | ⟨v, rfl⟩ | ⟨v, p, rfl, hc⟩ | ⟨b, rfl⟩ | ⟨b, c, rfl, hb⟩ | ⟨b, c, rfl, hb⟩ | rfl | rfl <;>
    rcases hy with ⟨b', rfl, hb'⟩ | ⟨b', rfl, hb'⟩ | ⟨v', rfl⟩ | ⟨v', p', rfl, hc'⟩ | ⟨b', rfl⟩ | ⟨b', c', rfl, hb'⟩ | ⟨b', c', rfl, hb'⟩ | rfl | rfl <;>
    dsimp only [en] at h1 <;> first | (exact absurd h1 (by decide)) | skip
  · have : wl 6 ++ b = wl 6 ++ b' := h2
    rw [List.append_cancel_left this]
  · have : [60] ++ b ++ [62] = [60] ++ b' ++ [62] := h2
    rw [List.append_cancel_left (List.append_cancel_right this)]
  · have e : v = v' := in_3 ov ov' h2
    rw [e]
  · obtain ⟨rfl, rfl⟩ := in_4 ov ov' op op' hc hc' h2
    rfl
  · have h := h2
    rw [en_5, en_5] at h
    dsimp only at h
    rw [List.append_assoc, List.append_assoc] at h
    rw [(fm_cn b b' [] [] (List.append_cancel_left h)).1]
  · have h := h2
    rw [en_6, en_6] at h
    dsimp only at h
    simp only [List.append_assoc] at h
    obtain ⟨rfl, e⟩ := fm_cn b b' ([64] ++ c) ([64] ++ c') (List.append_cancel_left h)
    rw [List.append_cancel_left e]
  · have h := h2
    rw [en_7, en_7] at h
    dsimp only at h
    simp only [List.append_assoc] at h
    obtain ⟨rfl, e⟩ := fm_cn b b' ([94] ++ ([94] ++ ([60] ++ (c ++ [62])))) ([94] ++ ([94] ++ ([60] ++ (c' ++ [62])))) (List.append_cancel_left h)
    rw [List.append_cancel_right (List.append_cancel_left (List.append_cancel_left (List.append_cancel_left e)))]
  · rfl
  · exact absurd (show wl 1 = wl 0 from h2) (by decide)
  · exact absurd (show wl 0 = wl 1 from h2) (by decide)
  · rfl
