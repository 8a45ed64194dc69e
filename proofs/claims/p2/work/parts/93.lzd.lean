/-! Zeros left off: lz against the list of digits; the class's number is the reference's. -/
def sN (s : Bool) (r : Nat) : Int64 := if s = true then -lN r else lN r
theorem sN_div {s : Bool} {r : Nat} (hr : r < 10 ^ 18) : sN s r / 10 = sN s (r / 10) := by
  cases s
  · exact pk_lDiv (b := 10) (by omega) (by decide) (by decide)
  · show -lN r / 10 = -lN (r / 10)
    refine Int64.toInt_inj.mp ?_
    have hb := lN_big (r := r) (by omega)
    have hb2 := lN_big (r := r / 10) (by omega)
    have e10 : (10 : Int64).toInt = 10 := rfl
    rcases i64_neg (lN r) with ⟨a, b⟩ | ⟨a, b⟩
    · omega
    rcases i64_neg (lN (r / 10)) with ⟨a2, b2⟩ | ⟨a2, b2⟩
    · omega
    rw [Int64.toInt_div, b, b2, hb, hb2, e10, Int.bmod_eq_of_le]
    · rw [Int.neg_tdiv]; simp
    · rw [Int.neg_tdiv]; simp; omega
    · rw [Int.neg_tdiv]; simp; omega
theorem lN_0 {r : Nat} (hr : r < 10 ^ 18) : lN r = 0 ↔ r = 0 := by
  constructor
  · intro h
    have h1 := congrArg Int64.toInt h
    rw [lN_big (by omega), Int64.toInt_zero] at h1
    omega
  · intro h; rw [h]; rfl
theorem sN_rem {s : Bool} {r : Nat} (hr : r < 10 ^ 18) : sN s r - sN s r / 10 * 10 = 0 ↔ r % 10 = 0 := by
  have h1 : lN r - lN (r / 10) * 10 = lN (r % 10) := by
    have h := pk_lRem (a := r) (b := 10) (by omega) (by decide) (by decide)
    rw [pk_lDiv (by omega) (by decide) (by decide)] at h
    exact h
  rw [sN_div hr]
  have h2 := lN_0 (r := r % 10) (by omega)
  cases s
  · show lN r - lN (r / 10) * 10 = 0 ↔ _
    rw [h1]; exact h2
  · show -lN r - -lN (r / 10) * 10 = 0 ↔ _
    have e : -lN r - -lN (r / 10) * 10 = -(lN r - lN (r / 10) * 10) := by rw [Int64.neg_mul, Int64.sub_neg, Int64.add_comm, ← Int64.sub_eq_add_neg, Int64.neg_sub]
    rw [e, h1, ← h2]
    constructor
    · intro h; rw [← Int64.neg_neg (a := lN (r % 10)), h]; rfl
    · intro h; rw [h]; rfl
theorem gd_snoc_l {e : List Nat} {d : Nat} : (e ++ [d]).getD e.length 0 = d := by simp [List.getD_eq_getElem?_getD]
theorem lz_d (s : Bool) (W : Nat) : ∀ (n : Nat) (ds : List Nat) (L : Nat), digs ds → ds.length = W + n → ds.length ≤ 18 → trail ds W L → lz n (sN s (ofD ds)) = (sN s (ofD (ds.take L)), L - W) := by
  intro n
  induction n with
  | zero =>
    intro ds L hd hn h18 ht
    have h1 := ht.1
    have h2 := ht.2.1
    have e : L = ds.length := by omega
    rw [lz, e, List.take_length, show ds.length - W = 0 by omega]
  | succ n ih =>
    intro ds L hd hn h18 ht
    have hne : ds ≠ [] := by intro h; rw [h] at hn; simp at hn
    have hlt : ofD ds < 10 ^ 18 := Nat.lt_of_lt_of_le (ofD_lt hd) (pow18 h18)
    obtain ⟨e, d, rfl⟩ := snoc_ex hne
    obtain ⟨t1, t2, t3, t4⟩ := ht
    have hdd := hd d (by simp)
    have hel : (e ++ [d]).length = e.length + 1 := by simp
    rw [hel] at hn h18 t2 t3
    have hr : ofD (e ++ [d]) % 10 = d - 48 ∧ ofD (e ++ [d]) / 10 = ofD e := by rw [ofD_s]; omega
    rw [lz]
    by_cases h48 : d = 48
    · rw [if_pos ((sN_rem hlt).mpr (by omega)), sN_div hlt, hr.2]
      have hL : L ≤ e.length := by
        by_cases hc : L ≤ e.length
        · exact hc
        · have hl : L - 1 = e.length := by omega
          rcases t4 with t4 | t4
          · omega
          · rw [hl, gd_snoc_l] at t4; exact absurd h48 t4
      rw [ih e L (digs_l hd) (by omega) (by omega) ⟨t1, hL, fun j h1 h2 => by have := t3 j h1 (by omega); rw [gd_app h2] at this; exact this, ?_⟩, List.take_append_of_le_length hL]
      rcases t4 with t4 | t4
      · exact Or.inl t4
      · by_cases hw : L = W
        · exact Or.inl hw
        · rw [gd_app (by omega)] at t4; exact Or.inr t4
    · rw [if_neg (fun h => by have := (sN_rem hlt).mp h; omega)]
      have hL : L = e.length + 1 := by
        by_cases hc : L ≤ e.length
        · have := t3 e.length hc (by omega)
          rw [gd_snoc_l] at this; exact absurd this h48
        · omega
      rw [hL, ← hel, List.take_length, hel, show e.length + 1 - W = n + 1 by omega]
theorem rD_mv {l : List Nat} {q : Nat} {ds : List Nat} (hD : isD (hb l q) = true) (h : (rD l (l.length - q) q ds).1 = true) : q < (rD l (l.length - q) q ds).2.1 := by
  have hq := (isD_b hD).1
  obtain ⟨m, e⟩ : ∃ m, l.length - q = m + 1 := ⟨l.length - q - 1, by omega⟩
  rw [e, rD, if_pos hD] at h ⊢
  split at h
  · cases h
  · next h18 =>
    rw [if_neg h18]
    exact (rD_q l m (q + 1) _).1
theorem rD_st {l : List Nat} {m q : Nat} {ds : List Nat} (hD : isD (hb l q) = false) : rD l m q ds = (true, q, ds) := by
  cases m with
  | zero => rfl
  | succ m => rw [rD, if_neg (by rw [hD]; decide)]
theorem digs_nil : digs [] := fun d hd => absurd hd List.not_mem_nil
/-- the class's digits, from the sign on -/
theorem sD_0 {l : List Nat} (hl : ∀ i, l.getD i 0 < 256) : sD l (sgn0 l) 18 (l.length - sgn0 l) (sgn0 l) 0 = ((rDs l).1, (rDs l).2.1, lN (ofD (rDs l).2.2)) := sD_rD l hl (sgn0 l) 18 (l.length - sgn0 l) (sgn0 l) [] (Nat.le_refl _) (by decide) (by simp)
theorem rDs_q {l : List Nat} : sgn0 l ≤ (rDs l).2.1 ∧ (rDs l).2.2.length + sgn0 l = (rDs l).2.1 := by
  have h := rD_q l (l.length - sgn0 l) (sgn0 l) []
  exact ⟨h.1, by have := h.2; rw [List.length_nil, Nat.zero_add] at this; exact this⟩
/-- behind the dot -/
theorem sD_1 {l : List Nat} (hl : ∀ i, l.getD i 0 < 256) {q1 : Nat} {ds1 : List Nat} (h : rDs l = (true, q1, ds1)) : sD l (q1 + 1) (18 - (q1 - sgn0 l)) (l.length - (q1 + 1)) (q1 + 1) (lN (ofD ds1)) = ((rD l (l.length - (q1 + 1)) (q1 + 1) ds1).1, (rD l (l.length - (q1 + 1)) (q1 + 1) ds1).2.1, lN (ofD (rD l (l.length - (q1 + 1)) (q1 + 1) ds1).2.2)) := by
  have hq := rDs_q (l := l)
  have h18 := rD_18 l (l.length - sgn0 l) (sgn0 l) [] (by decide)
  rw [show rD l (l.length - sgn0 l) (sgn0 l) [] = (true, q1, ds1) from h] at h18
  rw [h] at hq
  dsimp only at hq h18
  exact sD_rD l hl (q1 + 1) (18 - (q1 - sgn0 l)) (l.length - (q1 + 1)) (q1 + 1) ds1 (Nat.le_refl _) h18 (by omega)
theorem nr_d {l ds : List Nat} {q : Nat} {bf : Option Nat} (hl : ∀ i, l.getD i 0 < 256) (h : nrO l q ds bf) : digs ds ∧ bW ds bf ≤ ds.length := by
  have h0 := rD_digs l hl (l.length - sgn0 l) (sgn0 l) [] digs_nil
  obtain ⟨rfl, e, -⟩ | ⟨q1, ds1, rfl, e, -, -, e2⟩ := h
  · rw [show rD l (l.length - sgn0 l) (sgn0 l) [] = _ from e] at h0; exact ⟨h0, Nat.le_refl _⟩
  · rw [show rD l (l.length - sgn0 l) (sgn0 l) [] = _ from e] at h0
    have h1 := rD_digs l hl (l.length - (q1 + 1)) (q1 + 1) ds1 h0
    have h2 := rD_len l (l.length - (q1 + 1)) (q1 + 1) ds1
    rw [e2] at h1 h2
    exact ⟨h1, h2⟩
/-- a number taken -/
theorem nu_O {l ds : List Nat} {q L : Nat} {bf : Option Nat} (hl : ∀ i, l.getD i 0 < 256) (h : nrO l q ds bf) (h18 : ds.length ≤ 18) (ht : trail ds (bW ds bf) L) : sNu1 l (sgn0 l) 0 = if 9 < L - bW ds bf then (false, 0, 0, 0, 0) else (true, q, if bf.isSome = true then 4 else 3, lN (ofD (ds.take L)), L - bW ds bf) := by
  have hd := nr_d hl h
  have e1 := sD_0 hl
  have hq := rDs_q (l := l)
  unfold sNu1
  dsimp only
  rw [e1]
  obtain ⟨rfl, e, h46, hst⟩ | ⟨q1, ds1, rfl, e, h46, hD, e2⟩ := h
  · rw [e] at hq ⊢
    dsimp only at hq ⊢
    have hne : ¬ q = sgn0 l := by
      intro hc
      have hD : isD (hb l (sgn0 l)) = true := hst.elim (fun h => absurd (by rw [hc]; exact h) h46) id
      have := rD_mv (ds := []) hD (by rw [show rD l (l.length - sgn0 l) (sgn0 l) [] = _ from e])
      rw [show rD l (l.length - sgn0 l) (sgn0 l) [] = _ from e] at this
      dsimp only at this
      omega
    have h1 : L = ds.length := by have := ht.1; have := ht.2.1; show L = ds.length; simp only [bW] at *; omega
    rw [if_neg (by decide), if_neg h46, if_neg hne, if_neg (by simp only [bW]; omega), h1, List.take_length]
    simp [bW]
  · rw [e] at hq ⊢
    dsimp only at hq ⊢
    rw [if_neg (by decide), if_pos h46]
    unfold sNu2
    dsimp only
    rw [sD_1 hl e]
    have hmv := rD_mv (ds := ds1) hD (by rw [e2])
    have hq2 := rD_q l (l.length - (q1 + 1)) (q1 + 1) ds1
    rw [e2] at hmv hq2 ⊢
    dsimp only at hmv hq2 ⊢
    rw [if_neg (by decide), if_neg (by omega)]
    have hz := lz_d false ds1.length (q - q1 - 1) ds L hd.1 (by omega) h18 ht
    rw [show lz (q - q1 - 1) (lN (ofD ds)) = _ from hz]
    rfl
theorem nu_F {l : List Nat} {w : Nat} (hl : ∀ i, l.getD i 0 < 256) (h : nrF l w) : (sNu1 l (sgn0 l) 0).1 = false ∧ (sNu1 l (sgn0 l) 0).2.1 = w := by
  have e1 := sD_0 hl
  unfold sNu1
  dsimp only
  rw [e1]
  obtain ⟨h46, hD, rfl⟩ | ⟨ds, e⟩ | ⟨q1, ds1, e, h46, h⟩ := h
  · have e : rDs l = (true, sgn0 l, []) := rD_st hD
    rw [e]
    dsimp only
    rw [if_neg (by decide), if_neg h46, if_pos rfl]
    exact ⟨rfl, rfl⟩
  · rw [e]
    dsimp only
    rw [if_pos rfl]
    exact ⟨rfl, rfl⟩
  · rw [e]
    dsimp only
    rw [if_neg (by decide), if_pos h46]
    unfold sNu2
    dsimp only
    rw [sD_1 hl e]
    rcases h with ⟨hD, rfl⟩ | ⟨ds, e2⟩
    · rw [rD_st hD]
      dsimp only
      rw [if_neg (by decide), if_pos rfl]
      exact ⟨rfl, rfl⟩
    · rw [e2]
      dsimp only
      rw [if_pos rfl]
      exact ⟨rfl, rfl⟩
