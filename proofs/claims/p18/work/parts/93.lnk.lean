section
/-! Zeros left off: lz against the list of digits; the class's number is the reference's. -/
def sN (s : Bool) (r : Nat) : Int64 := if s = true then -lN r else lN r
theorem sN_div {s : Bool} {r : Nat} (hr : r < 10 ^ 18) : sN s r / 10 = sN s (r / 10) := by
  cases s
  · exact pk_lDiv (b := 10) (by omega) (by decide) (by decide)
  · show -lN r / 10 = -lN (r / 10)
    refine Int64.toInt_inj.mp ?_
    have hb := lN_big (r := r) (by omega)
    have hb2 := lN_big (r := r / 10) (by omega)
    have e10 : (10 : Int64).toInt = 10 := rfl
    rcases i64_neg (lN r) with ⟨a, b⟩ | ⟨a, b⟩
    · omega
    rcases i64_neg (lN (r / 10)) with ⟨a2, b2⟩ | ⟨a2, b2⟩
    · omega
    rw [Int64.toInt_div, b, b2, hb, hb2, e10, Int.bmod_eq_of_le]
    · rw [Int.neg_tdiv]; simp
    · rw [Int.neg_tdiv]; simp; omega
    · rw [Int.neg_tdiv]; simp; omega
theorem lN_0 {r : Nat} (hr : r < 10 ^ 18) : lN r = 0 ↔ r = 0 := by
  constructor
  · intro h
    have h1 := congrArg Int64.toInt h
    rw [lN_big (by omega), Int64.toInt_zero] at h1
    omega
  · intro h; rw [h]; rfl
theorem sN_rem {s : Bool} {r : Nat} (hr : r < 10 ^ 18) : sN s r - sN s r / 10 * 10 = 0 ↔ r % 10 = 0 := by
  have h1 : lN r - lN (r / 10) * 10 = lN (r % 10) := by
    have h := pk_lRem (a := r) (b := 10) (by omega) (by decide) (by decide)
    rw [pk_lDiv (by omega) (by decide) (by decide)] at h
    exact h
  rw [sN_div hr]
  have h2 := lN_0 (r := r % 10) (by omega)
  cases s
  · show lN r - lN (r / 10) * 10 = 0 ↔ _
    rw [h1]; exact h2
  · show -lN r - -lN (r / 10) * 10 = 0 ↔ _
    have e : -lN r - -lN (r / 10) * 10 = -(lN r - lN (r / 10) * 10) := by rw [Int64.neg_mul, Int64.sub_neg, Int64.add_comm, ← Int64.sub_eq_add_neg, Int64.neg_sub]
    rw [e, h1, ← h2]
    constructor
    · intro h; rw [← Int64.neg_neg (a := lN (r % 10)), h]; rfl
    · intro h; rw [h]; rfl
theorem gd_snoc_l {e : List Nat} {d : Nat} : (e ++ [d]).getD e.length 0 = d := by simp [List.getD_eq_getElem?_getD]
theorem lz_d (s : Bool) (W : Nat) : ∀ (n : Nat) (ds : List Nat) (L : Nat), digs ds → ds.length = W + n → ds.length ≤ 18 → trail ds W L → lz n (sN s (ofD ds)) = (sN s (ofD (ds.take L)), L - W) := by
  intro n
  induction n with
  | zero =>
    intro ds L hd hn h18 ht
    have h1 := ht.1
    have h2 := ht.2.1
    have e : L = ds.length := by omega
    rw [lz, e, List.take_length, show ds.length - W = 0 by omega]
  | succ n ih =>
    intro ds L hd hn h18 ht
    have hne : ds ≠ [] := by intro h; rw [h] at hn; simp at hn
    have hlt : ofD ds < 10 ^ 18 := Nat.lt_of_lt_of_le (ofD_lt hd) (pow18 h18)
    obtain ⟨e, d, rfl⟩ := snoc_ex hne
    obtain ⟨t1, t2, t3, t4⟩ := ht
    have hdd := hd d (by simp)
    have hel : (e ++ [d]).length = e.length + 1 := by simp
    rw [hel] at hn h18 t2 t3
    have hr : ofD (e ++ [d]) % 10 = d - 48 ∧ ofD (e ++ [d]) / 10 = ofD e := by rw [ofD_s]; omega
    rw [lz]
    by_cases h48 : d = 48
    · rw [if_pos ((sN_rem hlt).mpr (by omega)), sN_div hlt, hr.2]
      have hL : L ≤ e.length := by
        by_cases hc : L ≤ e.length
        · exact hc
        · have hl : L - 1 = e.length := by omega
          rcases t4 with t4 | t4
          · omega
          · rw [hl, gd_snoc_l] at t4; exact absurd h48 t4
      rw [ih e L (digs_l hd) (by omega) (by omega) ⟨t1, hL, fun j h1 h2 => by have := t3 j h1 (by omega); rw [gd_app h2] at this; exact this, ?_⟩, List.take_append_of_le_length hL]
      rcases t4 with t4 | t4
      · exact Or.inl t4
      · by_cases hw : L = W
        · exact Or.inl hw
        · rw [gd_app (by omega)] at t4; exact Or.inr t4
    · rw [if_neg (fun h => by have := (sN_rem hlt).mp h; omega)]
      have hL : L = e.length + 1 := by
        by_cases hc : L ≤ e.length
        · have := t3 e.length hc (by omega)
          rw [gd_snoc_l] at this; exact absurd this h48
        · omega
      rw [hL, ← hel, List.take_length, hel, show e.length + 1 - W = n + 1 by omega]
theorem rD_mv {l : List Nat} {q : Nat} {ds : List Nat} (hD : isD (hb l q) = true) (h : (rD l (l.length - q) q ds).1 = true) : q < (rD l (l.length - q) q ds).2.1 := by
  have hq := (isD_b hD).1
  obtain ⟨m, e⟩ : ∃ m, l.length - q = m + 1 := ⟨l.length - q - 1, by omega⟩
  rw [e, rD, if_pos hD] at h ⊢
  split at h
  · cases h
  · next h18 =>
    rw [if_neg h18]
    exact (rD_q l m (q + 1) _).1
theorem rD_st {l : List Nat} {m q : Nat} {ds : List Nat} (hD : isD (hb l q) = false) : rD l m q ds = (true, q, ds) := by
  cases m with
  | zero => rfl
  | succ m => rw [rD, if_neg (by rw [hD]; decide)]
theorem digs_nil : digs [] := fun d hd => absurd hd List.not_mem_nil
/-- the class's digits, from the sign on -/
theorem sD_0 {l : List Nat} (hl : ∀ i, l.getD i 0 < 256) : sD l (sgn0 l) 18 (l.length - sgn0 l) (sgn0 l) 0 = ((rDs l).1, (rDs l).2.1, lN (ofD (rDs l).2.2)) := sD_rD l hl (sgn0 l) 18 (l.length - sgn0 l) (sgn0 l) [] (Nat.le_refl _) (by decide) (by simp)
theorem rDs_q {l : List Nat} : sgn0 l ≤ (rDs l).2.1 ∧ (rDs l).2.2.length + sgn0 l = (rDs l).2.1 := by
  have h := rD_q l (l.length - sgn0 l) (sgn0 l) []
  exact ⟨h.1, by have := h.2; rw [List.length_nil, Nat.zero_add] at this; exact this⟩
/-- behind the dot -/
theorem sD_1 {l : List Nat} (hl : ∀ i, l.getD i 0 < 256) {q1 : Nat} {ds1 : List Nat} (h : rDs l = (true, q1, ds1)) : sD l (q1 + 1) (18 - (q1 - sgn0 l)) (l.length - (q1 + 1)) (q1 + 1) (lN (ofD ds1)) = ((rD l (l.length - (q1 + 1)) (q1 + 1) ds1).1, (rD l (l.length - (q1 + 1)) (q1 + 1) ds1).2.1, lN (ofD (rD l (l.length - (q1 + 1)) (q1 + 1) ds1).2.2)) := by
  have hq := rDs_q (l := l)
  have h18 := rD_18 l (l.length - sgn0 l) (sgn0 l) [] (by decide)
  rw [show rD l (l.length - sgn0 l) (sgn0 l) [] = (true, q1, ds1) from h] at h18
  rw [h] at hq
  dsimp only at hq h18
  exact sD_rD l hl (q1 + 1) (18 - (q1 - sgn0 l)) (l.length - (q1 + 1)) (q1 + 1) ds1 (Nat.le_refl _) h18 (by omega)
theorem nr_d {l ds : List Nat} {q : Nat} {bf : Option Nat} (hl : ∀ i, l.getD i 0 < 256) (h : nrO l q ds bf) : digs ds ∧ bW ds bf ≤ ds.length := by
  have h0 := rD_digs l hl (l.length - sgn0 l) (sgn0 l) [] digs_nil
  obtain ⟨rfl, e, -⟩ | ⟨q1, ds1, rfl, e, -, -, e2⟩ := h
  · rw [show rD l (l.length - sgn0 l) (sgn0 l) [] = _ from e] at h0; exact ⟨h0, Nat.le_refl _⟩
  · rw [show rD l (l.length - sgn0 l) (sgn0 l) [] = _ from e] at h0
    have h1 := rD_digs l hl (l.length - (q1 + 1)) (q1 + 1) ds1 h0
    have h2 := rD_len l (l.length - (q1 + 1)) (q1 + 1) ds1
    rw [e2] at h1 h2
    exact ⟨h1, h2⟩
/-- a number taken -/
theorem nu_O {l ds : List Nat} {q L : Nat} {bf : Option Nat} (hl : ∀ i, l.getD i 0 < 256) (h : nrO l q ds bf) (h18 : ds.length ≤ 18) (ht : trail ds (bW ds bf) L) : sNu1 l (sgn0 l) 0 = if 9 < L - bW ds bf then (false, 0, 0, 0, 0) else (true, q, if bf.isSome = true then 4 else 3, lN (ofD (ds.take L)), L - bW ds bf) := by
  have hd := nr_d hl h
  have e1 := sD_0 hl
  have hq := rDs_q (l := l)
  unfold sNu1
  dsimp only
  rw [e1]
  obtain ⟨rfl, e, h46, hst⟩ | ⟨q1, ds1, rfl, e, h46, hD, e2⟩ := h
  · rw [e] at hq ⊢
    dsimp only at hq ⊢
    have hne : ¬ q = sgn0 l := by
      intro hc
      have hD : isD (hb l (sgn0 l)) = true := hst.elim (fun h => absurd (by rw [hc]; exact h) h46) id
      have := rD_mv (ds := []) hD (by rw [show rD l (l.length - sgn0 l) (sgn0 l) [] = _ from e])
      rw [show rD l (l.length - sgn0 l) (sgn0 l) [] = _ from e] at this
      dsimp only at this
      omega
    have h1 : L = ds.length := by have := ht.1; have := ht.2.1; show L = ds.length; simp only [bW] at *; omega
    rw [if_neg (by decide), if_neg h46, if_neg hne, if_neg (by simp only [bW]; omega), h1, List.take_length]
    simp [bW]
  · rw [e] at hq ⊢
    dsimp only at hq ⊢
    rw [if_neg (by decide), if_pos h46]
    unfold sNu2
    dsimp only
    rw [sD_1 hl e]
    have hmv := rD_mv (ds := ds1) hD (by rw [e2])
    have hq2 := rD_q l (l.length - (q1 + 1)) (q1 + 1) ds1
    rw [e2] at hmv hq2 ⊢
    dsimp only at hmv hq2 ⊢
    rw [if_neg (by decide), if_neg (by omega)]
    have hz := lz_d false ds1.length (q - q1 - 1) ds L hd.1 (by omega) h18 ht
    rw [show lz (q - q1 - 1) (lN (ofD ds)) = _ from hz]
    rfl
theorem nu_F {l : List Nat} {w : Nat} (hl : ∀ i, l.getD i 0 < 256) (h : nrF l w) : (sNu1 l (sgn0 l) 0).1 = false ∧ (sNu1 l (sgn0 l) 0).2.1 = w := by
  have e1 := sD_0 hl
  unfold sNu1
  dsimp only
  rw [e1]
  obtain ⟨h46, hD, rfl⟩ | ⟨ds, e⟩ | ⟨q1, ds1, e, h46, h⟩ := h
  · have e : rDs l = (true, sgn0 l, []) := rD_st hD
    rw [e]
    dsimp only
    rw [if_neg (by decide), if_neg h46, if_pos rfl]
    exact ⟨rfl, rfl⟩
  · rw [e]
    dsimp only
    rw [if_pos rfl]
    exact ⟨rfl, rfl⟩
  · rw [e]
    dsimp only
    rw [if_neg (by decide), if_pos h46]
    unfold sNu2
    dsimp only
    rw [sD_1 hl e]
    rcases h with ⟨hD, rfl⟩ | ⟨ds, e2⟩
    · rw [rD_st hD]
      dsimp only
      rw [if_neg (by decide), if_pos rfl]
      exact ⟨rfl, rfl⟩
    · rw [e2]
      dsimp only
      rw [if_pos rfl]
      exact ⟨rfl, rfl⟩
end
section
/-! A truth or a number: what the class reads is what the reference reads. -/
def mag (v : Int64) : Nat := v.toInt.natAbs
theorem mag_s {s : Bool} {r : Nat} (hr : r < 10 ^ 18) : mag (sN s r) = r := by
  unfold mag
  cases s
  · show (lN r).toInt.natAbs = r
    rw [lN_big (by omega)]; exact Int.natAbs_natCast r
  · show (-lN r).toInt.natAbs = r
    rw [neg_lN hr]; omega
/-- what the reference keeps of x -/
def qu (x : Tm) : Nat := if x.1 = 5 ∨ x.1 = 6 ∨ x.1 = 7 then (x.2.2.2.1.flatMap esW).length + 1 else 0
def en (x : Tm) : Nat × List Nat × Nat := (x.1.toNatClampNeg, wrW x (mag x.2.1), qu x)
def nm (x : Int32 × Int64 × Nat) : Tm := (x.1, x.2.1, x.2.2, [], [])
/-- bytes that are written as they are -/
def n92 (l : List Nat) : Prop := ∀ x, x ∈ l → esW x = [x]
/-- a term as it is kept -/
def cn (x : Tm) : Prop := (∃ b, x = (1, 0, 0, b, []) ∧ n92 b) ∨ (∃ b, x = (2, 0, 0, b, []) ∧ n92 b) ∨ (∃ v, x = (3, v, 0, [], [])) ∨ (∃ v p, x = (4, v, p, [], []) ∧ (p = 0 ∨ v - v / 10 * 10 ≠ 0)) ∨ (∃ b, x = (5, 0, 0, b, [])) ∨ (∃ b c, x = (6, 0, 0, b, c) ∧ n92 c) ∨ (∃ b c, x = (7, 0, 0, b, c) ∧ n92 c) ∨ x = (8, 0, 0, [], []) ∨ x = (8, 1, 0, [], [])
theorem cn1 {b : List Nat} (h : n92 b) : cn (1, 0, 0, b, []) := Or.inl ⟨b, rfl, h⟩
theorem cn2 {b : List Nat} (h : n92 b) : cn (2, 0, 0, b, []) := Or.inr (Or.inl ⟨b, rfl, h⟩)
theorem cn3 {v : Int64} : cn (3, v, 0, [], []) := Or.inr (Or.inr (Or.inl ⟨v, rfl⟩))
theorem cn4 {v : Int64} {p : Nat} (h : p = 0 ∨ v - v / 10 * 10 ≠ 0) : cn (4, v, p, [], []) := Or.inr (Or.inr (Or.inr (Or.inl ⟨v, p, rfl, h⟩)))
theorem cn5 {b : List Nat} : cn (5, 0, 0, b, []) := Or.inr (Or.inr (Or.inr (Or.inr (Or.inl ⟨b, rfl⟩))))
theorem cn6 {b c : List Nat} (h : n92 c) : cn (6, 0, 0, b, c) := Or.inr (Or.inr (Or.inr (Or.inr (Or.inr (Or.inl ⟨b, c, rfl, h⟩)))))
theorem cn7 {b c : List Nat} (h : n92 c) : cn (7, 0, 0, b, c) := Or.inr (Or.inr (Or.inr (Or.inr (Or.inr (Or.inr (Or.inl ⟨b, c, rfl, h⟩))))))
theorem cn80 : cn (8, 0, 0, [], []) := Or.inr (Or.inr (Or.inr (Or.inr (Or.inr (Or.inr (Or.inr (Or.inl rfl)))))))
theorem cn81 : cn (8, 1, 0, [], []) := Or.inr (Or.inr (Or.inr (Or.inr (Or.inr (Or.inr (Or.inr (Or.inr rfl)))))))
theorem tl_1 {l : List Nat} {k : Nat} (hk : (k = 0 ∧ hb l 0 = 116) ∨ (k = 1 ∧ hb l 0 = 102)) : sTl l k (wlen k) 0 = sTl l k (wlen k - 1) 1 := by
  rcases hk with ⟨rfl, h⟩ | ⟨rfl, h⟩
  · exact if_pos h
  · exact if_pos h
theorem tr_O {l : List Nat} {k q : Nat} (tv : Int32) (hk : (k = 0 ∧ hb l 0 = 116) ∨ (k = 1 ∧ hb l 0 = 102)) (h : trO l k = (true, q, ())) : sTr l k tv = (true, q, 8, tv.toInt64, 0) := by
  unfold trO at h
  rw [tl_1 hk] at h
  unfold sTr
  split at h
  · cases h
  · next e =>
    rw [e]
    dsimp only
    split at h
    · cases h
    · next e2 =>
      rw [if_neg e2]
      injection h with _ h
      injection h with h _
      rw [h]
theorem tr_F {l : List Nat} {k w : Nat} (tv : Int32) (hk : (k = 0 ∧ hb l 0 = 116) ∨ (k = 1 ∧ hb l 0 = 102)) (h : trO l k = (false, w, ())) : sTr l k tv = (false, w, 0, 0, 0) := by
  unfold trO at h
  rw [tl_1 hk] at h
  unfold sTr
  split at h
  · next x e =>
    rw [e]
    injection h with _ h
    injection h with h _
    rw [h]
  · next e =>
    rw [e]
    dsimp only
    split at h
    · next e2 =>
      rw [if_pos e2]
      injection h with _ h
      injection h with h _
      rw [h]
    · cases h
theorem nuB_n {l : List Nat} (h : nuB l) : ¬ hb l 0 = 116 ∧ ¬ hb l 0 = 102 ∧ ¬ (!(decide (hb l 0 = 43) || decide (hb l 0 = 45)) && !isD (hb l 0) && !decide (hb l 0 = 46)) = true := by
  rcases h with h | h | h | h
  · rw [h]; decide
  · rw [h]; decide
  · rw [h]; decide
  · refine ⟨fun e => ?_, fun e => ?_, fun e => ?_⟩
    · rw [e] at h; exact absurd h (by decide)
    · rw [e] at h; exact absurd h (by decide)
    · rw [h] at e; simp at e
theorem sP_nu {l : List Nat} (h : nuB l) : sP l = if hb l 0 = 45 then ((sNu1 l (sgn0 l) 0).1, (sNu1 l (sgn0 l) 0).2.1, (sNu1 l (sgn0 l) 0).2.2.1, -(sNu1 l (sgn0 l) 0).2.2.2.1, (sNu1 l (sgn0 l) 0).2.2.2.2) else sNu1 l (sgn0 l) 0 := by
  obtain ⟨h1, h2, h3⟩ := nuB_n h
  unfold sP
  rw [if_neg h1, if_neg h2, if_neg h3]
theorem en_t : en (nm (8, (1 : Int32).toInt64, 0)) = (8, wl 0, 0) := by decide +kernel
theorem en_f : en (nm (8, (0 : Int32).toInt64, 0)) = (8, wl 1, 0) := by decide +kernel
theorem pr_O {l d : List Nat} {q kd : Nat} (hl : ∀ i, l.getD i 0 < 256) (h : prO l q d kd) : ∃ x : Int32 × Int64 × Nat, sP l = (true, q, x) ∧ en (nm x) = (kd, d, 0) ∧ cn (nm x) := by
  obtain ⟨k, hk, ht, -, rfl, rfl⟩ | ⟨hB, ds, bf, L, g, h1, ht, h18, h9, hg, rfl, rfl⟩ := h
  · rcases hk with ⟨rfl, h0⟩ | ⟨rfl, h0⟩
    · refine ⟨(8, (1 : Int32).toInt64, 0), ?_, en_t, cn81⟩
      unfold sP
      rw [if_pos h0]
      exact tr_O 1 (Or.inl ⟨rfl, h0⟩) ht
    · refine ⟨(8, (0 : Int32).toInt64, 0), ?_, en_f, cn80⟩
      unfold sP
      rw [if_neg (by rw [h0]; decide), if_pos h0]
      exact tr_O 0 (Or.inr ⟨rfl, h0⟩) ht
  · have hd := nr_d hl h1
    have hn := nu_O hl h1 h18 ht
    rw [if_neg (by omega)] at hn
    have hr : ofD (ds.take L) < 10 ^ 18 := Nat.lt_of_lt_of_le (ofD_lt (fun x hx => hd.1 x (List.mem_of_mem_take hx))) (pow18 (by rw [List.length_take]; omega))
    refine ⟨(if bf.isSome = true then 4 else 3, sN (decide (hb l 0 = 45)) (ofD (ds.take L)), L - bW ds bf), ?_, ?_, ?_⟩
    · rw [sP_nu hB, hn]
      by_cases h45 : hb l 0 = 45
      · rw [if_pos h45]; simp [sN, h45]
      · rw [if_neg h45]; simp [sN, h45]
    · have hw := wN_nuW (bel := decide (hb l 0 = 45)) (dec := bf.isSome) hd.1 h18 hd.2 hg ht h9 (fun e => by cases bf with | none => (have := ht.1; have := ht.2.1; simp only [bW] at *; omega) | some w => cases e) (x := nm (if bf.isSome = true then 4 else 3, sN (decide (hb l 0 = 45)) (ofD (ds.take L)), L - bW ds bf)) rfl rfl rfl
      rw [← hw]
      unfold en
      rw [show (nm (if bf.isSome = true then 4 else 3, sN (decide (hb l 0 = 45)) (ofD (ds.take L)), L - bW ds bf)).2.1 = sN (decide (hb l 0 = 45)) (ofD (ds.take L)) from rfl, mag_s hr]
      cases bf with
      | none => rfl
      | some w => rfl
    · cases bf with
      | none =>
        have e : L - bW ds none = 0 := by have := ht.1; have := ht.2.1; simp only [bW] at *; omega
        rw [e]
        exact cn3
      | some w =>
        refine cn4 ?_
        rcases ht.2.2.2 with e | e
        · exact Or.inl (show L - bW ds (some w) = 0 by omega)
        · by_cases e0 : L = bW ds (some w)
          · exact Or.inl (show L - bW ds (some w) = 0 by omega)
          · refine Or.inr (fun h0 => e ?_)
            have h1 := ht.1
            have h2 := ht.2.1
            have h3 := (sN_rem hr).mp h0
            have hL : ds.take L = ds.take (L - 1) ++ [ds.getD (L - 1) 0] := by
              rw [List.getD_eq_getElem?_getD, List.getElem?_eq_getElem (show L - 1 < ds.length by omega), Option.getD_some, List.take_append_getElem (by omega), show L - 1 + 1 = L by omega]
            have h4 := hd.1 (ds.getD (L - 1) 0) (by rw [List.getD_eq_getElem?_getD, List.getElem?_eq_getElem (show L - 1 < ds.length by omega)]; exact List.getElem_mem _)
            rw [hL, ofD_s] at h3
            omega
theorem pr_F {l : List Nat} {w : Nat} (hl : ∀ i, l.getD i 0 < 256) (h : prF l w) : (sP l).1 = false ∧ (sP l).2.1 = w := by
  obtain ⟨k, hk, ht⟩ | ⟨hB, h⟩ | ⟨rfl, h1, h2, h3⟩ := h
  · rcases hk with ⟨rfl, h0⟩ | ⟨rfl, h0⟩
    · unfold sP
      rw [if_pos h0, tr_F 1 (Or.inl ⟨rfl, h0⟩) ht]
      exact ⟨rfl, rfl⟩
    · unfold sP
      rw [if_neg (by rw [h0]; decide), if_pos h0, tr_F 0 (Or.inr ⟨rfl, h0⟩) ht]
      exact ⟨rfl, rfl⟩
  · have hn : (sNu1 l (sgn0 l) 0).1 = false ∧ (sNu1 l (sgn0 l) 0).2.1 = w := by
      rcases h with h | ⟨rfl, q, ds, bf, L, h1, ht, h18, h9⟩
      · exact nu_F hl h
      · rw [nu_O hl h1 h18 ht, if_pos h9]; exact ⟨rfl, rfl⟩
    rw [sP_nu hB]
    split
    · exact hn
    · exact hn
  · unfold sP
    rw [if_neg h1, if_neg h2, if_pos]
    · exact ⟨rfl, rfl⟩
    · unfold nuB at h3
      simp only [not_or] at h3
      obtain ⟨a, b, c, d⟩ := h3
      simp [a, b, c, d]
/-! Bytes of a truth or a number: none of them is written with a backslash. -/
theorem tl_n (l : List Nat) (k : Nat) : ∀ (m j : Nat), sTl l k m j = none → ∀ i, j ≤ i → i < j + m → hb l i = nI (wch k i) := by
  intro m
  induction m with
  | zero => intro j _ i h1 h2; omega
  | succ m ih =>
    intro j h i h1 h2
    rw [sTl] at h
    split at h
    · next e =>
      by_cases hi : i = j
      · rw [hi]; exact e
      · exact ih (j + 1) h i (by omega) (by omega)
    · cases h
theorem rD_all (l : List Nat) : ∀ (m q : Nat) (ds : List Nat) (i : Nat), q ≤ i → i < (rD l m q ds).2.1 → isD (hb l i) = true := by
  intro m
  induction m with
  | zero => intro q ds i h1 h2; rw [rD] at h2; exact absurd h2 (by dsimp only; omega)
  | succ m ih =>
    intro q ds i h1 h2
    rw [rD] at h2
    split at h2
    · next e =>
      by_cases hi : i = q
      · rw [hi]; exact e
      · split at h2
        · exact absurd h2 (by dsimp only; omega)
        · exact ih (q + 1) _ i (by omega) h2
    · exact absurd h2 (by dsimp only; omega)
theorem sNu1_cl {l : List Nat} (hl : ∀ i, l.getD i 0 < 256) (h : (sNu1 l (sgn0 l) 0).1 = true) : ∀ i, sgn0 l ≤ i → i < (sNu1 l (sgn0 l) 0).2.1 → hb l i = 46 ∨ isD (hb l i) = true := by
  have e1 := sD_0 hl
  have ha : ∀ i, sgn0 l ≤ i → i < (rDs l).2.1 → isD (hb l i) = true := fun i => rD_all l (l.length - sgn0 l) (sgn0 l) [] i
  intro i hi1 hi2
  unfold sNu1 at h hi2
  dsimp only at h hi2
  rw [e1] at h hi2
  generalize hR : rDs l = o at h hi2 ha
  obtain ⟨b, q1, ds1⟩ := o
  dsimp only at h hi2 ha
  cases b
  · rw [if_pos rfl] at h; cases h
  · rw [if_neg (by decide)] at h hi2
    by_cases c46 : hb l q1 = 46
    · rw [if_pos c46] at h hi2
      unfold sNu2 at h hi2
      dsimp only at h hi2
      rw [sD_1 hl hR] at h hi2
      have hb2 := rD_all l (l.length - (q1 + 1)) (q1 + 1) ds1 i
      generalize rD l (l.length - (q1 + 1)) (q1 + 1) ds1 = o2 at h hi2 hb2
      obtain ⟨b2, q2, ds2⟩ := o2
      dsimp only at h hi2 hb2
      cases b2
      · rw [if_pos rfl] at h; cases h
      · rw [if_neg (by decide)] at h hi2
        by_cases cq : q2 = q1 + 1
        · rw [if_pos cq] at h; cases h
        · rw [if_neg cq] at h hi2
          by_cases c9 : 9 < (lz (q2 - q1 - 1) (lN (ofD ds2))).2
          · rw [if_pos c9] at h; cases h
          · rw [if_neg c9] at hi2
            dsimp only at hi2
            by_cases c : i < q1
            · exact Or.inr (ha i hi1 c)
            · by_cases c2 : i = q1
              · rw [c2]; exact Or.inl c46
              · exact Or.inr (hb2 (by omega) hi2)
    · rw [if_neg c46] at h hi2
      by_cases cq : q1 = sgn0 l
      · rw [if_pos cq] at h; cases h
      · rw [if_neg cq] at hi2
        exact Or.inr (ha i hi1 hi2)
def pln (b : Int32) : Bool := !decide (b = 92) && !decide (b = 9) && !decide (b = 10) && !decide (b = 13) && !decide (b = 34)
theorem isD_pln {b : Int32} (h : isD b = true) : pln b = true := by
  have h1 : b ≠ 92 := fun e => by rw [e] at h; exact absurd h (by decide)
  have h2 : b ≠ 9 := fun e => by rw [e] at h; exact absurd h (by decide)
  have h3 : b ≠ 10 := fun e => by rw [e] at h; exact absurd h (by decide)
  have h4 : b ≠ 13 := fun e => by rw [e] at h; exact absurd h (by decide)
  have h5 : b ≠ 34 := fun e => by rw [e] at h; exact absurd h (by decide)
  simp [pln, h1, h2, h3, h4, h5]
theorem pln_esW {b : Nat} (h : pln (nI b) = true) : esW b = [b] := by
  unfold esW
  repeat' split
  all_goals first | rfl | (next e => rw [e] at h; exact absurd h (by decide))
theorem wl_pln : ∀ k, k < 2 → ∀ i, i < wlen k → pln (nI (wch k i)) = true := by decide +kernel
theorem sTr_cl {l : List Nat} {k : Nat} {tv : Int32} (hk : (k = 0 ∧ hb l 0 = 116) ∨ (k = 1 ∧ hb l 0 = 102)) (h : (sTr l k tv).1 = true) : ∀ i, i < (sTr l k tv).2.1 → pln (hb l i) = true := by
  have e := tl_1 hk
  unfold sTr at h ⊢
  split at h
  · cases h
  · next hn =>
    split at h
    · cases h
    · next e2 =>
      rw [if_neg e2]
      intro i hi
      rw [hn] at e
      have := tl_n l k (wlen k) 0 e i (by omega) (by simpa using hi)
      rw [this]
      exact wl_pln k (by omega) i hi
theorem sP_cl {l : List Nat} (hl : ∀ i, l.getD i 0 < 256) (h : (sP l).1 = true) : ∀ i, i < (sP l).2.1 → pln (hb l i) = true := by
  by_cases c1 : hb l 0 = 116
  · unfold sP at h ⊢
    rw [if_pos c1] at h ⊢
    exact sTr_cl (Or.inl ⟨rfl, c1⟩) h
  by_cases c2 : hb l 0 = 102
  · unfold sP at h ⊢
    rw [if_neg c1, if_pos c2] at h ⊢
    exact sTr_cl (Or.inr ⟨rfl, c2⟩) h
  by_cases hB : nuB l
  · rw [sP_nu hB] at h ⊢
    have h1 : (sNu1 l (sgn0 l) 0).1 = true := by split at h <;> exact h
    have h2 : (if hb l 0 = 45 then ((sNu1 l (sgn0 l) 0).1, (sNu1 l (sgn0 l) 0).2.1, (sNu1 l (sgn0 l) 0).2.2.1, -(sNu1 l (sgn0 l) 0).2.2.2.1, (sNu1 l (sgn0 l) 0).2.2.2.2) else sNu1 l (sgn0 l) 0).2.1 = (sNu1 l (sgn0 l) 0).2.1 := by split <;> rfl
    rw [h2]
    intro i hi
    by_cases hs : sgn0 l ≤ i
    · rcases sNu1_cl hl h1 i hs hi with e | e
      · rw [e]; decide
      · exact isD_pln e
    · have h0 : i = 0 ∧ (decide (hb l 0 = 43) || decide (hb l 0 = 45)) = true := by
        unfold sgn0 at hs
        split at hs
        · next e => exact ⟨by omega, e⟩
        · omega
      rw [h0.1]
      have h3 := h0.2
      rw [Bool.or_eq_true, decide_eq_true_eq, decide_eq_true_eq] at h3
      rcases h3 with e | e
      · rw [e]; decide
      · rw [e]; decide
  · unfold sP at h
    unfold nuB at hB
    simp only [not_or] at hB
    obtain ⟨a, b, c, d⟩ := hB
    rw [if_neg c1, if_neg c2, if_pos (by simp [a, b, c, d])] at h
    cases h
theorem esW_92 {b : Nat} (h : esW b ≠ [b]) : 92 ∈ esW b := by
  unfold esW at h ⊢
  repeat' split
  all_goals first | decide | (exfalso; apply h; simp [*])
theorem fm_id : ∀ (acc : List Nat), (∀ b, b ∈ acc → esW b = [b]) → acc.flatMap esW = acc := by
  intro acc
  induction acc with
  | nil => intro _; rfl
  | cons a acc ih =>
    intro h
    rw [List.flatMap_cons, h a List.mem_cons_self, ih (fun b hb => h b (List.mem_cons_of_mem _ hb))]; rfl
theorem hb_mem {l : List Nat} {b : Nat} (h : b ∈ l) : ∃ i, i < l.length ∧ hb l i = nI b := by
  obtain ⟨i, hi, e⟩ := List.mem_iff_getElem.mp h
  refine ⟨i, hi, ?_⟩
  rw [hb_lt hi, List.getD_eq_getElem?_getD, List.getElem?_eq_getElem hi, e]; rfl
theorem fm_raw {acc : List Nat} (h : ∀ i, i < (acc.flatMap esW).length → pln (hb (acc.flatMap esW) i) = true) : acc.flatMap esW = acc := by
  refine fm_id acc (fun b hb => ?_)
  by_cases e : esW b = [b]
  · exact e
  · obtain ⟨i, hi, h92⟩ := hb_mem (List.mem_flatMap.mpr ⟨b, hb, esW_92 e⟩)
    have := h i hi
    rw [h92] at this
    exact absurd this (by decide)
theorem fm_acc {acc : List Nat} (h : ∀ i, i < acc.length → pln (hb acc i) = true) : acc.flatMap esW = acc := by
  refine fm_id acc (fun b hb => ?_)
  obtain ⟨i, hi, e⟩ := hb_mem hb
  have := h i hi
  rw [e] at this
  exact pln_esW this
/-- inside a type: taken -/
theorem in_O {acc d : List Nat} {kd : Nat} (ha : ∀ i, acc.getD i 0 < 256) (h : prO (acc.flatMap esW) (acc.flatMap esW).length d kd) : ∃ x : Int32 × Int64 × Nat, sP acc = (true, acc.length, x) ∧ en (nm x) = (kd, d, 0) ∧ cn (nm x) := by
  obtain ⟨x, e, hx⟩ := pr_O (fm_by ha) h
  have hc := sP_cl (fm_by ha) (by rw [e])
  rw [e] at hc
  have hr := fm_raw hc
  rw [hr] at e
  exact ⟨x, e, hx⟩
/-- inside a type: not taken -/
theorem in_F {acc : List Nat} {kk : Nat} (ha : ∀ i, acc.getD i 0 < 256) (h : (∃ w, prF (acc.flatMap esW) w) ∨ (∃ q d kd, prO (acc.flatMap esW) q d kd ∧ ¬ (q = (acc.flatMap esW).length ∧ kd = kk))) : ¬ ((sP acc).1 = true ∧ (sP acc).2.1 = acc.length ∧ (sP acc).2.2.1.toNatClampNeg = kk) := by
  rintro ⟨h1, h2, h3⟩
  have hc := sP_cl ha h1
  rw [h2] at hc
  have hr := fm_acc hc
  rw [hr] at h
  rcases h with ⟨w, h⟩ | ⟨q, d, kd, h, hn⟩
  · rw [(pr_F ha h).1] at h1; cases h1
  · obtain ⟨x, e, hx⟩ := pr_O ha h
    rw [e] at h2 h3
    refine hn ⟨h2, ?_⟩
    rw [← h3]
    exact (congrArg (fun p => p.1) hx.1).symm
end
section
/-! What the class reads is what the reference reads: sAll against roO, raF. -/
def sm (x : Tm) : Nat := x.2.2.2.1.length + x.2.2.2.2.length
theorem wl_6 : wl 6 = [95, 58] := by decide
theorem wl_11 : wl 11 = [94, 94] := by decide
theorem en_1 {b : List Nat} : en (1, 0, 0, b, []) = (1, [95, 58] ++ b, 0) := by
  show ((1 : Nat), wl 6 ++ b, 0) = _
  rw [wl_6]
theorem en_2 {b : List Nat} : en (2, 0, 0, b, []) = (2, [60] ++ b ++ [62], 0) := rfl
theorem en_5 {b : List Nat} : en (5, 0, 0, b, []) = (5, [34] ++ b.flatMap esW ++ [34], (b.flatMap esW).length + 1) := by
  show ((5 : Nat), [34] ++ b.flatMap esW ++ [34] ++ [], (b.flatMap esW).length + 1) = _
  rw [List.append_nil]
theorem en_6 {b c : List Nat} : en (6, 0, 0, b, c) = (6, [34] ++ b.flatMap esW ++ [34] ++ [64] ++ c, (b.flatMap esW).length + 1) := by
  show ((6 : Nat), [34] ++ b.flatMap esW ++ [34] ++ ([64] ++ c), (b.flatMap esW).length + 1) = _
  rw [← List.append_assoc]
theorem en_7 {b c : List Nat} : en (7, 0, 0, b, c) = (7, [34] ++ b.flatMap esW ++ [34] ++ [94] ++ [94] ++ [60] ++ c ++ [62], (b.flatMap esW).length + 1) := by
  show ((7 : Nat), [34] ++ b.flatMap esW ++ [34] ++ (wl 11 ++ ([60] ++ c ++ [62])), (b.flatMap esW).length + 1) = _
  rw [wl_11]
  simp
theorem n92_s {l : List Nat} {b : Nat} (h : n92 l) (hb : esW b = [b]) : n92 (l ++ [b]) := by
  intro x hx
  rcases List.mem_append.mp hx with h1 | h1
  · exact h x h1
  · rw [List.mem_singleton] at h1; rw [h1]; exact hb
theorem n92_nil : n92 [] := fun x hx => absurd hx List.not_mem_nil
theorem pln_of {b : Int32} {f : Int32 → Bool} (h : f b = true) (h1 : f 92 = false) (h2 : f 9 = false) (h3 : f 10 = false) (h4 : f 13 = false) (h5 : f 34 = false) : pln b = true := by
  have g1 : b ≠ 92 := fun e => by rw [e, h1] at h; cases h
  have g2 : b ≠ 9 := fun e => by rw [e, h2] at h; cases h
  have g3 : b ≠ 10 := fun e => by rw [e, h3] at h; cases h
  have g4 : b ≠ 13 := fun e => by rw [e, h4] at h; cases h
  have g5 : b ≠ 34 := fun e => by rw [e, h5] at h; cases h
  simp [pln, g1, g2, g3, g4, g5]
theorem ne92 {t : List Nat} {q : Nat} (f : Int32 → Bool) (h : f (hb t q) = true) (h1 : f 92 = false) (h2 : f 9 = false) (h3 : f 10 = false) (h4 : f 13 = false) (h5 : f 34 = false) (h6 : f (-1) = false) : pln (nI (t.getD q 0)) = true := by
  have hq : q < t.length := hb_in (fun e2 => by rw [e2, h6] at h; cases h)
  rw [hb_lt hq] at h
  exact pln_of h h1 h2 h3 h4 h5
theorem sB_92 (t : List Nat) : ∀ (m q : Nat) (acc : List Nat), n92 acc → n92 (sB t m q acc).2.2 := by
  intro m
  induction m with
  | zero => intro q acc h; exact h
  | succ m ih =>
    intro q acc h
    rw [sB]
    split
    · next e =>
      split
      · exact h
      · exact ih _ _ (n92_s h (pln_esW (ne92 isW e rfl rfl rfl rfl rfl rfl)))
    · exact h
theorem sBk_92 {t b : List Nat} {q : Nat} (e : sBk t = (true, q, b)) : n92 b := by
  have h := sB_92 t (t.length - 2) 2 [] n92_nil
  unfold sBk bkF at e
  split at e
  · split at e
    · cases e
    · rw [e] at h; exact h
  · cases e
theorem sNm_92 (t : List Nat) : ∀ (m q : Nat) (acc : List Nat), n92 acc → n92 (sNm t m q acc).2.2 := by
  intro m
  induction m with
  | zero => intro q acc h; exact h
  | succ m ih =>
    intro q acc h
    rw [sNm]
    split
    · exact h
    · split
      · exact h
      · split
        · next e => exact ih _ _ (n92_s h (pln_esW (ne92 isNB e rfl rfl rfl rfl rfl rfl)))
        · exact h
theorem sNa_92 {t b : List Nat} {q q0 : Nat} {g : Bool} (e : sNa t q0 = (g, q, b)) : n92 b := by
  have h := sNm_92 t (t.length - (q0 + 1)) (q0 + 1) [] n92_nil
  unfold sNa at e
  split at e
  · rw [e] at h; exact h
  · injection e with _ e
    injection e with _ e
    rw [← e]; exact n92_nil
theorem sml_92 {t : List Nat} {q : Nat} (h : (isL (hb t q) || isD (hb t q) || decide (hb t q = 45)) = true) : esW (smlN (t.getD q 0)) = [smlN (t.getD q 0)] := by
  have h1 := pln_esW (ne92 (fun b => isL b || isD b || decide (b = 45)) h rfl rfl rfl rfl rfl rfl)
  unfold smlN
  split
  · unfold esW
    rw [if_neg (by omega), if_neg (by omega), if_neg (by omega), if_neg (by omega), if_neg (by omega)]
  · exact h1
theorem sT_92 (t : List Nat) : ∀ (m q run : Nat) (fs : Bool) (acc : List Nat), n92 acc → n92 (sT t m q run fs acc).2.2 := by
  intro m
  induction m with
  | zero => intro q run fs acc h; rw [sT]; split <;> exact h
  | succ m ih =>
    intro q run fs acc h
    rw [sT]
    split
    · exact h
    · split
      · exact h
      · next e3 =>
        split
        · exact h
        · next e4 =>
          refine ih _ _ _ _ (n92_s h (sml_92 ?_))
          cases hL : isL (hb t q)
          · cases hD : isD (hb t q)
            · cases h45 : decide (hb t q = 45)
              · rw [hL, hD, h45] at e4
                exact absurd rfl e4
              · rfl
            · rfl
          · rfl
theorem snm_ty {b : List Nat} : (tyk b = none ∧ snm b = 7) ∨ ∃ k, tyk b = some k ∧ snm b ≠ 7 ∧ (snm b).toNatClampNeg = k := by
  unfold tyk snm
  repeat' split
  · exact Or.inr ⟨3, rfl, by decide, rfl⟩
  · exact Or.inr ⟨4, rfl, by decide, rfl⟩
  · exact Or.inr ⟨8, rfl, by decide, rfl⟩
  · exact Or.inl ⟨rfl, rfl⟩
theorem sP_kd {l : List Nat} (hl : ∀ i, l.getD i 0 < 256) (h : (sP l).1 = true) {m : Int32} (hm : m = 3 ∨ m = 4 ∨ m = 8) (e : (sP l).2.2.1.toNatClampNeg = m.toNatClampNeg) : (sP l).2.2.1 = m := by
  obtain ⟨-, -, h3⟩ := sP_ok hl h
  rcases h3 with h3 | h3 | h3 <;> rcases hm with rfl | rfl | rfl <;> rw [h3] at e ⊢ <;> first | rfl | exact absurd e (by decide)
theorem snm_k {b : List Nat} (h : snm b ≠ 7) : snm b = 3 ∨ snm b = 4 ∨ snm b = 8 := by
  unfold snm at h ⊢
  repeat' split
  all_goals first | exact Or.inl rfl | exact Or.inr (Or.inl rfl) | exact Or.inr (Or.inr rfl) | (exfalso; apply h; simp [*])
/-- a type: taken -/
theorem ty_O {t acc b d : List Nat} {q q1 kd qq db : Nat} (ha : ∀ i, acc.getD i 0 < 256) (hn : n92 b) (h : (b = wl 2 ∧ d = [34] ++ acc.flatMap esW ++ [34] ∧ kd = 5 ∧ qq = (acc.flatMap esW).length + 1 ∧ db = acc.length) ∨ (b ≠ wl 2 ∧ tyk b = some kd ∧ prO (acc.flatMap esW) (acc.flatMap esW).length d kd ∧ qq = 0 ∧ db = 0) ∨ (b ≠ wl 2 ∧ tyk b = none ∧ d = [34] ++ acc.flatMap esW ++ [34] ++ [94] ++ [94] ++ [60] ++ b ++ [62] ∧ kd = 7 ∧ qq = (acc.flatMap esW).length + 1 ∧ db = acc.length + b.length)) : ∃ x : Tm, sSe acc b q = (true, q, x) ∧ en x = (kd, d, qq) ∧ sm x = db ∧ cn x := by
  unfold sSe
  rcases h with ⟨hb, rfl, rfl, rfl, rfl⟩ | ⟨hb, hk, hp, rfl, rfl⟩ | ⟨hb, hk, rfl, rfl, rfl, rfl⟩
  · rw [if_pos hb]
    exact ⟨_, rfl, en_5, rfl, cn5⟩
  · rw [if_neg hb]
    obtain ⟨x, e, hx⟩ := in_O ha hp
    rcases snm_ty (b := b) with ⟨h1, -⟩ | ⟨k, h1, h7, hs⟩
    · rw [h1] at hk; cases hk
    · rw [h1] at hk
      injection hk with hk
      subst hk
      have hkd : x.1.toNatClampNeg = k := congrArg (fun p => p.1) hx.1
      have h3 := sP_kd ha (by rw [e]) (snm_k h7) (by rw [e, hs]; exact hkd)
      rw [if_neg h7, if_pos ⟨by rw [e], by rw [e], h3⟩, e]
      exact ⟨nm x, rfl, hx.1, rfl, hx.2⟩
  · rw [if_neg hb]
    rcases snm_ty (b := b) with ⟨-, h7⟩ | ⟨k, h1, -⟩
    · rw [if_pos h7]
      exact ⟨_, rfl, en_7, rfl, cn7 hn⟩
    · rw [h1] at hk; cases hk
/-- a type: not taken -/
theorem ty_F {acc b : List Nat} {q kk : Nat} (ha : ∀ i, acc.getD i 0 < 256) (hb : b ≠ wl 2) (hk : tyk b = some kk) (h : (∃ w, prF (acc.flatMap esW) w) ∨ (∃ q d kd, prO (acc.flatMap esW) q d kd ∧ ¬ (q = (acc.flatMap esW).length ∧ kd = kk))) : (sSe acc b q).1 = false ∧ (sSe acc b q).2.1 = 0 := by
  have hn := in_F ha h
  unfold sSe
  rcases snm_ty (b := b) with ⟨h1, -⟩ | ⟨k, h1, h7, hs⟩
  · rw [h1] at hk; cases hk
  · rw [h1] at hk
    injection hk with hk
    subst hk
    rw [if_neg hb, if_neg h7, if_neg]
    · exact ⟨rfl, rfl⟩
    · rintro ⟨a1, a2, a3⟩
      exact hn ⟨a1, a2, by rw [a3]; exact hs⟩
theorem mp_e {α β : Type} {o : Bool × Nat × α} {f : α → β} {b : Bool} {q : Nat} {a : α} (e : o = (b, q, a)) : mp o f = (b, q, f a) := by subst e; rfl
theorem pr_n0 {l d : List Nat} {q kd : Nat} (h : prO l q d kd) : ¬ hb l 0 = 34 ∧ ¬ hb l 0 = 60 ∧ ¬ hb l 0 = 95 := by
  obtain ⟨k, hk, -⟩ | ⟨hB, -⟩ := h
  · rcases hk with ⟨-, e⟩ | ⟨-, e⟩
    · rw [e]; decide
    · rw [e]; decide
  · rcases hB with e | e | e | e
    · rw [e]; decide
    · rw [e]; decide
    · rw [e]; decide
    · refine ⟨fun e2 => ?_, fun e2 => ?_, fun e2 => ?_⟩
      · rw [e2] at e; exact absurd e (by decide)
      · rw [e2] at e; exact absurd e (by decide)
      · rw [e2] at e; exact absurd e (by decide)
theorem a1_e {t : List Nat} {q : Nat} {x : Tm} (e : sA t = (true, q, x)) (h7 : x.1 ≠ 7) : sAll1 (sA t) = (true, q, x) := by
  rw [e]
  unfold sAll1
  rw [if_pos rfl, if_neg h7]
theorem a1_7 {t b c : List Nat} {q : Nat} (e : sA t = (true, q, 7, 0, 0, b, c)) : sAll1 (sA t) = sSe b c q := by
  rw [e]
  unfold sAll1
  rw [if_pos rfl, if_pos rfl]
theorem a1_f {t : List Nat} {w : Nat} (e1 : (sA t).1 = false) (e2 : (sA t).2.1 = w) : (sAll1 (sA t)).1 = false ∧ (sAll1 (sA t)).2.1 = w := by
  unfold sAll1
  rw [if_neg (by rw [e1]; decide)]
  exact ⟨e1, e2⟩
theorem sA_34 {t : List Nat} (h : hb t 0 = 34) {q1 : Nat} {acc : List Nat} (e : sI t t.length 1 [] = (true, q1, acc)) : sA t = mp (sTx2 t q1 acc) (fun x => (x.1, 0, 0, x.2.1, x.2.2)) := by
  unfold sA sTx
  rw [if_pos h, e, if_pos rfl]
/-- taken up to q -/
theorem ro_O {t d : List Nat} {q kd qq db : Nat} (ht : ∀ i, t.getD i 0 < 256) (h : roO t q d kd qq db) : ∃ x : Tm, sAll1 (sA t) = (true, q, x) ∧ en x = (kd, d, qq) ∧ sm x = db ∧ cn x := by
  obtain ⟨h0, b, e, rfl, rfl, rfl, rfl⟩ | ⟨h0, b, e, rfl, rfl, rfl, rfl⟩ | ⟨h0, q1, acc, e1, h2⟩ | ⟨h, rfl, rfl⟩ := h
  · refine ⟨(1, 0, 0, b, []), a1_e ?_ (show (1 : Int32) ≠ 7 by decide), en_1, rfl, cn1 (sBk_92 e)⟩
    unfold sA
    rw [if_neg (by rw [h0]; decide), if_neg (by rw [h0]; decide), if_pos h0]
    exact mp_e e
  · refine ⟨(2, 0, 0, b, []), a1_e ?_ (show (2 : Int32) ≠ 7 by decide), en_2, rfl, cn2 (sNa_92 e)⟩
    unfold sA
    rw [if_neg (by rw [h0]; decide), if_pos h0]
    exact mp_e e
  · have hA := sA_34 h0 e1
    have ha := sI_by t ht t.length 1 [] nil_by
    rw [e1] at ha
    unfold sTx2 at hA
    obtain ⟨h6, b, e, rfl, rfl, rfl, rfl⟩ | ⟨h6, h7, b, e, h8⟩ | ⟨h6, h7, rfl, rfl, rfl, rfl, rfl⟩ := h2
    · rw [if_pos h6, mp_e e] at hA
      exact ⟨(6, 0, 0, acc, b), a1_e hA (show (6 : Int32) ≠ 7 by decide), en_6, rfl, cn6 (by have := sT_92 t (t.length - (q1 + 1)) (q1 + 1) 0 true [] n92_nil; rw [e] at this; exact this)⟩
    · rw [if_neg (by rw [h6]; decide), if_pos h6, if_pos h7, mp_e (show sNa t (q1 + 2) = (true, q, b) from e)] at hA
      rw [a1_7 hA]
      exact ty_O (t := t) (q1 := q1) ha (sNa_92 e) h8
    · rw [if_neg h6, if_neg h7] at hA
      exact ⟨(5, 0, 0, acc, []), a1_e hA (show (5 : Int32) ≠ 7 by decide), en_5, rfl, cn5⟩
  · obtain ⟨x, e, hx⟩ := pr_O ht h
    obtain ⟨n1, n2, n3⟩ := pr_n0 h
    refine ⟨nm x, a1_e ?_ ?_, hx.1, rfl, hx.2⟩
    · unfold sA
      rw [if_neg n1, if_neg n2, if_neg n3, mp_e e]; rfl
    · have h3 := (sP_ok ht (by rw [e])).2.2
      rw [e] at h3
      show x.1 ≠ 7
      rcases h3 with h3 | h3 | h3 <;> rw [show x.1 = _ from h3] <;> decide
/-- not taken, at w -/
theorem ro_F {t : List Nat} {w : Nat} (ht : ∀ i, t.getD i 0 < 256) (h : roF t w) : (sAll1 (sA t)).1 = false ∧ (sAll1 (sA t)).2.1 = w := by
  obtain ⟨h0, b, e⟩ | ⟨h0, b, e⟩ | ⟨h0, h⟩ | ⟨n3, n2, n1, h⟩ := h
  · have hA : sA t = mp (sBk t) (fun b => (1, 0, 0, b, [])) := by
      unfold sA
      rw [if_neg (by rw [h0]; decide), if_neg (by rw [h0]; decide), if_pos h0]
    rw [mp_e e] at hA
    exact a1_f (by rw [hA]) (by rw [hA])
  · have hA : sA t = mp (sNa t 0) (fun b => (2, 0, 0, b, [])) := by
      unfold sA
      rw [if_neg (by rw [h0]; decide), if_pos h0]
    rw [mp_e e] at hA
    exact a1_f (by rw [hA]) (by rw [hA])
  · rcases h with ⟨acc, e⟩ | ⟨q1, acc, e1, h2⟩
    · have hA : sA t = (false, w, 0, 0, 0, [], []) := by
        unfold sA sTx
        rw [if_pos h0, e, if_neg Bool.false_ne_true]; rfl
      exact a1_f (by rw [hA]) (by rw [hA])
    · have hA := sA_34 h0 e1
      have ha := sI_by t ht t.length 1 [] nil_by
      rw [e1] at ha
      unfold sTx2 at hA
      rcases h2 with ⟨h6, b, e⟩ | ⟨h6, ⟨h7, rfl⟩ | ⟨h7, b, e⟩ | ⟨h7, rfl, q, b, kk, e, hb2, hk, hp⟩⟩
      · rw [if_pos h6, mp_e e] at hA
        exact a1_f (by rw [hA]; rfl) (by rw [hA]; rfl)
      · rw [if_neg (by rw [h6]; decide), if_pos h6, if_neg h7] at hA
        exact a1_f (by rw [hA]; rfl) (by rw [hA]; rfl)
      · rw [if_neg (by rw [h6]; decide), if_pos h6, if_pos h7, mp_e (show sNa t (q1 + 2) = (false, w, b) from e)] at hA
        exact a1_f (by rw [hA]; rfl) (by rw [hA]; rfl)
      · rw [if_neg (by rw [h6]; decide), if_pos h6, if_pos h7, mp_e (show sNa t (q1 + 2) = (true, q, b) from e)] at hA
        rw [a1_7 hA]
        exact ty_F ha hb2 hk hp
  · have hp := pr_F ht h
    have hA : sA t = mp (sP t) (fun x => (x.1, x.2.1, x.2.2, [], [])) := by
      unfold sA
      rw [if_neg n1, if_neg n2, if_neg n3]
    exact a1_f (by rw [hA]; exact hp.1) (by rw [hA]; exact hp.2)
theorem all_O {t d : List Nat} {kd qq db : Nat} (ht : ∀ i, t.getD i 0 < 256) (h : roO t t.length d kd qq db) : ∃ x : Tm, sAll t = (true, t.length, x) ∧ en x = (kd, d, qq) ∧ sm x = db ∧ cn x := by
  obtain ⟨x, e, hx⟩ := ro_O ht h
  refine ⟨x, ?_, hx⟩
  unfold sAll sAll2
  rw [e, if_pos rfl, if_neg (Nat.lt_irrefl _)]
theorem all_F {t : List Nat} {w : Nat} (ht : ∀ i, t.getD i 0 < 256) (h : raF t w) : (sAll t).1 = false ∧ (sAll t).2.1 = w := by
  unfold sAll sAll2
  rcases h with h | ⟨d, kd, qq, db, h, hw⟩
  · obtain ⟨e1, e2⟩ := ro_F ht h
    rw [if_neg (by rw [e1]; decide)]
    exact ⟨rfl, e2⟩
  · obtain ⟨x, e, -⟩ := ro_O ht h
    rw [e, if_pos rfl, if_pos hw]
    exact ⟨rfl, rfl⟩
end
section
/-! What the reference keeps tells the term: en is one to one on what is kept. -/
theorem tdl_ex : ∀ (m i r ep : Nat), r < 10 ^ m → ∃ e, tdl m i r ep = e.reverse ∧ digs e ∧ ofD e = r ∧ (ep - i ≤ m → ep ≤ i + e.length) := by
  intro m
  induction m with
  | zero => intro i r ep hr; exact ⟨[], rfl, digs_nil, by rw [ofD_nil]; simp at hr; omega, fun h => by rw [List.length_nil]; omega⟩
  | succ m ih =>
    intro i r ep hr
    by_cases hc : 0 < r ∨ i < ep
    · obtain ⟨e, h1, h2, h3, h4⟩ := ih (i + 1) (r / 10) ep (by rw [Nat.pow_succ] at hr; omega)
      refine ⟨e ++ [48 + r % 10], ?_, digs_s h2 (by omega), ?_, fun h => ?_⟩
      · rw [tdl, if_pos hc, h1, List.reverse_append]; rfl
      · rw [ofD_s, h3]; omega
      · have := h4 (by omega)
        rw [List.length_append, List.length_cons, List.length_nil]; omega
    · exact ⟨[], by rw [tdl, if_neg hc]; rfl, digs_nil, by rw [ofD_nil]; omega, fun h => by rw [List.length_nil]; omega⟩
def sgW (v : Int64) : List Nat := if 0 ≤ lg_cmp v 0 then [] else [45]
theorem nu_3 {v : Int64} {b c : List Nat} {r : Nat} (hr : r < 10 ^ 18) : ∃ e, nuW (3, v, 0, b, c) r = sgW v ++ e ∧ digs e ∧ ofD e = r ∧ e ≠ [] := by
  obtain ⟨e, h1, h2, h3, h4⟩ := tdl_ex 18 0 r (0 + 1) hr
  have hp := h4 (by omega)
  refine ⟨e, ?_, h2, h3, fun h => by rw [h] at hp; simp at hp⟩
  show sgW v ++ nbl (tdl 18 0 r (0 + 1)) 0 (tdl 18 0 r (0 + 1)).length ++ (if (3 : Int32) = 4 ∧ (0 : Nat) = 0 then wl 7 else []) = _
  rw [h1, List.length_reverse, nbl_all (by omega), if_pos rfl, if_neg (by decide), List.append_nil, Nat.sub_zero, List.take_length, List.drop_length, List.append_nil, List.append_nil]
theorem nu_4 {v : Int64} {b c : List Nat} {r p : Nat} (hr : r < 10 ^ 18) (hp9 : p ≤ 9) : ∃ a d, nuW (4, v, p, b, c) r = sgW v ++ (a ++ (46 :: d)) ∧ digs a ∧ digs d ∧ a ≠ [] ∧ ((p = 0 ∧ d = [48] ∧ ofD a = r) ∨ (0 < p ∧ d.length = p ∧ ofD (a ++ d) = r)) := by
  obtain ⟨e, h1, h2, h3, h4⟩ := tdl_ex 18 0 r (p + 1) hr
  have hp := h4 (by omega)
  have e1 : nuW (4, v, p, b, c) r = sgW v ++ (e.take (e.length - p) ++ ((if p = 0 then [] else [46]) ++ e.drop (e.length - p))) ++ (if p = 0 then [46, 48] else []) := by
    show sgW v ++ nbl (tdl 18 0 r (p + 1)) p (tdl 18 0 r (p + 1)).length ++ (if (4 : Int32) = 4 ∧ p = 0 then wl 7 else []) = _
    rw [h1, List.length_reverse, nbl_all (by omega), wl_7]
    by_cases h0 : p = 0
    · rw [if_pos (show (4 : Int32) = 4 ∧ p = 0 from ⟨rfl, h0⟩), if_pos h0, if_pos h0]
    · rw [if_neg (fun h : (4 : Int32) = 4 ∧ p = 0 => h0 h.2), if_neg h0, if_neg h0]
  by_cases h0 : p = 0
  · subst h0
    refine ⟨e, [48], ?_, h2, fun x hx => by rw [List.mem_singleton] at hx; omega, fun h => by rw [h] at hp; simp at hp, Or.inl ⟨rfl, rfl, h3⟩⟩
    rw [e1, if_pos rfl, if_pos rfl, Nat.sub_zero, List.take_length, List.drop_length, List.append_nil, List.append_nil, List.append_assoc]
  · refine ⟨e.take (e.length - p), e.drop (e.length - p), ?_, fun x hx => h2 x (List.mem_of_mem_take hx), fun x hx => h2 x (List.mem_of_mem_drop hx), ?_, Or.inr ⟨by omega, ?_, by rw [List.take_append_drop]; exact h3⟩⟩
    · rw [e1, if_neg h0, if_neg h0, List.append_nil]; rfl
    · intro h
      have := congrArg List.length h
      rw [List.length_take, List.length_nil] at this
      omega
    · rw [List.length_drop]; omega
theorem sg_cn {v v' : Int64} {a a' : List Nat} (ha : digs a) (ha' : digs a') {y y' : List Nat} (hn : a ≠ []) (hn' : a' ≠ []) (h : sgW v ++ (a ++ y) = sgW v' ++ (a' ++ y')) : sgW v = sgW v' ∧ a ++ y = a' ++ y' := by
  have key : ∀ (c c' : List Nat), digs c → c ≠ [] → ∀ (w w' : List Nat), c ++ w = 45 :: w' → False := by
    intro c c' hc hcn w w' e
    cases c with
    | nil => exact hcn rfl
    | cons x c =>
      injection e with e1 _
      have := hc x List.mem_cons_self
      omega
  unfold sgW at h ⊢
  by_cases c1 : 0 ≤ lg_cmp v 0
  · by_cases c2 : 0 ≤ lg_cmp v' 0
    · rw [if_pos c1, if_pos c2] at h ⊢; exact ⟨rfl, h⟩
    · rw [if_pos c1, if_neg c2] at h; exact (key a a' ha hn _ _ h).elim
  · by_cases c2 : 0 ≤ lg_cmp v' 0
    · rw [if_neg c1, if_pos c2] at h; exact (key a' a ha' hn' _ _ h.symm).elim
    · rw [if_neg c1, if_neg c2] at h ⊢
      injection h with _ h
      exact ⟨rfl, h⟩
theorem sg_v {s s' : Bool} {r : Nat} (hr : r < 10 ^ 18) (h : sgW (sN s r) = sgW (sN s' r)) : sN s r = sN s' r := by
  have hp := sg_p hr
  have hn := sg_n hr
  unfold sgW at h
  cases s <;> cases s'
  · rfl
  · rw [show sN false r = lN r from rfl, show sN true r = -lN r from rfl, if_pos hp] at h
    by_cases c : 0 ≤ lg_cmp (-lN r) 0
    · have := hn.mp c; subst this; rfl
    · rw [if_neg c] at h; cases h
  · rw [show sN false r = lN r from rfl, show sN true r = -lN r from rfl, if_pos hp] at h
    by_cases c : 0 ≤ lg_cmp (-lN r) 0
    · have := hn.mp c; subst this; rfl
    · rw [if_neg c] at h; cases h
  · rfl
theorem dot_cn : ∀ (a a' d d' : List Nat), digs a → digs a' → a ++ (46 :: d) = a' ++ (46 :: d') → a = a' ∧ d = d' := by
  intro a
  induction a with
  | nil =>
    intro a' d d' h h' e
    cases a' with
    | nil => injection e with _ e; exact ⟨rfl, e⟩
    | cons x a' =>
      injection e with e _
      have := h' x List.mem_cons_self
      omega
  | cons x a ih =>
    intro a' d d' h h' e
    cases a' with
    | nil =>
      injection e with e _
      have := h x List.mem_cons_self
      omega
    | cons x' a' =>
      injection e with e1 e2
      obtain ⟨h1, h2⟩ := ih a' d d' (fun y hy => h y (List.mem_cons_of_mem _ hy)) (fun y hy => h' y (List.mem_cons_of_mem _ hy)) e2
      exact ⟨by rw [e1, h1], h2⟩
theorem okv {v : Int64} (h : ∃ r : Nat, r < 10 ^ 18 ∧ (v = lN r ∨ v = -lN r)) : ∃ s r, r < 10 ^ 18 ∧ v = sN s r ∧ mag v = r := by
  obtain ⟨r, hr, e | e⟩ := h
  · exact ⟨false, r, hr, e, by rw [e]; exact mag_s (s := false) hr⟩
  · exact ⟨true, r, hr, e, by rw [e]; exact mag_s (s := true) hr⟩
theorem ne_of {a : List Nat} (h : digs a) (e : 0 < a.length) : a ≠ [] := fun h => by rw [h] at e; exact absurd e (by decide)
theorem in_3 {v v' : Int64} (ov : ∃ r : Nat, r < 10 ^ 18 ∧ (v = lN r ∨ v = -lN r)) (ov' : ∃ r : Nat, r < 10 ^ 18 ∧ (v' = lN r ∨ v' = -lN r)) (h : nuW (3, v, 0, [], []) (mag v) = nuW (3, v', 0, [], []) (mag v')) : v = v' := by
  obtain ⟨s, r, hr, rfl, hm⟩ := okv ov
  obtain ⟨s', r', hr', rfl, hm'⟩ := okv ov'
  rw [hm, hm'] at h
  obtain ⟨e, h1, h2, h3, h4⟩ := nu_3 (v := sN s r) (b := []) (c := []) hr
  obtain ⟨e', h1', h2', h3', h4'⟩ := nu_3 (v := sN s' r') (b := []) (c := []) hr'
  rw [h1, h1'] at h
  obtain ⟨k1, k2⟩ := sg_cn (y := []) (y' := []) h2 h2' h4 h4' (by rw [List.append_nil, List.append_nil]; exact h)
  rw [List.append_nil, List.append_nil] at k2
  have hrr : r = r' := by rw [← h3, ← h3', k2]
  subst hrr
  exact sg_v hr k1
theorem in_4 {v v' : Int64} {p p' : Nat} (ov : ∃ r : Nat, r < 10 ^ 18 ∧ (v = lN r ∨ v = -lN r)) (ov' : ∃ r : Nat, r < 10 ^ 18 ∧ (v' = lN r ∨ v' = -lN r)) (hp : p ≤ 9) (hp' : p' ≤ 9) (hc : p = 0 ∨ v - v / 10 * 10 ≠ 0) (hc' : p' = 0 ∨ v' - v' / 10 * 10 ≠ 0) (h : nuW (4, v, p, [], []) (mag v) = nuW (4, v', p', [], []) (mag v')) : v = v' ∧ p = p' := by
  obtain ⟨s, r, hr, rfl, hm⟩ := okv ov
  obtain ⟨s', r', hr', rfl, hm'⟩ := okv ov'
  rw [hm, hm'] at h
  obtain ⟨a, d, h1, h2, h3, h4, h5⟩ := nu_4 (v := sN s r) (b := []) (c := []) hr hp
  obtain ⟨a', d', h1', h2', h3', h4', h5'⟩ := nu_4 (v := sN s' r') (b := []) (c := []) hr' hp'
  rw [h1, h1'] at h
  obtain ⟨k1, k2⟩ := sg_cn h2 h2' h4 h4' h
  obtain ⟨k3, k4⟩ := dot_cn a a' d d' h2 h2' k2
  subst k3
  subst k4
  have h10 : ∀ (q : Nat) (x : Nat), d = [48] → ofD (a ++ d) = x → x % 10 = 0 := by
    intro q x e e2
    rw [e, ofD_s] at e2
    omega
  have key : r = r' ∧ p = p' := by
    rcases h5 with ⟨rfl, e1, e2⟩ | ⟨e0, e1, e2⟩
    · rcases h5' with ⟨rfl, -, e2'⟩ | ⟨e0', e1', e2'⟩
      · exact ⟨by rw [← e2, e2'], rfl⟩
      · have hz := h10 0 _ e1 e2'
        rcases hc' with hc' | hc'
        · omega
        · exact absurd ((sN_rem hr').mpr hz) hc'
    · rcases h5' with ⟨rfl, e1', e2'⟩ | ⟨e0', e1', e2'⟩
      · have hz := h10 0 _ e1' e2
        rcases hc with hc | hc
        · omega
        · exact absurd ((sN_rem hr).mpr hz) hc
      · exact ⟨by rw [← e2, e2'], by omega⟩
  obtain ⟨rfl, rfl⟩ := key
  exact ⟨sg_v hr k1, rfl⟩
theorem esW_c (c : Nat) : (c ≠ 34 ∧ c ≠ 92 ∧ esW c = [c]) ∨ ∃ y, esW c = [92, y] ∧ c = eN y := by
  unfold esW
  split
  · next e => exact Or.inr ⟨116, by decide, by rw [e]; decide⟩
  · split
    · next e => exact Or.inr ⟨110, by decide, by rw [e]; decide⟩
    · split
      · next e => exact Or.inr ⟨114, by decide, by rw [e]; decide⟩
      · split
        · next e => exact Or.inr ⟨34, rfl, by rw [e]; decide⟩
        · split
          · next e => exact Or.inr ⟨92, rfl, by rw [e]; decide⟩
          · next e1 e2 => exact Or.inl ⟨e1, e2, rfl⟩
theorem fm_cn : ∀ (a b r r' : List Nat), a.flatMap esW ++ (34 :: r) = b.flatMap esW ++ (34 :: r') → a = b ∧ r = r' := by
  intro a
  induction a with
  | nil =>
    intro b r r' e
    cases b with
    | nil => injection e with _ e; exact ⟨rfl, e⟩
    | cons c b =>
      rw [List.flatMap_nil, List.nil_append, List.flatMap_cons] at e
      rcases esW_c c with ⟨h1, h2, h3⟩ | ⟨y, h3, -⟩
      · rw [h3] at e; injection e with e _; exact absurd e.symm h1
      · rw [h3] at e; injection e with e _; exact absurd e (by decide)
  | cons x a ih =>
    intro b r r' e
    cases b with
    | nil =>
      rw [List.flatMap_nil, List.nil_append, List.flatMap_cons] at e
      rcases esW_c x with ⟨h1, h2, h3⟩ | ⟨y, h3, -⟩
      · rw [h3] at e; injection e with e _; exact absurd e h1
      · rw [h3] at e; injection e with e _; exact absurd e (by decide)
    | cons c b =>
      rw [List.flatMap_cons, List.flatMap_cons, List.append_assoc, List.append_assoc] at e
      have key : x = c ∧ a.flatMap esW ++ (34 :: r) = b.flatMap esW ++ (34 :: r') := by
        rcases esW_c x with ⟨h1, h2, h3⟩ | ⟨y, h3, h4⟩
        · rcases esW_c c with ⟨g1, g2, g3⟩ | ⟨y', g3, g4⟩
          · rw [h3, g3] at e; injection e with e1 e2; exact ⟨e1, e2⟩
          · rw [h3, g3] at e; injection e with e1 e2; exact absurd e1 h2
        · rcases esW_c c with ⟨g1, g2, g3⟩ | ⟨y', g3, g4⟩
          · rw [h3, g3] at e; injection e with e1 e2; exact absurd e1.symm g2
          · rw [h3, g3] at e; injection e with e1 e2; injection e2 with e2 e3; exact ⟨by rw [h4, g4, e2], e3⟩
      obtain ⟨h1, h2⟩ := ih b r r' key.2
      exact ⟨by rw [key.1, h1], h2⟩
theorem en_inj {x y : Tm} (hx : cn x) (hy : cn y) (ox : okT x) (oy : okT y) (h1 : (en x).1 = (en y).1) (h2 : (en x).2.1 = (en y).2.1) : x = y := by
  obtain ⟨-, -, ov, op, -⟩ := ox
  obtain ⟨-, -, ov', op', -⟩ := oy
  rcases hx with ⟨b, rfl, hb⟩ | ⟨b, rfl, hb⟩ | ⟨v, rfl⟩ | ⟨v, p, rfl, hc⟩ | ⟨b, rfl⟩ | ⟨b, c, rfl, hb⟩ | ⟨b, c, rfl, hb⟩ | rfl | rfl <;>
    rcases hy with ⟨b', rfl, hb'⟩ | ⟨b', rfl, hb'⟩ | ⟨v', rfl⟩ | ⟨v', p', rfl, hc'⟩ | ⟨b', rfl⟩ | ⟨b', c', rfl, hb'⟩ | ⟨b', c', rfl, hb'⟩ | rfl | rfl <;>
    dsimp only [en] at h1 <;> first | (exact absurd h1 (by decide)) | skip
  · have : wl 6 ++ b = wl 6 ++ b' := h2
    rw [List.append_cancel_left this]
  · have : [60] ++ b ++ [62] = [60] ++ b' ++ [62] := h2
    rw [List.append_cancel_left (List.append_cancel_right this)]
  · have e : v = v' := in_3 ov ov' h2
    rw [e]
  · obtain ⟨rfl, rfl⟩ := in_4 ov ov' op op' hc hc' h2
    rfl
  · have h := h2
    rw [en_5, en_5] at h
    dsimp only at h
    rw [List.append_assoc, List.append_assoc] at h
    rw [(fm_cn b b' [] [] (List.append_cancel_left h)).1]
  · have h := h2
    rw [en_6, en_6] at h
    dsimp only at h
    simp only [List.append_assoc] at h
    obtain ⟨rfl, e⟩ := fm_cn b b' ([64] ++ c) ([64] ++ c') (List.append_cancel_left h)
    rw [List.append_cancel_left e]
  · have h := h2
    rw [en_7, en_7] at h
    dsimp only at h
    simp only [List.append_assoc] at h
    obtain ⟨rfl, e⟩ := fm_cn b b' ([94] ++ ([94] ++ ([60] ++ (c ++ [62])))) ([94] ++ ([94] ++ ([60] ++ (c' ++ [62])))) (List.append_cancel_left h)
    rw [List.append_cancel_right (List.append_cancel_left (List.append_cancel_left (List.append_cancel_left e)))]
  · rfl
  · exact absurd (show wl 1 = wl 0 from h2) (by decide)
  · exact absurd (show wl 0 = wl 1 from h2) (by decide)
  · rfl
end
section
/-! One table, kept twice: T and T.map en. -/
section MEN
variable {T : List Tm} {i : Nat}
theorem men (h : i < T.length) : (T.map en).getD i (0, [], 0) = en (T.getD i tm0) := by
  rw [List.getD_eq_getElem?_getD, List.getElem?_map, List.getElem?_eq_getElem h, List.getD_eq_getElem?_getD, List.getElem?_eq_getElem h]; rfl
theorem m_knd (h : i < T.length) : knd (T.map en) i = (en (T.getD i tm0)).1 := by unfold knd; rw [men h]
theorem m_bys (h : i < T.length) : bys (T.map en) i = (en (T.getD i tm0)).2.1 := by unfold bys; rw [men h]
theorem m_quo (h : i < T.length) : quo (T.map en) i = (en (T.getD i tm0)).2.2 := by unfold quo; rw [men h]
theorem m_len : (T.map en).length = T.length := List.length_map en
/-- what is kept, and each once -/
def cT (T : List Tm) : Prop := ∀ i, i < T.length → cn (T.getD i tm0) ∧ ∀ j, j < i → T.getD j tm0 ≠ T.getD i tm0
def oT (T : List Tm) : Prop := ∀ i, i < T.length → okT (T.getD i tm0)
theorem isP_m {x : Tm} (hc : cT T) (ho : oT T) (cx : cn x) (ox : okT x) (hi : i < T.length) : isP (T.map en) (en x).1 (en x).2.1 i ↔ T.getD i tm0 = x := by
  unfold isP
  rw [m_knd hi, m_bys hi]
  constructor
  · rintro ⟨h1, h2⟩; exact en_inj (hc i hi).1 cx (ho i hi) ox h1 h2
  · intro h; rw [h]; exact ⟨rfl, rfl⟩
theorem fnT_0 {x : Tm} : ∀ (m i : Nat), (∀ k, i ≤ k → k < i + m → T.getD k tm0 ≠ x) → fnT T x m i = -2 := by
  intro m
  induction m with
  | zero => intro i _; rfl
  | succ m ih =>
    intro i h
    rw [fnT, if_neg (h i (Nat.le_refl _) (by omega))]
    exact ih (i + 1) (fun k h1 h2 => h k (by omega) (by omega))
theorem fnT_j {x : Tm} {k : Nat} (hk : T.getD k tm0 = x) : ∀ (m i : Nat), i ≤ k → k < i + m → (∀ l, i ≤ l → l < k → T.getD l tm0 ≠ x) → fnT T x m i = nI (k + 1) := by
  intro m
  induction m with
  | zero => intro i h1 h2; omega
  | succ m ih =>
    intro i h1 h2 h
    rw [fnT]
    by_cases e : i = k
    · rw [if_pos (by rw [e]; exact hk), e]
    · rw [if_neg (h i (Nat.le_refl _) (by omega))]
      exact ih (i + 1) (by omega) (by omega) (fun l h3 h4 => h l (by omega) h4)
theorem fd_m {x : Tm} (hc : cT T) (ho : oT T) (cx : cn x) (ox : okT x) {j : Nat} (h : fdP (T.map en) (en x).1 (en x).2.1 j) : (0 < j ∧ j ≤ T.length ∧ numT T x = nI j) ∨ (j = 0 ∧ numT T x = -2) := by
  rcases h with ⟨⟨h1, h2, h3⟩, h4⟩ | ⟨h1, h2⟩
  · rw [m_len] at h2
    refine Or.inl ⟨h1, h2, ?_⟩
    have e := fnT_j (T := T) (k := j - 1) ((isP_m hc ho cx ox (by omega)).mp h3) T.length 0 (by omega) (by omega) (fun l _ hl e => h4 l hl ((isP_m hc ho cx ox (by omega)).mpr e))
    rw [show j - 1 + 1 = j by omega] at e
    exact e
  · refine Or.inr ⟨h1, fnT_0 T.length 0 (fun k _ hk e => ?_)⟩
    exact h2 k (by rw [m_len]; omega) ((isP_m hc ho cx ox (by omega)).mpr e)
theorem num_no {x : Tm} : ∀ (m i : Nat), i + m ≤ 2000 → fnT T x m i = -2 → ∀ k, i ≤ k → k < i + m → T.getD k tm0 ≠ x := by
  intro m
  induction m with
  | zero => intro i _ _ k h1 h2; omega
  | succ m ih =>
    intro i hm h k h1 h2
    rw [fnT] at h
    split at h
    · have := nI_pos (n := i + 1) (by omega)
      rw [h] at this
      exact absurd (by decide) this
    · next e =>
      by_cases hk : k = i
      · rw [hk]; exact e
      · exact ih (i + 1) (by omega) h k (by omega) (by omega)
theorem cT_s {x : Tm} (hc : cT T) (cx : cn x) (hT : T.length ≤ 2000) (hx : numT T x = -2) : cT (T ++ [x]) := by
  have hno := num_no T.length 0 (by omega) hx
  intro i hi
  have hi0 := hi
  rw [List.length_append, List.length_cons, List.length_nil] at hi
  constructor
  · rw [getD_tm hi]
    split
    · next q => exact (hc i q).1
    · exact cx
  · intro j hj
    rw [getD_tm hi, getD_tm (show j < T.length + 1 by omega), if_pos (show j < T.length by omega)]
    split
    · next q => exact (hc i q).2 j hj
    · exact hno j (by omega) (by omega)
theorem map_s {x : Tm} : (T ++ [x]).map en = T.map en ++ [en x] := by rw [List.map_append]; rfl
end MEN
/-- kept on both sides -/
theorem kp_md {c0 z u pl u' : Nat} {F : Nat → Option va_E} {t o : List Nat} {T : List Tm} {x : Tm} {rA rB : Option Value} {h' : ev_H} {ts' : RT} (hc : cT T) (ho : oT T) (cx : cn x) (ox : okT x) (hK : kP c0 z F t T u o pl x rA h') (hM : mdR (T.map en) (en x).1 (en x).2.1 (en x).2.2 u (sm x) rB ts' u') (hT : T.length ≤ 2000) : ∃ T' v, ts' = T'.map en ∧ cT T' ∧ T'.length ≤ T.length + 1 ∧ rB = some (.int v) ∧ cP c0 z F t T' u' o pl (.int v) rA h' := by
  rcases hM with ⟨j, h1, h2, rfl, rfl, rfl⟩ | ⟨h2, h3, rfl, rfl, rfl⟩ | ⟨h2, h3, h4, rfl, rfl, rfl⟩
  · rcases fd_m hc ho cx ox h2 with ⟨-, e2, e3⟩ | ⟨e1, -⟩
    · have hn : ¬ numT T x = -2 := by
        rw [e3]
        intro e
        have := nI_pos (n := j) (by omega)
        rw [e] at this
        exact this (by decide)
      rcases hK with ⟨-, k2⟩ | ⟨k1, -⟩ | ⟨k1, -⟩
      · rw [e3] at k2
        exact ⟨T, nI j, rfl, hc, by omega, rfl, k2⟩
      · exact absurd k1 hn
      · exact absurd k1 hn
    · omega
  · rcases fd_m hc ho cx ox h2 with ⟨e1, -⟩ | ⟨-, e3⟩
    · omega
    · rw [m_len] at h3
      rcases hK with ⟨k1, -⟩ | ⟨-, -, k3⟩ | ⟨-, k2, k3, -⟩
      · exact absurd e3 k1
      · exact ⟨T, -3, rfl, hc, by omega, rfl, k3⟩
      · unfold sm at h3; omega
  · rcases fd_m hc ho cx ox h2 with ⟨e1, -⟩ | ⟨-, e3⟩
    · omega
    · rw [m_len] at h3 ⊢
      rcases hK with ⟨k1, -⟩ | ⟨-, k2, -⟩ | ⟨-, -, -, k4⟩
      · exact absurd e3 k1
      · unfold sm at h4; omega
      · exact ⟨T ++ [x], nI (T.length + 1), by rw [map_s], cT_s hc cx hT e3, by rw [List.length_append, List.length_cons, List.length_nil]; omega, rfl, k4⟩
theorem nbl_len (D : List Nat) (p : Nat) : ∀ k, (nbl D p k).length ≤ 2 * k := by
  intro k
  induction k with
  | zero => rw [nbl]; exact Nat.le_refl _
  | succ k ih =>
    rw [nbl]
    simp only [List.length_append, List.length_cons, List.length_nil]
    split <;> simp only [List.length_cons, List.length_nil] <;> omega
theorem nuW_len {x : Tm} {r : Nat} : (nuW x r).length ≤ 40 := by
  unfold nuW
  have h1 := tdl_len 18 0 r (x.2.2.1 + 1)
  have h2 := nbl_len (tdl 18 0 r (x.2.2.1 + 1)) x.2.2.1 (tdl 18 0 r (x.2.2.1 + 1)).length
  rw [List.length_append, List.length_append, wl_7]
  have h3 : (if 0 ≤ lg_cmp x.2.1 0 then ([] : List Nat) else [45]).length ≤ 1 := by split <;> simp
  have h4 : (if x.1 = 4 ∧ x.2.2.1 = 0 then [46, 48] else ([] : List Nat)).length ≤ 2 := by split <;> simp
  omega
theorem en_len {x : Tm} (hc : cn x) (ho : okT x) : (en x).2.1.length ≤ 200 := by
  obtain ⟨h1, h2, -⟩ := ho
  rcases hc with ⟨b, rfl, hb⟩ | ⟨b, rfl, hb⟩ | ⟨v, rfl⟩ | ⟨v, p, rfl, hc⟩ | ⟨b, rfl⟩ | ⟨b, c, rfl, hb⟩ | ⟨b, c, rfl, hb⟩ | rfl | rfl
  · dsimp only at h1
    rw [en_1]
    simp only [List.length_append, List.length_cons, List.length_nil]; omega
  · dsimp only at h1
    rw [en_2]
    simp only [List.length_append, List.length_cons, List.length_nil]; omega
  · exact Nat.le_trans (nuW_len (x := (3, v, 0, [], []))) (by decide)
  · exact Nat.le_trans (nuW_len (x := (4, v, p, [], []))) (by decide)
  · dsimp only at h1
    have := fm_len b
    rw [en_5]
    simp only [List.length_append, List.length_cons, List.length_nil]; omega
  · dsimp only at h1 h2
    have := fm_len b
    rw [en_6]
    simp only [List.length_append, List.length_cons, List.length_nil]; omega
  · dsimp only at h1 h2
    have := fm_len b
    rw [en_7]
    simp only [List.length_append, List.length_cons, List.length_nil]; omega
  · exact (by decide : (wl 1).length ≤ 200)
  · exact (by decide : (wl 0).length ≤ 200)
theorem off_200 : ∀ (ts : RT) (n : Nat), (∀ e, e ∈ ts → e.2.1.length ≤ 200) → off ts n ≤ 200 * n := by
  intro ts
  induction ts with
  | nil => intro n _; cases n <;> simp [off]
  | cons a ts ih =>
    intro n h
    cases n with
    | zero => simp [off]
    | succ n =>
      rw [off]
      have h1 := h a List.mem_cons_self
      have h2 := ih n (fun e he => h e (List.mem_cons_of_mem _ he))
      omega
theorem room {T : List Tm} (hc : cT T) (ho : oT T) (h : T.length ≤ 600) : off (T.map en) (T.map en).length + 260 ≤ 132000 := by
  have := off_200 (T.map en) (T.map en).length (fun e he => by
    obtain ⟨x, hx, rfl⟩ := List.mem_map.mp he
    obtain ⟨i, hi, e⟩ := List.mem_iff_getElem.mp hx
    have e2 : T.getD i tm0 = x := by rw [List.getD_eq_getElem?_getD, List.getElem?_eq_getElem hi, e]; rfl
    rw [← e2]
    exact en_len (hc i hi).1 (ho i hi))
  rw [m_len] at this ⊢
  omega
end
section
/-! The two sides as one state; a call on both sides. -/
theorem CC.fr {c0 u pl : Nat} {t o : List Nat} {T : List Tm} {F F1 : Nat → Option va_E} (h : CC c0 t T u o pl F) (hq : ∀ k, (k < 16 ∨ 26 ≤ k) → F1 k = F k) : CC c0 t T u o pl F1 := by
  obtain ⟨h1, ⟨s, nu, p, bd, tl, ft, hC⟩, h3, h4, ⟨d, hW⟩, h6⟩ := h
  exact ⟨(hq 0 (by decide)).trans h1, ⟨s, nu, p, bd, tl, ft, fun _ _ => rfl, hC.rt.fr (hq _ (by decide)) (hq _ (by decide)), (hq 3 (by decide)).trans hC.r3, hC.rb.fr (hq _ (by decide)) (hq _ (by decide)), hC.rl.fr (hq _ (by decide)) (hq _ (by decide)), (hq 8 (by decide)).trans hC.r8⟩, h3.fr (hq _ (by decide)) (hq _ (by decide)) (fun q q1 _ => hq q (Or.inr q1)), (hq 11 (by decide)).trans h4, ⟨d, fun _ _ => rfl, hW.2.1.fr (hq _ (by decide)) (hq _ (by decide)), hW.2.2.fr (hq _ (by decide)) (hq _ (by decide))⟩, h6⟩
theorem RM_sm {c0 n z n' z' : Nat} {F F' : Nat → Option va_E} {σ : Nat → Int32} {τ : Nat → Nat → Int32} (h : RM c0 (hp c0 n z F) σ τ) (e : rsm F F') : RM c0 (hp c0 n' z' F') σ τ := by
  refine ⟨hp_at.trans ((e 16 (by decide) (by decide)).trans (hp_at.symm.trans h.1)), fun k m hk => ?_, fun o ho => hp_lo ho⟩
  have hb := ra_in hk
  exact hp_at.trans ((e (ra k) (by omega) hb.2).trans (hp_at.symm.trans (h.2.1 k m hk)))
/-- both sides at the same table, tape, sum, written bytes, place -/
def J (c0 z : Nat) (t : List Nat) (T : List Tm) (u : Nat) (o : List Nat) (pl : Nat) (h : ev_H) : Prop := ∃ F σ τ, h = hp c0 (26 + 5 * T.length) z F ∧ CC c0 t T u o pl F ∧ RM c0 h σ τ ∧ RC (T.map en) t u pl o σ τ ∧ cT T
def JE (c0 z n : Nat) (h : ev_H) : Prop := ∃ z' t T u o pl, J c0 z' t T u o pl h ∧ z' ≤ z + 200 ∧ T.length ≤ n + 1
theorem J_of {c0 z u pl : Nat} {t o : List Nat} {T : List Tm} {F : Nat → Option va_E} {h : ev_H} {σ : Nat → Int32} {τ : Nat → Nat → Int32} (hC : CC c0 t T u o pl F) (hM : RM c0 h σ τ) (hF : RF c0 (hp c0 (26 + 5 * T.length) z F) h) (hR : RC (T.map en) t u pl o σ τ) (hc : cT T) : J c0 z t T u o pl h := by
  have e : h = hp c0 (26 + 5 * T.length) z (fun k => h.2.2 (c0 + k)) := by
    obtain ⟨a, b, g⟩ := h
    have ea : a = c0 + (26 + 5 * T.length) := hF.1
    have eb : b = z := hF.2.1
    have eg : g = fun o => if o < c0 then none else g (c0 + (o - c0)) := by
      funext o
      by_cases ho : o < c0
      · rw [if_pos ho]; exact hM.2.2 o ho
      · rw [if_neg ho, show c0 + (o - c0) = o by omega]
    show (a, b, g) = (c0 + (26 + 5 * T.length), z, fun o => if o < c0 then none else g (c0 + (o - c0)))
    rw [← eg, ea, eb]
  exact ⟨_, σ, τ, e, hC.fr (fun k hk => (hF.2.2 (c0 + k) (by omega)).trans hp_at), hM, hR, hc⟩
/-- a call's answers and what they lead to -/
def PV {α : Type} (mk : α → Value) (c0 z n : Nat) (σ : Nat → Int32) (τ : Nat → Nat → Int32) (eq : Prop) (P : Option Value → ev_H → Prop) (R : Option Value → (Nat → Int32) → (Nat → Nat → Int32) → Prop) : Prop := ∀ rA h', P rA h' → RM c0 h' σ τ ∧ ∃ a : α, rA = some (mk a) ∧ ∀ rB σ' τ' h'', R rB σ' τ' → RM c0 h'' σ' τ' → RF c0 h' h'' → JE c0 z n h'' ∧ ∃ b : α, rB = some (mk b) ∧ (eq → a = b)
section PVR
variable {c0 n z u pl : Nat} {t o : List Nat} {T : List Tm} {F : Nat → Option va_E} {σ : Nat → Int32} {τ : Nat → Nat → Int32} {eq : Prop}
theorem pv_same {α : Type} {mk : α → Value} {a b : α} (hM : RM c0 (hp c0 n z F) σ τ) (hc : cT T) (he : eq → a = b) : PV mk c0 z T.length σ τ eq (cP c0 z F t T u o pl (mk a)) (rC (T.map en) t u pl o (mk b)) := by
  rintro rA h' ⟨F', z', rfl, hC, hs, hz, rfl⟩
  refine ⟨RM_sm hM hs, a, rfl, ?_⟩
  rintro rB σ' τ' h'' ⟨rfl, hR⟩ hM' hF
  exact ⟨⟨z', t, T, u, o, pl, J_of hC hM' hF hR hc, hz, by omega⟩, b, rfl, he⟩
theorem kP_RM {x : Tm} {r : Option Value} {h' : ev_H} (hM : RM c0 (hp c0 n z F) σ τ) (hK : kP c0 z F t T u o pl x r h') : RM c0 h' σ τ ∧ ∃ a : Int32, r = some (.int a) := by
  rcases hK with ⟨-, F', z', rfl, -, hs, -, rfl⟩ | ⟨-, -, F', z', rfl, -, hs, -, rfl⟩ | ⟨-, -, -, F', z', rfl, -, hs, -, rfl⟩
  · exact ⟨RM_sm hM hs, _, rfl⟩
  · exact ⟨RM_sm hM hs, _, rfl⟩
  · exact ⟨RM_sm hM hs, _, rfl⟩
theorem pv_kp {x : Tm} {R : Option Value → (Nat → Int32) → (Nat → Nat → Int32) → Prop} (hM : RM c0 (hp c0 n z F) σ τ) (hc : cT T) (ho : oT T) (cx : cn x) (ox : okT x) (hT : T.length ≤ 2000) (hR : ∀ r σ' τ', R r σ' τ' → ∃ ts' u', RC ts' t u' pl o σ' τ' ∧ mdR (T.map en) (en x).1 (en x).2.1 (en x).2.2 u (sm x) r ts' u') : PV Value.int c0 z T.length σ τ eq (kP c0 z F t T u o pl x) R := by
  intro rA h' hK
  obtain ⟨hM1, a, ea⟩ := kP_RM hM hK
  refine ⟨hM1, a, ea, ?_⟩
  intro rB σ' τ' h'' hr hM' hF
  obtain ⟨ts', u', hRC, hmd⟩ := hR _ _ _ hr
  obtain ⟨T', v, rfl, hc', hl, rfl, F', z', rfl, hC, hs, hz, e⟩ := kp_md hc ho cx ox hK hmd hT
  refine ⟨⟨z', t, T', u', o, pl, J_of hC hM' hF hRC hc', hz, hl⟩, v, rfl, fun _ => ?_⟩
  rw [ea] at e
  injection e with e
  injection e
theorem PV.mono {α : Type} {mk : α → Value} {P P' : Option Value → ev_H → Prop} {R R' : Option Value → (Nat → Int32) → (Nat → Nat → Int32) → Prop} {m : Nat} (h : PV mk c0 z m σ τ eq P R) (hP : ∀ r h', P' r h' → P r h') (hR : ∀ r σ' τ', R' r σ' τ' → R r σ' τ') : PV mk c0 z m σ τ eq P' R' := by
  intro rA h' q
  obtain ⟨h1, a, e, h2⟩ := h rA h' (hP _ _ q)
  exact ⟨h1, a, e, fun rB σ' τ' h'' q2 => h2 rB σ' τ' h'' (hR _ _ _ q2)⟩
/-- read -/
theorem pv_read (hM : RM c0 (hp c0 n z F) σ τ) (hc : cT T) (ho : oT T) (hT : T.length ≤ 2000) (ht : ∀ i, t.getD i 0 < 256) : PV Value.int c0 z T.length σ τ False (rdP c0 z F t T u o) (reP (T.map en) t u o) := by
  unfold rdP
  by_cases hA : (sAll t).1 = true
  · have hx : cn (sAll t).2.2 ∨ ∀ d kd qq db, ¬ roO t t.length d kd qq db := by
      by_cases hd : ∃ d kd qq db, roO t t.length d kd qq db
      · obtain ⟨d, kd, qq, db, h⟩ := hd
        obtain ⟨x, e, -, -, cx⟩ := all_O ht h
        rw [e]; exact Or.inl cx
      · exact Or.inr (fun d kd qq db h => hd ⟨d, kd, qq, db, h⟩)
    rcases hx with cx | hno
    · refine (pv_kp (x := (sAll t).2.2) (t := []) (pl := t.length) (o := o) hM hc ho cx (sAll_ok ht hA) hT (R := reP (T.map en) t u o) ?_).mono (fun r h' q => by rw [if_pos hA] at q; exact q) (fun _ _ _ q => q)
      rintro r σ' τ' ⟨ts', u', pl', hRC, ⟨d, kd, qq, db, h1, rfl, h2⟩ | ⟨x, h1, -⟩⟩
      · obtain ⟨x, e, ex, es, -⟩ := all_O ht h1
        refine ⟨ts', u', hRC, ?_⟩
        rw [e]
        show mdR (T.map en) (en x).1 (en x).2.1 (en x).2.2 u (sm x) r ts' u'
        rw [ex, es]; exact h2
      · rw [(all_F ht h1).1] at hA; cases hA
    · intro rA h' q
      rw [if_pos hA] at q
      obtain ⟨hM1, a, ea⟩ := kP_RM hM q
      refine ⟨hM1, a, ea, ?_⟩
      rintro rB σ' τ' h'' ⟨ts', u', pl', hRC, ⟨d, kd, qq, db, h1, -⟩ | ⟨x, h1, -⟩⟩
      · exact absurd h1 (hno _ _ _ _)
      · rw [(all_F ht h1).1] at hA; cases hA
  · intro rA h' q
    rw [if_neg hA] at q
    obtain ⟨v, F', z', rfl, hC, hs, hz, rfl⟩ := q
    refine ⟨RM_sm hM hs, v, rfl, ?_⟩
    rintro rB σ' τ' h'' ⟨ts', u', pl', hRC, ⟨d, kd, qq, db, h1, -⟩ | ⟨x, h1, rfl, rfl, rfl⟩⟩ hM' hF
    · obtain ⟨x, e, -⟩ := all_O ht h1
      rw [e] at hA; exact absurd rfl hA
    · rw [(all_F ht h1).2] at hC
      exact ⟨⟨z', [], T, u', o, pl', J_of hC hM' hF hRC hc, hz, by omega⟩, x, rfl, False.elim⟩
/-- find -/
theorem pv_find (hM : RM c0 (hp c0 n z F) σ τ) (hc : cT T) (ht : ∀ i, t.getD i 0 < 256) : PV Value.int c0 z T.length σ τ False (fiP c0 z F t T u o) (rfP (T.map en) t u o) := by
  unfold fiP
  by_cases hA : (sAll t).1 = true
  · intro rA h' q
    rw [if_pos hA] at q
    obtain ⟨F', z', rfl, hC, hs, hz, rfl⟩ := q
    refine ⟨RM_sm hM hs, _, rfl, ?_⟩
    rintro rB σ' τ' h'' ⟨pl', hRC, ⟨d, kd, qq, db, j, h1, rfl, h3, rfl⟩ | ⟨x, h1, rfl⟩⟩ hM' hF
    · exact ⟨⟨z', [], T, u, o, t.length, J_of hC hM' hF hRC hc, hz, by omega⟩, _, rfl, False.elim⟩
    · rw [(all_F ht h1).1] at hA; cases hA
  · intro rA h' q
    rw [if_neg hA] at q
    obtain ⟨v, F', z', rfl, hC, hs, hz, rfl⟩ := q
    refine ⟨RM_sm hM hs, v, rfl, ?_⟩
    rintro rB σ' τ' h'' ⟨pl', hRC, ⟨d, kd, qq, db, j, h1, -⟩ | ⟨x, h1, rfl⟩⟩ hM' hF
    · obtain ⟨x, e, -⟩ := all_O ht h1
      rw [e] at hA; exact absurd rfl hA
    · rw [(all_F ht h1).2] at hC
      exact ⟨⟨z', [], T, u, o, pl', J_of hC hM' hF hRC hc, hz, by omega⟩, x, rfl, False.elim⟩
/-- type -/
theorem pv_type (hM : RM c0 (hp c0 n z F) σ τ) (hc : cT T) (v : Int64) (b : Int32) : PV Value.int c0 z T.length σ τ True (if b < 1 then cP c0 z F t T u o pl (.int (-1)) else if b ≤ 8 then (if nI t.length + b ≤ 240 then cP c0 z F (t ++ byl v b.toNatClampNeg) T u o pl (.int (nI (t ++ byl v b.toNatClampNeg).length)) else cP c0 z F t T u o pl (.int (-3))) else cP c0 z F t T u o pl (.int (-1))) (if b < 1 then rC (T.map en) t u pl o (.int (-1)) else if b ≤ 8 then (if nI t.length + b ≤ 240 then rC (T.map en) (t ++ byl v b.toNatClampNeg) u pl o (.int (nI (t ++ byl v b.toNatClampNeg).length)) else rC (T.map en) t u pl o (.int (-3))) else rC (T.map en) t u pl o (.int (-1))) := by
  split
  · exact pv_same hM hc (fun _ => rfl)
  · split
    · split
      · exact pv_same hM hc (fun _ => rfl)
      · exact pv_same hM hc (fun _ => rfl)
    · exact pv_same hM hc (fun _ => rfl)
end PVR
end
section
/-! whole, decimal, kind, write, written on both sides. -/
theorem ofD_dgl : ∀ (m r : Nat), r < 10 ^ m → ofD (dgl m r) = r := by
  intro m
  induction m with
  | zero => intro r h; rw [dgl, ofD_nil]; simp at h; omega
  | succ m ih =>
    intro r h
    rw [dgl, ofD_s, ih (r / 10) (by rw [Nat.pow_succ] at h; omega)]
    omega
theorem digs_dgl : ∀ (m r : Nat), digs (dgl m r) := by
  intro m
  induction m with
  | zero => intro r; exact digs_nil
  | succ m ih => intro r; rw [dgl]; exact digs_s (ih _) (by omega)
theorem v_s {v : Int64} {a : Nat} (ha : a < 10 ^ 18) (h : v = lN a ∨ v = -lN a) : v = sN (decide (v < 0)) a := by
  rcases h with rfl | rfl
  · have hn : ¬ lN a < 0 := by rw [Int64.lt_iff_toInt_lt, lN_big (by omega), Int64.toInt_zero]; omega
    rw [decide_eq_false hn]; rfl
  · by_cases h0 : a = 0
    · subst h0; rfl
    · have hn : -lN a < 0 := by rw [Int64.lt_iff_toInt_lt, neg_lN ha, Int64.toInt_zero]; omega
      rw [decide_eq_true hn]; rfl
theorem en_nu {ds : List Nat} {g W L : Nat} {s dec : Bool} (hd : digs ds) (h18 : ds.length ≤ 18) (hW : W ≤ ds.length) (hg : lead ds W g) (ht : trail ds W L) (h9 : L - W ≤ 9) (hdec : dec = false → L = W) : en (nm (if dec = true then 4 else 3, sN s (ofD (ds.take L)), L - W)) = (if dec = true then 4 else 3, wN s dec ds g W L, 0) := by
  have hr : ofD (ds.take L) < 10 ^ 18 := Nat.lt_of_lt_of_le (ofD_lt (fun x hx => hd x (List.mem_of_mem_take hx))) (pow18 (by rw [List.length_take]; omega))
  have hw := wN_nuW (bel := s) (dec := dec) hd h18 hW hg ht h9 hdec (x := nm (if dec = true then 4 else 3, sN s (ofD (ds.take L)), L - W)) rfl rfl rfl
  rw [← hw]
  unfold en
  rw [show (nm (if dec = true then 4 else 3, sN s (ofD (ds.take L)), L - W)).2.1 = sN s (ofD (ds.take L)) from rfl, mag_s hr]
  cases dec <;> rfl
theorem lz_cn : ∀ (p : Nat) (v : Int64), (lz p v).2 = 0 ∨ (lz p v).1 - (lz p v).1 / 10 * 10 ≠ 0 := by
  intro p
  induction p with
  | zero => intro v; exact Or.inl rfl
  | succ p ih =>
    intro v
    rw [lz]
    split
    · exact ih _
    · next h => exact Or.inr h
section NMJ
variable {c0 n z u pl : Nat} {t o : List Nat} {T : List Tm} {F : Nat → Option va_E} {σ : Nat → Int32} {τ : Nat → Nat → Int32}
theorem pv_nof {R : Option Value → (Nat → Int32) → (Nat → Nat → Int32) → Prop} {a : Int32} (hM : RM c0 (hp c0 n z F) σ τ) (hc : cT T) (hR : ∀ r σ' τ', R r σ' τ' → ∃ ts' u', RC ts' t u' pl o σ' τ' ∧ r = some (.int a) ∧ ts' = T.map en ∧ u' = u) : PV Value.int c0 z T.length σ τ True (cP c0 z F t T u o pl (.int a)) R :=
  (pv_same (mk := Value.int) (a := a) (b := a) hM hc (fun _ => rfl)).mono (fun _ _ q => q) (fun r σ' τ' q => by obtain ⟨ts', u', h1, h2, h3, h4⟩ := hR r σ' τ' q; rw [h3, h4] at h1; exact ⟨h2, h1⟩)
theorem pv_whole (hM : RM c0 (hp c0 n z F) σ τ) (hc : cT T) (ho : oT T) (hT : T.length ≤ 2000) (v : Int64) : PV Value.int c0 z T.length σ τ True (if few v = true then kP c0 z F t T u o pl (3, v, 0, [], []) else cP c0 z F t T u o pl (.int (-1))) (fun r σ' τ' => ∃ ts' u', RC ts' t u' pl o σ' τ' ∧ nmR (T.map en) u v false 18 r ts' u') := by
  by_cases hf : few v = true
  · rw [if_pos hf]
    refine pv_kp hM hc ho cn3 ⟨Nat.zero_le _, Nat.zero_le _, few_r hf, Nat.zero_le _, Or.inr (Or.inr (Or.inl rfl))⟩ hT ?_
    rintro r σ' τ' ⟨ts', u', h1, h2⟩
    refine ⟨ts', u', h1, ?_⟩
    unfold nmR at h2
    rw [if_pos hf] at h2
    obtain ⟨a, ha, hv, L, g, ht, hg, h9, hm⟩ := h2
    have hl := dgl_len 18 a
    have eL : L = 18 := by have := ht.1; have := ht.2.1; omega
    subst eL
    have he := en_nu (s := decide (v < 0)) (dec := false) (digs_dgl 18 a) (by omega) (by omega) hg ht h9 (fun _ => rfl)
    rw [show (dgl 18 a).take 18 = dgl 18 a from List.take_of_length_le (by omega), ofD_dgl 18 a ha, ← v_s ha hv] at he
    rw [show en (3, v, 0, [], []) = _ from he]
    exact hm
  · rw [if_neg hf]
    refine pv_nof hM hc ?_
    rintro r σ' τ' ⟨ts', u', h1, h2⟩
    unfold nmR at h2
    rw [if_neg hf] at h2
    exact ⟨ts', u', h1, h2⟩
theorem pv_decimal (hM : RM c0 (hp c0 n z F) σ τ) (hc : cT T) (ho : oT T) (hT : T.length ≤ 2000) (v : Int64) (b : Int32) : PV Value.int c0 z T.length σ τ True (if b < 0 then cP c0 z F t T u o pl (.int (-1)) else if 9 < b then cP c0 z F t T u o pl (.int (-1)) else if few v = true then kP c0 z F t T u o pl (4, (lz b.toNatClampNeg v).1, (lz b.toNatClampNeg v).2, [], []) else cP c0 z F t T u o pl (.int (-1))) (fun r σ' τ' => if b < 0 then rC (T.map en) t u pl o (.int (-1)) r σ' τ' else if 9 < b then rC (T.map en) t u pl o (.int (-1)) r σ' τ' else ∃ ts' u', RC ts' t u' pl o σ' τ' ∧ nmR (T.map en) u v true (18 - b.toNatClampNeg) r ts' u') := by
  by_cases c1 : b < 0
  · simp only [if_pos c1]; exact pv_same hM hc (fun _ => rfl)
  · by_cases c2 : 9 < b
    · simp only [if_neg c1, if_pos c2]; exact pv_same hM hc (fun _ => rfl)
    · simp only [if_neg c1, if_neg c2]
      obtain ⟨p, hp9, rfl⟩ := nI_of2 (M := 9) (n := 9) rfl c1 (Int32.not_lt.mp c2)
      rw [nI_clamp (by omega)]
      by_cases hf : few v = true
      · rw [if_pos hf]
        obtain ⟨r0, hr0, hv0⟩ := few_r hf
        refine pv_kp hM hc ho (cn4 (lz_cn p v)) ⟨Nat.zero_le _, Nat.zero_le _, lz_r p v r0 hr0 hv0, Nat.le_trans (lz_le p v) hp9, Or.inr (Or.inr (Or.inr (Or.inl rfl)))⟩ hT ?_
        rintro r σ' τ' ⟨ts', u', h1, h2⟩
        refine ⟨ts', u', h1, ?_⟩
        unfold nmR at h2
        rw [if_pos hf] at h2
        obtain ⟨a, ha, hv, L, g, ht, hg, h9, hm⟩ := h2
        have hl := dgl_len 18 a
        have he := en_nu (s := decide (v < 0)) (dec := true) (digs_dgl 18 a) (by omega) (by omega) hg ht h9 (fun e => by cases e)
        have hz := lz_d (decide (v < 0)) (18 - p) p (dgl 18 a) L (digs_dgl 18 a) (by omega) (by omega) ht
        rw [ofD_dgl 18 a ha, ← v_s ha hv] at hz
        rw [hz]
        rw [show en (4, sN (decide (v < 0)) (ofD ((dgl 18 a).take L)), L - (18 - p), [], []) = _ from he]
        exact hm
      · rw [if_neg hf]
        refine pv_nof hM hc ?_
        rintro r σ' τ' ⟨ts', u', h1, h2⟩
        unfold nmR at h2
        rw [if_neg hf] at h2
        exact ⟨ts', u', h1, h2⟩
theorem kd_e {x : Tm} (h : okT x) : nI (en x).1 = x.1 := by
  obtain ⟨-, -, -, -, h⟩ := h
  show nI x.1.toNatClampNeg = x.1
  rcases h with h | h | h | h | h | h | h | h <;> rw [h] <;> rfl
theorem wtO_wat {o : List Nat} (h : o.length ≤ 1000) (a : Int32) : wtO o a = wat o a := by
  unfold wtO wat
  by_cases c1 : a < 0
  · rw [if_pos c1, if_pos c1]
  · rw [if_neg c1, if_neg c1]
    by_cases c2 : a < nI o.length
    · rw [if_pos c2, if_neg (Int32.not_le.mpr c2)]
      refine hb_lt ?_
      obtain ⟨k, hk, rfl⟩ := nI_of2 (M := nI o.length) (n := o.length) (nI_toInt (by omega)) c1 (Int32.le_of_lt c2)
      rw [nI_clamp (by omega)]
      exact (nI_ltI (by omega) (by omega)).mp c2
    · rw [if_neg c2, if_pos (Int32.not_lt.mp c2)]
end NMJ
end
section
/-! part on both sides; scale; the rows of a term as the reference's order takes them. -/
theorem itl_1 {c : Nat} (h : c ≠ 92) (l : List Nat) : itl (c :: l) = itl l + 1 := by
  cases l with
  | nil => rfl
  | cons y l => rw [itl, if_neg h]
theorem itl_fm : ∀ (b : List Nat), itl (b.flatMap esW) = b.length := by
  intro b
  induction b with
  | nil => rfl
  | cons c b ih =>
    rw [List.flatMap_cons, List.length_cons]
    rcases esW_c c with ⟨h1, h2, h3⟩ | ⟨y, h3, h4⟩
    · rw [h3, List.singleton_append, itl_1 h2, ih]
    · rw [h3]
      show itl (92 :: y :: b.flatMap esW) = _
      rw [itl, if_pos rfl, ih]
def ptE (ts : RT) (e : Nat × List Nat × Nat) (u : Nat) (w : Int32) (r : Option Value) (ts' : RT) (u' : Nat) : Prop := (w = 0 ∧ 5 ≤ e.1 ∧ e.1 ≤ 7 ∧ mdR ts 5 (e.2.1.take (e.2.2 + 1)) e.2.2 u (itl ((e.2.1.take e.2.2).drop 1)) r ts' u') ∨ (w = 1 ∧ e.1 = 6 ∧ mdR ts 5 ([34] ++ e.2.1.drop (e.2.2 + 2) ++ [34]) ((e.2.1.drop (e.2.2 + 2)).length + 1) u (e.2.1.drop (e.2.2 + 2)).length r ts' u') ∨ (w = 2 ∧ e.1 = 7 ∧ mdR ts 2 (e.2.1.drop (e.2.2 + 3)) 0 u ((e.2.1.drop (e.2.2 + 3)).length - 2) r ts' u') ∨ (¬ (5 ≤ e.1 ∧ e.1 ≤ 7 ∧ (w = 0 ∨ (w = 1 ∧ e.1 = 6) ∨ (w = 2 ∧ e.1 = 7))) ∧ r = some (.int (-2)) ∧ ts' = ts ∧ u' = u)
theorem ptR_E {T : List Tm} {i u u' : Nat} {w : Int32} {r : Option Value} {ts' : RT} (hi : i < T.length) (h : ptR (T.map en) i u w r ts' u') : ptE (T.map en) (en (T.getD i tm0)) u w r ts' u' := by
  unfold ptR at h
  rw [m_knd hi, m_bys hi, m_quo hi] at h
  exact h
theorem ptE_no {ts : RT} {e : Nat × List Nat × Nat} {u u' : Nat} {w : Int32} {r : Option Value} {ts' : RT} (h : ptE ts e u w r ts' u') (hn : ¬ (5 ≤ e.1 ∧ e.1 ≤ 7 ∧ (w = 0 ∨ (w = 1 ∧ e.1 = 6) ∨ (w = 2 ∧ e.1 = 7)))) : r = some (.int (-2)) ∧ ts' = ts ∧ u' = u := by
  rcases h with ⟨h1, h2, h3, -⟩ | ⟨h1, h2, -⟩ | ⟨h1, h2, -⟩ | ⟨-, h⟩
  · exact absurd ⟨h2, h3, Or.inl h1⟩ hn
  · exact absurd ⟨by omega, by omega, Or.inr (Or.inl ⟨h1, h2⟩)⟩ hn
  · exact absurd ⟨by omega, by omega, Or.inr (Or.inr ⟨h1, h2⟩)⟩ hn
  · exact h
theorem ptE_0 {ts : RT} {e : Nat × List Nat × Nat} {u u' : Nat} {r : Option Value} {ts' : RT} (h : ptE ts e u 0 r ts' u') (h5 : 5 ≤ e.1) (h7 : e.1 ≤ 7) : mdR ts 5 (e.2.1.take (e.2.2 + 1)) e.2.2 u (itl ((e.2.1.take e.2.2).drop 1)) r ts' u' := by
  rcases h with ⟨-, -, -, h⟩ | ⟨h1, -⟩ | ⟨h1, -⟩ | ⟨h, -⟩
  · exact h
  · exact absurd h1 (by decide)
  · exact absurd h1 (by decide)
  · exact absurd ⟨h5, h7, Or.inl rfl⟩ h
theorem ptE_1 {ts : RT} {e : Nat × List Nat × Nat} {u u' : Nat} {r : Option Value} {ts' : RT} (h : ptE ts e u 1 r ts' u') (h6 : e.1 = 6) : mdR ts 5 ([34] ++ e.2.1.drop (e.2.2 + 2) ++ [34]) ((e.2.1.drop (e.2.2 + 2)).length + 1) u (e.2.1.drop (e.2.2 + 2)).length r ts' u' := by
  rcases h with ⟨h1, -⟩ | ⟨-, -, h⟩ | ⟨h1, -⟩ | ⟨h, -⟩
  · exact absurd h1 (by decide)
  · exact h
  · exact absurd h1 (by decide)
  · exact absurd ⟨by omega, by omega, Or.inr (Or.inl ⟨rfl, h6⟩)⟩ h
theorem ptE_2 {ts : RT} {e : Nat × List Nat × Nat} {u u' : Nat} {r : Option Value} {ts' : RT} (h : ptE ts e u 2 r ts' u') (h7 : e.1 = 7) : mdR ts 2 (e.2.1.drop (e.2.2 + 3)) 0 u ((e.2.1.drop (e.2.2 + 3)).length - 2) r ts' u' := by
  rcases h with ⟨h1, -⟩ | ⟨h1, -⟩ | ⟨-, -, h⟩ | ⟨h, -⟩
  · exact absurd h1 (by decide)
  · exact absurd h1 (by decide)
  · exact h
  · exact absurd ⟨by omega, by omega, Or.inr (Or.inr ⟨rfl, h7⟩)⟩ h
theorem tx_t1 (m y : List Nat) : ([34] ++ m ++ [34] ++ y).take (m.length + 1 + 1) = [34] ++ m ++ [34] := List.take_left' (by simp)
theorem tx_t2 (m y : List Nat) : (([34] ++ m ++ [34] ++ y).take (m.length + 1)).drop 1 = m := by
  rw [List.append_assoc ([34] ++ m), List.take_left' (by simp)]; rfl
theorem tx_d6 (m c : List Nat) : ([34] ++ m ++ [34] ++ [64] ++ c).drop (m.length + 1 + 2) = c := List.drop_left' (by simp)
theorem tx_d7 (m c : List Nat) : ([34] ++ m ++ [34] ++ [94] ++ [94] ++ [60] ++ c ++ [62]).drop (m.length + 1 + 3) = [60] ++ c ++ [62] := by
  rw [List.append_assoc, List.append_assoc]
  rw [List.drop_left' (by simp)]; simp
theorem ok0 {k : Int32} {b c : List Nat} (hb : b.length ≤ 64) (hc : c.length ≤ 60) (hk : k = 1 ∨ k = 2 ∨ k = 3 ∨ k = 4 ∨ k = 5 ∨ k = 6 ∨ k = 7 ∨ k = 8) : okT (k, 0, 0, b, c) := ⟨hb, hc, ⟨0, by decide, Or.inl rfl⟩, Nat.zero_le _, hk⟩
/-- the body of a text, taken out -/
theorem pt_body {e : Nat × List Nat × Nat} {b y : List Nat} {k : Nat} (he : e = (k, [34] ++ b.flatMap esW ++ [34] ++ y, (b.flatMap esW).length + 1)) (h5 : 5 ≤ k) (h7 : k ≤ 7) {ts : RT} {u u' : Nat} {r : Option Value} {ts' : RT} (h : ptE ts e u 0 r ts' u') : mdR ts (en (5, 0, 0, b, [])).1 (en (5, 0, 0, b, [])).2.1 (en (5, 0, 0, b, [])).2.2 u (sm (5, 0, 0, b, [])) r ts' u' := by
  subst he
  have h1 := ptE_0 h h5 h7
  dsimp only at h1
  rw [tx_t1, tx_t2, itl_fm] at h1
  rw [en_5]
  exact h1
theorem pt_link {x : Tm} (cx : cn x) (ox : okT x) (w : Int32) : (ptX x w = none ∧ ∀ ts u r ts' u', ptE ts (en x) u w r ts' u' → r = some (.int (-2)) ∧ ts' = ts ∧ u' = u) ∨ ∃ y, ptX x w = some y ∧ cn y ∧ okT y ∧ ∀ ts u r ts' u', ptE ts (en x) u w r ts' u' → mdR ts (en y).1 (en y).2.1 (en y).2.2 u (sm y) r ts' u' := by
  obtain ⟨o1, o2, -⟩ := ox
  have non : ∀ (x : Tm), ¬ (x.1 = 5 ∨ x.1 = 6 ∨ x.1 = 7) → ptX x w = none := by
    intro x h
    unfold ptX
    rw [if_neg (fun q => h q.2), if_neg (fun q => h (Or.inr (Or.inl q.2))), if_neg (fun q => h (Or.inr (Or.inr q.2)))]
  rcases cx with ⟨b, rfl, hb⟩ | ⟨b, rfl, hb⟩ | ⟨v, rfl⟩ | ⟨v, p, rfl, hc⟩ | ⟨b, rfl⟩ | ⟨b, c, rfl, hb⟩ | ⟨b, c, rfl, hb⟩ | rfl | rfl
  · exact Or.inl ⟨non _ (show ¬ ((1 : Int32) = 5 ∨ (1 : Int32) = 6 ∨ (1 : Int32) = 7) by decide), fun ts u r ts' u' h => ptE_no h (fun q => absurd q.1 (by show ¬ 5 ≤ 1; decide))⟩
  · exact Or.inl ⟨non _ (show ¬ ((2 : Int32) = 5 ∨ (2 : Int32) = 6 ∨ (2 : Int32) = 7) by decide), fun ts u r ts' u' h => ptE_no h (fun q => absurd q.1 (by show ¬ 5 ≤ 2; decide))⟩
  · exact Or.inl ⟨non _ (show ¬ ((3 : Int32) = 5 ∨ (3 : Int32) = 6 ∨ (3 : Int32) = 7) by decide), fun ts u r ts' u' h => ptE_no h (fun q => absurd q.1 (by show ¬ 5 ≤ 3; decide))⟩
  · exact Or.inl ⟨non _ (show ¬ ((4 : Int32) = 5 ∨ (4 : Int32) = 6 ∨ (4 : Int32) = 7) by decide), fun ts u r ts' u' h => ptE_no h (fun q => absurd q.1 (by show ¬ 5 ≤ 4; decide))⟩
  · by_cases h0 : w = 0
    · subst h0
      exact Or.inr ⟨(5, 0, 0, b, []), if_pos ⟨rfl, Or.inl rfl⟩, cn5, ok0 o1 (Nat.zero_le _) (by decide), fun ts u r ts' u' h => pt_body (y := []) (by rw [en_5, List.append_nil]) (by decide) (by decide) h⟩
    · refine Or.inl ⟨?_, fun ts u r ts' u' h => ptE_no h (fun q => ?_)⟩
      · unfold ptX
        rw [if_neg (fun q => h0 q.1), if_neg (fun q => absurd (show (5 : Int32) = 6 from q.2) (by decide)), if_neg (fun q => absurd (show (5 : Int32) = 7 from q.2) (by decide))]
      · rcases q.2.2 with q | q | q
        · exact h0 q
        · exact absurd (show 5 = 6 from q.2) (by decide)
        · exact absurd (show 5 = 7 from q.2) (by decide)
  · by_cases h0 : w = 0
    · subst h0
      exact Or.inr ⟨(5, 0, 0, b, []), if_pos ⟨rfl, Or.inr (Or.inl rfl)⟩, cn5, ok0 o1 (Nat.zero_le _) (by decide), fun ts u r ts' u' h => pt_body (y := [64] ++ c) (by rw [en_6, List.append_assoc ([34] ++ b.flatMap esW ++ [34])]) (by decide) (by decide) h⟩
    · by_cases h1 : w = 1
      · subst h1
        refine Or.inr ⟨(5, 0, 0, c, []), ?_, cn5, ok0 (Nat.le_trans o2 (by decide)) (Nat.zero_le _) (by decide), fun ts u r ts' u' h => ?_⟩
        · unfold ptX
          rw [if_neg (fun q => h0 q.1), if_pos ⟨rfl, rfl⟩]
        · have h2 := ptE_1 h rfl
          rw [en_6] at h2
          dsimp only at h2
          rw [tx_d6] at h2
          rw [en_5, fm_id c hb]
          exact h2
      · refine Or.inl ⟨?_, fun ts u r ts' u' h => ptE_no h (fun q => ?_)⟩
        · unfold ptX
          rw [if_neg (fun q => h0 q.1), if_neg (fun q => h1 q.1), if_neg (fun q => absurd (show (6 : Int32) = 7 from q.2) (by decide))]
        · rcases q.2.2 with q | q | q
          · exact h0 q
          · exact h1 q.1
          · exact absurd (show 6 = 7 from q.2) (by decide)
  · by_cases h0 : w = 0
    · subst h0
      exact Or.inr ⟨(5, 0, 0, b, []), if_pos ⟨rfl, Or.inr (Or.inr rfl)⟩, cn5, ok0 o1 (Nat.zero_le _) (by decide), fun ts u r ts' u' h => pt_body (k := 7) (y := [94] ++ ([94] ++ ([60] ++ (c ++ [62])))) (by rw [en_7]; simp) (by decide) (by decide) h⟩
    · by_cases h1 : w = 2
      · subst h1
        refine Or.inr ⟨(2, 0, 0, c, []), ?_, cn2 hb, ok0 (Nat.le_trans o2 (by decide)) (Nat.zero_le _) (by decide), fun ts u r ts' u' h => ?_⟩
        · unfold ptX
          rw [if_neg (fun q => h0 q.1), if_neg (fun q => absurd (show (2 : Int32) = 1 from q.1) (by decide)), if_pos ⟨rfl, rfl⟩]
        · have h2 := ptE_2 h rfl
          rw [en_7] at h2
          dsimp only at h2
          rw [tx_d7] at h2
          rw [en_2]
          have e2 : ([60] ++ c ++ [62] : List Nat).length - 2 = c.length := by simp
          rw [e2] at h2
          exact h2
      · refine Or.inl ⟨?_, fun ts u r ts' u' h => ptE_no h (fun q => ?_)⟩
        · unfold ptX
          rw [if_neg (fun q => h0 q.1), if_neg (fun q => absurd (show (7 : Int32) = 6 from q.2) (by decide)), if_neg (fun q => h1 q.1)]
        · rcases q.2.2 with q | q | q
          · exact h0 q
          · exact absurd (show 7 = 6 from q.2) (by decide)
          · exact h1 q.1
  · exact Or.inl ⟨non _ (by decide), fun ts u r ts' u' h => ptE_no h (fun q => absurd q.2.1 (by show ¬ 8 ≤ 7; decide))⟩
  · exact Or.inl ⟨non _ (by decide), fun ts u r ts' u' h => ptE_no h (fun q => absurd q.2.1 (by show ¬ 8 ≤ 7; decide))⟩
theorem pt_bd {x : Tm} (cx : cn x) : 5 ≤ (en x).1 → (en x).1 ≤ 7 → (en x).2.2 + 1 ≤ (en x).2.1.length ∧ ((en x).1 = 6 → (en x).2.2 + 2 ≤ (en x).2.1.length) ∧ ((en x).1 = 7 → (en x).2.2 + 5 ≤ (en x).2.1.length) := by
  intro h5 h7
  rcases cx with ⟨b, rfl, hb⟩ | ⟨b, rfl, hb⟩ | ⟨v, rfl⟩ | ⟨v, p, rfl, hc⟩ | ⟨b, rfl⟩ | ⟨b, c, rfl, hb⟩ | ⟨b, c, rfl, hb⟩ | rfl | rfl
  · exact absurd (show 5 ≤ 1 from h5) (by decide)
  · exact absurd (show 5 ≤ 2 from h5) (by decide)
  · exact absurd (show 5 ≤ 3 from h5) (by decide)
  · exact absurd (show 5 ≤ 4 from h5) (by decide)
  · rw [en_5]
    simp only [List.length_append, List.length_cons, List.length_nil]
    exact ⟨by omega, fun h => absurd h (by decide), fun h => absurd h (by decide)⟩
  · rw [en_6]
    simp only [List.length_append, List.length_cons, List.length_nil]
    exact ⟨by omega, fun _ => by omega, fun h => absurd h (by decide)⟩
  · rw [en_7]
    simp only [List.length_append, List.length_cons, List.length_nil]
    exact ⟨by omega, fun h => absurd h (by decide), fun _ => by omega⟩
  · exact absurd (show 8 ≤ 7 from h7) (by decide)
  · exact absurd (show 8 ≤ 7 from h7) (by decide)
section PRJ
variable {c0 n z u pl : Nat} {t o : List Nat} {T : List Tm} {F : Nat → Option va_E} {σ : Nat → Int32} {τ : Nat → Nat → Int32}
theorem pv_part (hM : RM c0 (hp c0 n z F) σ τ) (hc : cT T) (ho : oT T) (hT : T.length ≤ 2000) {i : Nat} (hi : i < T.length) (w : Int32) : PV Value.int c0 z T.length σ τ True (ptP c0 z F t T u o pl (ptX (T.getD i tm0) w)) (fun r σ' τ' => ∃ ts' u', RC ts' t u' pl o σ' τ' ∧ ptR (T.map en) i u w r ts' u') := by
  rcases pt_link (hc i hi).1 (ho i hi) w with ⟨e, h⟩ | ⟨y, e, cy, oy, h⟩
  · rw [e]
    refine pv_nof hM hc ?_
    rintro r σ' τ' ⟨ts', u', h1, h2⟩
    exact ⟨ts', u', h1, h _ _ _ _ _ (ptR_E hi h2)⟩
  · rw [e]
    refine pv_kp hM hc ho cy oy hT ?_
    rintro r σ' τ' ⟨ts', u', h1, h2⟩
    exact ⟨ts', u', h1, h _ _ _ _ _ (ptR_E hi h2)⟩
end PRJ
/-- the numbers that are no term's -/
theorem no_cl {σ : Nat → Int32} {m : Nat} (h7 : σ 7 = nI m) {a : Int32} (h : noT σ a) : a < 1 ∨ (¬ a < 1 ∧ nI m < a) := by
  unfold noT at h
  rw [h7] at h
  by_cases c : a < 1
  · exact Or.inl c
  · refine Or.inr ⟨c, ?_⟩
    have h0 : ¬ a ≤ 0 := by
      rw [Int32.lt_iff_toInt_lt] at c
      rw [Int32.le_iff_toInt_le]
      have e1 : (1 : Int32).toInt = 1 := rfl
      have e0 : (0 : Int32).toInt = 0 := rfl
      omega
    by_cases c2 : nI m < a
    · exact c2
    · simp [h0, c2] at h
end
section
/-! The reference's rows of a term; the dot of a decimal; scale. -/
theorem gd_at (pre post : List Nat) (a : Nat) : (pre ++ (a :: post)).getD pre.length 0 = a := by simp [List.getD_eq_getElem?_getD]
theorem seg_fm : ∀ (A l pre post : List Nat), l = pre ++ (A.flatMap esW ++ post) → seg l (pre.length + (A.flatMap esW).length) pre.length A := by
  intro A
  induction A with
  | nil => intro l pre post e; show pre.length = pre.length + 0; omega
  | cons a A ih =>
    intro l pre post e
    rw [List.flatMap_cons] at e ⊢
    rcases esW_c a with ⟨h1, h2, h3⟩ | ⟨y, h3, h4⟩
    · rw [h3] at e ⊢
      have h0 : l.getD pre.length 0 = a := by rw [e]; exact gd_at pre _ a
      have h5 := ih l (pre ++ [a]) post (by rw [e]; simp)
      rw [List.length_append] at h5 ⊢
      refine ⟨by simp only [List.length_cons, List.length_nil]; omega, ?_, ?_⟩
      · unfold itA; rw [if_neg (by rw [h0]; exact h2), h0]
      · rw [if_neg (by rw [h0]; exact h2)]
        simp only [List.length_cons, List.length_nil, Nat.zero_add] at h5 ⊢
        rw [← Nat.add_assoc]
        exact h5
    · rw [h3] at e ⊢
      have h0 : l.getD pre.length 0 = 92 := by rw [e]; exact gd_at pre _ 92
      have h6 : l.getD (pre.length + 1) 0 = y := by
        have := gd_at (pre ++ [92]) (A.flatMap esW ++ post) y
        rw [List.length_append, List.length_cons, List.length_nil, Nat.zero_add] at this
        rw [e]
        rw [← this]
        simp
      have h5 := ih l (pre ++ [92, y]) post (by rw [e]; simp)
      rw [List.length_append] at h5 ⊢
      refine ⟨by simp only [List.length_cons, List.length_nil]; omega, ?_, ?_⟩
      · unfold itA; rw [if_pos h0, h6, h4]; rfl
      · rw [if_pos h0]
        simp only [List.length_cons, List.length_nil, Nat.zero_add] at h5 ⊢
        rw [← Nat.add_assoc]
        exact h5
theorem n92_fm {b : List Nat} (h : n92 b) : b.flatMap esW = b := fm_id b h
/-- what the reference's order takes behind the body -/
def tlR (x : Tm) : List Nat := if x.1 = 6 then [64] ++ x.2.2.2.2 else if x.1 = 7 then [94] ++ ([94] ++ ([60] ++ x.2.2.2.2)) else []
theorem n92_c {a : Nat} {l : List Nat} (ha : esW a = [a]) (h : n92 l) : n92 ([a] ++ l) := by
  intro x hx
  rcases List.mem_cons.mp hx with rfl | hx
  · exact ha
  · exact h x hx
theorem seg_n {l A pre post : List Nat} {p e : Nat} (hA : n92 A) (h : l = pre ++ (A ++ post)) (hp : pre.length = p) (he : p + A.length = e) : seg l e p A := by
  have h1 := seg_fm A l pre post (by rw [n92_fm hA]; exact h)
  rw [n92_fm hA, hp, he] at h1
  exact h1
theorem twf_m {T : List Tm} (hc : cT T) {i : Nat} (hi : i < T.length) : twf (T.map en) i (T.getD i tm0).2.2.2.1 (tlR (T.getD i tm0)) := by
  unfold twf
  rw [m_knd hi, m_bys hi, m_quo hi]
  rcases (hc i hi).1 with ⟨b, e, hb⟩ | ⟨b, e, hb⟩ | ⟨v, e⟩ | ⟨v, p, e, hc⟩ | ⟨b, e⟩ | ⟨b, c, e, hb⟩ | ⟨b, c, e, hb⟩ | e | e <;> rw [e]
  · rw [en_1]
    dsimp only
    refine ⟨by decide, fun _ => ?_, fun h => absurd h (by decide), fun h => absurd h (by decide)⟩
    exact seg_n hb (show [95, 58] ++ b = [95, 58] ++ (b ++ []) by rw [List.append_nil]) rfl (by simp only [List.length_append, List.length_cons, List.length_nil])
  · rw [en_2]
    dsimp only
    refine ⟨by decide, fun h => absurd h (by decide), fun _ => ⟨by simp only [List.length_append, List.length_cons, List.length_nil]; omega, ?_⟩, fun h => absurd h (by decide)⟩
    exact seg_n (pre := [60]) (post := [62]) hb (List.append_assoc _ _ _) rfl (by simp only [List.length_append, List.length_cons, List.length_nil]; omega)
  · exact ⟨(by decide : 1 ≤ 3 ∧ 3 ≤ 8), fun h => absurd (show 3 = 1 from h) (by decide), fun h => absurd (show 3 = 2 from h) (by decide), fun h => absurd (show 5 ≤ 3 from h) (by decide)⟩
  · exact ⟨(by decide : 1 ≤ 4 ∧ 4 ≤ 8), fun h => absurd (show 4 = 1 from h) (by decide), fun h => absurd (show 4 = 2 from h) (by decide), fun h => absurd (show 5 ≤ 4 from h) (by decide)⟩
  · rw [en_5]
    dsimp only
    refine ⟨by decide, fun h => absurd h (by decide), fun h => absurd h (by decide), fun _ _ => ⟨?_, ?_, ?_, ?_⟩⟩
    · simp only [List.length_append, List.length_cons, List.length_nil]; omega
    · simp only [List.length_append, List.length_cons, List.length_nil]; omega
    · have := seg_fm b ([34] ++ b.flatMap esW ++ [34]) [34] [34] (List.append_assoc _ _ _)
      rw [show ([34] : List Nat).length + (b.flatMap esW).length = (b.flatMap esW).length + 1 by simp only [List.length_cons, List.length_nil]; omega] at this
      exact this
    · show (b.flatMap esW).length + 1 + 1 = _
      rw [if_neg (by decide)]
      simp only [List.length_append, List.length_cons, List.length_nil]; omega
  · rw [en_6]
    dsimp only
    refine ⟨by decide, fun h => absurd h (by decide), fun h => absurd h (by decide), fun _ _ => ⟨?_, ?_, ?_, ?_⟩⟩
    · simp only [List.length_append, List.length_cons, List.length_nil]; omega
    · simp only [List.length_append, List.length_cons, List.length_nil]; omega
    · have := seg_fm b ([34] ++ b.flatMap esW ++ [34] ++ [64] ++ c) [34] ([34] ++ ([64] ++ c)) (by simp)
      rw [show ([34] : List Nat).length + (b.flatMap esW).length = (b.flatMap esW).length + 1 by simp only [List.length_cons, List.length_nil]; omega] at this
      exact this
    · rw [show tlR (6, 0, 0, b, c) = [64] ++ c from rfl]
      exact seg_n (pre := [34] ++ b.flatMap esW ++ [34]) (post := []) (show n92 ([64] ++ c) from n92_c (by decide) hb) (by simp) (by simp only [List.length_append, List.length_cons, List.length_nil]; omega) (by rw [if_neg (by decide)]; simp only [List.length_append, List.length_cons, List.length_nil]; omega)
  · rw [en_7]
    dsimp only
    refine ⟨by decide, fun h => absurd h (by decide), fun h => absurd h (by decide), fun _ _ => ⟨?_, ?_, ?_, ?_⟩⟩
    · simp only [List.length_append, List.length_cons, List.length_nil]; omega
    · simp only [List.length_append, List.length_cons, List.length_nil]; omega
    · have := seg_fm b ([34] ++ b.flatMap esW ++ [34] ++ [94] ++ [94] ++ [60] ++ c ++ [62]) [34] ([34] ++ ([94] ++ ([94] ++ ([60] ++ (c ++ [62]))))) (by simp)
      rw [show ([34] : List Nat).length + (b.flatMap esW).length = (b.flatMap esW).length + 1 by simp only [List.length_cons, List.length_nil]; omega] at this
      exact this
    · rw [show tlR (7, 0, 0, b, c) = [94] ++ ([94] ++ ([60] ++ c)) from rfl]
      exact seg_n (pre := [34] ++ b.flatMap esW ++ [34]) (post := [62]) (show n92 ([94] ++ ([94] ++ ([60] ++ c))) from n92_c (by decide) (n92_c (by decide) (n92_c (by decide) hb))) (by simp) (by simp only [List.length_append, List.length_cons, List.length_nil]; omega) (by rw [if_pos rfl]; simp only [List.length_append, List.length_cons, List.length_nil]; omega)
  · exact ⟨(by decide : 1 ≤ 8 ∧ 8 ≤ 8), fun h => absurd (show 8 = 1 from h) (by decide), fun h => absurd (show 8 = 2 from h) (by decide), fun _ h => absurd (show 8 ≤ 7 from h) (by decide)⟩
  · exact ⟨(by decide : 1 ≤ 8 ∧ 8 ≤ 8), fun h => absurd (show 8 = 1 from h) (by decide), fun h => absurd (show 8 = 2 from h) (by decide), fun _ h => absurd (show 8 ≤ 7 from h) (by decide)⟩
/-- the dot -/
theorem sgW_46 {v : Int64} : ∀ x, x ∈ sgW v → x ≠ 46 := by
  unfold sgW
  split
  · intro x hx; exact absurd hx List.not_mem_nil
  · intro x hx; rw [List.mem_singleton] at hx; omega
theorem dot_at {l pre d : List Nat} (h : l = pre ++ (46 :: d)) (hp : ∀ x, x ∈ pre → x ≠ 46) : dotp l = pre.length ∧ l.length = pre.length + 1 + d.length := by
  have hl : l.length = pre.length + 1 + d.length := by rw [h]; simp only [List.length_append, List.length_cons]; omega
  refine ⟨dotp_is l pre.length (by omega) (fun j hj => ?_) (fun _ => by rw [h]; exact gd_at pre d 46), hl⟩
  rw [h, gd_app hj, List.getD_eq_getElem?_getD, List.getElem?_eq_getElem hj]
  exact hp _ (List.getElem_mem _)
theorem scl_4 {v : Int64} {p : Nat} (hc : p = 0 ∨ v - v / 10 * 10 ≠ 0) (ox : okT (4, v, p, [], [])) : dotp (en (4, v, p, [], [])).2.1 < (en (4, v, p, [], [])).2.1.length ∧ scl (en (4, v, p, [], [])).2.1 = p := by
  obtain ⟨-, -, ov, op, -⟩ := ox
  obtain ⟨s, r, hr, e, hm⟩ := okv ov
  dsimp only at e hm op
  obtain ⟨a, d, h1, h2, h3, h4, h5⟩ := nu_4 (v := v) (b := []) (c := []) hr op
  have hb : (en (4, v, p, [], [])).2.1 = (sgW v ++ a) ++ (46 :: d) := by
    show nuW (4, v, p, [], []) (mag v) = _
    rw [hm, h1, List.append_assoc]
  have hp : ∀ x, x ∈ sgW v ++ a → x ≠ 46 := by
    intro x hx
    rcases List.mem_append.mp hx with hx | hx
    · exact sgW_46 x hx
    · have := h2 x hx; omega
  obtain ⟨k1, k2⟩ := dot_at hb hp
  refine ⟨by omega, ?_⟩
  unfold scl
  rw [k1, k2]
  rcases h5 with ⟨rfl, e1, e2⟩ | ⟨e0, e1, e2⟩
  · subst e1
    refine if_pos ⟨by simp only [List.length_cons, List.length_nil], ?_⟩
    rw [hb]
    have := gd_at ((sgW v ++ a) ++ [46]) [] 48
    rw [List.length_append (as := sgW v ++ a), List.length_cons, List.length_nil, Nat.zero_add] at this
    rw [List.append_assoc (sgW v ++ a) [46]] at this
    exact this
  · rw [if_neg]
    · omega
    · rintro ⟨q1, q2⟩
      have hd1 : d.length = 1 := by omega
      obtain ⟨y, rfl⟩ := List.length_eq_one_iff.mp hd1
      rw [hb] at q2
      have := gd_at ((sgW v ++ a) ++ [46]) [] y
      rw [List.length_append (as := sgW v ++ a), List.length_cons, List.length_nil, Nat.zero_add] at this
      rw [List.append_assoc (sgW v ++ a) [46]] at this
      have hy : y = 48 := this.symm.trans q2
      subst hy
      rw [ofD_s] at e2
      rcases hc with hc | hc
      · omega
      · rw [e] at hc
        exact hc ((sN_rem hr).mpr (by omega))
end
section
/-! Every call on both sides. -/
def JP {α : Type} (mk : α → Value) (X : ev_X) (c0 z n : Nat) (σ : Nat → Int32) (τ : Nat → Nat → Int32) (h : ev_H) (eq : Prop) (mA mB : Nat) (A B : List Value) : Prop := ∃ P R, Ex X mA 0 A [] h P ∧ Rx X c0 mB 0 B [] σ τ R ∧ PV mk c0 z n σ τ eq P R
theorem Hx.rcall {X : ev_X} {c0 M pc nx a b w idx : Nat} {A st as rest A0 : List Value} {h : ev_H} {σ : Nat → Int32} {τ : Nat → Nat → Int32} {Q : Option Value → ev_H → Prop} {Q1 : Option Value → (Nat → Int32) → (Nat → Nat → Int32) → Prop} (o : pg_ops M pc = some (.invokevirtual idx, nx, a, b, w)) (hM : RM c0 h σ τ) (ha : ev_argI (pg_n a) st = some (c0 + 16, as, rest)) (hc : pg_c a = 6) (he : ev_ent (pg_L a) (.ref (c0 + 16) :: as) = some A0) (k1 : Rx X c0 a 0 A0 [] σ τ Q1) (k2 : ∀ v σ' τ' h1, Q1 v σ' τ' → RM c0 h1 σ' τ' → RF c0 h h1 → Ex X M nx A (v.toList ++ rest) h1 Q) : Ex X M pc A st h Q := by
  refine Ex.call (rest := rest) o rfl ?_ he (k1 h hM) (fun v h1 ⟨σ', τ', q1, q2, q3⟩ => k2 v σ' τ' h1 q3 q1 q2)
  have hrc : ev_rcv X h (c0 + 16) (pg_c a) = true := by unfold ev_rcv; rw [hM.1, hc]; rfl
  simp only [ev_cal, ha, hrc, if_true]
section JPS
variable {X : ev_X} {c0 z u pl : Nat} {t o : List Nat} {T : List Tm} {F : Nat → Option va_E} {σ : Nat → Int32} {τ : Nat → Nat → Int32}
theorem CC.ok (hC : CC c0 t T u o pl F) : oT T := hC.2.2.2.2.2
theorem RC.n7 (hR : RC (T.map en) t u pl o σ τ) : σ 7 = nI T.length := by have := hR.1.1; rw [m_len] at this; exact this
theorem RC.no (hR : RC (T.map en) t u pl o σ τ) (a : Int32) : (noT σ a ∧ (a < 1 ∨ (¬ a < 1 ∧ nI T.length < a))) ∨ ∃ i, i < T.length ∧ i < (T.map en).length ∧ a = nI (i + 1) := by
  rcases hR.num a with h | ⟨i, hi, e⟩
  · exact Or.inl ⟨h, no_cl hR.n7 h⟩
  · exact Or.inr ⟨i, by rw [m_len] at hi; exact hi, hi, e⟩
theorem jp_place (hC : CC c0 t T u o pl F) (hM : RM c0 (hp c0 (26 + 5 * T.length) z F) σ τ) (hR : RC (T.map en) t u pl o σ τ) (hc : cT T) : JP Value.int X c0 z T.length σ τ (hp c0 (26 + 5 * T.length) z F) True m_Tab_place m_Mod_place [.ref (c0 + 0)] [.ref (c0 + 16)] :=
  ⟨_, _, q_place hC, rc_place hR, pv_same hM hc (fun _ => rfl)⟩
theorem jp_count (hC : CC c0 t T u o pl F) (hM : RM c0 (hp c0 (26 + 5 * T.length) z F) σ τ) (hR : RC (T.map en) t u pl o σ τ) (hc : cT T) : JP Value.int X c0 z T.length σ τ (hp c0 (26 + 5 * T.length) z F) True m_Tab_count m_Mod_count [.ref (c0 + 0)] [.ref (c0 + 16)] :=
  ⟨_, _, q_count hC, rc_count hR, pv_same hM hc (fun _ => by rw [m_len])⟩
theorem jp_used (hC : CC c0 t T u o pl F) (hM : RM c0 (hp c0 (26 + 5 * T.length) z F) σ τ) (hR : RC (T.map en) t u pl o σ τ) (hc : cT T) : JP Value.int X c0 z T.length σ τ (hp c0 (26 + 5 * T.length) z F) True m_Tab_used m_Mod_used [.ref (c0 + 0)] [.ref (c0 + 16)] :=
  ⟨_, _, q_used hC, rc_used hR, pv_same hM hc (fun _ => rfl)⟩
theorem jp_kind (hC : CC c0 t T u o pl F) (hM : RM c0 (hp c0 (26 + 5 * T.length) z F) σ τ) (hR : RC (T.map en) t u pl o σ τ) (hc : cT T) (a : Int32) : JP Value.int X c0 z T.length σ τ (hp c0 (26 + 5 * T.length) z F) True m_Tab_kind m_Mod_kind [.ref (c0 + 0), .int a, ev_dead] [.ref (c0 + 16), .int a] := by
  rcases hR.no a with ⟨h1, h2⟩ | ⟨i, hi, hi', rfl⟩
  · exact ⟨_, _, q_kind_no hC h2, hR.id (rx_kind_no X c0 σ τ a h1), pv_same hM hc (fun _ => rfl)⟩
  · exact ⟨_, _, q_kind_in hC hi, hR.id (rx_kind_i X c0 σ τ hR.1 hi'), pv_same hM hc (fun _ => by rw [m_knd hi, kd_e (hC.ok i hi)])⟩
/-- scale, of the reference -/
theorem rx_scale_m (hR : RC (T.map en) t u pl o σ τ) (hc : cT T) (ho : oT T) {i : Nat} (hi : i < T.length) : Rx X c0 m_Mod_scale 0 [.ref (c0 + 16), .int (nI (i + 1)), ev_dead, ev_dead] [] σ τ (fun r σ' τ' => r = some (.int (nI (T.getD i tm0).2.2.1)) ∧ σ' = σ ∧ τ' = τ) := by
  have hi' : i < (T.map en).length := by rw [m_len]; exact hi
  by_cases h4 : knd (T.map en) i = 4
  · have hx := (hc i hi).1
    have ox := ho i hi
    have hk := h4
    have hb := m_bys hi
    rw [m_knd hi] at hk
    rcases hx with ⟨b, e, -⟩ | ⟨b, e, -⟩ | ⟨v, e⟩ | ⟨v, p, e, hc4⟩ | ⟨b, e⟩ | ⟨b, c, e, -⟩ | ⟨b, c, e, -⟩ | e | e <;> rw [e] at hk
    · exact absurd (show 1 = 4 from hk) (by decide)
    · exact absurd (show 2 = 4 from hk) (by decide)
    · exact absurd (show 3 = 4 from hk) (by decide)
    · rw [e] at ox hb
      obtain ⟨k1, k2⟩ := scl_4 hc4 ox
      have h := rx_scale_4 X c0 σ τ hR.1 hi' h4 (by rw [hb]; exact k1)
      rw [hb, k2] at h
      rw [e]
      exact h
    · exact absurd (show 5 = 4 from hk) (by decide)
    · exact absurd (show 6 = 4 from hk) (by decide)
    · exact absurd (show 7 = 4 from hk) (by decide)
    · exact absurd (show 8 = 4 from hk) (by decide)
    · exact absurd (show 8 = 4 from hk) (by decide)
  · have h := rx_scale_0 X c0 σ τ hR.1 hi' h4
    have h0 : (T.getD i tm0).2.2.1 = 0 := by
      rw [m_knd hi] at h4
      rcases (hc i hi).1 with ⟨b, e, -⟩ | ⟨b, e, -⟩ | ⟨v, e⟩ | ⟨v, p, e, hc4⟩ | ⟨b, e⟩ | ⟨b, c, e, -⟩ | ⟨b, c, e, -⟩ | e | e <;> rw [e] at h4 ⊢
      exact absurd rfl h4
    rw [h0]
    exact h
theorem jp_scale (hC : CC c0 t T u o pl F) (hM : RM c0 (hp c0 (26 + 5 * T.length) z F) σ τ) (hR : RC (T.map en) t u pl o σ τ) (hc : cT T) (a : Int32) : JP Value.int X c0 z T.length σ τ (hp c0 (26 + 5 * T.length) z F) True m_Tab_scale m_Mod_scale [.ref (c0 + 0), .int a, ev_dead] [.ref (c0 + 16), .int a, ev_dead, ev_dead] := by
  rcases hR.no a with ⟨h1, h2⟩ | ⟨i, hi, hi', rfl⟩
  · exact ⟨_, _, q_scale_no hC h2, hR.id (rx_scale_no X c0 σ τ a h1), pv_same hM hc (fun _ => rfl)⟩
  · exact ⟨_, _, q_scale_in hC hi, hR.id (rx_scale_m hR hc hC.ok hi), pv_same hM hc (fun _ => rfl)⟩
/-- what value answers, of the reference -/
def vlR (ts : RT) (i p : Nat) : Int64 := if knd ts i = 3 ∨ knd ts i = 4 then vlu (nI p) (bys ts i) else if knd ts i = 8 then (if (bys ts i).getD 0 0 = 116 then 1 else 0) else 0
theorem rx_value_m (hR : RC (T.map en) t u pl o σ τ) (hc : cT T) (ho : oT T) {i : Nat} (hi : i < T.length) : Rx X c0 m_Mod_value 0 [.ref (c0 + 16), .int (nI (i + 1)), ev_dead, ev_dead, ev_dead, ev_dead, ev_dead, ev_dead] [] σ τ (fun r σ' τ' => r = some (.long (vlR (T.map en) i (T.getD i tm0).2.2.1)) ∧ σ' = σ ∧ τ' = τ) := by
  have hi' : i < (T.map en).length := by rw [m_len]; exact hi
  unfold vlR
  by_cases h : knd (T.map en) i = 3 ∨ knd (T.map en) i = 4
  · rw [if_pos h]; exact rx_value_n X c0 σ τ hR.1 hi' h (rx_scale_m hR hc ho hi)
  · rw [if_neg h]
    by_cases h8 : knd (T.map en) i = 8
    · rw [if_pos h8]; exact rx_value_t X c0 σ τ hR.1 hi' h8
    · rw [if_neg h8]; exact rx_value_0 X c0 σ τ hR.1 hi' h8 h
theorem jp_value {eq : Prop} (hC : CC c0 t T u o pl F) (hM : RM c0 (hp c0 (26 + 5 * T.length) z F) σ τ) (hR : RC (T.map en) t u pl o σ τ) (hc : cT T) (he : ∀ i, i < T.length → eq → (T.getD i tm0).2.1 = vlR (T.map en) i (T.getD i tm0).2.2.1) (a : Int32) : JP Value.long X c0 z T.length σ τ (hp c0 (26 + 5 * T.length) z F) eq m_Tab_value m_Mod_value [.ref (c0 + 0), .int a, ev_dead] [.ref (c0 + 16), .int a, ev_dead, ev_dead, ev_dead, ev_dead, ev_dead, ev_dead] := by
  rcases hR.no a with ⟨h1, h2⟩ | ⟨i, hi, hi', rfl⟩
  · exact ⟨_, _, q_value_no hC h2, hR.id (rx_value_no X c0 σ τ a h1), pv_same hM hc (fun _ => rfl)⟩
  · exact ⟨_, _, q_value_in hC hi, hR.id (rx_value_m hR hc hC.ok hi), pv_same hM hc (he i hi)⟩
theorem jp_write (hS : XS X c0) (hC : CC c0 t T u o pl F) (hM : RM c0 (hp c0 (26 + 5 * T.length) z F) σ τ) (hR : RC (T.map en) t u pl o σ τ) (hc : cT T) (a : Int32) : JP Value.int X c0 z T.length σ τ (hp c0 (26 + 5 * T.length) z F) True m_Tab_write m_Mod_write [.ref (c0 + 0), .int a, ev_dead] [.ref (c0 + 16), .int a, ev_dead] := by
  rcases hR.no a with ⟨h1, h2⟩ | ⟨i, hi, hi', rfl⟩
  · exact ⟨_, _, q_write_no hC h2, hR.id (rx_write_no X c0 σ τ a h1), pv_same hM hc (fun _ => rfl)⟩
  · obtain ⟨r, hr, hv⟩ := (hC.ok i hi).2.2.1
    have hm : mag (T.getD i tm0).2.1 = r := by
      rcases hv with e | e
      · rw [e]; exact mag_s (s := false) hr
      · rw [e]; exact mag_s (s := true) hr
    have hb : bys (T.map en) i = wrW (T.getD i tm0) r := by rw [m_bys hi, ← hm]; rfl
    have hw := rc_write (X := X) (c0 := c0) hR hi'
    rw [hb] at hw
    exact ⟨_, _, q_write_in hC hS hi hr hv, hw, pv_same hM hc (fun _ => rfl)⟩
theorem jp_written (hC : CC c0 t T u o pl F) (hM : RM c0 (hp c0 (26 + 5 * T.length) z F) σ τ) (hR : RC (T.map en) t u pl o σ τ) (hc : cT T) (a : Int32) : JP Value.int X c0 z T.length σ τ (hp c0 (26 + 5 * T.length) z F) True m_Tab_written m_Mod_written [.ref (c0 + 0), .int a] [.ref (c0 + 16), .int a] :=
  ⟨_, _, q_written hC a, rc_written hR a, pv_same hM hc (fun _ => wtO_wat (Nat.le_trans hR.2.2.2.1.2.1 (by decide)) a)⟩
theorem jp_part (hC : CC c0 t T u o pl F) (hM : RM c0 (hp c0 (26 + 5 * T.length) z F) σ τ) (hR : RC (T.map en) t u pl o σ τ) (hc : cT T) (hT : T.length ≤ 600) (a b : Int32) : JP Value.int X c0 z T.length σ τ (hp c0 (26 + 5 * T.length) z F) True m_Tab_part m_Mod_part [.ref (c0 + 0), .int a, .int b, ev_dead] [.ref (c0 + 16), .int a, .int b, ev_dead, ev_dead] := by
  rcases hR.no a with ⟨h1, h2⟩ | ⟨i, hi, hi', rfl⟩
  · exact ⟨_, _, q_part_no hC h2 b, hR.id (rx_part_no X c0 σ τ a h1 b), pv_same hM hc (fun _ => rfl)⟩
  · exact ⟨_, _, q_part_in hC hi b, rc_part (room hc hC.ok hT) hR hi' (by rw [m_knd hi, m_quo hi, m_bys hi]; exact pt_bd (hc i hi).1) (by rw [m_bys hi]; exact Nat.le_trans (en_len (hc i hi).1 (hC.ok i hi)) (by decide)) b, pv_part hM hc hC.ok (by omega) hi b⟩
theorem jp_type (hC : CC c0 t T u o pl F) (hM : RM c0 (hp c0 (26 + 5 * T.length) z F) σ τ) (hR : RC (T.map en) t u pl o σ τ) (hc : cT T) (v : Int64) (b : Int32) : JP Value.int X c0 z T.length σ τ (hp c0 (26 + 5 * T.length) z F) True m_Tab_type m_Mod_type [.ref (c0 + 0), .long v, ev_dead, .int b, ev_dead] [.ref (c0 + 16), .long v, ev_dead, .int b, ev_dead] :=
  ⟨_, _, q_type hC v b, rc_type hR v b, pv_type hM hc v b⟩
theorem jp_whole (hC : CC c0 t T u o pl F) (hM : RM c0 (hp c0 (26 + 5 * T.length) z F) σ τ) (hR : RC (T.map en) t u pl o σ τ) (hc : cT T) (hT : T.length ≤ 600) (v : Int64) : JP Value.int X c0 z T.length σ τ (hp c0 (26 + 5 * T.length) z F) True m_Tab_whole m_Mod_whole [.ref (c0 + 0), .long v, ev_dead] [.ref (c0 + 16), .long v, ev_dead] :=
  ⟨_, _, q_whole hC v, rc_whole (room hc hC.ok hT) hR v, pv_whole hM hc hC.ok (by omega) v⟩
theorem jp_decimal (hC : CC c0 t T u o pl F) (hM : RM c0 (hp c0 (26 + 5 * T.length) z F) σ τ) (hR : RC (T.map en) t u pl o σ τ) (hc : cT T) (hT : T.length ≤ 600) (v : Int64) (b : Int32) : JP Value.int X c0 z T.length σ τ (hp c0 (26 + 5 * T.length) z F) True m_Tab_decimal m_Mod_decimal [.ref (c0 + 0), .long v, ev_dead, .int b] [.ref (c0 + 16), .long v, ev_dead, .int b] :=
  ⟨_, _, q_decimal hC v b, rc_decimal (room hc hC.ok hT) hR v b, pv_decimal hM hc hC.ok (by omega) v b⟩
theorem jp_read (hS : XS X c0) (hC : CC c0 t T u o pl F) (hM : RM c0 (hp c0 (26 + 5 * T.length) z F) σ τ) (hR : RC (T.map en) t u pl o σ τ) (hc : cT T) (hT : T.length ≤ 600) : JP Value.int X c0 z T.length σ τ (hp c0 (26 + 5 * T.length) z F) False m_Tab_read m_Mod_read [.ref (c0 + 0), ev_dead] [.ref (c0 + 16)] :=
  ⟨_, _, q_read hC hS (fun h => sAll_ok hR.2.1.2.2.2 h), rr_read hS (room hc hC.ok hT) hR, pv_read hM hc hC.ok (by omega) hR.2.1.2.2.2⟩
theorem jp_find (hS : XS X c0) (hC : CC c0 t T u o pl F) (hM : RM c0 (hp c0 (26 + 5 * T.length) z F) σ τ) (hR : RC (T.map en) t u pl o σ τ) (hc : cT T) : JP Value.int X c0 z T.length σ τ (hp c0 (26 + 5 * T.length) z F) False m_Tab_find m_Mod_find [.ref (c0 + 0), ev_dead] [.ref (c0 + 16), ev_dead] :=
  ⟨_, _, q_find hC hS (fun h => sAll_ok hR.2.1.2.2.2 h), rr_find hS hR, pv_find hM hc hR.2.1.2.2.2⟩
/-- what order, same, less answer, of the reference -/
def orR (T : List Tm) (i j : Nat) : Int32 := if i = j then 0 else ordv (knd (T.map en) i) (knd (T.map en) j) (bys (T.map en) i) (bys (T.map en) j) (T.getD i tm0).2.2.2.1 (T.getD j tm0).2.2.2.1 (tlR (T.getD i tm0)) (tlR (T.getD j tm0))
def saR (T : List Tm) (i j : Nat) : Int32 := if i = j then 1 else samv (knd (T.map en) i) (knd (T.map en) j) (bys (T.map en) i) (bys (T.map en) j)
def leR (T : List Tm) (i j : Nat) : Int32 := lesv (knd (T.map en) i) (knd (T.map en) j) (bys (T.map en) i) (bys (T.map en) j) (orR T i j)
theorem jp_order {eq : Prop} (hC : CC c0 t T u o pl F) (hM : RM c0 (hp c0 (26 + 5 * T.length) z F) σ τ) (hR : RC (T.map en) t u pl o σ τ) (hc : cT T) (he : ∀ i j, i < T.length → j < T.length → eq → orT (T.getD i tm0) (T.getD j tm0) = orR T i j) (a b : Int32) : JP Value.int X c0 z T.length σ τ (hp c0 (26 + 5 * T.length) z F) eq m_Tab_order m_Mod_order [.ref (c0 + 0), .int a, .int b, ev_dead, ev_dead] [.ref (c0 + 16), .int a, .int b, ev_dead, ev_dead] := by
  rcases hR.no a with ⟨h1, h2⟩ | ⟨i, hi, hi', rfl⟩
  · rcases hR.no b with ⟨h3, h4⟩ | ⟨j, hj, hj', rfl⟩
    · exact ⟨_, _, q_order_nn hC h2 h4, hR.id (rx_order_noa X c0 σ τ a _ h1), pv_same hM hc (fun _ => rfl)⟩
    · exact ⟨_, _, q_order_ni hC h2 hj, hR.id (rx_order_noa X c0 σ τ a _ h1), pv_same hM hc (fun _ => rfl)⟩
  · rcases hR.no b with ⟨h3, h4⟩ | ⟨j, hj, hj', rfl⟩
    · exact ⟨_, _, q_order_in hC hi h4, hR.id (rx_order_nob X c0 σ τ hR.1 hi' b h3), pv_same hM hc (fun _ => rfl)⟩
    · exact ⟨_, _, q_order_ii hC hi hj, hR.id (rx_order X c0 σ τ hR.1 hi' hj' (twf_m hc hi) (twf_m hc hj)), pv_same hM hc (he i j hi hj)⟩
theorem jp_same {eq : Prop} (hC : CC c0 t T u o pl F) (hM : RM c0 (hp c0 (26 + 5 * T.length) z F) σ τ) (hR : RC (T.map en) t u pl o σ τ) (hc : cT T) (he : ∀ i j, i < T.length → j < T.length → eq → smT (T.getD i tm0) (T.getD j tm0) = saR T i j) (a b : Int32) : JP Value.int X c0 z T.length σ τ (hp c0 (26 + 5 * T.length) z F) eq m_Tab_same m_Mod_same [.ref (c0 + 0), .int a, .int b, ev_dead, ev_dead] [.ref (c0 + 16), .int a, .int b, ev_dead] := by
  rcases hR.no a with ⟨h1, h2⟩ | ⟨i, hi, hi', rfl⟩
  · rcases hR.no b with ⟨h3, h4⟩ | ⟨j, hj, hj', rfl⟩
    · exact ⟨_, _, q_same_nn hC h2 h4, hR.id (rx_same_noa X c0 σ τ a _ h1), pv_same hM hc (fun _ => rfl)⟩
    · exact ⟨_, _, q_same_ni hC h2 hj, hR.id (rx_same_noa X c0 σ τ a _ h1), pv_same hM hc (fun _ => rfl)⟩
  · rcases hR.no b with ⟨h3, h4⟩ | ⟨j, hj, hj', rfl⟩
    · exact ⟨_, _, q_same_in hC hi h4, hR.id (rx_same_nob X c0 σ τ hR.1 hi' b h3), pv_same hM hc (fun _ => rfl)⟩
    · exact ⟨_, _, q_same_ii hC hi hj, hR.id (rx_same X c0 σ τ hR.1 hi' hj'), pv_same hM hc (he i j hi hj)⟩
theorem jp_less {eq : Prop} (hC : CC c0 t T u o pl F) (hM : RM c0 (hp c0 (26 + 5 * T.length) z F) σ τ) (hR : RC (T.map en) t u pl o σ τ) (hc : cT T) (he : ∀ i j, i < T.length → j < T.length → eq → lsT (T.getD i tm0) (T.getD j tm0) = leR T i j) (a b : Int32) : JP Value.int X c0 z T.length σ τ (hp c0 (26 + 5 * T.length) z F) eq m_Tab_less m_Mod_less [.ref (c0 + 0), .int a, .int b, ev_dead, ev_dead] [.ref (c0 + 16), .int a, .int b, ev_dead] := by
  rcases hR.no a with ⟨h1, h2⟩ | ⟨i, hi, hi', rfl⟩
  · rcases hR.no b with ⟨h3, h4⟩ | ⟨j, hj, hj', rfl⟩
    · exact ⟨_, _, q_less_nn hC h2 h4, hR.id (rx_less_noa X c0 σ τ a _ h1), pv_same hM hc (fun _ => rfl)⟩
    · exact ⟨_, _, q_less_ni hC h2 hj, hR.id (rx_less_noa X c0 σ τ a _ h1), pv_same hM hc (fun _ => rfl)⟩
  · rcases hR.no b with ⟨h3, h4⟩ | ⟨j, hj, hj', rfl⟩
    · exact ⟨_, _, q_less_in hC hi h4, hR.id (rx_less_nob X c0 σ τ hR.1 hi' b h3), pv_same hM hc (fun _ => rfl)⟩
    · exact ⟨_, _, q_less_ii hC hi hj, hR.id (rx_less X c0 σ τ hR.1 hi' hj' (twf_m hc hi) (twf_m hc hj)), pv_same hM hc (he i j hi hj)⟩
end JPS
end
section
/-! The start: both sides fresh. -/
theorem row0 {c0 k ka N : Nat} {F : Nat → Option va_E} (h1 : F k = some (.inr (1, [.ref (c0 + ka), .int 0]))) (h2 : F ka = some (.inl (0, N, .inl (fun _ => 0)))) : rowL c0 F k ka N [] := ⟨_, h1, h2, Nat.zero_le _, fun i hi => absurd hi (Nat.not_lt_zero i), nil_by⟩
theorem CC0 (c0 : Nat) : CC c0 [] [] 0 [] 0 (fz c0) := ⟨rfl, ⟨0, 0, 0, [], [], 0, fun _ _ => rfl, row0 rfl rfl, rfl, row0 rfl rfl, row0 rfl rfl, rfl⟩, ⟨rfl, ⟨fun _ => none, rfl, fun i hi => absurd hi (Nat.not_lt_zero i)⟩, Nat.zero_le _, Nat.zero_le _, fun i hi => absurd hi (Nat.not_lt_zero i)⟩, rfl, ⟨[], fun _ _ => rfl, row0 rfl rfl, row0 rfl rfl⟩, fun i hi => absurd hi (Nat.not_lt_zero i)⟩
theorem RM0 {c0 n z : Nat} : RM c0 (hp c0 n z (fz c0)) (fun _ => 0) (fun _ _ => 0) := by
  refine ⟨hp_at.trans rfl, fun k n hk => hp_at.trans ?_, fun o ho => hp_lo ho⟩
  unfold rsz at hk
  split at hk <;> first | (cases hk; rfl) | (cases hk)
theorem RC0 : RC [] [] 0 0 [] (fun _ => 0) (fun _ _ => 0) := ⟨⟨rfl, Nat.zero_le _, Nat.zero_le _, fun i hi => by
    have : i = 0 := by simpa using hi
    subst this
    rfl, fun i hi => absurd hi (Nat.not_lt_zero i)⟩, ⟨rfl, Nat.zero_le _, fun j hj => absurd hj (Nat.not_lt_zero j), nil_by⟩, ⟨rfl, Nat.zero_le _⟩, ⟨rfl, Nat.zero_le _, fun k hk => absurd hk (Nat.not_lt_zero k), nil_by⟩, rfl, 0, rfl, Nat.zero_le _⟩
theorem J0 (c0 z : Nat) : J c0 z [] [] 0 [] 0 (hp c0 26 z (fz c0)) := ⟨fz c0, fun _ => 0, fun _ _ => 0, rfl, CC0 c0, RM0, RC0, fun i hi => absurd hi (Nat.not_lt_zero i)⟩
theorem nI_k2 (i : Nat) : nI i + 2 = nI (i + 2) := by rw [show i + 2 = i + 1 + 1 from rfl, ← nI_1, ← nI_1, Int32.add_assoc]; rfl
theorem nI_k3 (i : Nat) : nI i + 3 = nI (i + 3) := by rw [show i + 3 = i + 2 + 1 from rfl, ← nI_1, ← nI_k2, Int32.add_assoc]; rfl
theorem nI_k4 (i : Nat) : nI i + 4 = nI (i + 4) := by rw [show i + 4 = i + 2 + 2 from rfl, ← nI_k2, ← nI_k2, Int32.add_assoc]; rfl
theorem law_ge {L i : Nat} (hL : L ≤ 2048) (hi : i ≤ 4000) (h : ¬ nI L - 4 < nI i) : i + 4 ≤ L := by
  by_cases c : 4 ≤ L
  · have e : nI L - 4 = nI (L - 4) := pk_sub (b := 4) c
    rw [e, nI_ltI (by omega) (by omega)] at h
    omega
  · exfalso
    have h5 : L = 0 ∨ L = 1 ∨ L = 2 ∨ L = 3 := by omega
    have h0 := nI_pos (n := i) (by omega)
    rw [Int32.lt_iff_toInt_lt] at h h0
    have e0 : (0 : Int32).toInt = 0 := rfl
    rcases h5 with rfl | rfl | rfl | rfl
    · have e : (nI 0 - 4).toInt = -4 := rfl
      omega
    · have e : (nI 1 - 4).toInt = -3 := rfl
      omega
    · have e : (nI 2 - 4).toInt = -2 := rfl
      omega
    · have e : (nI 3 - 4).toInt = -1 := rfl
      omega
theorem Hx.tsw {X : ev_X} {M pc nx a b w : Nat} {A r : List Value} {h : ev_H} {Q : Option Value → ev_H → Prop} {d lo hi : Int} {offs : Array Int} {x : Int32} (o : pg_ops M pc = some (.tableswitch d lo hi offs, nx, a, b, w)) (hx : x.toInt < lo ∨ hi < x.toInt) (hd : ¬ (pc : Int) + d < 0) (k : Ex X M (ev_t pc d) A r h Q) : Ex X M pc A (.int x :: r) h Q := by
  refine Ex.nx (pc' := ev_t pc d) (A' := A) (st' := r) (h' := h) ?_ k
  have e1 : ev_ret M (.tableswitch d lo hi offs) (.int x :: r) = none := rfl
  have e2 : ev_cal X (.tableswitch d lo hi offs) a (.int x :: r) h = none := rfl
  have e3 : ∀ kv, ev_st kv (.tableswitch d lo hi offs) (.int x :: r) = none := fun _ => rfl
  have e4 : ev_lc (.tableswitch d lo hi offs) A (.int x :: r) = none := rfl
  have e5 : ev_br (.tableswitch d lo hi offs) pc nx (.int x :: r) = some (ev_t pc d, r) := by
    simp only [ev_br]
    rw [if_pos hx, if_neg hd]
  unfold ev_nx
  simp only [o, e1, e2, ev_one, e3, e4, e5]
theorem sw17 (q : Int32) : (∃ j : Nat, j ≤ 16 ∧ q = nI j) ∨ (q.toInt < 0 ∨ 16 < q.toInt) := by
  by_cases h : q.toInt < 0 ∨ 16 < q.toInt
  · exact Or.inr h
  · refine Or.inl (nI_of2 (M := 16) (n := 16) rfl (fun z => h (Or.inl (by rw [Int32.lt_iff_toInt_lt] at z; exact z))) ?_)
    rw [Int32.le_iff_toInt_le]
    have e : (16 : Int32).toInt = 16 := rfl
    omega
def LQ (c0 Z : Nat) (r : Option Value) (h' : ev_H) : Prop := r = some (.int 1) ∧ h'.1 ≤ c0 + 3000 ∧ h'.2.1 ≤ Z
end
