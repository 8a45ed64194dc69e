section
/-! value: what the reference answers is what the class answers. -/
theorem lN_dig {a b : Nat} (h1 : 48 ≤ b) (h2 : b ≤ 57) : 10 * lN a + (nI b).toInt64 - 48 = lN (a * 10 + (b - 48)) := by
  rw [nI_l (by omega), show (10 : Int64) = lN 10 from rfl, lN_mul, lN_add, show (48 : Int64) = lN 48 from rfl]
  have e : lN (10 * a + b) = lN (a * 10 + (b - 48)) + lN 48 := by rw [lN_add, show a * 10 + (b - 48) + 48 = 10 * a + b by omega]
  rw [e, Int64.add_sub_cancel]
theorem isD_n {d : Nat} (h1 : 48 ≤ d) (h2 : d ≤ 57) : isD (nI d) = true := by
  unfold isD
  have c1 : ¬ nI d < 48 := fun h => by have := (nI_ltI (a := d) (b := 48) (by omega) (by decide)).mp h; omega
  have c2 : ¬ 57 < nI d := fun h => by have := (nI_ltI (a := 57) (b := d) (by decide) (by omega)).mp h; omega
  simp [c1, c2]
theorem ng_ne {j : Nat} (h : j ≤ 2000) : ¬ -nI (j + 1) = 0 := by
  intro e
  have e2 : nI (j + 1) = nI 0 := by
    have := congrArg (fun x => -x) e
    rw [Int32.neg_neg] at this
    rw [this]; rfl
  have := (nI_eq (by omega) (by decide)).mp e2
  omega
theorem ng_s (j : Nat) : -nI j + -1 = -nI (j + 1) := by rw [← nI_1, Int32.neg_add, Int32.sub_eq_add_neg]
theorem vg_n (bh : Int32) : ∀ (e y : List Nat) (a j : Nat), digs e → j + e.length ≤ 1000 → vgo bh (e ++ y) (lN a) (-nI (j + 1)) = vgo bh y (lN (e.foldl (fun a d => a * 10 + (d - 48)) a)) (-nI (j + 1 + e.length)) := by
  intro e
  induction e with
  | nil => intro y a j _ _; rfl
  | cons d e ih =>
    intro y a j hd hj
    have h := hd d List.mem_cons_self
    rw [List.length_cons] at hj
    rw [List.cons_append, vgo, if_neg (ng_ne (by omega)), if_neg (by omega), if_pos (isD_n h.1 h.2), lN_dig h.1 h.2, ng_s, ih y _ (j + 1) (fun x hx => hd x (List.mem_cons_of_mem _ hx)) (by omega), List.foldl_cons, List.length_cons]
    rw [show j + 1 + 1 + e.length = j + 1 + (e.length + 1) by omega]
theorem ps_ne {j : Nat} (h : j ≤ 2000) : ¬ nI (j + 1) = 0 := by
  intro e
  have := (nI_eq (a := j + 1) (b := 0) (by omega) (by decide)).mp e
  omega
theorem ps_s (j : Nat) : nI (j + 1) + -1 = nI j := by rw [← nI_1, Int32.add_assoc]; exact Int32.add_zero _
theorem vg_p (bh : Int32) : ∀ (d : List Nat) (a : Nat), digs d → d.length ≤ 100 → vgo bh d (lN a) (nI d.length) = lN (d.foldl (fun a d => a * 10 + (d - 48)) a) := by
  intro d
  induction d with
  | nil => intro a _ _; rfl
  | cons x d ih =>
    intro a hd hl
    have h := hd x List.mem_cons_self
    rw [List.length_cons] at hl
    rw [List.length_cons, vgo, if_neg (ps_ne (by omega)), if_neg (by omega), if_pos (isD_n h.1 h.2), lN_dig h.1 h.2, ps_s, ih _ (fun y hy => hd y (List.mem_cons_of_mem _ hy)) (by omega), List.foldl_cons]
theorem vl_ok {s : Bool} {r : Nat} (hr : r < 10 ^ 18) {bh : Int32} {y : List Nat} (hy : y.getD 0 0 ≠ 45) (hg : vgo bh y (lN 0) (-nI (0 + 1)) = lN r) : vlu bh (sgW (sN s r) ++ y) = sN s r := by
  unfold vlu sgW
  by_cases c : 0 ≤ lg_cmp (sN s r) 0
  · rw [if_pos c, List.nil_append, if_neg hy, show vgo bh y 0 (-1) = lN r from hg]
    cases s
    · rfl
    · have := (sg_n hr).mp c
      subst this; rfl
  · rw [if_neg c]
    show (if (45 :: y).getD 0 0 = 45 then - vgo bh (45 :: y) 0 (-1) else vgo bh (45 :: y) 0 (-1)) = _
    rw [if_pos (show (45 :: y).getD 0 0 = 45 from rfl), vgo, if_neg (by decide), if_neg (by decide), if_neg (by decide), show vgo bh y 0 (-1) = lN r from hg]
    cases s
    · exact absurd (sg_p hr) c
    · rfl
theorem digs_0 {e : List Nat} (h : digs e) (y : List Nat) (hy : y.getD 0 0 ≠ 45) : (e ++ y).getD 0 0 ≠ 45 := by
  cases e with
  | nil => exact hy
  | cons a e =>
    have := h a List.mem_cons_self
    show a ≠ 45
    omega
theorem value_eq {c0 u pl : Nat} {t o : List Nat} {F : Nat → Option va_E} {T : List Tm} (hC : CC c0 t T u o pl F) (hc : cT T) {i : Nat} (hi : i < T.length) : (T.getD i tm0).2.1 = vlR (T.map en) i (T.getD i tm0).2.2.1 := by
  unfold vlR
  rw [m_knd hi, m_bys hi]
  have ox := hC.ok i hi
  rcases (hc i hi).1 with ⟨b, e, -⟩ | ⟨b, e, -⟩ | ⟨v, e⟩ | ⟨v, p, e, hc4⟩ | ⟨b, e⟩ | ⟨b, c, e, -⟩ | ⟨b, c, e, -⟩ | e | e <;> rw [e] at ox ⊢
  · rfl
  · rfl
  · obtain ⟨-, -, ov, op, -⟩ := ox
    obtain ⟨s, r, hr, e2, hm⟩ := okv ov
    dsimp only at e2 hm
    obtain ⟨d, h1, h2, h3, -⟩ := nu_3 (v := v) (b := []) (c := []) hr
    have hl : d.length ≤ 1000 := by
      have := congrArg List.length h1
      have h40 := nuW_len (x := (3, v, 0, [], [])) (r := r)
      rw [this, List.length_append] at h40
      omega
    show v = vlu (nI 0) (nuW (3, v, 0, [], []) (mag v))
    rw [hm, h1]
    subst e2
    refine (vl_ok hr ?_ ?_).symm
    · have := digs_0 h2 [] (by decide)
      rw [List.append_nil] at this; exact this
    · have := vg_n (nI 0) d [] 0 0 h2 (by omega)
      rw [List.append_nil] at this
      rw [this]
      show lN (ofD d) = lN r
      rw [h3]
  · obtain ⟨-, -, ov, op, -⟩ := ox
    obtain ⟨s, r, hr, e2, hm⟩ := okv ov
    dsimp only at e2 hm op
    obtain ⟨a, d, h1, h2, h3, h4, h5⟩ := nu_4 (v := v) (b := []) (c := []) hr op
    have hl : a.length ≤ 1000 := by
      have := congrArg List.length h1
      have h40 := nuW_len (x := (4, v, p, [], [])) (r := r)
      rw [this, List.length_append, List.length_append] at h40
      omega
    show v = vlu (nI p) (nuW (4, v, p, [], []) (mag v))
    rw [hm, h1]
    subst e2
    refine (vl_ok hr (digs_0 h2 _ (by show 46 ≠ 45; decide)) ?_).symm
    rw [vg_n (nI p) a (46 :: d) 0 0 h2 (by omega), vgo, if_neg (by rw [show 0 + 1 + a.length = a.length + 1 by omega]; exact ng_ne (by omega)), if_pos rfl]
    rcases h5 with ⟨rfl, e1, e2⟩ | ⟨e0, e1, e2⟩
    · rw [vg_0 (show nI 0 = 0 from rfl)]
      show lN (ofD a) = lN r
      rw [e2]
    · rw [← e1, vg_p (nI d.length) d _ h3 (by omega), ← e2]
      unfold ofD
      rw [List.foldl_append]
  · rfl
  · rfl
  · rfl
  · rfl
  · rfl
end
section
/-! order, same, less: what the reference answers is what the class answers. -/
def sgI (z : Int) : Int32 := if z < 0 then -1 else if 0 < z then 1 else 0
theorem sgI_n {z : Int} (h : z < 0) : sgI z = -1 := if_pos h
theorem sgI_p {z : Int} (h : 0 < z) : sgI z = 1 := by unfold sgI; rw [if_neg (show ¬ z < 0 by omega), if_pos h]
theorem sgI_z {z : Int} (h : z = 0) : sgI z = 0 := by subst h; rfl
theorem cmpL_i (a b : Int64) : cmpL a b = sgI (a.toInt - b.toInt) := by
  unfold cmpL
  by_cases h1 : a < b
  · rw [if_pos (lgc_n.mpr h1), sgI_n (by rw [Int64.lt_iff_toInt_lt] at h1; omega)]
  · rw [if_neg (fun h => h1 (lgc_n.mp h))]
    by_cases h2 : b < a
    · rw [if_pos (lgc_p.mpr h2), sgI_p (by rw [Int64.lt_iff_toInt_lt] at h2; omega)]
    · rw [if_neg (fun h => h2 (lgc_p.mp h)), sgI_z (by rw [Int64.lt_iff_toInt_lt] at h1 h2; omega)]
theorem sgn_i {a b : Nat} (ha : a < 2 ^ 30) (hb : b < 2 ^ 30) : sgn (nI a - nI b) = sgI ((a : Int) - b) := by
  have e := i32_sub ha hb
  have e0 : (0 : Int32).toInt = 0 := rfl
  have k1 : 0 ≤ nI a - nI b ↔ (0 : Int) ≤ (a : Int) - b := by rw [Int32.le_iff_toInt_le, e, e0]
  have k2 : nI a - nI b ≤ 0 ↔ (a : Int) - b ≤ 0 := by rw [Int32.le_iff_toInt_le, e, e0]
  unfold sgn
  by_cases h1 : 0 ≤ nI a - nI b
  · rw [if_pos h1]
    have h1' := k1.mp h1
    by_cases h2 : nI a - nI b ≤ 0
    · rw [if_pos h2, sgI_z (by have := k2.mp h2; omega)]
    · rw [if_neg h2, sgI_p (by have : ¬ (a : Int) - b ≤ 0 := fun q => h2 (k2.mpr q); omega)]
  · rw [if_neg h1, sgI_n (by have : ¬ (0 : Int) ≤ (a : Int) - b := fun q => h1 (k1.mpr q); omega)]
theorem cmpL_n {a b : Nat} (ha : a < 2 ^ 31) (hb : b < 2 ^ 31) : cmpL (nI a).toInt64 (nI b).toInt64 = sgI ((a : Int) - b) := by
  rw [cmpL_i, nI_l ha, nI_l hb, lN_big (by omega), lN_big (by omega)]
/-- rows: the class's order is the reference's -/
theorem ordI_lex {l m : List Nat} (h1 : ∀ i, l.getD i 0 < 256) (h2 : ∀ i, m.getD i 0 < 256) (hl : l.length ≤ 1000) (hm : m.length ≤ 1000) : ∀ (d i : Nat), i + d = min l.length m.length → ordI l m d i = lexc (l.drop i) (m.drop i) := by
  intro d
  induction d with
  | zero =>
    intro i h
    rw [ordI, cmpL_n (by omega) (by omega)]
    by_cases c1 : i < l.length
    · have c2 : m.length ≤ i := by omega
      rw [drop_getD c1, List.drop_eq_nil_of_le c2, lexc, sgI_p (by omega)]
    · rw [List.drop_eq_nil_of_le (show l.length ≤ i by omega)]
      by_cases c2 : i < m.length
      · rw [drop_getD c2, lexc, sgI_n (by omega)]
      · rw [List.drop_eq_nil_of_le (show m.length ≤ i by omega), lexc, sgI_z (by omega)]
  | succ d ih =>
    intro i h
    have c1 : i < l.length := by omega
    have c2 : i < m.length := by omega
    have b1 := h1 i
    have b2 := h2 i
    rw [ordI, drop_getD c1, drop_getD c2, lexc, hb_lt c1, hb_lt c2]
    by_cases e : l.getD i 0 = m.getD i 0
    · rw [if_pos (by rw [e]), if_pos e]; exact ih (i + 1) (by omega)
    · rw [if_neg (fun q => e ((nI_eq (by omega) (by omega)).mp q)), if_neg e, sgn_i (by omega) (by omega)]
      by_cases c : l.getD i 0 < m.getD i 0
      · rw [if_pos ((nI_ltI (by omega) (by omega)).mpr c), sgI_n (by omega)]
      · rw [if_neg (fun q => c ((nI_ltI (by omega) (by omega)).mp q)), sgI_p (by omega)]
theorem ord_lex {l m : List Nat} (h1 : ∀ i, l.getD i 0 < 256) (h2 : ∀ i, m.getD i 0 < 256) (hl : l.length ≤ 1000) (hm : m.length ≤ 1000) : ordL l m = lexc l m := by
  have h := ordI_lex h1 h2 hl hm (min l.length m.length) 0 (by omega)
  rw [List.drop_zero, List.drop_zero] at h
  exact h
theorem lexc_rf : ∀ l : List Nat, lexc l l = 0 := by
  intro l
  induction l with
  | nil => rfl
  | cons a l ih => rw [lexc, if_pos rfl, ih]
theorem lexc_p (a : Nat) (l m : List Nat) : lexc (a :: l) (a :: m) = lexc l m := by rw [lexc, if_pos rfl]
theorem sgI_0 {z : Int} : sgI z = 0 ↔ z = 0 := by
  unfold sgI
  split
  · exact ⟨fun h => absurd h (by decide), fun h => by omega⟩
  · split
    · exact ⟨fun h => absurd h (by decide), fun h => by omega⟩
    · exact ⟨fun _ => by omega, fun _ => rfl⟩
theorem lexc_0 : ∀ (l m : List Nat), (∀ i, l.getD i 0 < 256) → (∀ i, m.getD i 0 < 256) → lexc l m = 0 → l = m := by
  intro l
  induction l with
  | nil =>
    intro m _ _ h
    cases m with
    | nil => rfl
    | cons b m => exact absurd h (by rw [lexc]; decide)
  | cons a l ih =>
    intro m h1 h2 h
    cases m with
    | nil => exact absurd h (by rw [lexc]; decide)
    | cons b m =>
      have a1 : a < 256 := h1 0
      have b1 : b < 256 := h2 0
      rw [lexc] at h
      split at h
      · next e => rw [e, ih m (fun i => h1 (i + 1)) (fun i => h2 (i + 1)) h]
      · next e =>
        rw [sgn_i (by omega) (by omega), sgI_0] at h
        omega
/-! numbers -/
def sZ (s : Bool) (a : Nat) : Int := if s = true then -(a : Int) else a
theorem sN_i {s : Bool} {a : Nat} (h : a < 10 ^ 18) : (sN s a).toInt = sZ s a := by
  cases s
  · exact lN_big (by omega)
  · exact neg_lN h
theorem dv_n (s : Bool) : ∀ (p r : Nat), r < 10 ^ 18 → dv p (sN s r) = sN s (r / 10 ^ p) := by
  intro p
  induction p with
  | zero => intro r _; rw [dv, Nat.pow_zero, Nat.div_one]
  | succ p ih =>
    intro r hr
    rw [dv, sN_div hr, ih (r / 10) (by omega), Nat.div_div_eq_div_mul, Nat.pow_succ, Nat.mul_comm 10]
theorem sN_10 (s : Bool) (a : Nat) : sN s a * 10 = sN s (a * 10) := by
  cases s
  · exact lN_mul a 10
  · show -lN a * 10 = -lN (a * 10)
    rw [Int64.neg_mul, show (10 : Int64) = lN 10 from rfl, lN_mul]
theorem ml_n (s : Bool) : ∀ (p a : Nat), ml p (sN s a) = sN s (a * 10 ^ p) := by
  intro p
  induction p with
  | zero => intro a; rw [ml, Nat.pow_zero, Nat.mul_one]
  | succ p ih =>
    intro a
    rw [ml, sN_10, ih, Nat.pow_succ, Nat.mul_assoc, Nat.mul_comm 10]
theorem sN_sub (s : Bool) {a b : Nat} (h : b ≤ a) : sN s a - sN s b = sN s (a - b) := by
  have e : lN a = lN (a - b) + lN b := by rw [lN_add, Nat.sub_add_cancel h]
  have e2 : lN a - lN b = lN (a - b) := by rw [e, Int64.add_sub_cancel]
  cases s
  · exact e2
  · show -lN a - -lN b = -lN (a - b)
    rw [← e2, Int64.sub_neg, Int64.add_comm, ← Int64.sub_eq_add_neg, Int64.neg_sub]
theorem wpt_n {s : Bool} {r p : Nat} {k : Int32} {b c : List Nat} (hr : r < 10 ^ 18) : wpt (k, sN s r, p, b, c) = sN s (r / 10 ^ p) := dv_n s p r hr
theorem bln_n {s : Bool} {r p : Nat} {k : Int32} {b c : List Nat} (hr : r < 10 ^ 18) : bln (k, sN s r, p, b, c) = sN s (r % 10 ^ p * 10 ^ (9 - p)) := by
  unfold bln
  rw [wpt_n hr]
  dsimp only
  rw [ml_n, sN_sub s (Nat.div_mul_le_self _ _), ml_n]
  congr 2
  have := Nat.div_add_mod r (10 ^ p)
  rw [Nat.mul_comm] at this
  omega
theorem lex_z (s s' : Bool) (A B A' B' : Nat) (hB : B < 1000000000) (hB' : B' < 1000000000) : (if sgI (sZ s A - sZ s' A') = 0 then (if sgI (sZ s B - sZ s' B') = 0 then 0 else sgI (sZ s B - sZ s' B')) else sgI (sZ s A - sZ s' A')) = sgI (sZ s (A * 1000000000 + B) - sZ s' (A' * 1000000000 + B')) := by
  have c1 : ∀ n : Nat, sZ false n = n := fun n => rfl
  have c2 : ∀ n : Nat, sZ true n = -(n : Int) := fun n => rfl
  have tri : ∀ z : Int, (z < 0 ∧ sgI z = -1) ∨ (z = 0 ∧ sgI z = 0) ∨ (0 < z ∧ sgI z = 1) := fun z => by
    by_cases h1 : z < 0
    · exact Or.inl ⟨h1, sgI_n h1⟩
    · by_cases h2 : z = 0
      · exact Or.inr (Or.inl ⟨h2, sgI_z h2⟩)
      · exact Or.inr (Or.inr ⟨by omega, sgI_p (by omega)⟩)
  rcases tri (sZ s A - sZ s' A') with ⟨h1, e1⟩ | ⟨h1, e1⟩ | ⟨h1, e1⟩
  · rw [e1, if_neg (by decide), sgI_n]
    cases s <;> cases s' <;> simp only [c1, c2] at h1 ⊢ <;> omega
  · rw [e1, if_pos rfl]
    rcases tri (sZ s B - sZ s' B') with ⟨h2, e2⟩ | ⟨h2, e2⟩ | ⟨h2, e2⟩
    · rw [e2, if_neg (by decide), sgI_n]
      cases s <;> cases s' <;> simp only [c1, c2] at h1 h2 ⊢ <;> omega
    · rw [e2, if_pos rfl, sgI_z]
      cases s <;> cases s' <;> simp only [c1, c2] at h1 h2 ⊢ <;> omega
    · rw [e2, if_neg (by decide), sgI_p]
      cases s <;> cases s' <;> simp only [c1, c2] at h1 h2 ⊢ <;> omega
  · rw [e1, if_neg (by decide), sgI_p]
    cases s <;> cases s' <;> simp only [c1, c2] at h1 ⊢ <;> omega
theorem rQ_split {r p : Nat} (hp : p ≤ 9) : r * 10 ^ (9 - p) = r / 10 ^ p * 1000000000 + r % 10 ^ p * 10 ^ (9 - p) ∧ r % 10 ^ p * 10 ^ (9 - p) < 1000000000 := by
  have hPQ : 10 ^ p * 10 ^ (9 - p) = 1000000000 := by rw [← Nat.pow_add, show p + (9 - p) = 9 by omega]
  have hP : 0 < 10 ^ p := Nat.pow_pos (by decide)
  have hQ : 0 < 10 ^ (9 - p) := Nat.pow_pos (by decide)
  constructor
  · have h1 := Nat.div_add_mod r (10 ^ p)
    calc r * 10 ^ (9 - p) = (10 ^ p * (r / 10 ^ p) + r % 10 ^ p) * 10 ^ (9 - p) := by rw [h1]
      _ = r / 10 ^ p * (10 ^ p * 10 ^ (9 - p)) + r % 10 ^ p * 10 ^ (9 - p) := by rw [Nat.add_mul, Nat.mul_comm (10 ^ p) (r / 10 ^ p), Nat.mul_assoc]
      _ = _ := by rw [hPQ]
  · rw [← hPQ]
    exact Nat.mul_lt_mul_of_pos_right (Nat.mod_lt _ hP) hQ
theorem vl_num {s s' : Bool} {r r' p p' : Nat} {k k' : Int32} (hr : r < 10 ^ 18) (hr' : r' < 10 ^ 18) (hp : p ≤ 9) (hp' : p' ≤ 9) : vlT (k, sN s r, p, [], []) (k', sN s' r', p', [], []) = sgI (sZ s (r * 10 ^ (9 - p)) - sZ s' (r' * 10 ^ (9 - p'))) := by
  obtain ⟨e1, l1⟩ := rQ_split (r := r) hp
  obtain ⟨e2, l2⟩ := rQ_split (r := r') hp'
  have g1 : r / 10 ^ p < 10 ^ 18 := Nat.lt_of_le_of_lt (Nat.div_le_self _ _) hr
  have g2 : r' / 10 ^ p' < 10 ^ 18 := Nat.lt_of_le_of_lt (Nat.div_le_self _ _) hr'
  unfold vlT
  rw [wpt_n hr, wpt_n hr', bln_n hr, bln_n hr', cmpL_i, cmpL_i, sN_i g1, sN_i g2, sN_i (by omega), sN_i (by omega), e1, e2, show ordL (k, sN s r, p, ([] : List Nat), ([] : List Nat)).2.2.2.1 (k', sN s' r', p', ([] : List Nat), ([] : List Nat)).2.2.2.1 = 0 from (by decide : ordL [] [] = 0)]
  exact lex_z s s' _ _ _ _ l1 l2
end
section
/-! the digits of a written number -/
theorem ofD_app (a d : List Nat) : ofD (a ++ d) = ofD a * 10 ^ d.length + ofD d := by
  have key : ∀ (d : List Nat) (x : Nat), d.foldl (fun a d => a * 10 + (d - 48)) x = x * 10 ^ d.length + ofD d := by
    intro d
    induction d with
    | nil => intro x; simp [ofD]
    | cons c d ih =>
      intro x
      rw [List.foldl_cons, ih, List.length_cons]
      have e : ofD (c :: d) = (c - 48) * 10 ^ d.length + ofD d := by
        show (c :: d).foldl (fun a d => a * 10 + (d - 48)) 0 = _
        rw [List.foldl_cons, ih, Nat.zero_mul, Nat.zero_add]
      rw [e, Nat.pow_succ, Nat.add_mul, Nat.add_assoc, Nat.mul_assoc, Nat.mul_comm 10]
  show (a ++ d).foldl (fun a d => a * 10 + (d - 48)) 0 = _
  rw [List.foldl_append, key]; rfl
theorem ofD_dig : ∀ (k : Nat) (a : List Nat), digs a → ofD a / 10 ^ k % 10 = if k < a.length then a.getD (a.length - 1 - k) 0 - 48 else 0 := by
  intro k
  induction k with
  | zero =>
    intro a h
    by_cases hz : a = []
    · subst hz; rfl
    · obtain ⟨e, d, rfl⟩ := snoc_ex hz
      have hd := h d (by simp)
      rw [ofD_s, Nat.pow_zero, Nat.div_one, List.length_append, List.length_cons, List.length_nil, if_pos (by omega), show e.length + (0 + 1) - 1 - 0 = e.length by omega, gd_snoc_l]
      omega
  | succ k ih =>
    intro a h
    by_cases hz : a = []
    · subst hz; rw [ofD_nil, Nat.zero_div, if_neg (show ¬ k + 1 < ([] : List Nat).length from Nat.not_lt_zero _)]
    · obtain ⟨e, d, rfl⟩ := snoc_ex hz
      have hd := h d (by simp)
      have e1 : ofD (e ++ [d]) / 10 ^ (k + 1) = ofD e / 10 ^ k := by
        rw [Nat.pow_succ, Nat.mul_comm, ← Nat.div_div_eq_div_mul, ofD_s, show (ofD e * 10 + (d - 48)) / 10 = ofD e by omega]
      rw [e1, ih e (digs_l h), List.length_append, List.length_cons, List.length_nil]
      by_cases c : k < e.length
      · rw [if_pos c, if_pos (by omega), show e.length + (0 + 1) - 1 - (k + 1) = e.length - 1 - k by omega, gd_app (by omega)]
      · rw [if_neg c, if_neg (by omega)]
theorem dgv_d {b : Nat} (h1 : 48 ≤ b) (h2 : b ≤ 57) : dgv b = b - 48 := by unfold dgv; rw [if_pos (isD_n h1 h2)]
theorem getD_mem {l : List Nat} {i : Nat} (h : i < l.length) : l.getD i 0 ∈ l := by
  rw [List.getD_eq_getElem?_getD, List.getElem?_eq_getElem h]; exact List.getElem_mem _
theorem gd_app2 {a b : List Nat} {i : Nat} (h : a.length ≤ i) : (a ++ b).getD i 0 = b.getD (i - a.length) 0 := by
  rw [List.getD_eq_getElem?_getD, List.getElem?_append_right h, List.getD_eq_getElem?_getD]
/-- a written number: sign, digits, and behind the dot -/
def nbF (l pre a d y : List Nat) (V : Nat) : Prop := l = pre ++ (a ++ y) ∧ (pre = [] ∨ pre = [45]) ∧ digs a ∧ digs d ∧ a ≠ [] ∧ (y = 46 :: d ∨ (y = [] ∧ d = [])) ∧ d.length ≤ 9 ∧ V = ofD a * 1000000000 + ofD d * 10 ^ (9 - d.length) ∧ dotp l = pre.length + a.length
theorem nbF_dig {l pre a d y : List Nat} {V : Nat} (h : nbF l pre a d y V) (n : Nat) : dgn l (pre.length + a.length) (n + 1) = V / 10 ^ n % 10 := by
  obtain ⟨h1, h2, h3, h4, h5, h6, h7, h8, -⟩ := h
  have hQ : ofD d * 10 ^ (9 - d.length) < 1000000000 := by
    have e : 10 ^ d.length * 10 ^ (9 - d.length) = 1000000000 := by rw [← Nat.pow_add, show d.length + (9 - d.length) = 9 by omega]
    rw [← e]
    exact Nat.mul_lt_mul_of_pos_right (ofD_lt h4) (Nat.pow_pos (by decide))
  unfold dgn
  by_cases c10 : 10 ≤ n + 1
  · rw [if_pos c10]
    obtain ⟨k, rfl⟩ : ∃ k, n = 9 + k := ⟨n - 9, by omega⟩
    have e1 : V / 10 ^ (9 + k) % 10 = ofD a / 10 ^ k % 10 := by
      rw [Nat.pow_add, ← Nat.div_div_eq_div_mul, show V / 10 ^ 9 = ofD a by rw [h8]; omega]
    rw [e1, ofD_dig k a h3]
    by_cases ck : k < a.length
    · rw [if_neg (by omega), if_pos ck]
      have e2 : l.getD (pre.length + a.length + 9 - (9 + k + 1)) 0 = a.getD (a.length - 1 - k) 0 := by
        rw [h1, gd_app2 (by omega), gd_app (by omega), show pre.length + a.length + 9 - (9 + k + 1) - pre.length = a.length - 1 - k by omega]
      rw [e2]
      have := h3 _ (getD_mem (l := a) (i := a.length - 1 - k) (by omega))
      exact dgv_d this.1 this.2
    · rw [if_neg ck]
      by_cases c9 : pre.length + a.length + 9 < 9 + k + 1
      · rw [if_pos c9]
      · rw [if_neg c9]
        have hi : pre.length + a.length + 9 - (9 + k + 1) < pre.length := by omega
        rw [h1, gd_app hi]
        rcases h2 with rfl | rfl
        · exact absurd hi (Nat.not_lt_zero _)
        · have h0 : [45].length + a.length + 9 - (9 + k + 1) = 0 := by simp only [List.length_cons, List.length_nil] at hi ⊢; omega
          rw [h0]; decide
  · rw [if_neg c10]
    have e1 : V / 10 ^ n % 10 = ofD d * 10 ^ (9 - d.length) / 10 ^ n % 10 := by
      have e2 : V = ofD d * 10 ^ (9 - d.length) + 10 ^ n * (10 * (ofD a * 10 ^ (8 - n))) := by
        have e9 : 10 ^ n * (10 * 10 ^ (8 - n)) = 1000000000 := by rw [← Nat.pow_succ', ← Nat.pow_add, show n + (8 - n + 1) = 9 by omega]
        rw [h8, ← e9]
        have : 10 ^ n * (10 * (ofD a * 10 ^ (8 - n))) = ofD a * (10 ^ n * (10 * 10 ^ (8 - n))) := by
          rw [Nat.mul_left_comm 10, Nat.mul_left_comm (10 ^ n)]
        rw [this, Nat.add_comm]
      rw [e2, Nat.add_mul_div_left _ _ (Nat.pow_pos (by decide)), Nat.add_mul_mod_self_left]
    have e3 : dgv (l.getD (pre.length + a.length + 10 - (n + 1)) 0) = dgv (d.getD (8 - n) 0) := by
      rw [h1, gd_app2 (by omega), gd_app2 (by omega)]
      rcases h6 with rfl | ⟨rfl, rfl⟩
      · rw [show pre.length + a.length + 10 - (n + 1) - pre.length - a.length = (8 - n) + 1 by omega]
        rfl
      · simp
    rw [e1, e3]
    by_cases cm : 9 - d.length ≤ n
    · obtain ⟨k, rfl⟩ : ∃ k, n = 9 - d.length + k := ⟨n - (9 - d.length), by omega⟩
      rw [Nat.pow_add, ← Nat.div_div_eq_div_mul, Nat.mul_div_cancel _ (Nat.pow_pos (by decide)), ofD_dig k d h4, if_pos (by omega), show 8 - (9 - d.length + k) = d.length - 1 - k by omega]
      have := h4 _ (getD_mem (l := d) (i := d.length - 1 - k) (by omega))
      exact dgv_d this.1 this.2
    · rw [gd0 (by omega)]
      have e4 : ofD d * 10 ^ (9 - d.length) = 10 ^ n * (10 * (ofD d * 10 ^ (8 - d.length - n))) := by
        have e9 : 10 ^ n * (10 * 10 ^ (8 - d.length - n)) = 10 ^ (9 - d.length) := by rw [← Nat.pow_succ', ← Nat.pow_add, show n + (8 - d.length - n + 1) = 9 - d.length by omega]
        have : 10 ^ n * (10 * (ofD d * 10 ^ (8 - d.length - n))) = ofD d * (10 ^ n * (10 * 10 ^ (8 - d.length - n))) := by
          rw [Nat.mul_left_comm 10, Nat.mul_left_comm (10 ^ n)]
        rw [this, e9]
      rw [e4, Nat.mul_div_cancel_left _ (Nat.pow_pos (by decide)), Nat.mul_mod_right]
      decide
theorem cmpD_v {la lb : List Nat} {da db V V' : Nat} (ha : ∀ n, dgn la da (n + 1) = V / 10 ^ n % 10) (hb : ∀ n, dgn lb db (n + 1) = V' / 10 ^ n % 10) : ∀ N, cmpD la da lb db N = sgI (((V % 10 ^ N : Nat) : Int) - ((V' % 10 ^ N : Nat) : Int)) := by
  intro N
  induction N with
  | zero => rw [cmpD, Nat.pow_zero, Nat.mod_one, Nat.mod_one]; rfl
  | succ N ih =>
    rw [cmpD, ha, hb, Nat.mod_pow_succ, Nat.mod_pow_succ]
    have hP : 0 < 10 ^ N := Nat.pow_pos (by decide)
    have u1 := Nat.mod_lt V hP
    have u2 := Nat.mod_lt V' hP
    have x1 := Nat.mod_lt (V / 10 ^ N) (show 0 < 10 by decide)
    have x2 := Nat.mod_lt (V' / 10 ^ N) (show 0 < 10 by decide)
    generalize V / 10 ^ N % 10 = x at *
    generalize V' / 10 ^ N % 10 = x' at *
    generalize V % 10 ^ N = w at *
    generalize V' % 10 ^ N = w' at *
    generalize 10 ^ N = P at *
    by_cases e : x = x'
    · subst e
      rw [if_pos rfl, ih, show ((w + P * x : Nat) : Int) - ((w' + P * x : Nat) : Int) = (w : Int) - w' by omega]
    · rw [if_neg e, sgn_i (by omega) (by omega)]
      by_cases c : x < x'
      · have h := Nat.mul_le_mul_left P (show x + 1 ≤ x' from c)
        rw [Nat.mul_succ] at h
        rw [sgI_n (by omega), sgI_n (by omega)]
      · have h := Nat.mul_le_mul_left P (show x' + 1 ≤ x by omega)
        rw [Nat.mul_succ] at h
        rw [sgI_p (by omega), sgI_p (by omega)]
/-- the bytes of a number -/
theorem nb_3 {s : Bool} {r : Nat} (hr : r < 10 ^ 18) : ∃ a d y, nbF (en (3, sN s r, 0, [], [])).2.1 (sgW (sN s r)) a d y (r * 10 ^ (9 - 0)) := by
  obtain ⟨e, h1, h2, h3, h4⟩ := nu_3 (v := sN s r) (b := []) (c := []) hr
  have hb : (en (3, sN s r, 0, [], [])).2.1 = sgW (sN s r) ++ (e ++ []) := by
    show nuW (3, sN s r, 0, [], []) (mag (sN s r)) = _
    rw [mag_s hr, h1, List.append_nil]
  refine ⟨e, [], [], hb, ?_, h2, digs_nil, h4, Or.inr ⟨rfl, rfl⟩, by decide, ?_, ?_⟩
  · unfold sgW; split
    · exact Or.inl rfl
    · exact Or.inr rfl
  · rw [h3, ofD_nil]; omega
  · rw [hb, List.append_nil]
    refine dotp_is _ _ (by rw [List.length_append]; omega) (fun j hj => ?_) (fun h => by rw [List.length_append] at h; omega)
    have hm := getD_mem (l := sgW (sN s r) ++ e) (i := j) (by rw [List.length_append]; exact hj)
    rcases List.mem_append.mp hm with hm | hm
    · exact sgW_46 _ hm
    · have := h2 _ hm; omega
theorem nb_4 {s : Bool} {r p : Nat} (hr : r < 10 ^ 18) (hp : p ≤ 9) : ∃ a d y, nbF (en (4, sN s r, p, [], [])).2.1 (sgW (sN s r)) a d y (r * 10 ^ (9 - p)) := by
  obtain ⟨a, d, h1, h2, h3, h4, h5⟩ := nu_4 (v := sN s r) (b := []) (c := []) hr hp
  have hb : (en (4, sN s r, p, [], [])).2.1 = sgW (sN s r) ++ (a ++ (46 :: d)) := by
    show nuW (4, sN s r, p, [], []) (mag (sN s r)) = _
    rw [mag_s hr, h1]
  refine ⟨a, d, 46 :: d, hb, ?_, h2, h3, h4, Or.inl rfl, ?_, ?_, ?_⟩
  · unfold sgW; split
    · exact Or.inl rfl
    · exact Or.inr rfl
  · rcases h5 with ⟨-, rfl, -⟩ | ⟨-, e, -⟩
    · decide
    · omega
  · rcases h5 with ⟨rfl, rfl, e⟩ | ⟨-, e, e2⟩
    · rw [e, show ofD [48] = 0 from rfl]; omega
    · rw [← e2, ofD_app, e, Nat.add_mul, Nat.mul_assoc, ← Nat.pow_add, show p + (9 - p) = 9 by omega]
  · have := dot_at (l := (en (4, sN s r, p, [], [])).2.1) (pre := sgW (sN s r) ++ a) (d := d) (by rw [hb, List.append_assoc]) (by
      intro x hx
      rcases List.mem_append.mp hx with hx | hx
      · exact sgW_46 x hx
      · have := h2 x hx; omega)
    rw [this.1, List.length_append]
theorem nb_0 {l pre a d y : List Nat} {V : Nat} (h : nbF l pre a d y V) : l.getD 0 0 = 45 ↔ pre = [45] := by
  obtain ⟨rfl, h2, h3, -, h5, -⟩ := h
  rcases h2 with rfl | rfl
  · constructor
    · intro e
      cases a with
      | nil => exact absurd rfl h5
      | cons x a =>
        have := h3 x List.mem_cons_self
        rw [List.nil_append] at e
        have e2 : x = 45 := e
        omega
    · intro e; cases e
  · exact ⟨fun _ => rfl, fun _ => rfl⟩
theorem sgW_n {s : Bool} {r : Nat} (hr : r < 10 ^ 18) : sgW (sN s r) = [45] ↔ (s = true ∧ 0 < r) := by
  unfold sgW
  cases s
  · rw [show sN false r = lN r from rfl, if_pos (sg_p hr)]
    exact ⟨fun h => (by cases h), fun h => (by cases h.1)⟩
  · rw [show sN true r = -lN r from rfl]
    by_cases c : 0 ≤ lg_cmp (-lN r) 0
    · rw [if_pos c]
      have := (sg_n hr).mp c
      exact ⟨fun h => (by cases h), fun h => by omega⟩
    · rw [if_neg c]
      exact ⟨fun _ => ⟨rfl, by have : ¬ r = 0 := fun h => c ((sg_n hr).mpr h); omega⟩, fun _ => rfl⟩
theorem neg_sgI (z : Int) : -sgI z = sgI (-z) := by
  by_cases h1 : z < 0
  · rw [sgI_n h1, sgI_p (by omega)]; rfl
  · by_cases h2 : 0 < z
    · rw [sgI_p h2, sgI_n (by omega)]
    · rw [sgI_z (by omega), sgI_z (by omega)]; rfl
theorem onum_v {s s' : Bool} {r r' V V' : Nat} {la lb a a' d d' y y' : List Nat} (hr : r < 10 ^ 18) (hr' : r' < 10 ^ 18) (h : nbF la (sgW (sN s r)) a d y V) (h' : nbF lb (sgW (sN s' r')) a' d' y' V') (hV : V < 10 ^ 30) (hV' : V' < 10 ^ 30) (h0 : r = 0 ↔ V = 0) (h0' : r' = 0 ↔ V' = 0) : onum la lb = sgI (sZ s V - sZ s' V') := by
  have e := cmpD_v (nbF_dig h) (nbF_dig h') 30
  rw [Nat.mod_eq_of_lt hV, Nat.mod_eq_of_lt hV'] at e
  have k1 := (nb_0 h).trans (sgW_n hr)
  have k2 := (nb_0 h').trans (sgW_n hr')
  unfold onum
  rw [h.2.2.2.2.2.2.2.2, h'.2.2.2.2.2.2.2.2, e]
  by_cases c1 : la.getD 0 0 = 45
  · rw [if_pos c1]
    obtain ⟨rfl, p1⟩ := k1.mp c1
    by_cases c2 : lb.getD 0 0 = 45
    · rw [if_pos c2]
      obtain ⟨rfl, p2⟩ := k2.mp c2
      rw [neg_sgI]
      congr 1
      unfold sZ
      rw [if_pos rfl, if_pos rfl]; omega
    · rw [if_neg c2]
      have hz : sZ s' V' = V' := by
        unfold sZ
        cases s'
        · rfl
        · have := h0'.mp (by have : ¬ 0 < r' := fun q => c2 (k2.mpr ⟨rfl, q⟩); omega)
          rw [if_pos rfl]; omega
      rw [hz]
      refine (sgI_n ?_).symm
      unfold sZ
      rw [if_pos rfl]
      have : ¬ V = 0 := fun q => by have := h0.mpr q; omega
      omega
  · rw [if_neg c1]
    have hz1 : sZ s V = V := by
      unfold sZ
      cases s
      · rfl
      · have := h0.mp (by have : ¬ 0 < r := fun q => c1 (k1.mpr ⟨rfl, q⟩); omega)
        rw [if_pos rfl]; omega
    rw [hz1]
    by_cases c2 : lb.getD 0 0 = 45
    · rw [if_pos c2]
      obtain ⟨rfl, p2⟩ := k2.mp c2
      refine (sgI_p ?_).symm
      unfold sZ
      rw [if_pos rfl]
      have : ¬ V' = 0 := fun q => by have := h0'.mpr q; omega
      omega
    · rw [if_neg c2]
      have hz : sZ s' V' = V' := by
        unfold sZ
        cases s'
        · rfl
        · have := h0'.mp (by have : ¬ 0 < r' := fun q => c2 (k2.mpr ⟨rfl, q⟩); omega)
          rw [if_pos rfl]; omega
      rw [hz]
end
section
/-! the answers -/
def by2 (x : Tm) : Prop := (∀ i, x.2.2.2.1.getD i 0 < 256) ∧ ∀ i, x.2.2.2.2.getD i 0 < 256
theorem num_x {x : Tm} (cx : cn x) (ox : okT x) (h : (en x).1 = 3 ∨ (en x).1 = 4) : ∃ s r p, r < 10 ^ 18 ∧ p ≤ 9 ∧ x = (x.1, sN s r, p, [], []) ∧ ∃ a d y, nbF (en x).2.1 (sgW (sN s r)) a d y (r * 10 ^ (9 - p)) := by
  obtain ⟨-, -, ov, op, -⟩ := ox
  rcases cx with ⟨b, rfl, -⟩ | ⟨b, rfl, -⟩ | ⟨v, rfl⟩ | ⟨v, p, rfl, -⟩ | ⟨b, rfl⟩ | ⟨b, c, rfl, -⟩ | ⟨b, c, rfl, -⟩ | rfl | rfl
  · exact absurd (show 1 = 3 ∨ 1 = 4 from h) (by decide)
  · exact absurd (show 2 = 3 ∨ 2 = 4 from h) (by decide)
  · obtain ⟨s, r, hr, e, -⟩ := okv ov
    have e : v = sN s r := e
    subst e
    exact ⟨s, r, 0, hr, by decide, rfl, nb_3 hr⟩
  · obtain ⟨s, r, hr, e, -⟩ := okv ov
    have e : v = sN s r := e
    subst e
    exact ⟨s, r, p, hr, op, rfl, nb_4 hr op⟩
  · exact absurd (show 5 = 3 ∨ 5 = 4 from h) (by decide)
  · exact absurd (show 6 = 3 ∨ 6 = 4 from h) (by decide)
  · exact absurd (show 7 = 3 ∨ 7 = 4 from h) (by decide)
  · exact absurd (show 8 = 3 ∨ 8 = 4 from h) (by decide)
  · exact absurd (show 8 = 3 ∨ 8 = 4 from h) (by decide)
theorem V_lt {r p : Nat} (hr : r < 10 ^ 18) : r * 10 ^ (9 - p) < 10 ^ 30 ∧ (r = 0 ↔ r * 10 ^ (9 - p) = 0) := by
  have h1 : 10 ^ (9 - p) ≤ 10 ^ 9 := Nat.pow_le_pow_right (by decide) (by omega)
  have h2 : 0 < 10 ^ (9 - p) := Nat.pow_pos (by decide)
  constructor
  · calc r * 10 ^ (9 - p) ≤ r * 10 ^ 9 := Nat.mul_le_mul_left _ h1
      _ < 10 ^ 30 := by omega
  · constructor
    · intro h; rw [h, Nat.zero_mul]
    · intro h
      rcases Nat.mul_eq_zero.mp h with h | h
      · exact h
      · omega
theorem vo_num {x y : Tm} (cx : cn x) (ox : okT x) (cy : cn y) (oy : okT y) (hx : (en x).1 = 3 ∨ (en x).1 = 4) (hy : (en y).1 = 3 ∨ (en y).1 = 4) : vlT x y = onum (en x).2.1 (en y).2.1 ∧ ordL x.2.2.2.2 y.2.2.2.2 = 0 := by
  obtain ⟨s, r, p, hr, hp, e, a, d, w, hn⟩ := num_x cx ox hx
  obtain ⟨s', r', p', hr', hp', e', a', d', w', hn'⟩ := num_x cy oy hy
  have k := V_lt (p := p) hr
  have k' := V_lt (p := p') hr'
  constructor
  · rw [onum_v hr hr' hn hn' k.1 k'.1 k.2 k'.2, e, e']
    exact vl_num hr hr' hp hp'
  · rw [e, e']; rfl
theorem vl_0 {k k' : Int32} {b b' c c' : List Nat} : vlT (k, 0, 0, b, c) (k', 0, 0, b', c') = ordL b b' := by
  unfold vlT
  rw [if_pos (show cmpL (wpt (k, 0, 0, b, c)) (wpt (k', 0, 0, b', c')) = 0 from (by decide : cmpL 0 0 = 0)), if_pos (show cmpL (bln (k, 0, 0, b, c)) (bln (k', 0, 0, b', c')) = 0 from (by decide : cmpL (ml 9 (0 - 0)) (ml 9 (0 - 0)) = 0))]
theorem rk_x {x : Tm} (ox : okT x) : rkT x = nI (rnk (en x).1) := by
  obtain ⟨-, -, -, -, h⟩ := ox
  show (if x.1 = 4 then 3 else x.1) = nI (rnk x.1.toNatClampNeg)
  rcases h with h | h | h | h | h | h | h | h <;> rw [h] <;> rfl
theorem kd_b {x : Tm} (ox : okT x) : 1 ≤ (en x).1 ∧ (en x).1 ≤ 8 := by
  obtain ⟨-, -, -, -, h⟩ := ox
  show 1 ≤ x.1.toNatClampNeg ∧ x.1.toNatClampNeg ≤ 8
  rcases h with h | h | h | h | h | h | h | h <;> rw [h] <;> decide
theorem rnk_le {k : Nat} (h : k ≤ 8) : rnk k ≤ 8 := by
  show (if k = 4 then 3 else k) ≤ 8
  split <;> omega
theorem rk_cmp {x y : Tm} (ox : okT x) (oy : okT y) : cmpL (rkT x).toInt64 (rkT y).toInt64 = sgI ((rnk (en x).1 : Int) - rnk (en y).1) := by
  have h1 := rnk_le (kd_b ox).2
  have h2 := rnk_le (kd_b oy).2
  rw [rk_x ox, rk_x oy, cmpL_n (by omega) (by omega)]
theorem kd_cmp {x y : Tm} (ox : okT x) (oy : okT y) : cmpL x.1.toInt64 y.1.toInt64 = sgI (((en x).1 : Int) - (en y).1) := by
  have h1 := (kd_b ox).2
  have h2 := (kd_b oy).2
  rw [← kd_e ox, ← kd_e oy, cmpL_n (by omega) (by omega)]
/-- rows, of one kind that is no number's: by value, then by tail -/
def lx (x y : Tm) : Int32 := if lexc x.2.2.2.1 y.2.2.2.1 = 0 then lexc x.2.2.2.2 y.2.2.2.2 else lexc x.2.2.2.1 y.2.2.2.1
theorem sk {x y : Tm} (cx : cn x) (cy : cn y) (hk : (en x).1 = (en y).1) (hn : ¬ ((en x).1 = 3 ∨ (en x).1 = 4)) (hxy : x ≠ y) : ((en x).1 = 8 ∧ ((x = (8, 0, 0, [], []) ∧ y = (8, 1, 0, [], [])) ∨ (x = (8, 1, 0, [], []) ∧ y = (8, 0, 0, [], [])))) ∨ ((en x).1 ≠ 8 ∧ (∃ b c b' c', x = (x.1, 0, 0, b, c) ∧ y = (y.1, 0, 0, b', c')) ∧ ((en x).1 = 1 ∨ (en x).1 = 2 → x.2.2.2.2 = [] ∧ y.2.2.2.2 = []) ∧ ((en x).1 = 5 → x.2.2.2.2 = [] ∧ y.2.2.2.2 = []) ∧ x.1 = y.1 ∧ lexc (tlR x) (tlR y) = (if (en x).1 = 6 ∨ (en x).1 = 7 then lexc x.2.2.2.2 y.2.2.2.2 else 0)) := by
  rcases cx with ⟨b, rfl, -⟩ | ⟨b, rfl, -⟩ | ⟨v, rfl⟩ | ⟨v, p, rfl, -⟩ | ⟨b, rfl⟩ | ⟨b, c, rfl, -⟩ | ⟨b, c, rfl, -⟩ | rfl | rfl <;>
    rcases cy with ⟨b', rfl, -⟩ | ⟨b', rfl, -⟩ | ⟨v', rfl⟩ | ⟨v', p', rfl, -⟩ | ⟨b', rfl⟩ | ⟨b', c', rfl, -⟩ | ⟨b', c', rfl, -⟩ | rfl | rfl <;>
    dsimp only [en] at hk hn <;> first | (exact absurd hk (by decide)) | (exact absurd hn (by decide)) | skip
  · exact Or.inr ⟨(by decide : (1 : Nat) ≠ 8), ⟨_, _, _, _, rfl, rfl⟩, fun _ => ⟨rfl, rfl⟩, fun _ => ⟨rfl, rfl⟩, rfl, rfl⟩
  · exact Or.inr ⟨(by decide : (2 : Nat) ≠ 8), ⟨_, _, _, _, rfl, rfl⟩, fun _ => ⟨rfl, rfl⟩, fun _ => ⟨rfl, rfl⟩, rfl, rfl⟩
  · exact Or.inr ⟨(by decide : (5 : Nat) ≠ 8), ⟨_, _, _, _, rfl, rfl⟩, fun _ => ⟨rfl, rfl⟩, fun _ => ⟨rfl, rfl⟩, rfl, rfl⟩
  · refine Or.inr ⟨(by decide : (6 : Nat) ≠ 8), ⟨_, _, _, _, rfl, rfl⟩, fun h => absurd (show 6 = 1 ∨ 6 = 2 from h) (by decide), fun h => absurd (show 6 = 5 from h) (by decide), rfl, ?_⟩
    show lexc (64 :: c) (64 :: c') = lexc c c'
    exact lexc_p 64 c c'
  · refine Or.inr ⟨(by decide : (7 : Nat) ≠ 8), ⟨_, _, _, _, rfl, rfl⟩, fun h => absurd (show 7 = 1 ∨ 7 = 2 from h) (by decide), fun h => absurd (show 7 = 5 from h) (by decide), rfl, ?_⟩
    show lexc (94 :: 94 :: 60 :: c) (94 :: 94 :: 60 :: c') = lexc c c'
    rw [lexc_p, lexc_p, lexc_p]
  · exact absurd rfl hxy
  · exact Or.inl ⟨rfl, Or.inl ⟨rfl, rfl⟩⟩
  · exact Or.inl ⟨rfl, Or.inr ⟨rfl, rfl⟩⟩
  · exact absurd rfl hxy
theorem or_eq {x y : Tm} (cx : cn x) (ox : okT x) (bx : by2 x) (cy : cn y) (oy : okT y) (b_y : by2 y) (hxy : x ≠ y) : orT x y = ordv (en x).1 (en y).1 (en x).2.1 (en y).2.1 x.2.2.2.1 y.2.2.2.1 (tlR x) (tlR y) := by
  have h1 := kd_b ox
  have h2 := kd_b oy
  have r1 := rnk_le h1.2
  have r2 := rnk_le h2.2
  unfold orT ordv
  rw [rk_cmp ox oy]
  by_cases hr : rnk (en x).1 = rnk (en y).1
  · rw [if_pos (sgI_0.mpr (by rw [hr]; omega)), if_pos hr]
    by_cases hn : (en x).1 = 3 ∨ (en x).1 = 4
    · have hn2 : (en y).1 = 3 ∨ (en y).1 = 4 := by
        have e : (if (en x).1 = 4 then 3 else (en x).1) = (if (en y).1 = 4 then 3 else (en y).1) := hr
        split at e <;> split at e <;> omega
      obtain ⟨e1, e2⟩ := vo_num cx ox cy oy hn hn2
      rw [if_pos hn, e1, e2, kd_cmp ox oy, sgn_i (by omega) (by omega)]
      by_cases h0 : onum (en x).2.1 (en y).2.1 = 0
      · rw [if_pos h0, if_pos h0]
        by_cases h3 : sgI (((en x).1 : Int) - (en y).1) = 0
        · rw [if_pos h3, h3]
        · rw [if_neg h3]
      · rw [if_neg h0, if_neg h0]
    · have hk := rk_same hr hn
      have hl1 := ox.1
      have hl2 := oy.1
      have hl3 := ox.2.1
      have hl4 := oy.2.1
      rw [if_neg hn, kd_cmp ox oy, if_pos (sgI_0.mpr (by omega))]
      rcases sk cx cy hk hn hxy with ⟨h8, ⟨rfl, rfl⟩ | ⟨rfl, rfl⟩⟩ | ⟨h8, ⟨b, c, b', c', ex, ey⟩, t12, t5, -, tl⟩
      · decide +kernel
      · decide +kernel
      · have ev : vlT x y = lexc x.2.2.2.1 y.2.2.2.1 := by
          rw [← ord_lex bx.1 b_y.1 (by omega) (by omega), ex, ey]; exact vl_0
        rw [ev, if_neg h8, ord_lex bx.2 b_y.2 (by omega) (by omega)]
        by_cases k12 : (en x).1 = 1 ∨ (en x).1 = 2
        · rw [if_pos k12, (t12 k12).1, (t12 k12).2]
          split
          · next q => rw [q]; rfl
          · rfl
        · rw [if_neg k12, tl]
          by_cases k67 : (en x).1 = 6 ∨ (en x).1 = 7
          · rw [if_pos k67]
          · rw [if_neg k67, (t5 (by omega)).1, (t5 (by omega)).2]; rfl
  · rw [if_neg (fun h => hr (by have := sgI_0.mp h; omega)), if_neg hr, sgn_i (by omega) (by omega)]
theorem vl_rf {x : Tm} (ox : okT x) (bx : by2 x) : vlT x x = 0 ∧ ordL x.2.2.2.2 x.2.2.2.2 = 0 := by
  have hl1 := ox.1
  have hl2 := ox.2.1
  have hc : ∀ a : Int64, cmpL a a = 0 := fun a => by rw [cmpL_i]; exact sgI_0.mpr (by omega)
  constructor
  · unfold vlT
    rw [if_pos (hc _), if_pos (hc _), ord_lex bx.1 bx.1 (by omega) (by omega), lexc_rf]
  · rw [ord_lex bx.2 bx.2 (by omega) (by omega), lexc_rf]
theorem or_rf {x : Tm} (ox : okT x) (bx : by2 x) : orT x x = 0 := by
  have hc : ∀ a : Int64, cmpL a a = 0 := fun a => by rw [cmpL_i]; exact sgI_0.mpr (by omega)
  unfold orT
  rw [if_pos (hc _), if_pos (vl_rf ox bx).1, if_pos (hc _), (vl_rf ox bx).2]
theorem str_all : ∀ a, a < 9 → ∀ b, b < 9 → 1 ≤ a → 1 ≤ b → ((decide (nI a = 7) && !decide (nI b < 3) && !decide (8 < nI b)) || (decide (nI b = 7) && !decide (nI a < 3) && !decide (8 < nI a))) = decide ((a = 7 ∨ b = 7) ∧ 2 < a ∧ 2 < b) := by decide
theorem sm_eq {x y : Tm} (cx : cn x) (ox : okT x) (bx : by2 x) (cy : cn y) (oy : okT y) (b_y : by2 y) (hxy : x ≠ y) : smT x y = samv (en x).1 (en y).1 (en x).2.1 (en y).2.1 := by
  have h1 := kd_b ox
  have h2 := kd_b oy
  have r1 := rnk_le h1.2
  have r2 := rnk_le h2.2
  have k1 := kd_e ox
  have k2 := kd_e oy
  unfold smT samv
  by_cases hr : rnk (en x).1 = rnk (en y).1
  · rw [if_pos (by rw [rk_x ox, rk_x oy, hr])]
    by_cases hn : (en x).1 = 3 ∨ (en x).1 = 4
    · have hn2 : (en y).1 = 3 ∨ (en y).1 = 4 := by
        have e : (if (en x).1 = 4 then 3 else (en x).1) = (if (en y).1 = 4 then 3 else (en y).1) := hr
        split at e <;> split at e <;> omega
      obtain ⟨e1, e2⟩ := vo_num cx ox cy oy hn hn2
      rw [if_pos (show ((en x).1 = 3 ∨ (en x).1 = 4) ∧ ((en y).1 = 3 ∨ (en y).1 = 4) from ⟨hn, hn2⟩), e1, e2]
      by_cases h0 : onum (en x).2.1 (en y).2.1 = 0
      · rw [if_pos (show onum (en x).2.1 (en y).2.1 = 0 ∧ (0 : Int32) = 0 from ⟨h0, rfl⟩), if_pos h0]
      · rw [if_neg (fun q : onum (en x).2.1 (en y).2.1 = 0 ∧ (0 : Int32) = 0 => h0 q.1), if_neg h0, if_neg]
        rw [← k1]
        rcases hn with h | h <;> rw [h] <;> decide
    · have hk := rk_same hr hn
      have hl1 := ox.1
      have hl2 := oy.1
      have hl3 := ox.2.1
      have hl4 := oy.2.1
      rw [if_neg (fun q : ((en x).1 = 3 ∨ (en x).1 = 4) ∧ ((en y).1 = 3 ∨ (en y).1 = 4) => hn q.1)]
      have hno : ¬ (vlT x y = 0 ∧ ordL x.2.2.2.2 y.2.2.2.2 = 0) := by
        rintro ⟨q1, q2⟩
        rcases sk cx cy hk hn hxy with ⟨h8, ⟨rfl, rfl⟩ | ⟨rfl, rfl⟩⟩ | ⟨h8, ⟨b, c, b', c', ex, ey⟩, t12, t5, ek, tl⟩
        · exact absurd q1 (by decide +kernel)
        · exact absurd q1 (by decide +kernel)
        · have ev : vlT x y = lexc x.2.2.2.1 y.2.2.2.1 := by
            rw [← ord_lex bx.1 b_y.1 (by omega) (by omega), ex, ey]; exact vl_0
          rw [ev] at q1
          rw [ord_lex bx.2 b_y.2 (by omega) (by omega)] at q2
          have g1 := lexc_0 _ _ bx.1 b_y.1 q1
          have g2 := lexc_0 _ _ bx.2 b_y.2 q2
          refine hxy ?_
          rw [ex, ey] at g1 g2
          dsimp only at g1 g2
          rw [ex, ey, g1, g2, ek]
      rw [if_neg hno]
      by_cases h7 : (en x).1 = 7
      · rw [if_pos (by rw [← k1, h7]; rfl), if_pos ⟨Or.inl h7, by omega, by omega⟩]
      · rw [if_neg (fun q => h7 (by rw [← k1] at q; exact (nI_eq (b := 7) (by omega) (by decide)).mp q)), if_neg (fun q => by omega)]
  · have hne : ¬ rkT x = rkT y := by
      rw [rk_x ox, rk_x oy]
      exact fun q => hr ((nI_eq (by omega) (by omega)).mp q)
    rw [if_neg hne, if_neg (fun q : ((en x).1 = 3 ∨ (en x).1 = 4) ∧ ((en y).1 = 3 ∨ (en y).1 = 4) => hr (by
      show (if (en x).1 = 4 then 3 else (en x).1) = (if (en y).1 = 4 then 3 else (en y).1)
      split <;> split <;> omega))]
    have hs := str_all (en x).1 (by omega) (en y).1 (by omega) h1.1 h2.1
    rw [k1, k2] at hs
    have hs2 : (str x y || str y x) = decide (((en x).1 = 7 ∨ (en y).1 = 7) ∧ 2 < (en x).1 ∧ 2 < (en y).1) := hs
    rw [hs2]
    by_cases q : ((en x).1 = 7 ∨ (en y).1 = 7) ∧ 2 < (en x).1 ∧ 2 < (en y).1
    · rw [if_pos (decide_eq_true q), if_pos q]
    · rw [if_neg (by rw [decide_eq_false q]; decide), if_neg q]
theorem sm_rf {x : Tm} (ox : okT x) (bx : by2 x) : smT x x = 1 := by
  unfold smT
  rw [if_pos rfl, if_pos (vl_rf ox bx)]
theorem ge_lt {a : Int32} : 0 ≤ a ↔ ¬ a < 0 := ⟨fun h => Int32.not_lt.mpr h, fun h => Int32.not_lt.mp h⟩
theorem ls_eq {x y : Tm} (cx : cn x) (ox : okT x) (bx : by2 x) (cy : cn y) (oy : okT y) (b_y : by2 y) : lsT x y = lesv (en x).1 (en y).1 (en x).2.1 (en y).2.1 (orT x y) := by
  have h1 := kd_b ox
  have h2 := kd_b oy
  have r1 := rnk_le h1.2
  have r2 := rnk_le h2.2
  have k1 := kd_e ox
  have k2 := kd_e oy
  have k5 : x.1 = 5 ↔ (en x).1 = 5 := by rw [← k1]; exact nI_eq (b := 5) (by omega) (by decide)
  have k8 : x.1 = 8 ↔ (en x).1 = 8 := by rw [← k1]; exact nI_eq (b := 8) (by omega) (by decide)
  have k3 : rkT x = 3 ↔ rnk (en x).1 = 3 := by rw [rk_x ox]; exact nI_eq (b := 3) (by omega) (by decide)
  have krk : rkT x = rkT y ↔ rnk (en x).1 = rnk (en y).1 := by rw [rk_x ox, rk_x oy]; exact nI_eq (by omega) (by omega)
  have hh : hls x = true ↔ (rnk (en x).1 = 3 ∨ (en x).1 = 5 ∨ (en x).1 = 8) := by
    unfold hls
    rw [Bool.or_eq_true, Bool.or_eq_true, decide_eq_true_eq, decide_eq_true_eq, decide_eq_true_eq, k3, k5, k8, or_assoc]
  have hx3 : rnk (en x).1 = 3 ↔ ((en x).1 = 3 ∨ (en x).1 = 4) := by
    show (if (en x).1 = 4 then 3 else (en x).1) = 3 ↔ _
    split <;> omega
  have hy3 : rnk (en y).1 = 3 ↔ ((en y).1 = 3 ∨ (en y).1 = 4) := by
    show (if (en y).1 = 4 then 3 else (en y).1) = 3 ↔ _
    split <;> omega
  unfold lsT lesv
  by_cases hr : rnk (en x).1 = rnk (en y).1
  · by_cases hn : (en x).1 = 3 ∨ (en x).1 = 4
    · have hn2 := hy3.mp (by rw [← hr]; exact hx3.mpr hn)
      rw [if_pos (show rkT x = rkT y ∧ hls x = true from ⟨krk.mpr hr, hh.mpr (Or.inl (hx3.mpr hn))⟩), if_pos (show ((en x).1 = 3 ∨ (en x).1 = 4) ∧ ((en y).1 = 3 ∨ (en y).1 = 4) from ⟨hn, hn2⟩), (vo_num cx ox cy oy hn hn2).1]
      by_cases c : onum (en x).2.1 (en y).2.1 < 0
      · rw [if_pos c, if_neg (fun q => ge_lt.mp q c)]
      · rw [if_neg c, if_pos (ge_lt.mpr c)]
    · have hk := rk_same hr hn
      rw [if_neg (fun q : ((en x).1 = 3 ∨ (en x).1 = 4) ∧ ((en y).1 = 3 ∨ (en y).1 = 4) => hn q.1)]
      by_cases h58 : (en x).1 = 5 ∨ (en x).1 = 8
      · rw [if_pos (show rkT x = rkT y ∧ hls x = true from ⟨krk.mpr hr, hh.mpr (Or.inr h58)⟩), if_pos (show (en x).1 = (en y).1 ∧ ((en x).1 = 5 ∨ (en x).1 = 8) from ⟨hk, h58⟩)]
        have ho : orT x y = vlT x y := by
          by_cases hxy : x = y
          · subst hxy; rw [or_rf ox bx, (vl_rf ox bx).1]
          · unfold orT
            rw [rk_cmp ox oy, if_pos (sgI_0.mpr (by rw [hr]; omega)), kd_cmp ox oy, if_pos (sgI_0.mpr (by omega))]
            have e0 : ordL x.2.2.2.2 y.2.2.2.2 = 0 := by
              rcases sk cx cy hk hn hxy with ⟨h8, ⟨rfl, rfl⟩ | ⟨rfl, rfl⟩⟩ | ⟨h8, -, -, t5, -⟩
              · rfl
              · rfl
              · rw [(t5 (by omega)).1, (t5 (by omega)).2]; rfl
            rw [e0]
            by_cases q : vlT x y = 0
            · rw [if_pos q, q]
            · rw [if_neg q]
        rw [ho]
        by_cases c : vlT x y < 0
        · rw [if_pos c, if_neg (fun q => ge_lt.mp q c)]
        · rw [if_neg c, if_pos (ge_lt.mpr c)]
      · rw [if_neg (fun q : rkT x = rkT y ∧ hls x = true => by have := hh.mp q.2; rw [hx3] at this; omega), if_neg (fun q : (en x).1 = (en y).1 ∧ ((en x).1 = 5 ∨ (en x).1 = 8) => h58 q.2)]
  · rw [if_neg (fun q : rkT x = rkT y ∧ hls x = true => hr (krk.mp q.1)), if_neg (fun q : ((en x).1 = 3 ∨ (en x).1 = 4) ∧ ((en y).1 = 3 ∨ (en y).1 = 4) => hr (by rw [hx3.mpr q.1, hy3.mpr q.2])), if_neg (fun q : (en x).1 = (en y).1 ∧ ((en x).1 = 5 ∨ (en x).1 = 8) => hr (by rw [q.1]))]
section OEQ
variable {c0 u pl : Nat} {t o : List Nat} {T : List Tm} {F : Nat → Option va_E}
theorem CC.by2 (hC : CC c0 t T u o pl F) {i : Nat} (hi : i < T.length) : by2 (T.getD i tm0) := by
  obtain ⟨N1, N2, h⟩ := hC.2.2.1.2.2.2.2 i hi
  exact ⟨h.2.1.by, h.2.2.1.by⟩
theorem cT_ne (hc : cT T) {i j : Nat} (hi : i < T.length) (hj : j < T.length) (h : i ≠ j) : T.getD i tm0 ≠ T.getD j tm0 := by
  by_cases c : i < j
  · exact (hc j hj).2 i c
  · exact fun e => (hc i hi).2 j (by omega) e.symm
theorem order_eq (hC : CC c0 t T u o pl F) (hc : cT T) {i j : Nat} (hi : i < T.length) (hj : j < T.length) : orT (T.getD i tm0) (T.getD j tm0) = orR T i j := by
  unfold orR
  by_cases h : i = j
  · subst h; rw [if_pos rfl]; exact or_rf (hC.ok i hi) (hC.by2 hi)
  · rw [if_neg h, m_knd hi, m_knd hj, m_bys hi, m_bys hj]
    exact or_eq (hc i hi).1 (hC.ok i hi) (hC.by2 hi) (hc j hj).1 (hC.ok j hj) (hC.by2 hj) (cT_ne hc hi hj h)
theorem same_eq (hC : CC c0 t T u o pl F) (hc : cT T) {i j : Nat} (hi : i < T.length) (hj : j < T.length) : smT (T.getD i tm0) (T.getD j tm0) = saR T i j := by
  unfold saR
  by_cases h : i = j
  · subst h; rw [if_pos rfl]; exact sm_rf (hC.ok i hi) (hC.by2 hi)
  · rw [if_neg h, m_knd hi, m_knd hj, m_bys hi, m_bys hj]
    exact sm_eq (hc i hi).1 (hC.ok i hi) (hC.by2 hi) (hc j hj).1 (hC.ok j hj) (hC.by2 hj) (cT_ne hc hi hj h)
theorem less_eq (hC : CC c0 t T u o pl F) (hc : cT T) {i j : Nat} (hi : i < T.length) (hj : j < T.length) : lsT (T.getD i tm0) (T.getD j tm0) = leR T i j := by
  unfold leR
  rw [← order_eq hC hc hi hj, m_knd hi, m_knd hj, m_bys hi, m_bys hj]
  exact ls_eq (hc i hi).1 (hC.ok i hi) (hC.by2 hi) (hc j hj).1 (hC.ok j hj) (hC.by2 hj)
end OEQ
end
