/-! number, whole, decimal, type, read, find of the reference on a fresh object. (rows laid by wip/whole/rx13.py) -/
theorem lgc_p {a b : Int64} : 0 < lg_cmp a b ↔ b < a := by
  unfold lg_cmp
  by_cases h : a > b
  · rw [if_pos h]; exact ⟨fun _ => h, fun _ => by decide⟩
  · rw [if_neg h]
    refine ⟨fun q => ?_, fun q => absurd q h⟩
    split at q <;> exact absurd q (by decide)
theorem lgc_ge {a b : Int64} : 0 ≤ lg_cmp a b ↔ b ≤ a := by
  unfold lg_cmp
  by_cases h : a > b
  · rw [if_pos h]; exact ⟨fun _ => Int64.le_of_lt h, fun _ => by decide⟩
  · rw [if_neg h]
    by_cases e : a = b
    · rw [if_pos e]; exact ⟨fun _ => by rw [e]; exact Int64.le_refl _, fun _ => by decide⟩
    · rw [if_neg e]
      refine ⟨fun q => absurd q (by decide), fun q => ?_⟩
      exfalso
      refine e (Int64.toInt_inj.mp ?_)
      rw [Int64.le_iff_toInt_le] at q
      have h' : ¬ b.toInt < a.toInt := fun z => h (Int64.lt_iff_toInt_lt.mpr z)
      omega
theorem lgc_n {a b : Int64} : lg_cmp a b < 0 ↔ a < b := by
  rw [← Int32.not_le, lgc_ge, Int64.not_le]
theorem few_iff {v : Int64} : few v = true ↔ -999999999999999999 ≤ v.toInt ∧ v.toInt ≤ 999999999999999999 := by
  have h1 : (-999999999999999999 : Int64).toInt = -999999999999999999 := by decide
  have h2 : (999999999999999999 : Int64).toInt = 999999999999999999 := by decide
  unfold few
  simp only [Bool.and_eq_true, Bool.not_eq_true', decide_eq_false_iff_not, lgc_n, lgc_p, Int64.lt_iff_toInt_lt, h1, h2]
  omega
theorem few_no {v : Int64} (h : ¬ (-999999999999999999 ≤ v.toInt ∧ v.toInt ≤ 999999999999999999)) : few v = false := by
  cases e : few v
  · rfl
  · exact absurd (few_iff.mp e) h
theorem i64_neg (v : Int64) : (v.toInt = -9223372036854775808 ∧ (-v).toInt = -9223372036854775808) ∨ (v.toInt ≠ -9223372036854775808 ∧ (-v).toInt = -v.toInt) := by
  by_cases h : v.toInt = -9223372036854775808
  · refine Or.inl ⟨h, ?_⟩
    have e : v = Int64.ofInt (-9223372036854775808) := Int64.toInt_inj.mp (by rw [h]; decide)
    rw [e]; decide
  · refine Or.inr ⟨h, ?_⟩
    have h1 := Int64.le_toInt v
    have h2 := Int64.toInt_lt v
    rw [Int64.toInt_neg, Int.bmod_eq_of_le] <;> omega
theorem lN_of {x : Int64} {b : Nat} (h0 : 0 ≤ x.toInt) (h1 : x.toInt < b) : ∃ r : Nat, r < b ∧ x = lN r := by
  have h2 := Int64.toInt_lt x
  refine ⟨x.toInt.toNat, by omega, Int64.toInt_inj.mp ?_⟩
  rw [show (lN x.toInt.toNat).toInt = (x.toInt.toNat : Int) from lg_ofNat_toInt (by omega)]
  omega
section NUM
variable {v : Int64}
theorem num_pos (h : 0 ≤ lg_cmp v 0) (h2 : ¬ 0 < lg_cmp v 999999999999999999) : few v = true ∧ ∃ r : Nat, r < 10 ^ 18 ∧ v = lN r := by
  have e0 : (0 : Int64).toInt = 0 := rfl
  have e1 : (999999999999999999 : Int64).toInt = 999999999999999999 := by decide
  rw [lgc_ge, Int64.le_iff_toInt_le, e0] at h
  rw [lgc_p, Int64.lt_iff_toInt_lt, e1] at h2
  exact ⟨few_iff.mpr ⟨by omega, by omega⟩, lN_of h (by omega)⟩
theorem num_posB (h : 0 ≤ lg_cmp v 0) (h2 : 0 < lg_cmp v 999999999999999999) : few v = false := by
  have e1 : (999999999999999999 : Int64).toInt = 999999999999999999 := by decide
  rw [lgc_p, Int64.lt_iff_toInt_lt, e1] at h2
  exact few_no (by omega)
theorem num_neg (h : ¬ 0 ≤ lg_cmp v 0) (h2 : ¬ 0 < lg_cmp (-v) 999999999999999999) (h3 : 0 ≤ lg_cmp (-v) 0) : few v = true ∧ ∃ r : Nat, r < 10 ^ 18 ∧ -v = lN r := by
  have e0 : (0 : Int64).toInt = 0 := rfl
  have e1 : (999999999999999999 : Int64).toInt = 999999999999999999 := by decide
  rw [lgc_ge, Int64.le_iff_toInt_le, e0] at h h3
  rw [lgc_p, Int64.lt_iff_toInt_lt, e1] at h2
  rcases i64_neg v with ⟨a, b⟩ | ⟨a, b⟩
  · omega
  · exact ⟨few_iff.mpr ⟨by omega, by omega⟩, lN_of h3 (by omega)⟩
theorem num_negB (h : ¬ 0 ≤ lg_cmp v 0) (h2 : 0 < lg_cmp (-v) 999999999999999999) : few v = false := by
  have e0 : (0 : Int64).toInt = 0 := rfl
  have e1 : (999999999999999999 : Int64).toInt = 999999999999999999 := by decide
  rw [lgc_ge, Int64.le_iff_toInt_le, e0] at h
  rw [lgc_p, Int64.lt_iff_toInt_lt, e1] at h2
  refine few_no ?_
  rcases i64_neg v with ⟨a, b⟩ | ⟨a, b⟩ <;> omega
theorem num_negC (h : ¬ 0 ≤ lg_cmp v 0) (h3 : ¬ 0 ≤ lg_cmp (-v) 0) : few v = false := by
  have e0 : (0 : Int64).toInt = 0 := rfl
  rw [lgc_ge, Int64.le_iff_toInt_le, e0] at h h3
  refine few_no ?_
  rcases i64_neg v with ⟨a, b⟩ | ⟨a, b⟩ <;> omega
end NUM
/-- the digits of r, at least m -/
def dgl : Nat → Nat → List Nat
  | 0, _ => []
  | m + 1, r => dgl m (r / 10) ++ [48 + r % 10]
def dgf : Nat → Nat → (Nat → Int32) → Nat → Int32
  | 0, _, f => f
  | m + 1, r, f => dgf m (r / 10) (upd f m (nI (48 + r % 10)))
theorem dgl_len : ∀ m r, (dgl m r).length = m := by
  intro m
  induction m with
  | zero => intro r; rfl
  | succ m ih => intro r; simp [dgl, ih]
theorem dgf_hi : ∀ (m r : Nat) (f : Nat → Int32) (k : Nat), m ≤ k → dgf m r f k = f k := by
  intro m
  induction m with
  | zero => intro r f k _; rfl
  | succ m ih => intro r f k hk; rw [dgf, ih _ _ k (by omega), pk_un (by omega)]
theorem dgf_lo : ∀ (m r : Nat) (f : Nat → Int32) (k : Nat), k < m → dgf m r f k = nI ((dgl m r).getD k 0) := by
  intro m
  induction m with
  | zero => intro r f k hk; exact absurd hk (Nat.not_lt_zero k)
  | succ m ih =>
    intro r f k hk
    rw [dgf, dgl, getD_snoc (by rw [dgl_len]; exact hk), dgl_len]
    by_cases q : k < m
    · rw [if_pos q]; exact ih _ _ k q
    · rw [if_neg q, dgf_hi _ _ _ _ (by omega), show k = m by omega, pk_us]
theorem dgl_lt : ∀ (m r k : Nat), (dgl m r).getD k 0 < 256 := by
  intro m
  induction m with
  | zero => intro r k; simp [dgl]
  | succ m ih =>
    intro r k
    by_cases q : k < (dgl m (r / 10)).length + 1
    · rw [dgl, getD_snoc q]
      split
      · exact ih _ k
      · omega
    · rw [gd0 (by rw [dgl_len] at q ⊢; omega)]; decide
theorem dg_nd (τ : Nat → Nat → Int32) (r : Nat) : nd (va_up τ 21 (dgf 18 r (τ 21))) (dgl 18 r) := ⟨by rw [dgl_len]; decide, fun k hk => by rw [va_up_self]; exact dgf_lo 18 r _ k (by rw [dgl_len] at hk; exact hk), dgl_lt 18 r⟩
theorem dg_v {r : Nat} (hr : r < 2 ^ 63) : (48 + (lN r - lN r / 10 * 10)).toInt32 = nI (48 + r % 10) := by
  rw [show (10 : Int64) = lN 10 from rfl, pk_lRem hr (by decide) (by decide), show (48 : Int64) = lN 48 from rfl, lN_add, lN_i]
set_option maxRecDepth 100000 in
set_option maxHeartbeats 1000000 in
theorem nm_l (X : ev_X) (c0 : Nat) (v : Int64) (sc : Int32) (σ : Nat → Int32) (Q : Option Value → (Nat → Int32) → (Nat → Nat → Int32) → Prop) : ∀ (m r : Nat) (τ : Nat → Nat → Int32) (hr : r < 2 ^ 63) (hm : m ≤ 18) (hk : Rx X c0 m_Mod_number 85 [.ref (c0 + 16), .long v, ev_dead, .int sc, .long (lN (r / 10 ^ m)), ev_dead, .int (-1)] [] σ (va_up τ 21 (dgf m r (τ 21))) Q), Rx X c0 m_Mod_number 48 [.ref (c0 + 16), .long v, ev_dead, .int sc, .long (lN r), ev_dead, .int (nI m - 1)] [] σ τ Q := by
  intro m
  induction m with
  | zero =>
    intro r τ hr hm hk
    rw [Nat.pow_zero, Nat.div_one, show va_up τ 21 (dgf 0 r (τ 21)) = τ from va_et rfl] at hk
    show Rx X c0 m_Mod_number 48 [.ref (c0 + 16), .long v, ev_dead, .int sc, .long (lN r), ev_dead, .int (-1)] [] σ τ Q
    refine Rx.go (fun _ => rfl) ?_
    refine Rx.go (fun _ => rfl) ?_
    show Rx X c0 m_Mod_number 85 [.ref (c0 + 16), .long v, ev_dead, .int sc, .long (lN r), ev_dead, .int (-1)] [] σ τ _
    show Rx X c0 m_Mod_number 85 [.ref (c0 + 16), .long v, ev_dead, .int sc, .long (lN r), ev_dead, .int (-1)] [] σ τ _
    exact hk
  | succ m ih =>
    intro r τ hr hm hk
    rw [nI_pred]
    refine Rx.go (fun _ => rfl) ?_
    refine Rx.go (fun _ => rfl) ?_
    refine Rx.ite (fun c1 => ?_) (fun c1 => ?_)
    · replace c1 : (nI m) < 0 := of_decide_eq_true c1
      exact absurd c1 (nI_pos (by omega))
    · replace c1 : ¬ (nI m) < 0 := of_decide_eq_false c1
      show Rx X c0 m_Mod_number 53 [.ref (c0 + 16), .long v, ev_dead, .int sc, .long (lN r), ev_dead, .int (nI m)] [] σ τ _
      refine Rx.go (fun _ => rfl) ?_
      refine Rx.get rfl rfl ?_
      refine Rx.go (fun _ => rfl) ?_
      refine Rx.go (fun _ => rfl) ?_
      refine Rx.go (fun _ => rfl) ?_
      refine Rx.go (fun _ => rfl) ?_
      refine Rx.go (fun _ => rfl) ?_
      refine Rx.go (fun _ => rfl) ?_
      refine Rx.go (fun _ => rfl) ?_
      refine Rx.top (y := nI (48 + r % 10)) (dg_v hr) ?_
      refine Rx.ast 21 rfl rfl (nI_ix (show m < 40 by omega) (by decide)) ?_
      refine Rx.go (fun _ => rfl) ?_
      refine Rx.go (fun _ => rfl) ?_
      refine Rx.go (fun _ => rfl) ?_
      refine Rx.topL (y := lN (r / 10)) (pk_lDiv (b := 10) hr (by decide) (by decide)) ?_
      refine Rx.go (fun _ => rfl) ?_
      show Rx X c0 m_Mod_number 79 [.ref (c0 + 16), .long v, ev_dead, .int sc, .long (lN (r / 10)), ev_dead, .int (nI m)] [] σ (va_up τ 21 (upd (τ 21) (nI m).toNatClampNeg (nI (48 + r % 10)))) _
      refine Rx.go (fun _ => rfl) ?_
      show Rx X c0 m_Mod_number 82 [.ref (c0 + 16), .long v, ev_dead, .int sc, .long (lN (r / 10)), ev_dead, .int ((nI m) + (-1))] [] σ (va_up τ 21 (upd (τ 21) (nI m).toNatClampNeg (nI (48 + r % 10)))) _
      refine Rx.go (fun _ => rfl) ?_
      show Rx X c0 m_Mod_number 48 [.ref (c0 + 16), .long v, ev_dead, .int sc, .long (lN (r / 10)), ev_dead, .int ((nI m) + (-1))] [] σ (va_up τ 21 (upd (τ 21) (nI m).toNatClampNeg (nI (48 + r % 10)))) _
      rw [show nI m + (-1) = nI m - 1 from (Int32.sub_eq_add_neg _ _).symm]
      refine ih (r / 10) _ (by omega) (by omega) ?_
      rw [va_uu, va_up_self, nI_clamp (by omega), Nat.div_div_eq_div_mul, show 10 * 10 ^ m = 10 ^ (m + 1) from (Nat.pow_succ').symm]
      exact hk
set_option maxRecDepth 100000 in
set_option maxHeartbeats 1000000 in
theorem nm_tw (X : ev_X) (c0 : Nat) (v rs : Int64) {σ : Nat → Int32} {τ : Nat → Nat → Int32} {ds : List Nat} (hn : nd τ ds) (h18 : ds.length = 18) (h22 : σ 22 = nI 18) (hR : rt σ τ []) (h8 : σ 8 = 0) : Rx X c0 m_Mod_number 85 [.ref (c0 + 16), .long v, ev_dead, .int (-1), .long rs, ev_dead, .int (-1)] [] σ τ (fun r _ _ => r = some (.int 1)) := by
  refine Rx.go (fun _ => rfl) ?_
  refine Rx.go (fun _ => rfl) ?_
  refine Rx.go (fun _ => rfl) ?_
  show Rx X c0 m_Mod_number 90 [.ref (c0 + 16), .long v, ev_dead, .int (-1), .long rs, ev_dead, .int (-1)] [.ref (c0 + 16)] σ τ _
  refine Rx.go (fun _ => rfl) ?_
  refine Rx.go (fun _ => rfl) ?_
  refine Rx.put rfl (by decide) rfl rfl ?_
  refine Rx.go (fun _ => rfl) ?_
  refine Rx.go (fun _ => rfl) ?_
  refine Rx.put rfl (by decide) rfl rfl ?_
  refine Rx.go (fun _ => rfl) ?_
  refine Rx.go (fun _ => rfl) ?_
  refine Rx.go (fun _ => rfl) ?_
  refine Rx.go (fun _ => rfl) ?_
  refine Rx.go (fun _ => rfl) ?_
  refine Rx.ite (fun c1 => ?_) (fun c1 => ?_)
  · replace c1 : 0 ≤ (lg_cmp v 0) := of_decide_eq_true c1
    show Rx X c0 m_Mod_number 117 [.ref (c0 + 16), .long v, ev_dead, .int (-1), .long rs, ev_dead, .int (-1)] [.ref (c0 + 16)] (upd (upd σ 23 (-1)) 18 0) τ _
    refine Rx.go (fun _ => rfl) ?_
    refine Rx.go (fun _ => rfl) ?_
    refine Rx.callP rfl rfl rfl rfl (rx_wn_w X c0 hn false 0 (by rw [h18]; exact h22) rfl) ?_
    intro σ1 τ1 hp1
    obtain ⟨L, ht, hq⟩ := hp1
    obtain ⟨htl1, htl2, -⟩ := ht
    rcases hq with ⟨e9, g, hg, hWS⟩ | ⟨e9, -, -⟩
    rotate_left
    · exfalso; omega
    show Rx X c0 m_Mod_number 122 [.ref (c0 + 16), .long v, ev_dead, .int (-1), .long rs, ev_dead, .int (-1)] [] σ1 τ1 _
    refine Rx.go (fun _ => rfl) ?_
    have hw := hWS.1
    have hv := hWS.2.1
    refine Rx.call rfl rfl rfl rfl (rx_makeDraft X c0 σ1 τ1 (ts := []) (rt_same hR (hw 7 (by decide)) (hv 3 (by decide)) (hv 4 (by decide)) (hv 5 (by decide)) (hv 6 (by decide))) hWS.2.2 (dk := 3) (hw 11 (by decide)) (by decide) (q := 0) (hw 12 (by decide)) (by decide) (u := 0) ((hw 8 (by decide)).trans h8) (by decide) (db := 0) (hw 13 (by decide)) (by decide) (by have := hWS.2.2.2.1; show 0 + _ ≤ 132000; omega)) ?_
    rintro z σ2 τ2 (⟨j, hj0, hj, -⟩ | ⟨-, hh, -⟩ | ⟨-, -, -, rfl, -⟩)
    · exact absurd hj0 (by have := hj; unfold fdP at this; simp at this; omega)
    · exfalso; rcases hh with hh | hh
      · exact absurd hh (by decide)
      · omega
    · exact Rx.ret rfl (ev_reti rfl) rfl
  · replace c1 : ¬ 0 ≤ (lg_cmp v 0) := of_decide_eq_false c1
    show Rx X c0 m_Mod_number 113 [.ref (c0 + 16), .long v, ev_dead, .int (-1), .long rs, ev_dead, .int (-1)] [.ref (c0 + 16)] (upd (upd σ 23 (-1)) 18 0) τ _
    refine Rx.go (fun _ => rfl) ?_
    refine Rx.go (fun _ => rfl) ?_
    refine Rx.go (fun _ => rfl) ?_
    refine Rx.callP rfl rfl rfl rfl (rx_wn_w X c0 hn true 0 (by rw [h18]; exact h22) rfl) ?_
    intro σ1 τ1 hp1
    obtain ⟨L, ht, hq⟩ := hp1
    obtain ⟨htl1, htl2, -⟩ := ht
    rcases hq with ⟨e9, g, hg, hWS⟩ | ⟨e9, -, -⟩
    rotate_left
    · exfalso; omega
    show Rx X c0 m_Mod_number 122 [.ref (c0 + 16), .long v, ev_dead, .int (-1), .long rs, ev_dead, .int (-1)] [] σ1 τ1 _
    refine Rx.go (fun _ => rfl) ?_
    have hw := hWS.1
    have hv := hWS.2.1
    refine Rx.call rfl rfl rfl rfl (rx_makeDraft X c0 σ1 τ1 (ts := []) (rt_same hR (hw 7 (by decide)) (hv 3 (by decide)) (hv 4 (by decide)) (hv 5 (by decide)) (hv 6 (by decide))) hWS.2.2 (dk := 3) (hw 11 (by decide)) (by decide) (q := 0) (hw 12 (by decide)) (by decide) (u := 0) ((hw 8 (by decide)).trans h8) (by decide) (db := 0) (hw 13 (by decide)) (by decide) (by have := hWS.2.2.2.1; show 0 + _ ≤ 132000; omega)) ?_
    rintro z σ2 τ2 (⟨j, hj0, hj, -⟩ | ⟨-, hh, -⟩ | ⟨-, -, -, rfl, -⟩)
    · exact absurd hj0 (by have := hj; unfold fdP at this; simp at this; omega)
    · exfalso; rcases hh with hh | hh
      · exact absurd hh (by decide)
      · omega
    · exact Rx.ret rfl (ev_reti rfl) rfl
theorem nm_l' {rs : Int64} {r : Nat} (e : rs = lN r) (X : ev_X) (c0 : Nat) (v : Int64) (sc : Int32) (σ : Nat → Int32) (Q : Option Value → (Nat → Int32) → (Nat → Nat → Int32) → Prop) (m : Nat) (τ : Nat → Nat → Int32) (hr : r < 2 ^ 63) (hm : m ≤ 18) (hk : Rx X c0 m_Mod_number 85 [.ref (c0 + 16), .long v, ev_dead, .int sc, .long (lN (r / 10 ^ m)), ev_dead, .int (-1)] [] σ (va_up τ 21 (dgf m r (τ 21))) Q) : Rx X c0 m_Mod_number 48 [.ref (c0 + 16), .long v, ev_dead, .int sc, .long rs, ev_dead, .int (nI m - 1)] [] σ τ Q := by
  rw [e]; exact nm_l X c0 v sc σ Q m r τ hr hm hk
set_option maxRecDepth 100000 in
set_option maxHeartbeats 1000000 in
theorem rx_number0_w (X : ev_X) (c0 : Nat) (v : Int64) {σ : Nat → Int32} {τ : Nat → Nat → Int32} (hR : rt σ τ []) (h8 : σ 8 = 0) : Rx X c0 m_Mod_number 0 [.ref (c0 + 16), .long v, ev_dead, .int (-1), ev_dead, ev_dead, ev_dead] [] σ τ (fun r _ _ => r = some (.int (if few v = true then 1 else -1))) := by
  refine Rx.go (fun _ => rfl) ?_
  refine Rx.go (fun _ => rfl) ?_
  refine Rx.go (fun _ => rfl) ?_
  refine Rx.go (fun _ => rfl) ?_
  refine Rx.ite (fun c1 => ?_) (fun c1 => ?_)
  · replace c1 : 0 ≤ (lg_cmp v 0) := of_decide_eq_true c1
    show Rx X c0 m_Mod_number 11 [.ref (c0 + 16), .long v, ev_dead, .int (-1), ev_dead, ev_dead, ev_dead] [] σ τ _
    refine Rx.go (fun _ => rfl) ?_
    refine Rx.go (fun _ => rfl) ?_
    show Rx X c0 m_Mod_number 14 [.ref (c0 + 16), .long v, ev_dead, .int (-1), .long v, ev_dead, ev_dead] [] σ τ _
    refine Rx.go (fun _ => rfl) ?_
    refine Rx.go (fun _ => rfl) ?_
    refine Rx.go (fun _ => rfl) ?_
    refine Rx.go (fun _ => rfl) ?_
    refine Rx.ite (fun c2 => ?_) (fun c2 => ?_)
    · replace c2 : 0 < (lg_cmp v 999999999999999999) := of_decide_eq_true c2
      show Rx X c0 m_Mod_number 36 [.ref (c0 + 16), .long v, ev_dead, .int (-1), .long v, ev_dead, ev_dead] [] σ τ _
      refine Rx.go (fun _ => rfl) ?_
      show Rx X c0 m_Mod_number 37 [.ref (c0 + 16), .long v, ev_dead, .int (-1), .long v, ev_dead, ev_dead] [.int (-1)] σ τ _
      exact Rx.ret rfl (ev_reti rfl) (by rw [num_posB c1 c2]; rfl)
    · replace c2 : ¬ 0 < (lg_cmp v 999999999999999999) := of_decide_eq_false c2
      show Rx X c0 m_Mod_number 23 [.ref (c0 + 16), .long v, ev_dead, .int (-1), .long v, ev_dead, ev_dead] [] σ τ _
      refine Rx.go (fun _ => rfl) ?_
      refine Rx.go (fun _ => rfl) ?_
      refine Rx.go (fun _ => rfl) ?_
      refine Rx.go (fun _ => rfl) ?_
      refine Rx.ite (fun c3 => ?_) (fun c3 => ?_)
      · replace c3 : 0 ≤ (lg_cmp v 0) := of_decide_eq_true c3
        show Rx X c0 m_Mod_number 38 [.ref (c0 + 16), .long v, ev_dead, .int (-1), .long v, ev_dead, ev_dead] [] σ τ _
        refine Rx.go (fun _ => rfl) ?_
        refine Rx.go (fun _ => rfl) ?_
        refine Rx.put rfl (by decide) rfl rfl ?_
        refine Rx.go (fun _ => rfl) ?_
        refine Rx.go (fun _ => rfl) ?_
        show Rx X c0 m_Mod_number 48 [.ref (c0 + 16), .long v, ev_dead, .int (-1), .long v, ev_dead, .int 17] [] (upd σ 22 18) τ _
        show Rx X c0 m_Mod_number 48 [.ref (c0 + 16), .long v, ev_dead, .int (-1), .long v, ev_dead, .int 17] [] (upd σ 22 18) τ _
        obtain ⟨hf, r, hr, e⟩ := num_pos c1 c2
        rw [if_pos hf]
        refine nm_l' e X c0 v (-1) _ _ 18 τ (by omega) (by decide) ?_
        exact nm_tw X c0 v _ (dg_nd τ r) (dgl_len 18 r) rfl (rt_same hR rfl rfl rfl rfl rfl) h8
      · replace c3 : ¬ 0 ≤ (lg_cmp v 0) := of_decide_eq_false c3
        exact absurd c1 c3
  · replace c1 : ¬ 0 ≤ (lg_cmp v 0) := of_decide_eq_false c1
    show Rx X c0 m_Mod_number 6 [.ref (c0 + 16), .long v, ev_dead, .int (-1), ev_dead, ev_dead, ev_dead] [] σ τ _
    refine Rx.go (fun _ => rfl) ?_
    refine Rx.go (fun _ => rfl) ?_
    refine Rx.go (fun _ => rfl) ?_
    refine Rx.go (fun _ => rfl) ?_
    show Rx X c0 m_Mod_number 14 [.ref (c0 + 16), .long v, ev_dead, .int (-1), .long (-v), ev_dead, ev_dead] [] σ τ _
    refine Rx.go (fun _ => rfl) ?_
    refine Rx.go (fun _ => rfl) ?_
    refine Rx.go (fun _ => rfl) ?_
    refine Rx.go (fun _ => rfl) ?_
    refine Rx.ite (fun c4 => ?_) (fun c4 => ?_)
    · replace c4 : 0 < (lg_cmp (-v) 999999999999999999) := of_decide_eq_true c4
      show Rx X c0 m_Mod_number 36 [.ref (c0 + 16), .long v, ev_dead, .int (-1), .long (-v), ev_dead, ev_dead] [] σ τ _
      refine Rx.go (fun _ => rfl) ?_
      show Rx X c0 m_Mod_number 37 [.ref (c0 + 16), .long v, ev_dead, .int (-1), .long (-v), ev_dead, ev_dead] [.int (-1)] σ τ _
      exact Rx.ret rfl (ev_reti rfl) (by rw [num_negB c1 c4]; rfl)
    · replace c4 : ¬ 0 < (lg_cmp (-v) 999999999999999999) := of_decide_eq_false c4
      show Rx X c0 m_Mod_number 23 [.ref (c0 + 16), .long v, ev_dead, .int (-1), .long (-v), ev_dead, ev_dead] [] σ τ _
      refine Rx.go (fun _ => rfl) ?_
      refine Rx.go (fun _ => rfl) ?_
      refine Rx.go (fun _ => rfl) ?_
      refine Rx.go (fun _ => rfl) ?_
      refine Rx.ite (fun c5 => ?_) (fun c5 => ?_)
      · replace c5 : 0 ≤ (lg_cmp v 0) := of_decide_eq_true c5
        exact absurd c5 c1
      · replace c5 : ¬ 0 ≤ (lg_cmp v 0) := of_decide_eq_false c5
        show Rx X c0 m_Mod_number 29 [.ref (c0 + 16), .long v, ev_dead, .int (-1), .long (-v), ev_dead, ev_dead] [] σ τ _
        refine Rx.go (fun _ => rfl) ?_
        refine Rx.go (fun _ => rfl) ?_
        refine Rx.go (fun _ => rfl) ?_
        refine Rx.go (fun _ => rfl) ?_
        refine Rx.ite (fun c6 => ?_) (fun c6 => ?_)
        · replace c6 : 0 ≤ (lg_cmp (-v) 0) := of_decide_eq_true c6
          show Rx X c0 m_Mod_number 38 [.ref (c0 + 16), .long v, ev_dead, .int (-1), .long (-v), ev_dead, ev_dead] [] σ τ _
          refine Rx.go (fun _ => rfl) ?_
          refine Rx.go (fun _ => rfl) ?_
          refine Rx.put rfl (by decide) rfl rfl ?_
          refine Rx.go (fun _ => rfl) ?_
          refine Rx.go (fun _ => rfl) ?_
          show Rx X c0 m_Mod_number 48 [.ref (c0 + 16), .long v, ev_dead, .int (-1), .long (-v), ev_dead, .int 17] [] (upd σ 22 18) τ _
          show Rx X c0 m_Mod_number 48 [.ref (c0 + 16), .long v, ev_dead, .int (-1), .long (-v), ev_dead, .int 17] [] (upd σ 22 18) τ _
          obtain ⟨hf, r, hr, e⟩ := num_neg c1 c4 c6
          rw [if_pos hf]
          refine nm_l' e X c0 v (-1) _ _ 18 τ (by omega) (by decide) ?_
          exact nm_tw X c0 v _ (dg_nd τ r) (dgl_len 18 r) rfl (rt_same hR rfl rfl rfl rfl rfl) h8
        · replace c6 : ¬ 0 ≤ (lg_cmp (-v) 0) := of_decide_eq_false c6
          show Rx X c0 m_Mod_number 36 [.ref (c0 + 16), .long v, ev_dead, .int (-1), .long (-v), ev_dead, ev_dead] [] σ τ _
          refine Rx.go (fun _ => rfl) ?_
          show Rx X c0 m_Mod_number 37 [.ref (c0 + 16), .long v, ev_dead, .int (-1), .long (-v), ev_dead, ev_dead] [.int (-1)] σ τ _
          exact Rx.ret rfl (ev_reti rfl) (by rw [num_negC c1 c6]; rfl)
set_option maxRecDepth 100000 in
set_option maxHeartbeats 1000000 in
theorem nm_td (X : ev_X) (c0 : Nat) (v rs : Int64) {p : Nat} (hp9 : p ≤ 9) {σ : Nat → Int32} {τ : Nat → Nat → Int32} {ds : List Nat} (hn : nd τ ds) (h18 : ds.length = 18) (h22 : σ 22 = nI 18) (hR : rt σ τ []) (h8 : σ 8 = 0) : Rx X c0 m_Mod_number 85 [.ref (c0 + 16), .long v, ev_dead, .int (nI p), .long rs, ev_dead, .int (-1)] [] σ τ (fun r _ _ => r = some (.int 1)) := by
  refine Rx.go (fun _ => rfl) ?_
  refine Rx.go (fun _ => rfl) ?_
  refine Rx.go (fun _ => rfl) ?_
  refine Rx.ite (fun c1 => ?_) (fun c1 => ?_)
  · replace c1 : 0 ≤ (nI p) := of_decide_eq_true c1
    show Rx X c0 m_Mod_number 94 [.ref (c0 + 16), .long v, ev_dead, .int (nI p), .long rs, ev_dead, .int (-1)] [.ref (c0 + 16)] σ τ _
    refine Rx.go (fun _ => rfl) ?_
    refine Rx.go (fun _ => rfl) ?_
    refine Rx.go (fun _ => rfl) ?_
    refine Rx.top (y := nI (18 - p)) (pk_sub (a := 18) (by omega)) ?_
    refine Rx.put rfl (by decide) rfl rfl ?_
    refine Rx.go (fun _ => rfl) ?_
    refine Rx.go (fun _ => rfl) ?_
    refine Rx.put rfl (by decide) rfl rfl ?_
    refine Rx.go (fun _ => rfl) ?_
    refine Rx.go (fun _ => rfl) ?_
    refine Rx.go (fun _ => rfl) ?_
    refine Rx.go (fun _ => rfl) ?_
    refine Rx.go (fun _ => rfl) ?_
    refine Rx.ite (fun c2 => ?_) (fun c2 => ?_)
    · replace c2 : 0 ≤ (lg_cmp v 0) := of_decide_eq_true c2
      show Rx X c0 m_Mod_number 117 [.ref (c0 + 16), .long v, ev_dead, .int (nI p), .long rs, ev_dead, .int (-1)] [.ref (c0 + 16)] (upd (upd σ 23 (nI (18 - p))) 18 0) τ _
      refine Rx.go (fun _ => rfl) ?_
      refine Rx.go (fun _ => rfl) ?_
      refine Rx.callP rfl rfl rfl rfl (rx_wn_d X c0 hn false 0 (by rw [h18]; exact h22) (W := 18 - p) (by omega) rfl) ?_
      intro σ1 τ1 hp1
      obtain ⟨L, ht, hq⟩ := hp1
      obtain ⟨htl1, htl2, -⟩ := ht
      rcases hq with ⟨e9, g, hg, hWS⟩ | ⟨e9, -, -⟩
      rotate_left
      · exfalso; omega
      show Rx X c0 m_Mod_number 122 [.ref (c0 + 16), .long v, ev_dead, .int (nI p), .long rs, ev_dead, .int (-1)] [] σ1 τ1 _
      refine Rx.go (fun _ => rfl) ?_
      have hw := hWS.1
      have hv := hWS.2.1
      refine Rx.call rfl rfl rfl rfl (rx_makeDraft X c0 σ1 τ1 (ts := []) (rt_same hR (hw 7 (by decide)) (hv 3 (by decide)) (hv 4 (by decide)) (hv 5 (by decide)) (hv 6 (by decide))) hWS.2.2 (dk := 4) (hw 11 (by decide)) (by decide) (q := 0) (hw 12 (by decide)) (by decide) (u := 0) ((hw 8 (by decide)).trans h8) (by decide) (db := 0) (hw 13 (by decide)) (by decide) (by have := hWS.2.2.2.1; show 0 + _ ≤ 132000; omega)) ?_
      rintro z σ2 τ2 (⟨j, hj0, hj, -⟩ | ⟨-, hh, -⟩ | ⟨-, -, -, rfl, -⟩)
      · exact absurd hj0 (by have := hj; unfold fdP at this; simp at this; omega)
      · exfalso; rcases hh with hh | hh
        · exact absurd hh (by decide)
        · omega
      · exact Rx.ret rfl (ev_reti rfl) rfl
    · replace c2 : ¬ 0 ≤ (lg_cmp v 0) := of_decide_eq_false c2
      show Rx X c0 m_Mod_number 113 [.ref (c0 + 16), .long v, ev_dead, .int (nI p), .long rs, ev_dead, .int (-1)] [.ref (c0 + 16)] (upd (upd σ 23 (nI (18 - p))) 18 0) τ _
      refine Rx.go (fun _ => rfl) ?_
      refine Rx.go (fun _ => rfl) ?_
      refine Rx.go (fun _ => rfl) ?_
      refine Rx.callP rfl rfl rfl rfl (rx_wn_d X c0 hn true 0 (by rw [h18]; exact h22) (W := 18 - p) (by omega) rfl) ?_
      intro σ1 τ1 hp1
      obtain ⟨L, ht, hq⟩ := hp1
      obtain ⟨htl1, htl2, -⟩ := ht
      rcases hq with ⟨e9, g, hg, hWS⟩ | ⟨e9, -, -⟩
      rotate_left
      · exfalso; omega
      show Rx X c0 m_Mod_number 122 [.ref (c0 + 16), .long v, ev_dead, .int (nI p), .long rs, ev_dead, .int (-1)] [] σ1 τ1 _
      refine Rx.go (fun _ => rfl) ?_
      have hw := hWS.1
      have hv := hWS.2.1
      refine Rx.call rfl rfl rfl rfl (rx_makeDraft X c0 σ1 τ1 (ts := []) (rt_same hR (hw 7 (by decide)) (hv 3 (by decide)) (hv 4 (by decide)) (hv 5 (by decide)) (hv 6 (by decide))) hWS.2.2 (dk := 4) (hw 11 (by decide)) (by decide) (q := 0) (hw 12 (by decide)) (by decide) (u := 0) ((hw 8 (by decide)).trans h8) (by decide) (db := 0) (hw 13 (by decide)) (by decide) (by have := hWS.2.2.2.1; show 0 + _ ≤ 132000; omega)) ?_
      rintro z σ2 τ2 (⟨j, hj0, hj, -⟩ | ⟨-, hh, -⟩ | ⟨-, -, -, rfl, -⟩)
      · exact absurd hj0 (by have := hj; unfold fdP at this; simp at this; omega)
      · exfalso; rcases hh with hh | hh
        · exact absurd hh (by decide)
        · omega
      · exact Rx.ret rfl (ev_reti rfl) rfl
  · replace c1 : ¬ 0 ≤ (nI p) := of_decide_eq_false c1
    exact absurd (nI_pos' (by omega)) c1
set_option maxRecDepth 100000 in
set_option maxHeartbeats 1000000 in
theorem rx_number0_d (X : ev_X) (c0 : Nat) (v : Int64) {p : Nat} (hp9 : p ≤ 9) {σ : Nat → Int32} {τ : Nat → Nat → Int32} (hR : rt σ τ []) (h8 : σ 8 = 0) : Rx X c0 m_Mod_number 0 [.ref (c0 + 16), .long v, ev_dead, .int (nI p), ev_dead, ev_dead, ev_dead] [] σ τ (fun r _ _ => r = some (.int (if few v = true then 1 else -1))) := by
  refine Rx.go (fun _ => rfl) ?_
  refine Rx.go (fun _ => rfl) ?_
  refine Rx.go (fun _ => rfl) ?_
  refine Rx.go (fun _ => rfl) ?_
  refine Rx.ite (fun c1 => ?_) (fun c1 => ?_)
  · replace c1 : 0 ≤ (lg_cmp v 0) := of_decide_eq_true c1
    show Rx X c0 m_Mod_number 11 [.ref (c0 + 16), .long v, ev_dead, .int (nI p), ev_dead, ev_dead, ev_dead] [] σ τ _
    refine Rx.go (fun _ => rfl) ?_
    refine Rx.go (fun _ => rfl) ?_
    show Rx X c0 m_Mod_number 14 [.ref (c0 + 16), .long v, ev_dead, .int (nI p), .long v, ev_dead, ev_dead] [] σ τ _
    refine Rx.go (fun _ => rfl) ?_
    refine Rx.go (fun _ => rfl) ?_
    refine Rx.go (fun _ => rfl) ?_
    refine Rx.go (fun _ => rfl) ?_
    refine Rx.ite (fun c2 => ?_) (fun c2 => ?_)
    · replace c2 : 0 < (lg_cmp v 999999999999999999) := of_decide_eq_true c2
      show Rx X c0 m_Mod_number 36 [.ref (c0 + 16), .long v, ev_dead, .int (nI p), .long v, ev_dead, ev_dead] [] σ τ _
      refine Rx.go (fun _ => rfl) ?_
      show Rx X c0 m_Mod_number 37 [.ref (c0 + 16), .long v, ev_dead, .int (nI p), .long v, ev_dead, ev_dead] [.int (-1)] σ τ _
      exact Rx.ret rfl (ev_reti rfl) (by rw [num_posB c1 c2]; rfl)
    · replace c2 : ¬ 0 < (lg_cmp v 999999999999999999) := of_decide_eq_false c2
      show Rx X c0 m_Mod_number 23 [.ref (c0 + 16), .long v, ev_dead, .int (nI p), .long v, ev_dead, ev_dead] [] σ τ _
      refine Rx.go (fun _ => rfl) ?_
      refine Rx.go (fun _ => rfl) ?_
      refine Rx.go (fun _ => rfl) ?_
      refine Rx.go (fun _ => rfl) ?_
      refine Rx.ite (fun c3 => ?_) (fun c3 => ?_)
      · replace c3 : 0 ≤ (lg_cmp v 0) := of_decide_eq_true c3
        show Rx X c0 m_Mod_number 38 [.ref (c0 + 16), .long v, ev_dead, .int (nI p), .long v, ev_dead, ev_dead] [] σ τ _
        refine Rx.go (fun _ => rfl) ?_
        refine Rx.go (fun _ => rfl) ?_
        refine Rx.put rfl (by decide) rfl rfl ?_
        refine Rx.go (fun _ => rfl) ?_
        refine Rx.go (fun _ => rfl) ?_
        show Rx X c0 m_Mod_number 48 [.ref (c0 + 16), .long v, ev_dead, .int (nI p), .long v, ev_dead, .int 17] [] (upd σ 22 18) τ _
        show Rx X c0 m_Mod_number 48 [.ref (c0 + 16), .long v, ev_dead, .int (nI p), .long v, ev_dead, .int 17] [] (upd σ 22 18) τ _
        obtain ⟨hf, r, hr, e⟩ := num_pos c1 c2
        rw [if_pos hf]
        refine nm_l' e X c0 v (nI p) _ _ 18 τ (by omega) (by decide) ?_
        exact nm_td X c0 v _ hp9 (dg_nd τ r) (dgl_len 18 r) rfl (rt_same hR rfl rfl rfl rfl rfl) h8
      · replace c3 : ¬ 0 ≤ (lg_cmp v 0) := of_decide_eq_false c3
        exact absurd c1 c3
  · replace c1 : ¬ 0 ≤ (lg_cmp v 0) := of_decide_eq_false c1
    show Rx X c0 m_Mod_number 6 [.ref (c0 + 16), .long v, ev_dead, .int (nI p), ev_dead, ev_dead, ev_dead] [] σ τ _
    refine Rx.go (fun _ => rfl) ?_
    refine Rx.go (fun _ => rfl) ?_
    refine Rx.go (fun _ => rfl) ?_
    refine Rx.go (fun _ => rfl) ?_
    show Rx X c0 m_Mod_number 14 [.ref (c0 + 16), .long v, ev_dead, .int (nI p), .long (-v), ev_dead, ev_dead] [] σ τ _
    refine Rx.go (fun _ => rfl) ?_
    refine Rx.go (fun _ => rfl) ?_
    refine Rx.go (fun _ => rfl) ?_
    refine Rx.go (fun _ => rfl) ?_
    refine Rx.ite (fun c4 => ?_) (fun c4 => ?_)
    · replace c4 : 0 < (lg_cmp (-v) 999999999999999999) := of_decide_eq_true c4
      show Rx X c0 m_Mod_number 36 [.ref (c0 + 16), .long v, ev_dead, .int (nI p), .long (-v), ev_dead, ev_dead] [] σ τ _
      refine Rx.go (fun _ => rfl) ?_
      show Rx X c0 m_Mod_number 37 [.ref (c0 + 16), .long v, ev_dead, .int (nI p), .long (-v), ev_dead, ev_dead] [.int (-1)] σ τ _
      exact Rx.ret rfl (ev_reti rfl) (by rw [num_negB c1 c4]; rfl)
    · replace c4 : ¬ 0 < (lg_cmp (-v) 999999999999999999) := of_decide_eq_false c4
      show Rx X c0 m_Mod_number 23 [.ref (c0 + 16), .long v, ev_dead, .int (nI p), .long (-v), ev_dead, ev_dead] [] σ τ _
      refine Rx.go (fun _ => rfl) ?_
      refine Rx.go (fun _ => rfl) ?_
      refine Rx.go (fun _ => rfl) ?_
      refine Rx.go (fun _ => rfl) ?_
      refine Rx.ite (fun c5 => ?_) (fun c5 => ?_)
      · replace c5 : 0 ≤ (lg_cmp v 0) := of_decide_eq_true c5
        exact absurd c5 c1
      · replace c5 : ¬ 0 ≤ (lg_cmp v 0) := of_decide_eq_false c5
        show Rx X c0 m_Mod_number 29 [.ref (c0 + 16), .long v, ev_dead, .int (nI p), .long (-v), ev_dead, ev_dead] [] σ τ _
        refine Rx.go (fun _ => rfl) ?_
        refine Rx.go (fun _ => rfl) ?_
        refine Rx.go (fun _ => rfl) ?_
        refine Rx.go (fun _ => rfl) ?_
        refine Rx.ite (fun c6 => ?_) (fun c6 => ?_)
        · replace c6 : 0 ≤ (lg_cmp (-v) 0) := of_decide_eq_true c6
          show Rx X c0 m_Mod_number 38 [.ref (c0 + 16), .long v, ev_dead, .int (nI p), .long (-v), ev_dead, ev_dead] [] σ τ _
          refine Rx.go (fun _ => rfl) ?_
          refine Rx.go (fun _ => rfl) ?_
          refine Rx.put rfl (by decide) rfl rfl ?_
          refine Rx.go (fun _ => rfl) ?_
          refine Rx.go (fun _ => rfl) ?_
          show Rx X c0 m_Mod_number 48 [.ref (c0 + 16), .long v, ev_dead, .int (nI p), .long (-v), ev_dead, .int 17] [] (upd σ 22 18) τ _
          show Rx X c0 m_Mod_number 48 [.ref (c0 + 16), .long v, ev_dead, .int (nI p), .long (-v), ev_dead, .int 17] [] (upd σ 22 18) τ _
          obtain ⟨hf, r, hr, e⟩ := num_neg c1 c4 c6
          rw [if_pos hf]
          refine nm_l' e X c0 v (nI p) _ _ 18 τ (by omega) (by decide) ?_
          exact nm_td X c0 v _ hp9 (dg_nd τ r) (dgl_len 18 r) rfl (rt_same hR rfl rfl rfl rfl rfl) h8
        · replace c6 : ¬ 0 ≤ (lg_cmp (-v) 0) := of_decide_eq_false c6
          show Rx X c0 m_Mod_number 36 [.ref (c0 + 16), .long v, ev_dead, .int (nI p), .long (-v), ev_dead, ev_dead] [] σ τ _
          refine Rx.go (fun _ => rfl) ?_
          show Rx X c0 m_Mod_number 37 [.ref (c0 + 16), .long v, ev_dead, .int (nI p), .long (-v), ev_dead, ev_dead] [.int (-1)] σ τ _
          exact Rx.ret rfl (ev_reti rfl) (by rw [num_negC c1 c6]; rfl)
set_option maxRecDepth 100000 in
set_option maxHeartbeats 1000000 in
theorem rx_whole0 (X : ev_X) (c0 : Nat) (v : Int64) {σ : Nat → Int32} {τ : Nat → Nat → Int32} (hR : rt σ τ []) (h8 : σ 8 = 0) : Rx X c0 m_Mod_whole 0 [.ref (c0 + 16), .long v, ev_dead] [] σ τ (fun r _ _ => r = some (.int (if few v = true then 1 else -1))) := by
  refine Rx.go (fun _ => rfl) ?_
  refine Rx.go (fun _ => rfl) ?_
  refine Rx.go (fun _ => rfl) ?_
  refine Rx.call rfl rfl rfl rfl (rx_number0_w X c0 v hR h8) ?_
  rintro z σ2 τ2 rfl
  exact Rx.ret rfl (ev_reti rfl) rfl
set_option maxRecDepth 100000 in
set_option maxHeartbeats 1000000 in
theorem rx_decimal0 (X : ev_X) (c0 : Nat) (v : Int64) (u : Int32) {σ : Nat → Int32} {τ : Nat → Nat → Int32} (hR : rt σ τ []) (h8 : σ 8 = 0) : Rx X c0 m_Mod_decimal 0 [.ref (c0 + 16), .long v, ev_dead, .int u] [] σ τ (fun r _ _ => r = some (.int (if u < 0 then -1 else if 9 < u then -1 else if few v = true then 1 else -1))) := by
  refine Rx.go (fun _ => rfl) ?_
  refine Rx.go (fun _ => rfl) ?_
  refine Rx.ite (fun c1 => ?_) (fun c1 => ?_)
  · replace c1 : u < 0 := of_decide_eq_true c1
    show Rx X c0 m_Mod_decimal 10 [.ref (c0 + 16), .long v, ev_dead, .int u] [] σ τ _
    refine Rx.go (fun _ => rfl) ?_
    refine Rx.go (fun _ => rfl) ?_
    show Rx X c0 m_Mod_decimal 20 [.ref (c0 + 16), .long v, ev_dead, .int u] [.int (-1)] σ τ _
    exact Rx.ret rfl (ev_reti rfl) (by rw [if_pos c1] <;> rfl)
  · replace c1 : ¬ u < 0 := of_decide_eq_false c1
    show Rx X c0 m_Mod_decimal 4 [.ref (c0 + 16), .long v, ev_dead, .int u] [] σ τ _
    refine Rx.go (fun _ => rfl) ?_
    refine Rx.go (fun _ => rfl) ?_
    refine Rx.go (fun _ => rfl) ?_
    refine Rx.ite (fun c2 => ?_) (fun c2 => ?_)
    · replace c2 : u ≤ 9 := of_decide_eq_true c2
      show Rx X c0 m_Mod_decimal 14 [.ref (c0 + 16), .long v, ev_dead, .int u] [] σ τ _
      refine Rx.go (fun _ => rfl) ?_
      refine Rx.go (fun _ => rfl) ?_
      refine Rx.go (fun _ => rfl) ?_
      have c3 : ¬ 9 < u := Int32.not_lt.mpr c2
      obtain ⟨p, hp9, rfl⟩ := nI_of2 (M := 9) (n := 9) rfl c1 c2
      refine Rx.call rfl rfl rfl rfl (rx_number0_d X c0 v hp9 hR h8) ?_
      rintro z σ2 τ2 rfl
      exact Rx.ret rfl (ev_reti rfl) (by rw [if_neg c1, if_neg c3])
    · replace c2 : ¬ u ≤ 9 := of_decide_eq_false c2
      show Rx X c0 m_Mod_decimal 10 [.ref (c0 + 16), .long v, ev_dead, .int u] [] σ τ _
      refine Rx.go (fun _ => rfl) ?_
      refine Rx.go (fun _ => rfl) ?_
      show Rx X c0 m_Mod_decimal 20 [.ref (c0 + 16), .long v, ev_dead, .int u] [.int (-1)] σ τ _
      exact Rx.ret rfl (ev_reti rfl) (by rw [if_neg c1, if_pos (Int32.not_le.mp c2)] <;> rfl)
def rb (v : Int64) (m : Nat) : Int32 := ((v >>> ((8 * nI m).toInt64 &&& 63)) &&& 255).toInt32
def trf : Nat → Nat → (Nat → Int32) → Int64 → Nat → Int32
  | 0, _, f, _ => f
  | m + 1, s, f, v => trf m (s + 1) (upd f s (rb v m)) v
theorem up_uu {f : Nat → Int32} {k : Nat} {a b : Int32} : upd (upd f k a) k b = upd f k b := by
  funext j
  by_cases h : j = k <;> simp [upd, h]
theorem up_et {f : Nat → Int32} {k : Nat} {a : Int32} (h : f k = a) : upd f k a = f := by
  funext j
  by_cases q : j = k
  · subst q; rw [pk_us, h]
  · rw [pk_un q]
set_option maxRecDepth 100000 in
set_option maxHeartbeats 1000000 in
theorem rx_type_l (X : ev_X) (c0 : Nat) (v : Int64) (N : Int32) : ∀ (m s : Nat) (σ : Nat → Int32) (τ : Nat → Nat → Int32) (h1 : σ 1 = nI s) (hs : s + m ≤ 240), Rx X c0 m_Mod_type 33 [.ref (c0 + 16), .long v, ev_dead, .int N, .int (nI m - 1)] [] σ τ (fun r σ' τ' => r = some (.int (nI (s + m))) ∧ σ' = upd σ 1 (nI (s + m)) ∧ τ' = va_up τ 0 (trf m s (τ 0) v)) := by
  intro m
  induction m with
  | zero =>
    intro s σ τ h1 hs
    show Rx X c0 m_Mod_type 33 [.ref (c0 + 16), .long v, ev_dead, .int N, .int (-1)] [] σ τ _
    refine Rx.go (fun _ => rfl) ?_
    refine Rx.go (fun _ => rfl) ?_
    show Rx X c0 m_Mod_type 75 [.ref (c0 + 16), .long v, ev_dead, .int N, .int (-1)] [] σ τ _
    refine Rx.go (fun _ => rfl) ?_
    refine Rx.get rfl rfl ?_
    show Rx X c0 m_Mod_type 79 [.ref (c0 + 16), .long v, ev_dead, .int N, .int (-1)] [.int (σ 1)] σ τ _
    exact Rx.ret rfl (ev_reti rfl) ⟨by rw [h1]; rfl, (up_et h1).symm, (va_et rfl).symm⟩
  | succ m ih =>
    intro s σ τ h1 hs
    rw [nI_pred]
    refine Rx.go (fun _ => rfl) ?_
    refine Rx.go (fun _ => rfl) ?_
    refine Rx.ite (fun c1 => ?_) (fun c1 => ?_)
    · replace c1 : (nI m) < 0 := of_decide_eq_true c1
      exact absurd c1 (nI_pos (by omega))
    · replace c1 : ¬ (nI m) < 0 := of_decide_eq_false c1
      show Rx X c0 m_Mod_type 38 [.ref (c0 + 16), .long v, ev_dead, .int N, .int (nI m)] [] σ τ _
      refine Rx.go (fun _ => rfl) ?_
      refine Rx.get rfl rfl ?_
      refine Rx.go (fun _ => rfl) ?_
      refine Rx.get rfl rfl ?_
      refine Rx.go (fun _ => rfl) ?_
      refine Rx.go (fun _ => rfl) ?_
      refine Rx.go (fun _ => rfl) ?_
      refine Rx.go (fun _ => rfl) ?_
      refine Rx.go (fun _ => rfl) ?_
      refine Rx.go (fun _ => rfl) ?_
      refine Rx.go (fun _ => rfl) ?_
      refine Rx.go (fun _ => rfl) ?_
      refine Rx.ast 0 rfl rfl (by rw [h1]; exact nI_ix (show s < 240 by omega) (by decide)) ?_
      refine Rx.go (fun _ => rfl) ?_
      refine Rx.go (fun _ => rfl) ?_
      refine Rx.get rfl rfl ?_
      refine Rx.go (fun _ => rfl) ?_
      refine Rx.go (fun _ => rfl) ?_
      refine Rx.put rfl (by decide) rfl rfl ?_
      refine Rx.go (fun _ => rfl) ?_
      show Rx X c0 m_Mod_type 72 [.ref (c0 + 16), .long v, ev_dead, .int N, .int ((nI m) + (-1))] [] (upd σ 1 ((σ 1) + 1)) (va_up τ 0 (upd (τ 0) (σ 1).toNatClampNeg (((v >>> ((8 * (nI m)).toInt64 &&& 63)) &&& 255).toInt32))) _
      refine Rx.go (fun _ => rfl) ?_
      show Rx X c0 m_Mod_type 33 [.ref (c0 + 16), .long v, ev_dead, .int N, .int ((nI m) + (-1))] [] (upd σ 1 ((σ 1) + 1)) (va_up τ 0 (upd (τ 0) (σ 1).toNatClampNeg (((v >>> ((8 * (nI m)).toInt64 &&& 63)) &&& 255).toInt32))) _
      rw [show nI m + (-1) = nI m - 1 from (Int32.sub_eq_add_neg _ _).symm]
      refine (ih (s + 1) _ _ (by rw [pk_us, h1, nI_1]) (by omega)).mono ?_
      rintro r σ' τ' ⟨rfl, rfl, rfl⟩
      exact ⟨by rw [show s + 1 + m = s + (m + 1) by omega], by rw [up_uu, show s + 1 + m = s + (m + 1) by omega], by rw [va_uu, va_up_self, h1, nI_clamp (by omega)]; rfl⟩
set_option maxRecDepth 100000 in
set_option maxHeartbeats 1000000 in
theorem rx_type0 (X : ev_X) (c0 : Nat) (v : Int64) (n : Int32) {σ : Nat → Int32} {τ : Nat → Nat → Int32} (h1 : σ 1 = 0) : Rx X c0 m_Mod_type 0 [.ref (c0 + 16), .long v, ev_dead, .int n, ev_dead] [] σ τ (fun r _ _ => r = some (.int (if n < 1 then -1 else if n ≤ 8 then n else -1))) := by
  refine Rx.go (fun _ => rfl) ?_
  refine Rx.go (fun _ => rfl) ?_
  refine Rx.go (fun _ => rfl) ?_
  refine Rx.ite (fun c1 => ?_) (fun c1 => ?_)
  · replace c1 : n < 1 := of_decide_eq_true c1
    show Rx X c0 m_Mod_type 11 [.ref (c0 + 16), .long v, ev_dead, .int n, ev_dead] [] σ τ _
    refine Rx.go (fun _ => rfl) ?_
    show Rx X c0 m_Mod_type 12 [.ref (c0 + 16), .long v, ev_dead, .int n, ev_dead] [.int (-1)] σ τ _
    exact Rx.ret rfl (ev_reti rfl) (by simp [c1])
  · replace c1 : ¬ n < 1 := of_decide_eq_false c1
    show Rx X c0 m_Mod_type 5 [.ref (c0 + 16), .long v, ev_dead, .int n, ev_dead] [] σ τ _
    refine Rx.go (fun _ => rfl) ?_
    refine Rx.go (fun _ => rfl) ?_
    refine Rx.go (fun _ => rfl) ?_
    refine Rx.ite (fun c2 => ?_) (fun c2 => ?_)
    · replace c2 : n ≤ 8 := of_decide_eq_true c2
      show Rx X c0 m_Mod_type 13 [.ref (c0 + 16), .long v, ev_dead, .int n, ev_dead] [] σ τ _
      refine Rx.go (fun _ => rfl) ?_
      refine Rx.get rfl rfl ?_
      refine Rx.top (y := 0) h1 ?_
      refine Rx.go (fun _ => rfl) ?_
      refine Rx.go (fun _ => rfl) ?_
      refine Rx.go (fun _ => rfl) ?_
      refine Rx.go (fun _ => rfl) ?_
      refine Rx.ite (fun c3 => ?_) (fun c3 => ?_)
      · replace c3 : (0 + n) ≤ 240 := of_decide_eq_true c3
        show Rx X c0 m_Mod_type 28 [.ref (c0 + 16), .long v, ev_dead, .int n, ev_dead] [] σ τ _
        refine Rx.go (fun _ => rfl) ?_
        refine Rx.go (fun _ => rfl) ?_
        refine Rx.go (fun _ => rfl) ?_
        refine Rx.go (fun _ => rfl) ?_
        show Rx X c0 m_Mod_type 33 [.ref (c0 + 16), .long v, ev_dead, .int n, .int (n - 1)] [] σ τ _
        show Rx X c0 m_Mod_type 33 [.ref (c0 + 16), .long v, ev_dead, .int n, .int (n - 1)] [] σ τ _
        obtain ⟨m, hm, rfl⟩ := i32_81 c1 c2
        refine (rx_type_l X c0 v (nI m) m 0 σ τ h1 (by omega)).mono ?_
        rintro r σ' τ' ⟨rfl, -, -⟩
        rw [if_neg c1, if_pos c2, Nat.zero_add]
      · replace c3 : ¬ (0 + n) ≤ 240 := of_decide_eq_false c3
        exact absurd (i32_82 c1 c2) c3
    · replace c2 : ¬ n ≤ 8 := of_decide_eq_false c2
      show Rx X c0 m_Mod_type 11 [.ref (c0 + 16), .long v, ev_dead, .int n, ev_dead] [] σ τ _
      refine Rx.go (fun _ => rfl) ?_
      show Rx X c0 m_Mod_type 12 [.ref (c0 + 16), .long v, ev_dead, .int n, ev_dead] [.int (-1)] σ τ _
      exact Rx.ret rfl (ev_reti rfl) (by simp [c1, c2])
abbrev s0 : Nat → Int32 := fun _ => 0
abbrev t0 : Nat → Nat → Int32 := fun _ _ => 0
abbrev s1 : Nat → Int32 := upd (upd (upd s0 16 0) 17 0) 18 0
abbrev s2 : Nat → Int32 := rfail s1 1 0
abbrev s3 : Nat → Int32 := upd (upd s2 2 0) 1 0
set_option maxRecDepth 100000 in
set_option maxHeartbeats 1000000 in
theorem rx_readOne0 (X : ev_X) (c0 : Nat) : Rx X c0 m_Mod_readOne 0 [.ref (c0 + 16), ev_dead] [] s1 t0 (fun r σ' τ' => r = none ∧ σ' = s2 ∧ τ' = t0) := by
  refine Rx.go (fun _ => rfl) ?_
  refine Rx.callE rfl rfl rfl rfl (rx_here X c0 _ _ (by decide) (by decide)) ?_
  show Rx X c0 m_Mod_readOne 4 [.ref (c0 + 16), ev_dead] [.int (-1)] s1 t0 _
  refine Rx.go (fun _ => rfl) ?_
  show Rx X c0 m_Mod_readOne 5 [.ref (c0 + 16), .int (-1)] [] s1 t0 _
  refine Rx.go (fun _ => rfl) ?_
  refine Rx.go (fun _ => rfl) ?_
  refine Rx.go (fun _ => rfl) ?_
  show Rx X c0 m_Mod_readOne 18 [.ref (c0 + 16), .int (-1)] [] s1 t0 _
  refine Rx.go (fun _ => rfl) ?_
  refine Rx.go (fun _ => rfl) ?_
  refine Rx.go (fun _ => rfl) ?_
  show Rx X c0 m_Mod_readOne 31 [.ref (c0 + 16), .int (-1)] [] s1 t0 _
  refine Rx.go (fun _ => rfl) ?_
  refine Rx.go (fun _ => rfl) ?_
  refine Rx.go (fun _ => rfl) ?_
  show Rx X c0 m_Mod_readOne 44 [.ref (c0 + 16), .int (-1)] [] s1 t0 _
  refine Rx.go (fun _ => rfl) ?_
  refine Rx.go (fun _ => rfl) ?_
  refine Rx.go (fun _ => rfl) ?_
  show Rx X c0 m_Mod_readOne 50 [.ref (c0 + 16), .int (-1)] [] s1 t0 _
  refine Rx.go (fun _ => rfl) ?_
  refine Rx.go (fun _ => rfl) ?_
  refine Rx.go (fun _ => rfl) ?_
  show Rx X c0 m_Mod_readOne 56 [.ref (c0 + 16), .int (-1)] [] s1 t0 _
  refine Rx.go (fun _ => rfl) ?_
  refine Rx.go (fun _ => rfl) ?_
  refine Rx.go (fun _ => rfl) ?_
  show Rx X c0 m_Mod_readOne 62 [.ref (c0 + 16), .int (-1)] [] s1 t0 _
  refine Rx.go (fun _ => rfl) ?_
  refine Rx.scallE rfl rfl rfl rfl (sx_Mod_isDigit X (-1)) ?_
  show Rx X c0 m_Mod_readOne 66 [.ref (c0 + 16), .int (-1)] [.int 0] s1 t0 _
  refine Rx.go (fun _ => rfl) ?_
  show Rx X c0 m_Mod_readOne 76 [.ref (c0 + 16), .int (-1)] [] s1 t0 _
  refine Rx.go (fun _ => rfl) ?_
  refine Rx.go (fun _ => rfl) ?_
  refine Rx.go (fun _ => rfl) ?_
  show Rx X c0 m_Mod_readOne 82 [.ref (c0 + 16), .int (-1)] [] s1 t0 _
  refine Rx.go (fun _ => rfl) ?_
  refine Rx.go (fun _ => rfl) ?_
  refine Rx.go (fun _ => rfl) ?_
  show Rx X c0 m_Mod_readOne 106 [.ref (c0 + 16), .int (-1)] [] s1 t0 _
  refine Rx.go (fun _ => rfl) ?_
  refine Rx.go (fun _ => rfl) ?_
  refine Rx.go (fun _ => rfl) ?_
  refine Rx.get rfl rfl ?_
  refine Rx.callE rfl rfl rfl rfl (rx_fail X c0 _ _ 1 (s1 16)) ?_
  show Rx X c0 m_Mod_readOne 115 [.ref (c0 + 16), .int (-1)] [] s2 t0 _
  exact Rx.ret rfl rfl ⟨rfl, rfl, rfl⟩
set_option maxRecDepth 100000 in
set_option maxHeartbeats 1000000 in
theorem rx_readAll0 (X : ev_X) (c0 : Nat) : Rx X c0 m_Mod_readAll 0 [.ref (c0 + 16)] [] s0 t0 (fun r σ' τ' => r = some (.int 0) ∧ σ' = s3 ∧ τ' = t0) := by
  refine Rx.go (fun _ => rfl) ?_
  refine Rx.go (fun _ => rfl) ?_
  refine Rx.put rfl (by decide) rfl rfl ?_
  refine Rx.go (fun _ => rfl) ?_
  refine Rx.go (fun _ => rfl) ?_
  refine Rx.get rfl rfl ?_
  refine Rx.put rfl (by decide) rfl rfl ?_
  refine Rx.go (fun _ => rfl) ?_
  refine Rx.go (fun _ => rfl) ?_
  refine Rx.put rfl (by decide) rfl rfl ?_
  refine Rx.go (fun _ => rfl) ?_
  refine Rx.callE rfl rfl rfl rfl (rx_readOne0 X c0) ?_
  show Rx X c0 m_Mod_readAll 22 [.ref (c0 + 16)] [] s2 t0 _
  refine Rx.go (fun _ => rfl) ?_
  refine Rx.callE rfl rfl rfl rfl (rx_isGood X c0 _ _) ?_
  show Rx X c0 m_Mod_readAll 26 [.ref (c0 + 16)] [.int 0] s2 t0 _
  refine Rx.go (fun _ => rfl) ?_
  show Rx X c0 m_Mod_readAll 50 [.ref (c0 + 16)] [] s2 t0 _
  refine Rx.go (fun _ => rfl) ?_
  refine Rx.go (fun _ => rfl) ?_
  refine Rx.callE rfl rfl rfl rfl (rx_isGood X c0 _ _) ?_
  show Rx X c0 m_Mod_readAll 55 [.ref (c0 + 16)] [.int 0, .ref (c0 + 16)] s2 t0 _
  refine Rx.go (fun _ => rfl) ?_
  show Rx X c0 m_Mod_readAll 65 [.ref (c0 + 16)] [.ref (c0 + 16)] s2 t0 _
  refine Rx.go (fun _ => rfl) ?_
  refine Rx.get rfl rfl ?_
  refine Rx.put rfl (by decide) rfl rfl ?_
  refine Rx.go (fun _ => rfl) ?_
  refine Rx.go (fun _ => rfl) ?_
  refine Rx.put rfl (by decide) rfl rfl ?_
  refine Rx.go (fun _ => rfl) ?_
  refine Rx.callE rfl rfl rfl rfl (rx_isGood X c0 _ _) ?_
  show Rx X c0 m_Mod_readAll 81 [.ref (c0 + 16)] [.int 0] (upd (upd s2 2 (s2 19)) 1 0) t0 _
  show Rx X c0 m_Mod_readAll 81 [.ref (c0 + 16)] [.int 0] (upd (upd s2 2 (s2 19)) 1 0) t0 _
  exact Rx.ret rfl rfl ⟨rfl, rfl, rfl⟩
set_option maxRecDepth 100000 in
set_option maxHeartbeats 1000000 in
theorem rx_read0 (X : ev_X) (c0 : Nat) : Rx X c0 m_Mod_read 0 [.ref (c0 + 16)] [] s0 t0 (fun r _ _ => r = some (.int (-101))) := by
  refine Rx.go (fun _ => rfl) ?_
  refine Rx.callE rfl rfl rfl rfl (rx_readAll0 X c0) ?_
  show Rx X c0 m_Mod_read 4 [.ref (c0 + 16)] [.int 0] s3 t0 _
  refine Rx.go (fun _ => rfl) ?_
  show Rx X c0 m_Mod_read 14 [.ref (c0 + 16)] [] s3 t0 _
  refine Rx.go (fun _ => rfl) ?_
  refine Rx.go (fun _ => rfl) ?_
  refine Rx.get rfl rfl ?_
  refine Rx.go (fun _ => rfl) ?_
  show Rx X c0 m_Mod_read 21 [.ref (c0 + 16)] [.int ((-100) - (s3 18))] s3 t0 _
  exact Rx.ret rfl (ev_reti rfl) rfl
set_option maxRecDepth 100000 in
set_option maxHeartbeats 1000000 in
theorem rx_find0 (X : ev_X) (c0 : Nat) : Rx X c0 m_Mod_find 0 [.ref (c0 + 16), ev_dead] [] s0 t0 (fun r _ _ => r = some (.int (-101))) := by
  refine Rx.go (fun _ => rfl) ?_
  refine Rx.callE rfl rfl rfl rfl (rx_readAll0 X c0) ?_
  show Rx X c0 m_Mod_find 4 [.ref (c0 + 16), ev_dead] [.int 0] s3 t0 _
  refine Rx.go (fun _ => rfl) ?_
  show Rx X c0 m_Mod_find 7 [.ref (c0 + 16), ev_dead] [] s3 t0 _
  refine Rx.go (fun _ => rfl) ?_
  refine Rx.go (fun _ => rfl) ?_
  refine Rx.get rfl rfl ?_
  refine Rx.go (fun _ => rfl) ?_
  show Rx X c0 m_Mod_find 14 [.ref (c0 + 16), ev_dead] [.int ((-100) - (s3 18))] s3 t0 _
  exact Rx.ret rfl (ev_reti rfl) rfl
