/-! whole, decimal, kind, write, written on both sides. -/
theorem ofD_dgl : ∀ (m r : Nat), r < 10 ^ m → ofD (dgl m r) = r := by
  intro m
  induction m with
  | zero => intro r h; rw [dgl, ofD_nil]; simp at h; omega
  | succ m ih =>
    intro r h
    rw [dgl, ofD_s, ih (r / 10) (by rw [Nat.pow_succ] at h; omega)]
    omega
theorem digs_dgl : ∀ (m r : Nat), digs (dgl m r) := by
  intro m
  induction m with
  | zero => intro r; exact digs_nil
  | succ m ih => intro r; rw [dgl]; exact digs_s (ih _) (by omega)
theorem v_s {v : Int64} {a : Nat} (ha : a < 10 ^ 18) (h : v = lN a ∨ v = -lN a) : v = sN (decide (v < 0)) a := by
  rcases h with rfl | rfl
  · have hn : ¬ lN a < 0 := by rw [Int64.lt_iff_toInt_lt, lN_big (by omega), Int64.toInt_zero]; omega
    rw [decide_eq_false hn]; rfl
  · by_cases h0 : a = 0
    · subst h0; rfl
    · have hn : -lN a < 0 := by rw [Int64.lt_iff_toInt_lt, neg_lN ha, Int64.toInt_zero]; omega
      rw [decide_eq_true hn]; rfl
theorem en_nu {ds : List Nat} {g W L : Nat} {s dec : Bool} (hd : digs ds) (h18 : ds.length ≤ 18) (hW : W ≤ ds.length) (hg : lead ds W g) (ht : trail ds W L) (h9 : L - W ≤ 9) (hdec : dec = false → L = W) : en (nm (if dec = true then 4 else 3, sN s (ofD (ds.take L)), L - W)) = (if dec = true then 4 else 3, wN s dec ds g W L, 0) := by
  have hr : ofD (ds.take L) < 10 ^ 18 := Nat.lt_of_lt_of_le (ofD_lt (fun x hx => hd x (List.mem_of_mem_take hx))) (pow18 (by rw [List.length_take]; omega))
  have hw := wN_nuW (bel := s) (dec := dec) hd h18 hW hg ht h9 hdec (x := nm (if dec = true then 4 else 3, sN s (ofD (ds.take L)), L - W)) rfl rfl rfl
  rw [← hw]
  unfold en
  rw [show (nm (if dec = true then 4 else 3, sN s (ofD (ds.take L)), L - W)).2.1 = sN s (ofD (ds.take L)) from rfl, mag_s hr]
  cases dec <;> rfl
theorem lz_cn : ∀ (p : Nat) (v : Int64), (lz p v).2 = 0 ∨ (lz p v).1 - (lz p v).1 / 10 * 10 ≠ 0 := by
  intro p
  induction p with
  | zero => intro v; exact Or.inl rfl
  | succ p ih =>
    intro v
    rw [lz]
    split
    · exact ih _
    · next h => exact Or.inr h
section NMJ
variable {c0 n z u pl : Nat} {t o : List Nat} {T : List Tm} {F : Nat → Option va_E} {σ : Nat → Int32} {τ : Nat → Nat → Int32}
theorem pv_nof {R : Option Value → (Nat → Int32) → (Nat → Nat → Int32) → Prop} {a : Int32} (hM : RM c0 (hp c0 n z F) σ τ) (hc : cT T) (hR : ∀ r σ' τ', R r σ' τ' → ∃ ts' u', RC ts' t u' pl o σ' τ' ∧ r = some (.int a) ∧ ts' = T.map en ∧ u' = u) : PV Value.int c0 z T.length σ τ True (cP c0 z F t T u o pl (.int a)) R :=
  (pv_same (mk := Value.int) (a := a) (b := a) hM hc (fun _ => rfl)).mono (fun _ _ q => q) (fun r σ' τ' q => by obtain ⟨ts', u', h1, h2, h3, h4⟩ := hR r σ' τ' q; rw [h3, h4] at h1; exact ⟨h2, h1⟩)
theorem pv_whole (hM : RM c0 (hp c0 n z F) σ τ) (hc : cT T) (ho : oT T) (hT : T.length ≤ 2000) (v : Int64) : PV Value.int c0 z T.length σ τ True (if few v = true then kP c0 z F t T u o pl (3, v, 0, [], []) else cP c0 z F t T u o pl (.int (-1))) (fun r σ' τ' => ∃ ts' u', RC ts' t u' pl o σ' τ' ∧ nmR (T.map en) u v false 18 r ts' u') := by
  by_cases hf : few v = true
  · rw [if_pos hf]
    refine pv_kp hM hc ho cn3 ⟨Nat.zero_le _, Nat.zero_le _, few_r hf, Nat.zero_le _, Or.inr (Or.inr (Or.inl rfl))⟩ hT ?_
    rintro r σ' τ' ⟨ts', u', h1, h2⟩
    refine ⟨ts', u', h1, ?_⟩
    unfold nmR at h2
    rw [if_pos hf] at h2
    obtain ⟨a, ha, hv, L, g, ht, hg, h9, hm⟩ := h2
    have hl := dgl_len 18 a
    have eL : L = 18 := by have := ht.1; have := ht.2.1; omega
    subst eL
    have he := en_nu (s := decide (v < 0)) (dec := false) (digs_dgl 18 a) (by omega) (by omega) hg ht h9 (fun _ => rfl)
    rw [show (dgl 18 a).take 18 = dgl 18 a from List.take_of_length_le (by omega), ofD_dgl 18 a ha, ← v_s ha hv] at he
    rw [show en (3, v, 0, [], []) = _ from he]
    exact hm
  · rw [if_neg hf]
    refine pv_nof hM hc ?_
    rintro r σ' τ' ⟨ts', u', h1, h2⟩
    unfold nmR at h2
    rw [if_neg hf] at h2
    exact ⟨ts', u', h1, h2⟩
theorem pv_decimal (hM : RM c0 (hp c0 n z F) σ τ) (hc : cT T) (ho : oT T) (hT : T.length ≤ 2000) (v : Int64) (b : Int32) : PV Value.int c0 z T.length σ τ True (if b < 0 then cP c0 z F t T u o pl (.int (-1)) else if 9 < b then cP c0 z F t T u o pl (.int (-1)) else if few v = true then kP c0 z F t T u o pl (4, (lz b.toNatClampNeg v).1, (lz b.toNatClampNeg v).2, [], []) else cP c0 z F t T u o pl (.int (-1))) (fun r σ' τ' => if b < 0 then rC (T.map en) t u pl o (.int (-1)) r σ' τ' else if 9 < b then rC (T.map en) t u pl o (.int (-1)) r σ' τ' else ∃ ts' u', RC ts' t u' pl o σ' τ' ∧ nmR (T.map en) u v true (18 - b.toNatClampNeg) r ts' u') := by
  by_cases c1 : b < 0
  · simp only [if_pos c1]; exact pv_same hM hc (fun _ => rfl)
  · by_cases c2 : 9 < b
    · simp only [if_neg c1, if_pos c2]; exact pv_same hM hc (fun _ => rfl)
    · simp only [if_neg c1, if_neg c2]
      obtain ⟨p, hp9, rfl⟩ := nI_of2 (M := 9) (n := 9) rfl c1 (Int32.not_lt.mp c2)
      rw [nI_clamp (by omega)]
      by_cases hf : few v = true
      · rw [if_pos hf]
        obtain ⟨r0, hr0, hv0⟩ := few_r hf
        refine pv_kp hM hc ho (cn4 (lz_cn p v)) ⟨Nat.zero_le _, Nat.zero_le _, lz_r p v r0 hr0 hv0, Nat.le_trans (lz_le p v) hp9, Or.inr (Or.inr (Or.inr (Or.inl rfl)))⟩ hT ?_
        rintro r σ' τ' ⟨ts', u', h1, h2⟩
        refine ⟨ts', u', h1, ?_⟩
        unfold nmR at h2
        rw [if_pos hf] at h2
        obtain ⟨a, ha, hv, L, g, ht, hg, h9, hm⟩ := h2
        have hl := dgl_len 18 a
        have he := en_nu (s := decide (v < 0)) (dec := true) (digs_dgl 18 a) (by omega) (by omega) hg ht h9 (fun e => by cases e)
        have hz := lz_d (decide (v < 0)) (18 - p) p (dgl 18 a) L (digs_dgl 18 a) (by omega) (by omega) ht
        rw [ofD_dgl 18 a ha, ← v_s ha hv] at hz
        rw [hz]
        rw [show en (4, sN (decide (v < 0)) (ofD ((dgl 18 a).take L)), L - (18 - p), [], []) = _ from he]
        exact hm
      · rw [if_neg hf]
        refine pv_nof hM hc ?_
        rintro r σ' τ' ⟨ts', u', h1, h2⟩
        unfold nmR at h2
        rw [if_neg hf] at h2
        exact ⟨ts', u', h1, h2⟩
theorem kd_e {x : Tm} (h : okT x) : nI (en x).1 = x.1 := by
  obtain ⟨-, -, -, -, h⟩ := h
  show nI x.1.toNatClampNeg = x.1
  rcases h with h | h | h | h | h | h | h | h <;> rw [h] <;> rfl
theorem wtO_wat {o : List Nat} (h : o.length ≤ 1000) (a : Int32) : wtO o a = wat o a := by
  unfold wtO wat
  by_cases c1 : a < 0
  · rw [if_pos c1, if_pos c1]
  · rw [if_neg c1, if_neg c1]
    by_cases c2 : a < nI o.length
    · rw [if_pos c2, if_neg (Int32.not_le.mpr c2)]
      refine hb_lt ?_
      obtain ⟨k, hk, rfl⟩ := nI_of2 (M := nI o.length) (n := o.length) (nI_toInt (by omega)) c1 (Int32.le_of_lt c2)
      rw [nI_clamp (by omega)]
      exact (nI_ltI (by omega) (by omega)).mp c2
    · rw [if_neg c2, if_pos (Int32.not_lt.mp c2)]
end NMJ
