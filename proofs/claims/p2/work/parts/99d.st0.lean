/-! The start: both sides fresh. -/
theorem row0 {c0 k ka N : Nat} {F : Nat → Option va_E} (h1 : F k = some (.inr (1, [.ref (c0 + ka), .int 0]))) (h2 : F ka = some (.inl (0, N, .inl (fun _ => 0)))) : rowL c0 F k ka N [] := ⟨_, h1, h2, Nat.zero_le _, fun i hi => absurd hi (Nat.not_lt_zero i), nil_by⟩
theorem CC0 (c0 : Nat) : CC c0 [] [] 0 [] 0 (fz c0) := ⟨rfl, ⟨0, 0, 0, [], [], 0, fun _ _ => rfl, row0 rfl rfl, rfl, row0 rfl rfl, row0 rfl rfl, rfl⟩, ⟨rfl, ⟨fun _ => none, rfl, fun i hi => absurd hi (Nat.not_lt_zero i)⟩, Nat.zero_le _, Nat.zero_le _, fun i hi => absurd hi (Nat.not_lt_zero i)⟩, rfl, ⟨[], fun _ _ => rfl, row0 rfl rfl, row0 rfl rfl⟩, fun i hi => absurd hi (Nat.not_lt_zero i)⟩
theorem RM0 {c0 n z : Nat} : RM c0 (hp c0 n z (fz c0)) (fun _ => 0) (fun _ _ => 0) := by
  refine ⟨hp_at.trans rfl, fun k n hk => hp_at.trans ?_, fun o ho => hp_lo ho⟩
  unfold rsz at hk
  split at hk <;> first | (cases hk; rfl) | (cases hk)
theorem RC0 : RC [] [] 0 0 [] (fun _ => 0) (fun _ _ => 0) := ⟨⟨rfl, Nat.zero_le _, Nat.zero_le _, fun i hi => by
    have : i = 0 := by simpa using hi
    subst this
    rfl, fun i hi => absurd hi (Nat.not_lt_zero i)⟩, ⟨rfl, Nat.zero_le _, fun j hj => absurd hj (Nat.not_lt_zero j), nil_by⟩, ⟨rfl, Nat.zero_le _⟩, ⟨rfl, Nat.zero_le _, fun k hk => absurd hk (Nat.not_lt_zero k), nil_by⟩, rfl, 0, rfl, Nat.zero_le _⟩
theorem J0 (c0 z : Nat) : J c0 z [] [] 0 [] 0 (hp c0 26 z (fz c0)) := ⟨fz c0, fun _ => 0, fun _ _ => 0, rfl, CC0 c0, RM0, RC0, fun i hi => absurd hi (Nat.not_lt_zero i)⟩
theorem nI_k2 (i : Nat) : nI i + 2 = nI (i + 2) := by rw [show i + 2 = i + 1 + 1 from rfl, ← nI_1, ← nI_1, Int32.add_assoc]; rfl
theorem nI_k3 (i : Nat) : nI i + 3 = nI (i + 3) := by rw [show i + 3 = i + 2 + 1 from rfl, ← nI_1, ← nI_k2, Int32.add_assoc]; rfl
theorem nI_k4 (i : Nat) : nI i + 4 = nI (i + 4) := by rw [show i + 4 = i + 2 + 2 from rfl, ← nI_k2, ← nI_k2, Int32.add_assoc]; rfl
theorem law_ge {L i : Nat} (hL : L ≤ 2048) (hi : i ≤ 4000) (h : ¬ nI L - 4 < nI i) : i + 4 ≤ L := by
  by_cases c : 4 ≤ L
  · have e : nI L - 4 = nI (L - 4) := pk_sub (b := 4) c
    rw [e, nI_ltI (by omega) (by omega)] at h
    omega
  · exfalso
    have h5 : L = 0 ∨ L = 1 ∨ L = 2 ∨ L = 3 := by omega
    have h0 := nI_pos (n := i) (by omega)
    rw [Int32.lt_iff_toInt_lt] at h h0
    have e0 : (0 : Int32).toInt = 0 := rfl
    rcases h5 with rfl | rfl | rfl | rfl
    · have e : (nI 0 - 4).toInt = -4 := rfl
      omega
    · have e : (nI 1 - 4).toInt = -3 := rfl
      omega
    · have e : (nI 2 - 4).toInt = -2 := rfl
      omega
    · have e : (nI 3 - 4).toInt = -1 := rfl
      omega
theorem Hx.tsw {X : ev_X} {M pc nx a b w : Nat} {A r : List Value} {h : ev_H} {Q : Option Value → ev_H → Prop} {d lo hi : Int} {offs : Array Int} {x : Int32} (o : pg_ops M pc = some (.tableswitch d lo hi offs, nx, a, b, w)) (hx : x.toInt < lo ∨ hi < x.toInt) (hd : ¬ (pc : Int) + d < 0) (k : Ex X M (ev_t pc d) A r h Q) : Ex X M pc A (.int x :: r) h Q := by
  refine Ex.nx (pc' := ev_t pc d) (A' := A) (st' := r) (h' := h) ?_ k
  have e1 : ev_ret M (.tableswitch d lo hi offs) (.int x :: r) = none := rfl
  have e2 : ev_cal X (.tableswitch d lo hi offs) a (.int x :: r) h = none := rfl
  have e3 : ∀ kv, ev_st kv (.tableswitch d lo hi offs) (.int x :: r) = none := fun _ => rfl
  have e4 : ev_lc (.tableswitch d lo hi offs) A (.int x :: r) = none := rfl
  have e5 : ev_br (.tableswitch d lo hi offs) pc nx (.int x :: r) = some (ev_t pc d, r) := by
    simp only [ev_br]
    rw [if_pos hx, if_neg hd]
  unfold ev_nx
  simp only [o, e1, e2, ev_one, e3, e4, e5]
theorem sw17 (q : Int32) : (∃ j : Nat, j ≤ 16 ∧ q = nI j) ∨ (q.toInt < 0 ∨ 16 < q.toInt) := by
  by_cases h : q.toInt < 0 ∨ 16 < q.toInt
  · exact Or.inr h
  · refine Or.inl (nI_of2 (M := 16) (n := 16) rfl (fun z => h (Or.inl (by rw [Int32.lt_iff_toInt_lt] at z; exact z))) ?_)
    rw [Int32.le_iff_toInt_le]
    have e : (16 : Int32).toInt = 16 := rfl
    omega
def LQ (c0 Z : Nat) (r : Option Value) (h' : ev_H) : Prop := r = some (.int 1) ∧ h'.1 ≤ c0 + 3000 ∧ h'.2.1 ≤ Z
