/-! The judgement Ex: method M from pc, with locals A, stack st, heap h, comes to its end, with Q of its answer and heap. -/
theorem ev_fuel (X : ev_X) : ∀ (n M pc : Nat) (A st : List Value) (h : ev_H) (r : Option Value × ev_H), ev_run X n M pc A st h = some r → ev_run X (n + 1) M pc A st h = some r := by
  intro n
  induction n with
  | zero => intro M pc A st h r hr; cases hr
  | succ n ih =>
    intro M pc A st h r hr
    rw [ev_run] at hr ⊢
    cases hop : pg_ops M pc with
    | none => rw [hop] at hr; cases hr
    | some q =>
      obtain ⟨i, nx, a, b, w⟩ := q
      rw [hop] at hr
      dsimp only at hr ⊢
      cases hret : ev_ret M i st with
      | some r0 => rw [hret] at hr; exact hr
      | none =>
        rw [hret] at hr
        dsimp only at hr ⊢
        cases hcal : ev_cal X i a st h with
        | some q =>
          obtain ⟨as, rest⟩ := q
          rw [hcal] at hr
          dsimp only at hr ⊢
          cases hent : ev_ent (pg_L a) as with
          | none => rw [hent] at hr; cases hr
          | some A0 =>
            rw [hent] at hr
            dsimp only at hr ⊢
            cases hc : ev_run X n a 0 A0 [] h with
            | none => rw [hc] at hr; cases hr
            | some q =>
              obtain ⟨v, h1⟩ := q
              rw [hc] at hr
              rw [ih _ _ _ _ _ _ hc]
              exact ih _ _ _ _ _ _ hr
        | none =>
          rw [hcal] at hr
          dsimp only at hr ⊢
          cases hone : ev_one X i pc nx a b A st h with
          | none => rw [hone] at hr; cases hr
          | some q =>
            obtain ⟨pc', A', st', h'⟩ := q
            rw [hone] at hr
            exact ih _ _ _ _ _ _ hr
theorem ev_fuelLe {X : ev_X} {n n' M pc : Nat} {A st : List Value} {h : ev_H} {r : Option Value × ev_H} (hn : n ≤ n') (hr : ev_run X n M pc A st h = some r) : ev_run X n' M pc A st h = some r := by
  induction hn with
  | refl => exact hr
  | step _ ih => exact ev_fuel _ _ _ _ _ _ _ _ ih
def Ex (X : ev_X) (M pc : Nat) (A st : List Value) (h : ev_H) (Q : Option Value → ev_H → Prop) : Prop := ∃ n r h', ev_run X n M pc A st h = some (r, h') ∧ Q r h'
theorem Ex.mono {X : ev_X} {M pc : Nat} {A st : List Value} {h : ev_H} {Q Q' : Option Value → ev_H → Prop} (k : Ex X M pc A st h Q) (hq : ∀ r h', Q r h' → Q' r h') : Ex X M pc A st h Q' := by
  obtain ⟨n, r, h', h1, h2⟩ := k
  exact ⟨n, r, h', h1, hq r h' h2⟩
/-- one step that is no call and no end -/
def ev_nx (X : ev_X) (M pc : Nat) (A st : List Value) (h : ev_H) : Option (Nat × List Value × List Value × ev_H) := match pg_ops M pc with
  | none => none
  | some (i, nx, a, b, _) => match ev_ret M i st with
    | some _ => none
    | none => match ev_cal X i a st h with
      | some _ => none
      | none => ev_one X i pc nx a b A st h
theorem Ex.nx {X : ev_X} {M pc pc' : Nat} {A A' st st' : List Value} {h h' : ev_H} {Q : Option Value → ev_H → Prop} (h1 : ev_nx X M pc A st h = some (pc', A', st', h')) (k : Ex X M pc' A' st' h' Q) : Ex X M pc A st h Q := by
  obtain ⟨n, r, h2, e1, e2⟩ := k
  refine ⟨n + 1, r, h2, ?_, e2⟩
  rw [ev_run]
  unfold ev_nx at h1
  split at h1
  · cases h1
  · next i nx a b w hop =>
    simp only [hop]
    split at h1
    · cases h1
    · next hret =>
      simp only [hret]
      split at h1
      · cases h1
      · next hcal => simp only [hcal, h1]; exact e1
theorem Ex.ret {X : ev_X} {M pc : Nat} {A st : List Value} {h : ev_H} {Q : Option Value → ev_H → Prop} {i : Instr} {nx a b w : Nat} {r : Option Value} (o : pg_ops M pc = some (i, nx, a, b, w)) (hr : ev_ret M i st = some r) (q : Q r h) : Ex X M pc A st h Q :=
  ⟨1, r, h, by rw [ev_run]; simp only [o, hr], q⟩
theorem Ex.call {X : ev_X} {M pc : Nat} {A A0 st as rest : List Value} {h : ev_H} {Q Q1 : Option Value → ev_H → Prop} {i : Instr} {nx a b w : Nat} (o : pg_ops M pc = some (i, nx, a, b, w)) (hr : ev_ret M i st = none) (hc : ev_cal X i a st h = some (as, rest)) (he : ev_ent (pg_L a) as = some A0) (k1 : Ex X a 0 A0 [] h Q1)
    (k2 : ∀ (r : Option Value) (h1 : ev_H), Q1 r h1 → Ex X M nx A (r.toList ++ rest) h1 Q) : Ex X M pc A st h Q := by
  obtain ⟨n1, r1, h1, e1, e2⟩ := k1
  obtain ⟨n2, r2, h2, e3, e4⟩ := k2 r1 h1 e2
  refine ⟨max n1 n2 + 1, r2, h2, ?_, e4⟩
  rw [ev_run]
  simp only [o, hr, hc, he]
  rw [ev_fuelLe (Nat.le_max_left n1 n2) e1]
  exact ev_fuelLe (Nat.le_max_right n1 n2) e3
theorem Ex.ite {X : ev_X} {M p1 p2 : Nat} {A st : List Value} {h : ev_H} {Q : Option Value → ev_H → Prop} {c : Bool} (kt : c = true → Ex X M p1 A st h Q) (kf : c = false → Ex X M p2 A st h Q) : Ex X M (if c = true then p1 else p2) A st h Q := by
  cases c
  · exact kf rfl
  · exact kt rfl
theorem gs {h : ev_H} {o : Nat} {e : va_E} : (ev_set h o e).2.2 o = some e := by simp [ev_set, va_up]
theorem gn {h : ev_H} {o p : Nat} {e : va_E} {v : Option va_E} (hne : p ≠ o) (hv : h.2.2 p = v) : (ev_set h o e).2.2 p = v := by simp [ev_set, va_up, hne, hv]
section EXR
variable {X : ev_X} {M pc nx a b w idx : Nat} {A st r : List Value} {h : ev_H} {Q : Option Value → ev_H → Prop}
theorem Ex.hp {i : Instr} {st' : List Value} {h' : ev_H} (o : pg_ops M pc = some (i, nx, a, b, w)) (h1 : ev_ret M i st = none) (h2 : ev_cal X i a st h = none) (h3 : ev_st (if b = 0 then pg_kon.getD a .null else .null) i st = none) (h4 : ev_lc i A st = none) (h5 : ev_br i pc nx st = none) (h6 : ev_hp X i a b st h = some (st', h')) (k : Ex X M nx A st' h' Q) : Ex X M pc A st h Q :=
  Ex.nx (by unfold ev_nx; simp only [o, h1, h2, ev_one, h3, h4, h5, h6]) k
theorem Ex.get {x : Nat} {fs : List Value} {v : Value} (o : pg_ops M pc = some (.getfield idx, nx, a, b, w)) (hh : h.2.2 x = some (.inr (a, fs))) (hv : fs[b]? = some v) (k : Ex X M nx A (v :: r) h Q) : Ex X M pc A (.ref x :: r) h Q :=
  Ex.hp o rfl rfl rfl rfl rfl (by simp only [ev_hp, ev_get, hh, if_true, hv]) k
theorem Ex.put {x : Nat} {fs : List Value} {v : Value} (o : pg_ops M pc = some (.putfield idx, nx, a, b, w)) (hh : h.2.2 x = some (.inr (a, fs))) (hl : b < fs.length) (hn : narrow (pg_t a b) v = v) (hf : fits (pg_t a b) v = true) (k : Ex X M nx A r (ev_set h x (.inr (a, fs.set b v))) Q) : Ex X M pc A (v :: .ref x :: r) h Q :=
  Ex.hp o rfl rfl rfl rfl rfl (by simp only [ev_hp, ev_put, hh]; rw [if_pos ⟨trivial, hl, hn, hf⟩]) k
theorem Ex.iald {x n : Nat} {f : Nat → Int32} {j : Int32} (o : pg_ops M pc = some (.iaload, nx, a, b, w)) (hh : h.2.2 x = some (.inl (1, n, .inl f))) (hj : ¬ (j < 0 ∨ n ≤ j.toNatClampNeg)) (k : Ex X M nx A (.int (f j.toNatClampNeg) :: r) h Q) : Ex X M pc A (.int j :: .ref x :: r) h Q :=
  Ex.hp o rfl rfl rfl rfl rfl (by simp only [ev_hp, ev_iald, hh]; rw [if_pos ⟨rfl, hj⟩]) k
theorem Ex.iast {x n : Nat} {f : Nat → Int32} {j y : Int32} (o : pg_ops M pc = some (.iastore, nx, a, b, w)) (hh : h.2.2 x = some (.inl (1, n, .inl f))) (hj : ¬ (j < 0 ∨ n ≤ j.toNatClampNeg)) (k : Ex X M nx A r (ev_set h x (.inl (1, n, .inl (upd f j.toNatClampNeg y)))) Q) : Ex X M pc A (.int y :: .int j :: .ref x :: r) h Q :=
  Ex.hp o rfl rfl rfl rfl rfl (by simp only [ev_hp, ev_iast, hh]; rw [if_pos ⟨rfl, hj⟩]) k
theorem Ex.bald {x n : Nat} {f : Nat → Int32} {j : Int32} (o : pg_ops M pc = some (.baload, nx, a, b, w)) (hh : h.2.2 x = some (.inl (0, n, .inl f))) (hj : ¬ (j < 0 ∨ n ≤ j.toNatClampNeg)) (k : Ex X M nx A (.int (f j.toNatClampNeg) :: r) h Q) : Ex X M pc A (.int j :: .ref x :: r) h Q :=
  Ex.hp o rfl rfl rfl rfl rfl (by simp only [ev_hp, ev_bald, hh]; rw [if_pos ⟨rfl, hj⟩]) k
theorem Ex.bast {x n : Nat} {f : Nat → Int32} {j y : Int32} (o : pg_ops M pc = some (.bastore, nx, a, b, w)) (hh : h.2.2 x = some (.inl (0, n, .inl f))) (hj : ¬ (j < 0 ∨ n ≤ j.toNatClampNeg)) (k : Ex X M nx A r (ev_set h x (.inl (0, n, .inl (upd f j.toNatClampNeg (vp_nar .byte y))))) Q) : Ex X M pc A (.int y :: .int j :: .ref x :: r) h Q :=
  Ex.hp o rfl rfl rfl rfl rfl (by simp only [ev_hp, ev_bast, hh]; rw [if_pos ⟨rfl, hj⟩]) k
theorem Ex.aald {x n : Nat} {f : Nat → Option Nat} {j : Int32} (o : pg_ops M pc = some (.aaload, nx, a, b, w)) (hh : h.2.2 x = some (.inl (2, n, .inr (.inr (.inr (.inr f)))))) (hj : ¬ (j < 0 ∨ n ≤ j.toNatClampNeg)) (k : Ex X M nx A (va_rf (f j.toNatClampNeg) :: r) h Q) : Ex X M pc A (.int j :: .ref x :: r) h Q :=
  Ex.hp o rfl rfl rfl rfl rfl (by simp only [ev_hp, ev_aald, hh]; exact if_pos hj) k
theorem Ex.aast {x y n ci : Nat} {vs : List Value} {f : Nat → Option Nat} {j : Int32} (o : pg_ops M pc = some (.aastore, nx, a, b, w)) (hh : h.2.2 x = some (.inl (2, n, .inr (.inr (.inr (.inr f)))))) (hy : h.2.2 y = some (.inr (2, vs))) (hj : ¬ (j < 0 ∨ n ≤ j.toNatClampNeg)) (k : Ex X M nx A r (ev_set h x (.inl (2, n, .inr (.inr (.inr (.inr (va_up f j.toNatClampNeg (some y)))))))) Q) : Ex X M pc A (.ref y :: .int j :: .ref x :: r) h Q :=
  Ex.hp o rfl rfl rfl rfl rfl (by simp only [ev_hp, ev_aast, hh, hy]; rw [if_pos ⟨rfl, hj⟩]) k
theorem Ex.alen {x t n : Nat} {f : (Nat → Int32) ⊕ (Nat → Int64) ⊕ (Nat → UInt32) ⊕ (Nat → UInt64) ⊕ (Nat → Option Nat)} (o : pg_ops M pc = some (.arraylength, nx, a, b, w)) (hh : h.2.2 x = some (.inl (t, n, f))) (ht : t < pg_ty.length) (k : Ex X M nx A (.int (Int32.ofNat n) :: r) h Q) : Ex X M pc A (.ref x :: r) h Q :=
  Ex.hp o rfl rfl rfl rfl rfl (by simp only [ev_hp, ev_alen, hh]; rw [if_pos ht]) k
end EXR
