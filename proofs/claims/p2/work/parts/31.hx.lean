/-! The class's world: a heap hp c0 n z F of n cells from c0 on; F: the cells by their numbers; z: the slots made. -/
def hp (c0 n z : Nat) (F : Nat → Option va_E) : ev_H := (c0 + n, z, fun o => if o < c0 then none else F (o - c0))
theorem hp_at {c0 n z k : Nat} {F : Nat → Option va_E} : (hp c0 n z F).2.2 (c0 + k) = F k := by
  show (if c0 + k < c0 then none else F (c0 + k - c0)) = F k
  rw [if_neg (by omega), Nat.add_sub_cancel_left]
theorem hp_lo {c0 n z o : Nat} {F : Nat → Option va_E} (h : o < c0) : (hp c0 n z F).2.2 o = none := if_pos h
theorem hp_up {c0 k : Nat} {F : Nat → Option va_E} {e : va_E} : va_up (fun o => if o < c0 then none else F (o - c0)) (c0 + k) (some e) = fun o => if o < c0 then none else va_up F k (some e) (o - c0) := by
  funext o
  by_cases h1 : o < c0
  · simp [va_up, h1, show o ≠ c0 + k by omega]
  · by_cases h2 : o = c0 + k
    · subst h2; simp [va_up]
    · simp [va_up, h1, h2, show o - c0 ≠ k by omega]
theorem hp_set {c0 n z k : Nat} {F : Nat → Option va_E} {e : va_E} : ev_set (hp c0 n z F) (c0 + k) e = hp c0 n z (va_up F k (some e)) := congrArg (fun q => (c0 + n, z, q)) hp_up
theorem hp_new {c0 n z m : Nat} {F : Nat → Option va_E} {e : va_E} : ev_new (hp c0 n z F) m e = hp c0 (n + 1) (z + m) (va_up F n (some e)) := congrArg (fun q => (c0 + (n + 1), z + m, q)) hp_up
theorem va_uu {α : Type} {f : Nat → α} {k : Nat} {a b : α} : va_up (va_up f k a) k b = va_up f k b := by
  funext j
  by_cases h : j = k <;> simp [va_up, h]
/-- the reference's cells are the same -/
def rsm (F F' : Nat → Option va_E) : Prop := ∀ k, 16 ≤ k → k < 26 → F' k = F k
theorem rsm.rf {F : Nat → Option va_E} : rsm F F := fun _ _ _ => rfl
theorem rsm.up {F F' : Nat → Option va_E} {k : Nat} {e : Option va_E} (h : rsm F F') (hk : k < 16 ∨ 26 ≤ k) : rsm F (va_up F' k e) := fun j h1 h2 => by rw [va_up_ne _ _ (by omega)]; exact h j h1 h2
section HXR
variable {X : ev_X} {c0 n z M pc nx a b w idx : Nat} {A st r : List Value} {F : Nat → Option va_E} {Q : Option Value → ev_H → Prop}
theorem Hx.get (k : Nat) {fs : List Value} {v : Value} (o : pg_ops M pc = some (.getfield idx, nx, a, b, w)) (hF : F k = some (.inr (a, fs))) (hv : fs[b]? = some v) (kk : Ex X M nx A (v :: r) (hp c0 n z F) Q) : Ex X M pc A (.ref (c0 + k) :: r) (hp c0 n z F) Q := Ex.get o (hp_at.trans hF) hv kk
theorem Hx.put (k : Nat) {fs : List Value} {v : Value} (o : pg_ops M pc = some (.putfield idx, nx, a, b, w)) (hF : F k = some (.inr (a, fs))) (hl : Nat.ble (b + 1) fs.length = true) (hn : narrow (pg_t a b) v = v) (hf : fits (pg_t a b) v = true) (kk : Ex X M nx A r (hp c0 n z (va_up F k (some (.inr (a, fs.set b v))))) Q) : Ex X M pc A (v :: .ref (c0 + k) :: r) (hp c0 n z F) Q := Ex.put o (hp_at.trans hF) (Nat.le_of_ble_eq_true hl) hn hf (by rw [hp_set]; exact kk)
theorem Hx.bald (k : Nat) {N : Nat} {f : Nat → Int32} {j : Int32} (o : pg_ops M pc = some (.baload, nx, a, b, w)) (hF : F k = some (.inl (0, N, .inl f))) (hj : ¬ (j < 0 ∨ N ≤ j.toNatClampNeg)) (kk : Ex X M nx A (.int (f j.toNatClampNeg) :: r) (hp c0 n z F) Q) : Ex X M pc A (.int j :: .ref (c0 + k) :: r) (hp c0 n z F) Q := Ex.bald o (hp_at.trans hF) hj kk
theorem Hx.bast (k : Nat) {N : Nat} {f : Nat → Int32} {j y : Int32} (o : pg_ops M pc = some (.bastore, nx, a, b, w)) (hF : F k = some (.inl (0, N, .inl f))) (hj : ¬ (j < 0 ∨ N ≤ j.toNatClampNeg)) (kk : Ex X M nx A r (hp c0 n z (va_up F k (some (.inl (0, N, .inl (upd f j.toNatClampNeg (vp_nar .byte y))))))) Q) : Ex X M pc A (.int y :: .int j :: .ref (c0 + k) :: r) (hp c0 n z F) Q := Ex.bast o (hp_at.trans hF) hj (by rw [hp_set]; exact kk)
theorem Hx.aald (k : Nat) {N : Nat} {f : Nat → Option Nat} {j : Int32} (o : pg_ops M pc = some (.aaload, nx, a, b, w)) (hF : F k = some (.inl (2, N, .inr (.inr (.inr (.inr f)))))) (hj : ¬ (j < 0 ∨ N ≤ j.toNatClampNeg)) (kk : Ex X M nx A (va_rf (f j.toNatClampNeg) :: r) (hp c0 n z F) Q) : Ex X M pc A (.int j :: .ref (c0 + k) :: r) (hp c0 n z F) Q := Ex.aald o (hp_at.trans hF) hj kk
theorem Hx.aast (k y : Nat) {N : Nat} {vs : List Value} {f : Nat → Option Nat} {j : Int32} (o : pg_ops M pc = some (.aastore, nx, a, b, w)) (hF : F k = some (.inl (2, N, .inr (.inr (.inr (.inr f)))))) (hy : F y = some (.inr (2, vs))) (hj : ¬ (j < 0 ∨ N ≤ j.toNatClampNeg)) (kk : Ex X M nx A r (hp c0 n z (va_up F k (some (.inl (2, N, .inr (.inr (.inr (.inr (va_up f j.toNatClampNeg (some (c0 + y)))))))))) ) Q) : Ex X M pc A (.ref (c0 + y) :: .int j :: .ref (c0 + k) :: r) (hp c0 n z F) Q := Ex.aast (ci := 2) o (hp_at.trans hF) (hp_at.trans hy) hj (by rw [hp_set]; exact kk)
theorem Hx.alen (k : Nat) {t N : Nat} {f : (Nat → Int32) ⊕ (Nat → Int64) ⊕ (Nat → UInt32) ⊕ (Nat → UInt64) ⊕ (Nat → Option Nat)} (o : pg_ops M pc = some (.arraylength, nx, a, b, w)) (hF : F k = some (.inl (t, N, f))) (ht : Nat.ble (t + 1) 3 = true) (kk : Ex X M nx A (.int (nI N) :: r) (hp c0 n z F) Q) : Ex X M pc A (.ref (c0 + k) :: r) (hp c0 n z F) Q := Ex.alen o (hp_at.trans hF) (Nat.le_of_ble_eq_true ht) kk
theorem Hx.newo {q : vw_C} (o : pg_ops M pc = some (.new idx, nx, a, b, w)) (hq : pg_cl[a]? = some q) (kk : Ex X M nx A (.ref (c0 + n) :: st) (hp c0 (n + 1) (z + q.2.2) (va_up F n (some (.inr (a, pg_D.getD a []))))) Q) : Ex X M pc A st (hp c0 n z F) Q :=
  Ex.hp o rfl rfl rfl rfl rfl (by simp only [ev_hp, ev_newo, hq, hp_new]; rfl) kk
theorem Hx.newb {R : Nat} (o : pg_ops M pc = some (.newarray .byte, nx, 0, b, w)) (hR : R ≤ 1000) (kk : Ex X M nx A (.ref (c0 + n) :: r) (hp c0 (n + 1) (z + R) (va_up F n (some (.inl (0, R, .inl (fun _ => 0)))))) Q) : Ex X M pc A (.int (nI R) :: r) (hp c0 n z F) Q := by
  have e : (nI R).toNatClampNeg = R := nI_clamp (by omega)
  have h3 : ¬ nI R < 0 := nI_pos (by omega)
  refine Ex.hp (st' := .ref (c0 + n) :: r) (h' := hp c0 (n + 1) (z + R) (va_up F n (some (.inl (0, R, .inl (fun _ => 0)))))) o rfl rfl rfl rfl rfl ?_ kk
  have h4 : R * componentBytes (Op.newarray.typeOf .byte) ≤ 536870912 := by
    have : componentBytes (Op.newarray.typeOf .byte) ≤ 8 := by decide
    exact Nat.le_trans (Nat.mul_le_mul hR this) (by decide)
  simp only [ev_hp, ev_newa, e, hp_new]
  rw [if_pos ⟨rfl, Or.inr rfl, h3, h4⟩]
  rfl
theorem Hx.newi {R : Nat} (o : pg_ops M pc = some (.newarray .int, nx, 1, b, w)) (hR : R ≤ 200000) (kk : Ex X M nx A (.ref (c0 + n) :: r) (hp c0 (n + 1) (z + R) (va_up F n (some (.inl (1, R, .inl (fun _ => 0)))))) Q) : Ex X M pc A (.int (nI R) :: r) (hp c0 n z F) Q := by
  have e : (nI R).toNatClampNeg = R := nI_clamp (by omega)
  have h3 : ¬ nI R < 0 := nI_pos (by omega)
  refine Ex.hp (st' := .ref (c0 + n) :: r) (h' := hp c0 (n + 1) (z + R) (va_up F n (some (.inl (1, R, .inl (fun _ => 0)))))) o rfl rfl rfl rfl rfl ?_ kk
  have h4 : R * componentBytes (Op.newarray.typeOf .int) ≤ 536870912 := by
    have : componentBytes (Op.newarray.typeOf .int) ≤ 8 := by decide
    exact Nat.le_trans (Nat.mul_le_mul hR this) (by decide)
  simp only [ev_hp, ev_newa, e, hp_new]
  rw [if_pos ⟨rfl, Or.inl rfl, h3, h4⟩]
  rfl
theorem Hx.newr {R : Nat} (o : pg_ops M pc = some (.anewarray idx, nx, 2, b, w)) (hR : R ≤ 200000) (kk : Ex X M nx A (.ref (c0 + n) :: r) (hp c0 (n + 1) (z + R) (va_up F n (some (.inl (2, R, .inr (.inr (.inr (.inr (fun _ => none))))))))) Q) : Ex X M pc A (.int (nI R) :: r) (hp c0 n z F) Q := by
  have e : (nI R).toNatClampNeg = R := nI_clamp (by omega)
  have h3 : ¬ nI R < 0 := nI_pos (by omega)
  refine Ex.hp (st' := .ref (c0 + n) :: r) (h' := hp c0 (n + 1) (z + R) (va_up F n (some (.inl (2, R, .inr (.inr (.inr (.inr (fun _ => none))))))))) o rfl rfl rfl rfl rfl ?_ kk
  have h5 : pg_ty[2]? = some (.object "TermTable$Term") := rfl
  simp only [ev_hp, ev_anew, e, hp_new, h5]
  rw [if_pos ⟨h3, by omega⟩]
  rfl
theorem Hx.oini {h : ev_H} {x : Nat} (o : pg_ops M pc = some (.invokespecial idx, nx, 1, b, w)) (hs : Nat.ble (r.map fun v => v.category).sum 8 = true) (kk : Ex X M nx A r h Q) : Ex X M pc A (.ref x :: r) h Q :=
  Ex.hp o rfl rfl rfl rfl rfl (by simp only [ev_hp, ev_oini]; exact if_pos ⟨rfl, Nat.le_of_ble_eq_true hs⟩) kk
theorem Hx.max {h : ev_H} {x y : Int32} (o : pg_ops M pc = some (.invokestatic idx, nx, 3, b, w)) (hs : Nat.ble (r.map fun v => v.category).sum 8 = true) (kk : Ex X M nx A (.int (if x < y then y else x) :: r) h Q) : Ex X M pc A (.int y :: .int x :: r) h Q :=
  Ex.hp o rfl rfl rfl rfl rfl (by simp only [ev_hp, ev_math]; rw [if_pos (Nat.le_of_ble_eq_true hs)]; exact if_pos rfl) kk
theorem Hx.call (k : Nat) {as rest A0 fs : List Value} {v : Option Value} {n1 z1 ci : Nat} {F1 : Nat → Option va_E} (o : pg_ops M pc = some (.invokevirtual idx, nx, a, b, w)) (ha : ev_argI (pg_n a) st = some (c0 + k, as, rest)) (hF : F k = some (.inr (ci, fs))) (hc : pg_c a = ci) (he : ev_ent (pg_L a) (.ref (c0 + k) :: as) = some A0) (k1 : Ex X a 0 A0 [] (hp c0 n z F) (fun r h' => r = v ∧ h' = hp c0 n1 z1 F1)) (k2 : Ex X M nx A (v.toList ++ rest) (hp c0 n1 z1 F1) Q) : Ex X M pc A st (hp c0 n z F) Q := by
  refine Ex.call (rest := rest) o rfl ?_ he k1 (fun v' h1 ⟨q1, q2⟩ => by rw [q1, q2]; exact k2)
  have hrc : ev_rcv X (hp c0 n z F) (c0 + k) (pg_c a) = true := by unfold ev_rcv; rw [hp_at, hF, hc]; exact beq_self_eq_true ci
  simp only [ev_cal, ha, hrc, if_true]
theorem Hx.callX (k : Nat) {as rest A0 fs : List Value} {Q1 : Option Value → ev_H → Prop} {ci : Nat} (o : pg_ops M pc = some (.invokevirtual idx, nx, a, b, w)) (ha : ev_argI (pg_n a) st = some (c0 + k, as, rest)) (hF : F k = some (.inr (ci, fs))) (hc : pg_c a = ci) (he : ev_ent (pg_L a) (.ref (c0 + k) :: as) = some A0) (k1 : Ex X a 0 A0 [] (hp c0 n z F) Q1) (k2 : ∀ v h1, Q1 v h1 → Ex X M nx A (v.toList ++ rest) h1 Q) : Ex X M pc A st (hp c0 n z F) Q := by
  refine Ex.call (rest := rest) o rfl ?_ he k1 k2
  have hrc : ev_rcv X (hp c0 n z F) (c0 + k) (pg_c a) = true := by unfold ev_rcv; rw [hp_at, hF, hc]; exact beq_self_eq_true ci
  simp only [ev_cal, ha, hrc, if_true]
theorem Hx.callp {x : Nat} {as rest A0 : List Value} {v : Option Value} {n1 z1 : Nat} {F1 : Nat → Option va_E} (o : pg_ops M pc = some (.invokespecial idx, nx, a, b, w)) (hs : Nat.beq a 1 = false) (ha : ev_argI (pg_n a) st = some (x, as, rest)) (he : ev_ent (pg_L a) (.ref x :: as) = some A0) (k1 : Ex X a 0 A0 [] (hp c0 n z F) (fun r h' => r = v ∧ h' = hp c0 n1 z1 F1)) (k2 : Ex X M nx A (v.toList ++ rest) (hp c0 n1 z1 F1) Q) : Ex X M pc A st (hp c0 n z F) Q := by
  refine Ex.call (rest := rest) o rfl ?_ he k1 (fun v' h1 ⟨q1, q2⟩ => by rw [q1, q2]; exact k2)
  have h2 : ¬ a = pg_obj := fun q => by rw [q] at hs; exact absurd hs (by decide)
  simp only [ev_cal, if_neg h2, ha]
theorem Hx.calls {h : ev_H} {as rest A0 : List Value} {Q1 : Option Value → Prop} (o : pg_ops M pc = some (.invokestatic idx, nx, a, b, w)) (hs : (decide (a ∈ pg_sp)) = false) (ha : ev_argS (pg_n a) st = some (as, rest)) (he : ev_ent (pg_L a) as = some A0) (k1 : Sx X a 0 A0 [] Q1) (k2 : ∀ v : Option Value, Q1 v → Ex X M nx A (v.toList ++ rest) h Q) : Ex X M pc A st h Q := by
  refine Ex.call (rest := rest) o rfl ?_ he (k1 h) (fun v' h1 ⟨q1, q2⟩ => by rw [q1]; exact k2 v' q2)
  simp only [ev_cal, if_neg (of_decide_eq_false hs), ha]
theorem Hx.eF {F1 : Nat → Option va_E} (h : F = F1) (k : Ex X M pc A st (hp c0 n z F1) Q) : Ex X M pc A st (hp c0 n z F) Q := h ▸ k
theorem Hx.top {h0 : ev_H} {x y : Int32} (h : x = y) (k : Ex X M pc A (.int y :: r) h0 Q) : Ex X M pc A (.int x :: r) h0 Q := h ▸ k
/-- the script -/
theorem Hx.slen {h : ev_H} (o : pg_ops M pc = some (.arraylength, nx, a, b, w)) (h0 : h.2.2 X.1.1 = none) (kk : Ex X M nx A (.int (nI X.1.2.1) :: r) h Q) : Ex X M pc A (.ref X.1.1 :: r) h Q :=
  Ex.hp o rfl rfl rfl rfl rfl (by simp only [ev_hp, ev_alen, h0]; exact if_pos trivial) kk
theorem Hx.sald {h : ev_H} {j : Int32} (o : pg_ops M pc = some (.iaload, nx, a, b, w)) (h0 : h.2.2 X.1.1 = none) (hj : ¬ (j < 0 ∨ X.1.2.1 ≤ j.toNatClampNeg)) (kk : Ex X M nx A (.int (X.1.2.2 j.toNatClampNeg) :: r) h Q) : Ex X M pc A (.int j :: .ref X.1.1 :: r) h Q :=
  Ex.hp o rfl rfl rfl rfl rfl (by simp only [ev_hp, ev_iald, h0]; exact if_pos ⟨trivial, hj⟩) kk
end HXR
