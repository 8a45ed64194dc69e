section
/-! The class's world: a heap hp c0 n z F of n cells from c0 on; F: the cells by their numbers; z: the slots made. -/
def hp (c0 n z : Nat) (F : Nat → Option va_E) : ev_H := (c0 + n, z, fun o => if o < c0 then none else F (o - c0))
theorem hp_at {c0 n z k : Nat} {F : Nat → Option va_E} : (hp c0 n z F).2.2 (c0 + k) = F k := by
  show (if c0 + k < c0 then none else F (c0 + k - c0)) = F k
  rw [if_neg (by omega), Nat.add_sub_cancel_left]
theorem hp_lo {c0 n z o : Nat} {F : Nat → Option va_E} (h : o < c0) : (hp c0 n z F).2.2 o = none := if_pos h
theorem hp_up {c0 k : Nat} {F : Nat → Option va_E} {e : va_E} : va_up (fun o => if o < c0 then none else F (o - c0)) (c0 + k) (some e) = fun o => if o < c0 then none else va_up F k (some e) (o - c0) := by
  funext o
  by_cases h1 : o < c0
  · simp [va_up, h1, show o ≠ c0 + k by omega]
  · by_cases h2 : o = c0 + k
    · subst h2; simp [va_up]
    · simp [va_up, h1, h2, show o - c0 ≠ k by omega]
theorem hp_set {c0 n z k : Nat} {F : Nat → Option va_E} {e : va_E} : ev_set (hp c0 n z F) (c0 + k) e = hp c0 n z (va_up F k (some e)) := congrArg (fun q => (c0 + n, z, q)) hp_up
theorem hp_new {c0 n z m : Nat} {F : Nat → Option va_E} {e : va_E} : ev_new (hp c0 n z F) m e = hp c0 (n + 1) (z + m) (va_up F n (some e)) := congrArg (fun q => (c0 + (n + 1), z + m, q)) hp_up
theorem va_uu {α : Type} {f : Nat → α} {k : Nat} {a b : α} : va_up (va_up f k a) k b = va_up f k b := by
  funext j
  by_cases h : j = k <;> simp [va_up, h]
/-- the reference's cells are the same -/
def rsm (F F' : Nat → Option va_E) : Prop := ∀ k, 16 ≤ k → k < 26 → F' k = F k
theorem rsm.rf {F : Nat → Option va_E} : rsm F F := fun _ _ _ => rfl
theorem rsm.up {F F' : Nat → Option va_E} {k : Nat} {e : Option va_E} (h : rsm F F') (hk : k < 16 ∨ 26 ≤ k) : rsm F (va_up F' k e) := fun j h1 h2 => by rw [va_up_ne _ _ (by omega)]; exact h j h1 h2
section HXR
variable {X : ev_X} {c0 n z M pc nx a b w idx : Nat} {A st r : List Value} {F : Nat → Option va_E} {Q : Option Value → ev_H → Prop}
theorem Hx.get (k : Nat) {fs : List Value} {v : Value} (o : pg_ops M pc = some (.getfield idx, nx, a, b, w)) (hF : F k = some (.inr (a, fs))) (hv : fs[b]? = some v) (kk : Ex X M nx A (v :: r) (hp c0 n z F) Q) : Ex X M pc A (.ref (c0 + k) :: r) (hp c0 n z F) Q := Ex.get o (hp_at.trans hF) hv kk
theorem Hx.put (k : Nat) {fs : List Value} {v : Value} (o : pg_ops M pc = some (.putfield idx, nx, a, b, w)) (hF : F k = some (.inr (a, fs))) (hl : Nat.ble (b + 1) fs.length = true) (hn : narrow (pg_t a b) v = v) (hf : fits (pg_t a b) v = true) (kk : Ex X M nx A r (hp c0 n z (va_up F k (some (.inr (a, fs.set b v))))) Q) : Ex X M pc A (v :: .ref (c0 + k) :: r) (hp c0 n z F) Q := Ex.put o (hp_at.trans hF) (Nat.le_of_ble_eq_true hl) hn hf (by rw [hp_set]; exact kk)
theorem Hx.bald (k : Nat) {N : Nat} {f : Nat → Int32} {j : Int32} (o : pg_ops M pc = some (.baload, nx, a, b, w)) (hF : F k = some (.inl (0, N, .inl f))) (hj : ¬ (j < 0 ∨ N ≤ j.toNatClampNeg)) (kk : Ex X M nx A (.int (f j.toNatClampNeg) :: r) (hp c0 n z F) Q) : Ex X M pc A (.int j :: .ref (c0 + k) :: r) (hp c0 n z F) Q := Ex.bald o (hp_at.trans hF) hj kk
theorem Hx.bast (k : Nat) {N : Nat} {f : Nat → Int32} {j y : Int32} (o : pg_ops M pc = some (.bastore, nx, a, b, w)) (hF : F k = some (.inl (0, N, .inl f))) (hj : ¬ (j < 0 ∨ N ≤ j.toNatClampNeg)) (kk : Ex X M nx A r (hp c0 n z (va_up F k (some (.inl (0, N, .inl (upd f j.toNatClampNeg (vp_nar .byte y))))))) Q) : Ex X M pc A (.int y :: .int j :: .ref (c0 + k) :: r) (hp c0 n z F) Q := Ex.bast o (hp_at.trans hF) hj (by rw [hp_set]; exact kk)
theorem Hx.aald (k : Nat) {N : Nat} {f : Nat → Option Nat} {j : Int32} (o : pg_ops M pc = some (.aaload, nx, a, b, w)) (hF : F k = some (.inl (2, N, .inr (.inr (.inr (.inr f)))))) (hj : ¬ (j < 0 ∨ N ≤ j.toNatClampNeg)) (kk : Ex X M nx A (va_rf (f j.toNatClampNeg) :: r) (hp c0 n z F) Q) : Ex X M pc A (.int j :: .ref (c0 + k) :: r) (hp c0 n z F) Q := Ex.aald o (hp_at.trans hF) hj kk
theorem Hx.aast (k y : Nat) {N : Nat} {vs : List Value} {f : Nat → Option Nat} {j : Int32} (o : pg_ops M pc = some (.aastore, nx, a, b, w)) (hF : F k = some (.inl (2, N, .inr (.inr (.inr (.inr f)))))) (hy : F y = some (.inr (2, vs))) (hj : ¬ (j < 0 ∨ N ≤ j.toNatClampNeg)) (kk : Ex X M nx A r (hp c0 n z (va_up F k (some (.inl (2, N, .inr (.inr (.inr (.inr (va_up f j.toNatClampNeg (some (c0 + y)))))))))) ) Q) : Ex X M pc A (.ref (c0 + y) :: .int j :: .ref (c0 + k) :: r) (hp c0 n z F) Q := Ex.aast (ci := 2) o (hp_at.trans hF) (hp_at.trans hy) hj (by rw [hp_set]; exact kk)
theorem Hx.alen (k : Nat) {t N : Nat} {f : (Nat → Int32) ⊕ (Nat → Int64) ⊕ (Nat → UInt32) ⊕ (Nat → UInt64) ⊕ (Nat → Option Nat)} (o : pg_ops M pc = some (.arraylength, nx, a, b, w)) (hF : F k = some (.inl (t, N, f))) (ht : Nat.ble (t + 1) 3 = true) (kk : Ex X M nx A (.int (nI N) :: r) (hp c0 n z F) Q) : Ex X M pc A (.ref (c0 + k) :: r) (hp c0 n z F) Q := Ex.alen o (hp_at.trans hF) (Nat.le_of_ble_eq_true ht) kk
theorem Hx.newo {q : vw_C} (o : pg_ops M pc = some (.new idx, nx, a, b, w)) (hq : pg_cl[a]? = some q) (kk : Ex X M nx A (.ref (c0 + n) :: st) (hp c0 (n + 1) (z + q.2.2) (va_up F n (some (.inr (a, pg_D.getD a []))))) Q) : Ex X M pc A st (hp c0 n z F) Q :=
  Ex.hp o rfl rfl rfl rfl rfl (by simp only [ev_hp, ev_newo, hq, hp_new]; rfl) kk
theorem Hx.newb {R : Nat} (o : pg_ops M pc = some (.newarray .byte, nx, 0, b, w)) (hR : R ≤ 1000) (kk : Ex X M nx A (.ref (c0 + n) :: r) (hp c0 (n + 1) (z + R) (va_up F n (some (.inl (0, R, .inl (fun _ => 0)))))) Q) : Ex X M pc A (.int (nI R) :: r) (hp c0 n z F) Q := by
  have e : (nI R).toNatClampNeg = R := nI_clamp (by omega)
  have h3 : ¬ nI R < 0 := nI_pos (by omega)
  refine Ex.hp (st' := .ref (c0 + n) :: r) (h' := hp c0 (n + 1) (z + R) (va_up F n (some (.inl (0, R, .inl (fun _ => 0)))))) o rfl rfl rfl rfl rfl ?_ kk
  have h4 : R * componentBytes (Op.newarray.typeOf .byte) ≤ 536870912 := by
    have : componentBytes (Op.newarray.typeOf .byte) ≤ 8 := by decide
    exact Nat.le_trans (Nat.mul_le_mul hR this) (by decide)
  simp only [ev_hp, ev_newa, e, hp_new]
  rw [if_pos ⟨rfl, Or.inr rfl, h3, h4⟩]
  rfl
theorem Hx.newi {R : Nat} (o : pg_ops M pc = some (.newarray .int, nx, 1, b, w)) (hR : R ≤ 200000) (kk : Ex X M nx A (.ref (c0 + n) :: r) (hp c0 (n + 1) (z + R) (va_up F n (some (.inl (1, R, .inl (fun _ => 0)))))) Q) : Ex X M pc A (.int (nI R) :: r) (hp c0 n z F) Q := by
  have e : (nI R).toNatClampNeg = R := nI_clamp (by omega)
  have h3 : ¬ nI R < 0 := nI_pos (by omega)
  refine Ex.hp (st' := .ref (c0 + n) :: r) (h' := hp c0 (n + 1) (z + R) (va_up F n (some (.inl (1, R, .inl (fun _ => 0)))))) o rfl rfl rfl rfl rfl ?_ kk
  have h4 : R * componentBytes (Op.newarray.typeOf .int) ≤ 536870912 := by
    have : componentBytes (Op.newarray.typeOf .int) ≤ 8 := by decide
    exact Nat.le_trans (Nat.mul_le_mul hR this) (by decide)
  simp only [ev_hp, ev_newa, e, hp_new]
  rw [if_pos ⟨rfl, Or.inl rfl, h3, h4⟩]
  rfl
theorem Hx.newr {R : Nat} (o : pg_ops M pc = some (.anewarray idx, nx, 2, b, w)) (hR : R ≤ 200000) (kk : Ex X M nx A (.ref (c0 + n) :: r) (hp c0 (n + 1) (z + R) (va_up F n (some (.inl (2, R, .inr (.inr (.inr (.inr (fun _ => none))))))))) Q) : Ex X M pc A (.int (nI R) :: r) (hp c0 n z F) Q := by
  have e : (nI R).toNatClampNeg = R := nI_clamp (by omega)
  have h3 : ¬ nI R < 0 := nI_pos (by omega)
  refine Ex.hp (st' := .ref (c0 + n) :: r) (h' := hp c0 (n + 1) (z + R) (va_up F n (some (.inl (2, R, .inr (.inr (.inr (.inr (fun _ => none))))))))) o rfl rfl rfl rfl rfl ?_ kk
  have h5 : pg_ty[2]? = some (.object "TermTable$Term") := rfl
  simp only [ev_hp, ev_anew, e, hp_new, h5]
  rw [if_pos ⟨h3, by omega⟩]
  rfl
theorem Hx.oini {h : ev_H} {x : Nat} (o : pg_ops M pc = some (.invokespecial idx, nx, 1, b, w)) (hs : Nat.ble (r.map fun v => v.category).sum 8 = true) (kk : Ex X M nx A r h Q) : Ex X M pc A (.ref x :: r) h Q :=
  Ex.hp o rfl rfl rfl rfl rfl (by simp only [ev_hp, ev_oini]; exact if_pos ⟨rfl, Nat.le_of_ble_eq_true hs⟩) kk
theorem Hx.max {h : ev_H} {x y : Int32} (o : pg_ops M pc = some (.invokestatic idx, nx, 3, b, w)) (hs : Nat.ble (r.map fun v => v.category).sum 8 = true) (kk : Ex X M nx A (.int (if x < y then y else x) :: r) h Q) : Ex X M pc A (.int y :: .int x :: r) h Q :=
  Ex.hp o rfl rfl rfl rfl rfl (by simp only [ev_hp, ev_math]; rw [if_pos (Nat.le_of_ble_eq_true hs)]; exact if_pos rfl) kk
theorem Hx.call (k : Nat) {as rest A0 fs : List Value} {v : Option Value} {n1 z1 ci : Nat} {F1 : Nat → Option va_E} (o : pg_ops M pc = some (.invokevirtual idx, nx, a, b, w)) (ha : ev_argI (pg_n a) st = some (c0 + k, as, rest)) (hF : F k = some (.inr (ci, fs))) (hc : pg_c a = ci) (he : ev_ent (pg_L a) (.ref (c0 + k) :: as) = some A0) (k1 : Ex X a 0 A0 [] (hp c0 n z F) (fun r h' => r = v ∧ h' = hp c0 n1 z1 F1)) (k2 : Ex X M nx A (v.toList ++ rest) (hp c0 n1 z1 F1) Q) : Ex X M pc A st (hp c0 n z F) Q := by
  refine Ex.call (rest := rest) o rfl ?_ he k1 (fun v' h1 ⟨q1, q2⟩ => by rw [q1, q2]; exact k2)
  have hrc : ev_rcv X (hp c0 n z F) (c0 + k) (pg_c a) = true := by unfold ev_rcv; rw [hp_at, hF, hc]; exact beq_self_eq_true ci
  simp only [ev_cal, ha, hrc, if_true]
theorem Hx.callX (k : Nat) {as rest A0 fs : List Value} {Q1 : Option Value → ev_H → Prop} {ci : Nat} (o : pg_ops M pc = some (.invokevirtual idx, nx, a, b, w)) (ha : ev_argI (pg_n a) st = some (c0 + k, as, rest)) (hF : F k = some (.inr (ci, fs))) (hc : pg_c a = ci) (he : ev_ent (pg_L a) (.ref (c0 + k) :: as) = some A0) (k1 : Ex X a 0 A0 [] (hp c0 n z F) Q1) (k2 : ∀ v h1, Q1 v h1 → Ex X M nx A (v.toList ++ rest) h1 Q) : Ex X M pc A st (hp c0 n z F) Q := by
  refine Ex.call (rest := rest) o rfl ?_ he k1 k2
  have hrc : ev_rcv X (hp c0 n z F) (c0 + k) (pg_c a) = true := by unfold ev_rcv; rw [hp_at, hF, hc]; exact beq_self_eq_true ci
  simp only [ev_cal, ha, hrc, if_true]
theorem Hx.callp {x : Nat} {as rest A0 : List Value} {v : Option Value} {n1 z1 : Nat} {F1 : Nat → Option va_E} (o : pg_ops M pc = some (.invokespecial idx, nx, a, b, w)) (hs : Nat.beq a 1 = false) (ha : ev_argI (pg_n a) st = some (x, as, rest)) (he : ev_ent (pg_L a) (.ref x :: as) = some A0) (k1 : Ex X a 0 A0 [] (hp c0 n z F) (fun r h' => r = v ∧ h' = hp c0 n1 z1 F1)) (k2 : Ex X M nx A (v.toList ++ rest) (hp c0 n1 z1 F1) Q) : Ex X M pc A st (hp c0 n z F) Q := by
  refine Ex.call (rest := rest) o rfl ?_ he k1 (fun v' h1 ⟨q1, q2⟩ => by rw [q1, q2]; exact k2)
  have h2 : ¬ a = pg_obj := fun q => by rw [q] at hs; exact absurd hs (by decide)
  simp only [ev_cal, if_neg h2, ha]
theorem Hx.calls {h : ev_H} {as rest A0 : List Value} {Q1 : Option Value → Prop} (o : pg_ops M pc = some (.invokestatic idx, nx, a, b, w)) (hs : (decide (a ∈ pg_sp)) = false) (ha : ev_argS (pg_n a) st = some (as, rest)) (he : ev_ent (pg_L a) as = some A0) (k1 : Sx X a 0 A0 [] Q1) (k2 : ∀ v : Option Value, Q1 v → Ex X M nx A (v.toList ++ rest) h Q) : Ex X M pc A st h Q := by
  refine Ex.call (rest := rest) o rfl ?_ he (k1 h) (fun v' h1 ⟨q1, q2⟩ => by rw [q1]; exact k2 v' q2)
  simp only [ev_cal, if_neg (of_decide_eq_false hs), ha]
theorem Hx.eF {F1 : Nat → Option va_E} (h : F = F1) (k : Ex X M pc A st (hp c0 n z F1) Q) : Ex X M pc A st (hp c0 n z F) Q := h ▸ k
theorem Hx.top {h0 : ev_H} {x y : Int32} (h : x = y) (k : Ex X M pc A (.int y :: r) h0 Q) : Ex X M pc A (.int x :: r) h0 Q := h ▸ k
/-- the script -/
theorem Hx.slen {h : ev_H} (o : pg_ops M pc = some (.arraylength, nx, a, b, w)) (h0 : h.2.2 X.1.1 = none) (kk : Ex X M nx A (.int (nI X.1.2.1) :: r) h Q) : Ex X M pc A (.ref X.1.1 :: r) h Q :=
  Ex.hp o rfl rfl rfl rfl rfl (by simp only [ev_hp, ev_alen, h0]; exact if_pos trivial) kk
theorem Hx.sald {h : ev_H} {j : Int32} (o : pg_ops M pc = some (.iaload, nx, a, b, w)) (h0 : h.2.2 X.1.1 = none) (hj : ¬ (j < 0 ∨ X.1.2.1 ≤ j.toNatClampNeg)) (kk : Ex X M nx A (.int (X.1.2.2 j.toNatClampNeg) :: r) h Q) : Ex X M pc A (.int j :: .ref X.1.1 :: r) h Q :=
  Ex.hp o rfl rfl rfl rfl rfl (by simp only [ev_hp, ev_iald, h0]; exact if_pos ⟨trivial, hj⟩) kk
end HXR
end
section
/-! Rows of the class. (rows laid by wip/whole/h1.py) -/
theorem i2b_nar {b : Int32} : vp_nar .byte b.toInt8.toInt32 = vp_nar .byte b := by
  simp [vp_nar, narrow]
set_option maxRecDepth 100000 in
set_option maxHeartbeats 1000000 in
theorem hx_size {X : ev_X} {c0 n z : Nat} {F : Nat → Option va_E} (k : Nat) {v : Value} {l : Int32} (h : F k = some (.inr (1, [v, .int l]))) : Ex X m_Row_size 0 [.ref (c0 + k)] [] (hp c0 n z F) (fun r h' => r = some (.int l) ∧ h' = hp c0 n z F) := by
  refine Ex.nx rfl ?_
  refine Hx.get k rfl h rfl ?_
  exact Ex.ret rfl (ev_reti rfl) ⟨rfl, rfl⟩
set_option maxRecDepth 100000 in
set_option maxHeartbeats 1000000 in
theorem hx_clear {X : ev_X} {c0 n z : Nat} {F : Nat → Option va_E} (k : Nat) {v : Value} {l : Int32} (h : F k = some (.inr (1, [v, .int l]))) : Ex X m_Row_clear 0 [.ref (c0 + k)] [] (hp c0 n z F) (fun r h' => r = none ∧ h' = hp c0 n z (va_up F k (some (.inr (1, [v, .int 0]))))) := by
  refine Ex.nx rfl ?_
  refine Ex.nx rfl ?_
  refine Hx.put k rfl h rfl rfl rfl ?_
  exact Ex.ret rfl rfl ⟨rfl, rfl⟩
set_option maxRecDepth 100000 in
set_option maxHeartbeats 1000000 in
theorem hx_at_lt {X : ev_X} {c0 n z : Nat} {F : Nat → Option va_E} (k ka : Nat) {l N : Nat} {f : Nat → Int32} (h : F k = some (.inr (1, [.ref (c0 + ka), .int (nI l)]))) (ha : F ka = some (.inl (0, N, .inl f))) (hN : N ≤ 1000) (hl : l ≤ N) {i : Nat} (hi : i < l) : Ex X m_Row_at 0 [.ref (c0 + k), .int (nI i)] [] (hp c0 n z F) (fun r h' => r = some (.int (f i &&& 255)) ∧ h' = hp c0 n z F) := by
  refine Ex.nx rfl ?_
  refine Ex.nx rfl ?_
  refine Ex.ite (fun c1 => ?_) (fun c1 => ?_)
  · replace c1 : (nI i) < 0 := of_decide_eq_true c1
    exact absurd c1 (nI_pos (by omega))
  · replace c1 : ¬ (nI i) < 0 := of_decide_eq_false c1
    show Ex X m_Row_at 4 [.ref (c0 + k), .int (nI i)] [] (hp c0 n _ _) _
    refine Ex.nx rfl ?_
    refine Ex.nx rfl ?_
    refine Hx.get k rfl h rfl ?_
    refine Ex.nx rfl ?_
    refine Ex.ite (fun c2 => ?_) (fun c2 => ?_)
    · replace c2 : (nI l) ≤ (nI i) := of_decide_eq_true c2
      exact absurd ((nI_leI (by omega) (by omega)).mp c2) (by omega)
    · replace c2 : ¬ (nI l) ≤ (nI i) := of_decide_eq_false c2
      show Ex X m_Row_at 12 [.ref (c0 + k), .int (nI i)] [] (hp c0 n _ _) _
      refine Ex.nx rfl ?_
      refine Ex.nx rfl ?_
      refine Hx.get k rfl h rfl ?_
      refine Hx.alen ka rfl ha rfl ?_
      refine Ex.nx rfl ?_
      refine Ex.ite (fun c3 => ?_) (fun c3 => ?_)
      · replace c3 : (nI N) ≤ (nI i) := of_decide_eq_true c3
        exact absurd ((nI_leI (by omega) (by omega)).mp c3) (by omega)
      · replace c3 : ¬ (nI N) ≤ (nI i) := of_decide_eq_false c3
        show Ex X m_Row_at 21 [.ref (c0 + k), .int (nI i)] [] (hp c0 n _ _) _
        refine Ex.nx rfl ?_
        refine Hx.get k rfl h rfl ?_
        refine Ex.nx rfl ?_
        refine Hx.bald ka rfl ha (nI_in (by omega) (by omega)) ?_
        refine Ex.nx rfl ?_
        refine Ex.nx rfl ?_
        refine Ex.nx rfl ?_
        rw [nI_clamp (by omega)]; exact Ex.ret rfl (ev_reti rfl) ⟨rfl, rfl⟩
set_option maxRecDepth 100000 in
set_option maxHeartbeats 1000000 in
theorem hx_at_ge {X : ev_X} {c0 n z : Nat} {F : Nat → Option va_E} (k ka : Nat) {l N : Nat} {f : Nat → Int32} (h : F k = some (.inr (1, [.ref (c0 + ka), .int (nI l)]))) (ha : F ka = some (.inl (0, N, .inl f))) (hN : N ≤ 1000) (hl : l ≤ N) {i : Nat} (hi : l ≤ i) (hi2 : i < 2 ^ 31) : Ex X m_Row_at 0 [.ref (c0 + k), .int (nI i)] [] (hp c0 n z F) (fun r h' => r = some (.int (-1)) ∧ h' = hp c0 n z F) := by
  refine Ex.nx rfl ?_
  refine Ex.nx rfl ?_
  refine Ex.ite (fun c1 => ?_) (fun c1 => ?_)
  · replace c1 : (nI i) < 0 := of_decide_eq_true c1
    exact absurd c1 (nI_pos (by omega))
  · replace c1 : ¬ (nI i) < 0 := of_decide_eq_false c1
    show Ex X m_Row_at 4 [.ref (c0 + k), .int (nI i)] [] (hp c0 n _ _) _
    refine Ex.nx rfl ?_
    refine Ex.nx rfl ?_
    refine Hx.get k rfl h rfl ?_
    refine Ex.nx rfl ?_
    refine Ex.ite (fun c2 => ?_) (fun c2 => ?_)
    · replace c2 : (nI l) ≤ (nI i) := of_decide_eq_true c2
      show Ex X m_Row_at 34 [.ref (c0 + k), .int (nI i)] [] (hp c0 n _ _) _
      refine Ex.nx rfl ?_
      exact Ex.ret rfl (ev_reti rfl) ⟨rfl, rfl⟩
    · replace c2 : ¬ (nI l) ≤ (nI i) := of_decide_eq_false c2
      exact absurd ((nI_leI (by omega) (by omega)).mpr hi) c2
set_option maxRecDepth 100000 in
set_option maxHeartbeats 1000000 in
theorem hx_add {X : ev_X} {c0 n z : Nat} {F : Nat → Option va_E} (k ka : Nat) {l N : Nat} {f : Nat → Int32} (h : F k = some (.inr (1, [.ref (c0 + ka), .int (nI l)]))) (ha : F ka = some (.inl (0, N, .inl f))) (hN : N ≤ 1000) (hl : l < N) (hne : k ≠ ka) (b : Int32) : Ex X m_Row_add 0 [.ref (c0 + k), .int b] [] (hp c0 n z F) (fun r h' => r = none ∧ h' = hp c0 n z (va_up (va_up F ka (some (.inl (0, N, .inl (upd f l (vp_nar .byte b)))))) k (some (.inr (1, [.ref (c0 + ka), .int (nI (l + 1))]))))) := by
  refine Ex.nx rfl ?_
  refine Hx.get k rfl h rfl ?_
  refine Ex.nx rfl ?_
  refine Ex.ite (fun c1 => ?_) (fun c1 => ?_)
  · replace c1 : (nI l) < 0 := of_decide_eq_true c1
    exact absurd c1 (nI_pos (by omega))
  · replace c1 : ¬ (nI l) < 0 := of_decide_eq_false c1
    show Ex X m_Row_add 7 [.ref (c0 + k), .int b] [] (hp c0 n _ _) _
    refine Ex.nx rfl ?_
    refine Hx.get k rfl h rfl ?_
    refine Ex.nx rfl ?_
    refine Hx.get k rfl h rfl ?_
    refine Hx.alen ka rfl ha rfl ?_
    refine Ex.nx rfl ?_
    refine Ex.ite (fun c2 => ?_) (fun c2 => ?_)
    · replace c2 : (nI N) ≤ (nI l) := of_decide_eq_true c2
      exact absurd ((nI_leI (by omega) (by omega)).mp c2) (by omega)
    · replace c2 : ¬ (nI N) ≤ (nI l) := of_decide_eq_false c2
      show Ex X m_Row_add 19 [.ref (c0 + k), .int b] [] (hp c0 n _ _) _
      refine Ex.nx rfl ?_
      refine Hx.get k rfl h rfl ?_
      refine Ex.nx rfl ?_
      refine Hx.get k rfl h rfl ?_
      refine Ex.nx rfl ?_
      refine Ex.nx rfl ?_
      refine Hx.bast ka rfl ha (nI_in (by omega) (by omega)) ?_
      refine Ex.nx rfl ?_
      refine Ex.nx rfl ?_
      refine Hx.get k rfl ((va_up_ne _ _ hne).trans h) rfl ?_
      refine Ex.nx rfl ?_
      refine Ex.nx rfl ?_
      refine Hx.put k rfl ((va_up_ne _ _ hne).trans h) rfl rfl rfl ?_
      refine Ex.ret rfl rfl ⟨rfl, ?_⟩
      rw [nI_clamp (by omega), i2b_nar, show nI l + Int32.ofInt 1 = nI (l + 1) from nI_1 l]
      rfl
set_option maxRecDepth 100000 in
set_option maxHeartbeats 1000000 in
theorem hx_Row {X : ev_X} {c0 n z : Nat} {F : Nat → Option va_E} (k : Nat) {R : Nat} (h : F k = some (.inr (1, [.null, .int 0]))) (hR : R ≤ 1000) (hk : k ≠ n) : Ex X m_Row_new 0 [.ref (c0 + k), .int (nI R)] [] (hp c0 n z F) (fun r h' => r = none ∧ h' = hp c0 (n + 1) (z + R) (va_up (va_up F n (some (.inl (0, R, .inl (fun _ => 0))))) k (some (.inr (1, [.ref (c0 + n), .int 0]))))) := by
  refine Ex.nx rfl ?_
  refine Hx.oini rfl rfl ?_
  show Ex X m_Row_new 4 [.ref (c0 + k), .int (nI R)] [] (hp c0 n _ _) _
  refine Ex.nx rfl ?_
  refine Ex.nx rfl ?_
  refine Ex.nx rfl ?_
  refine Hx.max rfl rfl ?_
  rw [if_neg (show ¬ nI R < Int32.ofInt 0 from nI_pos (by omega))]
  show Ex X m_Row_new 10 [.ref (c0 + k), .int (nI R)] [.int (nI R), .ref (c0 + k)] (hp c0 n _ _) _
  refine Hx.newb (R := R) rfl hR ?_
  show Ex X m_Row_new 12 [.ref (c0 + k), .int (nI R)] [.ref (c0 + n), .ref (c0 + k)] (hp c0 (n + 1) _ _) _
  refine Hx.put k rfl ((va_up_ne _ _ hk).trans h) rfl rfl rfl ?_
  refine Ex.nx rfl ?_
  refine Ex.nx rfl ?_
  refine Hx.put k rfl (va_up_self _ _ _) rfl rfl rfl ?_
  exact Ex.ret rfl rfl ⟨rfl, by rw [va_uu]; rfl⟩
theorem tm_eq {F : Nat → Option va_E} {k n : Nat} {a b c d e x y u : Option va_E} (hk : k < n) : va_up (va_up (va_up (va_up (va_up (va_up (va_up (va_up F n x) (n + 1) a) n b) k y) (n + 1 + 1) u) (n + 1 + 1 + 1) c) (n + 1 + 1) d) k e = va_up (va_up (va_up (va_up (va_up F n b) (n + 1) a) (n + 2) d) (n + 3) c) k e := by
  funext j
  simp only [va_up]
  by_cases h1 : j = k
  · simp [h1]
  · by_cases h2 : j = n
    · simp [h1, h2, show ¬ n = k by omega, show ¬ n = n + 1 + 1 by omega, show ¬ n = n + 1 + 1 + 1 by omega, show ¬ n = n + 2 by omega, show ¬ n = n + 3 by omega]
    · by_cases h3 : j = n + 1
      · simp [h1, h2, h3, show ¬ n + 1 = k by omega]
      · by_cases h4 : j = n + 2
        · simp [h1, h2, h3, h4, show ¬ n + 2 = k by omega]
        · simp [h1, h2, h3, h4]
set_option maxRecDepth 100000 in
set_option maxHeartbeats 1000000 in
theorem hx_Term {X : ev_X} {c0 n z : Nat} {F : Nat → Option va_E} (k : Nat) {R1 R2 : Nat} (h : F k = some (.inr (2, [.int 0, .long 0, .int 0, .null, .null]))) (hR1 : R1 ≤ 1000) (hR2 : R2 ≤ 1000) (hk : k < n) : Ex X m_Term_new 0 [.ref (c0 + k), .int (nI R1), .int (nI R2)] [] (hp c0 n z F) (fun r h' => r = none ∧ h' = hp c0 (n + 4) (z + (4 + R1 + R2)) (va_up (va_up (va_up (va_up (va_up F n (some (.inr (1, [.ref (c0 + (n + 1)), .int 0])))) (n + 1) (some (.inl (0, R1, .inl (fun _ => 0))))) (n + 2) (some (.inr (1, [.ref (c0 + (n + 3)), .int 0])))) (n + 3) (some (.inl (0, R2, .inl (fun _ => 0))))) k (some (.inr (2, [.int 0, .long 0, .int 0, .ref (c0 + n), .ref (c0 + (n + 2))]))))) := by
  refine Ex.nx rfl ?_
  refine Hx.oini rfl rfl ?_
  show Ex X m_Term_new 4 [.ref (c0 + k), .int (nI R1), .int (nI R2)] [] (hp c0 n _ _) _
  refine Ex.nx rfl ?_
  refine Hx.newo rfl rfl ?_
  show Ex X m_Term_new 8 [.ref (c0 + k), .int (nI R1), .int (nI R2)] [.ref (c0 + n), .ref (c0 + k)] (hp c0 (n + 1) _ _) _
  refine Ex.nx rfl ?_
  refine Ex.nx rfl ?_
  refine Hx.callp rfl rfl rfl rfl (hx_Row n (R := R1) (va_up_self _ _ _) hR1 (by omega)) ?_
  show Ex X m_Term_new 13 [.ref (c0 + k), .int (nI R1), .int (nI R2)] [.ref (c0 + n), .ref (c0 + k)] (hp c0 (n + 1 + 1) _ _) _
  refine Hx.put k rfl ((va_up_ne _ _ (by omega)).trans ((va_up_ne _ _ (by omega)).trans ((va_up_ne _ _ (by omega)).trans h))) rfl rfl rfl ?_
  refine Ex.nx rfl ?_
  refine Hx.newo rfl rfl ?_
  show Ex X m_Term_new 20 [.ref (c0 + k), .int (nI R1), .int (nI R2)] [.ref (c0 + (n + 1 + 1)), .ref (c0 + k)] (hp c0 (n + 1 + 1 + 1) _ _) _
  refine Ex.nx rfl ?_
  refine Ex.nx rfl ?_
  refine Hx.callp rfl rfl rfl rfl (hx_Row (n + 1 + 1) (R := R2) (va_up_self _ _ _) hR2 (by omega)) ?_
  show Ex X m_Term_new 25 [.ref (c0 + k), .int (nI R1), .int (nI R2)] [.ref (c0 + (n + 1 + 1)), .ref (c0 + k)] (hp c0 (n + 1 + 1 + 1 + 1) _ _) _
  refine Hx.put k rfl ((va_up_ne _ _ (by omega)).trans ((va_up_ne _ _ (by omega)).trans ((va_up_ne _ _ (by omega)).trans (va_up_self _ _ _)))) rfl rfl rfl ?_
  refine Ex.ret rfl rfl ⟨rfl, ?_⟩
  rw [tm_eq hk, show z + 2 + R1 + 2 + R2 = z + (4 + R1 + R2) by omega]
  rfl
set_option maxRecDepth 100000 in
set_option maxHeartbeats 1000000 in
theorem hx_Reader {X : ev_X} {c0 n z : Nat} {F : Nat → Option va_E} (h : F 8 = some (.inr (0, [.null, .int 0, .int 0]))) : Ex X m_Reader_new 0 [.ref (c0 + 8), .ref (c0 + 3)] [] (hp c0 n z F) (fun r h' => r = none ∧ h' = hp c0 n z (va_up (va_up (va_up F 8 (some (.inr (0, [.ref (c0 + 3), .int 0, .int 0])))) 8 (some (.inr (0, [.ref (c0 + 3), .int 0, .int 0])))) 8 (some (.inr (0, [.ref (c0 + 3), .int 0, .int 0]))))) := by
  refine Ex.nx rfl ?_
  refine Hx.oini rfl rfl ?_
  show Ex X m_Reader_new 4 [.ref (c0 + 8), .ref (c0 + 3)] [] (hp c0 n _ _) _
  refine Ex.nx rfl ?_
  refine Ex.nx rfl ?_
  refine Hx.put 8 rfl h rfl rfl rfl ?_
  refine Ex.nx rfl ?_
  refine Ex.nx rfl ?_
  refine Hx.put 8 rfl rfl rfl rfl rfl ?_
  refine Ex.nx rfl ?_
  refine Ex.nx rfl ?_
  refine Hx.put 8 rfl rfl rfl rfl rfl ?_
  exact Ex.ret rfl rfl ⟨rfl, rfl⟩
set_option maxRecDepth 100000 in
set_option maxHeartbeats 1000000 in
theorem hx_Terms {X : ev_X} {c0 z : Nat} {F : Nat → Option va_E} (h : F 9 = some (.inr (3, [.null, .int 0, .int 0]))) : Ex X m_Terms_new 0 [.ref (c0 + 9)] [] (hp c0 10 z F) (fun r h' => r = none ∧ h' = hp c0 11 (z + 2000) (va_up (va_up (va_up (va_up F 10 (some (.inl (2, 2000, .inr (.inr (.inr (.inr (fun _ => none)))))))) 9 (some (.inr (3, [.ref (c0 + 10), .int 0, .int 0])))) 9 (some (.inr (3, [.ref (c0 + 10), .int 0, .int 0])))) 9 (some (.inr (3, [.ref (c0 + 10), .int 0, .int 0]))))) := by
  refine Ex.nx rfl ?_
  refine Hx.oini rfl rfl ?_
  show Ex X m_Terms_new 4 [.ref (c0 + 9)] [] (hp c0 10 _ _) _
  refine Ex.nx rfl ?_
  refine Ex.nx rfl ?_
  refine Hx.newr (R := 2000) rfl (by decide) ?_
  show Ex X m_Terms_new 11 [.ref (c0 + 9)] [.ref (c0 + 10), .ref (c0 + 9)] (hp c0 11 _ _) _
  refine Hx.put 9 rfl h rfl rfl rfl ?_
  refine Ex.nx rfl ?_
  refine Ex.nx rfl ?_
  refine Hx.put 9 rfl rfl rfl rfl rfl ?_
  refine Ex.nx rfl ?_
  refine Ex.nx rfl ?_
  refine Hx.put 9 rfl rfl rfl rfl rfl ?_
  exact Ex.ret rfl rfl ⟨rfl, rfl⟩
set_option maxRecDepth 100000 in
set_option maxHeartbeats 1000000 in
theorem hx_Writer {X : ev_X} {c0 z : Nat} {F : Nat → Option va_E} (h : F 11 = some (.inr (4, [.null, .null]))) : Ex X m_Writer_new 0 [.ref (c0 + 11)] [] (hp c0 12 z F) (fun r h' => r = none ∧ h' = hp c0 16 (z + 2 + 194 + 2 + 18) (va_up (va_up (va_up (va_up (va_up (va_up (va_up (va_up F 12 (some (.inr (1, [.null, .int 0])))) 13 (some (.inl (0, 194, .inl (fun _ => 0))))) 12 (some (.inr (1, [.ref (c0 + 13), .int 0])))) 11 (some (.inr (4, [.ref (c0 + 12), .null])))) 14 (some (.inr (1, [.null, .int 0])))) 15 (some (.inl (0, 18, .inl (fun _ => 0))))) 14 (some (.inr (1, [.ref (c0 + 15), .int 0])))) 11 (some (.inr (4, [.ref (c0 + 12), .ref (c0 + 14)]))))) := by
  refine Ex.nx rfl ?_
  refine Hx.oini rfl rfl ?_
  show Ex X m_Writer_new 4 [.ref (c0 + 11)] [] (hp c0 12 _ _) _
  refine Ex.nx rfl ?_
  refine Hx.newo rfl rfl ?_
  show Ex X m_Writer_new 8 [.ref (c0 + 11)] [.ref (c0 + 12), .ref (c0 + 11)] (hp c0 13 _ _) _
  refine Ex.nx rfl ?_
  refine Ex.nx rfl ?_
  refine Hx.callp rfl rfl rfl rfl (hx_Row 12 (R := 194) rfl (by decide) (by decide)) ?_
  show Ex X m_Writer_new 15 [.ref (c0 + 11)] [.ref (c0 + 12), .ref (c0 + 11)] (hp c0 14 _ _) _
  refine Hx.put 11 rfl h rfl rfl rfl ?_
  refine Ex.nx rfl ?_
  refine Hx.newo rfl rfl ?_
  show Ex X m_Writer_new 22 [.ref (c0 + 11)] [.ref (c0 + 14), .ref (c0 + 11)] (hp c0 15 _ _) _
  refine Ex.nx rfl ?_
  refine Ex.nx rfl ?_
  refine Hx.callp rfl rfl rfl rfl (hx_Row 14 (R := 18) rfl (by decide) (by decide)) ?_
  show Ex X m_Writer_new 28 [.ref (c0 + 11)] [.ref (c0 + 14), .ref (c0 + 11)] (hp c0 16 _ _) _
  refine Hx.put 11 rfl rfl rfl rfl rfl ?_
  exact Ex.ret rfl rfl ⟨rfl, rfl⟩
set_option maxRecDepth 100000 in
set_option maxHeartbeats 1000000 in
theorem hx_Tab {X : ev_X} {c0 z : Nat} {F : Nat → Option va_E} (h : F 0 = some (.inr (5, [.null, .null, .null, .null, .null]))) : Ex X m_Tab_new 0 [.ref (c0 + 0)] [] (hp c0 1 z F) (fun r h' => r = none ∧ h' = hp c0 16 (z + 2 + 240 + 5 + (4 + 64 + 60) + 3 + 3 + 2000 + 2 + 2 + 194 + 2 + 18) (va_up (va_up (va_up (va_up (va_up (va_up (va_up (va_up (va_up (va_up (va_up (va_up (va_up (va_up (va_up (va_up (va_up (va_up (va_up (va_up (va_up (va_up (va_up (va_up (va_up (va_up (va_up (va_up (va_up (va_up (va_up (va_up F 1 (some (.inr (1, [.null, .int 0])))) 2 (some (.inl (0, 240, .inl (fun _ => 0))))) 1 (some (.inr (1, [.ref (c0 + 2), .int 0])))) 0 (some (.inr (5, [.ref (c0 + 1), .null, .null, .null, .null])))) 3 (some (.inr (2, [.int 0, .long 0, .int 0, .null, .null])))) 4 (some (.inr (1, [.ref (c0 + 5), .int 0])))) 5 (some (.inl (0, 64, .inl (fun _ => 0))))) 6 (some (.inr (1, [.ref (c0 + 7), .int 0])))) 7 (some (.inl (0, 60, .inl (fun _ => 0))))) 3 (some (.inr (2, [.int 0, .long 0, .int 0, .ref (c0 + 4), .ref (c0 + 6)])))) 0 (some (.inr (5, [.ref (c0 + 1), .ref (c0 + 3), .null, .null, .null])))) 8 (some (.inr (0, [.null, .int 0, .int 0])))) 8 (some (.inr (0, [.ref (c0 + 3), .int 0, .int 0])))) 8 (some (.inr (0, [.ref (c0 + 3), .int 0, .int 0])))) 8 (some (.inr (0, [.ref (c0 + 3), .int 0, .int 0])))) 0 (some (.inr (5, [.ref (c0 + 1), .ref (c0 + 3), .ref (c0 + 8), .null, .null])))) 9 (some (.inr (3, [.null, .int 0, .int 0])))) 10 (some (.inl (2, 2000, .inr (.inr (.inr (.inr (fun _ => none)))))))) 9 (some (.inr (3, [.ref (c0 + 10), .int 0, .int 0])))) 9 (some (.inr (3, [.ref (c0 + 10), .int 0, .int 0])))) 9 (some (.inr (3, [.ref (c0 + 10), .int 0, .int 0])))) 0 (some (.inr (5, [.ref (c0 + 1), .ref (c0 + 3), .ref (c0 + 8), .ref (c0 + 9), .null])))) 11 (some (.inr (4, [.null, .null])))) 12 (some (.inr (1, [.null, .int 0])))) 13 (some (.inl (0, 194, .inl (fun _ => 0))))) 12 (some (.inr (1, [.ref (c0 + 13), .int 0])))) 11 (some (.inr (4, [.ref (c0 + 12), .null])))) 14 (some (.inr (1, [.null, .int 0])))) 15 (some (.inl (0, 18, .inl (fun _ => 0))))) 14 (some (.inr (1, [.ref (c0 + 15), .int 0])))) 11 (some (.inr (4, [.ref (c0 + 12), .ref (c0 + 14)])))) 0 (some (.inr (5, [.ref (c0 + 1), .ref (c0 + 3), .ref (c0 + 8), .ref (c0 + 9), .ref (c0 + 11)]))))) := by
  refine Ex.nx rfl ?_
  refine Hx.oini rfl rfl ?_
  show Ex X m_Tab_new 4 [.ref (c0 + 0)] [] (hp c0 1 _ _) _
  refine Ex.nx rfl ?_
  refine Hx.newo rfl rfl ?_
  show Ex X m_Tab_new 8 [.ref (c0 + 0)] [.ref (c0 + 1), .ref (c0 + 0)] (hp c0 2 _ _) _
  refine Ex.nx rfl ?_
  refine Ex.nx rfl ?_
  refine Hx.callp rfl rfl rfl rfl (hx_Row 1 (R := 240) rfl (by decide) (by decide)) ?_
  show Ex X m_Tab_new 15 [.ref (c0 + 0)] [.ref (c0 + 1), .ref (c0 + 0)] (hp c0 3 _ _) _
  refine Hx.put 0 rfl h rfl rfl rfl ?_
  refine Ex.nx rfl ?_
  refine Hx.newo rfl rfl ?_
  show Ex X m_Tab_new 22 [.ref (c0 + 0)] [.ref (c0 + 3), .ref (c0 + 0)] (hp c0 4 _ _) _
  refine Ex.nx rfl ?_
  refine Ex.nx rfl ?_
  refine Ex.nx rfl ?_
  refine Hx.callp rfl rfl rfl rfl (hx_Term 3 (R1 := 64) (R2 := 60) rfl (by decide) (by decide) (by decide)) ?_
  show Ex X m_Tab_new 30 [.ref (c0 + 0)] [.ref (c0 + 3), .ref (c0 + 0)] (hp c0 8 _ _) _
  refine Hx.put 0 rfl rfl rfl rfl rfl ?_
  refine Ex.nx rfl ?_
  refine Hx.newo rfl rfl ?_
  show Ex X m_Tab_new 37 [.ref (c0 + 0)] [.ref (c0 + 8), .ref (c0 + 0)] (hp c0 9 _ _) _
  refine Ex.nx rfl ?_
  refine Ex.nx rfl ?_
  refine Hx.get 0 rfl rfl rfl ?_
  refine Hx.callp rfl rfl rfl rfl (hx_Reader rfl) ?_
  show Ex X m_Tab_new 45 [.ref (c0 + 0)] [.ref (c0 + 8), .ref (c0 + 0)] (hp c0 9 _ _) _
  refine Hx.put 0 rfl rfl rfl rfl rfl ?_
  refine Ex.nx rfl ?_
  refine Hx.newo rfl rfl ?_
  show Ex X m_Tab_new 52 [.ref (c0 + 0)] [.ref (c0 + 9), .ref (c0 + 0)] (hp c0 10 _ _) _
  refine Ex.nx rfl ?_
  refine Hx.callp rfl rfl rfl rfl (hx_Terms rfl) ?_
  show Ex X m_Tab_new 56 [.ref (c0 + 0)] [.ref (c0 + 9), .ref (c0 + 0)] (hp c0 11 _ _) _
  refine Hx.put 0 rfl rfl rfl rfl rfl ?_
  refine Ex.nx rfl ?_
  refine Hx.newo rfl rfl ?_
  show Ex X m_Tab_new 63 [.ref (c0 + 0)] [.ref (c0 + 11), .ref (c0 + 0)] (hp c0 12 _ _) _
  refine Ex.nx rfl ?_
  refine Hx.callp rfl rfl rfl rfl (hx_Writer rfl) ?_
  show Ex X m_Tab_new 67 [.ref (c0 + 0)] [.ref (c0 + 11), .ref (c0 + 0)] (hp c0 16 _ _) _
  refine Hx.put 0 rfl rfl rfl rfl rfl ?_
  exact Ex.ret rfl rfl ⟨rfl, rfl⟩
set_option maxRecDepth 100000 in
set_option maxHeartbeats 1000000 in
theorem hx_Mod {X : ev_X} {c0 z : Nat} {F : Nat → Option va_E} (h : F 16 = some (.inr (6, [.null, .int 0, .int 0, .null, .null, .null, .null, .int 0, .int 0, .null, .int 0, .int 0, .int 0, .int 0, .null, .int 0, .int 0, .int 0, .int 0, .int 0, .null, .null, .int 0, .int 0]))) : Ex X m_Mod_new 0 [.ref (c0 + 16)] [] (hp c0 17 z F) (fun r h' => r = none ∧ h' = hp c0 26 (z + 240 + 132000 + 2002 + 2002 + 2002 + 260 + 260 + 240 + 40) (va_up (va_up (va_up (va_up (va_up (va_up (va_up (va_up (va_up (va_up (va_up (va_up (va_up (va_up (va_up (va_up (va_up (va_up F 17 (some (.inl (1, 240, .inl (fun _ => 0))))) 16 (some (.inr (6, [.ref (c0 + 17), .int 0, .int 0, .null, .null, .null, .null, .int 0, .int 0, .null, .int 0, .int 0, .int 0, .int 0, .null, .int 0, .int 0, .int 0, .int 0, .int 0, .null, .null, .int 0, .int 0])))) 18 (some (.inl (1, 132000, .inl (fun _ => 0))))) 16 (some (.inr (6, [.ref (c0 + 17), .int 0, .int 0, .ref (c0 + 18), .null, .null, .null, .int 0, .int 0, .null, .int 0, .int 0, .int 0, .int 0, .null, .int 0, .int 0, .int 0, .int 0, .int 0, .null, .null, .int 0, .int 0])))) 19 (some (.inl (1, 2002, .inl (fun _ => 0))))) 16 (some (.inr (6, [.ref (c0 + 17), .int 0, .int 0, .ref (c0 + 18), .ref (c0 + 19), .null, .null, .int 0, .int 0, .null, .int 0, .int 0, .int 0, .int 0, .null, .int 0, .int 0, .int 0, .int 0, .int 0, .null, .null, .int 0, .int 0])))) 20 (some (.inl (1, 2002, .inl (fun _ => 0))))) 16 (some (.inr (6, [.ref (c0 + 17), .int 0, .int 0, .ref (c0 + 18), .ref (c0 + 19), .ref (c0 + 20), .null, .int 0, .int 0, .null, .int 0, .int 0, .int 0, .int 0, .null, .int 0, .int 0, .int 0, .int 0, .int 0, .null, .null, .int 0, .int 0])))) 21 (some (.inl (1, 2002, .inl (fun _ => 0))))) 16 (some (.inr (6, [.ref (c0 + 17), .int 0, .int 0, .ref (c0 + 18), .ref (c0 + 19), .ref (c0 + 20), .ref (c0 + 21), .int 0, .int 0, .null, .int 0, .int 0, .int 0, .int 0, .null, .int 0, .int 0, .int 0, .int 0, .int 0, .null, .null, .int 0, .int 0])))) 22 (some (.inl (1, 260, .inl (fun _ => 0))))) 16 (some (.inr (6, [.ref (c0 + 17), .int 0, .int 0, .ref (c0 + 18), .ref (c0 + 19), .ref (c0 + 20), .ref (c0 + 21), .int 0, .int 0, .ref (c0 + 22), .int 0, .int 0, .int 0, .int 0, .null, .int 0, .int 0, .int 0, .int 0, .int 0, .null, .null, .int 0, .int 0])))) 23 (some (.inl (1, 260, .inl (fun _ => 0))))) 16 (some (.inr (6, [.ref (c0 + 17), .int 0, .int 0, .ref (c0 + 18), .ref (c0 + 19), .ref (c0 + 20), .ref (c0 + 21), .int 0, .int 0, .ref (c0 + 22), .int 0, .int 0, .int 0, .int 0, .ref (c0 + 23), .int 0, .int 0, .int 0, .int 0, .int 0, .null, .null, .int 0, .int 0])))) 24 (some (.inl (1, 240, .inl (fun _ => 0))))) 16 (some (.inr (6, [.ref (c0 + 17), .int 0, .int 0, .ref (c0 + 18), .ref (c0 + 19), .ref (c0 + 20), .ref (c0 + 21), .int 0, .int 0, .ref (c0 + 22), .int 0, .int 0, .int 0, .int 0, .ref (c0 + 23), .int 0, .int 0, .int 0, .int 0, .int 0, .ref (c0 + 24), .null, .int 0, .int 0])))) 25 (some (.inl (1, 40, .inl (fun _ => 0))))) 16 (some (.inr (6, [.ref (c0 + 17), .int 0, .int 0, .ref (c0 + 18), .ref (c0 + 19), .ref (c0 + 20), .ref (c0 + 21), .int 0, .int 0, .ref (c0 + 22), .int 0, .int 0, .int 0, .int 0, .ref (c0 + 23), .int 0, .int 0, .int 0, .int 0, .int 0, .ref (c0 + 24), .ref (c0 + 25), .int 0, .int 0]))))) := by
  refine Ex.nx rfl ?_
  refine Hx.oini rfl rfl ?_
  show Ex X m_Mod_new 4 [.ref (c0 + 16)] [] (hp c0 17 _ _) _
  refine Ex.nx rfl ?_
  refine Ex.nx rfl ?_
  refine Hx.newi (R := 240) rfl (by decide) ?_
  show Ex X m_Mod_new 10 [.ref (c0 + 16)] [.ref (c0 + 17), .ref (c0 + 16)] (hp c0 18 _ _) _
  refine Hx.put 16 rfl h rfl rfl rfl ?_
  refine Ex.nx rfl ?_
  refine Ex.nx rfl ?_
  refine Hx.newi (R := 132000) rfl (by decide) ?_
  show Ex X m_Mod_new 18 [.ref (c0 + 16)] [.ref (c0 + 18), .ref (c0 + 16)] (hp c0 19 _ _) _
  refine Hx.put 16 rfl rfl rfl rfl rfl ?_
  refine Ex.nx rfl ?_
  refine Ex.nx rfl ?_
  refine Hx.newi (R := 2002) rfl (by decide) ?_
  show Ex X m_Mod_new 27 [.ref (c0 + 16)] [.ref (c0 + 19), .ref (c0 + 16)] (hp c0 20 _ _) _
  refine Hx.put 16 rfl rfl rfl rfl rfl ?_
  refine Ex.nx rfl ?_
  refine Ex.nx rfl ?_
  refine Hx.newi (R := 2002) rfl (by decide) ?_
  show Ex X m_Mod_new 36 [.ref (c0 + 16)] [.ref (c0 + 20), .ref (c0 + 16)] (hp c0 21 _ _) _
  refine Hx.put 16 rfl rfl rfl rfl rfl ?_
  refine Ex.nx rfl ?_
  refine Ex.nx rfl ?_
  refine Hx.newi (R := 2002) rfl (by decide) ?_
  show Ex X m_Mod_new 45 [.ref (c0 + 16)] [.ref (c0 + 21), .ref (c0 + 16)] (hp c0 22 _ _) _
  refine Hx.put 16 rfl rfl rfl rfl rfl ?_
  refine Ex.nx rfl ?_
  refine Ex.nx rfl ?_
  refine Hx.newi (R := 260) rfl (by decide) ?_
  show Ex X m_Mod_new 54 [.ref (c0 + 16)] [.ref (c0 + 22), .ref (c0 + 16)] (hp c0 23 _ _) _
  refine Hx.put 16 rfl rfl rfl rfl rfl ?_
  refine Ex.nx rfl ?_
  refine Ex.nx rfl ?_
  refine Hx.newi (R := 260) rfl (by decide) ?_
  show Ex X m_Mod_new 63 [.ref (c0 + 16)] [.ref (c0 + 23), .ref (c0 + 16)] (hp c0 24 _ _) _
  refine Hx.put 16 rfl rfl rfl rfl rfl ?_
  refine Ex.nx rfl ?_
  refine Ex.nx rfl ?_
  refine Hx.newi (R := 240) rfl (by decide) ?_
  show Ex X m_Mod_new 72 [.ref (c0 + 16)] [.ref (c0 + 24), .ref (c0 + 16)] (hp c0 25 _ _) _
  refine Hx.put 16 rfl rfl rfl rfl rfl ?_
  refine Ex.nx rfl ?_
  refine Ex.nx rfl ?_
  refine Hx.newi (R := 40) rfl (by decide) ?_
  show Ex X m_Mod_new 80 [.ref (c0 + 16)] [.ref (c0 + 25), .ref (c0 + 16)] (hp c0 26 _ _) _
  refine Hx.put 16 rfl rfl rfl rfl rfl ?_
  exact Ex.ret rfl rfl ⟨rfl, rfl⟩
def fz (c0 : Nat) : Nat → Option va_E := fun k => match k with
  | 0 => some (.inr (5, [.ref (c0 + 1), .ref (c0 + 3), .ref (c0 + 8), .ref (c0 + 9), .ref (c0 + 11)]))
  | 1 => some (.inr (1, [.ref (c0 + 2), .int 0]))
  | 2 => some (.inl (0, 240, .inl (fun _ => 0)))
  | 3 => some (.inr (2, [.int 0, .long 0, .int 0, .ref (c0 + 4), .ref (c0 + 6)]))
  | 4 => some (.inr (1, [.ref (c0 + 5), .int 0]))
  | 5 => some (.inl (0, 64, .inl (fun _ => 0)))
  | 6 => some (.inr (1, [.ref (c0 + 7), .int 0]))
  | 7 => some (.inl (0, 60, .inl (fun _ => 0)))
  | 8 => some (.inr (0, [.ref (c0 + 3), .int 0, .int 0]))
  | 9 => some (.inr (3, [.ref (c0 + 10), .int 0, .int 0]))
  | 10 => some (.inl (2, 2000, .inr (.inr (.inr (.inr (fun _ => none))))))
  | 11 => some (.inr (4, [.ref (c0 + 12), .ref (c0 + 14)]))
  | 12 => some (.inr (1, [.ref (c0 + 13), .int 0]))
  | 13 => some (.inl (0, 194, .inl (fun _ => 0)))
  | 14 => some (.inr (1, [.ref (c0 + 15), .int 0]))
  | 15 => some (.inl (0, 18, .inl (fun _ => 0)))
  | 16 => some (.inr (6, rfs c0 (fun _ => 0)))
  | 17 => some (.inl (1, 240, .inl (fun _ => 0)))
  | 18 => some (.inl (1, 132000, .inl (fun _ => 0)))
  | 19 => some (.inl (1, 2002, .inl (fun _ => 0)))
  | 20 => some (.inl (1, 2002, .inl (fun _ => 0)))
  | 21 => some (.inl (1, 2002, .inl (fun _ => 0)))
  | 22 => some (.inl (1, 260, .inl (fun _ => 0)))
  | 23 => some (.inl (1, 260, .inl (fun _ => 0)))
  | 24 => some (.inl (1, 240, .inl (fun _ => 0)))
  | 25 => some (.inl (1, 40, .inl (fun _ => 0)))
  | _ => none
set_option maxRecDepth 100000 in
set_option maxHeartbeats 4000000 in
theorem fz_eq (c0 : Nat) : va_up (va_up (va_up (va_up (va_up (va_up (va_up (va_up (va_up (va_up (va_up (va_up (va_up (va_up (va_up (va_up (va_up (va_up (va_up (va_up (va_up (va_up (va_up (va_up (va_up (va_up (va_up (va_up (va_up (va_up (va_up (va_up (va_up (va_up (va_up (va_up (va_up (va_up (va_up (va_up (va_up (va_up (va_up (va_up (va_up (va_up (va_up (va_up (va_up (va_up (va_up (va_up ((fun _ => none : Nat → Option va_E)) 0 (some (.inr (5, [.null, .null, .null, .null, .null])))) 1 (some (.inr (1, [.null, .int 0])))) 2 (some (.inl (0, 240, .inl (fun _ => 0))))) 1 (some (.inr (1, [.ref (c0 + 2), .int 0])))) 0 (some (.inr (5, [.ref (c0 + 1), .null, .null, .null, .null])))) 3 (some (.inr (2, [.int 0, .long 0, .int 0, .null, .null])))) 4 (some (.inr (1, [.ref (c0 + 5), .int 0])))) 5 (some (.inl (0, 64, .inl (fun _ => 0))))) 6 (some (.inr (1, [.ref (c0 + 7), .int 0])))) 7 (some (.inl (0, 60, .inl (fun _ => 0))))) 3 (some (.inr (2, [.int 0, .long 0, .int 0, .ref (c0 + 4), .ref (c0 + 6)])))) 0 (some (.inr (5, [.ref (c0 + 1), .ref (c0 + 3), .null, .null, .null])))) 8 (some (.inr (0, [.null, .int 0, .int 0])))) 8 (some (.inr (0, [.ref (c0 + 3), .int 0, .int 0])))) 8 (some (.inr (0, [.ref (c0 + 3), .int 0, .int 0])))) 8 (some (.inr (0, [.ref (c0 + 3), .int 0, .int 0])))) 0 (some (.inr (5, [.ref (c0 + 1), .ref (c0 + 3), .ref (c0 + 8), .null, .null])))) 9 (some (.inr (3, [.null, .int 0, .int 0])))) 10 (some (.inl (2, 2000, .inr (.inr (.inr (.inr (fun _ => none)))))))) 9 (some (.inr (3, [.ref (c0 + 10), .int 0, .int 0])))) 9 (some (.inr (3, [.ref (c0 + 10), .int 0, .int 0])))) 9 (some (.inr (3, [.ref (c0 + 10), .int 0, .int 0])))) 0 (some (.inr (5, [.ref (c0 + 1), .ref (c0 + 3), .ref (c0 + 8), .ref (c0 + 9), .null])))) 11 (some (.inr (4, [.null, .null])))) 12 (some (.inr (1, [.null, .int 0])))) 13 (some (.inl (0, 194, .inl (fun _ => 0))))) 12 (some (.inr (1, [.ref (c0 + 13), .int 0])))) 11 (some (.inr (4, [.ref (c0 + 12), .null])))) 14 (some (.inr (1, [.null, .int 0])))) 15 (some (.inl (0, 18, .inl (fun _ => 0))))) 14 (some (.inr (1, [.ref (c0 + 15), .int 0])))) 11 (some (.inr (4, [.ref (c0 + 12), .ref (c0 + 14)])))) 0 (some (.inr (5, [.ref (c0 + 1), .ref (c0 + 3), .ref (c0 + 8), .ref (c0 + 9), .ref (c0 + 11)])))) 16 (some (.inr (6, [.null, .int 0, .int 0, .null, .null, .null, .null, .int 0, .int 0, .null, .int 0, .int 0, .int 0, .int 0, .null, .int 0, .int 0, .int 0, .int 0, .int 0, .null, .null, .int 0, .int 0])))) 17 (some (.inl (1, 240, .inl (fun _ => 0))))) 16 (some (.inr (6, [.ref (c0 + 17), .int 0, .int 0, .null, .null, .null, .null, .int 0, .int 0, .null, .int 0, .int 0, .int 0, .int 0, .null, .int 0, .int 0, .int 0, .int 0, .int 0, .null, .null, .int 0, .int 0])))) 18 (some (.inl (1, 132000, .inl (fun _ => 0))))) 16 (some (.inr (6, [.ref (c0 + 17), .int 0, .int 0, .ref (c0 + 18), .null, .null, .null, .int 0, .int 0, .null, .int 0, .int 0, .int 0, .int 0, .null, .int 0, .int 0, .int 0, .int 0, .int 0, .null, .null, .int 0, .int 0])))) 19 (some (.inl (1, 2002, .inl (fun _ => 0))))) 16 (some (.inr (6, [.ref (c0 + 17), .int 0, .int 0, .ref (c0 + 18), .ref (c0 + 19), .null, .null, .int 0, .int 0, .null, .int 0, .int 0, .int 0, .int 0, .null, .int 0, .int 0, .int 0, .int 0, .int 0, .null, .null, .int 0, .int 0])))) 20 (some (.inl (1, 2002, .inl (fun _ => 0))))) 16 (some (.inr (6, [.ref (c0 + 17), .int 0, .int 0, .ref (c0 + 18), .ref (c0 + 19), .ref (c0 + 20), .null, .int 0, .int 0, .null, .int 0, .int 0, .int 0, .int 0, .null, .int 0, .int 0, .int 0, .int 0, .int 0, .null, .null, .int 0, .int 0])))) 21 (some (.inl (1, 2002, .inl (fun _ => 0))))) 16 (some (.inr (6, [.ref (c0 + 17), .int 0, .int 0, .ref (c0 + 18), .ref (c0 + 19), .ref (c0 + 20), .ref (c0 + 21), .int 0, .int 0, .null, .int 0, .int 0, .int 0, .int 0, .null, .int 0, .int 0, .int 0, .int 0, .int 0, .null, .null, .int 0, .int 0])))) 22 (some (.inl (1, 260, .inl (fun _ => 0))))) 16 (some (.inr (6, [.ref (c0 + 17), .int 0, .int 0, .ref (c0 + 18), .ref (c0 + 19), .ref (c0 + 20), .ref (c0 + 21), .int 0, .int 0, .ref (c0 + 22), .int 0, .int 0, .int 0, .int 0, .null, .int 0, .int 0, .int 0, .int 0, .int 0, .null, .null, .int 0, .int 0])))) 23 (some (.inl (1, 260, .inl (fun _ => 0))))) 16 (some (.inr (6, [.ref (c0 + 17), .int 0, .int 0, .ref (c0 + 18), .ref (c0 + 19), .ref (c0 + 20), .ref (c0 + 21), .int 0, .int 0, .ref (c0 + 22), .int 0, .int 0, .int 0, .int 0, .ref (c0 + 23), .int 0, .int 0, .int 0, .int 0, .int 0, .null, .null, .int 0, .int 0])))) 24 (some (.inl (1, 240, .inl (fun _ => 0))))) 16 (some (.inr (6, [.ref (c0 + 17), .int 0, .int 0, .ref (c0 + 18), .ref (c0 + 19), .ref (c0 + 20), .ref (c0 + 21), .int 0, .int 0, .ref (c0 + 22), .int 0, .int 0, .int 0, .int 0, .ref (c0 + 23), .int 0, .int 0, .int 0, .int 0, .int 0, .ref (c0 + 24), .null, .int 0, .int 0])))) 25 (some (.inl (1, 40, .inl (fun _ => 0))))) 16 (some (.inr (6, [.ref (c0 + 17), .int 0, .int 0, .ref (c0 + 18), .ref (c0 + 19), .ref (c0 + 20), .ref (c0 + 21), .int 0, .int 0, .ref (c0 + 22), .int 0, .int 0, .int 0, .int 0, .ref (c0 + 23), .int 0, .int 0, .int 0, .int 0, .int 0, .ref (c0 + 24), .ref (c0 + 25), .int 0, .int 0]))) = fz c0 := by
  funext k
  match k with
  | 0 => rfl
  | 1 => rfl
  | 2 => rfl
  | 3 => rfl
  | 4 => rfl
  | 5 => rfl
  | 6 => rfl
  | 7 => rfl
  | 8 => rfl
  | 9 => rfl
  | 10 => rfl
  | 11 => rfl
  | 12 => rfl
  | 13 => rfl
  | 14 => rfl
  | 15 => rfl
  | 16 => rfl
  | 17 => rfl
  | 18 => rfl
  | 19 => rfl
  | 20 => rfl
  | 21 => rfl
  | 22 => rfl
  | 23 => rfl
  | 24 => rfl
  | 25 => rfl
  | k + 26 => simp [va_up, fz]
theorem hp_0 {c0 : Nat} : ((c0, 0, fun _ => none) : ev_H) = hp c0 0 0 (fun _ => none) := by
  unfold hp
  refine congrArg (fun q => (c0, 0, q)) (funext fun o => ?_)
  split <;> rfl
end
section
/-! Methods of the class on the fresh object. (rows laid by wip/whole/h2.py) -/
def pOk (c0 n z : Nat) (F : Nat → Option va_E) (v : Option Value) (r : Option Value) (h' : ev_H) : Prop := ∃ n1 z1 F1, h' = hp c0 n1 z1 F1 ∧ n1 ≤ n + 10 ∧ z1 ≤ z + 1000 ∧ rsm F F1 ∧ r = v
theorem rsm.tr {F F1 F2 : Nat → Option va_E} (a : rsm F F1) (b : rsm F1 F2) : rsm F F2 := fun k h1 h2 => (b k h1 h2).trans (a k h1 h2)
theorem i32_01 {t : Int32} (h : ¬ t < 1) : 0 < t := by
  rw [Int32.lt_iff_toInt_lt] at h ⊢
  have h0 : (0 : Int32).toInt = 0 := rfl
  have h1 : (1 : Int32).toInt = 1 := rfl
  omega
set_option maxRecDepth 100000 in
set_option maxHeartbeats 1000000 in
theorem hx_become {X : ev_X} {c0 n z : Nat} {F : Nat → Option va_E} (s : Int32) (v : Int64) (p : Int32) {s0 p0 lb lt : Int32} {v0 : Int64} (h3 : F 3 = some (.inr (2, [.int s0, .long v0, .int p0, .ref (c0 + 4), .ref (c0 + 6)]))) (h4 : F 4 = some (.inr (1, [.ref (c0 + 5), .int lb]))) (h6 : F 6 = some (.inr (1, [.ref (c0 + 7), .int lt]))) : Ex X m_Term_become 0 [.ref (c0 + 3), .int s, .long v, ev_dead, .int p] [] (hp c0 n z F) (fun r h' => r = none ∧ h' = hp c0 n (z) (va_up (va_up (va_up (va_up (va_up F 3 (some (.inr (2, [.int s, .long v0, .int p0, .ref (c0 + 4), .ref (c0 + 6)])))) 3 (some (.inr (2, [.int s, .long v, .int p0, .ref (c0 + 4), .ref (c0 + 6)])))) 3 (some (.inr (2, [.int s, .long v, .int p, .ref (c0 + 4), .ref (c0 + 6)])))) 4 (some (.inr (1, [.ref (c0 + 5), .int 0])))) 6 (some (.inr (1, [.ref (c0 + 7), .int 0]))))) := by
  refine Ex.nx rfl ?_
  refine Ex.nx rfl ?_
  refine Hx.put 3 rfl h3 rfl rfl rfl ?_
  refine Ex.nx rfl ?_
  refine Ex.nx rfl ?_
  refine Hx.put 3 rfl rfl rfl rfl rfl ?_
  refine Ex.nx rfl ?_
  refine Ex.nx rfl ?_
  refine Hx.put 3 rfl rfl rfl rfl rfl ?_
  refine Ex.nx rfl ?_
  refine Hx.get 3 rfl rfl rfl ?_
  refine Hx.call 4 rfl rfl h4 rfl rfl (hx_clear 4 h4) ?_
  show Ex X m_Term_become 23 [.ref (c0 + 3), .int s, .long v, ev_dead, .int p] [] (hp c0 n _ _) _
  refine Ex.nx rfl ?_
  refine Hx.get 3 rfl rfl rfl ?_
  refine Hx.call 6 rfl rfl h6 rfl rfl (hx_clear 6 h6) ?_
  show Ex X m_Term_become 30 [.ref (c0 + 3), .int s, .long v, ev_dead, .int p] [] (hp c0 n _ _) _
  exact Ex.ret rfl rfl ⟨rfl, rfl⟩
set_option maxRecDepth 100000 in
set_option maxHeartbeats 1000000 in
theorem hx_latest {X : ev_X} {c0 n z : Nat} {F : Nat → Option va_E} {q1 q2 : Int32} (h8 : F 8 = some (.inr (0, [.ref (c0 + 3), .int q1, .int q2]))) : Ex X m_Reader_latestPlace 0 [.ref (c0 + 8)] [] (hp c0 n z F) (fun r h' => r = some (.int q2) ∧ h' = hp c0 n (z) (F)) := by
  refine Ex.nx rfl ?_
  refine Hx.get 8 rfl h8 rfl ?_
  exact Ex.ret rfl (ev_reti rfl) ⟨rfl, rfl⟩
set_option maxRecDepth 100000 in
set_option maxHeartbeats 1000000 in
theorem hx_tsize {X : ev_X} {c0 n z : Nat} {F : Nat → Option va_E} {q1 q2 : Int32} (h9 : F 9 = some (.inr (3, [.ref (c0 + 10), .int q1, .int q2]))) : Ex X m_Terms_size 0 [.ref (c0 + 9)] [] (hp c0 n z F) (fun r h' => r = some (.int q1) ∧ h' = hp c0 n (z) (F)) := by
  refine Ex.nx rfl ?_
  refine Hx.get 9 rfl h9 rfl ?_
  exact Ex.ret rfl (ev_reti rfl) ⟨rfl, rfl⟩
set_option maxRecDepth 100000 in
set_option maxHeartbeats 1000000 in
theorem hx_tbytes {X : ev_X} {c0 n z : Nat} {F : Nat → Option va_E} {q1 q2 : Int32} (h9 : F 9 = some (.inr (3, [.ref (c0 + 10), .int q1, .int q2]))) : Ex X m_Terms_bytes 0 [.ref (c0 + 9)] [] (hp c0 n z F) (fun r h' => r = some (.int q2) ∧ h' = hp c0 n (z) (F)) := by
  refine Ex.nx rfl ?_
  refine Hx.get 9 rfl h9 rfl ?_
  exact Ex.ret rfl (ev_reti rfl) ⟨rfl, rfl⟩
set_option maxRecDepth 100000 in
set_option maxHeartbeats 1000000 in
theorem hx_get0 {X : ev_X} {c0 n z : Nat} {F : Nat → Option va_E} (t : Int32) {q2 : Int32} (h9 : F 9 = some (.inr (3, [.ref (c0 + 10), .int 0, .int q2]))) : Ex X m_Terms_get 0 [.ref (c0 + 9), .int t] [] (hp c0 n z F) (fun r h' => r = some (.null) ∧ h' = hp c0 n (z) (F)) := by
  refine Ex.nx rfl ?_
  refine Ex.nx rfl ?_
  refine Ex.nx rfl ?_
  refine Ex.ite (fun c1 => ?_) (fun c1 => ?_)
  · replace c1 : t < 1 := of_decide_eq_true c1
    show Ex X m_Terms_get 33 [.ref (c0 + 9), .int t] [] (hp c0 n _ _) _
    refine Ex.nx rfl ?_
    exact Ex.ret rfl rfl ⟨rfl, rfl⟩
  · replace c1 : ¬ t < 1 := of_decide_eq_false c1
    show Ex X m_Terms_get 5 [.ref (c0 + 9), .int t] [] (hp c0 n _ _) _
    refine Ex.nx rfl ?_
    refine Ex.nx rfl ?_
    refine Hx.get 9 rfl h9 rfl ?_
    refine Ex.nx rfl ?_
    refine Ex.ite (fun c2 => ?_) (fun c2 => ?_)
    · replace c2 : 0 < t := of_decide_eq_true c2
      show Ex X m_Terms_get 33 [.ref (c0 + 9), .int t] [] (hp c0 n _ _) _
      refine Ex.nx rfl ?_
      exact Ex.ret rfl rfl ⟨rfl, rfl⟩
    · replace c2 : ¬ 0 < t := of_decide_eq_false c2
      exact absurd (i32_01 c1) c2
set_option maxRecDepth 100000 in
set_option maxHeartbeats 1000000 in
theorem hx_numberOf0 {X : ev_X} {c0 n z : Nat} {F : Nat → Option va_E} {q2 : Int32} (h9 : F 9 = some (.inr (3, [.ref (c0 + 10), .int 0, .int q2]))) : Ex X m_Terms_numberOf 0 [.ref (c0 + 9), .ref (c0 + 3), ev_dead, ev_dead] [] (hp c0 n z F) (fun r h' => r = some (.int (-2)) ∧ h' = hp c0 n (z) (F)) := by
  refine Ex.nx rfl ?_
  refine Ex.nx rfl ?_
  show Ex X m_Terms_numberOf 2 [.ref (c0 + 9), .ref (c0 + 3), .int 1, ev_dead] [] (hp c0 n _ _) _
  refine Ex.nx rfl ?_
  refine Ex.nx rfl ?_
  refine Hx.get 9 rfl h9 rfl ?_
  refine Ex.nx rfl ?_
  show Ex X m_Terms_numberOf 36 [.ref (c0 + 9), .ref (c0 + 3), .int 1, ev_dead] [] (hp c0 n _ _) _
  refine Ex.nx rfl ?_
  exact Ex.ret rfl (ev_reti rfl) ⟨rfl, rfl⟩
set_option maxRecDepth 100000 in
set_option maxHeartbeats 1000000 in
theorem hx_byteAt0 {X : ev_X} {c0 n z : Nat} {F : Nat → Option va_E} (t : Int32) (h11 : F 11 = some (.inr (4, [.ref (c0 + 12), .ref (c0 + 14)]))) (h12 : F 12 = some (.inr (1, [.ref (c0 + 13), .int 0]))) : Ex X m_Writer_byteAt 0 [.ref (c0 + 11), .int t] [] (hp c0 n z F) (fun r h' => r = some (.int (-1)) ∧ h' = hp c0 n (z) (F)) := by
  refine Ex.nx rfl ?_
  refine Ex.nx rfl ?_
  refine Ex.ite (fun c1 => ?_) (fun c1 => ?_)
  · replace c1 : t < 0 := of_decide_eq_true c1
    show Ex X m_Writer_byteAt 15 [.ref (c0 + 11), .int t] [] (hp c0 n _ _) _
    refine Ex.nx rfl ?_
    refine Ex.nx rfl ?_
    exact Ex.ret rfl (ev_reti rfl) ⟨rfl, rfl⟩
  · replace c1 : ¬ t < 0 := of_decide_eq_false c1
    show Ex X m_Writer_byteAt 4 [.ref (c0 + 11), .int t] [] (hp c0 n _ _) _
    refine Ex.nx rfl ?_
    refine Ex.nx rfl ?_
    refine Hx.get 11 rfl h11 rfl ?_
    refine Hx.call 12 rfl rfl h12 rfl rfl (hx_size 12 h12) ?_
    show Ex X m_Writer_byteAt 12 [.ref (c0 + 11), .int t] [.int 0, .int t] (hp c0 n _ _) _
    refine Ex.nx rfl ?_
    refine Ex.ite (fun c2 => ?_) (fun c2 => ?_)
    · replace c2 : t < 0 := of_decide_eq_true c2
      exact absurd c2 c1
    · replace c2 : ¬ t < 0 := of_decide_eq_false c2
      show Ex X m_Writer_byteAt 15 [.ref (c0 + 11), .int t] [] (hp c0 n _ _) _
      refine Ex.nx rfl ?_
      refine Ex.nx rfl ?_
      exact Ex.ret rfl (ev_reti rfl) ⟨rfl, rfl⟩
set_option maxRecDepth 100000 in
set_option maxHeartbeats 1000000 in
theorem hx_bytes {X : ev_X} {c0 n z : Nat} {F : Nat → Option va_E} {s0 p0 : Int32} {v0 : Int64} (h3 : F 3 = some (.inr (2, [.int s0, .long v0, .int p0, .ref (c0 + 4), .ref (c0 + 6)]))) (h4 : F 4 = some (.inr (1, [.ref (c0 + 5), .int 0]))) (h6 : F 6 = some (.inr (1, [.ref (c0 + 7), .int 0]))) : Ex X m_Term_bytes 0 [.ref (c0 + 3)] [] (hp c0 n z F) (fun r h' => r = some (.int 0) ∧ h' = hp c0 n (z) (F)) := by
  refine Ex.nx rfl ?_
  refine Hx.get 3 rfl h3 rfl ?_
  refine Hx.call 4 rfl rfl h4 rfl rfl (hx_size 4 h4) ?_
  show Ex X m_Term_bytes 7 [.ref (c0 + 3)] [.int 0] (hp c0 n _ _) _
  refine Ex.nx rfl ?_
  refine Hx.get 3 rfl h3 rfl ?_
  refine Hx.call 6 rfl rfl h6 rfl rfl (hx_size 6 h6) ?_
  show Ex X m_Term_bytes 14 [.ref (c0 + 3)] [.int 0, .int 0] (hp c0 n _ _) _
  refine Ex.nx rfl ?_
  show Ex X m_Term_bytes 15 [.ref (c0 + 3)] [.int 0] (hp c0 n _ _) _
  exact Ex.ret rfl (ev_reti rfl) ⟨rfl, rfl⟩
set_option maxRecDepth 100000 in
set_option maxHeartbeats 1000000 in
theorem hx_addAll0 {X : ev_X} {c0 n z : Nat} {F : Nat → Option va_E} (k j : Nat) {v : Value} (h : F j = some (.inr (1, [v, .int 0]))) : Ex X m_Row_addAll 0 [.ref (c0 + k), .ref (c0 + j), ev_dead] [] (hp c0 n z F) (fun r h' => r = none ∧ h' = hp c0 n z F) := by
  refine Ex.nx rfl ?_
  refine Ex.nx rfl ?_
  show Ex X m_Row_addAll 2 [.ref (c0 + k), .ref (c0 + j), .int 0] [] (hp c0 n _ _) _
  refine Ex.nx rfl ?_
  refine Ex.nx rfl ?_
  refine Hx.get j rfl h rfl ?_
  refine Ex.nx rfl ?_
  show Ex X m_Row_addAll 25 [.ref (c0 + k), .ref (c0 + j), .int 0] [] (hp c0 n _ _) _
  exact Ex.ret rfl rfl ⟨rfl, rfl⟩
set_option maxRecDepth 100000 in
set_option maxHeartbeats 1000000 in
theorem hx_becomeK {X : ev_X} {c0 n z : Nat} {F : Nat → Option va_E} (s : Int32) (v : Int64) (p : Int32) {s0 p0 lb lt : Int32} {v0 : Int64} (h26 : F 26 = some (.inr (2, [.int s0, .long v0, .int p0, .ref (c0 + 27), .ref (c0 + 29)]))) (h27 : F 27 = some (.inr (1, [.ref (c0 + 28), .int lb]))) (h29 : F 29 = some (.inr (1, [.ref (c0 + 30), .int lt]))) : Ex X m_Term_become 0 [.ref (c0 + 26), .int s, .long v, ev_dead, .int p] [] (hp c0 n z F) (fun r h' => r = none ∧ h' = hp c0 n (z) (va_up (va_up (va_up (va_up (va_up F 26 (some (.inr (2, [.int s, .long v0, .int p0, .ref (c0 + 27), .ref (c0 + 29)])))) 26 (some (.inr (2, [.int s, .long v, .int p0, .ref (c0 + 27), .ref (c0 + 29)])))) 26 (some (.inr (2, [.int s, .long v, .int p, .ref (c0 + 27), .ref (c0 + 29)])))) 27 (some (.inr (1, [.ref (c0 + 28), .int 0])))) 29 (some (.inr (1, [.ref (c0 + 30), .int 0]))))) := by
  refine Ex.nx rfl ?_
  refine Ex.nx rfl ?_
  refine Hx.put 26 rfl h26 rfl rfl rfl ?_
  refine Ex.nx rfl ?_
  refine Ex.nx rfl ?_
  refine Hx.put 26 rfl rfl rfl rfl rfl ?_
  refine Ex.nx rfl ?_
  refine Ex.nx rfl ?_
  refine Hx.put 26 rfl rfl rfl rfl rfl ?_
  refine Ex.nx rfl ?_
  refine Hx.get 26 rfl rfl rfl ?_
  refine Hx.call 27 rfl rfl h27 rfl rfl (hx_clear 27 h27) ?_
  show Ex X m_Term_become 23 [.ref (c0 + 26), .int s, .long v, ev_dead, .int p] [] (hp c0 n _ _) _
  refine Ex.nx rfl ?_
  refine Hx.get 26 rfl rfl rfl ?_
  refine Hx.call 29 rfl rfl h29 rfl rfl (hx_clear 29 h29) ?_
  show Ex X m_Term_become 30 [.ref (c0 + 26), .int s, .long v, ev_dead, .int p] [] (hp c0 n _ _) _
  exact Ex.ret rfl rfl ⟨rfl, rfl⟩
set_option maxRecDepth 100000 in
set_option maxHeartbeats 1000000 in
theorem hx_copy0 {X : ev_X} {c0 z : Nat} {F : Nat → Option va_E} {s : Int32} {v : Int64} {p : Int32} (h3 : F 3 = some (.inr (2, [.int s, .long v, .int p, .ref (c0 + 4), .ref (c0 + 6)]))) (h4 : F 4 = some (.inr (1, [.ref (c0 + 5), .int 0]))) (h6 : F 6 = some (.inr (1, [.ref (c0 + 7), .int 0]))) : Ex X m_Term_copy 0 [.ref (c0 + 3), ev_dead] [] (hp c0 26 z F) (fun r h' => r = some (.ref (c0 + 26)) ∧ h' = hp c0 31 (z + 5 + (4 + 0 + 0)) (va_up (va_up (va_up (va_up (va_up (va_up (va_up (va_up (va_up (va_up (va_up F 26 (some (.inr (2, [.int 0, .long 0, .int 0, .null, .null])))) 27 (some (.inr (1, [.ref (c0 + 28), .int 0])))) 28 (some (.inl (0, 0, .inl (fun _ => 0))))) 29 (some (.inr (1, [.ref (c0 + 30), .int 0])))) 30 (some (.inl (0, 0, .inl (fun _ => 0))))) 26 (some (.inr (2, [.int 0, .long 0, .int 0, .ref (c0 + 27), .ref (c0 + 29)])))) 26 (some (.inr (2, [.int s, .long 0, .int 0, .ref (c0 + 27), .ref (c0 + 29)])))) 26 (some (.inr (2, [.int s, .long v, .int 0, .ref (c0 + 27), .ref (c0 + 29)])))) 26 (some (.inr (2, [.int s, .long v, .int p, .ref (c0 + 27), .ref (c0 + 29)])))) 27 (some (.inr (1, [.ref (c0 + 28), .int 0])))) 29 (some (.inr (1, [.ref (c0 + 30), .int 0]))))) := by
  refine Hx.newo rfl rfl ?_
  show Ex X m_Term_copy 3 [.ref (c0 + 3), ev_dead] [.ref (c0 + 26)] (hp c0 27 _ _) _
  refine Ex.nx rfl ?_
  refine Ex.nx rfl ?_
  refine Hx.get 3 rfl h3 rfl ?_
  refine Hx.call 4 rfl rfl h4 rfl rfl (hx_size 4 h4) ?_
  show Ex X m_Term_copy 11 [.ref (c0 + 3), ev_dead] [.int 0, .ref (c0 + 26), .ref (c0 + 26)] (hp c0 27 _ _) _
  refine Ex.nx rfl ?_
  refine Hx.get 3 rfl h3 rfl ?_
  refine Hx.call 6 rfl rfl h6 rfl rfl (hx_size 6 h6) ?_
  show Ex X m_Term_copy 18 [.ref (c0 + 3), ev_dead] [.int 0, .int 0, .ref (c0 + 26), .ref (c0 + 26)] (hp c0 27 _ _) _
  refine Hx.callp rfl rfl rfl rfl (hx_Term 26 (R1 := 0) (R2 := 0) rfl (by decide) (by decide) (by decide)) ?_
  show Ex X m_Term_copy 21 [.ref (c0 + 3), ev_dead] [.ref (c0 + 26)] (hp c0 31 _ _) _
  refine Ex.nx rfl ?_
  show Ex X m_Term_copy 22 [.ref (c0 + 3), .ref (c0 + 26)] [] (hp c0 31 _ _) _
  refine Ex.nx rfl ?_
  refine Ex.nx rfl ?_
  refine Hx.get 3 rfl h3 rfl ?_
  refine Ex.nx rfl ?_
  refine Hx.get 3 rfl h3 rfl ?_
  refine Ex.nx rfl ?_
  refine Hx.get 3 rfl h3 rfl ?_
  refine Hx.call 26 rfl rfl rfl rfl rfl (hx_becomeK s v p rfl rfl rfl) ?_
  show Ex X m_Term_copy 38 [.ref (c0 + 3), .ref (c0 + 26)] [] (hp c0 31 _ _) _
  refine Ex.nx rfl ?_
  refine Hx.get 26 rfl rfl rfl ?_
  refine Ex.nx rfl ?_
  refine Hx.get 3 rfl h3 rfl ?_
  refine Hx.call 27 rfl rfl rfl rfl rfl (hx_addAll0 27 4 h4) ?_
  show Ex X m_Term_copy 49 [.ref (c0 + 3), .ref (c0 + 26)] [] (hp c0 31 _ _) _
  refine Ex.nx rfl ?_
  refine Hx.get 26 rfl rfl rfl ?_
  refine Ex.nx rfl ?_
  refine Hx.get 3 rfl h3 rfl ?_
  refine Hx.call 29 rfl rfl rfl rfl rfl (hx_addAll0 29 6 h6) ?_
  show Ex X m_Term_copy 60 [.ref (c0 + 3), .ref (c0 + 26)] [] (hp c0 31 _ _) _
  refine Ex.nx rfl ?_
  exact Ex.ret rfl rfl ⟨rfl, rfl⟩
set_option maxRecDepth 100000 in
set_option maxHeartbeats 1000000 in
theorem hx_keep0 {X : ev_X} {c0 z : Nat} {F : Nat → Option va_E} {s : Int32} {v : Int64} {p : Int32} (h3 : F 3 = some (.inr (2, [.int s, .long v, .int p, .ref (c0 + 4), .ref (c0 + 6)]))) (h4 : F 4 = some (.inr (1, [.ref (c0 + 5), .int 0]))) (h6 : F 6 = some (.inr (1, [.ref (c0 + 7), .int 0]))) (h9 : F 9 = some (.inr (3, [.ref (c0 + 10), .int 0, .int 0]))) (h10 : F 10 = some (.inl (2, 2000, .inr (.inr (.inr (.inr (fun _ => none))))))) : Ex X m_Terms_keep 0 [.ref (c0 + 9), .ref (c0 + 3), ev_dead] [] (hp c0 26 z F) (fun r h' => pOk c0 26 z F (some (.int 1)) r h') := by
  refine Ex.nx rfl ?_
  refine Ex.nx rfl ?_
  refine Hx.call 9 rfl rfl h9 rfl rfl (hx_numberOf0 h9) ?_
  show Ex X m_Terms_keep 5 [.ref (c0 + 9), .ref (c0 + 3), ev_dead] [.int (-2)] (hp c0 26 _ _) _
  refine Ex.nx rfl ?_
  show Ex X m_Terms_keep 6 [.ref (c0 + 9), .ref (c0 + 3), .int (-2)] [] (hp c0 26 _ _) _
  refine Ex.nx rfl ?_
  refine Ex.nx rfl ?_
  refine Ex.nx rfl ?_
  show Ex X m_Terms_keep 14 [.ref (c0 + 9), .ref (c0 + 3), .int (-2)] [] (hp c0 26 _ _) _
  refine Ex.nx rfl ?_
  refine Hx.get 9 rfl h9 rfl ?_
  refine Ex.nx rfl ?_
  show Ex X m_Terms_keep 21 [.ref (c0 + 9), .ref (c0 + 3), .int (-2)] [] (hp c0 26 _ _) _
  refine Ex.nx rfl ?_
  refine Hx.get 9 rfl h9 rfl ?_
  refine Ex.nx rfl ?_
  refine Hx.get 9 rfl h9 rfl ?_
  refine Hx.alen 10 rfl h10 rfl ?_
  refine Ex.nx rfl ?_
  show Ex X m_Terms_keep 33 [.ref (c0 + 9), .ref (c0 + 3), .int (-2)] [] (hp c0 26 _ _) _
  refine Ex.nx rfl ?_
  refine Hx.get 9 rfl h9 rfl ?_
  refine Ex.nx rfl ?_
  refine Hx.call 3 rfl rfl h3 rfl rfl (hx_bytes h3 h4 h6) ?_
  show Ex X m_Terms_keep 41 [.ref (c0 + 9), .ref (c0 + 3), .int (-2)] [.int 0, .int 0] (hp c0 26 _ _) _
  refine Ex.nx rfl ?_
  show Ex X m_Terms_keep 42 [.ref (c0 + 9), .ref (c0 + 3), .int (-2)] [.int 0] (hp c0 26 _ _) _
  refine Ex.nx rfl ?_
  refine Ex.nx rfl ?_
  show Ex X m_Terms_keep 50 [.ref (c0 + 9), .ref (c0 + 3), .int (-2)] [] (hp c0 26 _ _) _
  refine Ex.nx rfl ?_
  refine Hx.get 9 rfl h9 rfl ?_
  refine Ex.nx rfl ?_
  refine Hx.get 9 rfl h9 rfl ?_
  refine Ex.nx rfl ?_
  refine Hx.call 3 rfl rfl h3 rfl rfl (hx_copy0 h3 h4 h6) ?_
  show Ex X m_Terms_keep 62 [.ref (c0 + 9), .ref (c0 + 3), .int (-2)] [.ref (c0 + 26), .int 0, .ref (c0 + 10)] (hp c0 31 _ _) _
  refine Hx.aast 10 26 rfl h10 rfl (by decide) ?_
  refine Ex.nx rfl ?_
  refine Ex.nx rfl ?_
  refine Hx.get 9 rfl h9 rfl ?_
  refine Ex.nx rfl ?_
  refine Ex.nx rfl ?_
  show Ex X m_Terms_keep 70 [.ref (c0 + 9), .ref (c0 + 3), .int (-2)] [.int 1, .ref (c0 + 9)] (hp c0 31 _ _) _
  refine Hx.put 9 rfl h9 rfl rfl rfl ?_
  refine Ex.nx rfl ?_
  refine Ex.nx rfl ?_
  refine Hx.get 9 rfl rfl rfl ?_
  refine Ex.nx rfl ?_
  refine Hx.call 3 rfl rfl h3 rfl rfl (hx_bytes h3 h4 h6) ?_
  show Ex X m_Terms_keep 82 [.ref (c0 + 9), .ref (c0 + 3), .int (-2)] [.int 0, .int 0, .ref (c0 + 9)] (hp c0 31 _ _) _
  refine Ex.nx rfl ?_
  show Ex X m_Terms_keep 83 [.ref (c0 + 9), .ref (c0 + 3), .int (-2)] [.int 0, .ref (c0 + 9)] (hp c0 31 _ _) _
  refine Hx.put 9 rfl rfl rfl rfl rfl ?_
  refine Ex.nx rfl ?_
  refine Hx.get 9 rfl rfl rfl ?_
  exact Ex.ret rfl (ev_reti rfl) ⟨_, _, _, rfl, by omega, by omega, (rsm.up (rsm.up (rsm.up (rsm.up (rsm.up (rsm.up (rsm.up (rsm.up (rsm.up (rsm.up (rsm.up (rsm.up (rsm.up (rsm.up rsm.rf (by decide)) (by decide)) (by decide)) (by decide)) (by decide)) (by decide)) (by decide)) (by decide)) (by decide)) (by decide)) (by decide)) (by decide)) (by decide)) (by decide)), rfl⟩
set_option maxRecDepth 100000 in
set_option maxHeartbeats 1000000 in
theorem p_count {X : ev_X} {c0 z : Nat} : Ex X m_Tab_count 0 [.ref (c0 + 0)] [] (hp c0 26 z (fz c0)) (pOk c0 26 z (fz c0) (some (.int 0))) := by
  refine Ex.nx rfl ?_
  refine Hx.get 0 rfl rfl rfl ?_
  refine Hx.call 9 rfl rfl rfl rfl rfl (hx_tsize rfl) ?_
  show Ex X m_Tab_count 7 [.ref (c0 + 0)] [.int 0] (hp c0 26 _ _) _
  exact Ex.ret rfl (ev_reti rfl) ⟨_, _, _, rfl, by omega, by omega, rsm.rf, rfl⟩
set_option maxRecDepth 100000 in
set_option maxHeartbeats 1000000 in
theorem p_used {X : ev_X} {c0 z : Nat} : Ex X m_Tab_used 0 [.ref (c0 + 0)] [] (hp c0 26 z (fz c0)) (pOk c0 26 z (fz c0) (some (.int 0))) := by
  refine Ex.nx rfl ?_
  refine Hx.get 0 rfl rfl rfl ?_
  refine Hx.call 9 rfl rfl rfl rfl rfl (hx_tbytes rfl) ?_
  show Ex X m_Tab_used 7 [.ref (c0 + 0)] [.int 0] (hp c0 26 _ _) _
  exact Ex.ret rfl (ev_reti rfl) ⟨_, _, _, rfl, by omega, by omega, rsm.rf, rfl⟩
set_option maxRecDepth 100000 in
set_option maxHeartbeats 1000000 in
theorem p_place {X : ev_X} {c0 z : Nat} : Ex X m_Tab_place 0 [.ref (c0 + 0)] [] (hp c0 26 z (fz c0)) (pOk c0 26 z (fz c0) (some (.int 0))) := by
  refine Ex.nx rfl ?_
  refine Hx.get 0 rfl rfl rfl ?_
  refine Hx.call 8 rfl rfl rfl rfl rfl (hx_latest rfl) ?_
  show Ex X m_Tab_place 7 [.ref (c0 + 0)] [.int 0] (hp c0 26 _ _) _
  exact Ex.ret rfl (ev_reti rfl) ⟨_, _, _, rfl, by omega, by omega, rsm.rf, rfl⟩
set_option maxRecDepth 100000 in
set_option maxHeartbeats 1000000 in
theorem p_kind {X : ev_X} {c0 z : Nat} (t : Int32) : Ex X m_Tab_kind 0 [.ref (c0 + 0), .int t, ev_dead] [] (hp c0 26 z (fz c0)) (pOk c0 26 z (fz c0) (some (.int (-1)))) := by
  refine Ex.nx rfl ?_
  refine Hx.get 0 rfl rfl rfl ?_
  refine Ex.nx rfl ?_
  refine Hx.call 9 rfl rfl rfl rfl rfl (hx_get0 t rfl) ?_
  show Ex X m_Tab_kind 8 [.ref (c0 + 0), .int t, ev_dead] [.null] (hp c0 26 _ _) _
  refine Ex.nx rfl ?_
  show Ex X m_Tab_kind 9 [.ref (c0 + 0), .int t, .null] [] (hp c0 26 _ _) _
  refine Ex.nx rfl ?_
  refine Ex.nx rfl ?_
  show Ex X m_Tab_kind 13 [.ref (c0 + 0), .int t, .null] [] (hp c0 26 _ _) _
  refine Ex.nx rfl ?_
  refine Ex.nx rfl ?_
  exact Ex.ret rfl (ev_reti rfl) ⟨_, _, _, rfl, by omega, by omega, rsm.rf, rfl⟩
set_option maxRecDepth 100000 in
set_option maxHeartbeats 1000000 in
theorem p_value {X : ev_X} {c0 z : Nat} (t : Int32) : Ex X m_Tab_value 0 [.ref (c0 + 0), .int t, ev_dead] [] (hp c0 26 z (fz c0)) (pOk c0 26 z (fz c0) (some (.long 0))) := by
  refine Ex.nx rfl ?_
  refine Hx.get 0 rfl rfl rfl ?_
  refine Ex.nx rfl ?_
  refine Hx.call 9 rfl rfl rfl rfl rfl (hx_get0 t rfl) ?_
  show Ex X m_Tab_value 8 [.ref (c0 + 0), .int t, ev_dead] [.null] (hp c0 26 _ _) _
  refine Ex.nx rfl ?_
  show Ex X m_Tab_value 9 [.ref (c0 + 0), .int t, .null] [] (hp c0 26 _ _) _
  refine Ex.nx rfl ?_
  refine Ex.nx rfl ?_
  show Ex X m_Tab_value 13 [.ref (c0 + 0), .int t, .null] [] (hp c0 26 _ _) _
  refine Ex.nx rfl ?_
  refine Ex.nx rfl ?_
  exact Ex.ret rfl rfl ⟨_, _, _, rfl, by omega, by omega, rsm.rf, rfl⟩
set_option maxRecDepth 100000 in
set_option maxHeartbeats 1000000 in
theorem p_scale {X : ev_X} {c0 z : Nat} (t : Int32) : Ex X m_Tab_scale 0 [.ref (c0 + 0), .int t, ev_dead] [] (hp c0 26 z (fz c0)) (pOk c0 26 z (fz c0) (some (.int (-1)))) := by
  refine Ex.nx rfl ?_
  refine Hx.get 0 rfl rfl rfl ?_
  refine Ex.nx rfl ?_
  refine Hx.call 9 rfl rfl rfl rfl rfl (hx_get0 t rfl) ?_
  show Ex X m_Tab_scale 8 [.ref (c0 + 0), .int t, ev_dead] [.null] (hp c0 26 _ _) _
  refine Ex.nx rfl ?_
  show Ex X m_Tab_scale 9 [.ref (c0 + 0), .int t, .null] [] (hp c0 26 _ _) _
  refine Ex.nx rfl ?_
  refine Ex.nx rfl ?_
  show Ex X m_Tab_scale 13 [.ref (c0 + 0), .int t, .null] [] (hp c0 26 _ _) _
  refine Ex.nx rfl ?_
  refine Ex.nx rfl ?_
  exact Ex.ret rfl (ev_reti rfl) ⟨_, _, _, rfl, by omega, by omega, rsm.rf, rfl⟩
set_option maxRecDepth 100000 in
set_option maxHeartbeats 1000000 in
theorem p_write {X : ev_X} {c0 z : Nat} (t : Int32) : Ex X m_Tab_write 0 [.ref (c0 + 0), .int t, ev_dead] [] (hp c0 26 z (fz c0)) (pOk c0 26 z (fz c0) (some (.int (-1)))) := by
  refine Ex.nx rfl ?_
  refine Hx.get 0 rfl rfl rfl ?_
  refine Ex.nx rfl ?_
  refine Hx.call 9 rfl rfl rfl rfl rfl (hx_get0 t rfl) ?_
  show Ex X m_Tab_write 8 [.ref (c0 + 0), .int t, ev_dead] [.null] (hp c0 26 _ _) _
  refine Ex.nx rfl ?_
  show Ex X m_Tab_write 9 [.ref (c0 + 0), .int t, .null] [] (hp c0 26 _ _) _
  refine Ex.nx rfl ?_
  refine Ex.nx rfl ?_
  show Ex X m_Tab_write 13 [.ref (c0 + 0), .int t, .null] [] (hp c0 26 _ _) _
  refine Ex.nx rfl ?_
  refine Ex.nx rfl ?_
  exact Ex.ret rfl (ev_reti rfl) ⟨_, _, _, rfl, by omega, by omega, rsm.rf, rfl⟩
set_option maxRecDepth 100000 in
set_option maxHeartbeats 1000000 in
theorem p_part {X : ev_X} {c0 z : Nat} (t u : Int32) : Ex X m_Tab_part 0 [.ref (c0 + 0), .int t, .int u, ev_dead] [] (hp c0 26 z (fz c0)) (pOk c0 26 z (fz c0) (some (.int (-1)))) := by
  refine Ex.nx rfl ?_
  refine Hx.get 0 rfl rfl rfl ?_
  refine Ex.nx rfl ?_
  refine Hx.call 9 rfl rfl rfl rfl rfl (hx_get0 t rfl) ?_
  show Ex X m_Tab_part 8 [.ref (c0 + 0), .int t, .int u, ev_dead] [.null] (hp c0 26 _ _) _
  refine Ex.nx rfl ?_
  show Ex X m_Tab_part 9 [.ref (c0 + 0), .int t, .int u, .null] [] (hp c0 26 _ _) _
  refine Ex.nx rfl ?_
  refine Ex.nx rfl ?_
  show Ex X m_Tab_part 13 [.ref (c0 + 0), .int t, .int u, .null] [] (hp c0 26 _ _) _
  refine Ex.nx rfl ?_
  exact Ex.ret rfl (ev_reti rfl) ⟨_, _, _, rfl, by omega, by omega, rsm.rf, rfl⟩
set_option maxRecDepth 100000 in
set_option maxHeartbeats 1000000 in
theorem p_order {X : ev_X} {c0 z : Nat} (t u : Int32) : Ex X m_Tab_order 0 [.ref (c0 + 0), .int t, .int u, ev_dead, ev_dead] [] (hp c0 26 z (fz c0)) (pOk c0 26 z (fz c0) (some (.int 2))) := by
  refine Ex.nx rfl ?_
  refine Hx.get 0 rfl rfl rfl ?_
  refine Ex.nx rfl ?_
  refine Hx.call 9 rfl rfl rfl rfl rfl (hx_get0 t rfl) ?_
  show Ex X m_Tab_order 8 [.ref (c0 + 0), .int t, .int u, ev_dead, ev_dead] [.null] (hp c0 26 _ _) _
  refine Ex.nx rfl ?_
  show Ex X m_Tab_order 9 [.ref (c0 + 0), .int t, .int u, .null, ev_dead] [] (hp c0 26 _ _) _
  refine Ex.nx rfl ?_
  refine Hx.get 0 rfl rfl rfl ?_
  refine Ex.nx rfl ?_
  refine Hx.call 9 rfl rfl rfl rfl rfl (hx_get0 u rfl) ?_
  show Ex X m_Tab_order 17 [.ref (c0 + 0), .int t, .int u, .null, ev_dead] [.null] (hp c0 26 _ _) _
  refine Ex.nx rfl ?_
  show Ex X m_Tab_order 19 [.ref (c0 + 0), .int t, .int u, .null, .null] [] (hp c0 26 _ _) _
  refine Ex.nx rfl ?_
  refine Ex.nx rfl ?_
  show Ex X m_Tab_order 28 [.ref (c0 + 0), .int t, .int u, .null, .null] [] (hp c0 26 _ _) _
  refine Ex.nx rfl ?_
  refine Ex.nx rfl ?_
  exact Ex.ret rfl (ev_reti rfl) ⟨_, _, _, rfl, by omega, by omega, rsm.rf, rfl⟩
set_option maxRecDepth 100000 in
set_option maxHeartbeats 1000000 in
theorem p_same {X : ev_X} {c0 z : Nat} (t u : Int32) : Ex X m_Tab_same 0 [.ref (c0 + 0), .int t, .int u, ev_dead, ev_dead] [] (hp c0 26 z (fz c0)) (pOk c0 26 z (fz c0) (some (.int 2))) := by
  refine Ex.nx rfl ?_
  refine Hx.get 0 rfl rfl rfl ?_
  refine Ex.nx rfl ?_
  refine Hx.call 9 rfl rfl rfl rfl rfl (hx_get0 t rfl) ?_
  show Ex X m_Tab_same 8 [.ref (c0 + 0), .int t, .int u, ev_dead, ev_dead] [.null] (hp c0 26 _ _) _
  refine Ex.nx rfl ?_
  show Ex X m_Tab_same 9 [.ref (c0 + 0), .int t, .int u, .null, ev_dead] [] (hp c0 26 _ _) _
  refine Ex.nx rfl ?_
  refine Hx.get 0 rfl rfl rfl ?_
  refine Ex.nx rfl ?_
  refine Hx.call 9 rfl rfl rfl rfl rfl (hx_get0 u rfl) ?_
  show Ex X m_Tab_same 17 [.ref (c0 + 0), .int t, .int u, .null, ev_dead] [.null] (hp c0 26 _ _) _
  refine Ex.nx rfl ?_
  show Ex X m_Tab_same 19 [.ref (c0 + 0), .int t, .int u, .null, .null] [] (hp c0 26 _ _) _
  refine Ex.nx rfl ?_
  refine Ex.nx rfl ?_
  show Ex X m_Tab_same 28 [.ref (c0 + 0), .int t, .int u, .null, .null] [] (hp c0 26 _ _) _
  refine Ex.nx rfl ?_
  exact Ex.ret rfl (ev_reti rfl) ⟨_, _, _, rfl, by omega, by omega, rsm.rf, rfl⟩
set_option maxRecDepth 100000 in
set_option maxHeartbeats 1000000 in
theorem p_less {X : ev_X} {c0 z : Nat} (t u : Int32) : Ex X m_Tab_less 0 [.ref (c0 + 0), .int t, .int u, ev_dead, ev_dead] [] (hp c0 26 z (fz c0)) (pOk c0 26 z (fz c0) (some (.int 2))) := by
  refine Ex.nx rfl ?_
  refine Hx.get 0 rfl rfl rfl ?_
  refine Ex.nx rfl ?_
  refine Hx.call 9 rfl rfl rfl rfl rfl (hx_get0 t rfl) ?_
  show Ex X m_Tab_less 8 [.ref (c0 + 0), .int t, .int u, ev_dead, ev_dead] [.null] (hp c0 26 _ _) _
  refine Ex.nx rfl ?_
  show Ex X m_Tab_less 9 [.ref (c0 + 0), .int t, .int u, .null, ev_dead] [] (hp c0 26 _ _) _
  refine Ex.nx rfl ?_
  refine Hx.get 0 rfl rfl rfl ?_
  refine Ex.nx rfl ?_
  refine Hx.call 9 rfl rfl rfl rfl rfl (hx_get0 u rfl) ?_
  show Ex X m_Tab_less 17 [.ref (c0 + 0), .int t, .int u, .null, ev_dead] [.null] (hp c0 26 _ _) _
  refine Ex.nx rfl ?_
  show Ex X m_Tab_less 19 [.ref (c0 + 0), .int t, .int u, .null, .null] [] (hp c0 26 _ _) _
  refine Ex.nx rfl ?_
  refine Ex.nx rfl ?_
  show Ex X m_Tab_less 47 [.ref (c0 + 0), .int t, .int u, .null, .null] [] (hp c0 26 _ _) _
  refine Ex.nx rfl ?_
  exact Ex.ret rfl (ev_reti rfl) ⟨_, _, _, rfl, by omega, by omega, rsm.rf, rfl⟩
set_option maxRecDepth 100000 in
set_option maxHeartbeats 1000000 in
theorem p_written {X : ev_X} {c0 z : Nat} (t : Int32) : Ex X m_Tab_written 0 [.ref (c0 + 0), .int t] [] (hp c0 26 z (fz c0)) (pOk c0 26 z (fz c0) (some (.int (-1)))) := by
  refine Ex.nx rfl ?_
  refine Hx.get 0 rfl rfl rfl ?_
  refine Ex.nx rfl ?_
  refine Hx.call 11 rfl rfl rfl rfl rfl (hx_byteAt0 t rfl rfl) ?_
  show Ex X m_Tab_written 8 [.ref (c0 + 0), .int t] [.int (-1)] (hp c0 26 _ _) _
  exact Ex.ret rfl (ev_reti rfl) ⟨_, _, _, rfl, by omega, by omega, rsm.rf, rfl⟩
end
section
/-! type, whole, decimal, read, find of the class on a fresh object. (rows laid by wip/whole/h3.py) -/
theorem va_et {α : Type} {f : Nat → α} {k : Nat} {e : α} (h : f k = e) : va_up f k e = f := by
  funext j
  by_cases q : j = k
  · subst q; rw [va_up_self, h]
  · rw [va_up_ne _ _ q]
theorem va_u2 {α : Type} {f : Nat → α} {i j : Nat} {a b c d : α} (h : i ≠ j) : va_up (va_up (va_up (va_up f i a) j b) i c) j d = va_up (va_up f i c) j d := by
  funext x
  by_cases q : x = j
  · subst q; rw [va_up_self, va_up_self]
  · by_cases q2 : x = i
    · subst q2; rw [va_up_ne _ _ q, va_up_self, va_up_ne _ _ q, va_up_self]
    · simp only [va_up_ne _ _ q, va_up_ne _ _ q2]
theorem nI_s1 (p : Nat) : nI (p + 1) - 1 = nI p := by rw [← nI_1]; exact Int32.add_sub_cancel _ _
theorem nI_m1 (p : Nat) : nI (p + 1) + (-1) = nI p := by rw [← nI_s1 p]; exact (Int32.sub_eq_add_neg _ _).symm
theorem lgc0 {a b : Int64} (h : lg_cmp a b = 0) : a = b := by
  unfold lg_cmp at h
  split at h
  · exact absurd h (by decide)
  · split at h
    · assumption
    · exact absurd h (by decide)
theorem lgc1 {a b : Int64} (h : ¬ lg_cmp a b = 0) : ¬ a = b := fun q => h (by unfold lg_cmp; rw [if_neg (by rw [q]; exact Int64.lt_irrefl), if_pos q])
/-- the byte of type at place i; the tape with m more bytes -/
def cb (v : Int64) (m : Nat) : Int32 := (v.toUInt64 >>> ((8 * nI m).toInt64.toUInt64 &&& Int64.toUInt64 63)).toInt64.toInt32 &&& 255
def tcf : Nat → Nat → (Nat → Int32) → Int64 → Nat → Int32
  | 0, _, f, _ => f
  | m + 1, s, f, v => tcf m (s + 1) (upd f s (vp_nar .byte (cb v m))) v
def few (v : Int64) : Bool := !decide (lg_cmp v (-999999999999999999) < 0) && !decide (0 < lg_cmp v 999999999999999999)
def lz : Nat → Int64 → Int64 × Nat
  | 0, v => (v, 0)
  | p + 1, v => if v - v / 10 * 10 = 0 then lz p (v / 10) else (v, p + 1)
set_option maxRecDepth 100000 in
set_option maxHeartbeats 1000000 in
theorem hx_type_l {X : ev_X} {c0 n z : Nat} (v : Int64) (N : Int32) : ∀ (m s : Nat) (f : Nat → Int32) (F : Nat → Option va_E) (h0 : F 0 = some (.inr (5, [.ref (c0 + 1), .ref (c0 + 3), .ref (c0 + 8), .ref (c0 + 9), .ref (c0 + 11)]))) (h1 : F 1 = some (.inr (1, [.ref (c0 + 2), .int (nI s)]))) (h2 : F 2 = some (.inl (0, 240, .inl f))) (hs : s + m ≤ 240), Ex X m_Tab_type 36 [.ref (c0 + 0), .long v, ev_dead, .int N, .int (nI m - 1)] [] (hp c0 n z F) (fun r h' => r = some (.int (nI (s + m))) ∧ h' = hp c0 n z (va_up (va_up F 2 (some (.inl (0, 240, .inl (tcf m s f v))))) 1 (some (.inr (1, [.ref (c0 + 2), .int (nI (s + m))]))))) := by
  intro m
  induction m with
  | zero =>
    intro s f F h0 h1 h2 hs
    show Ex X m_Tab_type 36 [.ref (c0 + 0), .long v, ev_dead, .int N, .int (-1)] [] (hp c0 n z F) _
    refine Ex.nx rfl ?_
    refine Ex.nx rfl ?_
    show Ex X m_Tab_type 66 [.ref (c0 + 0), .long v, ev_dead, .int N, .int (-1)] [] (hp c0 n _ _) _
    refine Ex.nx rfl ?_
    refine Hx.get 0 rfl h0 rfl ?_
    refine Hx.call 1 rfl rfl h1 rfl rfl (hx_size 1 h1) ?_
    show Ex X m_Tab_type 73 [.ref (c0 + 0), .long v, ev_dead, .int N, .int (-1)] [.int (nI s)] (hp c0 n _ _) _
    refine Ex.ret rfl (ev_reti rfl) ⟨rfl, ?_⟩
    show hp c0 n z F = hp c0 n z (va_up (va_up F 2 (some (.inl (0, 240, .inl f)))) 1 (some (.inr (1, [.ref (c0 + 2), .int (nI s)]))))
    rw [va_et h2, va_et h1]
  | succ m ih =>
    intro s f F h0 h1 h2 hs
    rw [nI_s1]
    refine Ex.nx rfl ?_
    refine Ex.nx rfl ?_
    refine Ex.ite (fun c1 => ?_) (fun c1 => ?_)
    · replace c1 : (nI m) < 0 := of_decide_eq_true c1
      exact absurd c1 (nI_pos (by omega))
    · replace c1 : ¬ (nI m) < 0 := of_decide_eq_false c1
      show Ex X m_Tab_type 41 [.ref (c0 + 0), .long v, ev_dead, .int N, .int (nI m)] [] (hp c0 n _ _) _
      refine Ex.nx rfl ?_
      refine Hx.get 0 rfl h0 rfl ?_
      refine Ex.nx rfl ?_
      refine Ex.nx rfl ?_
      refine Ex.nx rfl ?_
      refine Ex.nx rfl ?_
      refine Ex.nx rfl ?_
      refine Ex.nx rfl ?_
      refine Ex.nx rfl ?_
      refine Ex.nx rfl ?_
      refine Hx.call 1 rfl rfl h1 rfl rfl (hx_add 1 2 (l := s) (N := 240) (f := f) h1 h2 (by decide) (by omega) (by decide) ((((v.toUInt64 >>> ((8 * (nI m)).toInt64.toUInt64 &&& Int64.toUInt64 63)).toInt64).toInt32) &&& 255)) ?_
      show Ex X m_Tab_type 60 [.ref (c0 + 0), .long v, ev_dead, .int N, .int (nI m)] [] (hp c0 n _ _) _
      refine Ex.nx rfl ?_
      show Ex X m_Tab_type 63 [.ref (c0 + 0), .long v, ev_dead, .int N, .int ((nI m) + (-1))] [] (hp c0 n _ _) _
      refine Ex.nx rfl ?_
      show Ex X m_Tab_type 36 [.ref (c0 + 0), .long v, ev_dead, .int N, .int ((nI m) + (-1))] [] (hp c0 n _ _) _
      rw [show nI m + (-1) = nI m - 1 from (Int32.sub_eq_add_neg _ _).symm]
      refine (ih (s + 1) (upd f s (vp_nar .byte (cb v m))) (va_up (va_up F 2 (some (.inl (0, 240, .inl (upd f s (vp_nar .byte ((((v.toUInt64 >>> ((8 * (nI m)).toInt64.toUInt64 &&& Int64.toUInt64 63)).toInt64).toInt32) &&& 255))))))) 1 (some (.inr (1, [.ref (c0 + 2), .int (nI (s + 1))])))) h0 rfl rfl (by omega)).mono ?_
      rintro r h' ⟨rfl, rfl⟩
      exact ⟨by rw [show s + 1 + m = s + (m + 1) by omega], by rw [va_u2 (by decide), show s + 1 + m = s + (m + 1) by omega]; rfl⟩
theorem i32_81 {n : Int32} (h1 : ¬ n < 1) (h2 : n ≤ 8) : ∃ m : Nat, m ≤ 8 ∧ n = nI m := nI_of2 (M := 8) (n := 8) rfl (fun q => h1 (Int32.lt_trans q (by decide))) h2
theorem i32_82 {n : Int32} (h1 : ¬ n < 1) (h2 : n ≤ 8) : 0 + n ≤ 240 := by
  obtain ⟨m, hm, rfl⟩ := i32_81 h1 h2
  rw [show (0 : Int32) + nI m = nI (0 + m) from nI_add 0 m]
  exact nI_le (b := 240) (by omega) (by decide)
set_option maxRecDepth 100000 in
set_option maxHeartbeats 1000000 in
theorem p_type {X : ev_X} {c0 z : Nat} (v : Int64) (n : Int32) : Ex X m_Tab_type 0 [.ref (c0 + 0), .long v, ev_dead, .int n, ev_dead] [] (hp c0 26 z (fz c0)) (pOk c0 26 z (fz c0) (some (.int (if n < 1 then -1 else if n ≤ 8 then n else -1)))) := by
  refine Ex.nx rfl ?_
  refine Ex.nx rfl ?_
  refine Ex.nx rfl ?_
  refine Ex.ite (fun c1 => ?_) (fun c1 => ?_)
  · replace c1 : n < 1 := of_decide_eq_true c1
    show Ex X m_Tab_type 11 [.ref (c0 + 0), .long v, ev_dead, .int n, ev_dead] [] (hp c0 26 _ _) _
    refine Ex.nx rfl ?_
    exact Ex.ret rfl (ev_reti rfl) ⟨_, _, _, rfl, by omega, by omega, rsm.rf, by simp [c1]⟩
  · replace c1 : ¬ n < 1 := of_decide_eq_false c1
    show Ex X m_Tab_type 5 [.ref (c0 + 0), .long v, ev_dead, .int n, ev_dead] [] (hp c0 26 _ _) _
    refine Ex.nx rfl ?_
    refine Ex.nx rfl ?_
    refine Ex.nx rfl ?_
    refine Ex.ite (fun c2 => ?_) (fun c2 => ?_)
    · replace c2 : n ≤ 8 := of_decide_eq_true c2
      show Ex X m_Tab_type 13 [.ref (c0 + 0), .long v, ev_dead, .int n, ev_dead] [] (hp c0 26 _ _) _
      refine Ex.nx rfl ?_
      refine Hx.get 0 rfl rfl rfl ?_
      refine Hx.call 1 rfl rfl rfl rfl rfl (hx_size 1 rfl) ?_
      show Ex X m_Tab_type 20 [.ref (c0 + 0), .long v, ev_dead, .int n, ev_dead] [.int 0] (hp c0 26 _ _) _
      refine Ex.nx rfl ?_
      refine Ex.nx rfl ?_
      refine Ex.nx rfl ?_
      refine Ex.nx rfl ?_
      refine Ex.ite (fun c3 => ?_) (fun c3 => ?_)
      · replace c3 : (0 + n) ≤ 240 := of_decide_eq_true c3
        show Ex X m_Tab_type 31 [.ref (c0 + 0), .long v, ev_dead, .int n, ev_dead] [] (hp c0 26 _ _) _
        refine Ex.nx rfl ?_
        refine Ex.nx rfl ?_
        refine Ex.nx rfl ?_
        refine Ex.nx rfl ?_
        show Ex X m_Tab_type 36 [.ref (c0 + 0), .long v, ev_dead, .int n, .int (n - 1)] [] (hp c0 26 _ _) _
        show Ex X m_Tab_type 36 [.ref (c0 + 0), .long v, ev_dead, .int n, .int (n - 1)] [] (hp c0 26 _ _) _
        obtain ⟨m, hm, rfl⟩ := i32_81 c1 c2
        refine (hx_type_l v (nI m) m 0 _ _ rfl rfl rfl (by omega)).mono ?_
        rintro r h' ⟨rfl, rfl⟩
        exact ⟨_, _, _, rfl, by omega, by omega, (rsm.up (rsm.up rsm.rf (by decide)) (by decide)), by rw [if_neg c1, if_pos c2, Nat.zero_add]⟩
      · replace c3 : ¬ (0 + n) ≤ 240 := of_decide_eq_false c3
        exact absurd (i32_82 c1 c2) c3
    · replace c2 : ¬ n ≤ 8 := of_decide_eq_false c2
      show Ex X m_Tab_type 11 [.ref (c0 + 0), .long v, ev_dead, .int n, ev_dead] [] (hp c0 26 _ _) _
      refine Ex.nx rfl ?_
      exact Ex.ret rfl (ev_reti rfl) ⟨_, _, _, rfl, by omega, by omega, rsm.rf, by simp [c1, c2]⟩
set_option maxRecDepth 100000 in
set_option maxHeartbeats 1000000 in
theorem sx_few (X : ev_X) (v : Int64) : Sx X m_Tab_hasFewDigits 0 [.long v, ev_dead] [] (fun r => r = some (.int (bi (few v)))) := by
  refine Sx.go (fun _ => rfl) ?_
  refine Sx.go (fun _ => rfl) ?_
  refine Sx.go (fun _ => rfl) ?_
  refine Sx.go (fun _ => rfl) ?_
  refine Sx.ite (fun c1 => ?_) (fun c1 => ?_)
  · replace c1 : (lg_cmp v (-999999999999999999)) < 0 := of_decide_eq_true c1
    show Sx X m_Tab_hasFewDigits 20 [.long v, ev_dead] [] _
    refine Sx.go (fun _ => rfl) ?_
    refine Sx.ret rfl rfl ?_
    simp [few, bi, c1]
  · replace c1 : ¬ (lg_cmp v (-999999999999999999)) < 0 := of_decide_eq_false c1
    show Sx X m_Tab_hasFewDigits 8 [.long v, ev_dead] [] _
    refine Sx.go (fun _ => rfl) ?_
    refine Sx.go (fun _ => rfl) ?_
    refine Sx.go (fun _ => rfl) ?_
    refine Sx.go (fun _ => rfl) ?_
    refine Sx.ite (fun c2 => ?_) (fun c2 => ?_)
    · replace c2 : 0 < (lg_cmp v 999999999999999999) := of_decide_eq_true c2
      show Sx X m_Tab_hasFewDigits 20 [.long v, ev_dead] [] _
      refine Sx.go (fun _ => rfl) ?_
      refine Sx.ret rfl rfl ?_
      simp [few, bi, c1, c2]
    · replace c2 : ¬ 0 < (lg_cmp v 999999999999999999) := of_decide_eq_false c2
      show Sx X m_Tab_hasFewDigits 16 [.long v, ev_dead] [] _
      refine Sx.go (fun _ => rfl) ?_
      refine Sx.go (fun _ => rfl) ?_
      refine Sx.ret rfl rfl ?_
      simp [few, bi, c1, c2]
set_option maxRecDepth 100000 in
set_option maxHeartbeats 1000000 in
theorem p_whole {X : ev_X} {c0 z : Nat} (v : Int64) : Ex X m_Tab_whole 0 [.ref (c0 + 0), .long v, ev_dead] [] (hp c0 26 z (fz c0)) (pOk c0 26 z (fz c0) (some (.int (if few v = true then 1 else -1)))) := by
  refine Ex.nx rfl ?_
  refine Hx.calls rfl rfl rfl rfl (sx_few X v) (fun v hv => ?_)
  subst hv
  show Ex X m_Tab_whole 4 [.ref (c0 + 0), .long v, ev_dead] [.int (bi (few v))] (hp c0 26 _ _) _
  refine Ex.nx rfl ?_
  refine Ex.ite (fun c1 => ?_) (fun c1 => ?_)
  · replace c1 : (few v) = true := bi_net c1
    show Ex X m_Tab_whole 9 [.ref (c0 + 0), .long v, ev_dead] [] (hp c0 26 _ _) _
    refine Ex.nx rfl ?_
    refine Hx.get 0 rfl rfl rfl ?_
    refine Ex.nx rfl ?_
    refine Ex.nx rfl ?_
    refine Ex.nx rfl ?_
    refine Hx.call 3 rfl rfl rfl rfl rfl (hx_become 3 v 0 rfl rfl rfl) ?_
    show Ex X m_Tab_whole 19 [.ref (c0 + 0), .long v, ev_dead] [] (hp c0 26 _ _) _
    refine Ex.nx rfl ?_
    refine Hx.get 0 rfl rfl rfl ?_
    refine Ex.nx rfl ?_
    refine Hx.get 0 rfl rfl rfl ?_
    refine Hx.callX 9 rfl rfl rfl rfl rfl (hx_keep0 rfl rfl rfl rfl rfl) ?_
    rintro v h1 ⟨n1, z1, F1, rfl, e1, e2, e3, rfl⟩
    exact Ex.ret rfl (ev_reti rfl) ⟨n1, z1, F1, rfl, by omega, by omega, rsm.tr (rsm.up (rsm.up (rsm.up (rsm.up (rsm.up rsm.rf (by decide)) (by decide)) (by decide)) (by decide)) (by decide)) e3, by simp [c1]⟩
  · replace c1 : (few v) = false := bi_nef c1
    show Ex X m_Tab_whole 7 [.ref (c0 + 0), .long v, ev_dead] [] (hp c0 26 _ _) _
    refine Ex.nx rfl ?_
    exact Ex.ret rfl (ev_reti rfl) ⟨_, _, _, rfl, by omega, by omega, rsm.rf, by simp [c1]⟩
set_option maxRecDepth 100000 in
set_option maxHeartbeats 1000000 in
theorem hx_lz_l {X : ev_X} {c0 n z : Nat} {s : Int32} : ∀ (p : Nat) (v : Int64) (F : Nat → Option va_E) (h3 : F 3 = some (.inr (2, [.int s, .long v, .int (nI p), .ref (c0 + 4), .ref (c0 + 6)]))) (hp9 : p ≤ 1000), Ex X m_Term_leaveOffZeros 5 [.ref (c0 + 3), .int (nI p)] [] (hp c0 n z F) (fun r h' => r = none ∧ h' = hp c0 n z (va_up F 3 (some (.inr (2, [.int s, .long (lz p v).1, .int (nI (lz p v).2), .ref (c0 + 4), .ref (c0 + 6)]))))) := by
  intro p
  induction p with
  | zero =>
    intro v F h3 hp9
    refine Ex.nx rfl ?_
    refine Ex.nx rfl ?_
    show Ex X m_Term_leaveOffZeros 50 [.ref (c0 + 3), .int 0] [] (hp c0 n _ _) _
    exact Ex.ret rfl rfl ⟨rfl, congrArg _ (va_et h3).symm⟩
  | succ p ih =>
    intro v F h3 hp9
    refine Ex.nx rfl ?_
    refine Ex.nx rfl ?_
    refine Ex.ite (fun c1 => ?_) (fun c1 => ?_)
    · replace c1 : (nI (p + 1)) ≤ 0 := of_decide_eq_true c1
      exact absurd ((nI_leI (b := 0) (by omega) (by omega)).mp c1) (by omega)
    · replace c1 : ¬ (nI (p + 1)) ≤ 0 := of_decide_eq_false c1
      show Ex X m_Term_leaveOffZeros 9 [.ref (c0 + 3), .int (nI (p + 1))] [] (hp c0 n _ _) _
      refine Ex.nx rfl ?_
      refine Hx.get 3 rfl h3 rfl ?_
      refine Ex.nx rfl ?_
      refine Ex.nx rfl ?_
      refine Ex.nx rfl ?_
      refine Ex.nx rfl ?_
      refine Ex.nx rfl ?_
      refine Ex.ite (fun c2 => ?_) (fun c2 => ?_)
      · replace c2 : ¬ (lg_cmp (v - v / 10 * 10) 0) = 0 := of_decide_eq_true c2
        show Ex X m_Term_leaveOffZeros 50 [.ref (c0 + 3), .int (nI (p + 1))] [] (hp c0 n _ _) _
        refine Ex.ret rfl rfl ⟨rfl, ?_⟩
        rw [show lz (p + 1) v = (v, p + 1) from if_neg (lgc1 c2)]
        exact congrArg _ (va_et h3).symm
      · replace c2 : (lg_cmp (v - v / 10 * 10) 0) = 0 := Classical.not_not.mp (of_decide_eq_false c2)
        show Ex X m_Term_leaveOffZeros 22 [.ref (c0 + 3), .int (nI (p + 1))] [] (hp c0 n _ _) _
        refine Ex.nx rfl ?_
        refine Ex.nx rfl ?_
        refine Hx.get 3 rfl h3 rfl ?_
        refine Ex.nx rfl ?_
        refine Ex.nx rfl ?_
        refine Hx.put 3 rfl h3 rfl rfl rfl ?_
        refine Ex.nx rfl ?_
        refine Ex.nx rfl ?_
        refine Hx.get 3 rfl rfl rfl ?_
        refine Ex.nx rfl ?_
        refine Ex.nx rfl ?_
        refine Hx.top (y := nI p) (nI_s1 p) ?_
        refine Hx.put 3 rfl rfl rfl rfl rfl ?_
        refine Ex.nx rfl ?_
        show Ex X m_Term_leaveOffZeros 47 [.ref (c0 + 3), .int ((nI (p + 1)) + (-1))] [] (hp c0 n _ _) _
        refine Ex.nx rfl ?_
        show Ex X m_Term_leaveOffZeros 5 [.ref (c0 + 3), .int ((nI (p + 1)) + (-1))] [] (hp c0 n _ _) _
        rw [nI_m1]
        refine (ih _ _ rfl (by omega)).mono ?_
        rintro r h' ⟨rfl, rfl⟩
        exact ⟨rfl, by rw [va_uu, va_uu, show lz (p + 1) v = lz p (v / 10) from if_pos (lgc0 c2)]⟩
set_option maxRecDepth 100000 in
set_option maxHeartbeats 1000000 in
theorem hx_lz {X : ev_X} {c0 n z : Nat} {F : Nat → Option va_E} {s : Int32} (p : Nat) (v : Int64) (hp9 : p ≤ 1000) (h3 : F 3 = some (.inr (2, [.int s, .long v, .int (nI p), .ref (c0 + 4), .ref (c0 + 6)]))) : Ex X m_Term_leaveOffZeros 0 [.ref (c0 + 3), ev_dead] [] (hp c0 n z F) (fun r h' => r = none ∧ h' = hp c0 n z (va_up F 3 (some (.inr (2, [.int s, .long (lz p v).1, .int (nI (lz p v).2), .ref (c0 + 4), .ref (c0 + 6)]))))) := by
  refine Ex.nx rfl ?_
  refine Hx.get 3 rfl h3 rfl ?_
  refine Ex.nx rfl ?_
  show Ex X m_Term_leaveOffZeros 5 [.ref (c0 + 3), .int (nI p)] [] (hp c0 n _ _) _
  show Ex X m_Term_leaveOffZeros 5 [.ref (c0 + 3), .int (nI p)] [] (hp c0 n _ _) _
  exact hx_lz_l p v F h3 hp9
set_option maxRecDepth 100000 in
set_option maxHeartbeats 1000000 in
theorem p_decimal {X : ev_X} {c0 z : Nat} (v : Int64) (u : Int32) : Ex X m_Tab_decimal 0 [.ref (c0 + 0), .long v, ev_dead, .int u] [] (hp c0 26 z (fz c0)) (pOk c0 26 z (fz c0) (some (.int (if u < 0 then -1 else if 9 < u then -1 else if few v = true then 1 else -1)))) := by
  refine Ex.nx rfl ?_
  refine Ex.nx rfl ?_
  refine Ex.ite (fun c1 => ?_) (fun c1 => ?_)
  · replace c1 : u < 0 := of_decide_eq_true c1
    show Ex X m_Tab_decimal 17 [.ref (c0 + 0), .long v, ev_dead, .int u] [] (hp c0 26 _ _) _
    refine Ex.nx rfl ?_
    exact Ex.ret rfl (ev_reti rfl) ⟨_, _, _, rfl, by omega, by omega, rsm.rf, by rw [if_pos c1] <;> rfl⟩
  · replace c1 : ¬ u < 0 := of_decide_eq_false c1
    show Ex X m_Tab_decimal 4 [.ref (c0 + 0), .long v, ev_dead, .int u] [] (hp c0 26 _ _) _
    refine Ex.nx rfl ?_
    refine Ex.nx rfl ?_
    refine Ex.nx rfl ?_
    refine Ex.ite (fun c2 => ?_) (fun c2 => ?_)
    · replace c2 : 9 < u := of_decide_eq_true c2
      show Ex X m_Tab_decimal 17 [.ref (c0 + 0), .long v, ev_dead, .int u] [] (hp c0 26 _ _) _
      refine Ex.nx rfl ?_
      exact Ex.ret rfl (ev_reti rfl) ⟨_, _, _, rfl, by omega, by omega, rsm.rf, by rw [if_neg c1, if_pos c2] <;> rfl⟩
    · replace c2 : ¬ 9 < u := of_decide_eq_false c2
      show Ex X m_Tab_decimal 10 [.ref (c0 + 0), .long v, ev_dead, .int u] [] (hp c0 26 _ _) _
      refine Ex.nx rfl ?_
      refine Hx.calls rfl rfl rfl rfl (sx_few X v) (fun v hv => ?_)
      subst hv
      show Ex X m_Tab_decimal 14 [.ref (c0 + 0), .long v, ev_dead, .int u] [.int (bi (few v))] (hp c0 26 _ _) _
      refine Ex.nx rfl ?_
      refine Ex.ite (fun c3 => ?_) (fun c3 => ?_)
      · replace c3 : (few v) = true := bi_net c3
        show Ex X m_Tab_decimal 19 [.ref (c0 + 0), .long v, ev_dead, .int u] [] (hp c0 26 _ _) _
        obtain ⟨p, hp9, rfl⟩ := nI_of2 (M := 9) (n := 9) rfl c1 (Int32.not_lt.mp c2)
        refine Ex.nx rfl ?_
        refine Hx.get 0 rfl rfl rfl ?_
        refine Ex.nx rfl ?_
        refine Ex.nx rfl ?_
        refine Ex.nx rfl ?_
        refine Hx.call 3 rfl rfl rfl rfl rfl (hx_become 4 v (nI p) rfl rfl rfl) ?_
        show Ex X m_Tab_decimal 29 [.ref (c0 + 0), .long v, ev_dead, .int (nI p)] [] (hp c0 26 _ _) _
        refine Ex.nx rfl ?_
        refine Hx.get 0 rfl rfl rfl ?_
        refine Hx.call 3 rfl rfl rfl rfl rfl (hx_lz p v (by omega) rfl) ?_
        show Ex X m_Tab_decimal 36 [.ref (c0 + 0), .long v, ev_dead, .int (nI p)] [] (hp c0 26 _ _) _
        refine Ex.nx rfl ?_
        refine Hx.get 0 rfl rfl rfl ?_
        refine Ex.nx rfl ?_
        refine Hx.get 0 rfl rfl rfl ?_
        refine Hx.callX 9 rfl rfl rfl rfl rfl (hx_keep0 rfl rfl rfl rfl rfl) ?_
        rintro v h1 ⟨n1, z1, F1, rfl, e1, e2, e3, rfl⟩
        exact Ex.ret rfl (ev_reti rfl) ⟨n1, z1, F1, rfl, by omega, by omega, rsm.tr (rsm.up (rsm.up (rsm.up (rsm.up (rsm.up (rsm.up rsm.rf (by decide)) (by decide)) (by decide)) (by decide)) (by decide)) (by decide)) e3, by rw [if_neg c1, if_neg c2, if_pos c3] <;> rfl⟩
      · replace c3 : (few v) = false := bi_nef c3
        show Ex X m_Tab_decimal 17 [.ref (c0 + 0), .long v, ev_dead, .int u] [] (hp c0 26 _ _) _
        refine Ex.nx rfl ?_
        exact Ex.ret rfl (ev_reti rfl) ⟨_, _, _, rfl, by omega, by omega, rsm.rf, by rw [if_neg c1, if_neg c2, if_neg (by rw [c3]; decide)] <;> rfl⟩
set_option maxRecDepth 100000 in
set_option maxHeartbeats 1000000 in
theorem hx_fail {X : ev_X} {c0 n z : Nat} {F : Nat → Option va_E} (q p : Int32) {a b : Int32} (h8 : F 8 = some (.inr (0, [.ref (c0 + 3), .int a, .int b]))) : Ex X m_Reader_fail 0 [.ref (c0 + 8), .int q, .int p] [] (hp c0 n z F) (fun r h' => r = some (.int (-1)) ∧ h' = hp c0 n (z) (va_up (va_up F 8 (some (.inr (0, [.ref (c0 + 3), .int q, .int b])))) 8 (some (.inr (0, [.ref (c0 + 3), .int q, .int p]))))) := by
  refine Ex.nx rfl ?_
  refine Ex.nx rfl ?_
  refine Hx.put 8 rfl h8 rfl rfl rfl ?_
  refine Ex.nx rfl ?_
  refine Ex.nx rfl ?_
  refine Hx.put 8 rfl rfl rfl rfl rfl ?_
  refine Ex.nx rfl ?_
  exact Ex.ret rfl (ev_reti rfl) ⟨rfl, rfl⟩
set_option maxRecDepth 100000 in
set_option maxHeartbeats 1000000 in
theorem hx_readPlain0 {X : ev_X} {c0 n z : Nat} {F : Nat → Option va_E} {f : Nat → Int32} {a b : Int32} (h1 : F 1 = some (.inr (1, [.ref (c0 + 2), .int 0]))) (h2 : F 2 = some (.inl (0, 240, .inl f))) (h8 : F 8 = some (.inr (0, [.ref (c0 + 3), .int a, .int b]))) : Ex X m_Reader_readPlain 0 [.ref (c0 + 8), .ref (c0 + 1), ev_dead, ev_dead] [] (hp c0 n z F) (fun r h' => r = some (.int (-1)) ∧ h' = hp c0 n (z) (va_up (va_up F 8 (some (.inr (0, [.ref (c0 + 3), .int 1, .int b])))) 8 (some (.inr (0, [.ref (c0 + 3), .int 1, .int 0]))))) := by
  refine Ex.nx rfl ?_
  refine Ex.nx rfl ?_
  refine Hx.call 1 rfl rfl h1 rfl rfl (hx_at_ge 1 2 (l := 0) (i := 0) h1 h2 (by decide) (by decide) (by decide) (by decide)) ?_
  show Ex X m_Reader_readPlain 5 [.ref (c0 + 8), .ref (c0 + 1), ev_dead, ev_dead] [.int (-1)] (hp c0 n _ _) _
  refine Ex.nx rfl ?_
  show Ex X m_Reader_readPlain 6 [.ref (c0 + 8), .ref (c0 + 1), .int (-1), ev_dead] [] (hp c0 n _ _) _
  refine Ex.nx rfl ?_
  refine Ex.nx rfl ?_
  refine Ex.nx rfl ?_
  show Ex X m_Reader_readPlain 21 [.ref (c0 + 8), .ref (c0 + 1), .int (-1), ev_dead] [] (hp c0 n _ _) _
  refine Ex.nx rfl ?_
  refine Ex.nx rfl ?_
  refine Ex.nx rfl ?_
  show Ex X m_Reader_readPlain 36 [.ref (c0 + 8), .ref (c0 + 1), .int (-1), ev_dead] [] (hp c0 n _ _) _
  refine Ex.nx rfl ?_
  refine Hx.calls rfl rfl rfl rfl (sx_Reader_isSign X (-1)) (fun v hv => ?_)
  subst hv
  show Ex X m_Reader_readPlain 40 [.ref (c0 + 8), .ref (c0 + 1), .int (-1), ev_dead] [.int 0] (hp c0 n _ _) _
  refine Ex.nx rfl ?_
  show Ex X m_Reader_readPlain 43 [.ref (c0 + 8), .ref (c0 + 1), .int (-1), ev_dead] [] (hp c0 n _ _) _
  refine Ex.nx rfl ?_
  refine Hx.calls rfl rfl rfl rfl (sx_Reader_isDigit X (-1)) (fun v hv => ?_)
  subst hv
  show Ex X m_Reader_readPlain 47 [.ref (c0 + 8), .ref (c0 + 1), .int (-1), ev_dead] [.int 0] (hp c0 n _ _) _
  refine Ex.nx rfl ?_
  show Ex X m_Reader_readPlain 50 [.ref (c0 + 8), .ref (c0 + 1), .int (-1), ev_dead] [] (hp c0 n _ _) _
  refine Ex.nx rfl ?_
  refine Ex.nx rfl ?_
  refine Ex.nx rfl ?_
  show Ex X m_Reader_readPlain 56 [.ref (c0 + 8), .ref (c0 + 1), .int (-1), ev_dead] [] (hp c0 n _ _) _
  refine Ex.nx rfl ?_
  refine Ex.nx rfl ?_
  refine Ex.nx rfl ?_
  refine Hx.call 8 rfl rfl h8 rfl rfl (hx_fail 1 0 h8) ?_
  show Ex X m_Reader_readPlain 62 [.ref (c0 + 8), .ref (c0 + 1), .int (-1), ev_dead] [.int (-1)] (hp c0 n _ _) _
  exact Ex.ret rfl (ev_reti rfl) ⟨rfl, rfl⟩
set_option maxRecDepth 100000 in
set_option maxHeartbeats 1000000 in
theorem hx_readAny0 {X : ev_X} {c0 n z : Nat} {F : Nat → Option va_E} {f : Nat → Int32} {a b : Int32} (h1 : F 1 = some (.inr (1, [.ref (c0 + 2), .int 0]))) (h2 : F 2 = some (.inl (0, 240, .inl f))) (h8 : F 8 = some (.inr (0, [.ref (c0 + 3), .int a, .int b]))) : Ex X m_Reader_readAny 0 [.ref (c0 + 8), .ref (c0 + 1)] [] (hp c0 n z F) (fun r h' => r = some (.int (-1)) ∧ h' = hp c0 n (z) (va_up (va_up F 8 (some (.inr (0, [.ref (c0 + 3), .int 1, .int b])))) 8 (some (.inr (0, [.ref (c0 + 3), .int 1, .int 0]))))) := by
  refine Ex.nx rfl ?_
  refine Ex.nx rfl ?_
  refine Hx.call 1 rfl rfl h1 rfl rfl (hx_at_ge 1 2 (l := 0) (i := 0) h1 h2 (by decide) (by decide) (by decide) (by decide)) ?_
  show Ex X m_Reader_readAny 5 [.ref (c0 + 8), .ref (c0 + 1)] [.int (-1)] (hp c0 n _ _) _
  refine Ex.nx rfl ?_
  show Ex X m_Reader_readAny 74 [.ref (c0 + 8), .ref (c0 + 1)] [] (hp c0 n _ _) _
  refine Ex.nx rfl ?_
  refine Ex.nx rfl ?_
  refine Hx.call 8 rfl rfl h8 rfl rfl (hx_readPlain0 h1 h2 h8) ?_
  show Ex X m_Reader_readAny 79 [.ref (c0 + 8), .ref (c0 + 1)] [.int (-1)] (hp c0 n _ _) _
  exact Ex.ret rfl (ev_reti rfl) ⟨rfl, rfl⟩
set_option maxRecDepth 100000 in
set_option maxHeartbeats 1000000 in
theorem hx_readTerm0 {X : ev_X} {c0 n z : Nat} {F : Nat → Option va_E} {f : Nat → Int32} {a b s0 p0 lb lt : Int32} {v0 : Int64} (h1 : F 1 = some (.inr (1, [.ref (c0 + 2), .int 0]))) (h2 : F 2 = some (.inl (0, 240, .inl f))) (h3 : F 3 = some (.inr (2, [.int s0, .long v0, .int p0, .ref (c0 + 4), .ref (c0 + 6)]))) (h4 : F 4 = some (.inr (1, [.ref (c0 + 5), .int lb]))) (h6 : F 6 = some (.inr (1, [.ref (c0 + 7), .int lt]))) (h8 : F 8 = some (.inr (0, [.ref (c0 + 3), .int a, .int b]))) : Ex X m_Reader_readTerm 0 [.ref (c0 + 8), .ref (c0 + 1), ev_dead] [] (hp c0 n z F) (fun r h' => r = some (.int 1) ∧ h' = hp c0 n (z) (va_up (va_up (va_up (va_up (va_up (va_up (va_up (va_up (va_up F 3 (some (.inr (2, [.int 0, .long v0, .int p0, .ref (c0 + 4), .ref (c0 + 6)])))) 3 (some (.inr (2, [.int 0, .long 0, .int p0, .ref (c0 + 4), .ref (c0 + 6)])))) 3 (some (.inr (2, [.int 0, .long 0, .int 0, .ref (c0 + 4), .ref (c0 + 6)])))) 4 (some (.inr (1, [.ref (c0 + 5), .int 0])))) 6 (some (.inr (1, [.ref (c0 + 7), .int 0])))) 8 (some (.inr (0, [.ref (c0 + 3), .int 0, .int b])))) 8 (some (.inr (0, [.ref (c0 + 3), .int 0, .int 0])))) 8 (some (.inr (0, [.ref (c0 + 3), .int 1, .int 0])))) 8 (some (.inr (0, [.ref (c0 + 3), .int 1, .int 0]))))) := by
  refine Ex.nx rfl ?_
  refine Hx.get 8 rfl h8 rfl ?_
  refine Ex.nx rfl ?_
  refine Ex.nx rfl ?_
  refine Ex.nx rfl ?_
  refine Hx.call 3 rfl rfl h3 rfl rfl (hx_become 0 0 0 h3 h4 h6) ?_
  show Ex X m_Reader_readTerm 10 [.ref (c0 + 8), .ref (c0 + 1), ev_dead] [] (hp c0 n _ _) _
  refine Ex.nx rfl ?_
  refine Ex.nx rfl ?_
  refine Hx.put 8 rfl h8 rfl rfl rfl ?_
  refine Ex.nx rfl ?_
  refine Ex.nx rfl ?_
  refine Hx.call 1 rfl rfl h1 rfl rfl (hx_size 1 h1) ?_
  show Ex X m_Reader_readTerm 20 [.ref (c0 + 8), .ref (c0 + 1), ev_dead] [.int 0, .ref (c0 + 8)] (hp c0 n _ _) _
  refine Hx.put 8 rfl rfl rfl rfl rfl ?_
  refine Ex.nx rfl ?_
  refine Ex.nx rfl ?_
  refine Hx.call 8 rfl rfl rfl rfl rfl (hx_readAny0 h1 h2 rfl) ?_
  show Ex X m_Reader_readTerm 28 [.ref (c0 + 8), .ref (c0 + 1), ev_dead] [.int (-1)] (hp c0 n _ _) _
  refine Ex.nx rfl ?_
  show Ex X m_Reader_readTerm 29 [.ref (c0 + 8), .ref (c0 + 1), .int (-1)] [] (hp c0 n _ _) _
  refine Ex.nx rfl ?_
  refine Ex.nx rfl ?_
  refine Ex.nx rfl ?_
  show Ex X m_Reader_readTerm 52 [.ref (c0 + 8), .ref (c0 + 1), .int (-1)] [] (hp c0 n _ _) _
  refine Ex.nx rfl ?_
  refine Ex.nx rfl ?_
  refine Ex.nx rfl ?_
  show Ex X m_Reader_readTerm 73 [.ref (c0 + 8), .ref (c0 + 1), .int (-1)] [] (hp c0 n _ _) _
  refine Ex.nx rfl ?_
  refine Hx.get 8 rfl rfl rfl ?_
  exact Ex.ret rfl (ev_reti rfl) ⟨rfl, rfl⟩
set_option maxRecDepth 100000 in
set_option maxHeartbeats 1000000 in
theorem p_read {X : ev_X} {c0 z : Nat} : Ex X m_Tab_read 0 [.ref (c0 + 0), ev_dead] [] (hp c0 26 z (fz c0)) (pOk c0 26 z (fz c0) (some (.int (-101)))) := by
  refine Ex.nx rfl ?_
  refine Hx.get 0 rfl rfl rfl ?_
  refine Ex.nx rfl ?_
  refine Hx.get 0 rfl rfl rfl ?_
  refine Hx.call 8 rfl rfl rfl rfl rfl (hx_readTerm0 rfl rfl rfl rfl rfl rfl) ?_
  show Ex X m_Tab_read 11 [.ref (c0 + 0), ev_dead] [.int 1] (hp c0 26 _ _) _
  refine Ex.nx rfl ?_
  show Ex X m_Tab_read 12 [.ref (c0 + 0), .int 1] [] (hp c0 26 _ _) _
  refine Ex.nx rfl ?_
  refine Hx.get 0 rfl rfl rfl ?_
  refine Hx.call 1 rfl rfl rfl rfl rfl (hx_clear 1 rfl) ?_
  show Ex X m_Tab_read 19 [.ref (c0 + 0), .int 1] [] (hp c0 26 _ _) _
  refine Ex.nx rfl ?_
  refine Ex.nx rfl ?_
  show Ex X m_Tab_read 37 [.ref (c0 + 0), .int 1] [] (hp c0 26 _ _) _
  refine Ex.nx rfl ?_
  refine Ex.nx rfl ?_
  refine Ex.nx rfl ?_
  show Ex X m_Tab_read 41 [.ref (c0 + 0), .int 1] [.int (-101)] (hp c0 26 _ _) _
  exact Ex.ret rfl (ev_reti rfl) ⟨_, _, _, rfl, by omega, by omega, (rsm.up (rsm.up (rsm.up (rsm.up (rsm.up (rsm.up (rsm.up (rsm.up (rsm.up (rsm.up rsm.rf (by decide)) (by decide)) (by decide)) (by decide)) (by decide)) (by decide)) (by decide)) (by decide)) (by decide)) (by decide)), rfl⟩
set_option maxRecDepth 100000 in
set_option maxHeartbeats 1000000 in
theorem p_find {X : ev_X} {c0 z : Nat} : Ex X m_Tab_find 0 [.ref (c0 + 0), ev_dead] [] (hp c0 26 z (fz c0)) (pOk c0 26 z (fz c0) (some (.int (-101)))) := by
  refine Ex.nx rfl ?_
  refine Hx.get 0 rfl rfl rfl ?_
  refine Ex.nx rfl ?_
  refine Hx.get 0 rfl rfl rfl ?_
  refine Hx.call 8 rfl rfl rfl rfl rfl (hx_readTerm0 rfl rfl rfl rfl rfl rfl) ?_
  show Ex X m_Tab_find 11 [.ref (c0 + 0), ev_dead] [.int 1] (hp c0 26 _ _) _
  refine Ex.nx rfl ?_
  show Ex X m_Tab_find 12 [.ref (c0 + 0), .int 1] [] (hp c0 26 _ _) _
  refine Ex.nx rfl ?_
  refine Hx.get 0 rfl rfl rfl ?_
  refine Hx.call 1 rfl rfl rfl rfl rfl (hx_clear 1 rfl) ?_
  show Ex X m_Tab_find 19 [.ref (c0 + 0), .int 1] [] (hp c0 26 _ _) _
  refine Ex.nx rfl ?_
  refine Ex.nx rfl ?_
  show Ex X m_Tab_find 37 [.ref (c0 + 0), .int 1] [] (hp c0 26 _ _) _
  refine Ex.nx rfl ?_
  refine Ex.nx rfl ?_
  refine Ex.nx rfl ?_
  show Ex X m_Tab_find 41 [.ref (c0 + 0), .int 1] [.int (-101)] (hp c0 26 _ _) _
  exact Ex.ret rfl (ev_reti rfl) ⟨_, _, _, rfl, by omega, by omega, (rsm.up (rsm.up (rsm.up (rsm.up (rsm.up (rsm.up (rsm.up (rsm.up (rsm.up (rsm.up rsm.rf (by decide)) (by decide)) (by decide)) (by decide)) (by decide)) (by decide)) (by decide)) (by decide)) (by decide)) (by decide)), rfl⟩
end
section
/-! The reference writes a number. (rows laid by wip/whole/rx12.py) -/
def WS (σ0 : Nat → Int32) (τ0 : Nat → Nat → Int32) (d : List Nat) (σ : Nat → Int32) (τ : Nat → Nat → Int32) : Prop := (∀ k, k ≠ 10 → σ k = σ0 k) ∧ (∀ k, k ≠ 9 → τ k = τ0 k) ∧ drf σ τ d
def nd (τ0 : Nat → Nat → Int32) (ds : List Nat) : Prop := ds.length ≤ 18 ∧ (∀ k, k < ds.length → τ0 21 k = nI (ds.getD k 0)) ∧ ∀ k, ds.getD k 0 < 256
section WSR
variable {X : ev_X} {c0 : Nat} {σ0 σ : Nat → Int32} {τ0 τ : Nat → Nat → Int32} {d ds : List Nat}
theorem ws_put (b : Nat) (h : WS σ0 τ0 d σ τ) (hd : d.length < 260) (hb : b < 256) : Rx X c0 m_Mod_put 0 [.ref (c0 + 16), .int (nI b)] [] σ τ (fun r σ' τ' => r = none ∧ WS σ0 τ0 (d ++ [b]) σ' τ') := by
  obtain ⟨h1, h2, h3, h4, h5, h6⟩ := h
  refine (rx_put X c0 σ τ (nI b) (by rw [h3]; exact nI_ix hd (by decide))).mono ?_
  rintro r σ' τ' ⟨rfl, rfl, rfl⟩
  refine ⟨rfl, fun k hk => by rw [pk_un hk]; exact h1 k hk, fun k hk => by rw [va_up_ne _ _ hk]; exact h2 k hk, ?_, ?_, ?_, ?_⟩
  · rw [pk_us, h3, nI_1, List.length_append]; rfl
  · simp only [List.length_append, List.length_cons, List.length_nil]; omega
  · intro j hj
    rw [va_up_self, h3, nI_clamp (by omega)]
    simp only [List.length_append, List.length_cons, List.length_nil] at hj
    rw [getD_snoc hj]
    split
    · next q => rw [pk_un (by omega)]; exact h5 j q
    · next q => rw [show j = d.length by omega, pk_us]
  · intro k
    by_cases hk : k < d.length + 1
    · rw [getD_snoc hk]
      split
      · exact h6 k
      · exact hb
    · rw [gd0 (by simp only [List.length_append, List.length_cons, List.length_nil]; omega)]; decide
theorem ws_dg (hn : nd τ0 ds) (h : WS σ0 τ0 d σ τ) {k : Nat} (hk : k < ds.length) : τ 21 (nI k).toNatClampNeg = nI (ds.getD k 0) := by
  rw [nI_clamp (by have := hn.1; omega), h.2.1 21 (by decide)]; exact hn.2.1 k hk
theorem nd_dg (hn : nd τ ds) {k : Nat} (hk : k < ds.length) : τ 21 (nI k).toNatClampNeg = nI (ds.getD k 0) := by
  rw [nI_clamp (by have := hn.1; omega)]; exact hn.2.1 k hk
end WSR
theorem dt_s {ds d : List Nat} {k m : Nat} (hk : k < ds.length) : (d ++ [ds.getD k 0]) ++ (ds.drop (k + 1)).take m = d ++ (ds.drop k).take (m + 1) := by
  rw [List.drop_eq_getElem_cons hk, List.take_succ_cons, List.append_assoc, List.getD_eq_getElem?_getD, List.getElem?_eq_getElem hk]; rfl
theorem dl_s {d : List Nat} {b m n : Nat} (h : d.length + (m + 1) ≤ n) : (d ++ [b]).length + m ≤ n := by
  simp only [List.length_append, List.length_cons, List.length_nil]; omega
set_option maxRecDepth 100000 in
set_option maxHeartbeats 1000000 in
theorem wn_E (X : ev_X) (c0 : Nat) {σ0 : Nat → Int32} {τ0 : Nat → Nat → Int32} {ds : List Nat} (hn : nd τ0 ds) (bel : Bool) (fr : Int32) {W Ls f : Nat} (hL : Ls ≤ ds.length) : ∀ (m k : Nat) (d : List Nat) (σ : Nat → Int32) (τ : Nat → Nat → Int32) (hW : WS σ0 τ0 d σ τ) (hk : k + m = Ls) (hd : d.length + m ≤ 200), Rx X c0 m_Mod_writeNumber 201 [.ref (c0 + 16), .int (bi bel), .int fr, .int (nI W), .int (nI Ls), .int (nI f), .int (nI k)] [] σ τ (fun r σ' τ' => r = none ∧ WS σ0 τ0 (d ++ (ds.drop k).take m) σ' τ') := by
  intro m
  have hn18 := hn.1
  induction m with
  | zero =>
    intro k d σ τ hW hk hd
    rw [List.take_zero, List.append_nil]
    refine Rx.go (fun _ => rfl) ?_
    refine Rx.go (fun _ => rfl) ?_
    refine Rx.go (fun _ => rfl) ?_
    refine Rx.ite (fun c1 => ?_) (fun c1 => ?_)
    · replace c1 : (nI Ls) ≤ (nI k) := of_decide_eq_true c1
      show Rx X c0 m_Mod_writeNumber 225 [.ref (c0 + 16), .int (bi bel), .int fr, .int (nI W), .int (nI Ls), .int (nI f), .int (nI k)] [] σ τ _
      exact Rx.ret rfl rfl ⟨rfl, hW⟩
    · replace c1 : ¬ (nI Ls) ≤ (nI k) := of_decide_eq_false c1
      exact absurd (show nI Ls ≤ nI k by rw [show k = Ls by omega]; exact Int32.le_refl _) c1
  | succ m ih =>
    intro k d σ τ hW hk hd
    refine Rx.go (fun _ => rfl) ?_
    refine Rx.go (fun _ => rfl) ?_
    refine Rx.go (fun _ => rfl) ?_
    refine Rx.ite (fun c1 => ?_) (fun c1 => ?_)
    · replace c1 : (nI Ls) ≤ (nI k) := of_decide_eq_true c1
      exact absurd ((nI_leI (by omega) (by omega)).mp c1) (by omega)
    · replace c1 : ¬ (nI Ls) ≤ (nI k) := of_decide_eq_false c1
      show Rx X c0 m_Mod_writeNumber 208 [.ref (c0 + 16), .int (bi bel), .int fr, .int (nI W), .int (nI Ls), .int (nI f), .int (nI k)] [] σ τ _
      refine Rx.go (fun _ => rfl) ?_
      refine Rx.go (fun _ => rfl) ?_
      refine Rx.get rfl rfl ?_
      refine Rx.go (fun _ => rfl) ?_
      refine Rx.aldE (v := nI (ds.getD k 0)) 21 rfl rfl (nI_ix (show k < 40 by have := hn.1; omega) (by decide)) (ws_dg hn hW (by omega)) ?_
      refine Rx.callP rfl rfl rfl rfl (ws_put (ds.getD k 0) hW (by omega) (hn.2.2 k)) ?_
      intro σ1 τ1 W1
      show Rx X c0 m_Mod_writeNumber 219 [.ref (c0 + 16), .int (bi bel), .int fr, .int (nI W), .int (nI Ls), .int (nI f), .int (nI k)] [] σ1 τ1 _
      refine Rx.go (fun _ => rfl) ?_
      show Rx X c0 m_Mod_writeNumber 222 [.ref (c0 + 16), .int (bi bel), .int fr, .int (nI W), .int (nI Ls), .int (nI f), .int ((nI k) + 1)] [] σ1 τ1 _
      refine Rx.go (fun _ => rfl) ?_
      show Rx X c0 m_Mod_writeNumber 201 [.ref (c0 + 16), .int (bi bel), .int fr, .int (nI W), .int (nI Ls), .int (nI f), .int ((nI k) + 1)] [] σ1 τ1 _
      rw [show nI k + 1 = nI (k + 1) from nI_1 k]
      refine (ih (k + 1) _ _ _ W1 (by omega) (dl_s hd)).mono ?_
      intro r σ' τ' h
      rw [dt_s (by omega)] at h
      exact h
def wD (ds : List Nat) (W Ls : Nat) : List Nat := [46] ++ (if Ls = W then [48] else []) ++ (ds.drop W).take (Ls - W)
set_option maxRecDepth 100000 in
set_option maxHeartbeats 1000000 in
theorem wn_D (X : ev_X) (c0 : Nat) {σ0 : Nat → Int32} {τ0 : Nat → Nat → Int32} {ds : List Nat} (hn : nd τ0 ds) (bel : Bool) (fr : Int32) {W Ls f : Nat} (kv : Value) (hL : Ls ≤ ds.length) (hWL : W ≤ Ls) {d : List Nat} {σ : Nat → Int32} {τ : Nat → Nat → Int32} (hW : WS σ0 τ0 d σ τ) (hd : d.length ≤ 100) : Rx X c0 m_Mod_writeNumber 180 [.ref (c0 + 16), .int (bi bel), .int fr, .int (nI W), .int (nI Ls), .int (nI f), kv] [] σ τ (fun r σ' τ' => r = none ∧ WS σ0 τ0 (d ++ wD ds W Ls) σ' τ') := by
  have hn18 := hn.1
  refine Rx.go (fun _ => rfl) ?_
  refine Rx.go (fun _ => rfl) ?_
  refine Rx.callP rfl rfl rfl rfl (ws_put 46 hW (by first | omega | (simp only [List.length_append, List.length_cons, List.length_nil]; omega)) (by decide)) ?_
  intro σ2 τ2 W2
  show Rx X c0 m_Mod_writeNumber 186 [.ref (c0 + 16), .int (bi bel), .int fr, .int (nI W), .int (nI Ls), .int (nI f), kv] [] σ2 τ2 _
  refine Rx.go (fun _ => rfl) ?_
  refine Rx.go (fun _ => rfl) ?_
  refine Rx.go (fun _ => rfl) ?_
  refine Rx.ite (fun c1 => ?_) (fun c1 => ?_)
  · replace c1 : ¬ (nI Ls) = (nI W) := of_decide_eq_true c1
    show Rx X c0 m_Mod_writeNumber 198 [.ref (c0 + 16), .int (bi bel), .int fr, .int (nI W), .int (nI Ls), .int (nI f), kv] [] σ2 τ2 _
    refine Rx.go (fun _ => rfl) ?_
    refine Rx.go (fun _ => rfl) ?_
    show Rx X c0 m_Mod_writeNumber 201 [.ref (c0 + 16), .int (bi bel), .int fr, .int (nI W), .int (nI Ls), .int (nI f), .int (nI W)] [] σ2 τ2 _
    show Rx X c0 m_Mod_writeNumber 201 [.ref (c0 + 16), .int (bi bel), .int fr, .int (nI W), .int (nI Ls), .int (nI f), .int (nI W)] [] σ2 τ2 _
    refine (wn_E X c0 hn bel fr hL (Ls - W) W _ _ _ W2 (by omega) (by simp only [List.length_append, List.length_cons, List.length_nil]; omega)).mono ?_
    rintro r σ' τ' ⟨rfl, h⟩
    refine ⟨rfl, ?_⟩
    rw [wD, if_neg (fun q => c1 (by rw [q]))]
    simp only [List.append_assoc, List.nil_append] at h ⊢
    exact h
  · replace c1 : (nI Ls) = (nI W) := Classical.not_not.mp (of_decide_eq_false c1)
    show Rx X c0 m_Mod_writeNumber 192 [.ref (c0 + 16), .int (bi bel), .int fr, .int (nI W), .int (nI Ls), .int (nI f), kv] [] σ2 τ2 _
    refine Rx.go (fun _ => rfl) ?_
    refine Rx.go (fun _ => rfl) ?_
    refine Rx.callP rfl rfl rfl rfl (ws_put 48 W2 (by first | omega | (simp only [List.length_append, List.length_cons, List.length_nil]; omega)) (by decide)) ?_
    intro σ3 τ3 W3
    show Rx X c0 m_Mod_writeNumber 198 [.ref (c0 + 16), .int (bi bel), .int fr, .int (nI W), .int (nI Ls), .int (nI f), kv] [] σ3 τ3 _
    refine Rx.go (fun _ => rfl) ?_
    refine Rx.go (fun _ => rfl) ?_
    show Rx X c0 m_Mod_writeNumber 201 [.ref (c0 + 16), .int (bi bel), .int fr, .int (nI W), .int (nI Ls), .int (nI f), .int (nI W)] [] σ3 τ3 _
    show Rx X c0 m_Mod_writeNumber 201 [.ref (c0 + 16), .int (bi bel), .int fr, .int (nI W), .int (nI Ls), .int (nI f), .int (nI W)] [] σ3 τ3 _
    refine (wn_E X c0 hn bel fr hL (Ls - W) W _ _ _ W3 (by omega) (by simp only [List.length_append, List.length_cons, List.length_nil]; omega)).mono ?_
    rintro r σ' τ' ⟨rfl, h⟩
    refine ⟨rfl, ?_⟩
    rw [wD, if_pos ((nI_eq (by omega) (by omega)).mp c1)]
    simp only [List.append_assoc] at h ⊢
    exact h
set_option maxRecDepth 100000 in
set_option maxHeartbeats 1000000 in
theorem wn_Cw (X : ev_X) (c0 : Nat) {σ0 : Nat → Int32} {τ0 : Nat → Nat → Int32} {ds : List Nat} (hn : nd τ0 ds) (bel : Bool) (fr : Int32) {W Ls f : Nat} (hL : Ls ≤ ds.length) (hWL : W ≤ Ls) (hb : σ0 23 = -1) : ∀ (m k : Nat) (d : List Nat) (σ : Nat → Int32) (τ : Nat → Nat → Int32) (hW : WS σ0 τ0 d σ τ) (hk : k + m = W) (hd : d.length + m ≤ 50), Rx X c0 m_Mod_writeNumber 149 [.ref (c0 + 16), .int (bi bel), .int fr, .int (nI W), .int (nI Ls), .int (nI f), .int (nI k)] [] σ τ (fun r σ' τ' => r = none ∧ WS σ0 τ0 (d ++ (ds.drop k).take m) σ' τ') := by
  intro m
  have hn18 := hn.1
  induction m with
  | zero =>
    intro k d σ τ hW hk hd
    rw [List.take_zero, List.append_nil]
    refine Rx.go (fun _ => rfl) ?_
    refine Rx.go (fun _ => rfl) ?_
    refine Rx.go (fun _ => rfl) ?_
    refine Rx.ite (fun c1 => ?_) (fun c1 => ?_)
    · replace c1 : (nI W) ≤ (nI k) := of_decide_eq_true c1
      show Rx X c0 m_Mod_writeNumber 172 [.ref (c0 + 16), .int (bi bel), .int fr, .int (nI W), .int (nI Ls), .int (nI f), .int (nI k)] [] σ τ _
      refine Rx.go (fun _ => rfl) ?_
      refine Rx.get rfl rfl ?_
      refine Rx.top (y := (-1)) ((hW.1 23 (by decide)).trans hb) ?_
      refine Rx.go (fun _ => rfl) ?_
      show Rx X c0 m_Mod_writeNumber 179 [.ref (c0 + 16), .int (bi bel), .int fr, .int (nI W), .int (nI Ls), .int (nI f), .int (nI k)] [] σ τ _
      exact Rx.ret rfl rfl ⟨rfl, hW⟩
    · replace c1 : ¬ (nI W) ≤ (nI k) := of_decide_eq_false c1
      exact absurd (show nI W ≤ nI k by rw [show k = W by omega]; exact Int32.le_refl _) c1
  | succ m ih =>
    intro k d σ τ hW hk hd
    refine Rx.go (fun _ => rfl) ?_
    refine Rx.go (fun _ => rfl) ?_
    refine Rx.go (fun _ => rfl) ?_
    refine Rx.ite (fun c1 => ?_) (fun c1 => ?_)
    · replace c1 : (nI W) ≤ (nI k) := of_decide_eq_true c1
      exact absurd ((nI_leI (by omega) (by omega)).mp c1) (by omega)
    · replace c1 : ¬ (nI W) ≤ (nI k) := of_decide_eq_false c1
      show Rx X c0 m_Mod_writeNumber 155 [.ref (c0 + 16), .int (bi bel), .int fr, .int (nI W), .int (nI Ls), .int (nI f), .int (nI k)] [] σ τ _
      refine Rx.go (fun _ => rfl) ?_
      refine Rx.go (fun _ => rfl) ?_
      refine Rx.get rfl rfl ?_
      refine Rx.go (fun _ => rfl) ?_
      refine Rx.aldE (v := nI (ds.getD k 0)) 21 rfl rfl (nI_ix (show k < 40 by have := hn.1; omega) (by decide)) (ws_dg hn hW (by omega)) ?_
      refine Rx.callP rfl rfl rfl rfl (ws_put (ds.getD k 0) hW (by omega) (hn.2.2 k)) ?_
      intro σ4 τ4 W4
      show Rx X c0 m_Mod_writeNumber 166 [.ref (c0 + 16), .int (bi bel), .int fr, .int (nI W), .int (nI Ls), .int (nI f), .int (nI k)] [] σ4 τ4 _
      refine Rx.go (fun _ => rfl) ?_
      show Rx X c0 m_Mod_writeNumber 169 [.ref (c0 + 16), .int (bi bel), .int fr, .int (nI W), .int (nI Ls), .int (nI f), .int ((nI k) + 1)] [] σ4 τ4 _
      refine Rx.go (fun _ => rfl) ?_
      show Rx X c0 m_Mod_writeNumber 149 [.ref (c0 + 16), .int (bi bel), .int fr, .int (nI W), .int (nI Ls), .int (nI f), .int ((nI k) + 1)] [] σ4 τ4 _
      rw [show nI k + 1 = nI (k + 1) from nI_1 k]
      refine (ih (k + 1) _ _ _ W4 (by omega) (dl_s hd)).mono ?_
      intro r σ' τ' h
      rw [dt_s (by omega)] at h
      exact h
set_option maxRecDepth 100000 in
set_option maxHeartbeats 1000000 in
theorem wn_Cd (X : ev_X) (c0 : Nat) {σ0 : Nat → Int32} {τ0 : Nat → Nat → Int32} {ds : List Nat} (hn : nd τ0 ds) (bel : Bool) (fr : Int32) {W Ls f : Nat} (hL : Ls ≤ ds.length) (hWL : W ≤ Ls) (hb : σ0 23 = nI W) : ∀ (m k : Nat) (d : List Nat) (σ : Nat → Int32) (τ : Nat → Nat → Int32) (hW : WS σ0 τ0 d σ τ) (hk : k + m = W) (hd : d.length + m ≤ 50), Rx X c0 m_Mod_writeNumber 149 [.ref (c0 + 16), .int (bi bel), .int fr, .int (nI W), .int (nI Ls), .int (nI f), .int (nI k)] [] σ τ (fun r σ' τ' => r = none ∧ WS σ0 τ0 (d ++ (ds.drop k).take m ++ wD ds W Ls) σ' τ') := by
  intro m
  have hn18 := hn.1
  induction m with
  | zero =>
    intro k d σ τ hW hk hd
    rw [List.take_zero, List.append_nil]
    refine Rx.go (fun _ => rfl) ?_
    refine Rx.go (fun _ => rfl) ?_
    refine Rx.go (fun _ => rfl) ?_
    refine Rx.ite (fun c1 => ?_) (fun c1 => ?_)
    · replace c1 : (nI W) ≤ (nI k) := of_decide_eq_true c1
      show Rx X c0 m_Mod_writeNumber 172 [.ref (c0 + 16), .int (bi bel), .int fr, .int (nI W), .int (nI Ls), .int (nI f), .int (nI k)] [] σ τ _
      refine Rx.go (fun _ => rfl) ?_
      refine Rx.get rfl rfl ?_
      refine Rx.top (y := nI W) ((hW.1 23 (by decide)).trans hb) ?_
      refine Rx.go (fun _ => rfl) ?_
      refine Rx.ite (fun c2 => ?_) (fun c2 => ?_)
      · replace c2 : 0 ≤ (nI W) := of_decide_eq_true c2
        show Rx X c0 m_Mod_writeNumber 180 [.ref (c0 + 16), .int (bi bel), .int fr, .int (nI W), .int (nI Ls), .int (nI f), .int (nI k)] [] σ τ _
        show Rx X c0 m_Mod_writeNumber 180 [.ref (c0 + 16), .int (bi bel), .int fr, .int (nI W), .int (nI Ls), .int (nI f), .int (nI k)] [] σ τ _
        exact wn_D X c0 hn bel fr _ hL hWL hW (by omega)
      · replace c2 : ¬ 0 ≤ (nI W) := of_decide_eq_false c2
        exact absurd (nI_pos' (by omega)) c2
    · replace c1 : ¬ (nI W) ≤ (nI k) := of_decide_eq_false c1
      exact absurd (show nI W ≤ nI k by rw [show k = W by omega]; exact Int32.le_refl _) c1
  | succ m ih =>
    intro k d σ τ hW hk hd
    refine Rx.go (fun _ => rfl) ?_
    refine Rx.go (fun _ => rfl) ?_
    refine Rx.go (fun _ => rfl) ?_
    refine Rx.ite (fun c1 => ?_) (fun c1 => ?_)
    · replace c1 : (nI W) ≤ (nI k) := of_decide_eq_true c1
      exact absurd ((nI_leI (by omega) (by omega)).mp c1) (by omega)
    · replace c1 : ¬ (nI W) ≤ (nI k) := of_decide_eq_false c1
      show Rx X c0 m_Mod_writeNumber 155 [.ref (c0 + 16), .int (bi bel), .int fr, .int (nI W), .int (nI Ls), .int (nI f), .int (nI k)] [] σ τ _
      refine Rx.go (fun _ => rfl) ?_
      refine Rx.go (fun _ => rfl) ?_
      refine Rx.get rfl rfl ?_
      refine Rx.go (fun _ => rfl) ?_
      refine Rx.aldE (v := nI (ds.getD k 0)) 21 rfl rfl (nI_ix (show k < 40 by have := hn.1; omega) (by decide)) (ws_dg hn hW (by omega)) ?_
      refine Rx.callP rfl rfl rfl rfl (ws_put (ds.getD k 0) hW (by omega) (hn.2.2 k)) ?_
      intro σ5 τ5 W5
      show Rx X c0 m_Mod_writeNumber 166 [.ref (c0 + 16), .int (bi bel), .int fr, .int (nI W), .int (nI Ls), .int (nI f), .int (nI k)] [] σ5 τ5 _
      refine Rx.go (fun _ => rfl) ?_
      show Rx X c0 m_Mod_writeNumber 169 [.ref (c0 + 16), .int (bi bel), .int fr, .int (nI W), .int (nI Ls), .int (nI f), .int ((nI k) + 1)] [] σ5 τ5 _
      refine Rx.go (fun _ => rfl) ?_
      show Rx X c0 m_Mod_writeNumber 149 [.ref (c0 + 16), .int (bi bel), .int fr, .int (nI W), .int (nI Ls), .int (nI f), .int ((nI k) + 1)] [] σ5 τ5 _
      rw [show nI k + 1 = nI (k + 1) from nI_1 k]
      refine (ih (k + 1) _ _ _ W5 (by omega) (dl_s hd)).mono ?_
      intro r σ' τ' h
      rw [dt_s (by omega)] at h
      exact h
def wS (bel : Bool) (f W Ls : Nat) : List Nat := if (bel && (decide (f < W) || decide (W < Ls))) = true then [45] else []
def wZ (f W : Nat) : List Nat := if f = W then [48] else []
def wN (bel dec : Bool) (ds : List Nat) (f W Ls : Nat) : List Nat := wS bel f W Ls ++ (wZ f W ++ ((ds.drop f).take (W - f) ++ (if dec = true then wD ds W Ls else [])))
set_option maxRecDepth 100000 in
set_option maxHeartbeats 1000000 in
theorem wn_Bw (X : ev_X) (c0 : Nat) {σ0 : Nat → Int32} {τ0 : Nat → Nat → Int32} {ds : List Nat} (hn : nd τ0 ds) (bel : Bool) (fr : Int32) {W Ls f : Nat} (kv : Value) (hL : Ls ≤ ds.length) (hWL : W ≤ Ls) (hf : f ≤ W) (hb : σ0 23 = -1) {σ : Nat → Int32} {τ : Nat → Nat → Int32} (hW : WS σ0 τ0 [] σ τ) : Rx X c0 m_Mod_writeNumber 111 [.ref (c0 + 16), .int (bi bel), .int fr, .int (nI W), .int (nI Ls), .int (nI f), kv] [] σ τ (fun r σ' τ' => r = none ∧ WS σ0 τ0 (wN bel false ds f W Ls) σ' τ') := by
  have hn18 := hn.1
  refine Rx.go (fun _ => rfl) ?_
  refine Rx.go (fun _ => rfl) ?_
  refine Rx.ite (fun c1 => ?_) (fun c1 => ?_)
  · replace c1 : bel = false := bi_eqt c1
    show Rx X c0 m_Mod_writeNumber 133 [.ref (c0 + 16), .int (bi bel), .int fr, .int (nI W), .int (nI Ls), .int (nI f), kv] [] σ τ _
    refine Rx.go (fun _ => rfl) ?_
    refine Rx.go (fun _ => rfl) ?_
    refine Rx.go (fun _ => rfl) ?_
    refine Rx.ite (fun c2 => ?_) (fun c2 => ?_)
    · replace c2 : ¬ (nI f) = (nI W) := of_decide_eq_true c2
      have e3 : ¬ f = W := fun q => c2 (by rw [q])
      show Rx X c0 m_Mod_writeNumber 145 [.ref (c0 + 16), .int (bi bel), .int fr, .int (nI W), .int (nI Ls), .int (nI f), kv] [] σ τ _
      refine Rx.go (fun _ => rfl) ?_
      refine Rx.go (fun _ => rfl) ?_
      show Rx X c0 m_Mod_writeNumber 149 [.ref (c0 + 16), .int (bi bel), .int fr, .int (nI W), .int (nI Ls), .int (nI f), .int (nI f)] [] σ τ _
      show Rx X c0 m_Mod_writeNumber 149 [.ref (c0 + 16), .int (bi bel), .int fr, .int (nI W), .int (nI Ls), .int (nI f), .int (nI f)] [] σ τ _
      refine (wn_Cw X c0 hn bel fr hL hWL hb (W - f) f _ _ _ hW (by omega) (by first | omega | (simp only [List.length_append, List.length_cons, List.length_nil]; omega))).mono ?_
      rintro r σ' τ' ⟨rfl, h⟩
      refine ⟨rfl, ?_⟩
      have eq : wN bel false ds f W Ls = ([] : List Nat) ++ (ds.drop f).take (W - f) := by first | (exfalso; omega) | simp [wN, wS, wZ, c1, e3]
      rw [eq]
      exact h
    · replace c2 : (nI f) = (nI W) := Classical.not_not.mp (of_decide_eq_false c2)
      have e3 : f = W := (nI_eq (by omega) (by omega)).mp c2
      show Rx X c0 m_Mod_writeNumber 139 [.ref (c0 + 16), .int (bi bel), .int fr, .int (nI W), .int (nI Ls), .int (nI f), kv] [] σ τ _
      refine Rx.go (fun _ => rfl) ?_
      refine Rx.go (fun _ => rfl) ?_
      refine Rx.callP rfl rfl rfl rfl (ws_put 48 hW (by first | omega | (simp only [List.length_append, List.length_cons, List.length_nil]; omega)) (by decide)) ?_
      intro σ6 τ6 W6
      show Rx X c0 m_Mod_writeNumber 145 [.ref (c0 + 16), .int (bi bel), .int fr, .int (nI W), .int (nI Ls), .int (nI f), kv] [] σ6 τ6 _
      refine Rx.go (fun _ => rfl) ?_
      refine Rx.go (fun _ => rfl) ?_
      show Rx X c0 m_Mod_writeNumber 149 [.ref (c0 + 16), .int (bi bel), .int fr, .int (nI W), .int (nI Ls), .int (nI f), .int (nI f)] [] σ6 τ6 _
      show Rx X c0 m_Mod_writeNumber 149 [.ref (c0 + 16), .int (bi bel), .int fr, .int (nI W), .int (nI Ls), .int (nI f), .int (nI f)] [] σ6 τ6 _
      refine (wn_Cw X c0 hn bel fr hL hWL hb (W - f) f _ _ _ W6 (by omega) (by first | omega | (simp only [List.length_append, List.length_cons, List.length_nil]; omega))).mono ?_
      rintro r σ' τ' ⟨rfl, h⟩
      refine ⟨rfl, ?_⟩
      have eq : wN bel false ds f W Ls = (([] : List Nat) ++ [48]) ++ (ds.drop f).take (W - f) := by first | (exfalso; omega) | simp [wN, wS, wZ, c1, e3]
      rw [eq]
      exact h
  · replace c1 : bel = true := bi_eqf c1
    show Rx X c0 m_Mod_writeNumber 115 [.ref (c0 + 16), .int (bi bel), .int fr, .int (nI W), .int (nI Ls), .int (nI f), kv] [] σ τ _
    refine Rx.go (fun _ => rfl) ?_
    refine Rx.go (fun _ => rfl) ?_
    refine Rx.go (fun _ => rfl) ?_
    refine Rx.ite (fun c3 => ?_) (fun c3 => ?_)
    · replace c3 : (nI f) < (nI W) := of_decide_eq_true c3
      have e1 : f < W := (nI_ltI (by omega) (by omega)).mp c3
      show Rx X c0 m_Mod_writeNumber 127 [.ref (c0 + 16), .int (bi bel), .int fr, .int (nI W), .int (nI Ls), .int (nI f), kv] [] σ τ _
      refine Rx.go (fun _ => rfl) ?_
      refine Rx.go (fun _ => rfl) ?_
      refine Rx.callP rfl rfl rfl rfl (ws_put 45 hW (by first | omega | (simp only [List.length_append, List.length_cons, List.length_nil]; omega)) (by decide)) ?_
      intro σ7 τ7 W7
      show Rx X c0 m_Mod_writeNumber 133 [.ref (c0 + 16), .int (bi bel), .int fr, .int (nI W), .int (nI Ls), .int (nI f), kv] [] σ7 τ7 _
      refine Rx.go (fun _ => rfl) ?_
      refine Rx.go (fun _ => rfl) ?_
      refine Rx.go (fun _ => rfl) ?_
      refine Rx.ite (fun c4 => ?_) (fun c4 => ?_)
      · replace c4 : ¬ (nI f) = (nI W) := of_decide_eq_true c4
        have e3 : ¬ f = W := fun q => c4 (by rw [q])
        show Rx X c0 m_Mod_writeNumber 145 [.ref (c0 + 16), .int (bi bel), .int fr, .int (nI W), .int (nI Ls), .int (nI f), kv] [] σ7 τ7 _
        refine Rx.go (fun _ => rfl) ?_
        refine Rx.go (fun _ => rfl) ?_
        show Rx X c0 m_Mod_writeNumber 149 [.ref (c0 + 16), .int (bi bel), .int fr, .int (nI W), .int (nI Ls), .int (nI f), .int (nI f)] [] σ7 τ7 _
        show Rx X c0 m_Mod_writeNumber 149 [.ref (c0 + 16), .int (bi bel), .int fr, .int (nI W), .int (nI Ls), .int (nI f), .int (nI f)] [] σ7 τ7 _
        refine (wn_Cw X c0 hn bel fr hL hWL hb (W - f) f _ _ _ W7 (by omega) (by first | omega | (simp only [List.length_append, List.length_cons, List.length_nil]; omega))).mono ?_
        rintro r σ' τ' ⟨rfl, h⟩
        refine ⟨rfl, ?_⟩
        have eq : wN bel false ds f W Ls = (([] : List Nat) ++ [45]) ++ (ds.drop f).take (W - f) := by first | (exfalso; omega) | simp [wN, wS, wZ, c1, e1, e3]
        rw [eq]
        exact h
      · replace c4 : (nI f) = (nI W) := Classical.not_not.mp (of_decide_eq_false c4)
        have e3 : f = W := (nI_eq (by omega) (by omega)).mp c4
        show Rx X c0 m_Mod_writeNumber 139 [.ref (c0 + 16), .int (bi bel), .int fr, .int (nI W), .int (nI Ls), .int (nI f), kv] [] σ7 τ7 _
        refine Rx.go (fun _ => rfl) ?_
        refine Rx.go (fun _ => rfl) ?_
        refine Rx.callP rfl rfl rfl rfl (ws_put 48 W7 (by first | omega | (simp only [List.length_append, List.length_cons, List.length_nil]; omega)) (by decide)) ?_
        intro σ8 τ8 W8
        show Rx X c0 m_Mod_writeNumber 145 [.ref (c0 + 16), .int (bi bel), .int fr, .int (nI W), .int (nI Ls), .int (nI f), kv] [] σ8 τ8 _
        refine Rx.go (fun _ => rfl) ?_
        refine Rx.go (fun _ => rfl) ?_
        show Rx X c0 m_Mod_writeNumber 149 [.ref (c0 + 16), .int (bi bel), .int fr, .int (nI W), .int (nI Ls), .int (nI f), .int (nI f)] [] σ8 τ8 _
        show Rx X c0 m_Mod_writeNumber 149 [.ref (c0 + 16), .int (bi bel), .int fr, .int (nI W), .int (nI Ls), .int (nI f), .int (nI f)] [] σ8 τ8 _
        refine (wn_Cw X c0 hn bel fr hL hWL hb (W - f) f _ _ _ W8 (by omega) (by first | omega | (simp only [List.length_append, List.length_cons, List.length_nil]; omega))).mono ?_
        rintro r σ' τ' ⟨rfl, h⟩
        refine ⟨rfl, ?_⟩
        have eq : wN bel false ds f W Ls = ((([] : List Nat) ++ [45]) ++ [48]) ++ (ds.drop f).take (W - f) := by first | (exfalso; omega) | simp [wN, wS, wZ, c1, e1, e3]
        rw [eq]
        exact h
    · replace c3 : ¬ (nI f) < (nI W) := of_decide_eq_false c3
      have e1 : ¬ f < W := fun q => c3 ((nI_ltI (by omega) (by omega)).mpr q)
      show Rx X c0 m_Mod_writeNumber 121 [.ref (c0 + 16), .int (bi bel), .int fr, .int (nI W), .int (nI Ls), .int (nI f), kv] [] σ τ _
      refine Rx.go (fun _ => rfl) ?_
      refine Rx.go (fun _ => rfl) ?_
      refine Rx.go (fun _ => rfl) ?_
      refine Rx.ite (fun c5 => ?_) (fun c5 => ?_)
      · replace c5 : (nI Ls) ≤ (nI W) := of_decide_eq_true c5
        have e2 : ¬ W < Ls := by have := (nI_leI (by omega) (by omega)).mp c5; omega
        show Rx X c0 m_Mod_writeNumber 133 [.ref (c0 + 16), .int (bi bel), .int fr, .int (nI W), .int (nI Ls), .int (nI f), kv] [] σ τ _
        refine Rx.go (fun _ => rfl) ?_
        refine Rx.go (fun _ => rfl) ?_
        refine Rx.go (fun _ => rfl) ?_
        refine Rx.ite (fun c6 => ?_) (fun c6 => ?_)
        · replace c6 : ¬ (nI f) = (nI W) := of_decide_eq_true c6
          have e3 : ¬ f = W := fun q => c6 (by rw [q])
          show Rx X c0 m_Mod_writeNumber 145 [.ref (c0 + 16), .int (bi bel), .int fr, .int (nI W), .int (nI Ls), .int (nI f), kv] [] σ τ _
          refine Rx.go (fun _ => rfl) ?_
          refine Rx.go (fun _ => rfl) ?_
          show Rx X c0 m_Mod_writeNumber 149 [.ref (c0 + 16), .int (bi bel), .int fr, .int (nI W), .int (nI Ls), .int (nI f), .int (nI f)] [] σ τ _
          show Rx X c0 m_Mod_writeNumber 149 [.ref (c0 + 16), .int (bi bel), .int fr, .int (nI W), .int (nI Ls), .int (nI f), .int (nI f)] [] σ τ _
          refine (wn_Cw X c0 hn bel fr hL hWL hb (W - f) f _ _ _ hW (by omega) (by first | omega | (simp only [List.length_append, List.length_cons, List.length_nil]; omega))).mono ?_
          rintro r σ' τ' ⟨rfl, h⟩
          refine ⟨rfl, ?_⟩
          have eq : wN bel false ds f W Ls = ([] : List Nat) ++ (ds.drop f).take (W - f) := by first | (exfalso; omega) | simp [wN, wS, wZ, c1, e1, e2, e3]
          rw [eq]
          exact h
        · replace c6 : (nI f) = (nI W) := Classical.not_not.mp (of_decide_eq_false c6)
          have e3 : f = W := (nI_eq (by omega) (by omega)).mp c6
          show Rx X c0 m_Mod_writeNumber 139 [.ref (c0 + 16), .int (bi bel), .int fr, .int (nI W), .int (nI Ls), .int (nI f), kv] [] σ τ _
          refine Rx.go (fun _ => rfl) ?_
          refine Rx.go (fun _ => rfl) ?_
          refine Rx.callP rfl rfl rfl rfl (ws_put 48 hW (by first | omega | (simp only [List.length_append, List.length_cons, List.length_nil]; omega)) (by decide)) ?_
          intro σ9 τ9 W9
          show Rx X c0 m_Mod_writeNumber 145 [.ref (c0 + 16), .int (bi bel), .int fr, .int (nI W), .int (nI Ls), .int (nI f), kv] [] σ9 τ9 _
          refine Rx.go (fun _ => rfl) ?_
          refine Rx.go (fun _ => rfl) ?_
          show Rx X c0 m_Mod_writeNumber 149 [.ref (c0 + 16), .int (bi bel), .int fr, .int (nI W), .int (nI Ls), .int (nI f), .int (nI f)] [] σ9 τ9 _
          show Rx X c0 m_Mod_writeNumber 149 [.ref (c0 + 16), .int (bi bel), .int fr, .int (nI W), .int (nI Ls), .int (nI f), .int (nI f)] [] σ9 τ9 _
          refine (wn_Cw X c0 hn bel fr hL hWL hb (W - f) f _ _ _ W9 (by omega) (by first | omega | (simp only [List.length_append, List.length_cons, List.length_nil]; omega))).mono ?_
          rintro r σ' τ' ⟨rfl, h⟩
          refine ⟨rfl, ?_⟩
          have eq : wN bel false ds f W Ls = (([] : List Nat) ++ [48]) ++ (ds.drop f).take (W - f) := by first | (exfalso; omega) | simp [wN, wS, wZ, c1, e1, e2, e3]
          rw [eq]
          exact h
      · replace c5 : ¬ (nI Ls) ≤ (nI W) := of_decide_eq_false c5
        have e2 : W < Ls := Nat.lt_of_not_le (fun q => c5 ((nI_leI (by omega) (by omega)).mpr q))
        show Rx X c0 m_Mod_writeNumber 127 [.ref (c0 + 16), .int (bi bel), .int fr, .int (nI W), .int (nI Ls), .int (nI f), kv] [] σ τ _
        refine Rx.go (fun _ => rfl) ?_
        refine Rx.go (fun _ => rfl) ?_
        refine Rx.callP rfl rfl rfl rfl (ws_put 45 hW (by first | omega | (simp only [List.length_append, List.length_cons, List.length_nil]; omega)) (by decide)) ?_
        intro σ10 τ10 W10
        show Rx X c0 m_Mod_writeNumber 133 [.ref (c0 + 16), .int (bi bel), .int fr, .int (nI W), .int (nI Ls), .int (nI f), kv] [] σ10 τ10 _
        refine Rx.go (fun _ => rfl) ?_
        refine Rx.go (fun _ => rfl) ?_
        refine Rx.go (fun _ => rfl) ?_
        refine Rx.ite (fun c7 => ?_) (fun c7 => ?_)
        · replace c7 : ¬ (nI f) = (nI W) := of_decide_eq_true c7
          have e3 : ¬ f = W := fun q => c7 (by rw [q])
          show Rx X c0 m_Mod_writeNumber 145 [.ref (c0 + 16), .int (bi bel), .int fr, .int (nI W), .int (nI Ls), .int (nI f), kv] [] σ10 τ10 _
          refine Rx.go (fun _ => rfl) ?_
          refine Rx.go (fun _ => rfl) ?_
          show Rx X c0 m_Mod_writeNumber 149 [.ref (c0 + 16), .int (bi bel), .int fr, .int (nI W), .int (nI Ls), .int (nI f), .int (nI f)] [] σ10 τ10 _
          show Rx X c0 m_Mod_writeNumber 149 [.ref (c0 + 16), .int (bi bel), .int fr, .int (nI W), .int (nI Ls), .int (nI f), .int (nI f)] [] σ10 τ10 _
          refine (wn_Cw X c0 hn bel fr hL hWL hb (W - f) f _ _ _ W10 (by omega) (by first | omega | (simp only [List.length_append, List.length_cons, List.length_nil]; omega))).mono ?_
          rintro r σ' τ' ⟨rfl, h⟩
          refine ⟨rfl, ?_⟩
          have eq : wN bel false ds f W Ls = (([] : List Nat) ++ [45]) ++ (ds.drop f).take (W - f) := by first | (exfalso; omega) | simp [wN, wS, wZ, c1, e1, e2, e3]
          rw [eq]
          exact h
        · replace c7 : (nI f) = (nI W) := Classical.not_not.mp (of_decide_eq_false c7)
          have e3 : f = W := (nI_eq (by omega) (by omega)).mp c7
          show Rx X c0 m_Mod_writeNumber 139 [.ref (c0 + 16), .int (bi bel), .int fr, .int (nI W), .int (nI Ls), .int (nI f), kv] [] σ10 τ10 _
          refine Rx.go (fun _ => rfl) ?_
          refine Rx.go (fun _ => rfl) ?_
          refine Rx.callP rfl rfl rfl rfl (ws_put 48 W10 (by first | omega | (simp only [List.length_append, List.length_cons, List.length_nil]; omega)) (by decide)) ?_
          intro σ11 τ11 W11
          show Rx X c0 m_Mod_writeNumber 145 [.ref (c0 + 16), .int (bi bel), .int fr, .int (nI W), .int (nI Ls), .int (nI f), kv] [] σ11 τ11 _
          refine Rx.go (fun _ => rfl) ?_
          refine Rx.go (fun _ => rfl) ?_
          show Rx X c0 m_Mod_writeNumber 149 [.ref (c0 + 16), .int (bi bel), .int fr, .int (nI W), .int (nI Ls), .int (nI f), .int (nI f)] [] σ11 τ11 _
          show Rx X c0 m_Mod_writeNumber 149 [.ref (c0 + 16), .int (bi bel), .int fr, .int (nI W), .int (nI Ls), .int (nI f), .int (nI f)] [] σ11 τ11 _
          refine (wn_Cw X c0 hn bel fr hL hWL hb (W - f) f _ _ _ W11 (by omega) (by first | omega | (simp only [List.length_append, List.length_cons, List.length_nil]; omega))).mono ?_
          rintro r σ' τ' ⟨rfl, h⟩
          refine ⟨rfl, ?_⟩
          have eq : wN bel false ds f W Ls = ((([] : List Nat) ++ [45]) ++ [48]) ++ (ds.drop f).take (W - f) := by first | (exfalso; omega) | simp [wN, wS, wZ, c1, e1, e2, e3]
          rw [eq]
          exact h
set_option maxRecDepth 100000 in
set_option maxHeartbeats 1000000 in
theorem wn_Bd (X : ev_X) (c0 : Nat) {σ0 : Nat → Int32} {τ0 : Nat → Nat → Int32} {ds : List Nat} (hn : nd τ0 ds) (bel : Bool) (fr : Int32) {W Ls f : Nat} (kv : Value) (hL : Ls ≤ ds.length) (hWL : W ≤ Ls) (hf : f ≤ W) (hb : σ0 23 = nI W) {σ : Nat → Int32} {τ : Nat → Nat → Int32} (hW : WS σ0 τ0 [] σ τ) : Rx X c0 m_Mod_writeNumber 111 [.ref (c0 + 16), .int (bi bel), .int fr, .int (nI W), .int (nI Ls), .int (nI f), kv] [] σ τ (fun r σ' τ' => r = none ∧ WS σ0 τ0 (wN bel true ds f W Ls) σ' τ') := by
  have hn18 := hn.1
  refine Rx.go (fun _ => rfl) ?_
  refine Rx.go (fun _ => rfl) ?_
  refine Rx.ite (fun c1 => ?_) (fun c1 => ?_)
  · replace c1 : bel = false := bi_eqt c1
    show Rx X c0 m_Mod_writeNumber 133 [.ref (c0 + 16), .int (bi bel), .int fr, .int (nI W), .int (nI Ls), .int (nI f), kv] [] σ τ _
    refine Rx.go (fun _ => rfl) ?_
    refine Rx.go (fun _ => rfl) ?_
    refine Rx.go (fun _ => rfl) ?_
    refine Rx.ite (fun c2 => ?_) (fun c2 => ?_)
    · replace c2 : ¬ (nI f) = (nI W) := of_decide_eq_true c2
      have e3 : ¬ f = W := fun q => c2 (by rw [q])
      show Rx X c0 m_Mod_writeNumber 145 [.ref (c0 + 16), .int (bi bel), .int fr, .int (nI W), .int (nI Ls), .int (nI f), kv] [] σ τ _
      refine Rx.go (fun _ => rfl) ?_
      refine Rx.go (fun _ => rfl) ?_
      show Rx X c0 m_Mod_writeNumber 149 [.ref (c0 + 16), .int (bi bel), .int fr, .int (nI W), .int (nI Ls), .int (nI f), .int (nI f)] [] σ τ _
      show Rx X c0 m_Mod_writeNumber 149 [.ref (c0 + 16), .int (bi bel), .int fr, .int (nI W), .int (nI Ls), .int (nI f), .int (nI f)] [] σ τ _
      refine (wn_Cd X c0 hn bel fr hL hWL hb (W - f) f _ _ _ hW (by omega) (by first | omega | (simp only [List.length_append, List.length_cons, List.length_nil]; omega))).mono ?_
      rintro r σ' τ' ⟨rfl, h⟩
      refine ⟨rfl, ?_⟩
      have eq : wN bel true ds f W Ls = ([] : List Nat) ++ (ds.drop f).take (W - f) ++ wD ds W Ls := by first | (exfalso; omega) | simp [wN, wS, wZ, c1, e3]
      rw [eq]
      exact h
    · replace c2 : (nI f) = (nI W) := Classical.not_not.mp (of_decide_eq_false c2)
      have e3 : f = W := (nI_eq (by omega) (by omega)).mp c2
      show Rx X c0 m_Mod_writeNumber 139 [.ref (c0 + 16), .int (bi bel), .int fr, .int (nI W), .int (nI Ls), .int (nI f), kv] [] σ τ _
      refine Rx.go (fun _ => rfl) ?_
      refine Rx.go (fun _ => rfl) ?_
      refine Rx.callP rfl rfl rfl rfl (ws_put 48 hW (by first | omega | (simp only [List.length_append, List.length_cons, List.length_nil]; omega)) (by decide)) ?_
      intro σ12 τ12 W12
      show Rx X c0 m_Mod_writeNumber 145 [.ref (c0 + 16), .int (bi bel), .int fr, .int (nI W), .int (nI Ls), .int (nI f), kv] [] σ12 τ12 _
      refine Rx.go (fun _ => rfl) ?_
      refine Rx.go (fun _ => rfl) ?_
      show Rx X c0 m_Mod_writeNumber 149 [.ref (c0 + 16), .int (bi bel), .int fr, .int (nI W), .int (nI Ls), .int (nI f), .int (nI f)] [] σ12 τ12 _
      show Rx X c0 m_Mod_writeNumber 149 [.ref (c0 + 16), .int (bi bel), .int fr, .int (nI W), .int (nI Ls), .int (nI f), .int (nI f)] [] σ12 τ12 _
      refine (wn_Cd X c0 hn bel fr hL hWL hb (W - f) f _ _ _ W12 (by omega) (by first | omega | (simp only [List.length_append, List.length_cons, List.length_nil]; omega))).mono ?_
      rintro r σ' τ' ⟨rfl, h⟩
      refine ⟨rfl, ?_⟩
      have eq : wN bel true ds f W Ls = (([] : List Nat) ++ [48]) ++ (ds.drop f).take (W - f) ++ wD ds W Ls := by first | (exfalso; omega) | simp [wN, wS, wZ, c1, e3]
      rw [eq]
      exact h
  · replace c1 : bel = true := bi_eqf c1
    show Rx X c0 m_Mod_writeNumber 115 [.ref (c0 + 16), .int (bi bel), .int fr, .int (nI W), .int (nI Ls), .int (nI f), kv] [] σ τ _
    refine Rx.go (fun _ => rfl) ?_
    refine Rx.go (fun _ => rfl) ?_
    refine Rx.go (fun _ => rfl) ?_
    refine Rx.ite (fun c3 => ?_) (fun c3 => ?_)
    · replace c3 : (nI f) < (nI W) := of_decide_eq_true c3
      have e1 : f < W := (nI_ltI (by omega) (by omega)).mp c3
      show Rx X c0 m_Mod_writeNumber 127 [.ref (c0 + 16), .int (bi bel), .int fr, .int (nI W), .int (nI Ls), .int (nI f), kv] [] σ τ _
      refine Rx.go (fun _ => rfl) ?_
      refine Rx.go (fun _ => rfl) ?_
      refine Rx.callP rfl rfl rfl rfl (ws_put 45 hW (by first | omega | (simp only [List.length_append, List.length_cons, List.length_nil]; omega)) (by decide)) ?_
      intro σ13 τ13 W13
      show Rx X c0 m_Mod_writeNumber 133 [.ref (c0 + 16), .int (bi bel), .int fr, .int (nI W), .int (nI Ls), .int (nI f), kv] [] σ13 τ13 _
      refine Rx.go (fun _ => rfl) ?_
      refine Rx.go (fun _ => rfl) ?_
      refine Rx.go (fun _ => rfl) ?_
      refine Rx.ite (fun c4 => ?_) (fun c4 => ?_)
      · replace c4 : ¬ (nI f) = (nI W) := of_decide_eq_true c4
        have e3 : ¬ f = W := fun q => c4 (by rw [q])
        show Rx X c0 m_Mod_writeNumber 145 [.ref (c0 + 16), .int (bi bel), .int fr, .int (nI W), .int (nI Ls), .int (nI f), kv] [] σ13 τ13 _
        refine Rx.go (fun _ => rfl) ?_
        refine Rx.go (fun _ => rfl) ?_
        show Rx X c0 m_Mod_writeNumber 149 [.ref (c0 + 16), .int (bi bel), .int fr, .int (nI W), .int (nI Ls), .int (nI f), .int (nI f)] [] σ13 τ13 _
        show Rx X c0 m_Mod_writeNumber 149 [.ref (c0 + 16), .int (bi bel), .int fr, .int (nI W), .int (nI Ls), .int (nI f), .int (nI f)] [] σ13 τ13 _
        refine (wn_Cd X c0 hn bel fr hL hWL hb (W - f) f _ _ _ W13 (by omega) (by first | omega | (simp only [List.length_append, List.length_cons, List.length_nil]; omega))).mono ?_
        rintro r σ' τ' ⟨rfl, h⟩
        refine ⟨rfl, ?_⟩
        have eq : wN bel true ds f W Ls = (([] : List Nat) ++ [45]) ++ (ds.drop f).take (W - f) ++ wD ds W Ls := by first | (exfalso; omega) | simp [wN, wS, wZ, c1, e1, e3]
        rw [eq]
        exact h
      · replace c4 : (nI f) = (nI W) := Classical.not_not.mp (of_decide_eq_false c4)
        have e3 : f = W := (nI_eq (by omega) (by omega)).mp c4
        show Rx X c0 m_Mod_writeNumber 139 [.ref (c0 + 16), .int (bi bel), .int fr, .int (nI W), .int (nI Ls), .int (nI f), kv] [] σ13 τ13 _
        refine Rx.go (fun _ => rfl) ?_
        refine Rx.go (fun _ => rfl) ?_
        refine Rx.callP rfl rfl rfl rfl (ws_put 48 W13 (by first | omega | (simp only [List.length_append, List.length_cons, List.length_nil]; omega)) (by decide)) ?_
        intro σ14 τ14 W14
        show Rx X c0 m_Mod_writeNumber 145 [.ref (c0 + 16), .int (bi bel), .int fr, .int (nI W), .int (nI Ls), .int (nI f), kv] [] σ14 τ14 _
        refine Rx.go (fun _ => rfl) ?_
        refine Rx.go (fun _ => rfl) ?_
        show Rx X c0 m_Mod_writeNumber 149 [.ref (c0 + 16), .int (bi bel), .int fr, .int (nI W), .int (nI Ls), .int (nI f), .int (nI f)] [] σ14 τ14 _
        show Rx X c0 m_Mod_writeNumber 149 [.ref (c0 + 16), .int (bi bel), .int fr, .int (nI W), .int (nI Ls), .int (nI f), .int (nI f)] [] σ14 τ14 _
        refine (wn_Cd X c0 hn bel fr hL hWL hb (W - f) f _ _ _ W14 (by omega) (by first | omega | (simp only [List.length_append, List.length_cons, List.length_nil]; omega))).mono ?_
        rintro r σ' τ' ⟨rfl, h⟩
        refine ⟨rfl, ?_⟩
        have eq : wN bel true ds f W Ls = ((([] : List Nat) ++ [45]) ++ [48]) ++ (ds.drop f).take (W - f) ++ wD ds W Ls := by first | (exfalso; omega) | simp [wN, wS, wZ, c1, e1, e3]
        rw [eq]
        exact h
    · replace c3 : ¬ (nI f) < (nI W) := of_decide_eq_false c3
      have e1 : ¬ f < W := fun q => c3 ((nI_ltI (by omega) (by omega)).mpr q)
      show Rx X c0 m_Mod_writeNumber 121 [.ref (c0 + 16), .int (bi bel), .int fr, .int (nI W), .int (nI Ls), .int (nI f), kv] [] σ τ _
      refine Rx.go (fun _ => rfl) ?_
      refine Rx.go (fun _ => rfl) ?_
      refine Rx.go (fun _ => rfl) ?_
      refine Rx.ite (fun c5 => ?_) (fun c5 => ?_)
      · replace c5 : (nI Ls) ≤ (nI W) := of_decide_eq_true c5
        have e2 : ¬ W < Ls := by have := (nI_leI (by omega) (by omega)).mp c5; omega
        show Rx X c0 m_Mod_writeNumber 133 [.ref (c0 + 16), .int (bi bel), .int fr, .int (nI W), .int (nI Ls), .int (nI f), kv] [] σ τ _
        refine Rx.go (fun _ => rfl) ?_
        refine Rx.go (fun _ => rfl) ?_
        refine Rx.go (fun _ => rfl) ?_
        refine Rx.ite (fun c6 => ?_) (fun c6 => ?_)
        · replace c6 : ¬ (nI f) = (nI W) := of_decide_eq_true c6
          have e3 : ¬ f = W := fun q => c6 (by rw [q])
          show Rx X c0 m_Mod_writeNumber 145 [.ref (c0 + 16), .int (bi bel), .int fr, .int (nI W), .int (nI Ls), .int (nI f), kv] [] σ τ _
          refine Rx.go (fun _ => rfl) ?_
          refine Rx.go (fun _ => rfl) ?_
          show Rx X c0 m_Mod_writeNumber 149 [.ref (c0 + 16), .int (bi bel), .int fr, .int (nI W), .int (nI Ls), .int (nI f), .int (nI f)] [] σ τ _
          show Rx X c0 m_Mod_writeNumber 149 [.ref (c0 + 16), .int (bi bel), .int fr, .int (nI W), .int (nI Ls), .int (nI f), .int (nI f)] [] σ τ _
          refine (wn_Cd X c0 hn bel fr hL hWL hb (W - f) f _ _ _ hW (by omega) (by first | omega | (simp only [List.length_append, List.length_cons, List.length_nil]; omega))).mono ?_
          rintro r σ' τ' ⟨rfl, h⟩
          refine ⟨rfl, ?_⟩
          have eq : wN bel true ds f W Ls = ([] : List Nat) ++ (ds.drop f).take (W - f) ++ wD ds W Ls := by first | (exfalso; omega) | simp [wN, wS, wZ, c1, e1, e2, e3]
          rw [eq]
          exact h
        · replace c6 : (nI f) = (nI W) := Classical.not_not.mp (of_decide_eq_false c6)
          have e3 : f = W := (nI_eq (by omega) (by omega)).mp c6
          show Rx X c0 m_Mod_writeNumber 139 [.ref (c0 + 16), .int (bi bel), .int fr, .int (nI W), .int (nI Ls), .int (nI f), kv] [] σ τ _
          refine Rx.go (fun _ => rfl) ?_
          refine Rx.go (fun _ => rfl) ?_
          refine Rx.callP rfl rfl rfl rfl (ws_put 48 hW (by first | omega | (simp only [List.length_append, List.length_cons, List.length_nil]; omega)) (by decide)) ?_
          intro σ15 τ15 W15
          show Rx X c0 m_Mod_writeNumber 145 [.ref (c0 + 16), .int (bi bel), .int fr, .int (nI W), .int (nI Ls), .int (nI f), kv] [] σ15 τ15 _
          refine Rx.go (fun _ => rfl) ?_
          refine Rx.go (fun _ => rfl) ?_
          show Rx X c0 m_Mod_writeNumber 149 [.ref (c0 + 16), .int (bi bel), .int fr, .int (nI W), .int (nI Ls), .int (nI f), .int (nI f)] [] σ15 τ15 _
          show Rx X c0 m_Mod_writeNumber 149 [.ref (c0 + 16), .int (bi bel), .int fr, .int (nI W), .int (nI Ls), .int (nI f), .int (nI f)] [] σ15 τ15 _
          refine (wn_Cd X c0 hn bel fr hL hWL hb (W - f) f _ _ _ W15 (by omega) (by first | omega | (simp only [List.length_append, List.length_cons, List.length_nil]; omega))).mono ?_
          rintro r σ' τ' ⟨rfl, h⟩
          refine ⟨rfl, ?_⟩
          have eq : wN bel true ds f W Ls = (([] : List Nat) ++ [48]) ++ (ds.drop f).take (W - f) ++ wD ds W Ls := by first | (exfalso; omega) | simp [wN, wS, wZ, c1, e1, e2, e3]
          rw [eq]
          exact h
      · replace c5 : ¬ (nI Ls) ≤ (nI W) := of_decide_eq_false c5
        have e2 : W < Ls := Nat.lt_of_not_le (fun q => c5 ((nI_leI (by omega) (by omega)).mpr q))
        show Rx X c0 m_Mod_writeNumber 127 [.ref (c0 + 16), .int (bi bel), .int fr, .int (nI W), .int (nI Ls), .int (nI f), kv] [] σ τ _
        refine Rx.go (fun _ => rfl) ?_
        refine Rx.go (fun _ => rfl) ?_
        refine Rx.callP rfl rfl rfl rfl (ws_put 45 hW (by first | omega | (simp only [List.length_append, List.length_cons, List.length_nil]; omega)) (by decide)) ?_
        intro σ16 τ16 W16
        show Rx X c0 m_Mod_writeNumber 133 [.ref (c0 + 16), .int (bi bel), .int fr, .int (nI W), .int (nI Ls), .int (nI f), kv] [] σ16 τ16 _
        refine Rx.go (fun _ => rfl) ?_
        refine Rx.go (fun _ => rfl) ?_
        refine Rx.go (fun _ => rfl) ?_
        refine Rx.ite (fun c7 => ?_) (fun c7 => ?_)
        · replace c7 : ¬ (nI f) = (nI W) := of_decide_eq_true c7
          have e3 : ¬ f = W := fun q => c7 (by rw [q])
          show Rx X c0 m_Mod_writeNumber 145 [.ref (c0 + 16), .int (bi bel), .int fr, .int (nI W), .int (nI Ls), .int (nI f), kv] [] σ16 τ16 _
          refine Rx.go (fun _ => rfl) ?_
          refine Rx.go (fun _ => rfl) ?_
          show Rx X c0 m_Mod_writeNumber 149 [.ref (c0 + 16), .int (bi bel), .int fr, .int (nI W), .int (nI Ls), .int (nI f), .int (nI f)] [] σ16 τ16 _
          show Rx X c0 m_Mod_writeNumber 149 [.ref (c0 + 16), .int (bi bel), .int fr, .int (nI W), .int (nI Ls), .int (nI f), .int (nI f)] [] σ16 τ16 _
          refine (wn_Cd X c0 hn bel fr hL hWL hb (W - f) f _ _ _ W16 (by omega) (by first | omega | (simp only [List.length_append, List.length_cons, List.length_nil]; omega))).mono ?_
          rintro r σ' τ' ⟨rfl, h⟩
          refine ⟨rfl, ?_⟩
          have eq : wN bel true ds f W Ls = (([] : List Nat) ++ [45]) ++ (ds.drop f).take (W - f) ++ wD ds W Ls := by first | (exfalso; omega) | simp [wN, wS, wZ, c1, e1, e2, e3]
          rw [eq]
          exact h
        · replace c7 : (nI f) = (nI W) := Classical.not_not.mp (of_decide_eq_false c7)
          have e3 : f = W := (nI_eq (by omega) (by omega)).mp c7
          show Rx X c0 m_Mod_writeNumber 139 [.ref (c0 + 16), .int (bi bel), .int fr, .int (nI W), .int (nI Ls), .int (nI f), kv] [] σ16 τ16 _
          refine Rx.go (fun _ => rfl) ?_
          refine Rx.go (fun _ => rfl) ?_
          refine Rx.callP rfl rfl rfl rfl (ws_put 48 W16 (by first | omega | (simp only [List.length_append, List.length_cons, List.length_nil]; omega)) (by decide)) ?_
          intro σ17 τ17 W17
          show Rx X c0 m_Mod_writeNumber 145 [.ref (c0 + 16), .int (bi bel), .int fr, .int (nI W), .int (nI Ls), .int (nI f), kv] [] σ17 τ17 _
          refine Rx.go (fun _ => rfl) ?_
          refine Rx.go (fun _ => rfl) ?_
          show Rx X c0 m_Mod_writeNumber 149 [.ref (c0 + 16), .int (bi bel), .int fr, .int (nI W), .int (nI Ls), .int (nI f), .int (nI f)] [] σ17 τ17 _
          show Rx X c0 m_Mod_writeNumber 149 [.ref (c0 + 16), .int (bi bel), .int fr, .int (nI W), .int (nI Ls), .int (nI f), .int (nI f)] [] σ17 τ17 _
          refine (wn_Cd X c0 hn bel fr hL hWL hb (W - f) f _ _ _ W17 (by omega) (by first | omega | (simp only [List.length_append, List.length_cons, List.length_nil]; omega))).mono ?_
          rintro r σ' τ' ⟨rfl, h⟩
          refine ⟨rfl, ?_⟩
          have eq : wN bel true ds f W Ls = ((([] : List Nat) ++ [45]) ++ [48]) ++ (ds.drop f).take (W - f) ++ wD ds W Ls := by first | (exfalso; omega) | simp [wN, wS, wZ, c1, e1, e2, e3]
          rw [eq]
          exact h
def lead (ds : List Nat) (W f : Nat) : Prop := f ≤ W ∧ (∀ j, j < f → ds.getD j 0 = 48) ∧ (f = W ∨ ds.getD f 0 ≠ 48)
def trail (ds : List Nat) (W L : Nat) : Prop := W ≤ L ∧ L ≤ ds.length ∧ (∀ j, L ≤ j → j < ds.length → ds.getD j 0 = 48) ∧ (L = W ∨ ds.getD (L - 1) 0 ≠ 48)
theorem dg48 {τ0 : Nat → Nat → Int32} {ds : List Nat} (hn : nd τ0 ds) {k : Nat} (c : nI (ds.getD k 0) = 48) : ds.getD k 0 = 48 := (nI_eq (b := 48) (by have := hn.2.2 k; omega) (by decide)).mp c
theorem dg48n {ds : List Nat} {k : Nat} (c : ¬ nI (ds.getD k 0) = 48) : ds.getD k 0 ≠ 48 := fun q => c (by rw [q]; rfl)
set_option maxRecDepth 100000 in
set_option maxHeartbeats 1000000 in
theorem wn_Aw (X : ev_X) (c0 : Nat) {σ0 : Nat → Int32} {τ0 : Nat → Nat → Int32} {ds : List Nat} (hn : nd τ0 ds) (bel : Bool) (fr : Int32) {W Ls : Nat} (kv : Value) (hL : Ls ≤ ds.length) (hWL : W ≤ Ls) (hb : σ0 23 = -1) {σ : Nat → Int32} {τ : Nat → Nat → Int32} (hW : WS σ0 τ0 [] σ τ) : ∀ (m f : Nat) (hm : f + m = W) (hz : ∀ j, j < f → ds.getD j 0 = 48), Rx X c0 m_Mod_writeNumber 87 [.ref (c0 + 16), .int (bi bel), .int fr, .int (nI W), .int (nI Ls), .int (nI f), kv] [] σ τ (fun r σ' τ' => r = none ∧ ∃ g, lead ds W g ∧ WS σ0 τ0 (wN bel false ds g W Ls) σ' τ') := by
  intro m
  have hn18 := hn.1
  induction m with
  | zero =>
    intro f hm hz
    refine Rx.go (fun _ => rfl) ?_
    refine Rx.go (fun _ => rfl) ?_
    refine Rx.go (fun _ => rfl) ?_
    refine Rx.ite (fun c1 => ?_) (fun c1 => ?_)
    · replace c1 : (nI W) ≤ (nI f) := of_decide_eq_true c1
      show Rx X c0 m_Mod_writeNumber 111 [.ref (c0 + 16), .int (bi bel), .int fr, .int (nI W), .int (nI Ls), .int (nI f), kv] [] σ τ _
      show Rx X c0 m_Mod_writeNumber 111 [.ref (c0 + 16), .int (bi bel), .int fr, .int (nI W), .int (nI Ls), .int (nI f), kv] [] σ τ _
      refine (wn_Bw X c0 hn bel fr kv hL hWL (by omega) hb hW).mono ?_
      rintro r σ' τ' ⟨rfl, h⟩
      exact ⟨rfl, f, ⟨by omega, hz, Or.inl (by omega)⟩, h⟩
    · replace c1 : ¬ (nI W) ≤ (nI f) := of_decide_eq_false c1
      exact absurd (show nI W ≤ nI f by rw [show f = W by omega]; exact Int32.le_refl _) c1
  | succ m ih =>
    intro f hm hz
    refine Rx.go (fun _ => rfl) ?_
    refine Rx.go (fun _ => rfl) ?_
    refine Rx.go (fun _ => rfl) ?_
    refine Rx.ite (fun c1 => ?_) (fun c1 => ?_)
    · replace c1 : (nI W) ≤ (nI f) := of_decide_eq_true c1
      exact absurd ((nI_leI (by omega) (by omega)).mp c1) (by omega)
    · replace c1 : ¬ (nI W) ≤ (nI f) := of_decide_eq_false c1
      show Rx X c0 m_Mod_writeNumber 93 [.ref (c0 + 16), .int (bi bel), .int fr, .int (nI W), .int (nI Ls), .int (nI f), kv] [] σ τ _
      refine Rx.go (fun _ => rfl) ?_
      refine Rx.get rfl rfl ?_
      refine Rx.go (fun _ => rfl) ?_
      refine Rx.aldE (v := nI (ds.getD f 0)) 21 rfl rfl (nI_ix (show f < 40 by have := hn.1; omega) (by decide)) (ws_dg hn hW (by omega)) ?_
      refine Rx.go (fun _ => rfl) ?_
      refine Rx.go (fun _ => rfl) ?_
      refine Rx.ite (fun c2 => ?_) (fun c2 => ?_)
      · replace c2 : ¬ (nI (ds.getD f 0)) = 48 := of_decide_eq_true c2
        show Rx X c0 m_Mod_writeNumber 111 [.ref (c0 + 16), .int (bi bel), .int fr, .int (nI W), .int (nI Ls), .int (nI f), kv] [] σ τ _
        show Rx X c0 m_Mod_writeNumber 111 [.ref (c0 + 16), .int (bi bel), .int fr, .int (nI W), .int (nI Ls), .int (nI f), kv] [] σ τ _
        refine (wn_Bw X c0 hn bel fr kv hL hWL (by omega) hb hW).mono ?_
        rintro r σ' τ' ⟨rfl, h⟩
        exact ⟨rfl, f, ⟨by omega, hz, Or.inr (dg48n c2)⟩, h⟩
      · replace c2 : (nI (ds.getD f 0)) = 48 := Classical.not_not.mp (of_decide_eq_false c2)
        show Rx X c0 m_Mod_writeNumber 105 [.ref (c0 + 16), .int (bi bel), .int fr, .int (nI W), .int (nI Ls), .int (nI f), kv] [] σ τ _
        refine Rx.go (fun _ => rfl) ?_
        show Rx X c0 m_Mod_writeNumber 108 [.ref (c0 + 16), .int (bi bel), .int fr, .int (nI W), .int (nI Ls), .int ((nI f) + 1), kv] [] σ τ _
        refine Rx.go (fun _ => rfl) ?_
        show Rx X c0 m_Mod_writeNumber 87 [.ref (c0 + 16), .int (bi bel), .int fr, .int (nI W), .int (nI Ls), .int ((nI f) + 1), kv] [] σ τ _
        rw [show nI f + 1 = nI (f + 1) from nI_1 f]
        exact ih (f + 1) (by omega) (fun j hj => by
          by_cases q : j < f
          · exact hz j q
          · rw [show j = f by omega]; exact dg48 hn c2)
set_option maxRecDepth 100000 in
set_option maxHeartbeats 1000000 in
theorem wn_Ad (X : ev_X) (c0 : Nat) {σ0 : Nat → Int32} {τ0 : Nat → Nat → Int32} {ds : List Nat} (hn : nd τ0 ds) (bel : Bool) (fr : Int32) {W Ls : Nat} (kv : Value) (hL : Ls ≤ ds.length) (hWL : W ≤ Ls) (hb : σ0 23 = nI W) {σ : Nat → Int32} {τ : Nat → Nat → Int32} (hW : WS σ0 τ0 [] σ τ) : ∀ (m f : Nat) (hm : f + m = W) (hz : ∀ j, j < f → ds.getD j 0 = 48), Rx X c0 m_Mod_writeNumber 87 [.ref (c0 + 16), .int (bi bel), .int fr, .int (nI W), .int (nI Ls), .int (nI f), kv] [] σ τ (fun r σ' τ' => r = none ∧ ∃ g, lead ds W g ∧ WS σ0 τ0 (wN bel true ds g W Ls) σ' τ') := by
  intro m
  have hn18 := hn.1
  induction m with
  | zero =>
    intro f hm hz
    refine Rx.go (fun _ => rfl) ?_
    refine Rx.go (fun _ => rfl) ?_
    refine Rx.go (fun _ => rfl) ?_
    refine Rx.ite (fun c1 => ?_) (fun c1 => ?_)
    · replace c1 : (nI W) ≤ (nI f) := of_decide_eq_true c1
      show Rx X c0 m_Mod_writeNumber 111 [.ref (c0 + 16), .int (bi bel), .int fr, .int (nI W), .int (nI Ls), .int (nI f), kv] [] σ τ _
      show Rx X c0 m_Mod_writeNumber 111 [.ref (c0 + 16), .int (bi bel), .int fr, .int (nI W), .int (nI Ls), .int (nI f), kv] [] σ τ _
      refine (wn_Bd X c0 hn bel fr kv hL hWL (by omega) hb hW).mono ?_
      rintro r σ' τ' ⟨rfl, h⟩
      exact ⟨rfl, f, ⟨by omega, hz, Or.inl (by omega)⟩, h⟩
    · replace c1 : ¬ (nI W) ≤ (nI f) := of_decide_eq_false c1
      exact absurd (show nI W ≤ nI f by rw [show f = W by omega]; exact Int32.le_refl _) c1
  | succ m ih =>
    intro f hm hz
    refine Rx.go (fun _ => rfl) ?_
    refine Rx.go (fun _ => rfl) ?_
    refine Rx.go (fun _ => rfl) ?_
    refine Rx.ite (fun c1 => ?_) (fun c1 => ?_)
    · replace c1 : (nI W) ≤ (nI f) := of_decide_eq_true c1
      exact absurd ((nI_leI (by omega) (by omega)).mp c1) (by omega)
    · replace c1 : ¬ (nI W) ≤ (nI f) := of_decide_eq_false c1
      show Rx X c0 m_Mod_writeNumber 93 [.ref (c0 + 16), .int (bi bel), .int fr, .int (nI W), .int (nI Ls), .int (nI f), kv] [] σ τ _
      refine Rx.go (fun _ => rfl) ?_
      refine Rx.get rfl rfl ?_
      refine Rx.go (fun _ => rfl) ?_
      refine Rx.aldE (v := nI (ds.getD f 0)) 21 rfl rfl (nI_ix (show f < 40 by have := hn.1; omega) (by decide)) (ws_dg hn hW (by omega)) ?_
      refine Rx.go (fun _ => rfl) ?_
      refine Rx.go (fun _ => rfl) ?_
      refine Rx.ite (fun c2 => ?_) (fun c2 => ?_)
      · replace c2 : ¬ (nI (ds.getD f 0)) = 48 := of_decide_eq_true c2
        show Rx X c0 m_Mod_writeNumber 111 [.ref (c0 + 16), .int (bi bel), .int fr, .int (nI W), .int (nI Ls), .int (nI f), kv] [] σ τ _
        show Rx X c0 m_Mod_writeNumber 111 [.ref (c0 + 16), .int (bi bel), .int fr, .int (nI W), .int (nI Ls), .int (nI f), kv] [] σ τ _
        refine (wn_Bd X c0 hn bel fr kv hL hWL (by omega) hb hW).mono ?_
        rintro r σ' τ' ⟨rfl, h⟩
        exact ⟨rfl, f, ⟨by omega, hz, Or.inr (dg48n c2)⟩, h⟩
      · replace c2 : (nI (ds.getD f 0)) = 48 := Classical.not_not.mp (of_decide_eq_false c2)
        show Rx X c0 m_Mod_writeNumber 105 [.ref (c0 + 16), .int (bi bel), .int fr, .int (nI W), .int (nI Ls), .int (nI f), kv] [] σ τ _
        refine Rx.go (fun _ => rfl) ?_
        show Rx X c0 m_Mod_writeNumber 108 [.ref (c0 + 16), .int (bi bel), .int fr, .int (nI W), .int (nI Ls), .int ((nI f) + 1), kv] [] σ τ _
        refine Rx.go (fun _ => rfl) ?_
        show Rx X c0 m_Mod_writeNumber 87 [.ref (c0 + 16), .int (bi bel), .int fr, .int (nI W), .int (nI Ls), .int ((nI f) + 1), kv] [] σ τ _
        rw [show nI f + 1 = nI (f + 1) from nI_1 f]
        exact ih (f + 1) (by omega) (fun j hj => by
          by_cases q : j < f
          · exact hz j q
          · rw [show j = f by omega]; exact dg48 hn c2)
def rbg (σ : Nat → Int32) (b : Int32) : Nat → Int32 := upd (upd (upd (upd σ 11 b) 10 0) 12 0) 13 0
def wnP (bel dec : Bool) (fr : Int32) (ds : List Nat) (W : Nat) (σ0 : Nat → Int32) (τ0 : Nat → Nat → Int32) (σ' : Nat → Int32) (τ' : Nat → Nat → Int32) : Prop := ∃ L, trail ds W L ∧ ((L - W ≤ 9 ∧ ∃ g, lead ds W g ∧ WS σ0 τ0 (wN bel dec ds g W L) σ' τ') ∨ (9 < L - W ∧ σ' = rfail σ0 6 fr ∧ τ' = τ0))
theorem Rx.topL {X : ev_X} {c0 M pc : Nat} {A r : List Value} {σ : Nat → Int32} {τ : Nat → Nat → Int32} {Q : Option Value → (Nat → Int32) → (Nat → Nat → Int32) → Prop} {x y : Int64} (h : x = y) (k : Rx X c0 M pc A (.long y :: r) σ τ Q) : Rx X c0 M pc A (.long x :: r) σ τ Q := h ▸ k
theorem ws_0 {σ0 : Nat → Int32} {τ0 : Nat → Nat → Int32} (h : σ0 10 = 0) : WS σ0 τ0 [] σ0 τ0 := ⟨fun _ _ => rfl, fun _ _ => rfl, h, by decide, fun k hk => absurd hk (Nat.not_lt_zero k), fun k => by simp⟩
set_option maxRecDepth 100000 in
set_option maxHeartbeats 1000000 in
theorem wn_Tw (X : ev_X) (c0 : Nat) {σ0 : Nat → Int32} {τ0 : Nat → Nat → Int32} {ds : List Nat} (hn : nd τ0 ds) (bel : Bool) (fr : Int32) {W : Nat} (fv kv : Value) (hb : σ0 23 = -1) (hW : WS σ0 τ0 [] σ0 τ0) : ∀ (m : Nat) (hm : W + m ≤ ds.length) (hz : ∀ j, W + m ≤ j → j < ds.length → ds.getD j 0 = 48), Rx X c0 m_Mod_writeNumber 41 [.ref (c0 + 16), .int (bi bel), .int fr, .int (nI W), .int (nI (W + m)), fv, kv] [] σ0 τ0 (fun r σ' τ' => r = none ∧ wnP bel false fr ds W σ0 τ0 σ' τ') := by
  intro m
  have hn18 := hn.1
  induction m with
  | zero =>
    intro hm hz
    show Rx X c0 m_Mod_writeNumber 41 [.ref (c0 + 16), .int (bi bel), .int fr, .int (nI W), .int (nI W), fv, kv] [] σ0 τ0 _
    refine Rx.go (fun _ => rfl) ?_
    refine Rx.go (fun _ => rfl) ?_
    refine Rx.go (fun _ => rfl) ?_
    refine Rx.ite (fun c1 => ?_) (fun c1 => ?_)
    · replace c1 : (nI W) ≤ (nI W) := of_decide_eq_true c1
      show Rx X c0 m_Mod_writeNumber 67 [.ref (c0 + 16), .int (bi bel), .int fr, .int (nI W), .int (nI W), fv, kv] [] σ0 τ0 _
      refine Rx.go (fun _ => rfl) ?_
      refine Rx.go (fun _ => rfl) ?_
      refine Rx.go (fun _ => rfl) ?_
      refine Rx.top (y := nI (W - W)) (pk_sub (by omega)) ?_
      refine Rx.go (fun _ => rfl) ?_
      refine Rx.go (fun _ => rfl) ?_
      refine Rx.ite (fun c2 => ?_) (fun c2 => ?_)
      · replace c2 : (nI (W - W)) ≤ 9 := of_decide_eq_true c2
        have e9 : W - W ≤ 9 := (nI_leI (b := 9) (by omega) (by omega)).mp c2
        show Rx X c0 m_Mod_writeNumber 84 [.ref (c0 + 16), .int (bi bel), .int fr, .int (nI W), .int (nI W), fv, kv] [] σ0 τ0 _
        refine Rx.go (fun _ => rfl) ?_
        refine Rx.go (fun _ => rfl) ?_
        show Rx X c0 m_Mod_writeNumber 87 [.ref (c0 + 16), .int (bi bel), .int fr, .int (nI W), .int (nI W), .int 0, kv] [] σ0 τ0 _
        show Rx X c0 m_Mod_writeNumber 87 [.ref (c0 + 16), .int (bi bel), .int fr, .int (nI W), .int (nI W), .int 0, kv] [] σ0 τ0 _
        refine (wn_Aw X c0 hn bel fr _ (Ls := W) (by omega) (by omega) hb hW W 0 (by omega) (fun j hj => absurd hj (Nat.not_lt_zero j))).mono ?_
        rintro r σ' τ' ⟨rfl, g, hg, h⟩
        exact ⟨rfl, W, ⟨by omega, by omega, hz, Or.inl rfl⟩, Or.inl ⟨e9, g, hg, h⟩⟩
      · replace c2 : ¬ (nI (W - W)) ≤ 9 := of_decide_eq_false c2
        have e9 : 9 < W - W := Nat.lt_of_not_le (fun q => c2 ((nI_leI (b := 9) (by omega) (by omega)).mpr q))
        show Rx X c0 m_Mod_writeNumber 76 [.ref (c0 + 16), .int (bi bel), .int fr, .int (nI W), .int (nI W), fv, kv] [] σ0 τ0 _
        refine Rx.go (fun _ => rfl) ?_
        refine Rx.go (fun _ => rfl) ?_
        refine Rx.go (fun _ => rfl) ?_
        refine Rx.callE rfl rfl rfl rfl (rx_fail X c0 _ _ 6 fr) ?_
        show Rx X c0 m_Mod_writeNumber 83 [.ref (c0 + 16), .int (bi bel), .int fr, .int (nI W), .int (nI W), fv, kv] [] (rfail σ0 6 fr) τ0 _
        exact Rx.ret rfl rfl ⟨rfl, W, ⟨by omega, by omega, hz, Or.inl rfl⟩, Or.inr ⟨e9, rfl, rfl⟩⟩
    · replace c1 : ¬ (nI W) ≤ (nI W) := of_decide_eq_false c1
      exact absurd (Int32.le_refl _) c1
  | succ m ih =>
    intro hm hz
    refine Rx.go (fun _ => rfl) ?_
    refine Rx.go (fun _ => rfl) ?_
    refine Rx.go (fun _ => rfl) ?_
    refine Rx.ite (fun c1 => ?_) (fun c1 => ?_)
    · replace c1 : (nI (W + (m + 1))) ≤ (nI W) := of_decide_eq_true c1
      exact absurd ((nI_leI (by omega) (by omega)).mp c1) (by omega)
    · replace c1 : ¬ (nI (W + (m + 1))) ≤ (nI W) := of_decide_eq_false c1
      show Rx X c0 m_Mod_writeNumber 47 [.ref (c0 + 16), .int (bi bel), .int fr, .int (nI W), .int (nI (W + (m + 1))), fv, kv] [] σ0 τ0 _
      refine Rx.go (fun _ => rfl) ?_
      refine Rx.get rfl rfl ?_
      refine Rx.go (fun _ => rfl) ?_
      refine Rx.go (fun _ => rfl) ?_
      refine Rx.go (fun _ => rfl) ?_
      refine Rx.top (y := nI (W + m)) (nI_pred (W + m)) ?_
      refine Rx.aldE (v := nI (ds.getD (W + m) 0)) 21 rfl rfl (nI_ix (show W + m < 40 by omega) (by decide)) (nd_dg hn (by omega)) ?_
      refine Rx.go (fun _ => rfl) ?_
      refine Rx.go (fun _ => rfl) ?_
      refine Rx.ite (fun c2 => ?_) (fun c2 => ?_)
      · replace c2 : ¬ (nI (ds.getD (W + m) 0)) = 48 := of_decide_eq_true c2
        show Rx X c0 m_Mod_writeNumber 67 [.ref (c0 + 16), .int (bi bel), .int fr, .int (nI W), .int (nI (W + (m + 1))), fv, kv] [] σ0 τ0 _
        refine Rx.go (fun _ => rfl) ?_
        refine Rx.go (fun _ => rfl) ?_
        refine Rx.go (fun _ => rfl) ?_
        refine Rx.top (y := nI (W + (m + 1) - W)) (pk_sub (by omega)) ?_
        refine Rx.go (fun _ => rfl) ?_
        refine Rx.go (fun _ => rfl) ?_
        refine Rx.ite (fun c3 => ?_) (fun c3 => ?_)
        · replace c3 : (nI (W + (m + 1) - W)) ≤ 9 := of_decide_eq_true c3
          have e9 : W + (m + 1) - W ≤ 9 := (nI_leI (b := 9) (by omega) (by omega)).mp c3
          show Rx X c0 m_Mod_writeNumber 84 [.ref (c0 + 16), .int (bi bel), .int fr, .int (nI W), .int (nI (W + (m + 1))), fv, kv] [] σ0 τ0 _
          refine Rx.go (fun _ => rfl) ?_
          refine Rx.go (fun _ => rfl) ?_
          show Rx X c0 m_Mod_writeNumber 87 [.ref (c0 + 16), .int (bi bel), .int fr, .int (nI W), .int (nI (W + (m + 1))), .int 0, kv] [] σ0 τ0 _
          show Rx X c0 m_Mod_writeNumber 87 [.ref (c0 + 16), .int (bi bel), .int fr, .int (nI W), .int (nI (W + (m + 1))), .int 0, kv] [] σ0 τ0 _
          refine (wn_Aw X c0 hn bel fr _ (Ls := W + (m + 1)) (by omega) (by omega) hb hW W 0 (by omega) (fun j hj => absurd hj (Nat.not_lt_zero j))).mono ?_
          rintro r σ' τ' ⟨rfl, g, hg, h⟩
          exact ⟨rfl, W + (m + 1), ⟨by omega, by omega, hz, Or.inr (dg48n c2)⟩, Or.inl ⟨e9, g, hg, h⟩⟩
        · replace c3 : ¬ (nI (W + (m + 1) - W)) ≤ 9 := of_decide_eq_false c3
          have e9 : 9 < W + (m + 1) - W := Nat.lt_of_not_le (fun q => c3 ((nI_leI (b := 9) (by omega) (by omega)).mpr q))
          show Rx X c0 m_Mod_writeNumber 76 [.ref (c0 + 16), .int (bi bel), .int fr, .int (nI W), .int (nI (W + (m + 1))), fv, kv] [] σ0 τ0 _
          refine Rx.go (fun _ => rfl) ?_
          refine Rx.go (fun _ => rfl) ?_
          refine Rx.go (fun _ => rfl) ?_
          refine Rx.callE rfl rfl rfl rfl (rx_fail X c0 _ _ 6 fr) ?_
          show Rx X c0 m_Mod_writeNumber 83 [.ref (c0 + 16), .int (bi bel), .int fr, .int (nI W), .int (nI (W + (m + 1))), fv, kv] [] (rfail σ0 6 fr) τ0 _
          exact Rx.ret rfl rfl ⟨rfl, W + (m + 1), ⟨by omega, by omega, hz, Or.inr (dg48n c2)⟩, Or.inr ⟨e9, rfl, rfl⟩⟩
      · replace c2 : (nI (ds.getD (W + m) 0)) = 48 := Classical.not_not.mp (of_decide_eq_false c2)
        show Rx X c0 m_Mod_writeNumber 61 [.ref (c0 + 16), .int (bi bel), .int fr, .int (nI W), .int (nI (W + (m + 1))), fv, kv] [] σ0 τ0 _
        refine Rx.go (fun _ => rfl) ?_
        show Rx X c0 m_Mod_writeNumber 64 [.ref (c0 + 16), .int (bi bel), .int fr, .int (nI W), .int ((nI (W + (m + 1))) + (-1)), fv, kv] [] σ0 τ0 _
        refine Rx.go (fun _ => rfl) ?_
        show Rx X c0 m_Mod_writeNumber 41 [.ref (c0 + 16), .int (bi bel), .int fr, .int (nI W), .int ((nI (W + (m + 1))) + (-1)), fv, kv] [] σ0 τ0 _
        rw [show nI (W + (m + 1)) + (-1) = nI (W + m) from pk_m1 (W + m)]
        exact ih (by omega) (fun j h1 h2 => by
          by_cases q : j = W + m
          · rw [q]; exact dg48 hn c2
          · exact hz j (by omega) h2)
set_option maxRecDepth 100000 in
set_option maxHeartbeats 1000000 in
theorem wn_Td (X : ev_X) (c0 : Nat) {σ0 : Nat → Int32} {τ0 : Nat → Nat → Int32} {ds : List Nat} (hn : nd τ0 ds) (bel : Bool) (fr : Int32) {W : Nat} (fv kv : Value) (hb : σ0 23 = nI W) (hW : WS σ0 τ0 [] σ0 τ0) : ∀ (m : Nat) (hm : W + m ≤ ds.length) (hz : ∀ j, W + m ≤ j → j < ds.length → ds.getD j 0 = 48), Rx X c0 m_Mod_writeNumber 41 [.ref (c0 + 16), .int (bi bel), .int fr, .int (nI W), .int (nI (W + m)), fv, kv] [] σ0 τ0 (fun r σ' τ' => r = none ∧ wnP bel true fr ds W σ0 τ0 σ' τ') := by
  intro m
  have hn18 := hn.1
  induction m with
  | zero =>
    intro hm hz
    show Rx X c0 m_Mod_writeNumber 41 [.ref (c0 + 16), .int (bi bel), .int fr, .int (nI W), .int (nI W), fv, kv] [] σ0 τ0 _
    refine Rx.go (fun _ => rfl) ?_
    refine Rx.go (fun _ => rfl) ?_
    refine Rx.go (fun _ => rfl) ?_
    refine Rx.ite (fun c1 => ?_) (fun c1 => ?_)
    · replace c1 : (nI W) ≤ (nI W) := of_decide_eq_true c1
      show Rx X c0 m_Mod_writeNumber 67 [.ref (c0 + 16), .int (bi bel), .int fr, .int (nI W), .int (nI W), fv, kv] [] σ0 τ0 _
      refine Rx.go (fun _ => rfl) ?_
      refine Rx.go (fun _ => rfl) ?_
      refine Rx.go (fun _ => rfl) ?_
      refine Rx.top (y := nI (W - W)) (pk_sub (by omega)) ?_
      refine Rx.go (fun _ => rfl) ?_
      refine Rx.go (fun _ => rfl) ?_
      refine Rx.ite (fun c2 => ?_) (fun c2 => ?_)
      · replace c2 : (nI (W - W)) ≤ 9 := of_decide_eq_true c2
        have e9 : W - W ≤ 9 := (nI_leI (b := 9) (by omega) (by omega)).mp c2
        show Rx X c0 m_Mod_writeNumber 84 [.ref (c0 + 16), .int (bi bel), .int fr, .int (nI W), .int (nI W), fv, kv] [] σ0 τ0 _
        refine Rx.go (fun _ => rfl) ?_
        refine Rx.go (fun _ => rfl) ?_
        show Rx X c0 m_Mod_writeNumber 87 [.ref (c0 + 16), .int (bi bel), .int fr, .int (nI W), .int (nI W), .int 0, kv] [] σ0 τ0 _
        show Rx X c0 m_Mod_writeNumber 87 [.ref (c0 + 16), .int (bi bel), .int fr, .int (nI W), .int (nI W), .int 0, kv] [] σ0 τ0 _
        refine (wn_Ad X c0 hn bel fr _ (Ls := W) (by omega) (by omega) hb hW W 0 (by omega) (fun j hj => absurd hj (Nat.not_lt_zero j))).mono ?_
        rintro r σ' τ' ⟨rfl, g, hg, h⟩
        exact ⟨rfl, W, ⟨by omega, by omega, hz, Or.inl rfl⟩, Or.inl ⟨e9, g, hg, h⟩⟩
      · replace c2 : ¬ (nI (W - W)) ≤ 9 := of_decide_eq_false c2
        have e9 : 9 < W - W := Nat.lt_of_not_le (fun q => c2 ((nI_leI (b := 9) (by omega) (by omega)).mpr q))
        show Rx X c0 m_Mod_writeNumber 76 [.ref (c0 + 16), .int (bi bel), .int fr, .int (nI W), .int (nI W), fv, kv] [] σ0 τ0 _
        refine Rx.go (fun _ => rfl) ?_
        refine Rx.go (fun _ => rfl) ?_
        refine Rx.go (fun _ => rfl) ?_
        refine Rx.callE rfl rfl rfl rfl (rx_fail X c0 _ _ 6 fr) ?_
        show Rx X c0 m_Mod_writeNumber 83 [.ref (c0 + 16), .int (bi bel), .int fr, .int (nI W), .int (nI W), fv, kv] [] (rfail σ0 6 fr) τ0 _
        exact Rx.ret rfl rfl ⟨rfl, W, ⟨by omega, by omega, hz, Or.inl rfl⟩, Or.inr ⟨e9, rfl, rfl⟩⟩
    · replace c1 : ¬ (nI W) ≤ (nI W) := of_decide_eq_false c1
      exact absurd (Int32.le_refl _) c1
  | succ m ih =>
    intro hm hz
    refine Rx.go (fun _ => rfl) ?_
    refine Rx.go (fun _ => rfl) ?_
    refine Rx.go (fun _ => rfl) ?_
    refine Rx.ite (fun c1 => ?_) (fun c1 => ?_)
    · replace c1 : (nI (W + (m + 1))) ≤ (nI W) := of_decide_eq_true c1
      exact absurd ((nI_leI (by omega) (by omega)).mp c1) (by omega)
    · replace c1 : ¬ (nI (W + (m + 1))) ≤ (nI W) := of_decide_eq_false c1
      show Rx X c0 m_Mod_writeNumber 47 [.ref (c0 + 16), .int (bi bel), .int fr, .int (nI W), .int (nI (W + (m + 1))), fv, kv] [] σ0 τ0 _
      refine Rx.go (fun _ => rfl) ?_
      refine Rx.get rfl rfl ?_
      refine Rx.go (fun _ => rfl) ?_
      refine Rx.go (fun _ => rfl) ?_
      refine Rx.go (fun _ => rfl) ?_
      refine Rx.top (y := nI (W + m)) (nI_pred (W + m)) ?_
      refine Rx.aldE (v := nI (ds.getD (W + m) 0)) 21 rfl rfl (nI_ix (show W + m < 40 by omega) (by decide)) (nd_dg hn (by omega)) ?_
      refine Rx.go (fun _ => rfl) ?_
      refine Rx.go (fun _ => rfl) ?_
      refine Rx.ite (fun c2 => ?_) (fun c2 => ?_)
      · replace c2 : ¬ (nI (ds.getD (W + m) 0)) = 48 := of_decide_eq_true c2
        show Rx X c0 m_Mod_writeNumber 67 [.ref (c0 + 16), .int (bi bel), .int fr, .int (nI W), .int (nI (W + (m + 1))), fv, kv] [] σ0 τ0 _
        refine Rx.go (fun _ => rfl) ?_
        refine Rx.go (fun _ => rfl) ?_
        refine Rx.go (fun _ => rfl) ?_
        refine Rx.top (y := nI (W + (m + 1) - W)) (pk_sub (by omega)) ?_
        refine Rx.go (fun _ => rfl) ?_
        refine Rx.go (fun _ => rfl) ?_
        refine Rx.ite (fun c3 => ?_) (fun c3 => ?_)
        · replace c3 : (nI (W + (m + 1) - W)) ≤ 9 := of_decide_eq_true c3
          have e9 : W + (m + 1) - W ≤ 9 := (nI_leI (b := 9) (by omega) (by omega)).mp c3
          show Rx X c0 m_Mod_writeNumber 84 [.ref (c0 + 16), .int (bi bel), .int fr, .int (nI W), .int (nI (W + (m + 1))), fv, kv] [] σ0 τ0 _
          refine Rx.go (fun _ => rfl) ?_
          refine Rx.go (fun _ => rfl) ?_
          show Rx X c0 m_Mod_writeNumber 87 [.ref (c0 + 16), .int (bi bel), .int fr, .int (nI W), .int (nI (W + (m + 1))), .int 0, kv] [] σ0 τ0 _
          show Rx X c0 m_Mod_writeNumber 87 [.ref (c0 + 16), .int (bi bel), .int fr, .int (nI W), .int (nI (W + (m + 1))), .int 0, kv] [] σ0 τ0 _
          refine (wn_Ad X c0 hn bel fr _ (Ls := W + (m + 1)) (by omega) (by omega) hb hW W 0 (by omega) (fun j hj => absurd hj (Nat.not_lt_zero j))).mono ?_
          rintro r σ' τ' ⟨rfl, g, hg, h⟩
          exact ⟨rfl, W + (m + 1), ⟨by omega, by omega, hz, Or.inr (dg48n c2)⟩, Or.inl ⟨e9, g, hg, h⟩⟩
        · replace c3 : ¬ (nI (W + (m + 1) - W)) ≤ 9 := of_decide_eq_false c3
          have e9 : 9 < W + (m + 1) - W := Nat.lt_of_not_le (fun q => c3 ((nI_leI (b := 9) (by omega) (by omega)).mpr q))
          show Rx X c0 m_Mod_writeNumber 76 [.ref (c0 + 16), .int (bi bel), .int fr, .int (nI W), .int (nI (W + (m + 1))), fv, kv] [] σ0 τ0 _
          refine Rx.go (fun _ => rfl) ?_
          refine Rx.go (fun _ => rfl) ?_
          refine Rx.go (fun _ => rfl) ?_
          refine Rx.callE rfl rfl rfl rfl (rx_fail X c0 _ _ 6 fr) ?_
          show Rx X c0 m_Mod_writeNumber 83 [.ref (c0 + 16), .int (bi bel), .int fr, .int (nI W), .int (nI (W + (m + 1))), fv, kv] [] (rfail σ0 6 fr) τ0 _
          exact Rx.ret rfl rfl ⟨rfl, W + (m + 1), ⟨by omega, by omega, hz, Or.inr (dg48n c2)⟩, Or.inr ⟨e9, rfl, rfl⟩⟩
      · replace c2 : (nI (ds.getD (W + m) 0)) = 48 := Classical.not_not.mp (of_decide_eq_false c2)
        show Rx X c0 m_Mod_writeNumber 61 [.ref (c0 + 16), .int (bi bel), .int fr, .int (nI W), .int (nI (W + (m + 1))), fv, kv] [] σ0 τ0 _
        refine Rx.go (fun _ => rfl) ?_
        show Rx X c0 m_Mod_writeNumber 64 [.ref (c0 + 16), .int (bi bel), .int fr, .int (nI W), .int ((nI (W + (m + 1))) + (-1)), fv, kv] [] σ0 τ0 _
        refine Rx.go (fun _ => rfl) ?_
        show Rx X c0 m_Mod_writeNumber 41 [.ref (c0 + 16), .int (bi bel), .int fr, .int (nI W), .int ((nI (W + (m + 1))) + (-1)), fv, kv] [] σ0 τ0 _
        rw [show nI (W + (m + 1)) + (-1) = nI (W + m) from pk_m1 (W + m)]
        exact ih (by omega) (fun j h1 h2 => by
          by_cases q : j = W + m
          · rw [q]; exact dg48 hn c2
          · exact hz j (by omega) h2)
set_option maxRecDepth 100000 in
set_option maxHeartbeats 1000000 in
theorem rx_wn_w (X : ev_X) (c0 : Nat) {σ : Nat → Int32} {τ : Nat → Nat → Int32} {ds : List Nat} (hn : nd τ ds) (bel : Bool) (fr : Int32) (h22 : σ 22 = nI ds.length) (hb : σ 23 = -1) : Rx X c0 m_Mod_writeNumber 0 [.ref (c0 + 16), .int (bi bel), .int fr, ev_dead, ev_dead, ev_dead, ev_dead] [] σ τ (fun r σ' τ' => r = none ∧ wnP bel false fr ds ds.length (rbg σ 3) τ σ' τ') := by
  have hn18 := hn.1
  refine Rx.go (fun _ => rfl) ?_
  refine Rx.go (fun _ => rfl) ?_
  refine Rx.get rfl rfl ?_
  refine Rx.top (y := (-1)) hb ?_
  refine Rx.go (fun _ => rfl) ?_
  show Rx X c0 m_Mod_writeNumber 8 [.ref (c0 + 16), .int (bi bel), .int fr, ev_dead, ev_dead, ev_dead, ev_dead] [.ref (c0 + 16)] σ τ _
  refine Rx.go (fun _ => rfl) ?_
  refine Rx.go (fun _ => rfl) ?_
  refine Rx.callE rfl rfl rfl rfl (rx_begin X c0 _ _ 3) ?_
  show Rx X c0 m_Mod_writeNumber 16 [.ref (c0 + 16), .int (bi bel), .int fr, ev_dead, ev_dead, ev_dead, ev_dead] [] (rbg σ 3) τ _
  refine Rx.go (fun _ => rfl) ?_
  refine Rx.get rfl rfl ?_
  refine Rx.top (y := (-1)) hb ?_
  refine Rx.go (fun _ => rfl) ?_
  show Rx X c0 m_Mod_writeNumber 23 [.ref (c0 + 16), .int (bi bel), .int fr, ev_dead, ev_dead, ev_dead, ev_dead] [] (rbg σ 3) τ _
  refine Rx.go (fun _ => rfl) ?_
  refine Rx.get rfl rfl ?_
  refine Rx.top (y := nI ds.length) h22 ?_
  refine Rx.go (fun _ => rfl) ?_
  refine Rx.go (fun _ => rfl) ?_
  show Rx X c0 m_Mod_writeNumber 35 [.ref (c0 + 16), .int (bi bel), .int fr, .int (nI ds.length), ev_dead, ev_dead, ev_dead] [] (rbg σ 3) τ _
  refine Rx.go (fun _ => rfl) ?_
  refine Rx.get rfl rfl ?_
  refine Rx.top (y := nI ds.length) h22 ?_
  refine Rx.go (fun _ => rfl) ?_
  show Rx X c0 m_Mod_writeNumber 41 [.ref (c0 + 16), .int (bi bel), .int fr, .int (nI ds.length), .int (nI ds.length), ev_dead, ev_dead] [] (rbg σ 3) τ _
  show Rx X c0 m_Mod_writeNumber 41 [.ref (c0 + 16), .int (bi bel), .int fr, .int (nI ds.length), .int (nI ds.length), ev_dead, ev_dead] [] (rbg σ 3) τ _
  exact wn_Tw X c0 (σ0 := rbg σ 3) hn bel fr (W := ds.length) _ _ hb (ws_0 rfl) 0 (Nat.le_refl _) (fun j h1 h2 => absurd h2 (by omega))
set_option maxRecDepth 100000 in
set_option maxHeartbeats 1000000 in
theorem rx_wn_d (X : ev_X) (c0 : Nat) {σ : Nat → Int32} {τ : Nat → Nat → Int32} {ds : List Nat} (hn : nd τ ds) (bel : Bool) (fr : Int32) (h22 : σ 22 = nI ds.length) {W : Nat} (hWn : W ≤ ds.length) (hb : σ 23 = nI W) : Rx X c0 m_Mod_writeNumber 0 [.ref (c0 + 16), .int (bi bel), .int fr, ev_dead, ev_dead, ev_dead, ev_dead] [] σ τ (fun r σ' τ' => r = none ∧ wnP bel true fr ds W (rbg σ 4) τ σ' τ') := by
  have hn18 := hn.1
  refine Rx.go (fun _ => rfl) ?_
  refine Rx.go (fun _ => rfl) ?_
  refine Rx.get rfl rfl ?_
  refine Rx.top (y := nI W) hb ?_
  refine Rx.go (fun _ => rfl) ?_
  refine Rx.ite (fun c1 => ?_) (fun c1 => ?_)
  · replace c1 : 0 ≤ (nI W) := of_decide_eq_true c1
    show Rx X c0 m_Mod_writeNumber 12 [.ref (c0 + 16), .int (bi bel), .int fr, ev_dead, ev_dead, ev_dead, ev_dead] [.ref (c0 + 16)] σ τ _
    refine Rx.go (fun _ => rfl) ?_
    refine Rx.callE rfl rfl rfl rfl (rx_begin X c0 _ _ 4) ?_
    show Rx X c0 m_Mod_writeNumber 16 [.ref (c0 + 16), .int (bi bel), .int fr, ev_dead, ev_dead, ev_dead, ev_dead] [] (rbg σ 4) τ _
    refine Rx.go (fun _ => rfl) ?_
    refine Rx.get rfl rfl ?_
    refine Rx.top (y := nI W) hb ?_
    refine Rx.go (fun _ => rfl) ?_
    refine Rx.ite (fun c2 => ?_) (fun c2 => ?_)
    · replace c2 : 0 ≤ (nI W) := of_decide_eq_true c2
      show Rx X c0 m_Mod_writeNumber 30 [.ref (c0 + 16), .int (bi bel), .int fr, ev_dead, ev_dead, ev_dead, ev_dead] [] (rbg σ 4) τ _
      refine Rx.go (fun _ => rfl) ?_
      refine Rx.get rfl rfl ?_
      refine Rx.top (y := nI W) hb ?_
      refine Rx.go (fun _ => rfl) ?_
      show Rx X c0 m_Mod_writeNumber 35 [.ref (c0 + 16), .int (bi bel), .int fr, .int (nI W), ev_dead, ev_dead, ev_dead] [] (rbg σ 4) τ _
      refine Rx.go (fun _ => rfl) ?_
      refine Rx.get rfl rfl ?_
      refine Rx.top (y := nI ds.length) h22 ?_
      refine Rx.go (fun _ => rfl) ?_
      show Rx X c0 m_Mod_writeNumber 41 [.ref (c0 + 16), .int (bi bel), .int fr, .int (nI W), .int (nI ds.length), ev_dead, ev_dead] [] (rbg σ 4) τ _
      show Rx X c0 m_Mod_writeNumber 41 [.ref (c0 + 16), .int (bi bel), .int fr, .int (nI W), .int (nI ds.length), ev_dead, ev_dead] [] (rbg σ 4) τ _
      rw [show nI ds.length = nI (W + (ds.length - W)) by rw [Nat.add_sub_cancel' hWn]]
      exact wn_Td X c0 (σ0 := rbg σ 4) hn bel fr _ _ hb (ws_0 rfl) (ds.length - W) (by omega) (fun j h1 h2 => absurd h2 (by omega))
    · replace c2 : ¬ 0 ≤ (nI W) := of_decide_eq_false c2
      exact absurd c1 c2
  · replace c1 : ¬ 0 ≤ (nI W) := of_decide_eq_false c1
    exact absurd (nI_pos' (by omega)) c1
end
section
/-! number, whole, decimal, type, read, find of the reference on a fresh object. (rows laid by wip/whole/rx13.py) -/
theorem lgc_p {a b : Int64} : 0 < lg_cmp a b ↔ b < a := by
  unfold lg_cmp
  by_cases h : a > b
  · rw [if_pos h]; exact ⟨fun _ => h, fun _ => by decide⟩
  · rw [if_neg h]
    refine ⟨fun q => ?_, fun q => absurd q h⟩
    split at q <;> exact absurd q (by decide)
theorem lgc_ge {a b : Int64} : 0 ≤ lg_cmp a b ↔ b ≤ a := by
  unfold lg_cmp
  by_cases h : a > b
  · rw [if_pos h]; exact ⟨fun _ => Int64.le_of_lt h, fun _ => by decide⟩
  · rw [if_neg h]
    by_cases e : a = b
    · rw [if_pos e]; exact ⟨fun _ => by rw [e]; exact Int64.le_refl _, fun _ => by decide⟩
    · rw [if_neg e]
      refine ⟨fun q => absurd q (by decide), fun q => ?_⟩
      exfalso
      refine e (Int64.toInt_inj.mp ?_)
      rw [Int64.le_iff_toInt_le] at q
      have h' : ¬ b.toInt < a.toInt := fun z => h (Int64.lt_iff_toInt_lt.mpr z)
      omega
theorem lgc_n {a b : Int64} : lg_cmp a b < 0 ↔ a < b := by
  rw [← Int32.not_le, lgc_ge, Int64.not_le]
theorem few_iff {v : Int64} : few v = true ↔ -999999999999999999 ≤ v.toInt ∧ v.toInt ≤ 999999999999999999 := by
  have h1 : (-999999999999999999 : Int64).toInt = -999999999999999999 := by decide
  have h2 : (999999999999999999 : Int64).toInt = 999999999999999999 := by decide
  unfold few
  simp only [Bool.and_eq_true, Bool.not_eq_true', decide_eq_false_iff_not, lgc_n, lgc_p, Int64.lt_iff_toInt_lt, h1, h2]
  omega
theorem few_no {v : Int64} (h : ¬ (-999999999999999999 ≤ v.toInt ∧ v.toInt ≤ 999999999999999999)) : few v = false := by
  cases e : few v
  · rfl
  · exact absurd (few_iff.mp e) h
theorem i64_neg (v : Int64) : (v.toInt = -9223372036854775808 ∧ (-v).toInt = -9223372036854775808) ∨ (v.toInt ≠ -9223372036854775808 ∧ (-v).toInt = -v.toInt) := by
  by_cases h : v.toInt = -9223372036854775808
  · refine Or.inl ⟨h, ?_⟩
    have e : v = Int64.ofInt (-9223372036854775808) := Int64.toInt_inj.mp (by rw [h]; decide)
    rw [e]; decide
  · refine Or.inr ⟨h, ?_⟩
    have h1 := Int64.le_toInt v
    have h2 := Int64.toInt_lt v
    rw [Int64.toInt_neg, Int.bmod_eq_of_le] <;> omega
theorem lN_of {x : Int64} {b : Nat} (h0 : 0 ≤ x.toInt) (h1 : x.toInt < b) : ∃ r : Nat, r < b ∧ x = lN r := by
  have h2 := Int64.toInt_lt x
  refine ⟨x.toInt.toNat, by omega, Int64.toInt_inj.mp ?_⟩
  rw [show (lN x.toInt.toNat).toInt = (x.toInt.toNat : Int) from lg_ofNat_toInt (by omega)]
  omega
section NUM
variable {v : Int64}
theorem num_pos (h : 0 ≤ lg_cmp v 0) (h2 : ¬ 0 < lg_cmp v 999999999999999999) : few v = true ∧ ∃ r : Nat, r < 10 ^ 18 ∧ v = lN r := by
  have e0 : (0 : Int64).toInt = 0 := rfl
  have e1 : (999999999999999999 : Int64).toInt = 999999999999999999 := by decide
  rw [lgc_ge, Int64.le_iff_toInt_le, e0] at h
  rw [lgc_p, Int64.lt_iff_toInt_lt, e1] at h2
  exact ⟨few_iff.mpr ⟨by omega, by omega⟩, lN_of h (by omega)⟩
theorem num_posB (h : 0 ≤ lg_cmp v 0) (h2 : 0 < lg_cmp v 999999999999999999) : few v = false := by
  have e1 : (999999999999999999 : Int64).toInt = 999999999999999999 := by decide
  rw [lgc_p, Int64.lt_iff_toInt_lt, e1] at h2
  exact few_no (by omega)
theorem num_neg (h : ¬ 0 ≤ lg_cmp v 0) (h2 : ¬ 0 < lg_cmp (-v) 999999999999999999) (h3 : 0 ≤ lg_cmp (-v) 0) : few v = true ∧ ∃ r : Nat, r < 10 ^ 18 ∧ -v = lN r := by
  have e0 : (0 : Int64).toInt = 0 := rfl
  have e1 : (999999999999999999 : Int64).toInt = 999999999999999999 := by decide
  rw [lgc_ge, Int64.le_iff_toInt_le, e0] at h h3
  rw [lgc_p, Int64.lt_iff_toInt_lt, e1] at h2
  rcases i64_neg v with ⟨a, b⟩ | ⟨a, b⟩
  · omega
  · exact ⟨few_iff.mpr ⟨by omega, by omega⟩, lN_of h3 (by omega)⟩
theorem num_negB (h : ¬ 0 ≤ lg_cmp v 0) (h2 : 0 < lg_cmp (-v) 999999999999999999) : few v = false := by
  have e0 : (0 : Int64).toInt = 0 := rfl
  have e1 : (999999999999999999 : Int64).toInt = 999999999999999999 := by decide
  rw [lgc_ge, Int64.le_iff_toInt_le, e0] at h
  rw [lgc_p, Int64.lt_iff_toInt_lt, e1] at h2
  refine few_no ?_
  rcases i64_neg v with ⟨a, b⟩ | ⟨a, b⟩ <;> omega
theorem num_negC (h : ¬ 0 ≤ lg_cmp v 0) (h3 : ¬ 0 ≤ lg_cmp (-v) 0) : few v = false := by
  have e0 : (0 : Int64).toInt = 0 := rfl
  rw [lgc_ge, Int64.le_iff_toInt_le, e0] at h h3
  refine few_no ?_
  rcases i64_neg v with ⟨a, b⟩ | ⟨a, b⟩ <;> omega
end NUM
/-- the digits of r, at least m -/
def dgl : Nat → Nat → List Nat
  | 0, _ => []
  | m + 1, r => dgl m (r / 10) ++ [48 + r % 10]
def dgf : Nat → Nat → (Nat → Int32) → Nat → Int32
  | 0, _, f => f
  | m + 1, r, f => dgf m (r / 10) (upd f m (nI (48 + r % 10)))
theorem dgl_len : ∀ m r, (dgl m r).length = m := by
  intro m
  induction m with
  | zero => intro r; rfl
  | succ m ih => intro r; simp [dgl, ih]
theorem dgf_hi : ∀ (m r : Nat) (f : Nat → Int32) (k : Nat), m ≤ k → dgf m r f k = f k := by
  intro m
  induction m with
  | zero => intro r f k _; rfl
  | succ m ih => intro r f k hk; rw [dgf, ih _ _ k (by omega), pk_un (by omega)]
theorem dgf_lo : ∀ (m r : Nat) (f : Nat → Int32) (k : Nat), k < m → dgf m r f k = nI ((dgl m r).getD k 0) := by
  intro m
  induction m with
  | zero => intro r f k hk; exact absurd hk (Nat.not_lt_zero k)
  | succ m ih =>
    intro r f k hk
    rw [dgf, dgl, getD_snoc (by rw [dgl_len]; exact hk), dgl_len]
    by_cases q : k < m
    · rw [if_pos q]; exact ih _ _ k q
    · rw [if_neg q, dgf_hi _ _ _ _ (by omega), show k = m by omega, pk_us]
theorem dgl_lt : ∀ (m r k : Nat), (dgl m r).getD k 0 < 256 := by
  intro m
  induction m with
  | zero => intro r k; simp [dgl]
  | succ m ih =>
    intro r k
    by_cases q : k < (dgl m (r / 10)).length + 1
    · rw [dgl, getD_snoc q]
      split
      · exact ih _ k
      · omega
    · rw [gd0 (by rw [dgl_len] at q ⊢; omega)]; decide
theorem dg_nd (τ : Nat → Nat → Int32) (r : Nat) : nd (va_up τ 21 (dgf 18 r (τ 21))) (dgl 18 r) := ⟨by rw [dgl_len]; decide, fun k hk => by rw [va_up_self]; exact dgf_lo 18 r _ k (by rw [dgl_len] at hk; exact hk), dgl_lt 18 r⟩
theorem dg_v {r : Nat} (hr : r < 2 ^ 63) : (48 + (lN r - lN r / 10 * 10)).toInt32 = nI (48 + r % 10) := by
  rw [show (10 : Int64) = lN 10 from rfl, pk_lRem hr (by decide) (by decide), show (48 : Int64) = lN 48 from rfl, lN_add, lN_i]
set_option maxRecDepth 100000 in
set_option maxHeartbeats 1000000 in
theorem nm_l (X : ev_X) (c0 : Nat) (v : Int64) (sc : Int32) (σ : Nat → Int32) (Q : Option Value → (Nat → Int32) → (Nat → Nat → Int32) → Prop) : ∀ (m r : Nat) (τ : Nat → Nat → Int32) (hr : r < 2 ^ 63) (hm : m ≤ 18) (hk : Rx X c0 m_Mod_number 85 [.ref (c0 + 16), .long v, ev_dead, .int sc, .long (lN (r / 10 ^ m)), ev_dead, .int (-1)] [] σ (va_up τ 21 (dgf m r (τ 21))) Q), Rx X c0 m_Mod_number 48 [.ref (c0 + 16), .long v, ev_dead, .int sc, .long (lN r), ev_dead, .int (nI m - 1)] [] σ τ Q := by
  intro m
  induction m with
  | zero =>
    intro r τ hr hm hk
    rw [Nat.pow_zero, Nat.div_one, show va_up τ 21 (dgf 0 r (τ 21)) = τ from va_et rfl] at hk
    show Rx X c0 m_Mod_number 48 [.ref (c0 + 16), .long v, ev_dead, .int sc, .long (lN r), ev_dead, .int (-1)] [] σ τ Q
    refine Rx.go (fun _ => rfl) ?_
    refine Rx.go (fun _ => rfl) ?_
    show Rx X c0 m_Mod_number 85 [.ref (c0 + 16), .long v, ev_dead, .int sc, .long (lN r), ev_dead, .int (-1)] [] σ τ _
    show Rx X c0 m_Mod_number 85 [.ref (c0 + 16), .long v, ev_dead, .int sc, .long (lN r), ev_dead, .int (-1)] [] σ τ _
    exact hk
  | succ m ih =>
    intro r τ hr hm hk
    rw [nI_pred]
    refine Rx.go (fun _ => rfl) ?_
    refine Rx.go (fun _ => rfl) ?_
    refine Rx.ite (fun c1 => ?_) (fun c1 => ?_)
    · replace c1 : (nI m) < 0 := of_decide_eq_true c1
      exact absurd c1 (nI_pos (by omega))
    · replace c1 : ¬ (nI m) < 0 := of_decide_eq_false c1
      show Rx X c0 m_Mod_number 53 [.ref (c0 + 16), .long v, ev_dead, .int sc, .long (lN r), ev_dead, .int (nI m)] [] σ τ _
      refine Rx.go (fun _ => rfl) ?_
      refine Rx.get rfl rfl ?_
      refine Rx.go (fun _ => rfl) ?_
      refine Rx.go (fun _ => rfl) ?_
      refine Rx.go (fun _ => rfl) ?_
      refine Rx.go (fun _ => rfl) ?_
      refine Rx.go (fun _ => rfl) ?_
      refine Rx.go (fun _ => rfl) ?_
      refine Rx.go (fun _ => rfl) ?_
      refine Rx.top (y := nI (48 + r % 10)) (dg_v hr) ?_
      refine Rx.ast 21 rfl rfl (nI_ix (show m < 40 by omega) (by decide)) ?_
      refine Rx.go (fun _ => rfl) ?_
      refine Rx.go (fun _ => rfl) ?_
      refine Rx.go (fun _ => rfl) ?_
      refine Rx.topL (y := lN (r / 10)) (pk_lDiv (b := 10) hr (by decide) (by decide)) ?_
      refine Rx.go (fun _ => rfl) ?_
      show Rx X c0 m_Mod_number 79 [.ref (c0 + 16), .long v, ev_dead, .int sc, .long (lN (r / 10)), ev_dead, .int (nI m)] [] σ (va_up τ 21 (upd (τ 21) (nI m).toNatClampNeg (nI (48 + r % 10)))) _
      refine Rx.go (fun _ => rfl) ?_
      show Rx X c0 m_Mod_number 82 [.ref (c0 + 16), .long v, ev_dead, .int sc, .long (lN (r / 10)), ev_dead, .int ((nI m) + (-1))] [] σ (va_up τ 21 (upd (τ 21) (nI m).toNatClampNeg (nI (48 + r % 10)))) _
      refine Rx.go (fun _ => rfl) ?_
      show Rx X c0 m_Mod_number 48 [.ref (c0 + 16), .long v, ev_dead, .int sc, .long (lN (r / 10)), ev_dead, .int ((nI m) + (-1))] [] σ (va_up τ 21 (upd (τ 21) (nI m).toNatClampNeg (nI (48 + r % 10)))) _
      rw [show nI m + (-1) = nI m - 1 from (Int32.sub_eq_add_neg _ _).symm]
      refine ih (r / 10) _ (by omega) (by omega) ?_
      rw [va_uu, va_up_self, nI_clamp (by omega), Nat.div_div_eq_div_mul, show 10 * 10 ^ m = 10 ^ (m + 1) from (Nat.pow_succ').symm]
      exact hk
set_option maxRecDepth 100000 in
set_option maxHeartbeats 1000000 in
theorem nm_tw (X : ev_X) (c0 : Nat) (v rs : Int64) {σ : Nat → Int32} {τ : Nat → Nat → Int32} {ds : List Nat} (hn : nd τ ds) (h18 : ds.length = 18) (h22 : σ 22 = nI 18) (hR : rt σ τ []) (h8 : σ 8 = 0) : Rx X c0 m_Mod_number 85 [.ref (c0 + 16), .long v, ev_dead, .int (-1), .long rs, ev_dead, .int (-1)] [] σ τ (fun r _ _ => r = some (.int 1)) := by
  refine Rx.go (fun _ => rfl) ?_
  refine Rx.go (fun _ => rfl) ?_
  refine Rx.go (fun _ => rfl) ?_
  show Rx X c0 m_Mod_number 90 [.ref (c0 + 16), .long v, ev_dead, .int (-1), .long rs, ev_dead, .int (-1)] [.ref (c0 + 16)] σ τ _
  refine Rx.go (fun _ => rfl) ?_
  refine Rx.go (fun _ => rfl) ?_
  refine Rx.put rfl (by decide) rfl rfl ?_
  refine Rx.go (fun _ => rfl) ?_
  refine Rx.go (fun _ => rfl) ?_
  refine Rx.put rfl (by decide) rfl rfl ?_
  refine Rx.go (fun _ => rfl) ?_
  refine Rx.go (fun _ => rfl) ?_
  refine Rx.go (fun _ => rfl) ?_
  refine Rx.go (fun _ => rfl) ?_
  refine Rx.go (fun _ => rfl) ?_
  refine Rx.ite (fun c1 => ?_) (fun c1 => ?_)
  · replace c1 : 0 ≤ (lg_cmp v 0) := of_decide_eq_true c1
    show Rx X c0 m_Mod_number 117 [.ref (c0 + 16), .long v, ev_dead, .int (-1), .long rs, ev_dead, .int (-1)] [.ref (c0 + 16)] (upd (upd σ 23 (-1)) 18 0) τ _
    refine Rx.go (fun _ => rfl) ?_
    refine Rx.go (fun _ => rfl) ?_
    refine Rx.callP rfl rfl rfl rfl (rx_wn_w X c0 hn false 0 (by rw [h18]; exact h22) rfl) ?_
    intro σ1 τ1 hp1
    obtain ⟨L, ht, hq⟩ := hp1
    obtain ⟨htl1, htl2, -⟩ := ht
    rcases hq with ⟨e9, g, hg, hWS⟩ | ⟨e9, -, -⟩
    rotate_left
    · exfalso; omega
    show Rx X c0 m_Mod_number 122 [.ref (c0 + 16), .long v, ev_dead, .int (-1), .long rs, ev_dead, .int (-1)] [] σ1 τ1 _
    refine Rx.go (fun _ => rfl) ?_
    have hw := hWS.1
    have hv := hWS.2.1
    refine Rx.call rfl rfl rfl rfl (rx_makeDraft X c0 σ1 τ1 (ts := []) (rt_same hR (hw 7 (by decide)) (hv 3 (by decide)) (hv 4 (by decide)) (hv 5 (by decide)) (hv 6 (by decide))) hWS.2.2 (dk := 3) (hw 11 (by decide)) (by decide) (q := 0) (hw 12 (by decide)) (by decide) (u := 0) ((hw 8 (by decide)).trans h8) (by decide) (db := 0) (hw 13 (by decide)) (by decide) (by have := hWS.2.2.2.1; show 0 + _ ≤ 132000; omega)) ?_
    rintro z σ2 τ2 (⟨j, hj0, hj, -⟩ | ⟨-, hh, -⟩ | ⟨-, -, -, rfl, -⟩)
    · exact absurd hj0 (by have := hj; unfold fdP at this; simp at this; omega)
    · exfalso; rcases hh with hh | hh
      · exact absurd hh (by decide)
      · omega
    · exact Rx.ret rfl (ev_reti rfl) rfl
  · replace c1 : ¬ 0 ≤ (lg_cmp v 0) := of_decide_eq_false c1
    show Rx X c0 m_Mod_number 113 [.ref (c0 + 16), .long v, ev_dead, .int (-1), .long rs, ev_dead, .int (-1)] [.ref (c0 + 16)] (upd (upd σ 23 (-1)) 18 0) τ _
    refine Rx.go (fun _ => rfl) ?_
    refine Rx.go (fun _ => rfl) ?_
    refine Rx.go (fun _ => rfl) ?_
    refine Rx.callP rfl rfl rfl rfl (rx_wn_w X c0 hn true 0 (by rw [h18]; exact h22) rfl) ?_
    intro σ1 τ1 hp1
    obtain ⟨L, ht, hq⟩ := hp1
    obtain ⟨htl1, htl2, -⟩ := ht
    rcases hq with ⟨e9, g, hg, hWS⟩ | ⟨e9, -, -⟩
    rotate_left
    · exfalso; omega
    show Rx X c0 m_Mod_number 122 [.ref (c0 + 16), .long v, ev_dead, .int (-1), .long rs, ev_dead, .int (-1)] [] σ1 τ1 _
    refine Rx.go (fun _ => rfl) ?_
    have hw := hWS.1
    have hv := hWS.2.1
    refine Rx.call rfl rfl rfl rfl (rx_makeDraft X c0 σ1 τ1 (ts := []) (rt_same hR (hw 7 (by decide)) (hv 3 (by decide)) (hv 4 (by decide)) (hv 5 (by decide)) (hv 6 (by decide))) hWS.2.2 (dk := 3) (hw 11 (by decide)) (by decide) (q := 0) (hw 12 (by decide)) (by decide) (u := 0) ((hw 8 (by decide)).trans h8) (by decide) (db := 0) (hw 13 (by decide)) (by decide) (by have := hWS.2.2.2.1; show 0 + _ ≤ 132000; omega)) ?_
    rintro z σ2 τ2 (⟨j, hj0, hj, -⟩ | ⟨-, hh, -⟩ | ⟨-, -, -, rfl, -⟩)
    · exact absurd hj0 (by have := hj; unfold fdP at this; simp at this; omega)
    · exfalso; rcases hh with hh | hh
      · exact absurd hh (by decide)
      · omega
    · exact Rx.ret rfl (ev_reti rfl) rfl
theorem nm_l' {rs : Int64} {r : Nat} (e : rs = lN r) (X : ev_X) (c0 : Nat) (v : Int64) (sc : Int32) (σ : Nat → Int32) (Q : Option Value → (Nat → Int32) → (Nat → Nat → Int32) → Prop) (m : Nat) (τ : Nat → Nat → Int32) (hr : r < 2 ^ 63) (hm : m ≤ 18) (hk : Rx X c0 m_Mod_number 85 [.ref (c0 + 16), .long v, ev_dead, .int sc, .long (lN (r / 10 ^ m)), ev_dead, .int (-1)] [] σ (va_up τ 21 (dgf m r (τ 21))) Q) : Rx X c0 m_Mod_number 48 [.ref (c0 + 16), .long v, ev_dead, .int sc, .long rs, ev_dead, .int (nI m - 1)] [] σ τ Q := by
  rw [e]; exact nm_l X c0 v sc σ Q m r τ hr hm hk
set_option maxRecDepth 100000 in
set_option maxHeartbeats 1000000 in
theorem rx_number0_w (X : ev_X) (c0 : Nat) (v : Int64) {σ : Nat → Int32} {τ : Nat → Nat → Int32} (hR : rt σ τ []) (h8 : σ 8 = 0) : Rx X c0 m_Mod_number 0 [.ref (c0 + 16), .long v, ev_dead, .int (-1), ev_dead, ev_dead, ev_dead] [] σ τ (fun r _ _ => r = some (.int (if few v = true then 1 else -1))) := by
  refine Rx.go (fun _ => rfl) ?_
  refine Rx.go (fun _ => rfl) ?_
  refine Rx.go (fun _ => rfl) ?_
  refine Rx.go (fun _ => rfl) ?_
  refine Rx.ite (fun c1 => ?_) (fun c1 => ?_)
  · replace c1 : 0 ≤ (lg_cmp v 0) := of_decide_eq_true c1
    show Rx X c0 m_Mod_number 11 [.ref (c0 + 16), .long v, ev_dead, .int (-1), ev_dead, ev_dead, ev_dead] [] σ τ _
    refine Rx.go (fun _ => rfl) ?_
    refine Rx.go (fun _ => rfl) ?_
    show Rx X c0 m_Mod_number 14 [.ref (c0 + 16), .long v, ev_dead, .int (-1), .long v, ev_dead, ev_dead] [] σ τ _
    refine Rx.go (fun _ => rfl) ?_
    refine Rx.go (fun _ => rfl) ?_
    refine Rx.go (fun _ => rfl) ?_
    refine Rx.go (fun _ => rfl) ?_
    refine Rx.ite (fun c2 => ?_) (fun c2 => ?_)
    · replace c2 : 0 < (lg_cmp v 999999999999999999) := of_decide_eq_true c2
      show Rx X c0 m_Mod_number 36 [.ref (c0 + 16), .long v, ev_dead, .int (-1), .long v, ev_dead, ev_dead] [] σ τ _
      refine Rx.go (fun _ => rfl) ?_
      show Rx X c0 m_Mod_number 37 [.ref (c0 + 16), .long v, ev_dead, .int (-1), .long v, ev_dead, ev_dead] [.int (-1)] σ τ _
      exact Rx.ret rfl (ev_reti rfl) (by rw [num_posB c1 c2]; rfl)
    · replace c2 : ¬ 0 < (lg_cmp v 999999999999999999) := of_decide_eq_false c2
      show Rx X c0 m_Mod_number 23 [.ref (c0 + 16), .long v, ev_dead, .int (-1), .long v, ev_dead, ev_dead] [] σ τ _
      refine Rx.go (fun _ => rfl) ?_
      refine Rx.go (fun _ => rfl) ?_
      refine Rx.go (fun _ => rfl) ?_
      refine Rx.go (fun _ => rfl) ?_
      refine Rx.ite (fun c3 => ?_) (fun c3 => ?_)
      · replace c3 : 0 ≤ (lg_cmp v 0) := of_decide_eq_true c3
        show Rx X c0 m_Mod_number 38 [.ref (c0 + 16), .long v, ev_dead, .int (-1), .long v, ev_dead, ev_dead] [] σ τ _
        refine Rx.go (fun _ => rfl) ?_
        refine Rx.go (fun _ => rfl) ?_
        refine Rx.put rfl (by decide) rfl rfl ?_
        refine Rx.go (fun _ => rfl) ?_
        refine Rx.go (fun _ => rfl) ?_
        show Rx X c0 m_Mod_number 48 [.ref (c0 + 16), .long v, ev_dead, .int (-1), .long v, ev_dead, .int 17] [] (upd σ 22 18) τ _
        show Rx X c0 m_Mod_number 48 [.ref (c0 + 16), .long v, ev_dead, .int (-1), .long v, ev_dead, .int 17] [] (upd σ 22 18) τ _
        obtain ⟨hf, r, hr, e⟩ := num_pos c1 c2
        rw [if_pos hf]
        refine nm_l' e X c0 v (-1) _ _ 18 τ (by omega) (by decide) ?_
        exact nm_tw X c0 v _ (dg_nd τ r) (dgl_len 18 r) rfl (rt_same hR rfl rfl rfl rfl rfl) h8
      · replace c3 : ¬ 0 ≤ (lg_cmp v 0) := of_decide_eq_false c3
        exact absurd c1 c3
  · replace c1 : ¬ 0 ≤ (lg_cmp v 0) := of_decide_eq_false c1
    show Rx X c0 m_Mod_number 6 [.ref (c0 + 16), .long v, ev_dead, .int (-1), ev_dead, ev_dead, ev_dead] [] σ τ _
    refine Rx.go (fun _ => rfl) ?_
    refine Rx.go (fun _ => rfl) ?_
    refine Rx.go (fun _ => rfl) ?_
    refine Rx.go (fun _ => rfl) ?_
    show Rx X c0 m_Mod_number 14 [.ref (c0 + 16), .long v, ev_dead, .int (-1), .long (-v), ev_dead, ev_dead] [] σ τ _
    refine Rx.go (fun _ => rfl) ?_
    refine Rx.go (fun _ => rfl) ?_
    refine Rx.go (fun _ => rfl) ?_
    refine Rx.go (fun _ => rfl) ?_
    refine Rx.ite (fun c4 => ?_) (fun c4 => ?_)
    · replace c4 : 0 < (lg_cmp (-v) 999999999999999999) := of_decide_eq_true c4
      show Rx X c0 m_Mod_number 36 [.ref (c0 + 16), .long v, ev_dead, .int (-1), .long (-v), ev_dead, ev_dead] [] σ τ _
      refine Rx.go (fun _ => rfl) ?_
      show Rx X c0 m_Mod_number 37 [.ref (c0 + 16), .long v, ev_dead, .int (-1), .long (-v), ev_dead, ev_dead] [.int (-1)] σ τ _
      exact Rx.ret rfl (ev_reti rfl) (by rw [num_negB c1 c4]; rfl)
    · replace c4 : ¬ 0 < (lg_cmp (-v) 999999999999999999) := of_decide_eq_false c4
      show Rx X c0 m_Mod_number 23 [.ref (c0 + 16), .long v, ev_dead, .int (-1), .long (-v), ev_dead, ev_dead] [] σ τ _
      refine Rx.go (fun _ => rfl) ?_
      refine Rx.go (fun _ => rfl) ?_
      refine Rx.go (fun _ => rfl) ?_
      refine Rx.go (fun _ => rfl) ?_
      refine Rx.ite (fun c5 => ?_) (fun c5 => ?_)
      · replace c5 : 0 ≤ (lg_cmp v 0) := of_decide_eq_true c5
        exact absurd c5 c1
      · replace c5 : ¬ 0 ≤ (lg_cmp v 0) := of_decide_eq_false c5
        show Rx X c0 m_Mod_number 29 [.ref (c0 + 16), .long v, ev_dead, .int (-1), .long (-v), ev_dead, ev_dead] [] σ τ _
        refine Rx.go (fun _ => rfl) ?_
        refine Rx.go (fun _ => rfl) ?_
        refine Rx.go (fun _ => rfl) ?_
        refine Rx.go (fun _ => rfl) ?_
        refine Rx.ite (fun c6 => ?_) (fun c6 => ?_)
        · replace c6 : 0 ≤ (lg_cmp (-v) 0) := of_decide_eq_true c6
          show Rx X c0 m_Mod_number 38 [.ref (c0 + 16), .long v, ev_dead, .int (-1), .long (-v), ev_dead, ev_dead] [] σ τ _
          refine Rx.go (fun _ => rfl) ?_
          refine Rx.go (fun _ => rfl) ?_
          refine Rx.put rfl (by decide) rfl rfl ?_
          refine Rx.go (fun _ => rfl) ?_
          refine Rx.go (fun _ => rfl) ?_
          show Rx X c0 m_Mod_number 48 [.ref (c0 + 16), .long v, ev_dead, .int (-1), .long (-v), ev_dead, .int 17] [] (upd σ 22 18) τ _
          show Rx X c0 m_Mod_number 48 [.ref (c0 + 16), .long v, ev_dead, .int (-1), .long (-v), ev_dead, .int 17] [] (upd σ 22 18) τ _
          obtain ⟨hf, r, hr, e⟩ := num_neg c1 c4 c6
          rw [if_pos hf]
          refine nm_l' e X c0 v (-1) _ _ 18 τ (by omega) (by decide) ?_
          exact nm_tw X c0 v _ (dg_nd τ r) (dgl_len 18 r) rfl (rt_same hR rfl rfl rfl rfl rfl) h8
        · replace c6 : ¬ 0 ≤ (lg_cmp (-v) 0) := of_decide_eq_false c6
          show Rx X c0 m_Mod_number 36 [.ref (c0 + 16), .long v, ev_dead, .int (-1), .long (-v), ev_dead, ev_dead] [] σ τ _
          refine Rx.go (fun _ => rfl) ?_
          show Rx X c0 m_Mod_number 37 [.ref (c0 + 16), .long v, ev_dead, .int (-1), .long (-v), ev_dead, ev_dead] [.int (-1)] σ τ _
          exact Rx.ret rfl (ev_reti rfl) (by rw [num_negC c1 c6]; rfl)
set_option maxRecDepth 100000 in
set_option maxHeartbeats 1000000 in
theorem nm_td (X : ev_X) (c0 : Nat) (v rs : Int64) {p : Nat} (hp9 : p ≤ 9) {σ : Nat → Int32} {τ : Nat → Nat → Int32} {ds : List Nat} (hn : nd τ ds) (h18 : ds.length = 18) (h22 : σ 22 = nI 18) (hR : rt σ τ []) (h8 : σ 8 = 0) : Rx X c0 m_Mod_number 85 [.ref (c0 + 16), .long v, ev_dead, .int (nI p), .long rs, ev_dead, .int (-1)] [] σ τ (fun r _ _ => r = some (.int 1)) := by
  refine Rx.go (fun _ => rfl) ?_
  refine Rx.go (fun _ => rfl) ?_
  refine Rx.go (fun _ => rfl) ?_
  refine Rx.ite (fun c1 => ?_) (fun c1 => ?_)
  · replace c1 : 0 ≤ (nI p) := of_decide_eq_true c1
    show Rx X c0 m_Mod_number 94 [.ref (c0 + 16), .long v, ev_dead, .int (nI p), .long rs, ev_dead, .int (-1)] [.ref (c0 + 16)] σ τ _
    refine Rx.go (fun _ => rfl) ?_
    refine Rx.go (fun _ => rfl) ?_
    refine Rx.go (fun _ => rfl) ?_
    refine Rx.top (y := nI (18 - p)) (pk_sub (a := 18) (by omega)) ?_
    refine Rx.put rfl (by decide) rfl rfl ?_
    refine Rx.go (fun _ => rfl) ?_
    refine Rx.go (fun _ => rfl) ?_
    refine Rx.put rfl (by decide) rfl rfl ?_
    refine Rx.go (fun _ => rfl) ?_
    refine Rx.go (fun _ => rfl) ?_
    refine Rx.go (fun _ => rfl) ?_
    refine Rx.go (fun _ => rfl) ?_
    refine Rx.go (fun _ => rfl) ?_
    refine Rx.ite (fun c2 => ?_) (fun c2 => ?_)
    · replace c2 : 0 ≤ (lg_cmp v 0) := of_decide_eq_true c2
      show Rx X c0 m_Mod_number 117 [.ref (c0 + 16), .long v, ev_dead, .int (nI p), .long rs, ev_dead, .int (-1)] [.ref (c0 + 16)] (upd (upd σ 23 (nI (18 - p))) 18 0) τ _
      refine Rx.go (fun _ => rfl) ?_
      refine Rx.go (fun _ => rfl) ?_
      refine Rx.callP rfl rfl rfl rfl (rx_wn_d X c0 hn false 0 (by rw [h18]; exact h22) (W := 18 - p) (by omega) rfl) ?_
      intro σ1 τ1 hp1
      obtain ⟨L, ht, hq⟩ := hp1
      obtain ⟨htl1, htl2, -⟩ := ht
      rcases hq with ⟨e9, g, hg, hWS⟩ | ⟨e9, -, -⟩
      rotate_left
      · exfalso; omega
      show Rx X c0 m_Mod_number 122 [.ref (c0 + 16), .long v, ev_dead, .int (nI p), .long rs, ev_dead, .int (-1)] [] σ1 τ1 _
      refine Rx.go (fun _ => rfl) ?_
      have hw := hWS.1
      have hv := hWS.2.1
      refine Rx.call rfl rfl rfl rfl (rx_makeDraft X c0 σ1 τ1 (ts := []) (rt_same hR (hw 7 (by decide)) (hv 3 (by decide)) (hv 4 (by decide)) (hv 5 (by decide)) (hv 6 (by decide))) hWS.2.2 (dk := 4) (hw 11 (by decide)) (by decide) (q := 0) (hw 12 (by decide)) (by decide) (u := 0) ((hw 8 (by decide)).trans h8) (by decide) (db := 0) (hw 13 (by decide)) (by decide) (by have := hWS.2.2.2.1; show 0 + _ ≤ 132000; omega)) ?_
      rintro z σ2 τ2 (⟨j, hj0, hj, -⟩ | ⟨-, hh, -⟩ | ⟨-, -, -, rfl, -⟩)
      · exact absurd hj0 (by have := hj; unfold fdP at this; simp at this; omega)
      · exfalso; rcases hh with hh | hh
        · exact absurd hh (by decide)
        · omega
      · exact Rx.ret rfl (ev_reti rfl) rfl
    · replace c2 : ¬ 0 ≤ (lg_cmp v 0) := of_decide_eq_false c2
      show Rx X c0 m_Mod_number 113 [.ref (c0 + 16), .long v, ev_dead, .int (nI p), .long rs, ev_dead, .int (-1)] [.ref (c0 + 16)] (upd (upd σ 23 (nI (18 - p))) 18 0) τ _
      refine Rx.go (fun _ => rfl) ?_
      refine Rx.go (fun _ => rfl) ?_
      refine Rx.go (fun _ => rfl) ?_
      refine Rx.callP rfl rfl rfl rfl (rx_wn_d X c0 hn true 0 (by rw [h18]; exact h22) (W := 18 - p) (by omega) rfl) ?_
      intro σ1 τ1 hp1
      obtain ⟨L, ht, hq⟩ := hp1
      obtain ⟨htl1, htl2, -⟩ := ht
      rcases hq with ⟨e9, g, hg, hWS⟩ | ⟨e9, -, -⟩
      rotate_left
      · exfalso; omega
      show Rx X c0 m_Mod_number 122 [.ref (c0 + 16), .long v, ev_dead, .int (nI p), .long rs, ev_dead, .int (-1)] [] σ1 τ1 _
      refine Rx.go (fun _ => rfl) ?_
      have hw := hWS.1
      have hv := hWS.2.1
      refine Rx.call rfl rfl rfl rfl (rx_makeDraft X c0 σ1 τ1 (ts := []) (rt_same hR (hw 7 (by decide)) (hv 3 (by decide)) (hv 4 (by decide)) (hv 5 (by decide)) (hv 6 (by decide))) hWS.2.2 (dk := 4) (hw 11 (by decide)) (by decide) (q := 0) (hw 12 (by decide)) (by decide) (u := 0) ((hw 8 (by decide)).trans h8) (by decide) (db := 0) (hw 13 (by decide)) (by decide) (by have := hWS.2.2.2.1; show 0 + _ ≤ 132000; omega)) ?_
      rintro z σ2 τ2 (⟨j, hj0, hj, -⟩ | ⟨-, hh, -⟩ | ⟨-, -, -, rfl, -⟩)
      · exact absurd hj0 (by have := hj; unfold fdP at this; simp at this; omega)
      · exfalso; rcases hh with hh | hh
        · exact absurd hh (by decide)
        · omega
      · exact Rx.ret rfl (ev_reti rfl) rfl
  · replace c1 : ¬ 0 ≤ (nI p) := of_decide_eq_false c1
    exact absurd (nI_pos' (by omega)) c1
set_option maxRecDepth 100000 in
set_option maxHeartbeats 1000000 in
theorem rx_number0_d (X : ev_X) (c0 : Nat) (v : Int64) {p : Nat} (hp9 : p ≤ 9) {σ : Nat → Int32} {τ : Nat → Nat → Int32} (hR : rt σ τ []) (h8 : σ 8 = 0) : Rx X c0 m_Mod_number 0 [.ref (c0 + 16), .long v, ev_dead, .int (nI p), ev_dead, ev_dead, ev_dead] [] σ τ (fun r _ _ => r = some (.int (if few v = true then 1 else -1))) := by
  refine Rx.go (fun _ => rfl) ?_
  refine Rx.go (fun _ => rfl) ?_
  refine Rx.go (fun _ => rfl) ?_
  refine Rx.go (fun _ => rfl) ?_
  refine Rx.ite (fun c1 => ?_) (fun c1 => ?_)
  · replace c1 : 0 ≤ (lg_cmp v 0) := of_decide_eq_true c1
    show Rx X c0 m_Mod_number 11 [.ref (c0 + 16), .long v, ev_dead, .int (nI p), ev_dead, ev_dead, ev_dead] [] σ τ _
    refine Rx.go (fun _ => rfl) ?_
    refine Rx.go (fun _ => rfl) ?_
    show Rx X c0 m_Mod_number 14 [.ref (c0 + 16), .long v, ev_dead, .int (nI p), .long v, ev_dead, ev_dead] [] σ τ _
    refine Rx.go (fun _ => rfl) ?_
    refine Rx.go (fun _ => rfl) ?_
    refine Rx.go (fun _ => rfl) ?_
    refine Rx.go (fun _ => rfl) ?_
    refine Rx.ite (fun c2 => ?_) (fun c2 => ?_)
    · replace c2 : 0 < (lg_cmp v 999999999999999999) := of_decide_eq_true c2
      show Rx X c0 m_Mod_number 36 [.ref (c0 + 16), .long v, ev_dead, .int (nI p), .long v, ev_dead, ev_dead] [] σ τ _
      refine Rx.go (fun _ => rfl) ?_
      show Rx X c0 m_Mod_number 37 [.ref (c0 + 16), .long v, ev_dead, .int (nI p), .long v, ev_dead, ev_dead] [.int (-1)] σ τ _
      exact Rx.ret rfl (ev_reti rfl) (by rw [num_posB c1 c2]; rfl)
    · replace c2 : ¬ 0 < (lg_cmp v 999999999999999999) := of_decide_eq_false c2
      show Rx X c0 m_Mod_number 23 [.ref (c0 + 16), .long v, ev_dead, .int (nI p), .long v, ev_dead, ev_dead] [] σ τ _
      refine Rx.go (fun _ => rfl) ?_
      refine Rx.go (fun _ => rfl) ?_
      refine Rx.go (fun _ => rfl) ?_
      refine Rx.go (fun _ => rfl) ?_
      refine Rx.ite (fun c3 => ?_) (fun c3 => ?_)
      · replace c3 : 0 ≤ (lg_cmp v 0) := of_decide_eq_true c3
        show Rx X c0 m_Mod_number 38 [.ref (c0 + 16), .long v, ev_dead, .int (nI p), .long v, ev_dead, ev_dead] [] σ τ _
        refine Rx.go (fun _ => rfl) ?_
        refine Rx.go (fun _ => rfl) ?_
        refine Rx.put rfl (by decide) rfl rfl ?_
        refine Rx.go (fun _ => rfl) ?_
        refine Rx.go (fun _ => rfl) ?_
        show Rx X c0 m_Mod_number 48 [.ref (c0 + 16), .long v, ev_dead, .int (nI p), .long v, ev_dead, .int 17] [] (upd σ 22 18) τ _
        show Rx X c0 m_Mod_number 48 [.ref (c0 + 16), .long v, ev_dead, .int (nI p), .long v, ev_dead, .int 17] [] (upd σ 22 18) τ _
        obtain ⟨hf, r, hr, e⟩ := num_pos c1 c2
        rw [if_pos hf]
        refine nm_l' e X c0 v (nI p) _ _ 18 τ (by omega) (by decide) ?_
        exact nm_td X c0 v _ hp9 (dg_nd τ r) (dgl_len 18 r) rfl (rt_same hR rfl rfl rfl rfl rfl) h8
      · replace c3 : ¬ 0 ≤ (lg_cmp v 0) := of_decide_eq_false c3
        exact absurd c1 c3
  · replace c1 : ¬ 0 ≤ (lg_cmp v 0) := of_decide_eq_false c1
    show Rx X c0 m_Mod_number 6 [.ref (c0 + 16), .long v, ev_dead, .int (nI p), ev_dead, ev_dead, ev_dead] [] σ τ _
    refine Rx.go (fun _ => rfl) ?_
    refine Rx.go (fun _ => rfl) ?_
    refine Rx.go (fun _ => rfl) ?_
    refine Rx.go (fun _ => rfl) ?_
    show Rx X c0 m_Mod_number 14 [.ref (c0 + 16), .long v, ev_dead, .int (nI p), .long (-v), ev_dead, ev_dead] [] σ τ _
    refine Rx.go (fun _ => rfl) ?_
    refine Rx.go (fun _ => rfl) ?_
    refine Rx.go (fun _ => rfl) ?_
    refine Rx.go (fun _ => rfl) ?_
    refine Rx.ite (fun c4 => ?_) (fun c4 => ?_)
    · replace c4 : 0 < (lg_cmp (-v) 999999999999999999) := of_decide_eq_true c4
      show Rx X c0 m_Mod_number 36 [.ref (c0 + 16), .long v, ev_dead, .int (nI p), .long (-v), ev_dead, ev_dead] [] σ τ _
      refine Rx.go (fun _ => rfl) ?_
      show Rx X c0 m_Mod_number 37 [.ref (c0 + 16), .long v, ev_dead, .int (nI p), .long (-v), ev_dead, ev_dead] [.int (-1)] σ τ _
      exact Rx.ret rfl (ev_reti rfl) (by rw [num_negB c1 c4]; rfl)
    · replace c4 : ¬ 0 < (lg_cmp (-v) 999999999999999999) := of_decide_eq_false c4
      show Rx X c0 m_Mod_number 23 [.ref (c0 + 16), .long v, ev_dead, .int (nI p), .long (-v), ev_dead, ev_dead] [] σ τ _
      refine Rx.go (fun _ => rfl) ?_
      refine Rx.go (fun _ => rfl) ?_
      refine Rx.go (fun _ => rfl) ?_
      refine Rx.go (fun _ => rfl) ?_
      refine Rx.ite (fun c5 => ?_) (fun c5 => ?_)
      · replace c5 : 0 ≤ (lg_cmp v 0) := of_decide_eq_true c5
        exact absurd c5 c1
      · replace c5 : ¬ 0 ≤ (lg_cmp v 0) := of_decide_eq_false c5
        show Rx X c0 m_Mod_number 29 [.ref (c0 + 16), .long v, ev_dead, .int (nI p), .long (-v), ev_dead, ev_dead] [] σ τ _
        refine Rx.go (fun _ => rfl) ?_
        refine Rx.go (fun _ => rfl) ?_
        refine Rx.go (fun _ => rfl) ?_
        refine Rx.go (fun _ => rfl) ?_
        refine Rx.ite (fun c6 => ?_) (fun c6 => ?_)
        · replace c6 : 0 ≤ (lg_cmp (-v) 0) := of_decide_eq_true c6
          show Rx X c0 m_Mod_number 38 [.ref (c0 + 16), .long v, ev_dead, .int (nI p), .long (-v), ev_dead, ev_dead] [] σ τ _
          refine Rx.go (fun _ => rfl) ?_
          refine Rx.go (fun _ => rfl) ?_
          refine Rx.put rfl (by decide) rfl rfl ?_
          refine Rx.go (fun _ => rfl) ?_
          refine Rx.go (fun _ => rfl) ?_
          show Rx X c0 m_Mod_number 48 [.ref (c0 + 16), .long v, ev_dead, .int (nI p), .long (-v), ev_dead, .int 17] [] (upd σ 22 18) τ _
          show Rx X c0 m_Mod_number 48 [.ref (c0 + 16), .long v, ev_dead, .int (nI p), .long (-v), ev_dead, .int 17] [] (upd σ 22 18) τ _
          obtain ⟨hf, r, hr, e⟩ := num_neg c1 c4 c6
          rw [if_pos hf]
          refine nm_l' e X c0 v (nI p) _ _ 18 τ (by omega) (by decide) ?_
          exact nm_td X c0 v _ hp9 (dg_nd τ r) (dgl_len 18 r) rfl (rt_same hR rfl rfl rfl rfl rfl) h8
        · replace c6 : ¬ 0 ≤ (lg_cmp (-v) 0) := of_decide_eq_false c6
          show Rx X c0 m_Mod_number 36 [.ref (c0 + 16), .long v, ev_dead, .int (nI p), .long (-v), ev_dead, ev_dead] [] σ τ _
          refine Rx.go (fun _ => rfl) ?_
          show Rx X c0 m_Mod_number 37 [.ref (c0 + 16), .long v, ev_dead, .int (nI p), .long (-v), ev_dead, ev_dead] [.int (-1)] σ τ _
          exact Rx.ret rfl (ev_reti rfl) (by rw [num_negC c1 c6]; rfl)
set_option maxRecDepth 100000 in
set_option maxHeartbeats 1000000 in
theorem rx_whole0 (X : ev_X) (c0 : Nat) (v : Int64) {σ : Nat → Int32} {τ : Nat → Nat → Int32} (hR : rt σ τ []) (h8 : σ 8 = 0) : Rx X c0 m_Mod_whole 0 [.ref (c0 + 16), .long v, ev_dead] [] σ τ (fun r _ _ => r = some (.int (if few v = true then 1 else -1))) := by
  refine Rx.go (fun _ => rfl) ?_
  refine Rx.go (fun _ => rfl) ?_
  refine Rx.go (fun _ => rfl) ?_
  refine Rx.call rfl rfl rfl rfl (rx_number0_w X c0 v hR h8) ?_
  rintro z σ2 τ2 rfl
  exact Rx.ret rfl (ev_reti rfl) rfl
set_option maxRecDepth 100000 in
set_option maxHeartbeats 1000000 in
theorem rx_decimal0 (X : ev_X) (c0 : Nat) (v : Int64) (u : Int32) {σ : Nat → Int32} {τ : Nat → Nat → Int32} (hR : rt σ τ []) (h8 : σ 8 = 0) : Rx X c0 m_Mod_decimal 0 [.ref (c0 + 16), .long v, ev_dead, .int u] [] σ τ (fun r _ _ => r = some (.int (if u < 0 then -1 else if 9 < u then -1 else if few v = true then 1 else -1))) := by
  refine Rx.go (fun _ => rfl) ?_
  refine Rx.go (fun _ => rfl) ?_
  refine Rx.ite (fun c1 => ?_) (fun c1 => ?_)
  · replace c1 : u < 0 := of_decide_eq_true c1
    show Rx X c0 m_Mod_decimal 10 [.ref (c0 + 16), .long v, ev_dead, .int u] [] σ τ _
    refine Rx.go (fun _ => rfl) ?_
    refine Rx.go (fun _ => rfl) ?_
    show Rx X c0 m_Mod_decimal 20 [.ref (c0 + 16), .long v, ev_dead, .int u] [.int (-1)] σ τ _
    exact Rx.ret rfl (ev_reti rfl) (by rw [if_pos c1] <;> rfl)
  · replace c1 : ¬ u < 0 := of_decide_eq_false c1
    show Rx X c0 m_Mod_decimal 4 [.ref (c0 + 16), .long v, ev_dead, .int u] [] σ τ _
    refine Rx.go (fun _ => rfl) ?_
    refine Rx.go (fun _ => rfl) ?_
    refine Rx.go (fun _ => rfl) ?_
    refine Rx.ite (fun c2 => ?_) (fun c2 => ?_)
    · replace c2 : u ≤ 9 := of_decide_eq_true c2
      show Rx X c0 m_Mod_decimal 14 [.ref (c0 + 16), .long v, ev_dead, .int u] [] σ τ _
      refine Rx.go (fun _ => rfl) ?_
      refine Rx.go (fun _ => rfl) ?_
      refine Rx.go (fun _ => rfl) ?_
      have c3 : ¬ 9 < u := Int32.not_lt.mpr c2
      obtain ⟨p, hp9, rfl⟩ := nI_of2 (M := 9) (n := 9) rfl c1 c2
      refine Rx.call rfl rfl rfl rfl (rx_number0_d X c0 v hp9 hR h8) ?_
      rintro z σ2 τ2 rfl
      exact Rx.ret rfl (ev_reti rfl) (by rw [if_neg c1, if_neg c3])
    · replace c2 : ¬ u ≤ 9 := of_decide_eq_false c2
      show Rx X c0 m_Mod_decimal 10 [.ref (c0 + 16), .long v, ev_dead, .int u] [] σ τ _
      refine Rx.go (fun _ => rfl) ?_
      refine Rx.go (fun _ => rfl) ?_
      show Rx X c0 m_Mod_decimal 20 [.ref (c0 + 16), .long v, ev_dead, .int u] [.int (-1)] σ τ _
      exact Rx.ret rfl (ev_reti rfl) (by rw [if_neg c1, if_pos (Int32.not_le.mp c2)] <;> rfl)
def rb (v : Int64) (m : Nat) : Int32 := ((v >>> ((8 * nI m).toInt64 &&& 63)) &&& 255).toInt32
def trf : Nat → Nat → (Nat → Int32) → Int64 → Nat → Int32
  | 0, _, f, _ => f
  | m + 1, s, f, v => trf m (s + 1) (upd f s (rb v m)) v
theorem up_uu {f : Nat → Int32} {k : Nat} {a b : Int32} : upd (upd f k a) k b = upd f k b := by
  funext j
  by_cases h : j = k <;> simp [upd, h]
theorem up_et {f : Nat → Int32} {k : Nat} {a : Int32} (h : f k = a) : upd f k a = f := by
  funext j
  by_cases q : j = k
  · subst q; rw [pk_us, h]
  · rw [pk_un q]
set_option maxRecDepth 100000 in
set_option maxHeartbeats 1000000 in
theorem rx_type_l (X : ev_X) (c0 : Nat) (v : Int64) (N : Int32) : ∀ (m s : Nat) (σ : Nat → Int32) (τ : Nat → Nat → Int32) (h1 : σ 1 = nI s) (hs : s + m ≤ 240), Rx X c0 m_Mod_type 33 [.ref (c0 + 16), .long v, ev_dead, .int N, .int (nI m - 1)] [] σ τ (fun r σ' τ' => r = some (.int (nI (s + m))) ∧ σ' = upd σ 1 (nI (s + m)) ∧ τ' = va_up τ 0 (trf m s (τ 0) v)) := by
  intro m
  induction m with
  | zero =>
    intro s σ τ h1 hs
    show Rx X c0 m_Mod_type 33 [.ref (c0 + 16), .long v, ev_dead, .int N, .int (-1)] [] σ τ _
    refine Rx.go (fun _ => rfl) ?_
    refine Rx.go (fun _ => rfl) ?_
    show Rx X c0 m_Mod_type 75 [.ref (c0 + 16), .long v, ev_dead, .int N, .int (-1)] [] σ τ _
    refine Rx.go (fun _ => rfl) ?_
    refine Rx.get rfl rfl ?_
    show Rx X c0 m_Mod_type 79 [.ref (c0 + 16), .long v, ev_dead, .int N, .int (-1)] [.int (σ 1)] σ τ _
    exact Rx.ret rfl (ev_reti rfl) ⟨by rw [h1]; rfl, (up_et h1).symm, (va_et rfl).symm⟩
  | succ m ih =>
    intro s σ τ h1 hs
    rw [nI_pred]
    refine Rx.go (fun _ => rfl) ?_
    refine Rx.go (fun _ => rfl) ?_
    refine Rx.ite (fun c1 => ?_) (fun c1 => ?_)
    · replace c1 : (nI m) < 0 := of_decide_eq_true c1
      exact absurd c1 (nI_pos (by omega))
    · replace c1 : ¬ (nI m) < 0 := of_decide_eq_false c1
      show Rx X c0 m_Mod_type 38 [.ref (c0 + 16), .long v, ev_dead, .int N, .int (nI m)] [] σ τ _
      refine Rx.go (fun _ => rfl) ?_
      refine Rx.get rfl rfl ?_
      refine Rx.go (fun _ => rfl) ?_
      refine Rx.get rfl rfl ?_
      refine Rx.go (fun _ => rfl) ?_
      refine Rx.go (fun _ => rfl) ?_
      refine Rx.go (fun _ => rfl) ?_
      refine Rx.go (fun _ => rfl) ?_
      refine Rx.go (fun _ => rfl) ?_
      refine Rx.go (fun _ => rfl) ?_
      refine Rx.go (fun _ => rfl) ?_
      refine Rx.go (fun _ => rfl) ?_
      refine Rx.ast 0 rfl rfl (by rw [h1]; exact nI_ix (show s < 240 by omega) (by decide)) ?_
      refine Rx.go (fun _ => rfl) ?_
      refine Rx.go (fun _ => rfl) ?_
      refine Rx.get rfl rfl ?_
      refine Rx.go (fun _ => rfl) ?_
      refine Rx.go (fun _ => rfl) ?_
      refine Rx.put rfl (by decide) rfl rfl ?_
      refine Rx.go (fun _ => rfl) ?_
      show Rx X c0 m_Mod_type 72 [.ref (c0 + 16), .long v, ev_dead, .int N, .int ((nI m) + (-1))] [] (upd σ 1 ((σ 1) + 1)) (va_up τ 0 (upd (τ 0) (σ 1).toNatClampNeg (((v >>> ((8 * (nI m)).toInt64 &&& 63)) &&& 255).toInt32))) _
      refine Rx.go (fun _ => rfl) ?_
      show Rx X c0 m_Mod_type 33 [.ref (c0 + 16), .long v, ev_dead, .int N, .int ((nI m) + (-1))] [] (upd σ 1 ((σ 1) + 1)) (va_up τ 0 (upd (τ 0) (σ 1).toNatClampNeg (((v >>> ((8 * (nI m)).toInt64 &&& 63)) &&& 255).toInt32))) _
      rw [show nI m + (-1) = nI m - 1 from (Int32.sub_eq_add_neg _ _).symm]
      refine (ih (s + 1) _ _ (by rw [pk_us, h1, nI_1]) (by omega)).mono ?_
      rintro r σ' τ' ⟨rfl, rfl, rfl⟩
      exact ⟨by rw [show s + 1 + m = s + (m + 1) by omega], by rw [up_uu, show s + 1 + m = s + (m + 1) by omega], by rw [va_uu, va_up_self, h1, nI_clamp (by omega)]; rfl⟩
set_option maxRecDepth 100000 in
set_option maxHeartbeats 1000000 in
theorem rx_type0 (X : ev_X) (c0 : Nat) (v : Int64) (n : Int32) {σ : Nat → Int32} {τ : Nat → Nat → Int32} (h1 : σ 1 = 0) : Rx X c0 m_Mod_type 0 [.ref (c0 + 16), .long v, ev_dead, .int n, ev_dead] [] σ τ (fun r _ _ => r = some (.int (if n < 1 then -1 else if n ≤ 8 then n else -1))) := by
  refine Rx.go (fun _ => rfl) ?_
  refine Rx.go (fun _ => rfl) ?_
  refine Rx.go (fun _ => rfl) ?_
  refine Rx.ite (fun c1 => ?_) (fun c1 => ?_)
  · replace c1 : n < 1 := of_decide_eq_true c1
    show Rx X c0 m_Mod_type 11 [.ref (c0 + 16), .long v, ev_dead, .int n, ev_dead] [] σ τ _
    refine Rx.go (fun _ => rfl) ?_
    show Rx X c0 m_Mod_type 12 [.ref (c0 + 16), .long v, ev_dead, .int n, ev_dead] [.int (-1)] σ τ _
    exact Rx.ret rfl (ev_reti rfl) (by simp [c1])
  · replace c1 : ¬ n < 1 := of_decide_eq_false c1
    show Rx X c0 m_Mod_type 5 [.ref (c0 + 16), .long v, ev_dead, .int n, ev_dead] [] σ τ _
    refine Rx.go (fun _ => rfl) ?_
    refine Rx.go (fun _ => rfl) ?_
    refine Rx.go (fun _ => rfl) ?_
    refine Rx.ite (fun c2 => ?_) (fun c2 => ?_)
    · replace c2 : n ≤ 8 := of_decide_eq_true c2
      show Rx X c0 m_Mod_type 13 [.ref (c0 + 16), .long v, ev_dead, .int n, ev_dead] [] σ τ _
      refine Rx.go (fun _ => rfl) ?_
      refine Rx.get rfl rfl ?_
      refine Rx.top (y := 0) h1 ?_
      refine Rx.go (fun _ => rfl) ?_
      refine Rx.go (fun _ => rfl) ?_
      refine Rx.go (fun _ => rfl) ?_
      refine Rx.go (fun _ => rfl) ?_
      refine Rx.ite (fun c3 => ?_) (fun c3 => ?_)
      · replace c3 : (0 + n) ≤ 240 := of_decide_eq_true c3
        show Rx X c0 m_Mod_type 28 [.ref (c0 + 16), .long v, ev_dead, .int n, ev_dead] [] σ τ _
        refine Rx.go (fun _ => rfl) ?_
        refine Rx.go (fun _ => rfl) ?_
        refine Rx.go (fun _ => rfl) ?_
        refine Rx.go (fun _ => rfl) ?_
        show Rx X c0 m_Mod_type 33 [.ref (c0 + 16), .long v, ev_dead, .int n, .int (n - 1)] [] σ τ _
        show Rx X c0 m_Mod_type 33 [.ref (c0 + 16), .long v, ev_dead, .int n, .int (n - 1)] [] σ τ _
        obtain ⟨m, hm, rfl⟩ := i32_81 c1 c2
        refine (rx_type_l X c0 v (nI m) m 0 σ τ h1 (by omega)).mono ?_
        rintro r σ' τ' ⟨rfl, -, -⟩
        rw [if_neg c1, if_pos c2, Nat.zero_add]
      · replace c3 : ¬ (0 + n) ≤ 240 := of_decide_eq_false c3
        exact absurd (i32_82 c1 c2) c3
    · replace c2 : ¬ n ≤ 8 := of_decide_eq_false c2
      show Rx X c0 m_Mod_type 11 [.ref (c0 + 16), .long v, ev_dead, .int n, ev_dead] [] σ τ _
      refine Rx.go (fun _ => rfl) ?_
      show Rx X c0 m_Mod_type 12 [.ref (c0 + 16), .long v, ev_dead, .int n, ev_dead] [.int (-1)] σ τ _
      exact Rx.ret rfl (ev_reti rfl) (by simp [c1, c2])
abbrev s0 : Nat → Int32 := fun _ => 0
abbrev t0 : Nat → Nat → Int32 := fun _ _ => 0
abbrev s1 : Nat → Int32 := upd (upd (upd s0 16 0) 17 0) 18 0
abbrev s2 : Nat → Int32 := rfail s1 1 0
abbrev s3 : Nat → Int32 := upd (upd s2 2 0) 1 0
set_option maxRecDepth 100000 in
set_option maxHeartbeats 1000000 in
theorem rx_readOne0 (X : ev_X) (c0 : Nat) : Rx X c0 m_Mod_readOne 0 [.ref (c0 + 16), ev_dead] [] s1 t0 (fun r σ' τ' => r = none ∧ σ' = s2 ∧ τ' = t0) := by
  refine Rx.go (fun _ => rfl) ?_
  refine Rx.callE rfl rfl rfl rfl (rx_here X c0 _ _ (by decide) (by decide)) ?_
  show Rx X c0 m_Mod_readOne 4 [.ref (c0 + 16), ev_dead] [.int (-1)] s1 t0 _
  refine Rx.go (fun _ => rfl) ?_
  show Rx X c0 m_Mod_readOne 5 [.ref (c0 + 16), .int (-1)] [] s1 t0 _
  refine Rx.go (fun _ => rfl) ?_
  refine Rx.go (fun _ => rfl) ?_
  refine Rx.go (fun _ => rfl) ?_
  show Rx X c0 m_Mod_readOne 18 [.ref (c0 + 16), .int (-1)] [] s1 t0 _
  refine Rx.go (fun _ => rfl) ?_
  refine Rx.go (fun _ => rfl) ?_
  refine Rx.go (fun _ => rfl) ?_
  show Rx X c0 m_Mod_readOne 31 [.ref (c0 + 16), .int (-1)] [] s1 t0 _
  refine Rx.go (fun _ => rfl) ?_
  refine Rx.go (fun _ => rfl) ?_
  refine Rx.go (fun _ => rfl) ?_
  show Rx X c0 m_Mod_readOne 44 [.ref (c0 + 16), .int (-1)] [] s1 t0 _
  refine Rx.go (fun _ => rfl) ?_
  refine Rx.go (fun _ => rfl) ?_
  refine Rx.go (fun _ => rfl) ?_
  show Rx X c0 m_Mod_readOne 50 [.ref (c0 + 16), .int (-1)] [] s1 t0 _
  refine Rx.go (fun _ => rfl) ?_
  refine Rx.go (fun _ => rfl) ?_
  refine Rx.go (fun _ => rfl) ?_
  show Rx X c0 m_Mod_readOne 56 [.ref (c0 + 16), .int (-1)] [] s1 t0 _
  refine Rx.go (fun _ => rfl) ?_
  refine Rx.go (fun _ => rfl) ?_
  refine Rx.go (fun _ => rfl) ?_
  show Rx X c0 m_Mod_readOne 62 [.ref (c0 + 16), .int (-1)] [] s1 t0 _
  refine Rx.go (fun _ => rfl) ?_
  refine Rx.scallE rfl rfl rfl rfl (sx_Mod_isDigit X (-1)) ?_
  show Rx X c0 m_Mod_readOne 66 [.ref (c0 + 16), .int (-1)] [.int 0] s1 t0 _
  refine Rx.go (fun _ => rfl) ?_
  show Rx X c0 m_Mod_readOne 76 [.ref (c0 + 16), .int (-1)] [] s1 t0 _
  refine Rx.go (fun _ => rfl) ?_
  refine Rx.go (fun _ => rfl) ?_
  refine Rx.go (fun _ => rfl) ?_
  show Rx X c0 m_Mod_readOne 82 [.ref (c0 + 16), .int (-1)] [] s1 t0 _
  refine Rx.go (fun _ => rfl) ?_
  refine Rx.go (fun _ => rfl) ?_
  refine Rx.go (fun _ => rfl) ?_
  show Rx X c0 m_Mod_readOne 106 [.ref (c0 + 16), .int (-1)] [] s1 t0 _
  refine Rx.go (fun _ => rfl) ?_
  refine Rx.go (fun _ => rfl) ?_
  refine Rx.go (fun _ => rfl) ?_
  refine Rx.get rfl rfl ?_
  refine Rx.callE rfl rfl rfl rfl (rx_fail X c0 _ _ 1 (s1 16)) ?_
  show Rx X c0 m_Mod_readOne 115 [.ref (c0 + 16), .int (-1)] [] s2 t0 _
  exact Rx.ret rfl rfl ⟨rfl, rfl, rfl⟩
set_option maxRecDepth 100000 in
set_option maxHeartbeats 1000000 in
theorem rx_readAll0 (X : ev_X) (c0 : Nat) : Rx X c0 m_Mod_readAll 0 [.ref (c0 + 16)] [] s0 t0 (fun r σ' τ' => r = some (.int 0) ∧ σ' = s3 ∧ τ' = t0) := by
  refine Rx.go (fun _ => rfl) ?_
  refine Rx.go (fun _ => rfl) ?_
  refine Rx.put rfl (by decide) rfl rfl ?_
  refine Rx.go (fun _ => rfl) ?_
  refine Rx.go (fun _ => rfl) ?_
  refine Rx.get rfl rfl ?_
  refine Rx.put rfl (by decide) rfl rfl ?_
  refine Rx.go (fun _ => rfl) ?_
  refine Rx.go (fun _ => rfl) ?_
  refine Rx.put rfl (by decide) rfl rfl ?_
  refine Rx.go (fun _ => rfl) ?_
  refine Rx.callE rfl rfl rfl rfl (rx_readOne0 X c0) ?_
  show Rx X c0 m_Mod_readAll 22 [.ref (c0 + 16)] [] s2 t0 _
  refine Rx.go (fun _ => rfl) ?_
  refine Rx.callE rfl rfl rfl rfl (rx_isGood X c0 _ _) ?_
  show Rx X c0 m_Mod_readAll 26 [.ref (c0 + 16)] [.int 0] s2 t0 _
  refine Rx.go (fun _ => rfl) ?_
  show Rx X c0 m_Mod_readAll 50 [.ref (c0 + 16)] [] s2 t0 _
  refine Rx.go (fun _ => rfl) ?_
  refine Rx.go (fun _ => rfl) ?_
  refine Rx.callE rfl rfl rfl rfl (rx_isGood X c0 _ _) ?_
  show Rx X c0 m_Mod_readAll 55 [.ref (c0 + 16)] [.int 0, .ref (c0 + 16)] s2 t0 _
  refine Rx.go (fun _ => rfl) ?_
  show Rx X c0 m_Mod_readAll 65 [.ref (c0 + 16)] [.ref (c0 + 16)] s2 t0 _
  refine Rx.go (fun _ => rfl) ?_
  refine Rx.get rfl rfl ?_
  refine Rx.put rfl (by decide) rfl rfl ?_
  refine Rx.go (fun _ => rfl) ?_
  refine Rx.go (fun _ => rfl) ?_
  refine Rx.put rfl (by decide) rfl rfl ?_
  refine Rx.go (fun _ => rfl) ?_
  refine Rx.callE rfl rfl rfl rfl (rx_isGood X c0 _ _) ?_
  show Rx X c0 m_Mod_readAll 81 [.ref (c0 + 16)] [.int 0] (upd (upd s2 2 (s2 19)) 1 0) t0 _
  show Rx X c0 m_Mod_readAll 81 [.ref (c0 + 16)] [.int 0] (upd (upd s2 2 (s2 19)) 1 0) t0 _
  exact Rx.ret rfl rfl ⟨rfl, rfl, rfl⟩
set_option maxRecDepth 100000 in
set_option maxHeartbeats 1000000 in
theorem rx_read0 (X : ev_X) (c0 : Nat) : Rx X c0 m_Mod_read 0 [.ref (c0 + 16)] [] s0 t0 (fun r _ _ => r = some (.int (-101))) := by
  refine Rx.go (fun _ => rfl) ?_
  refine Rx.callE rfl rfl rfl rfl (rx_readAll0 X c0) ?_
  show Rx X c0 m_Mod_read 4 [.ref (c0 + 16)] [.int 0] s3 t0 _
  refine Rx.go (fun _ => rfl) ?_
  show Rx X c0 m_Mod_read 14 [.ref (c0 + 16)] [] s3 t0 _
  refine Rx.go (fun _ => rfl) ?_
  refine Rx.go (fun _ => rfl) ?_
  refine Rx.get rfl rfl ?_
  refine Rx.go (fun _ => rfl) ?_
  show Rx X c0 m_Mod_read 21 [.ref (c0 + 16)] [.int ((-100) - (s3 18))] s3 t0 _
  exact Rx.ret rfl (ev_reti rfl) rfl
set_option maxRecDepth 100000 in
set_option maxHeartbeats 1000000 in
theorem rx_find0 (X : ev_X) (c0 : Nat) : Rx X c0 m_Mod_find 0 [.ref (c0 + 16), ev_dead] [] s0 t0 (fun r _ _ => r = some (.int (-101))) := by
  refine Rx.go (fun _ => rfl) ?_
  refine Rx.callE rfl rfl rfl rfl (rx_readAll0 X c0) ?_
  show Rx X c0 m_Mod_find 4 [.ref (c0 + 16), ev_dead] [.int 0] s3 t0 _
  refine Rx.go (fun _ => rfl) ?_
  show Rx X c0 m_Mod_find 7 [.ref (c0 + 16), ev_dead] [] s3 t0 _
  refine Rx.go (fun _ => rfl) ?_
  refine Rx.go (fun _ => rfl) ?_
  refine Rx.get rfl rfl ?_
  refine Rx.go (fun _ => rfl) ?_
  show Rx X c0 m_Mod_find 14 [.ref (c0 + 16), ev_dead] [.int ((-100) - (s3 18))] s3 t0 _
  exact Rx.ret rfl (ev_reti rfl) rfl
end
section
/-! The class while it reads: rows as lists of bytes (rowL), the draft and the reader (CR). -/
def rowL (c0 : Nat) (F : Nat → Option va_E) (k ka N : Nat) (l : List Nat) : Prop := ∃ f : Nat → Int32, F k = some (.inr (1, [.ref (c0 + ka), .int (nI l.length)])) ∧ F ka = some (.inl (0, N, .inl f)) ∧ l.length ≤ N ∧ (∀ i, i < l.length → f i &&& 255 = nI (l.getD i 0)) ∧ ∀ i, l.getD i 0 < 256
set_option maxRecDepth 100000 in
theorem nar_255 : ∀ b : Nat, b < 256 → vp_nar .byte (nI b) &&& 255 = nI b := by decide +kernel
theorem rowL.fr {c0 k ka N : Nat} {F F' : Nat → Option va_E} {l : List Nat} (h : rowL c0 F k ka N l) (e1 : F' k = F k) (e2 : F' ka = F ka) : rowL c0 F' k ka N l := by
  obtain ⟨f, h1, h2, h3⟩ := h
  exact ⟨f, e1.trans h1, e2.trans h2, h3⟩
section RLR
variable {X : ev_X} {c0 n z k ka N : Nat} {F : Nat → Option va_E} {l : List Nat}
theorem rowL.ob (h : rowL c0 F k ka N l) : ∃ fs, F k = some (.inr (1, fs)) := by obtain ⟨f, h1, -⟩ := h; exact ⟨_, h1⟩
theorem rowL.le (h : rowL c0 F k ka N l) : l.length ≤ N := by obtain ⟨f, -, -, h3, -⟩ := h; exact h3
theorem rowL.by (h : rowL c0 F k ka N l) (i : Nat) : l.getD i 0 < 256 := by obtain ⟨f, -, -, -, -, h5⟩ := h; exact h5 i
theorem rl_size (h : rowL c0 F k ka N l) : Ex X m_Row_size 0 [.ref (c0 + k)] [] (hp c0 n z F) (fun r h' => r = some (.int (nI l.length)) ∧ h' = hp c0 n z F) := by
  obtain ⟨f, h1, -⟩ := h
  exact hx_size k h1
theorem rl_at (h : rowL c0 F k ka N l) (hN : N ≤ 1000) {i : Nat} (hi : i < 2 ^ 31) : Ex X m_Row_at 0 [.ref (c0 + k), .int (nI i)] [] (hp c0 n z F) (fun r h' => r = some (.int (hb l i)) ∧ h' = hp c0 n z F) := by
  obtain ⟨f, h1, h2, h3, h4, h5⟩ := h
  unfold hb
  by_cases q : i < l.length
  · rw [if_pos q]
    refine (hx_at_lt k ka h1 h2 hN h3 q).mono ?_
    rintro r h' ⟨rfl, rfl⟩
    exact ⟨by rw [h4 i q], rfl⟩
  · rw [if_neg q]
    exact hx_at_ge k ka h1 h2 hN h3 (by omega) hi
theorem rl_clear (h : rowL c0 F k ka N l) (hne : ka ≠ k) : Ex X m_Row_clear 0 [.ref (c0 + k)] [] (hp c0 n z F) (fun r h' => r = none ∧ ∃ F', h' = hp c0 n z F' ∧ rowL c0 F' k ka N [] ∧ ∀ j, j ≠ k → j ≠ ka → F' j = F j) := by
  obtain ⟨f, h1, h2, h3, h4, h5⟩ := h
  refine (hx_clear k h1).mono ?_
  rintro r h' ⟨rfl, rfl⟩
  exact ⟨rfl, _, rfl, ⟨f, va_up_self _ _ _, (va_up_ne _ _ hne).trans h2, Nat.zero_le _, fun i hi => absurd hi (Nat.not_lt_zero i), fun i => by simp⟩, fun j hj _ => va_up_ne _ _ hj⟩
theorem rl_add (h : rowL c0 F k ka N l) (hN : N ≤ 1000) (hne : ka ≠ k) (b : Nat) (hb : b < 256) (hl : l.length < N) : Ex X m_Row_add 0 [.ref (c0 + k), .int (nI b)] [] (hp c0 n z F) (fun r h' => r = none ∧ ∃ F', h' = hp c0 n z F' ∧ rowL c0 F' k ka N (l ++ [b]) ∧ ∀ j, j ≠ k → j ≠ ka → F' j = F j) := by
  obtain ⟨f, h1, h2, h3, h4, h5⟩ := h
  refine (hx_add k ka h1 h2 hN hl (Ne.symm hne) (nI b)).mono ?_
  rintro r h' ⟨rfl, rfl⟩
  refine ⟨rfl, _, rfl, ⟨upd f l.length (vp_nar .byte (nI b)), ?_, (va_up_ne _ _ hne).trans (va_up_self _ _ _), ?_, ?_, ?_⟩, fun j hj1 hj2 => (va_up_ne _ _ hj1).trans (va_up_ne _ _ hj2)⟩
  · rw [va_up_self, List.length_append]; rfl
  · simp only [List.length_append, List.length_cons, List.length_nil]; omega
  · intro i hi
    simp only [List.length_append, List.length_cons, List.length_nil] at hi
    rw [getD_snoc hi]
    split
    · next q => rw [pk_un (by omega)]; exact h4 i q
    · next q => rw [show i = l.length by omega, pk_us]; exact nar_255 b hb
  · intro i
    by_cases q : i < l.length + 1
    · rw [getD_snoc q]
      split
      · exact h5 i
      · exact hb
    · rw [gd0 (by simp only [List.length_append, List.length_cons, List.length_nil]; omega)]; decide
end RLR
def CR (c0 : Nat) (F0 : Nat → Option va_E) (t : List Nat) (s : Int32) (nu : Int64) (p : Int32) (bd tl : List Nat) (ft fp : Int32) (F : Nat → Option va_E) : Prop := (∀ j, (j < 3 ∨ 8 < j) → F j = F0 j) ∧ rowL c0 F 1 2 240 t ∧ F 3 = some (.inr (2, [.int s, .long nu, .int p, .ref (c0 + 4), .ref (c0 + 6)])) ∧ rowL c0 F 4 5 64 bd ∧ rowL c0 F 6 7 60 tl ∧ F 8 = some (.inr (0, [.ref (c0 + 3), .int ft, .int fp]))
/-- a fault told, at w -/
def CE (c0 : Nat) (F0 : Nat → Option va_E) (t : List Nat) (w : Nat) (F : Nat → Option va_E) : Prop := ∃ s nu p bd tl ft, ft ≠ 0 ∧ CR c0 F0 t s nu p bd tl ft (nI w) F
/-- the row that is read: the tape, or the draft's body -/
def crw (t bd : List Nat) (kr : Nat) (l : List Nat) : Prop := (kr = 1 ∧ l = t) ∨ (kr = 4 ∧ l = bd)
section CRR
variable {X : ev_X} {c0 n z M pc nx a b w idx kr : Nat} {A r : List Value} {F F0 : Nat → Option va_E} {Q : Option Value → ev_H → Prop} {t bd tl l : List Nat} {s p ft fp x : Int32} {nu : Int64}
theorem CR.r3 (h : CR c0 F0 t s nu p bd tl ft fp F) : F 3 = some (.inr (2, [.int s, .long nu, .int p, .ref (c0 + 4), .ref (c0 + 6)])) := h.2.2.1
theorem CR.r8 (h : CR c0 F0 t s nu p bd tl ft fp F) : F 8 = some (.inr (0, [.ref (c0 + 3), .int ft, .int fp])) := h.2.2.2.2.2
theorem CR.rt (h : CR c0 F0 t s nu p bd tl ft fp F) : rowL c0 F 1 2 240 t := h.2.1
theorem CR.rb (h : CR c0 F0 t s nu p bd tl ft fp F) : rowL c0 F 4 5 64 bd := h.2.2.2.1
theorem CR.rl (h : CR c0 F0 t s nu p bd tl ft fp F) : rowL c0 F 6 7 60 tl := h.2.2.2.2.1
theorem CR.u3 {s' p' : Int32} {nu' : Int64} (h : CR c0 F0 t s nu p bd tl ft fp F) : CR c0 F0 t s' nu' p' bd tl ft fp (va_up F 3 (some (.inr (2, [.int s', .long nu', .int p', .ref (c0 + 4), .ref (c0 + 6)])))) :=
  ⟨fun j hj => (va_up_ne _ _ (by omega)).trans (h.1 j hj), h.rt.fr (va_up_ne _ _ (by decide)) (va_up_ne _ _ (by decide)), va_up_self _ _ _, h.rb.fr (va_up_ne _ _ (by decide)) (va_up_ne _ _ (by decide)), h.rl.fr (va_up_ne _ _ (by decide)) (va_up_ne _ _ (by decide)), (va_up_ne _ _ (by decide)).trans h.r8⟩
theorem CR.u8 {ft' fp' : Int32} (h : CR c0 F0 t s nu p bd tl ft fp F) : CR c0 F0 t s nu p bd tl ft' fp' (va_up F 8 (some (.inr (0, [.ref (c0 + 3), .int ft', .int fp'])))) :=
  ⟨fun j hj => (va_up_ne _ _ (by omega)).trans (h.1 j hj), h.rt.fr (va_up_ne _ _ (by decide)) (va_up_ne _ _ (by decide)), (va_up_ne _ _ (by decide)).trans h.r3, h.rb.fr (va_up_ne _ _ (by decide)) (va_up_ne _ _ (by decide)), h.rl.fr (va_up_ne _ _ (by decide)) (va_up_ne _ _ (by decide)), va_up_self _ _ _⟩
theorem CR.ps (h : CR c0 F0 t s nu p bd tl ft fp F) (o : pg_ops M pc = some (.putfield idx, nx, 2, 0, w)) (k : ∀ F1, CR c0 F0 t x nu p bd tl ft fp F1 → Ex X M nx A r (hp c0 n z F1) Q) : Ex X M pc A (.int x :: .ref (c0 + 3) :: r) (hp c0 n z F) Q := Hx.put 3 o h.r3 rfl rfl rfl (k _ h.u3)
theorem CR.pn {y : Int64} (h : CR c0 F0 t s nu p bd tl ft fp F) (o : pg_ops M pc = some (.putfield idx, nx, 2, 1, w)) (k : ∀ F1, CR c0 F0 t s y p bd tl ft fp F1 → Ex X M nx A r (hp c0 n z F1) Q) : Ex X M pc A (.long y :: .ref (c0 + 3) :: r) (hp c0 n z F) Q := Hx.put 3 o h.r3 rfl rfl rfl (k _ h.u3)
theorem CR.pp (h : CR c0 F0 t s nu p bd tl ft fp F) (o : pg_ops M pc = some (.putfield idx, nx, 2, 2, w)) (k : ∀ F1, CR c0 F0 t s nu x bd tl ft fp F1 → Ex X M nx A r (hp c0 n z F1) Q) : Ex X M pc A (.int x :: .ref (c0 + 3) :: r) (hp c0 n z F) Q := Hx.put 3 o h.r3 rfl rfl rfl (k _ h.u3)
theorem CR.pf (h : CR c0 F0 t s nu p bd tl ft fp F) (o : pg_ops M pc = some (.putfield idx, nx, 0, 1, w)) (k : ∀ F1, CR c0 F0 t s nu p bd tl x fp F1 → Ex X M nx A r (hp c0 n z F1) Q) : Ex X M pc A (.int x :: .ref (c0 + 8) :: r) (hp c0 n z F) Q := Hx.put 8 o h.r8 rfl rfl rfl (k _ h.u8)
theorem CR.pq (h : CR c0 F0 t s nu p bd tl ft fp F) (o : pg_ops M pc = some (.putfield idx, nx, 0, 2, w)) (k : ∀ F1, CR c0 F0 t s nu p bd tl ft x F1 → Ex X M nx A r (hp c0 n z F1) Q) : Ex X M pc A (.int x :: .ref (c0 + 8) :: r) (hp c0 n z F) Q := Hx.put 8 o h.r8 rfl rfl rfl (k _ h.u8)
/-- a call of a method of a row -/
theorem Hx.rowc {k ka N : Nat} {as st A0 : List Value} {Q1 : Option Value → ev_H → Prop} (hr : rowL c0 F k ka N l) (o : pg_ops M pc = some (.invokevirtual idx, nx, a, b, w)) (ha : ev_argI (pg_n a) st = some (c0 + k, as, r)) (hc : pg_c a = 1) (he : ev_ent (pg_L a) (.ref (c0 + k) :: as) = some A0) (k1 : Ex X a 0 A0 [] (hp c0 n z F) Q1) (k2 : ∀ v h1, Q1 v h1 → Ex X M nx A (v.toList ++ r) h1 Q) : Ex X M pc A st (hp c0 n z F) Q := by
  obtain ⟨fs, hF⟩ := hr.ob
  exact Hx.callX k o ha hF hc he k1 k2
theorem Hx.rowE {k ka N : Nat} {as st A0 : List Value} {v : Option Value} (hr : rowL c0 F k ka N l) (o : pg_ops M pc = some (.invokevirtual idx, nx, a, b, w)) (ha : ev_argI (pg_n a) st = some (c0 + k, as, r)) (hc : pg_c a = 1) (he : ev_ent (pg_L a) (.ref (c0 + k) :: as) = some A0) (k1 : Ex X a 0 A0 [] (hp c0 n z F) (fun r h' => r = v ∧ h' = hp c0 n z F)) (k2 : Ex X M nx A (v.toList ++ r) (hp c0 n z F) Q) : Ex X M pc A st (hp c0 n z F) Q :=
  Hx.rowc hr o ha hc he k1 (fun v' h1 ⟨e1, e2⟩ => by rw [e1, e2]; exact k2)
theorem CR.row (h : CR c0 F0 t s nu p bd tl ft fp F) (hr : crw t bd kr l) : ∃ ka N, N ≤ 1000 ∧ rowL c0 F kr ka N l := by
  rcases hr with ⟨rfl, rfl⟩ | ⟨rfl, rfl⟩
  · exact ⟨2, 240, by decide, h.rt⟩
  · exact ⟨5, 64, by decide, h.rb⟩
theorem crw.le (h : CR c0 F0 t s nu p bd tl ft fp F) (hr : crw t bd kr l) : l.length ≤ 240 := by
  rcases hr with ⟨-, rfl⟩ | ⟨-, rfl⟩
  · exact h.rt.le
  · exact Nat.le_trans h.rb.le (by decide)
theorem crw.by (h : CR c0 F0 t s nu p bd tl ft fp F) (hr : crw t bd kr l) (i : Nat) : l.getD i 0 < 256 := by
  rcases hr with ⟨-, rfl⟩ | ⟨-, rfl⟩
  · exact h.rt.by i
  · exact h.rb.by i
theorem CR.at {st : List Value} {i : Nat} {A0 : List Value} (h : CR c0 F0 t s nu p bd tl ft fp F) (hr : crw t bd kr l) (hi : i < 2 ^ 31) (o : pg_ops M pc = some (.invokevirtual idx, nx, 16, b, w)) (ha : ev_argI (pg_n 16) st = some (c0 + kr, [.int (nI i)], r)) (he : ev_ent (pg_L 16) [.ref (c0 + kr), .int (nI i)] = some [.ref (c0 + kr), .int (nI i)]) (k : Ex X M nx A (.int (hb l i) :: r) (hp c0 n z F) Q) : Ex X M pc A st (hp c0 n z F) Q := by
  obtain ⟨ka, N, hN, hR⟩ := h.row hr
  exact Hx.rowE hR o ha rfl he (rl_at hR hN hi) k
theorem CR.sz {st : List Value} (h : CR c0 F0 t s nu p bd tl ft fp F) (hr : crw t bd kr l) (o : pg_ops M pc = some (.invokevirtual idx, nx, 9, b, w)) (ha : ev_argI (pg_n 9) st = some (c0 + kr, [], r)) (he : ev_ent (pg_L 9) [.ref (c0 + kr)] = some [.ref (c0 + kr)]) (k : Ex X M nx A (.int (nI l.length) :: r) (hp c0 n z F) Q) : Ex X M pc A st (hp c0 n z F) Q := by
  obtain ⟨ka, N, hN, hR⟩ := h.row hr
  exact Hx.rowE hR o ha rfl he (rl_size hR) k
theorem CR.szt {st : List Value} (h : CR c0 F0 t s nu p bd tl ft fp F) (o : pg_ops M pc = some (.invokevirtual idx, nx, 9, b, w)) (ha : ev_argI (pg_n 9) st = some (c0 + 6, [], r)) (he : ev_ent (pg_L 9) [.ref (c0 + 6)] = some [.ref (c0 + 6)]) (k : Ex X M nx A (.int (nI tl.length) :: r) (hp c0 n z F) Q) : Ex X M pc A st (hp c0 n z F) Q :=
  Hx.rowE h.rl o ha rfl he (rl_size h.rl) k
theorem CR.ub {F1 : Nat → Option va_E} {bd' : List Nat} (h : CR c0 F0 t s nu p bd tl ft fp F) (hr : rowL c0 F1 4 5 64 bd') (hj : ∀ j, j ≠ 4 → j ≠ 5 → F1 j = F j) : CR c0 F0 t s nu p bd' tl ft fp F1 :=
  ⟨fun j hh => (hj j (by omega) (by omega)).trans (h.1 j hh), h.rt.fr (hj 1 (by decide) (by decide)) (hj 2 (by decide) (by decide)), (hj 3 (by decide) (by decide)).trans h.r3, hr, h.rl.fr (hj 6 (by decide) (by decide)) (hj 7 (by decide) (by decide)), (hj 8 (by decide) (by decide)).trans h.r8⟩
theorem CR.ul {F1 : Nat → Option va_E} {tl' : List Nat} (h : CR c0 F0 t s nu p bd tl ft fp F) (hr : rowL c0 F1 6 7 60 tl') (hj : ∀ j, j ≠ 6 → j ≠ 7 → F1 j = F j) : CR c0 F0 t s nu p bd tl' ft fp F1 :=
  ⟨fun j hh => (hj j (by omega) (by omega)).trans (h.1 j hh), h.rt.fr (hj 1 (by decide) (by decide)) (hj 2 (by decide) (by decide)), (hj 3 (by decide) (by decide)).trans h.r3, h.rb.fr (hj 4 (by decide) (by decide)) (hj 5 (by decide) (by decide)), hr, (hj 8 (by decide) (by decide)).trans h.r8⟩
theorem CR.adb {st : List Value} {d : Nat} (h : CR c0 F0 t s nu p bd tl ft fp F) (hd : d < 256) (hl : bd.length < 64) (o : pg_ops M pc = some (.invokevirtual idx, nx, 10, b, w)) (ha : ev_argI (pg_n 10) st = some (c0 + 4, [.int (nI d)], r)) (k : ∀ F1, CR c0 F0 t s nu p (bd ++ [d]) tl ft fp F1 → Ex X M nx A r (hp c0 n z F1) Q) : Ex X M pc A st (hp c0 n z F) Q :=
  Hx.rowc h.rb o ha rfl rfl (rl_add h.rb (by decide) (by decide) d hd hl) (fun v h1 ⟨e1, F1, e2, e3, e4⟩ => by rw [e1, e2]; exact k F1 (h.ub e3 e4))
theorem CR.adt {st : List Value} {d : Nat} (h : CR c0 F0 t s nu p bd tl ft fp F) (hd : d < 256) (hl : tl.length < 60) (o : pg_ops M pc = some (.invokevirtual idx, nx, 10, b, w)) (ha : ev_argI (pg_n 10) st = some (c0 + 6, [.int (nI d)], r)) (k : ∀ F1, CR c0 F0 t s nu p bd (tl ++ [d]) ft fp F1 → Ex X M nx A r (hp c0 n z F1) Q) : Ex X M pc A st (hp c0 n z F) Q :=
  Hx.rowc h.rl o ha rfl rfl (rl_add h.rl (by decide) (by decide) d hd hl) (fun v h1 ⟨e1, F1, e2, e3, e4⟩ => by rw [e1, e2]; exact k F1 (h.ul e3 e4))
theorem CR.clb {st : List Value} (h : CR c0 F0 t s nu p bd tl ft fp F) (o : pg_ops M pc = some (.invokevirtual idx, nx, 14, b, w)) (ha : ev_argI (pg_n 14) st = some (c0 + 4, [], r)) (k : ∀ F1, CR c0 F0 t s nu p [] tl ft fp F1 → Ex X M nx A r (hp c0 n z F1) Q) : Ex X M pc A st (hp c0 n z F) Q :=
  Hx.rowc h.rb o ha rfl rfl (rl_clear h.rb (by decide)) (fun v h1 ⟨e1, F1, e2, e3, e4⟩ => by rw [e1, e2]; exact k F1 (h.ub e3 e4))
theorem CR.clt {st : List Value} (h : CR c0 F0 t s nu p bd tl ft fp F) (o : pg_ops M pc = some (.invokevirtual idx, nx, 14, b, w)) (ha : ev_argI (pg_n 14) st = some (c0 + 6, [], r)) (k : ∀ F1, CR c0 F0 t s nu p bd [] ft fp F1 → Ex X M nx A r (hp c0 n z F1) Q) : Ex X M pc A st (hp c0 n z F) Q :=
  Hx.rowc h.rl o ha rfl rfl (rl_clear h.rl (by decide)) (fun v h1 ⟨e1, F1, e2, e3, e4⟩ => by rw [e1, e2]; exact k F1 (h.ul e3 e4))
/-- a call of a method of the reader -/
theorem CR.rd {as st A0 : List Value} {Q1 : Option Value → ev_H → Prop} (h : CR c0 F0 t s nu p bd tl ft fp F) (o : pg_ops M pc = some (.invokevirtual idx, nx, a, b, w)) (ha : ev_argI (pg_n a) st = some (c0 + 8, as, r)) (hc : pg_c a = 0) (he : ev_ent (pg_L a) (.ref (c0 + 8) :: as) = some A0) (k1 : Ex X a 0 A0 [] (hp c0 n z F) Q1) (k2 : ∀ v h1, Q1 v h1 → Ex X M nx A (v.toList ++ r) h1 Q) : Ex X M pc A st (hp c0 n z F) Q := Hx.callX 8 o ha h.r8 hc he k1 k2
end CRR
end
section
/-! Static methods with a switch. (rows laid by wip/whole/sx2.py) -/
theorem Hx.lsw {X : ev_X} {M pc nx a b w : Nat} {A r : List Value} {h : ev_H} {Q : Option Value → ev_H → Prop} {d off : Int} {ps : Array (Int × Int)} {x : Int32} (o : pg_ops M pc = some (.lookupswitch d ps, nx, a, b, w)) (hs : (ps.toList.zip (ps.toList.drop 1)).all (fun (a, next) => a.1 < next.1) = true) (ho : Op.lookupswitch.offset ps.toList d x.toInt = off) (h0 : 0 ≤ (pc : Int) + off) (k : Ex X M (ev_t pc off) A r h Q) : Ex X M pc A (.int x :: r) h Q := by
  refine Ex.nx (pc' := ev_t pc off) (A' := A) (st' := r) (h' := h) ?_ k
  have e1 : ev_ret M (.lookupswitch d ps) (.int x :: r) = none := rfl
  have e2 : ev_cal X (.lookupswitch d ps) a (.int x :: r) h = none := rfl
  have e3 : ∀ kv, ev_st kv (.lookupswitch d ps) (.int x :: r) = none := fun _ => rfl
  have e4 : ev_lc (.lookupswitch d ps) A (.int x :: r) = none := rfl
  have e5 : ev_br (.lookupswitch d ps) pc nx (.int x :: r) = some (ev_t pc off, r) := by
    simp only [ev_br]
    rw [if_pos ⟨hs, by rw [ho]; exact h0⟩, ho]
  unfold ev_nx
  simp only [o, e1, e2, ev_one, e3, e4, e5]
theorem Sx.lsw {X : ev_X} {M pc nx a b w : Nat} {A r : List Value} {Q : Option Value → Prop} {d off : Int} {ps : Array (Int × Int)} {x : Int32} (o : pg_ops M pc = some (.lookupswitch d ps, nx, a, b, w)) (hs : (ps.toList.zip (ps.toList.drop 1)).all (fun (a, next) => a.1 < next.1) = true) (ho : Op.lookupswitch.offset ps.toList d x.toInt = off) (h0 : 0 ≤ (pc : Int) + off) (k : Sx X M (ev_t pc off) A r Q) : Sx X M pc A (.int x :: r) Q := fun h => Hx.lsw o hs ho h0 (k h)
theorem Sx.top {X : ev_X} {M pc : Nat} {A r : List Value} {Q : Option Value → Prop} {x y : Int32} (h : x = y) (k : Sx X M pc A (.int y :: r) Q) : Sx X M pc A (.int x :: r) Q := h ▸ k
theorem i32_33 {b : Int32} : b < 33 ↔ b ≤ 32 := by
  rw [Int32.lt_iff_toInt_lt, Int32.le_iff_toInt_le, show (33 : Int32).toInt = 33 from rfl, show (32 : Int32).toInt = 32 from rfl]; omega
theorem i32_126 {b : Int32} : 126 < b ↔ ¬ b < 127 := by
  rw [Int32.lt_iff_toInt_lt, Int32.lt_iff_toInt_lt, show (126 : Int32).toInt = 126 from rfl, show (127 : Int32).toInt = 127 from rfl]; omega
theorem i32_127 {b : Int32} : 127 ≤ b ↔ ¬ b < 127 := by rw [Int32.not_lt]
def esc (b : Int32) : Int32 := if b = 34 then b else if b = 92 then b else if b = 110 then 10 else if b = 114 then 13 else if b = 116 then 9 else -1
set_option maxRecDepth 100000 in
set_option maxHeartbeats 1000000 in
theorem sx_Reader_isNB (X : ev_X) (b : Int32) : Sx X m_Reader_isNameByte 0 [.int b] [] (fun r => r = some (.int (bi (isNB b)))) := by
  refine Sx.go (fun _ => rfl) ?_
  by_cases e1 : b = 34
  · refine Sx.top (y := 34) e1 ?_
    refine Sx.go (fun _ => rfl) ?_
    show Sx X m_Reader_isNameByte 84 [.int b] [] _
    refine Sx.go (fun _ => rfl) ?_
    exact Sx.ret rfl rfl (ret_0 (by simp_all [isNB]))
  by_cases e2 : b = 60
  · refine Sx.top (y := 60) e2 ?_
    refine Sx.go (fun _ => rfl) ?_
    show Sx X m_Reader_isNameByte 84 [.int b] [] _
    refine Sx.go (fun _ => rfl) ?_
    exact Sx.ret rfl rfl (ret_0 (by simp_all [isNB]))
  by_cases e3 : b = 62
  · refine Sx.top (y := 62) e3 ?_
    refine Sx.go (fun _ => rfl) ?_
    show Sx X m_Reader_isNameByte 84 [.int b] [] _
    refine Sx.go (fun _ => rfl) ?_
    exact Sx.ret rfl rfl (ret_0 (by simp_all [isNB]))
  by_cases e4 : b = 92
  · refine Sx.top (y := 92) e4 ?_
    refine Sx.go (fun _ => rfl) ?_
    show Sx X m_Reader_isNameByte 84 [.int b] [] _
    refine Sx.go (fun _ => rfl) ?_
    exact Sx.ret rfl rfl (ret_0 (by simp_all [isNB]))
  by_cases e5 : b = 94
  · refine Sx.top (y := 94) e5 ?_
    refine Sx.go (fun _ => rfl) ?_
    show Sx X m_Reader_isNameByte 84 [.int b] [] _
    refine Sx.go (fun _ => rfl) ?_
    exact Sx.ret rfl rfl (ret_0 (by simp_all [isNB]))
  by_cases e6 : b = 96
  · refine Sx.top (y := 96) e6 ?_
    refine Sx.go (fun _ => rfl) ?_
    show Sx X m_Reader_isNameByte 84 [.int b] [] _
    refine Sx.go (fun _ => rfl) ?_
    exact Sx.ret rfl rfl (ret_0 (by simp_all [isNB]))
  by_cases e7 : b = 123
  · refine Sx.top (y := 123) e7 ?_
    refine Sx.go (fun _ => rfl) ?_
    show Sx X m_Reader_isNameByte 84 [.int b] [] _
    refine Sx.go (fun _ => rfl) ?_
    exact Sx.ret rfl rfl (ret_0 (by simp_all [isNB]))
  by_cases e8 : b = 124
  · refine Sx.top (y := 124) e8 ?_
    refine Sx.go (fun _ => rfl) ?_
    show Sx X m_Reader_isNameByte 84 [.int b] [] _
    refine Sx.go (fun _ => rfl) ?_
    exact Sx.ret rfl rfl (ret_0 (by simp_all [isNB]))
  by_cases e9 : b = 125
  · refine Sx.top (y := 125) e9 ?_
    refine Sx.go (fun _ => rfl) ?_
    show Sx X m_Reader_isNameByte 84 [.int b] [] _
    refine Sx.go (fun _ => rfl) ?_
    exact Sx.ret rfl rfl (ret_0 (by simp_all [isNB]))
  refine Sx.lsw (off := 85) rfl rfl ((lv_osw e1 rfl).trans ((lv_osw e2 rfl).trans ((lv_osw e3 rfl).trans ((lv_osw e4 rfl).trans ((lv_osw e5 rfl).trans ((lv_osw e6 rfl).trans ((lv_osw e7 rfl).trans ((lv_osw e8 rfl).trans ((lv_osw e9 rfl).trans rfl))))))))) (by decide) ?_
  show Sx X m_Reader_isNameByte 86 [.int b] [] _
  refine Sx.go (fun _ => rfl) ?_
  refine Sx.go (fun _ => rfl) ?_
  refine Sx.go (fun _ => rfl) ?_
  refine Sx.ite (fun c10 => ?_) (fun c10 => ?_)
  · replace c10 : b < 33 := of_decide_eq_true c10
    show Sx X m_Reader_isNameByte 102 [.int b] [] _
    refine Sx.go (fun _ => rfl) ?_
    rw [i32_33] at c10; exact Sx.ret rfl rfl (ret_0 (by simp_all [isNB]))
  · replace c10 : ¬ b < 33 := of_decide_eq_false c10
    show Sx X m_Reader_isNameByte 92 [.int b] [] _
    refine Sx.go (fun _ => rfl) ?_
    refine Sx.go (fun _ => rfl) ?_
    refine Sx.go (fun _ => rfl) ?_
    refine Sx.ite (fun c11 => ?_) (fun c11 => ?_)
    · replace c11 : 126 < b := of_decide_eq_true c11
      show Sx X m_Reader_isNameByte 102 [.int b] [] _
      refine Sx.go (fun _ => rfl) ?_
      rw [i32_33] at c10; rw [i32_126] at c11; exact Sx.ret rfl rfl (ret_0 (by simp_all [isNB]))
    · replace c11 : ¬ 126 < b := of_decide_eq_false c11
      show Sx X m_Reader_isNameByte 98 [.int b] [] _
      refine Sx.go (fun _ => rfl) ?_
      refine Sx.go (fun _ => rfl) ?_
      rw [i32_33] at c10; rw [i32_126] at c11; exact Sx.ret rfl rfl (ret_1 (by simp_all [isNB]))
set_option maxRecDepth 100000 in
set_option maxHeartbeats 1000000 in
theorem sx_Mod_isNB (X : ev_X) (b : Int32) : Sx X m_Mod_isNameByte 0 [.int b] [] (fun r => r = some (.int (bi (isNB b)))) := by
  refine Sx.go (fun _ => rfl) ?_
  by_cases e1 : b = 34
  · refine Sx.top (y := 34) e1 ?_
    refine Sx.go (fun _ => rfl) ?_
    show Sx X m_Mod_isNameByte 84 [.int b] [] _
    refine Sx.go (fun _ => rfl) ?_
    exact Sx.ret rfl rfl (ret_0 (by simp_all [isNB]))
  by_cases e2 : b = 60
  · refine Sx.top (y := 60) e2 ?_
    refine Sx.go (fun _ => rfl) ?_
    show Sx X m_Mod_isNameByte 84 [.int b] [] _
    refine Sx.go (fun _ => rfl) ?_
    exact Sx.ret rfl rfl (ret_0 (by simp_all [isNB]))
  by_cases e3 : b = 62
  · refine Sx.top (y := 62) e3 ?_
    refine Sx.go (fun _ => rfl) ?_
    show Sx X m_Mod_isNameByte 84 [.int b] [] _
    refine Sx.go (fun _ => rfl) ?_
    exact Sx.ret rfl rfl (ret_0 (by simp_all [isNB]))
  by_cases e4 : b = 92
  · refine Sx.top (y := 92) e4 ?_
    refine Sx.go (fun _ => rfl) ?_
    show Sx X m_Mod_isNameByte 84 [.int b] [] _
    refine Sx.go (fun _ => rfl) ?_
    exact Sx.ret rfl rfl (ret_0 (by simp_all [isNB]))
  by_cases e5 : b = 94
  · refine Sx.top (y := 94) e5 ?_
    refine Sx.go (fun _ => rfl) ?_
    show Sx X m_Mod_isNameByte 84 [.int b] [] _
    refine Sx.go (fun _ => rfl) ?_
    exact Sx.ret rfl rfl (ret_0 (by simp_all [isNB]))
  by_cases e6 : b = 96
  · refine Sx.top (y := 96) e6 ?_
    refine Sx.go (fun _ => rfl) ?_
    show Sx X m_Mod_isNameByte 84 [.int b] [] _
    refine Sx.go (fun _ => rfl) ?_
    exact Sx.ret rfl rfl (ret_0 (by simp_all [isNB]))
  by_cases e7 : b = 123
  · refine Sx.top (y := 123) e7 ?_
    refine Sx.go (fun _ => rfl) ?_
    show Sx X m_Mod_isNameByte 84 [.int b] [] _
    refine Sx.go (fun _ => rfl) ?_
    exact Sx.ret rfl rfl (ret_0 (by simp_all [isNB]))
  by_cases e8 : b = 124
  · refine Sx.top (y := 124) e8 ?_
    refine Sx.go (fun _ => rfl) ?_
    show Sx X m_Mod_isNameByte 84 [.int b] [] _
    refine Sx.go (fun _ => rfl) ?_
    exact Sx.ret rfl rfl (ret_0 (by simp_all [isNB]))
  by_cases e9 : b = 125
  · refine Sx.top (y := 125) e9 ?_
    refine Sx.go (fun _ => rfl) ?_
    show Sx X m_Mod_isNameByte 84 [.int b] [] _
    refine Sx.go (fun _ => rfl) ?_
    exact Sx.ret rfl rfl (ret_0 (by simp_all [isNB]))
  refine Sx.lsw (off := 85) rfl rfl ((lv_osw e1 rfl).trans ((lv_osw e2 rfl).trans ((lv_osw e3 rfl).trans ((lv_osw e4 rfl).trans ((lv_osw e5 rfl).trans ((lv_osw e6 rfl).trans ((lv_osw e7 rfl).trans ((lv_osw e8 rfl).trans ((lv_osw e9 rfl).trans rfl))))))))) (by decide) ?_
  show Sx X m_Mod_isNameByte 86 [.int b] [] _
  refine Sx.go (fun _ => rfl) ?_
  refine Sx.go (fun _ => rfl) ?_
  refine Sx.go (fun _ => rfl) ?_
  refine Sx.ite (fun c10 => ?_) (fun c10 => ?_)
  · replace c10 : b ≤ 32 := of_decide_eq_true c10
    show Sx X m_Mod_isNameByte 102 [.int b] [] _
    refine Sx.go (fun _ => rfl) ?_
    exact Sx.ret rfl rfl (ret_0 (by simp_all [isNB]))
  · replace c10 : ¬ b ≤ 32 := of_decide_eq_false c10
    show Sx X m_Mod_isNameByte 92 [.int b] [] _
    refine Sx.go (fun _ => rfl) ?_
    refine Sx.go (fun _ => rfl) ?_
    refine Sx.go (fun _ => rfl) ?_
    refine Sx.ite (fun c11 => ?_) (fun c11 => ?_)
    · replace c11 : 127 ≤ b := of_decide_eq_true c11
      show Sx X m_Mod_isNameByte 102 [.int b] [] _
      refine Sx.go (fun _ => rfl) ?_
      rw [i32_127] at c11; exact Sx.ret rfl rfl (ret_0 (by simp_all [isNB]))
    · replace c11 : ¬ 127 ≤ b := of_decide_eq_false c11
      show Sx X m_Mod_isNameByte 98 [.int b] [] _
      refine Sx.go (fun _ => rfl) ?_
      refine Sx.go (fun _ => rfl) ?_
      rw [i32_127] at c11; exact Sx.ret rfl rfl (ret_1 (by simp_all [isNB]))
set_option maxRecDepth 100000 in
set_option maxHeartbeats 1000000 in
theorem sx_Reader_escaped (X : ev_X) (b : Int32) : Sx X m_Reader_escaped 0 [.int b] [] (fun r => r = some (.int (esc b))) := by
  refine Sx.go (fun _ => rfl) ?_
  by_cases e1 : b = 34
  · refine Sx.top (y := 34) e1 ?_
    refine Sx.go (fun _ => rfl) ?_
    show Sx X m_Reader_escaped 52 [.int b] [] _
    refine Sx.go (fun _ => rfl) ?_
    exact Sx.ret rfl (ev_reti rfl) (by simp [esc, e1])
  by_cases e2 : b = 92
  · refine Sx.top (y := 92) e2 ?_
    refine Sx.go (fun _ => rfl) ?_
    show Sx X m_Reader_escaped 52 [.int b] [] _
    refine Sx.go (fun _ => rfl) ?_
    exact Sx.ret rfl (ev_reti rfl) (by simp [esc, e1, e2])
  by_cases e3 : b = 110
  · refine Sx.top (y := 110) e3 ?_
    refine Sx.go (fun _ => rfl) ?_
    show Sx X m_Reader_escaped 54 [.int b] [] _
    refine Sx.go (fun _ => rfl) ?_
    exact Sx.ret rfl (ev_reti rfl) (by simp [esc, e1, e2, e3])
  by_cases e4 : b = 114
  · refine Sx.top (y := 114) e4 ?_
    refine Sx.go (fun _ => rfl) ?_
    show Sx X m_Reader_escaped 57 [.int b] [] _
    refine Sx.go (fun _ => rfl) ?_
    exact Sx.ret rfl (ev_reti rfl) (by simp [esc, e1, e2, e3, e4])
  by_cases e5 : b = 116
  · refine Sx.top (y := 116) e5 ?_
    refine Sx.go (fun _ => rfl) ?_
    show Sx X m_Reader_escaped 60 [.int b] [] _
    refine Sx.go (fun _ => rfl) ?_
    exact Sx.ret rfl (ev_reti rfl) (by simp [esc, e1, e2, e3, e4, e5])
  refine Sx.lsw (off := 62) rfl rfl ((lv_osw e1 rfl).trans ((lv_osw e2 rfl).trans ((lv_osw e3 rfl).trans ((lv_osw e4 rfl).trans ((lv_osw e5 rfl).trans rfl))))) (by decide) ?_
  show Sx X m_Reader_escaped 63 [.int b] [] _
  refine Sx.go (fun _ => rfl) ?_
  exact Sx.ret rfl (ev_reti rfl) (by simp [esc, e1, e2, e3, e4, e5])
end
section
/-! The class reads blanks and names. (rows laid by wip/whole/cr1.py) -/
theorem lk_ne {i n : Nat} : (if i < n then (3 : Int32) else 2) ≠ 0 := by split <;> decide
theorem hb_lt {t : List Nat} {q : Nat} (h : q < t.length) : hb t q = nI (t.getD q 0) := if_pos h
theorem hb_ge {t : List Nat} {q : Nat} (h : ¬ q < t.length) : hb t q = -1 := if_neg h
theorem hb_in {t : List Nat} {q : Nat} (h : hb t q ≠ -1) : q < t.length := by
  by_cases hq : q < t.length
  · exact hq
  · exact absurd (hb_ge hq) h
/-- the answer of a part of the reader: behind what it read, or a fault -/
def rP {α : Type} (c0 n z : Nat) (F0 : Nat → Option va_E) (t : List Nat) (o : Bool × Nat × α) (G : α → (Nat → Option va_E) → Prop) (r : Option Value) (h' : ev_H) : Prop := if o.1 = true then r = some (.int (nI o.2.1)) ∧ ∃ F1, h' = hp c0 n z F1 ∧ G o.2.2 F1 else r = some (.int (-1)) ∧ ∃ F1, h' = hp c0 n z F1 ∧ CE c0 F0 t o.2.1 F1
theorem rP_t {α : Type} {c0 n z : Nat} {F0 F1 : Nat → Option va_E} {t : List Nat} {o : Bool × Nat × α} {G : α → (Nat → Option va_E) → Prop} {q : Nat} {b : α} (e : o = (true, q, b)) (h : G b F1) : rP c0 n z F0 t o G (some (.int (nI q))) (hp c0 n z F1) := by
  subst e
  unfold rP
  rw [if_pos rfl]
  exact ⟨rfl, F1, rfl, h⟩
theorem rP_f {α : Type} {c0 n z : Nat} {F0 F1 : Nat → Option va_E} {t : List Nat} {o : Bool × Nat × α} {G : α → (Nat → Option va_E) → Prop} {q : Nat} {b : α} (e : o = (false, q, b)) (h : CE c0 F0 t q F1) : rP c0 n z F0 t o G (some (.int (-1))) (hp c0 n z F1) := by
  subst e
  unfold rP
  rw [if_neg Bool.false_ne_true]
  exact ⟨rfl, F1, rfl, h⟩
set_option maxRecDepth 100000 in
set_option maxHeartbeats 2000000 in
theorem cr_fail {X : ev_X} {c0 n z : Nat} {F0 : Nat → Option va_E} {t : List Nat} {s p ft fp : Int32} {nu : Int64} {bd tl : List Nat} {F : Nat → Option va_E} (hC : CR c0 F0 t s nu p bd tl ft fp F) (q w : Int32) : Ex X m_Reader_fail 0 [.ref (c0 + 8), .int q, .int w] [] (hp c0 n z F) (fun r h' => r = some (.int (-1)) ∧ ∃ F1, h' = hp c0 n z F1 ∧ CR c0 F0 t s nu p bd tl q w F1) := by
  refine Ex.nx rfl ?_
  refine Ex.nx rfl ?_
  refine CR.pf hC rfl ?_
  intro F1 hC1
  show Ex X m_Reader_fail 5 [.ref (c0 + 8), .int q, .int w] [] (hp c0 n _ _) _
  refine Ex.nx rfl ?_
  refine Ex.nx rfl ?_
  refine CR.pq hC1 rfl ?_
  intro F2 hC2
  show Ex X m_Reader_fail 10 [.ref (c0 + 8), .int q, .int w] [] (hp c0 n _ _) _
  refine Ex.nx rfl ?_
  exact Ex.ret rfl (ev_reti rfl) ⟨rfl, _, rfl, hC2⟩
set_option maxRecDepth 100000 in
set_option maxHeartbeats 2000000 in
theorem cr_lacking {X : ev_X} {c0 n z : Nat} {F0 : Nat → Option va_E} {t : List Nat} {s p ft fp : Int32} {nu : Int64} {bd tl : List Nat} {F : Nat → Option va_E} (hC : CR c0 F0 t s nu p bd tl ft fp F) {kr i : Nat} {l : List Nat} (hr : crw t bd kr l) (hi : i < 2 ^ 31) : Ex X m_Reader_lacking 0 [.ref (c0 + 8), .ref (c0 + kr), .int (nI i)] [] (hp c0 n z F) (fun r h' => r = some (.int (-1)) ∧ ∃ F1, h' = hp c0 n z F1 ∧ CR c0 F0 t s nu p bd tl (if i < l.length then 3 else 2) (nI i) F1) := by
  have hl := crw.le hC hr
  refine Ex.nx rfl ?_
  refine Ex.nx rfl ?_
  refine Ex.nx rfl ?_
  refine CR.sz hC hr rfl rfl rfl ?_
  show Ex X m_Reader_lacking 6 [.ref (c0 + 8), .ref (c0 + kr), .int (nI i)] [.int (nI l.length), .int (nI i), .ref (c0 + 8)] (hp c0 n _ _) _
  refine Ex.nx rfl ?_
  refine Ex.ite (fun c1 => ?_) (fun c1 => ?_)
  · replace c1 : (nI l.length) ≤ (nI i) := of_decide_eq_true c1
    show Ex X m_Reader_lacking 13 [.ref (c0 + 8), .ref (c0 + kr), .int (nI i)] [.ref (c0 + 8)] (hp c0 n _ _) _
    refine Ex.nx rfl ?_
    refine Ex.nx rfl ?_
    refine CR.rd hC rfl rfl rfl rfl (cr_fail hC 2 (nI i)) ?_
    rintro v h1 ⟨rfl, F3, rfl, hC3⟩
    show Ex X m_Reader_lacking 18 [.ref (c0 + 8), .ref (c0 + kr), .int (nI i)] [.int (-1)] (hp c0 n _ _) _
    exact Ex.ret rfl (ev_reti rfl) ⟨rfl, _, rfl, by rw [if_neg (show ¬ i < l.length by have := (nI_leI (by omega) (by omega)).mp c1; omega)]; exact hC3⟩
  · replace c1 : ¬ (nI l.length) ≤ (nI i) := of_decide_eq_false c1
    show Ex X m_Reader_lacking 9 [.ref (c0 + 8), .ref (c0 + kr), .int (nI i)] [.ref (c0 + 8)] (hp c0 n _ _) _
    refine Ex.nx rfl ?_
    refine Ex.nx rfl ?_
    refine Ex.nx rfl ?_
    refine CR.rd hC rfl rfl rfl rfl (cr_fail hC 3 (nI i)) ?_
    rintro v h1 ⟨rfl, F4, rfl, hC4⟩
    show Ex X m_Reader_lacking 18 [.ref (c0 + 8), .ref (c0 + kr), .int (nI i)] [.int (-1)] (hp c0 n _ _) _
    exact Ex.ret rfl (ev_reti rfl) ⟨rfl, _, rfl, by rw [if_pos (Nat.lt_of_not_le (fun q => c1 ((nI_leI (by omega) (by omega)).mpr q)))]; exact hC4⟩
/-- a blank's word bytes from q on -/
def sB (t : List Nat) : Nat → Nat → List Nat → Bool × Nat × List Nat
  | 0, q, acc => (true, q, acc)
  | m + 1, q, acc => if isW (hb t q) = true then (if acc.length = 60 then (false, q, acc) else sB t m (q + 1) (acc ++ [t.getD q 0])) else (true, q, acc)
def bkF (o : Bool × Nat × List Nat) : Bool × Nat × List Nat := if o.1 = true ∧ o.2.1 = 2 then (false, o.2.1, []) else o
def sBk (t : List Nat) : Bool × Nat × List Nat := if hb t 1 = 58 then bkF (sB t (t.length - 2) 2 []) else (false, 1, [])
set_option maxRecDepth 100000 in
set_option maxHeartbeats 2000000 in
theorem cr_bk_t {X : ev_X} {c0 n z : Nat} {F0 : Nat → Option va_E} {t : List Nat} {p fp : Int32} {nu : Int64} {tl acc : List Nat} {F : Nat → Option va_E} {q : Nat} (hq : q ≤ 240) (hC : CR c0 F0 t 1 nu p acc tl 0 fp F) : Ex X m_Reader_readBlank 89 [.ref (c0 + 8), .ref (c0 + 1), .int (nI q)] [] (hp c0 n z F) (rP c0 n z F0 t (bkF (true, q, acc)) (fun b F1 => CR c0 F0 t 1 nu p b tl 0 fp F1)) := by
  refine Ex.nx rfl ?_
  refine Ex.nx rfl ?_
  refine Ex.nx rfl ?_
  refine Ex.ite (fun c1 => ?_) (fun c1 => ?_)
  · replace c1 : ¬ (nI q) = 2 := of_decide_eq_true c1
    show Ex X m_Reader_readBlank 103 [.ref (c0 + 8), .ref (c0 + 1), .int (nI q)] [] (hp c0 n _ _) _
    refine Ex.nx rfl ?_
    exact Ex.ret rfl (ev_reti rfl) (rP_t (show bkF (true, q, acc) = (true, q, acc) from if_neg (fun h => c1 (by rw [show q = 2 from h.2]; rfl))) hC)
  · replace c1 : (nI q) = 2 := Classical.not_not.mp (of_decide_eq_false c1)
    show Ex X m_Reader_readBlank 94 [.ref (c0 + 8), .ref (c0 + 1), .int (nI q)] [] (hp c0 n _ _) _
    refine Ex.nx rfl ?_
    refine Ex.nx rfl ?_
    refine Ex.nx rfl ?_
    refine CR.rd hC rfl rfl rfl rfl (cr_lacking (i := q) hC (Or.inl ⟨rfl, rfl⟩) (by omega)) ?_
    rintro v h1 ⟨rfl, F5, rfl, hC5⟩
    show Ex X m_Reader_readBlank 100 [.ref (c0 + 8), .ref (c0 + 1), .int (nI q)] [.int (-1)] (hp c0 n _ _) _
    refine Ex.nx rfl ?_
    exact Ex.ret rfl (ev_reti rfl) (rP_f (show bkF (true, q, acc) = (false, q, []) from if_pos ⟨rfl, (nI_eq (a := q) (b := 2) (by omega) (by decide)).mp c1⟩) ⟨_, _, _, _, _, _, lk_ne, hC5⟩)
set_option maxRecDepth 100000 in
set_option maxHeartbeats 2000000 in
theorem cr_bk_l {X : ev_X} {c0 n z : Nat} {F0 : Nat → Option va_E} {t : List Nat} {p fp : Int32} {nu : Int64} {tl : List Nat} : ∀ (m q : Nat) (acc : List Nat) (F : Nat → Option va_E) (hm : q + m = t.length) (ha : acc.length ≤ 60) (hC : CR c0 F0 t 1 nu p acc tl 0 fp F), Ex X m_Reader_readBlank 27 [.ref (c0 + 8), .ref (c0 + 1), .int (nI q)] [] (hp c0 n z F) (rP c0 n z F0 t (bkF (sB t m q acc)) (fun b F1 => CR c0 F0 t 1 nu p b tl 0 fp F1)) := by
  intro m
  induction m with
  | zero =>
    intro q acc F hm ha hC
    have hl := hC.rt.le
    show Ex X m_Reader_readBlank 27 _ _ _ (rP c0 n z F0 t (bkF (true, q, acc)) _)
    refine Ex.nx rfl ?_
    refine Ex.nx rfl ?_
    refine CR.sz hC (Or.inl ⟨rfl, rfl⟩) rfl rfl rfl ?_
    show Ex X m_Reader_readBlank 32 [.ref (c0 + 8), .ref (c0 + 1), .int (nI q)] [.int (nI t.length), .int (nI q)] (hp c0 n _ _) _
    refine Ex.nx rfl ?_
    refine Ex.ite (fun c1 => ?_) (fun c1 => ?_)
    · replace c1 : (nI t.length) ≤ (nI q) := of_decide_eq_true c1
      show Ex X m_Reader_readBlank 89 [.ref (c0 + 8), .ref (c0 + 1), .int (nI q)] [] (hp c0 n _ _) _
      show Ex X m_Reader_readBlank 89 [.ref (c0 + 8), .ref (c0 + 1), .int (nI q)] [] (hp c0 n _ _) _
      exact cr_bk_t (by omega) hC
    · replace c1 : ¬ (nI t.length) ≤ (nI q) := of_decide_eq_false c1
      exact absurd (show nI t.length ≤ nI q by rw [show q = t.length by omega]; exact Int32.le_refl _) c1
  | succ m ih =>
    intro q acc F hm ha hC
    have hl := hC.rt.le
    refine Ex.nx rfl ?_
    refine Ex.nx rfl ?_
    refine CR.sz hC (Or.inl ⟨rfl, rfl⟩) rfl rfl rfl ?_
    show Ex X m_Reader_readBlank 32 [.ref (c0 + 8), .ref (c0 + 1), .int (nI q)] [.int (nI t.length), .int (nI q)] (hp c0 n _ _) _
    refine Ex.nx rfl ?_
    refine Ex.ite (fun c1 => ?_) (fun c1 => ?_)
    · replace c1 : (nI t.length) ≤ (nI q) := of_decide_eq_true c1
      exact absurd ((nI_leI (by omega) (by omega)).mp c1) (by omega)
    · replace c1 : ¬ (nI t.length) ≤ (nI q) := of_decide_eq_false c1
      show Ex X m_Reader_readBlank 35 [.ref (c0 + 8), .ref (c0 + 1), .int (nI q)] [] (hp c0 n _ _) _
      refine Ex.nx rfl ?_
      refine Ex.nx rfl ?_
      refine CR.at (i := q) (A0 := []) hC (Or.inl ⟨rfl, rfl⟩) (by omega) rfl rfl rfl ?_
      show Ex X m_Reader_readBlank 40 [.ref (c0 + 8), .ref (c0 + 1), .int (nI q)] [.int (hb t q)] (hp c0 n _ _) _
      refine Hx.calls rfl rfl rfl rfl (sx_Reader_isW X (hb t q)) (fun v hv => ?_)
      subst hv
      show Ex X m_Reader_readBlank 43 [.ref (c0 + 8), .ref (c0 + 1), .int (nI q)] [.int (bi (isW (hb t q)))] (hp c0 n _ _) _
      refine Ex.nx rfl ?_
      refine Ex.ite (fun c2 => ?_) (fun c2 => ?_)
      · replace c2 : (isW (hb t q)) = false := bi_eqt c2
        show Ex X m_Reader_readBlank 89 [.ref (c0 + 8), .ref (c0 + 1), .int (nI q)] [] (hp c0 n _ _) _
        show Ex X m_Reader_readBlank 89 [.ref (c0 + 8), .ref (c0 + 1), .int (nI q)] [] (hp c0 n _ _) _
        rw [show sB t (m + 1) q acc = (true, q, acc) from if_neg (by rw [c2]; decide)]
        exact cr_bk_t (by omega) hC
      · replace c2 : (isW (hb t q)) = true := bi_eqf c2
        show Ex X m_Reader_readBlank 46 [.ref (c0 + 8), .ref (c0 + 1), .int (nI q)] [] (hp c0 n _ _) _
        refine Ex.nx rfl ?_
        refine Hx.get 8 rfl hC.r8 rfl ?_
        refine Hx.get 3 rfl hC.r3 rfl ?_
        refine CR.sz hC (Or.inr ⟨rfl, rfl⟩) rfl rfl rfl ?_
        show Ex X m_Reader_readBlank 56 [.ref (c0 + 8), .ref (c0 + 1), .int (nI q)] [.int (nI acc.length)] (hp c0 n _ _) _
        refine Ex.nx rfl ?_
        refine Ex.nx rfl ?_
        refine Ex.ite (fun c3 => ?_) (fun c3 => ?_)
        · replace c3 : ¬ (nI acc.length) = 60 := of_decide_eq_true c3
          show Ex X m_Reader_readBlank 68 [.ref (c0 + 8), .ref (c0 + 1), .int (nI q)] [] (hp c0 n _ _) _
          refine Ex.nx rfl ?_
          refine Hx.get 8 rfl hC.r8 rfl ?_
          refine Hx.get 3 rfl hC.r3 rfl ?_
          refine Ex.nx rfl ?_
          refine Ex.nx rfl ?_
          refine CR.at (i := q) (A0 := []) hC (Or.inl ⟨rfl, rfl⟩) (by omega) rfl rfl rfl ?_
          show Ex X m_Reader_readBlank 80 [.ref (c0 + 8), .ref (c0 + 1), .int (nI q)] [.int (hb t q), .ref (c0 + 4)] (hp c0 n _ _) _
          refine Hx.top (y := nI (t.getD q 0)) (hb_lt (by omega)) ?_
          refine CR.adb (d := (t.getD q 0)) hC (hC.rt.by q) (by have : acc.length ≠ 60 := fun e => c3 (by rw [e]; rfl); omega) rfl rfl ?_
          intro F6 hC6
          show Ex X m_Reader_readBlank 83 [.ref (c0 + 8), .ref (c0 + 1), .int (nI q)] [] (hp c0 n _ _) _
          refine Ex.nx rfl ?_
          show Ex X m_Reader_readBlank 86 [.ref (c0 + 8), .ref (c0 + 1), .int ((nI q) + 1)] [] (hp c0 n _ _) _
          refine Ex.nx rfl ?_
          show Ex X m_Reader_readBlank 27 [.ref (c0 + 8), .ref (c0 + 1), .int ((nI q) + 1)] [] (hp c0 n _ _) _
          rw [show nI q + 1 = nI (q + 1) from nI_1 q, show sB t (m + 1) q acc = sB t m (q + 1) (acc ++ [t.getD q 0]) from (if_pos c2).trans (if_neg (fun e => c3 (by rw [e]; rfl)))]
          exact ih (q + 1) _ _ (by omega) (by have : acc.length ≠ 60 := fun e => c3 (by rw [e]; rfl); simp only [List.length_append, List.length_cons, List.length_nil]; omega) hC6
        · replace c3 : (nI acc.length) = 60 := Classical.not_not.mp (of_decide_eq_false c3)
          show Ex X m_Reader_readBlank 61 [.ref (c0 + 8), .ref (c0 + 1), .int (nI q)] [] (hp c0 n _ _) _
          refine Ex.nx rfl ?_
          refine Ex.nx rfl ?_
          refine Ex.nx rfl ?_
          refine CR.rd hC rfl rfl rfl rfl (cr_fail hC 4 (nI q)) ?_
          rintro v h1 ⟨rfl, F7, rfl, hC7⟩
          show Ex X m_Reader_readBlank 67 [.ref (c0 + 8), .ref (c0 + 1), .int (nI q)] [.int (-1)] (hp c0 n _ _) _
          exact Ex.ret rfl (ev_reti rfl) (rP_f (show bkF (sB t (m + 1) q acc) = (false, q, acc) by rw [show sB t (m + 1) q acc = (false, q, acc) from (if_pos c2).trans (if_pos ((nI_eq (b := 60) (by omega) (by decide)).mp c3))]; rfl) ⟨_, _, _, _, _, _, (by decide), hC7⟩)
set_option maxRecDepth 100000 in
set_option maxHeartbeats 2000000 in
theorem cr_blank {X : ev_X} {c0 n z : Nat} {F0 : Nat → Option va_E} {t : List Nat} {s p fp : Int32} {nu : Int64} {tl : List Nat} {F : Nat → Option va_E} (hC : CR c0 F0 t s nu p [] tl 0 fp F) : Ex X m_Reader_readBlank 0 [.ref (c0 + 8), .ref (c0 + 1), ev_dead] [] (hp c0 n z F) (rP c0 n z F0 t (sBk t) (fun b F1 => CR c0 F0 t 1 nu p b tl 0 fp F1)) := by
  refine Ex.nx rfl ?_
  refine Hx.get 8 rfl hC.r8 rfl ?_
  refine Ex.nx rfl ?_
  refine CR.ps hC rfl ?_
  intro F8 hC8
  show Ex X m_Reader_readBlank 8 [.ref (c0 + 8), .ref (c0 + 1), ev_dead] [] (hp c0 n _ _) _
  refine Ex.nx rfl ?_
  refine Ex.nx rfl ?_
  refine CR.at (i := 1) (A0 := []) hC8 (Or.inl ⟨rfl, rfl⟩) (by omega) rfl rfl rfl ?_
  show Ex X m_Reader_readBlank 13 [.ref (c0 + 8), .ref (c0 + 1), ev_dead] [.int (hb t 1)] (hp c0 n _ _) _
  refine Ex.nx rfl ?_
  refine Ex.nx rfl ?_
  refine Ex.ite (fun c1 => ?_) (fun c1 => ?_)
  · replace c1 : (hb t 1) = 58 := of_decide_eq_true c1
    show Ex X m_Reader_readBlank 25 [.ref (c0 + 8), .ref (c0 + 1), ev_dead] [] (hp c0 n _ _) _
    refine Ex.nx rfl ?_
    refine Ex.nx rfl ?_
    show Ex X m_Reader_readBlank 27 [.ref (c0 + 8), .ref (c0 + 1), .int 2] [] (hp c0 n _ _) _
    show Ex X m_Reader_readBlank 27 [.ref (c0 + 8), .ref (c0 + 1), .int 2] [] (hp c0 n _ _) _
    have h1 := hb_in (t := t) (q := 1) (by rw [c1]; decide)
    rw [show sBk t = bkF (sB t (t.length - 2) 2 []) from if_pos c1]
    exact cr_bk_l (t.length - 2) 2 [] _ (by omega) (by decide) hC8
  · replace c1 : ¬ (hb t 1) = 58 := of_decide_eq_false c1
    show Ex X m_Reader_readBlank 18 [.ref (c0 + 8), .ref (c0 + 1), ev_dead] [] (hp c0 n _ _) _
    refine Ex.nx rfl ?_
    refine Ex.nx rfl ?_
    refine Ex.nx rfl ?_
    refine CR.rd hC8 rfl rfl rfl rfl (cr_lacking (i := 1) hC8 (Or.inl ⟨rfl, rfl⟩) (by omega)) ?_
    rintro v h1 ⟨rfl, F9, rfl, hC9⟩
    show Ex X m_Reader_readBlank 24 [.ref (c0 + 8), .ref (c0 + 1), ev_dead] [.int (-1)] (hp c0 n _ _) _
    exact Ex.ret rfl (ev_reti rfl) (rP_f (show sBk t = (false, 1, []) from if_neg c1) ⟨_, _, _, _, _, _, lk_ne, hC9⟩)
/-- a name's bytes from q on -/
def sNm (t : List Nat) : Nat → Nat → List Nat → Bool × Nat × List Nat
  | 0, _, acc => (false, t.length, acc)
  | m + 1, q, acc => if hb t q = 62 ∧ acc.length ≠ 0 then (true, q + 1, acc) else if acc.length = 60 then (false, q, acc) else if isNB (hb t q) = true then sNm t m (q + 1) (acc ++ [t.getD q 0]) else (false, q, acc)
def sNa (t : List Nat) (q : Nat) : Bool × Nat × List Nat := if hb t q = 60 then sNm t (t.length - (q + 1)) (q + 1) [] else (false, q, [])
set_option maxRecDepth 100000 in
set_option maxHeartbeats 2000000 in
theorem cr_nm_l4 {X : ev_X} {c0 n z : Nat} {F0 : Nat → Option va_E} {t : List Nat} {s p fp : Int32} {nu : Int64} {tl : List Nat} (sv : Int32) : ∀ (m q : Nat) (acc : List Nat) (F : Nat → Option va_E) (bv : Value) (hm : q + m = t.length) (ha : acc.length ≤ 60) (hC : CR c0 F0 t s nu p acc tl 0 fp F), Ex X m_Reader_readName 22 [.ref (c0 + 8), .ref (c0 + 1), .int sv, .ref (c0 + 4), .int (nI q), bv] [] (hp c0 n z F) (rP c0 n z F0 t (sNm t m q acc) (fun b F1 => CR c0 F0 t s nu p b tl 0 fp F1)) := by
  intro m
  induction m with
  | zero =>
    intro q acc F bv hm ha hC
    have hl := hC.rt.le
    refine Ex.nx rfl ?_
    refine Ex.nx rfl ?_
    refine CR.sz hC (Or.inl ⟨rfl, rfl⟩) rfl rfl rfl ?_
    show Ex X m_Reader_readName 28 [.ref (c0 + 8), .ref (c0 + 1), .int sv, .ref (c0 + 4), .int (nI q), bv] [.int (nI t.length), .int (nI q)] (hp c0 n _ _) _
    refine Ex.nx rfl ?_
    refine Ex.ite (fun c1 => ?_) (fun c1 => ?_)
    · replace c1 : (nI t.length) ≤ (nI q) := of_decide_eq_true c1
      show Ex X m_Reader_readName 103 [.ref (c0 + 8), .ref (c0 + 1), .int sv, .ref (c0 + 4), .int (nI q), bv] [] (hp c0 n _ _) _
      refine Ex.nx rfl ?_
      refine Ex.nx rfl ?_
      refine Ex.nx rfl ?_
      refine CR.sz hC (Or.inl ⟨rfl, rfl⟩) rfl rfl rfl ?_
      show Ex X m_Reader_readName 109 [.ref (c0 + 8), .ref (c0 + 1), .int sv, .ref (c0 + 4), .int (nI q), bv] [.int (nI t.length), .int 2, .ref (c0 + 8)] (hp c0 n _ _) _
      refine CR.rd hC rfl rfl rfl rfl (cr_fail hC 2 (nI t.length)) ?_
      rintro v h1 ⟨rfl, F10, rfl, hC10⟩
      show Ex X m_Reader_readName 112 [.ref (c0 + 8), .ref (c0 + 1), .int sv, .ref (c0 + 4), .int (nI q), bv] [.int (-1)] (hp c0 n _ _) _
      exact Ex.ret rfl (ev_reti rfl) (rP_f (q := t.length) (b := acc) rfl ⟨_, _, _, _, _, _, (by decide), hC10⟩)
    · replace c1 : ¬ (nI t.length) ≤ (nI q) := of_decide_eq_false c1
      exact absurd (show nI t.length ≤ nI q by rw [show q = t.length by omega]; exact Int32.le_refl _) c1
  | succ m ih =>
    intro q acc F bv hm ha hC
    have hl := hC.rt.le
    refine Ex.nx rfl ?_
    refine Ex.nx rfl ?_
    refine CR.sz hC (Or.inl ⟨rfl, rfl⟩) rfl rfl rfl ?_
    show Ex X m_Reader_readName 28 [.ref (c0 + 8), .ref (c0 + 1), .int sv, .ref (c0 + 4), .int (nI q), bv] [.int (nI t.length), .int (nI q)] (hp c0 n _ _) _
    refine Ex.nx rfl ?_
    refine Ex.ite (fun c1 => ?_) (fun c1 => ?_)
    · replace c1 : (nI t.length) ≤ (nI q) := of_decide_eq_true c1
      exact absurd ((nI_leI (by omega) (by omega)).mp c1) (by omega)
    · replace c1 : ¬ (nI t.length) ≤ (nI q) := of_decide_eq_false c1
      show Ex X m_Reader_readName 31 [.ref (c0 + 8), .ref (c0 + 1), .int sv, .ref (c0 + 4), .int (nI q), bv] [] (hp c0 n _ _) _
      refine Ex.nx rfl ?_
      refine Ex.nx rfl ?_
      refine CR.at (i := q) (A0 := []) hC (Or.inl ⟨rfl, rfl⟩) (by omega) rfl rfl rfl ?_
      show Ex X m_Reader_readName 37 [.ref (c0 + 8), .ref (c0 + 1), .int sv, .ref (c0 + 4), .int (nI q), bv] [.int (hb t q)] (hp c0 n _ _) _
      refine Ex.nx rfl ?_
      show Ex X m_Reader_readName 39 [.ref (c0 + 8), .ref (c0 + 1), .int sv, .ref (c0 + 4), .int (nI q), .int (hb t q)] [] (hp c0 n _ _) _
      refine Ex.nx rfl ?_
      refine Ex.nx rfl ?_
      refine Ex.nx rfl ?_
      refine Ex.ite (fun c2 => ?_) (fun c2 => ?_)
      · replace c2 : ¬ (hb t q) = 62 := of_decide_eq_true c2
        show Ex X m_Reader_readName 58 [.ref (c0 + 8), .ref (c0 + 1), .int sv, .ref (c0 + 4), .int (nI q), .int (hb t q)] [] (hp c0 n _ _) _
        refine Ex.nx rfl ?_
        refine CR.sz hC (Or.inr ⟨rfl, rfl⟩) rfl rfl rfl ?_
        show Ex X m_Reader_readName 62 [.ref (c0 + 8), .ref (c0 + 1), .int sv, .ref (c0 + 4), .int (nI q), .int (hb t q)] [.int (nI acc.length)] (hp c0 n _ _) _
        refine Ex.nx rfl ?_
        refine Ex.nx rfl ?_
        refine Ex.ite (fun c3 => ?_) (fun c3 => ?_)
        · replace c3 : ¬ (nI acc.length) = 60 := of_decide_eq_true c3
          show Ex X m_Reader_readName 75 [.ref (c0 + 8), .ref (c0 + 1), .int sv, .ref (c0 + 4), .int (nI q), .int (hb t q)] [] (hp c0 n _ _) _
          refine Ex.nx rfl ?_
          refine Hx.calls rfl rfl rfl rfl (sx_Reader_isNB X (hb t q)) (fun v hv => ?_)
          subst hv
          show Ex X m_Reader_readName 80 [.ref (c0 + 8), .ref (c0 + 1), .int sv, .ref (c0 + 4), .int (nI q), .int (hb t q)] [.int (bi (isNB (hb t q)))] (hp c0 n _ _) _
          refine Ex.nx rfl ?_
          refine Ex.ite (fun c4 => ?_) (fun c4 => ?_)
          · replace c4 : (isNB (hb t q)) = true := bi_net c4
            show Ex X m_Reader_readName 91 [.ref (c0 + 8), .ref (c0 + 1), .int sv, .ref (c0 + 4), .int (nI q), .int (hb t q)] [] (hp c0 n _ _) _
            refine Ex.nx rfl ?_
            refine Ex.nx rfl ?_
            refine Hx.top (y := nI (t.getD q 0)) (hb_lt (by omega)) ?_
            refine CR.adb (d := (t.getD q 0)) hC (hC.rt.by q) (by have : acc.length ≠ 60 := fun e => c3 (by rw [e]; rfl); omega) rfl rfl ?_
            intro F11 hC11
            show Ex X m_Reader_readName 97 [.ref (c0 + 8), .ref (c0 + 1), .int sv, .ref (c0 + 4), .int (nI q), .int (hb t q)] [] (hp c0 n _ _) _
            refine Ex.nx rfl ?_
            show Ex X m_Reader_readName 100 [.ref (c0 + 8), .ref (c0 + 1), .int sv, .ref (c0 + 4), .int ((nI q) + 1), .int (hb t q)] [] (hp c0 n _ _) _
            refine Ex.nx rfl ?_
            show Ex X m_Reader_readName 22 [.ref (c0 + 8), .ref (c0 + 1), .int sv, .ref (c0 + 4), .int ((nI q) + 1), .int (hb t q)] [] (hp c0 n _ _) _
            rw [show nI q + 1 = nI (q + 1) from nI_1 q, show sNm t (m + 1) q acc = sNm t m (q + 1) (acc ++ [t.getD q 0]) from (if_neg (fun h => c2 h.1)).trans ((if_neg (fun e => c3 (by rw [e]; rfl))).trans (if_pos c4))]
            exact ih (q + 1) _ _ _ (by omega) (by have : acc.length ≠ 60 := fun e => c3 (by rw [e]; rfl); simp only [List.length_append, List.length_cons, List.length_nil]; omega) hC11
          · replace c4 : (isNB (hb t q)) = false := bi_nef c4
            show Ex X m_Reader_readName 83 [.ref (c0 + 8), .ref (c0 + 1), .int sv, .ref (c0 + 4), .int (nI q), .int (hb t q)] [] (hp c0 n _ _) _
            refine Ex.nx rfl ?_
            refine Ex.nx rfl ?_
            refine Ex.nx rfl ?_
            refine CR.rd hC rfl rfl rfl rfl (cr_fail hC 3 (nI q)) ?_
            rintro v h1 ⟨rfl, F12, rfl, hC12⟩
            show Ex X m_Reader_readName 90 [.ref (c0 + 8), .ref (c0 + 1), .int sv, .ref (c0 + 4), .int (nI q), .int (hb t q)] [.int (-1)] (hp c0 n _ _) _
            exact Ex.ret rfl (ev_reti rfl) (rP_f (show sNm t (m + 1) q acc = (false, q, acc) from (if_neg (fun h => c2 h.1)).trans ((if_neg (fun e => c3 (by rw [e]; rfl))).trans (if_neg (by rw [c4]; decide)))) ⟨_, _, _, _, _, _, (by decide), hC12⟩)
        · replace c3 : (nI acc.length) = 60 := Classical.not_not.mp (of_decide_eq_false c3)
          show Ex X m_Reader_readName 67 [.ref (c0 + 8), .ref (c0 + 1), .int sv, .ref (c0 + 4), .int (nI q), .int (hb t q)] [] (hp c0 n _ _) _
          refine Ex.nx rfl ?_
          refine Ex.nx rfl ?_
          refine Ex.nx rfl ?_
          refine CR.rd hC rfl rfl rfl rfl (cr_fail hC 4 (nI q)) ?_
          rintro v h1 ⟨rfl, F13, rfl, hC13⟩
          show Ex X m_Reader_readName 74 [.ref (c0 + 8), .ref (c0 + 1), .int sv, .ref (c0 + 4), .int (nI q), .int (hb t q)] [.int (-1)] (hp c0 n _ _) _
          exact Ex.ret rfl (ev_reti rfl) (rP_f (show sNm t (m + 1) q acc = (false, q, acc) from (if_neg (fun h => c2 h.1)).trans (if_pos ((nI_eq (b := 60) (by omega) (by decide)).mp c3))) ⟨_, _, _, _, _, _, (by decide), hC13⟩)
      · replace c2 : (hb t q) = 62 := Classical.not_not.mp (of_decide_eq_false c2)
        show Ex X m_Reader_readName 46 [.ref (c0 + 8), .ref (c0 + 1), .int sv, .ref (c0 + 4), .int (nI q), .int (hb t q)] [] (hp c0 n _ _) _
        refine Ex.nx rfl ?_
        refine CR.sz hC (Or.inr ⟨rfl, rfl⟩) rfl rfl rfl ?_
        show Ex X m_Reader_readName 50 [.ref (c0 + 8), .ref (c0 + 1), .int sv, .ref (c0 + 4), .int (nI q), .int (hb t q)] [.int (nI acc.length)] (hp c0 n _ _) _
        refine Ex.nx rfl ?_
        refine Ex.ite (fun c5 => ?_) (fun c5 => ?_)
        · replace c5 : (nI acc.length) ≤ 0 := of_decide_eq_true c5
          show Ex X m_Reader_readName 58 [.ref (c0 + 8), .ref (c0 + 1), .int sv, .ref (c0 + 4), .int (nI q), .int (hb t q)] [] (hp c0 n _ _) _
          refine Ex.nx rfl ?_
          refine CR.sz hC (Or.inr ⟨rfl, rfl⟩) rfl rfl rfl ?_
          show Ex X m_Reader_readName 62 [.ref (c0 + 8), .ref (c0 + 1), .int sv, .ref (c0 + 4), .int (nI q), .int (hb t q)] [.int (nI acc.length)] (hp c0 n _ _) _
          refine Ex.nx rfl ?_
          refine Ex.nx rfl ?_
          refine Ex.ite (fun c6 => ?_) (fun c6 => ?_)
          · replace c6 : ¬ (nI acc.length) = 60 := of_decide_eq_true c6
            show Ex X m_Reader_readName 75 [.ref (c0 + 8), .ref (c0 + 1), .int sv, .ref (c0 + 4), .int (nI q), .int (hb t q)] [] (hp c0 n _ _) _
            refine Ex.nx rfl ?_
            refine Hx.calls rfl rfl rfl rfl (sx_Reader_isNB X (hb t q)) (fun v hv => ?_)
            subst hv
            show Ex X m_Reader_readName 80 [.ref (c0 + 8), .ref (c0 + 1), .int sv, .ref (c0 + 4), .int (nI q), .int (hb t q)] [.int (bi (isNB (hb t q)))] (hp c0 n _ _) _
            refine Ex.nx rfl ?_
            refine Ex.ite (fun c7 => ?_) (fun c7 => ?_)
            · replace c7 : (isNB (hb t q)) = true := bi_net c7
              show Ex X m_Reader_readName 91 [.ref (c0 + 8), .ref (c0 + 1), .int sv, .ref (c0 + 4), .int (nI q), .int (hb t q)] [] (hp c0 n _ _) _
              refine Ex.nx rfl ?_
              refine Ex.nx rfl ?_
              refine Hx.top (y := nI (t.getD q 0)) (hb_lt (by omega)) ?_
              refine CR.adb (d := (t.getD q 0)) hC (hC.rt.by q) (by have : acc.length ≠ 60 := fun e => c6 (by rw [e]; rfl); omega) rfl rfl ?_
              intro F14 hC14
              show Ex X m_Reader_readName 97 [.ref (c0 + 8), .ref (c0 + 1), .int sv, .ref (c0 + 4), .int (nI q), .int (hb t q)] [] (hp c0 n _ _) _
              refine Ex.nx rfl ?_
              show Ex X m_Reader_readName 100 [.ref (c0 + 8), .ref (c0 + 1), .int sv, .ref (c0 + 4), .int ((nI q) + 1), .int (hb t q)] [] (hp c0 n _ _) _
              refine Ex.nx rfl ?_
              show Ex X m_Reader_readName 22 [.ref (c0 + 8), .ref (c0 + 1), .int sv, .ref (c0 + 4), .int ((nI q) + 1), .int (hb t q)] [] (hp c0 n _ _) _
              rw [show nI q + 1 = nI (q + 1) from nI_1 q, show sNm t (m + 1) q acc = sNm t m (q + 1) (acc ++ [t.getD q 0]) from (if_neg (fun h => h.2 (by have := (nI_leI (b := 0) (by omega) (by decide)).mp c5; omega))).trans ((if_neg (fun e => c6 (by rw [e]; rfl))).trans (if_pos c7))]
              exact ih (q + 1) _ _ _ (by omega) (by have : acc.length ≠ 60 := fun e => c6 (by rw [e]; rfl); simp only [List.length_append, List.length_cons, List.length_nil]; omega) hC14
            · replace c7 : (isNB (hb t q)) = false := bi_nef c7
              show Ex X m_Reader_readName 83 [.ref (c0 + 8), .ref (c0 + 1), .int sv, .ref (c0 + 4), .int (nI q), .int (hb t q)] [] (hp c0 n _ _) _
              refine Ex.nx rfl ?_
              refine Ex.nx rfl ?_
              refine Ex.nx rfl ?_
              refine CR.rd hC rfl rfl rfl rfl (cr_fail hC 3 (nI q)) ?_
              rintro v h1 ⟨rfl, F15, rfl, hC15⟩
              show Ex X m_Reader_readName 90 [.ref (c0 + 8), .ref (c0 + 1), .int sv, .ref (c0 + 4), .int (nI q), .int (hb t q)] [.int (-1)] (hp c0 n _ _) _
              exact Ex.ret rfl (ev_reti rfl) (rP_f (show sNm t (m + 1) q acc = (false, q, acc) from (if_neg (fun h => h.2 (by have := (nI_leI (b := 0) (by omega) (by decide)).mp c5; omega))).trans ((if_neg (fun e => c6 (by rw [e]; rfl))).trans (if_neg (by rw [c7]; decide)))) ⟨_, _, _, _, _, _, (by decide), hC15⟩)
          · replace c6 : (nI acc.length) = 60 := Classical.not_not.mp (of_decide_eq_false c6)
            show Ex X m_Reader_readName 67 [.ref (c0 + 8), .ref (c0 + 1), .int sv, .ref (c0 + 4), .int (nI q), .int (hb t q)] [] (hp c0 n _ _) _
            refine Ex.nx rfl ?_
            refine Ex.nx rfl ?_
            refine Ex.nx rfl ?_
            refine CR.rd hC rfl rfl rfl rfl (cr_fail hC 4 (nI q)) ?_
            rintro v h1 ⟨rfl, F16, rfl, hC16⟩
            show Ex X m_Reader_readName 74 [.ref (c0 + 8), .ref (c0 + 1), .int sv, .ref (c0 + 4), .int (nI q), .int (hb t q)] [.int (-1)] (hp c0 n _ _) _
            exact Ex.ret rfl (ev_reti rfl) (rP_f (show sNm t (m + 1) q acc = (false, q, acc) from (if_neg (fun h => h.2 (by have := (nI_leI (b := 0) (by omega) (by decide)).mp c5; omega))).trans (if_pos ((nI_eq (b := 60) (by omega) (by decide)).mp c6))) ⟨_, _, _, _, _, _, (by decide), hC16⟩)
        · replace c5 : ¬ (nI acc.length) ≤ 0 := of_decide_eq_false c5
          show Ex X m_Reader_readName 53 [.ref (c0 + 8), .ref (c0 + 1), .int sv, .ref (c0 + 4), .int (nI q), .int (hb t q)] [] (hp c0 n _ _) _
          refine Ex.nx rfl ?_
          refine Ex.nx rfl ?_
          refine Ex.nx rfl ?_
          refine Hx.top (y := nI (q + 1)) (nI_1 q) ?_
          exact Ex.ret rfl (ev_reti rfl) (rP_t (show sNm t (m + 1) q acc = (true, q + 1, acc) from if_pos ⟨c2, fun e => c5 (by rw [e]; decide)⟩) hC)
set_option maxRecDepth 100000 in
set_option maxHeartbeats 2000000 in
theorem cr_name4 {X : ev_X} {c0 n z : Nat} {F0 : Nat → Option va_E} {t : List Nat} {s p fp : Int32} {nu : Int64} {tl : List Nat} {F : Nat → Option va_E} {q : Nat} (hq : q ≤ 1000) (hC : CR c0 F0 t s nu p ([]) tl 0 fp F) : Ex X m_Reader_readName 0 [.ref (c0 + 8), .ref (c0 + 1), .int (nI q), .ref (c0 + 4), ev_dead, ev_dead] [] (hp c0 n z F) (rP c0 n z F0 t (sNa t q) (fun b F1 => CR c0 F0 t s nu p b tl 0 fp F1)) := by
  refine Ex.nx rfl ?_
  refine Ex.nx rfl ?_
  refine CR.at (i := q) (A0 := []) hC (Or.inl ⟨rfl, rfl⟩) (by omega) rfl rfl rfl ?_
  show Ex X m_Reader_readName 5 [.ref (c0 + 8), .ref (c0 + 1), .int (nI q), .ref (c0 + 4), ev_dead, ev_dead] [.int (hb t q)] (hp c0 n _ _) _
  refine Ex.nx rfl ?_
  refine Ex.nx rfl ?_
  refine Ex.ite (fun c1 => ?_) (fun c1 => ?_)
  · replace c1 : (hb t q) = 60 := of_decide_eq_true c1
    show Ex X m_Reader_readName 17 [.ref (c0 + 8), .ref (c0 + 1), .int (nI q), .ref (c0 + 4), ev_dead, ev_dead] [] (hp c0 n _ _) _
    refine Ex.nx rfl ?_
    refine Ex.nx rfl ?_
    refine Ex.nx rfl ?_
    refine Hx.top (y := nI (q + 1)) (nI_1 q) ?_
    refine Ex.nx rfl ?_
    show Ex X m_Reader_readName 22 [.ref (c0 + 8), .ref (c0 + 1), .int (nI q), .ref (c0 + 4), .int (nI (q + 1)), ev_dead] [] (hp c0 n _ _) _
    show Ex X m_Reader_readName 22 [.ref (c0 + 8), .ref (c0 + 1), .int (nI q), .ref (c0 + 4), .int (nI (q + 1)), ev_dead] [] (hp c0 n _ _) _
    have h1 := hb_in (t := t) (q := q) (by rw [c1]; decide)
    rw [show sNa t q = sNm t (t.length - (q + 1)) (q + 1) [] from if_pos c1]
    exact cr_nm_l4 (nI q) (t.length - (q + 1)) (q + 1) [] _ _ (by omega) (by decide) hC
  · replace c1 : ¬ (hb t q) = 60 := of_decide_eq_false c1
    show Ex X m_Reader_readName 10 [.ref (c0 + 8), .ref (c0 + 1), .int (nI q), .ref (c0 + 4), ev_dead, ev_dead] [] (hp c0 n _ _) _
    refine Ex.nx rfl ?_
    refine Ex.nx rfl ?_
    refine Ex.nx rfl ?_
    refine CR.rd hC rfl rfl rfl rfl (cr_lacking (i := q) hC (Or.inl ⟨rfl, rfl⟩) (by omega)) ?_
    rintro v h1 ⟨rfl, F17, rfl, hC17⟩
    show Ex X m_Reader_readName 16 [.ref (c0 + 8), .ref (c0 + 1), .int (nI q), .ref (c0 + 4), ev_dead, ev_dead] [.int (-1)] (hp c0 n _ _) _
    exact Ex.ret rfl (ev_reti rfl) (rP_f (show sNa t q = (false, q, []) from if_neg c1) ⟨_, _, _, _, _, _, lk_ne, hC17⟩)
set_option maxRecDepth 100000 in
set_option maxHeartbeats 2000000 in
theorem cr_nm_l6 {X : ev_X} {c0 n z : Nat} {F0 : Nat → Option va_E} {t : List Nat} {s p fp : Int32} {nu : Int64} {bd : List Nat} (sv : Int32) : ∀ (m q : Nat) (acc : List Nat) (F : Nat → Option va_E) (bv : Value) (hm : q + m = t.length) (ha : acc.length ≤ 60) (hC : CR c0 F0 t s nu p bd acc 0 fp F), Ex X m_Reader_readName 22 [.ref (c0 + 8), .ref (c0 + 1), .int sv, .ref (c0 + 6), .int (nI q), bv] [] (hp c0 n z F) (rP c0 n z F0 t (sNm t m q acc) (fun b F1 => CR c0 F0 t s nu p bd b 0 fp F1)) := by
  intro m
  induction m with
  | zero =>
    intro q acc F bv hm ha hC
    have hl := hC.rt.le
    refine Ex.nx rfl ?_
    refine Ex.nx rfl ?_
    refine CR.sz hC (Or.inl ⟨rfl, rfl⟩) rfl rfl rfl ?_
    show Ex X m_Reader_readName 28 [.ref (c0 + 8), .ref (c0 + 1), .int sv, .ref (c0 + 6), .int (nI q), bv] [.int (nI t.length), .int (nI q)] (hp c0 n _ _) _
    refine Ex.nx rfl ?_
    refine Ex.ite (fun c1 => ?_) (fun c1 => ?_)
    · replace c1 : (nI t.length) ≤ (nI q) := of_decide_eq_true c1
      show Ex X m_Reader_readName 103 [.ref (c0 + 8), .ref (c0 + 1), .int sv, .ref (c0 + 6), .int (nI q), bv] [] (hp c0 n _ _) _
      refine Ex.nx rfl ?_
      refine Ex.nx rfl ?_
      refine Ex.nx rfl ?_
      refine CR.sz hC (Or.inl ⟨rfl, rfl⟩) rfl rfl rfl ?_
      show Ex X m_Reader_readName 109 [.ref (c0 + 8), .ref (c0 + 1), .int sv, .ref (c0 + 6), .int (nI q), bv] [.int (nI t.length), .int 2, .ref (c0 + 8)] (hp c0 n _ _) _
      refine CR.rd hC rfl rfl rfl rfl (cr_fail hC 2 (nI t.length)) ?_
      rintro v h1 ⟨rfl, F18, rfl, hC18⟩
      show Ex X m_Reader_readName 112 [.ref (c0 + 8), .ref (c0 + 1), .int sv, .ref (c0 + 6), .int (nI q), bv] [.int (-1)] (hp c0 n _ _) _
      exact Ex.ret rfl (ev_reti rfl) (rP_f (q := t.length) (b := acc) rfl ⟨_, _, _, _, _, _, (by decide), hC18⟩)
    · replace c1 : ¬ (nI t.length) ≤ (nI q) := of_decide_eq_false c1
      exact absurd (show nI t.length ≤ nI q by rw [show q = t.length by omega]; exact Int32.le_refl _) c1
  | succ m ih =>
    intro q acc F bv hm ha hC
    have hl := hC.rt.le
    refine Ex.nx rfl ?_
    refine Ex.nx rfl ?_
    refine CR.sz hC (Or.inl ⟨rfl, rfl⟩) rfl rfl rfl ?_
    show Ex X m_Reader_readName 28 [.ref (c0 + 8), .ref (c0 + 1), .int sv, .ref (c0 + 6), .int (nI q), bv] [.int (nI t.length), .int (nI q)] (hp c0 n _ _) _
    refine Ex.nx rfl ?_
    refine Ex.ite (fun c1 => ?_) (fun c1 => ?_)
    · replace c1 : (nI t.length) ≤ (nI q) := of_decide_eq_true c1
      exact absurd ((nI_leI (by omega) (by omega)).mp c1) (by omega)
    · replace c1 : ¬ (nI t.length) ≤ (nI q) := of_decide_eq_false c1
      show Ex X m_Reader_readName 31 [.ref (c0 + 8), .ref (c0 + 1), .int sv, .ref (c0 + 6), .int (nI q), bv] [] (hp c0 n _ _) _
      refine Ex.nx rfl ?_
      refine Ex.nx rfl ?_
      refine CR.at (i := q) (A0 := []) hC (Or.inl ⟨rfl, rfl⟩) (by omega) rfl rfl rfl ?_
      show Ex X m_Reader_readName 37 [.ref (c0 + 8), .ref (c0 + 1), .int sv, .ref (c0 + 6), .int (nI q), bv] [.int (hb t q)] (hp c0 n _ _) _
      refine Ex.nx rfl ?_
      show Ex X m_Reader_readName 39 [.ref (c0 + 8), .ref (c0 + 1), .int sv, .ref (c0 + 6), .int (nI q), .int (hb t q)] [] (hp c0 n _ _) _
      refine Ex.nx rfl ?_
      refine Ex.nx rfl ?_
      refine Ex.nx rfl ?_
      refine Ex.ite (fun c2 => ?_) (fun c2 => ?_)
      · replace c2 : ¬ (hb t q) = 62 := of_decide_eq_true c2
        show Ex X m_Reader_readName 58 [.ref (c0 + 8), .ref (c0 + 1), .int sv, .ref (c0 + 6), .int (nI q), .int (hb t q)] [] (hp c0 n _ _) _
        refine Ex.nx rfl ?_
        refine CR.szt hC rfl rfl rfl ?_
        show Ex X m_Reader_readName 62 [.ref (c0 + 8), .ref (c0 + 1), .int sv, .ref (c0 + 6), .int (nI q), .int (hb t q)] [.int (nI acc.length)] (hp c0 n _ _) _
        refine Ex.nx rfl ?_
        refine Ex.nx rfl ?_
        refine Ex.ite (fun c3 => ?_) (fun c3 => ?_)
        · replace c3 : ¬ (nI acc.length) = 60 := of_decide_eq_true c3
          show Ex X m_Reader_readName 75 [.ref (c0 + 8), .ref (c0 + 1), .int sv, .ref (c0 + 6), .int (nI q), .int (hb t q)] [] (hp c0 n _ _) _
          refine Ex.nx rfl ?_
          refine Hx.calls rfl rfl rfl rfl (sx_Reader_isNB X (hb t q)) (fun v hv => ?_)
          subst hv
          show Ex X m_Reader_readName 80 [.ref (c0 + 8), .ref (c0 + 1), .int sv, .ref (c0 + 6), .int (nI q), .int (hb t q)] [.int (bi (isNB (hb t q)))] (hp c0 n _ _) _
          refine Ex.nx rfl ?_
          refine Ex.ite (fun c4 => ?_) (fun c4 => ?_)
          · replace c4 : (isNB (hb t q)) = true := bi_net c4
            show Ex X m_Reader_readName 91 [.ref (c0 + 8), .ref (c0 + 1), .int sv, .ref (c0 + 6), .int (nI q), .int (hb t q)] [] (hp c0 n _ _) _
            refine Ex.nx rfl ?_
            refine Ex.nx rfl ?_
            refine Hx.top (y := nI (t.getD q 0)) (hb_lt (by omega)) ?_
            refine CR.adt (d := (t.getD q 0)) hC (hC.rt.by q) (by have : acc.length ≠ 60 := fun e => c3 (by rw [e]; rfl); omega) rfl rfl ?_
            intro F19 hC19
            show Ex X m_Reader_readName 97 [.ref (c0 + 8), .ref (c0 + 1), .int sv, .ref (c0 + 6), .int (nI q), .int (hb t q)] [] (hp c0 n _ _) _
            refine Ex.nx rfl ?_
            show Ex X m_Reader_readName 100 [.ref (c0 + 8), .ref (c0 + 1), .int sv, .ref (c0 + 6), .int ((nI q) + 1), .int (hb t q)] [] (hp c0 n _ _) _
            refine Ex.nx rfl ?_
            show Ex X m_Reader_readName 22 [.ref (c0 + 8), .ref (c0 + 1), .int sv, .ref (c0 + 6), .int ((nI q) + 1), .int (hb t q)] [] (hp c0 n _ _) _
            rw [show nI q + 1 = nI (q + 1) from nI_1 q, show sNm t (m + 1) q acc = sNm t m (q + 1) (acc ++ [t.getD q 0]) from (if_neg (fun h => c2 h.1)).trans ((if_neg (fun e => c3 (by rw [e]; rfl))).trans (if_pos c4))]
            exact ih (q + 1) _ _ _ (by omega) (by have : acc.length ≠ 60 := fun e => c3 (by rw [e]; rfl); simp only [List.length_append, List.length_cons, List.length_nil]; omega) hC19
          · replace c4 : (isNB (hb t q)) = false := bi_nef c4
            show Ex X m_Reader_readName 83 [.ref (c0 + 8), .ref (c0 + 1), .int sv, .ref (c0 + 6), .int (nI q), .int (hb t q)] [] (hp c0 n _ _) _
            refine Ex.nx rfl ?_
            refine Ex.nx rfl ?_
            refine Ex.nx rfl ?_
            refine CR.rd hC rfl rfl rfl rfl (cr_fail hC 3 (nI q)) ?_
            rintro v h1 ⟨rfl, F20, rfl, hC20⟩
            show Ex X m_Reader_readName 90 [.ref (c0 + 8), .ref (c0 + 1), .int sv, .ref (c0 + 6), .int (nI q), .int (hb t q)] [.int (-1)] (hp c0 n _ _) _
            exact Ex.ret rfl (ev_reti rfl) (rP_f (show sNm t (m + 1) q acc = (false, q, acc) from (if_neg (fun h => c2 h.1)).trans ((if_neg (fun e => c3 (by rw [e]; rfl))).trans (if_neg (by rw [c4]; decide)))) ⟨_, _, _, _, _, _, (by decide), hC20⟩)
        · replace c3 : (nI acc.length) = 60 := Classical.not_not.mp (of_decide_eq_false c3)
          show Ex X m_Reader_readName 67 [.ref (c0 + 8), .ref (c0 + 1), .int sv, .ref (c0 + 6), .int (nI q), .int (hb t q)] [] (hp c0 n _ _) _
          refine Ex.nx rfl ?_
          refine Ex.nx rfl ?_
          refine Ex.nx rfl ?_
          refine CR.rd hC rfl rfl rfl rfl (cr_fail hC 4 (nI q)) ?_
          rintro v h1 ⟨rfl, F21, rfl, hC21⟩
          show Ex X m_Reader_readName 74 [.ref (c0 + 8), .ref (c0 + 1), .int sv, .ref (c0 + 6), .int (nI q), .int (hb t q)] [.int (-1)] (hp c0 n _ _) _
          exact Ex.ret rfl (ev_reti rfl) (rP_f (show sNm t (m + 1) q acc = (false, q, acc) from (if_neg (fun h => c2 h.1)).trans (if_pos ((nI_eq (b := 60) (by omega) (by decide)).mp c3))) ⟨_, _, _, _, _, _, (by decide), hC21⟩)
      · replace c2 : (hb t q) = 62 := Classical.not_not.mp (of_decide_eq_false c2)
        show Ex X m_Reader_readName 46 [.ref (c0 + 8), .ref (c0 + 1), .int sv, .ref (c0 + 6), .int (nI q), .int (hb t q)] [] (hp c0 n _ _) _
        refine Ex.nx rfl ?_
        refine CR.szt hC rfl rfl rfl ?_
        show Ex X m_Reader_readName 50 [.ref (c0 + 8), .ref (c0 + 1), .int sv, .ref (c0 + 6), .int (nI q), .int (hb t q)] [.int (nI acc.length)] (hp c0 n _ _) _
        refine Ex.nx rfl ?_
        refine Ex.ite (fun c5 => ?_) (fun c5 => ?_)
        · replace c5 : (nI acc.length) ≤ 0 := of_decide_eq_true c5
          show Ex X m_Reader_readName 58 [.ref (c0 + 8), .ref (c0 + 1), .int sv, .ref (c0 + 6), .int (nI q), .int (hb t q)] [] (hp c0 n _ _) _
          refine Ex.nx rfl ?_
          refine CR.szt hC rfl rfl rfl ?_
          show Ex X m_Reader_readName 62 [.ref (c0 + 8), .ref (c0 + 1), .int sv, .ref (c0 + 6), .int (nI q), .int (hb t q)] [.int (nI acc.length)] (hp c0 n _ _) _
          refine Ex.nx rfl ?_
          refine Ex.nx rfl ?_
          refine Ex.ite (fun c6 => ?_) (fun c6 => ?_)
          · replace c6 : ¬ (nI acc.length) = 60 := of_decide_eq_true c6
            show Ex X m_Reader_readName 75 [.ref (c0 + 8), .ref (c0 + 1), .int sv, .ref (c0 + 6), .int (nI q), .int (hb t q)] [] (hp c0 n _ _) _
            refine Ex.nx rfl ?_
            refine Hx.calls rfl rfl rfl rfl (sx_Reader_isNB X (hb t q)) (fun v hv => ?_)
            subst hv
            show Ex X m_Reader_readName 80 [.ref (c0 + 8), .ref (c0 + 1), .int sv, .ref (c0 + 6), .int (nI q), .int (hb t q)] [.int (bi (isNB (hb t q)))] (hp c0 n _ _) _
            refine Ex.nx rfl ?_
            refine Ex.ite (fun c7 => ?_) (fun c7 => ?_)
            · replace c7 : (isNB (hb t q)) = true := bi_net c7
              show Ex X m_Reader_readName 91 [.ref (c0 + 8), .ref (c0 + 1), .int sv, .ref (c0 + 6), .int (nI q), .int (hb t q)] [] (hp c0 n _ _) _
              refine Ex.nx rfl ?_
              refine Ex.nx rfl ?_
              refine Hx.top (y := nI (t.getD q 0)) (hb_lt (by omega)) ?_
              refine CR.adt (d := (t.getD q 0)) hC (hC.rt.by q) (by have : acc.length ≠ 60 := fun e => c6 (by rw [e]; rfl); omega) rfl rfl ?_
              intro F22 hC22
              show Ex X m_Reader_readName 97 [.ref (c0 + 8), .ref (c0 + 1), .int sv, .ref (c0 + 6), .int (nI q), .int (hb t q)] [] (hp c0 n _ _) _
              refine Ex.nx rfl ?_
              show Ex X m_Reader_readName 100 [.ref (c0 + 8), .ref (c0 + 1), .int sv, .ref (c0 + 6), .int ((nI q) + 1), .int (hb t q)] [] (hp c0 n _ _) _
              refine Ex.nx rfl ?_
              show Ex X m_Reader_readName 22 [.ref (c0 + 8), .ref (c0 + 1), .int sv, .ref (c0 + 6), .int ((nI q) + 1), .int (hb t q)] [] (hp c0 n _ _) _
              rw [show nI q + 1 = nI (q + 1) from nI_1 q, show sNm t (m + 1) q acc = sNm t m (q + 1) (acc ++ [t.getD q 0]) from (if_neg (fun h => h.2 (by have := (nI_leI (b := 0) (by omega) (by decide)).mp c5; omega))).trans ((if_neg (fun e => c6 (by rw [e]; rfl))).trans (if_pos c7))]
              exact ih (q + 1) _ _ _ (by omega) (by have : acc.length ≠ 60 := fun e => c6 (by rw [e]; rfl); simp only [List.length_append, List.length_cons, List.length_nil]; omega) hC22
            · replace c7 : (isNB (hb t q)) = false := bi_nef c7
              show Ex X m_Reader_readName 83 [.ref (c0 + 8), .ref (c0 + 1), .int sv, .ref (c0 + 6), .int (nI q), .int (hb t q)] [] (hp c0 n _ _) _
              refine Ex.nx rfl ?_
              refine Ex.nx rfl ?_
              refine Ex.nx rfl ?_
              refine CR.rd hC rfl rfl rfl rfl (cr_fail hC 3 (nI q)) ?_
              rintro v h1 ⟨rfl, F23, rfl, hC23⟩
              show Ex X m_Reader_readName 90 [.ref (c0 + 8), .ref (c0 + 1), .int sv, .ref (c0 + 6), .int (nI q), .int (hb t q)] [.int (-1)] (hp c0 n _ _) _
              exact Ex.ret rfl (ev_reti rfl) (rP_f (show sNm t (m + 1) q acc = (false, q, acc) from (if_neg (fun h => h.2 (by have := (nI_leI (b := 0) (by omega) (by decide)).mp c5; omega))).trans ((if_neg (fun e => c6 (by rw [e]; rfl))).trans (if_neg (by rw [c7]; decide)))) ⟨_, _, _, _, _, _, (by decide), hC23⟩)
          · replace c6 : (nI acc.length) = 60 := Classical.not_not.mp (of_decide_eq_false c6)
            show Ex X m_Reader_readName 67 [.ref (c0 + 8), .ref (c0 + 1), .int sv, .ref (c0 + 6), .int (nI q), .int (hb t q)] [] (hp c0 n _ _) _
            refine Ex.nx rfl ?_
            refine Ex.nx rfl ?_
            refine Ex.nx rfl ?_
            refine CR.rd hC rfl rfl rfl rfl (cr_fail hC 4 (nI q)) ?_
            rintro v h1 ⟨rfl, F24, rfl, hC24⟩
            show Ex X m_Reader_readName 74 [.ref (c0 + 8), .ref (c0 + 1), .int sv, .ref (c0 + 6), .int (nI q), .int (hb t q)] [.int (-1)] (hp c0 n _ _) _
            exact Ex.ret rfl (ev_reti rfl) (rP_f (show sNm t (m + 1) q acc = (false, q, acc) from (if_neg (fun h => h.2 (by have := (nI_leI (b := 0) (by omega) (by decide)).mp c5; omega))).trans (if_pos ((nI_eq (b := 60) (by omega) (by decide)).mp c6))) ⟨_, _, _, _, _, _, (by decide), hC24⟩)
        · replace c5 : ¬ (nI acc.length) ≤ 0 := of_decide_eq_false c5
          show Ex X m_Reader_readName 53 [.ref (c0 + 8), .ref (c0 + 1), .int sv, .ref (c0 + 6), .int (nI q), .int (hb t q)] [] (hp c0 n _ _) _
          refine Ex.nx rfl ?_
          refine Ex.nx rfl ?_
          refine Ex.nx rfl ?_
          refine Hx.top (y := nI (q + 1)) (nI_1 q) ?_
          exact Ex.ret rfl (ev_reti rfl) (rP_t (show sNm t (m + 1) q acc = (true, q + 1, acc) from if_pos ⟨c2, fun e => c5 (by rw [e]; decide)⟩) hC)
set_option maxRecDepth 100000 in
set_option maxHeartbeats 2000000 in
theorem cr_name6 {X : ev_X} {c0 n z : Nat} {F0 : Nat → Option va_E} {t : List Nat} {s p fp : Int32} {nu : Int64} {bd : List Nat} {F : Nat → Option va_E} {q : Nat} (hq : q ≤ 1000) (hC : CR c0 F0 t s nu p bd ([]) 0 fp F) : Ex X m_Reader_readName 0 [.ref (c0 + 8), .ref (c0 + 1), .int (nI q), .ref (c0 + 6), ev_dead, ev_dead] [] (hp c0 n z F) (rP c0 n z F0 t (sNa t q) (fun b F1 => CR c0 F0 t s nu p bd b 0 fp F1)) := by
  refine Ex.nx rfl ?_
  refine Ex.nx rfl ?_
  refine CR.at (i := q) (A0 := []) hC (Or.inl ⟨rfl, rfl⟩) (by omega) rfl rfl rfl ?_
  show Ex X m_Reader_readName 5 [.ref (c0 + 8), .ref (c0 + 1), .int (nI q), .ref (c0 + 6), ev_dead, ev_dead] [.int (hb t q)] (hp c0 n _ _) _
  refine Ex.nx rfl ?_
  refine Ex.nx rfl ?_
  refine Ex.ite (fun c1 => ?_) (fun c1 => ?_)
  · replace c1 : (hb t q) = 60 := of_decide_eq_true c1
    show Ex X m_Reader_readName 17 [.ref (c0 + 8), .ref (c0 + 1), .int (nI q), .ref (c0 + 6), ev_dead, ev_dead] [] (hp c0 n _ _) _
    refine Ex.nx rfl ?_
    refine Ex.nx rfl ?_
    refine Ex.nx rfl ?_
    refine Hx.top (y := nI (q + 1)) (nI_1 q) ?_
    refine Ex.nx rfl ?_
    show Ex X m_Reader_readName 22 [.ref (c0 + 8), .ref (c0 + 1), .int (nI q), .ref (c0 + 6), .int (nI (q + 1)), ev_dead] [] (hp c0 n _ _) _
    show Ex X m_Reader_readName 22 [.ref (c0 + 8), .ref (c0 + 1), .int (nI q), .ref (c0 + 6), .int (nI (q + 1)), ev_dead] [] (hp c0 n _ _) _
    have h1 := hb_in (t := t) (q := q) (by rw [c1]; decide)
    rw [show sNa t q = sNm t (t.length - (q + 1)) (q + 1) [] from if_pos c1]
    exact cr_nm_l6 (nI q) (t.length - (q + 1)) (q + 1) [] _ _ (by omega) (by decide) hC
  · replace c1 : ¬ (hb t q) = 60 := of_decide_eq_false c1
    show Ex X m_Reader_readName 10 [.ref (c0 + 8), .ref (c0 + 1), .int (nI q), .ref (c0 + 6), ev_dead, ev_dead] [] (hp c0 n _ _) _
    refine Ex.nx rfl ?_
    refine Ex.nx rfl ?_
    refine Ex.nx rfl ?_
    refine CR.rd hC rfl rfl rfl rfl (cr_lacking (i := q) hC (Or.inl ⟨rfl, rfl⟩) (by omega)) ?_
    rintro v h1 ⟨rfl, F25, rfl, hC25⟩
    show Ex X m_Reader_readName 16 [.ref (c0 + 8), .ref (c0 + 1), .int (nI q), .ref (c0 + 6), ev_dead, ev_dead] [.int (-1)] (hp c0 n _ _) _
    exact Ex.ret rfl (ev_reti rfl) (rP_f (show sNa t q = (false, q, []) from if_neg c1) ⟨_, _, _, _, _, _, lk_ne, hC25⟩)
end
section
/-! The class reads items and tags. (rows laid by wip/whole/cr2.py) -/
theorem L45 : isL 45 = false := by decide
theorem D45 : isD 45 = false := by decide
def smlN (b : Nat) : Nat := if 65 ≤ b ∧ b ≤ 90 then b + 32 else b
set_option maxRecDepth 100000 in
theorem sml_all : ∀ b : Nat, b < 256 → sml (nI b) = nI (smlN b) := by decide +kernel
set_option maxRecDepth 100000 in
theorem smlN_lt : ∀ b : Nat, b < 256 → smlN b < 256 := by decide +kernel
def eN (b : Nat) : Nat := if b = 110 then 10 else if b = 114 then 13 else if b = 116 then 9 else b
set_option maxRecDepth 100000 in
theorem esc_all : ∀ b : Nat, b < 256 → 0 ≤ esc (nI b) → esc (nI b) = nI (eN b) := by decide +kernel
set_option maxRecDepth 100000 in
theorem eN_lt : ∀ b : Nat, b < 256 → eN b < 256 := by decide +kernel
theorem esc_m1 : ¬ 0 ≤ esc (-1) := by decide
theorem esc_in {t : List Nat} {q : Nat} (h : 0 ≤ esc (hb t q)) : q < t.length := hb_in (fun e => esc_m1 (by rw [e] at h; exact h))
/-- a text's items from q on -/
def sI (t : List Nat) : Nat → Nat → List Nat → Bool × Nat × List Nat
  | 0, _, acc => (false, t.length, acc)
  | m + 1, q, acc => if t.length ≤ q then (false, t.length, acc) else if hb t q = 34 then (true, q + 1, acc) else if acc.length = 64 then (false, q, acc) else if hb t q = 92 then (if q + 1 = t.length then (false, q + 1, acc) else if 0 ≤ esc (hb t (q + 1)) then sI t m (q + 2) (acc ++ [eN (t.getD (q + 1) 0)]) else (false, q, acc)) else if hb t q < 32 then (false, q, acc) else if 126 < hb t q then (false, q, acc) else sI t m (q + 1) (acc ++ [t.getD q 0])
set_option maxRecDepth 100000 in
set_option maxHeartbeats 2000000 in
theorem cr_it_l {X : ev_X} {c0 n z : Nat} {F0 : Nat → Option va_E} {t : List Nat} {s p fp : Int32} {nu : Int64} {tl : List Nat} : ∀ (m q : Nat) (acc : List Nat) (F : Nat → Option va_E) (bv iv : Value) (hm : t.length ≤ q + m) (ha : acc.length ≤ 64) (hq : q ≤ t.length) (hC : CR c0 F0 t s nu p acc tl 0 fp F), Ex X m_Reader_readItems 2 [.ref (c0 + 8), .ref (c0 + 1), .int (nI q), bv, iv] [] (hp c0 n z F) (rP c0 n z F0 t (sI t m q acc) (fun b F1 => CR c0 F0 t s nu p b tl 0 fp F1)) := by
  intro m
  induction m with
  | zero =>
    intro q acc F bv iv hm ha hq hC
    have hl := hC.rt.le
    refine Ex.nx rfl ?_
    refine Ex.nx rfl ?_
    refine CR.sz hC (Or.inl ⟨rfl, rfl⟩) rfl rfl rfl ?_
    show Ex X m_Reader_readItems 7 [.ref (c0 + 8), .ref (c0 + 1), .int (nI q), bv, iv] [.int (nI t.length), .int (nI q)] (hp c0 n _ _) _
    refine Ex.nx rfl ?_
    refine Ex.ite (fun c1 => ?_) (fun c1 => ?_)
    · replace c1 : (nI t.length) ≤ (nI q) := of_decide_eq_true c1
      show Ex X m_Reader_readItems 155 [.ref (c0 + 8), .ref (c0 + 1), .int (nI q), bv, iv] [] (hp c0 n _ _) _
      refine Ex.nx rfl ?_
      refine Ex.nx rfl ?_
      refine Ex.nx rfl ?_
      refine CR.sz hC (Or.inl ⟨rfl, rfl⟩) rfl rfl rfl ?_
      show Ex X m_Reader_readItems 161 [.ref (c0 + 8), .ref (c0 + 1), .int (nI q), bv, iv] [.int (nI t.length), .int 2, .ref (c0 + 8)] (hp c0 n _ _) _
      refine CR.rd hC rfl rfl rfl rfl (cr_fail hC 2 (nI t.length)) ?_
      rintro v h1 ⟨rfl, F1, rfl, hC1⟩
      show Ex X m_Reader_readItems 164 [.ref (c0 + 8), .ref (c0 + 1), .int (nI q), bv, iv] [.int (-1)] (hp c0 n _ _) _
      exact Ex.ret rfl (ev_reti rfl) (rP_f (q := t.length) (b := acc) rfl ⟨_, _, _, _, _, _, (by decide), hC1⟩)
    · replace c1 : ¬ (nI t.length) ≤ (nI q) := of_decide_eq_false c1
      exact absurd (show nI t.length ≤ nI q by rw [show q = t.length by omega]; exact Int32.le_refl _) c1
  | succ m ih =>
    intro q acc F bv iv hm ha hq hC
    have hl := hC.rt.le
    refine Ex.nx rfl ?_
    refine Ex.nx rfl ?_
    refine CR.sz hC (Or.inl ⟨rfl, rfl⟩) rfl rfl rfl ?_
    show Ex X m_Reader_readItems 7 [.ref (c0 + 8), .ref (c0 + 1), .int (nI q), bv, iv] [.int (nI t.length), .int (nI q)] (hp c0 n _ _) _
    refine Ex.nx rfl ?_
    refine Ex.ite (fun c1 => ?_) (fun c1 => ?_)
    · replace c1 : (nI t.length) ≤ (nI q) := of_decide_eq_true c1
      have d1 : t.length ≤ q := (nI_leI (by omega) (by omega)).mp c1
      show Ex X m_Reader_readItems 155 [.ref (c0 + 8), .ref (c0 + 1), .int (nI q), bv, iv] [] (hp c0 n _ _) _
      refine Ex.nx rfl ?_
      refine Ex.nx rfl ?_
      refine Ex.nx rfl ?_
      refine CR.sz hC (Or.inl ⟨rfl, rfl⟩) rfl rfl rfl ?_
      show Ex X m_Reader_readItems 161 [.ref (c0 + 8), .ref (c0 + 1), .int (nI q), bv, iv] [.int (nI t.length), .int 2, .ref (c0 + 8)] (hp c0 n _ _) _
      refine CR.rd hC rfl rfl rfl rfl (cr_fail hC 2 (nI t.length)) ?_
      rintro v h1 ⟨rfl, F2, rfl, hC2⟩
      show Ex X m_Reader_readItems 164 [.ref (c0 + 8), .ref (c0 + 1), .int (nI q), bv, iv] [.int (-1)] (hp c0 n _ _) _
      exact Ex.ret rfl (ev_reti rfl) (rP_f (show sI t (m + 1) q acc = (false, t.length, acc) by simp [sI, d1]) ⟨_, _, _, _, _, _, (by decide), hC2⟩)
    · replace c1 : ¬ (nI t.length) ≤ (nI q) := of_decide_eq_false c1
      have d1 : ¬ t.length ≤ q := fun e => c1 ((nI_leI (by omega) (by omega)).mpr e)
      have d0 : q < t.length := by omega
      show Ex X m_Reader_readItems 10 [.ref (c0 + 8), .ref (c0 + 1), .int (nI q), bv, iv] [] (hp c0 n _ _) _
      refine Ex.nx rfl ?_
      refine Ex.nx rfl ?_
      refine CR.at (i := q) (A0 := []) hC (Or.inl ⟨rfl, rfl⟩) (by omega) rfl rfl rfl ?_
      show Ex X m_Reader_readItems 15 [.ref (c0 + 8), .ref (c0 + 1), .int (nI q), bv, iv] [.int (hb t q)] (hp c0 n _ _) _
      refine Ex.nx rfl ?_
      show Ex X m_Reader_readItems 16 [.ref (c0 + 8), .ref (c0 + 1), .int (nI q), .int (hb t q), iv] [] (hp c0 n _ _) _
      refine Ex.nx rfl ?_
      refine Ex.nx rfl ?_
      refine Ex.nx rfl ?_
      refine Ex.ite (fun c2 => ?_) (fun c2 => ?_)
      · replace c2 : ¬ (hb t q) = 34 := of_decide_eq_true c2
        show Ex X m_Reader_readItems 26 [.ref (c0 + 8), .ref (c0 + 1), .int (nI q), .int (hb t q), iv] [] (hp c0 n _ _) _
        refine Ex.nx rfl ?_
        refine Hx.get 8 rfl hC.r8 rfl ?_
        refine Hx.get 3 rfl hC.r3 rfl ?_
        refine CR.sz hC (Or.inr ⟨rfl, rfl⟩) rfl rfl rfl ?_
        show Ex X m_Reader_readItems 36 [.ref (c0 + 8), .ref (c0 + 1), .int (nI q), .int (hb t q), iv] [.int (nI acc.length)] (hp c0 n _ _) _
        refine Ex.nx rfl ?_
        refine Ex.nx rfl ?_
        refine Ex.ite (fun c3 => ?_) (fun c3 => ?_)
        · replace c3 : ¬ (nI acc.length) = 64 := of_decide_eq_true c3
          have d3 : ¬ acc.length = 64 := fun e => c3 (by rw [e]; rfl)
          show Ex X m_Reader_readItems 48 [.ref (c0 + 8), .ref (c0 + 1), .int (nI q), .int (hb t q), iv] [] (hp c0 n _ _) _
          refine Ex.nx rfl ?_
          refine Ex.nx rfl ?_
          refine Ex.nx rfl ?_
          refine Ex.ite (fun c4 => ?_) (fun c4 => ?_)
          · replace c4 : ¬ (hb t q) = 92 := of_decide_eq_true c4
            show Ex X m_Reader_readItems 73 [.ref (c0 + 8), .ref (c0 + 1), .int (nI q), .int (hb t q), iv] [] (hp c0 n _ _) _
            refine Ex.nx rfl ?_
            refine Ex.nx rfl ?_
            refine Ex.nx rfl ?_
            refine Ex.ite (fun c5 => ?_) (fun c5 => ?_)
            · replace c5 : ¬ (hb t q) = 92 := of_decide_eq_true c5
              show Ex X m_Reader_readItems 92 [.ref (c0 + 8), .ref (c0 + 1), .int (nI q), .int (hb t q), iv] [] (hp c0 n _ _) _
              refine Ex.nx rfl ?_
              refine Ex.nx rfl ?_
              show Ex X m_Reader_readItems 95 [.ref (c0 + 8), .ref (c0 + 1), .int (nI q), .int (hb t q), .int (hb t q)] [] (hp c0 n _ _) _
              refine Ex.nx rfl ?_
              refine Ex.nx rfl ?_
              refine Ex.ite (fun c6 => ?_) (fun c6 => ?_)
              · replace c6 : 0 ≤ (hb t q) := of_decide_eq_true c6
                show Ex X m_Reader_readItems 107 [.ref (c0 + 8), .ref (c0 + 1), .int (nI q), .int (hb t q), .int (hb t q)] [] (hp c0 n _ _) _
                refine Ex.nx rfl ?_
                refine Ex.nx rfl ?_
                refine Ex.nx rfl ?_
                refine Ex.ite (fun c7 => ?_) (fun c7 => ?_)
                · replace c7 : (hb t q) < 32 := of_decide_eq_true c7
                  skip
                  show Ex X m_Reader_readItems 119 [.ref (c0 + 8), .ref (c0 + 1), .int (nI q), .int (hb t q), .int (hb t q)] [] (hp c0 n _ _) _
                  refine Ex.nx rfl ?_
                  refine Ex.nx rfl ?_
                  refine Ex.nx rfl ?_
                  refine CR.rd hC rfl rfl rfl rfl (cr_fail hC 3 (nI q)) ?_
                  rintro v h1 ⟨rfl, F3, rfl, hC3⟩
                  show Ex X m_Reader_readItems 125 [.ref (c0 + 8), .ref (c0 + 1), .int (nI q), .int (hb t q), .int (hb t q)] [.int (-1)] (hp c0 n _ _) _
                  exact Ex.ret rfl (ev_reti rfl) (rP_f (show sI t (m + 1) q acc = (false, q, acc) by simp [sI, d1, c2, d3, c4, c5, c6, c7]) ⟨_, _, _, _, _, _, (by decide), hC3⟩)
                · replace c7 : ¬ (hb t q) < 32 := of_decide_eq_false c7
                  show Ex X m_Reader_readItems 113 [.ref (c0 + 8), .ref (c0 + 1), .int (nI q), .int (hb t q), .int (hb t q)] [] (hp c0 n _ _) _
                  refine Ex.nx rfl ?_
                  refine Ex.nx rfl ?_
                  refine Ex.nx rfl ?_
                  refine Ex.ite (fun c8 => ?_) (fun c8 => ?_)
                  · replace c8 : (hb t q) ≤ 126 := of_decide_eq_true c8
                    have d9 : ¬ 126 < hb t q := Int32.not_lt.mpr c8
                    show Ex X m_Reader_readItems 126 [.ref (c0 + 8), .ref (c0 + 1), .int (nI q), .int (hb t q), .int (hb t q)] [] (hp c0 n _ _) _
                    refine Ex.nx rfl ?_
                    refine Hx.get 8 rfl hC.r8 rfl ?_
                    refine Hx.get 3 rfl hC.r3 rfl ?_
                    refine Ex.nx rfl ?_
                    refine Hx.top (y := nI (t.getD q 0)) (hb_lt d0) ?_
                    refine CR.adb (d := (t.getD q 0)) hC (hC.rt.by q) (by have : acc.length ≠ 64 := d3; omega) rfl rfl ?_
                    intro F4 hC4
                    show Ex X m_Reader_readItems 138 [.ref (c0 + 8), .ref (c0 + 1), .int (nI q), .int (hb t q), .int (hb t q)] [] (hp c0 n _ _) _
                    refine Ex.nx rfl ?_
                    refine Ex.nx rfl ?_
                    refine Ex.nx rfl ?_
                    refine Ex.nx rfl ?_
                    refine Ex.ite (fun c9 => ?_) (fun c9 => ?_)
                    · replace c9 : ¬ (hb t q) = 92 := of_decide_eq_true c9
                      show Ex X m_Reader_readItems 149 [.ref (c0 + 8), .ref (c0 + 1), .int (nI q), .int (hb t q), .int (hb t q)] [.int (nI q)] (hp c0 n _ _) _
                      refine Ex.nx rfl ?_
                      refine Ex.nx rfl ?_
                      refine Ex.nx rfl ?_
                      show Ex X m_Reader_readItems 152 [.ref (c0 + 8), .ref (c0 + 1), .int ((nI q) + 1), .int (hb t q), .int (hb t q)] [] (hp c0 n _ _) _
                      refine Ex.nx rfl ?_
                      show Ex X m_Reader_readItems 2 [.ref (c0 + 8), .ref (c0 + 1), .int ((nI q) + 1), .int (hb t q), .int (hb t q)] [] (hp c0 n _ _) _
                      rw [show nI q + 1 = nI (q + 1) from nI_add q 1, show sI t (m + 1) q acc = sI t m (q + 1) (acc ++ [t.getD q 0]) by simp [sI, d1, c2, d3, c4, c5, c6, c7, d9, c9]]
                      exact ih (q + 1) _ _ _ _ (by omega) (by have : acc.length ≠ 64 := d3; simp only [List.length_append, List.length_cons, List.length_nil]; omega) (by omega) hC4
                    · replace c9 : (hb t q) = 92 := Classical.not_not.mp (of_decide_eq_false c9)
                      exact absurd c9 c4
                  · replace c8 : ¬ (hb t q) ≤ 126 := of_decide_eq_false c8
                    have d9 : 126 < hb t q := Int32.not_le.mp c8
                    show Ex X m_Reader_readItems 119 [.ref (c0 + 8), .ref (c0 + 1), .int (nI q), .int (hb t q), .int (hb t q)] [] (hp c0 n _ _) _
                    refine Ex.nx rfl ?_
                    refine Ex.nx rfl ?_
                    refine Ex.nx rfl ?_
                    refine CR.rd hC rfl rfl rfl rfl (cr_fail hC 3 (nI q)) ?_
                    rintro v h1 ⟨rfl, F5, rfl, hC5⟩
                    show Ex X m_Reader_readItems 125 [.ref (c0 + 8), .ref (c0 + 1), .int (nI q), .int (hb t q), .int (hb t q)] [.int (-1)] (hp c0 n _ _) _
                    exact Ex.ret rfl (ev_reti rfl) (rP_f (show sI t (m + 1) q acc = (false, q, acc) by simp [sI, d1, c2, d3, c4, c5, c6, c7, d9]) ⟨_, _, _, _, _, _, (by decide), hC5⟩)
              · replace c6 : ¬ 0 ≤ (hb t q) := of_decide_eq_false c6
                exact absurd (by rw [hb_lt d0]; exact nI_pos' (by have := hC.rt.by q; omega)) c6
            · replace c5 : (hb t q) = 92 := Classical.not_not.mp (of_decide_eq_false c5)
              exact absurd c5 c4
          · replace c4 : (hb t q) = 92 := Classical.not_not.mp (of_decide_eq_false c4)
            show Ex X m_Reader_readItems 54 [.ref (c0 + 8), .ref (c0 + 1), .int (nI q), .int (hb t q), iv] [] (hp c0 n _ _) _
            refine Ex.nx rfl ?_
            refine Ex.nx rfl ?_
            refine Ex.nx rfl ?_
            refine Hx.top (y := nI (q + 1)) (nI_1 q) ?_
            refine Ex.nx rfl ?_
            refine CR.sz hC (Or.inl ⟨rfl, rfl⟩) rfl rfl rfl ?_
            show Ex X m_Reader_readItems 61 [.ref (c0 + 8), .ref (c0 + 1), .int (nI q), .int (hb t q), iv] [.int (nI t.length), .int (nI (q + 1))] (hp c0 n _ _) _
            refine Ex.nx rfl ?_
            refine Ex.ite (fun c10 => ?_) (fun c10 => ?_)
            · replace c10 : ¬ (nI (q + 1)) = (nI t.length) := of_decide_eq_true c10
              have d5 : ¬ q + 1 = t.length := fun e => c10 (by rw [e])
              show Ex X m_Reader_readItems 73 [.ref (c0 + 8), .ref (c0 + 1), .int (nI q), .int (hb t q), iv] [] (hp c0 n _ _) _
              refine Ex.nx rfl ?_
              refine Ex.nx rfl ?_
              refine Ex.nx rfl ?_
              refine Ex.ite (fun c11 => ?_) (fun c11 => ?_)
              · replace c11 : ¬ (hb t q) = 92 := of_decide_eq_true c11
                exact absurd c4 c11
              · replace c11 : (hb t q) = 92 := Classical.not_not.mp (of_decide_eq_false c11)
                show Ex X m_Reader_readItems 79 [.ref (c0 + 8), .ref (c0 + 1), .int (nI q), .int (hb t q), iv] [] (hp c0 n _ _) _
                refine Ex.nx rfl ?_
                refine Ex.nx rfl ?_
                refine Ex.nx rfl ?_
                refine Ex.nx rfl ?_
                refine Hx.top (y := nI (q + 1)) (nI_1 q) ?_
                refine CR.at (i := (q + 1)) (A0 := []) hC (Or.inl ⟨rfl, rfl⟩) (by omega) rfl rfl rfl ?_
                show Ex X m_Reader_readItems 86 [.ref (c0 + 8), .ref (c0 + 1), .int (nI q), .int (hb t q), iv] [.int (hb t (q + 1))] (hp c0 n _ _) _
                refine Hx.calls rfl rfl rfl rfl (sx_Reader_escaped X (hb t (q + 1))) (fun v hv => ?_)
                subst hv
                show Ex X m_Reader_readItems 89 [.ref (c0 + 8), .ref (c0 + 1), .int (nI q), .int (hb t q), iv] [.int (esc (hb t (q + 1)))] (hp c0 n _ _) _
                refine Ex.nx rfl ?_
                refine Ex.nx rfl ?_
                show Ex X m_Reader_readItems 95 [.ref (c0 + 8), .ref (c0 + 1), .int (nI q), .int (hb t q), .int (esc (hb t (q + 1)))] [] (hp c0 n _ _) _
                refine Ex.nx rfl ?_
                refine Ex.nx rfl ?_
                refine Ex.ite (fun c12 => ?_) (fun c12 => ?_)
                · replace c12 : 0 ≤ (esc (hb t (q + 1))) := of_decide_eq_true c12
                  show Ex X m_Reader_readItems 107 [.ref (c0 + 8), .ref (c0 + 1), .int (nI q), .int (hb t q), .int (esc (hb t (q + 1)))] [] (hp c0 n _ _) _
                  refine Ex.nx rfl ?_
                  refine Ex.nx rfl ?_
                  refine Ex.nx rfl ?_
                  refine Ex.ite (fun c13 => ?_) (fun c13 => ?_)
                  · replace c13 : (hb t q) < 32 := of_decide_eq_true c13
                    exact absurd c13 (by rw [c4]; decide)
                  · replace c13 : ¬ (hb t q) < 32 := of_decide_eq_false c13
                    show Ex X m_Reader_readItems 113 [.ref (c0 + 8), .ref (c0 + 1), .int (nI q), .int (hb t q), .int (esc (hb t (q + 1)))] [] (hp c0 n _ _) _
                    refine Ex.nx rfl ?_
                    refine Ex.nx rfl ?_
                    refine Ex.nx rfl ?_
                    refine Ex.ite (fun c14 => ?_) (fun c14 => ?_)
                    · replace c14 : (hb t q) ≤ 126 := of_decide_eq_true c14
                      have d9 : ¬ 126 < hb t q := Int32.not_lt.mpr c14
                      show Ex X m_Reader_readItems 126 [.ref (c0 + 8), .ref (c0 + 1), .int (nI q), .int (hb t q), .int (esc (hb t (q + 1)))] [] (hp c0 n _ _) _
                      refine Ex.nx rfl ?_
                      refine Hx.get 8 rfl hC.r8 rfl ?_
                      refine Hx.get 3 rfl hC.r3 rfl ?_
                      refine Ex.nx rfl ?_
                      refine Hx.top (y := nI (eN (t.getD (q + 1) 0))) (by have d8 := esc_in (t := t) (q := q + 1) c12; rw [hb_lt d8]; exact esc_all _ (hC.rt.by (q + 1)) (by rw [← hb_lt d8]; exact c12)) ?_
                      refine CR.adb (d := (eN (t.getD (q + 1) 0))) hC (eN_lt _ (hC.rt.by (q + 1))) (by have : acc.length ≠ 64 := d3; omega) rfl rfl ?_
                      intro F6 hC6
                      show Ex X m_Reader_readItems 138 [.ref (c0 + 8), .ref (c0 + 1), .int (nI q), .int (hb t q), .int (esc (hb t (q + 1)))] [] (hp c0 n _ _) _
                      refine Ex.nx rfl ?_
                      refine Ex.nx rfl ?_
                      refine Ex.nx rfl ?_
                      refine Ex.nx rfl ?_
                      refine Ex.ite (fun c15 => ?_) (fun c15 => ?_)
                      · replace c15 : ¬ (hb t q) = 92 := of_decide_eq_true c15
                        exact absurd c4 c15
                      · replace c15 : (hb t q) = 92 := Classical.not_not.mp (of_decide_eq_false c15)
                        show Ex X m_Reader_readItems 145 [.ref (c0 + 8), .ref (c0 + 1), .int (nI q), .int (hb t q), .int (esc (hb t (q + 1)))] [.int (nI q)] (hp c0 n _ _) _
                        refine Ex.nx rfl ?_
                        refine Ex.nx rfl ?_
                        refine Ex.nx rfl ?_
                        refine Ex.nx rfl ?_
                        show Ex X m_Reader_readItems 152 [.ref (c0 + 8), .ref (c0 + 1), .int ((nI q) + 2), .int (hb t q), .int (esc (hb t (q + 1)))] [] (hp c0 n _ _) _
                        refine Ex.nx rfl ?_
                        show Ex X m_Reader_readItems 2 [.ref (c0 + 8), .ref (c0 + 1), .int ((nI q) + 2), .int (hb t q), .int (esc (hb t (q + 1)))] [] (hp c0 n _ _) _
                        rw [show nI q + 2 = nI (q + 2) from nI_add q 2, show sI t (m + 1) q acc = sI t m (q + 2) (acc ++ [eN (t.getD (q + 1) 0)]) by simp [sI, d1, c2, d3, c4, d5, c11, c12, c13, d9, c15]]
                        exact ih (q + 2) _ _ _ _ (by omega) (by have : acc.length ≠ 64 := d3; simp only [List.length_append, List.length_cons, List.length_nil]; omega) (by have := esc_in (t := t) (q := q + 1) c12; omega) hC6
                    · replace c14 : ¬ (hb t q) ≤ 126 := of_decide_eq_false c14
                      exact absurd (by rw [c4]; decide) c14
                · replace c12 : ¬ 0 ≤ (esc (hb t (q + 1))) := of_decide_eq_false c12
                  skip
                  show Ex X m_Reader_readItems 100 [.ref (c0 + 8), .ref (c0 + 1), .int (nI q), .int (hb t q), .int (esc (hb t (q + 1)))] [] (hp c0 n _ _) _
                  refine Ex.nx rfl ?_
                  refine Ex.nx rfl ?_
                  refine Ex.nx rfl ?_
                  refine CR.rd hC rfl rfl rfl rfl (cr_fail hC 5 (nI q)) ?_
                  rintro v h1 ⟨rfl, F7, rfl, hC7⟩
                  show Ex X m_Reader_readItems 106 [.ref (c0 + 8), .ref (c0 + 1), .int (nI q), .int (hb t q), .int (esc (hb t (q + 1)))] [.int (-1)] (hp c0 n _ _) _
                  exact Ex.ret rfl (ev_reti rfl) (rP_f (show sI t (m + 1) q acc = (false, q, acc) by simp [sI, d1, c2, d3, c4, d5, c11, c12]) ⟨_, _, _, _, _, _, (by decide), hC7⟩)
            · replace c10 : (nI (q + 1)) = (nI t.length) := Classical.not_not.mp (of_decide_eq_false c10)
              have d5 : q + 1 = t.length := (nI_eq (by omega) (by omega)).mp c10
              show Ex X m_Reader_readItems 64 [.ref (c0 + 8), .ref (c0 + 1), .int (nI q), .int (hb t q), iv] [] (hp c0 n _ _) _
              refine Ex.nx rfl ?_
              refine Ex.nx rfl ?_
              refine Ex.nx rfl ?_
              refine Ex.nx rfl ?_
              refine Ex.nx rfl ?_
              refine Hx.top (y := nI (q + 1)) (nI_1 q) ?_
              refine CR.rd hC rfl rfl rfl rfl (cr_fail hC 2 (nI (q + 1))) ?_
              rintro v h1 ⟨rfl, F8, rfl, hC8⟩
              show Ex X m_Reader_readItems 72 [.ref (c0 + 8), .ref (c0 + 1), .int (nI q), .int (hb t q), iv] [.int (-1)] (hp c0 n _ _) _
              exact Ex.ret rfl (ev_reti rfl) (rP_f (show sI t (m + 1) q acc = (false, (q + 1), acc) by simp [sI, d1, c2, d3, c4, d5]) ⟨_, _, _, _, _, _, (by decide), hC8⟩)
        · replace c3 : (nI acc.length) = 64 := Classical.not_not.mp (of_decide_eq_false c3)
          have d3 : acc.length = 64 := (nI_eq (b := 64) (by omega) (by decide)).mp c3
          show Ex X m_Reader_readItems 41 [.ref (c0 + 8), .ref (c0 + 1), .int (nI q), .int (hb t q), iv] [] (hp c0 n _ _) _
          refine Ex.nx rfl ?_
          refine Ex.nx rfl ?_
          refine Ex.nx rfl ?_
          refine CR.rd hC rfl rfl rfl rfl (cr_fail hC 4 (nI q)) ?_
          rintro v h1 ⟨rfl, F9, rfl, hC9⟩
          show Ex X m_Reader_readItems 47 [.ref (c0 + 8), .ref (c0 + 1), .int (nI q), .int (hb t q), iv] [.int (-1)] (hp c0 n _ _) _
          exact Ex.ret rfl (ev_reti rfl) (rP_f (show sI t (m + 1) q acc = (false, q, acc) by simp [sI, d1, c2, d3]) ⟨_, _, _, _, _, _, (by decide), hC9⟩)
      · replace c2 : (hb t q) = 34 := Classical.not_not.mp (of_decide_eq_false c2)
        show Ex X m_Reader_readItems 22 [.ref (c0 + 8), .ref (c0 + 1), .int (nI q), .int (hb t q), iv] [] (hp c0 n _ _) _
        refine Ex.nx rfl ?_
        refine Ex.nx rfl ?_
        refine Ex.nx rfl ?_
        refine Hx.top (y := nI (q + 1)) (nI_1 q) ?_
        exact Ex.ret rfl (ev_reti rfl) (rP_t (show sI t (m + 1) q acc = (true, q + 1, acc) by simp [sI, d1, c2]) hC)
set_option maxRecDepth 100000 in
set_option maxHeartbeats 2000000 in
theorem cr_items {X : ev_X} {c0 n z : Nat} {F0 : Nat → Option va_E} {t : List Nat} {s p fp : Int32} {nu : Int64} {tl : List Nat} {F : Nat → Option va_E} (h0 : 0 < t.length) (hC : CR c0 F0 t s nu p ([]) tl 0 fp F) : Ex X m_Reader_readItems 0 [.ref (c0 + 8), .ref (c0 + 1), ev_dead, ev_dead, ev_dead] [] (hp c0 n z F) (rP c0 n z F0 t (sI t t.length 1 []) (fun b F1 => CR c0 F0 t s nu p b tl 0 fp F1)) := by
  refine Ex.nx rfl ?_
  refine Ex.nx rfl ?_
  show Ex X m_Reader_readItems 2 [.ref (c0 + 8), .ref (c0 + 1), .int 1, ev_dead, ev_dead] [] (hp c0 n _ _) _
  show Ex X m_Reader_readItems 2 [.ref (c0 + 8), .ref (c0 + 1), .int 1, ev_dead, ev_dead] [] (hp c0 n _ _) _
  exact cr_it_l t.length 1 [] _ _ _ (by omega) (by decide) (by omega) hC
/-- a tag from q on: run, whether still in the first run -/
def sT (t : List Nat) : Nat → Nat → Nat → Bool → List Nat → Bool × Nat × List Nat
  | 0, _, run, _, acc => if run = 0 then (false, t.length, acc) else (true, t.length, acc)
  | m + 1, q, run, fs, acc => if (!(isL (hb t q) || (isD (hb t q) && !fs)) && !(decide (hb t q = 45) && decide (0 < run)) && decide (0 < run)) = true then (true, q, acc) else if (decide (acc.length = 20) || ((isL (hb t q) || (isD (hb t q) && !fs)) && decide (run = 8))) = true then (false, q, acc) else if (!(isL (hb t q) || (isD (hb t q) && !fs)) && !(decide (hb t q = 45) && decide (0 < run))) = true then (false, q, acc) else sT t m (q + 1) (if (decide (hb t q = 45) && decide (0 < run)) = true then 0 else run + 1) (fs && !(decide (hb t q = 45) && decide (0 < run))) (acc ++ [smlN (t.getD q 0)])
set_option maxRecDepth 100000 in
set_option maxHeartbeats 2000000 in
theorem cr_tg_l {X : ev_X} {c0 n z : Nat} {F0 : Nat → Option va_E} {t : List Nat} {s p fp : Int32} {nu : Int64} {bd : List Nat} (sv : Int32) : ∀ (m q run : Nat) (fs : Bool) (acc : List Nat) (F : Nat → Option va_E) (b6 b7 b8 : Value) (hm : q + m = t.length) (ha : acc.length ≤ 20) (hr : run ≤ 300 - m) (hC : CR c0 F0 t s nu p bd acc 0 fp F), Ex X m_Reader_readTag 8 [.ref (c0 + 8), .ref (c0 + 1), .int sv, .int (nI run), .int (bi fs), .int (nI q), b6, b7, b8] [] (hp c0 n z F) (rP c0 n z F0 t (sT t m q run fs acc) (fun b F1 => CR c0 F0 t s nu p bd b 0 fp F1)) := by
  intro m
  induction m with
  | zero =>
    intro q run fs acc F b6 b7 b8 hm ha hr hC
    have hl := hC.rt.le
    refine Ex.nx rfl ?_
    refine Ex.nx rfl ?_
    refine CR.sz hC (Or.inl ⟨rfl, rfl⟩) rfl rfl rfl ?_
    show Ex X m_Reader_readTag 14 [.ref (c0 + 8), .ref (c0 + 1), .int sv, .int (nI run), .int (bi fs), .int (nI q), b6, b7, b8] [.int (nI t.length), .int (nI q)] (hp c0 n _ _) _
    refine Ex.nx rfl ?_
    refine Ex.ite (fun c1 => ?_) (fun c1 => ?_)
    · replace c1 : (nI t.length) ≤ (nI q) := of_decide_eq_true c1
      show Ex X m_Reader_readTag 191 [.ref (c0 + 8), .ref (c0 + 1), .int sv, .int (nI run), .int (bi fs), .int (nI q), b6, b7, b8] [] (hp c0 n _ _) _
      refine Ex.nx rfl ?_
      refine Ex.nx rfl ?_
      refine Ex.ite (fun c2 => ?_) (fun c2 => ?_)
      · replace c2 : ¬ (nI run) = 0 := of_decide_eq_true c2
        show Ex X m_Reader_readTag 207 [.ref (c0 + 8), .ref (c0 + 1), .int sv, .int (nI run), .int (bi fs), .int (nI q), b6, b7, b8] [] (hp c0 n _ _) _
        refine Ex.nx rfl ?_
        refine CR.sz hC (Or.inl ⟨rfl, rfl⟩) rfl rfl rfl ?_
        show Ex X m_Reader_readTag 211 [.ref (c0 + 8), .ref (c0 + 1), .int sv, .int (nI run), .int (bi fs), .int (nI q), b6, b7, b8] [.int (nI t.length)] (hp c0 n _ _) _
        exact Ex.ret rfl (ev_reti rfl) (rP_t (show sT t 0 q run fs acc = (true, t.length, acc) from if_neg (fun h => c2 (by rw [h]; rfl))) hC)
      · replace c2 : (nI run) = 0 := Classical.not_not.mp (of_decide_eq_false c2)
        show Ex X m_Reader_readTag 195 [.ref (c0 + 8), .ref (c0 + 1), .int sv, .int (nI run), .int (bi fs), .int (nI q), b6, b7, b8] [] (hp c0 n _ _) _
        refine Ex.nx rfl ?_
        refine Ex.nx rfl ?_
        refine Ex.nx rfl ?_
        refine CR.sz hC (Or.inl ⟨rfl, rfl⟩) rfl rfl rfl ?_
        show Ex X m_Reader_readTag 201 [.ref (c0 + 8), .ref (c0 + 1), .int sv, .int (nI run), .int (bi fs), .int (nI q), b6, b7, b8] [.int (nI t.length), .int 2, .ref (c0 + 8)] (hp c0 n _ _) _
        refine CR.rd hC rfl rfl rfl rfl (cr_fail hC 2 (nI t.length)) ?_
        rintro v h1 ⟨rfl, F10, rfl, hC10⟩
        show Ex X m_Reader_readTag 204 [.ref (c0 + 8), .ref (c0 + 1), .int sv, .int (nI run), .int (bi fs), .int (nI q), b6, b7, b8] [.int (-1)] (hp c0 n _ _) _
        refine Ex.nx rfl ?_
        exact Ex.ret rfl (ev_reti rfl) (rP_f (show sT t 0 q run fs acc = (false, t.length, acc) from if_pos ((nI_eq (b := 0) (by omega) (by decide)).mp c2)) ⟨_, _, _, _, _, _, (by decide), hC10⟩)
    · replace c1 : ¬ (nI t.length) ≤ (nI q) := of_decide_eq_false c1
      exact absurd (show nI t.length ≤ nI q by rw [show q = t.length by omega]; exact Int32.le_refl _) c1
  | succ m ih =>
    intro q run fs acc F b6 b7 b8 hm ha hr hC
    have hl := hC.rt.le
    refine Ex.nx rfl ?_
    refine Ex.nx rfl ?_
    refine CR.sz hC (Or.inl ⟨rfl, rfl⟩) rfl rfl rfl ?_
    show Ex X m_Reader_readTag 14 [.ref (c0 + 8), .ref (c0 + 1), .int sv, .int (nI run), .int (bi fs), .int (nI q), b6, b7, b8] [.int (nI t.length), .int (nI q)] (hp c0 n _ _) _
    refine Ex.nx rfl ?_
    refine Ex.ite (fun c1 => ?_) (fun c1 => ?_)
    · replace c1 : (nI t.length) ≤ (nI q) := of_decide_eq_true c1
      exact absurd ((nI_leI (by omega) (by omega)).mp c1) (by omega)
    · replace c1 : ¬ (nI t.length) ≤ (nI q) := of_decide_eq_false c1
      show Ex X m_Reader_readTag 17 [.ref (c0 + 8), .ref (c0 + 1), .int sv, .int (nI run), .int (bi fs), .int (nI q), b6, b7, b8] [] (hp c0 n _ _) _
      refine Ex.nx rfl ?_
      refine Ex.nx rfl ?_
      refine CR.at (i := q) (A0 := []) hC (Or.inl ⟨rfl, rfl⟩) (by omega) rfl rfl rfl ?_
      show Ex X m_Reader_readTag 23 [.ref (c0 + 8), .ref (c0 + 1), .int sv, .int (nI run), .int (bi fs), .int (nI q), b6, b7, b8] [.int (hb t q)] (hp c0 n _ _) _
      refine Ex.nx rfl ?_
      show Ex X m_Reader_readTag 25 [.ref (c0 + 8), .ref (c0 + 1), .int sv, .int (nI run), .int (bi fs), .int (nI q), .int (hb t q), b7, b8] [] (hp c0 n _ _) _
      refine Ex.nx rfl ?_
      refine Hx.calls rfl rfl rfl rfl (sx_Reader_isLetter X (hb t q)) (fun v hv => ?_)
      subst hv
      show Ex X m_Reader_readTag 30 [.ref (c0 + 8), .ref (c0 + 1), .int sv, .int (nI run), .int (bi fs), .int (nI q), .int (hb t q), b7, b8] [.int (bi (isL (hb t q)))] (hp c0 n _ _) _
      refine Ex.nx rfl ?_
      refine Ex.ite (fun c2 => ?_) (fun c2 => ?_)
      · replace c2 : (isL (hb t q)) = true := bi_net c2
        show Ex X m_Reader_readTag 46 [.ref (c0 + 8), .ref (c0 + 1), .int sv, .int (nI run), .int (bi fs), .int (nI q), .int (hb t q), b7, b8] [] (hp c0 n _ _) _
        refine Ex.nx rfl ?_
        refine Ex.nx rfl ?_
        refine Ex.nx rfl ?_
        show Ex X m_Reader_readTag 53 [.ref (c0 + 8), .ref (c0 + 1), .int sv, .int (nI run), .int (bi fs), .int (nI q), .int (hb t q), .int 1, b8] [] (hp c0 n _ _) _
        refine Ex.nx rfl ?_
        refine Ex.nx rfl ?_
        refine Ex.nx rfl ?_
        refine Ex.ite (fun c3 => ?_) (fun c3 => ?_)
        · replace c3 : ¬ (hb t q) = 45 := of_decide_eq_true c3
          show Ex X m_Reader_readTag 68 [.ref (c0 + 8), .ref (c0 + 1), .int sv, .int (nI run), .int (bi fs), .int (nI q), .int (hb t q), .int 1, b8] [] (hp c0 n _ _) _
          refine Ex.nx rfl ?_
          refine Ex.nx rfl ?_
          show Ex X m_Reader_readTag 71 [.ref (c0 + 8), .ref (c0 + 1), .int sv, .int (nI run), .int (bi fs), .int (nI q), .int (hb t q), .int 1, .int 0] [] (hp c0 n _ _) _
          refine Ex.nx rfl ?_
          refine Ex.nx rfl ?_
          show Ex X m_Reader_readTag 88 [.ref (c0 + 8), .ref (c0 + 1), .int sv, .int (nI run), .int (bi fs), .int (nI q), .int (hb t q), .int 1, .int 0] [] (hp c0 n _ _) _
          refine Ex.nx rfl ?_
          refine Hx.get 8 rfl hC.r8 rfl ?_
          refine Hx.get 3 rfl hC.r3 rfl ?_
          refine CR.szt hC rfl rfl rfl ?_
          show Ex X m_Reader_readTag 98 [.ref (c0 + 8), .ref (c0 + 1), .int sv, .int (nI run), .int (bi fs), .int (nI q), .int (hb t q), .int 1, .int 0] [.int (nI acc.length)] (hp c0 n _ _) _
          refine Ex.nx rfl ?_
          refine Ex.nx rfl ?_
          refine Ex.ite (fun c4 => ?_) (fun c4 => ?_)
          · replace c4 : (nI acc.length) = 20 := of_decide_eq_true c4
            have d20 : acc.length = 20 := (nI_eq (b := 20) (by omega) (by decide)).mp c4
            show Ex X m_Reader_readTag 114 [.ref (c0 + 8), .ref (c0 + 1), .int sv, .int (nI run), .int (bi fs), .int (nI q), .int (hb t q), .int 1, .int 0] [] (hp c0 n _ _) _
            refine Ex.nx rfl ?_
            refine Ex.nx rfl ?_
            refine Ex.nx rfl ?_
            refine CR.rd hC rfl rfl rfl rfl (cr_fail hC 4 (nI q)) ?_
            rintro v h1 ⟨rfl, F11, rfl, hC11⟩
            show Ex X m_Reader_readTag 121 [.ref (c0 + 8), .ref (c0 + 1), .int sv, .int (nI run), .int (bi fs), .int (nI q), .int (hb t q), .int 1, .int 0] [.int (-1)] (hp c0 n _ _) _
            exact Ex.ret rfl (ev_reti rfl) (rP_f (show sT t (m + 1) q run fs acc = (false, q, acc) by first | (simp [sT, L45, D45, c2, c3, d20]; done) | (exfalso; simp_all [L45, D45]; done)) ⟨_, _, _, _, _, _, (by decide), hC11⟩)
          · replace c4 : ¬ (nI acc.length) = 20 := of_decide_eq_false c4
            have d20 : ¬ acc.length = 20 := fun e => c4 (by rw [e]; rfl)
            show Ex X m_Reader_readTag 103 [.ref (c0 + 8), .ref (c0 + 1), .int sv, .int (nI run), .int (bi fs), .int (nI q), .int (hb t q), .int 1, .int 0] [] (hp c0 n _ _) _
            refine Ex.nx rfl ?_
            refine Ex.nx rfl ?_
            show Ex X m_Reader_readTag 108 [.ref (c0 + 8), .ref (c0 + 1), .int sv, .int (nI run), .int (bi fs), .int (nI q), .int (hb t q), .int 1, .int 0] [] (hp c0 n _ _) _
            refine Ex.nx rfl ?_
            refine Ex.nx rfl ?_
            refine Ex.nx rfl ?_
            refine Ex.ite (fun c5 => ?_) (fun c5 => ?_)
            · replace c5 : ¬ (nI run) = 8 := of_decide_eq_true c5
              have d8 : ¬ run = 8 := fun e => c5 (by rw [e]; rfl)
              show Ex X m_Reader_readTag 122 [.ref (c0 + 8), .ref (c0 + 1), .int sv, .int (nI run), .int (bi fs), .int (nI q), .int (hb t q), .int 1, .int 0] [] (hp c0 n _ _) _
              refine Ex.nx rfl ?_
              refine Ex.nx rfl ?_
              show Ex X m_Reader_readTag 140 [.ref (c0 + 8), .ref (c0 + 1), .int sv, .int (nI run), .int (bi fs), .int (nI q), .int (hb t q), .int 1, .int 0] [] (hp c0 n _ _) _
              refine Ex.nx rfl ?_
              refine Hx.get 8 rfl hC.r8 rfl ?_
              refine Hx.get 3 rfl hC.r3 rfl ?_
              refine Ex.nx rfl ?_
              refine Hx.calls rfl rfl rfl rfl (sx_Reader_small X (hb t q)) (fun v hv => ?_)
              subst hv
              show Ex X m_Reader_readTag 152 [.ref (c0 + 8), .ref (c0 + 1), .int sv, .int (nI run), .int (bi fs), .int (nI q), .int (hb t q), .int 1, .int 0] [.int (sml (hb t q)), .ref (c0 + 6)] (hp c0 n _ _) _
              refine Hx.top (y := nI (smlN (t.getD q 0))) (by rw [hb_lt (show q < t.length by omega)]; exact sml_all _ (hC.rt.by q)) ?_
              refine CR.adt (d := (smlN (t.getD q 0))) hC (smlN_lt _ (hC.rt.by q)) (by omega) rfl rfl ?_
              intro F12 hC12
              show Ex X m_Reader_readTag 155 [.ref (c0 + 8), .ref (c0 + 1), .int sv, .int (nI run), .int (bi fs), .int (nI q), .int (hb t q), .int 1, .int 0] [] (hp c0 n _ _) _
              refine Ex.nx rfl ?_
              refine Ex.nx rfl ?_
              show Ex X m_Reader_readTag 164 [.ref (c0 + 8), .ref (c0 + 1), .int sv, .int (nI run), .int (bi fs), .int (nI q), .int (hb t q), .int 1, .int 0] [] (hp c0 n _ _) _
              refine Ex.nx rfl ?_
              refine Ex.nx rfl ?_
              refine Ex.nx rfl ?_
              refine Ex.nx rfl ?_
              show Ex X m_Reader_readTag 168 [.ref (c0 + 8), .ref (c0 + 1), .int sv, .int ((nI run) + 1), .int (bi fs), .int (nI q), .int (hb t q), .int 1, .int 0] [] (hp c0 n _ _) _
              refine Ex.nx rfl ?_
              refine Ex.nx rfl ?_
              refine Ex.ite (fun c6 => ?_) (fun c6 => ?_)
              · replace c6 : fs = false := bi_eqt c6
                show Ex X m_Reader_readTag 182 [.ref (c0 + 8), .ref (c0 + 1), .int sv, .int ((nI run) + 1), .int (bi fs), .int (nI q), .int (hb t q), .int 1, .int 0] [] (hp c0 n _ _) _
                refine Ex.nx rfl ?_
                refine Ex.nx rfl ?_
                show Ex X m_Reader_readTag 185 [.ref (c0 + 8), .ref (c0 + 1), .int sv, .int ((nI run) + 1), .int 0, .int (nI q), .int (hb t q), .int 1, .int 0] [] (hp c0 n _ _) _
                refine Ex.nx rfl ?_
                show Ex X m_Reader_readTag 188 [.ref (c0 + 8), .ref (c0 + 1), .int sv, .int ((nI run) + 1), .int 0, .int ((nI q) + 1), .int (hb t q), .int 1, .int 0] [] (hp c0 n _ _) _
                refine Ex.nx rfl ?_
                show Ex X m_Reader_readTag 8 [.ref (c0 + 8), .ref (c0 + 1), .int sv, .int ((nI run) + 1), .int 0, .int ((nI q) + 1), .int (hb t q), .int 1, .int 0] [] (hp c0 n _ _) _
                rw [show nI run + 1 = nI (run + 1) from nI_1 run, show nI q + 1 = nI (q + 1) from nI_1 q, show sT t (m + 1) q run fs acc = sT t m (q + 1) (run + 1) false (acc ++ [smlN (t.getD q 0)]) by first | (simp [sT, L45, D45, c2, c3, d20, d8, c6]; done) | (exfalso; simp_all [L45, D45]; done)]
                exact ih (q + 1) (run + 1) false _ _ _ _ _ (by omega) (by simp only [List.length_append, List.length_cons, List.length_nil]; omega) (by omega) hC12
              · replace c6 : fs = true := bi_eqf c6
                show Ex X m_Reader_readTag 173 [.ref (c0 + 8), .ref (c0 + 1), .int sv, .int ((nI run) + 1), .int (bi fs), .int (nI q), .int (hb t q), .int 1, .int 0] [] (hp c0 n _ _) _
                refine Ex.nx rfl ?_
                refine Ex.nx rfl ?_
                show Ex X m_Reader_readTag 178 [.ref (c0 + 8), .ref (c0 + 1), .int sv, .int ((nI run) + 1), .int (bi fs), .int (nI q), .int (hb t q), .int 1, .int 0] [] (hp c0 n _ _) _
                refine Ex.nx rfl ?_
                refine Ex.nx rfl ?_
                refine Ex.nx rfl ?_
                show Ex X m_Reader_readTag 185 [.ref (c0 + 8), .ref (c0 + 1), .int sv, .int ((nI run) + 1), .int 1, .int (nI q), .int (hb t q), .int 1, .int 0] [] (hp c0 n _ _) _
                refine Ex.nx rfl ?_
                show Ex X m_Reader_readTag 188 [.ref (c0 + 8), .ref (c0 + 1), .int sv, .int ((nI run) + 1), .int 1, .int ((nI q) + 1), .int (hb t q), .int 1, .int 0] [] (hp c0 n _ _) _
                refine Ex.nx rfl ?_
                show Ex X m_Reader_readTag 8 [.ref (c0 + 8), .ref (c0 + 1), .int sv, .int ((nI run) + 1), .int 1, .int ((nI q) + 1), .int (hb t q), .int 1, .int 0] [] (hp c0 n _ _) _
                rw [show nI run + 1 = nI (run + 1) from nI_1 run, show nI q + 1 = nI (q + 1) from nI_1 q, show sT t (m + 1) q run fs acc = sT t m (q + 1) (run + 1) true (acc ++ [smlN (t.getD q 0)]) by first | (simp [sT, L45, D45, c2, c3, d20, d8, c6]; done) | (exfalso; simp_all [L45, D45]; done)]
                exact ih (q + 1) (run + 1) true _ _ _ _ _ (by omega) (by simp only [List.length_append, List.length_cons, List.length_nil]; omega) (by omega) hC12
            · replace c5 : (nI run) = 8 := Classical.not_not.mp (of_decide_eq_false c5)
              have d8 : run = 8 := (nI_eq (b := 8) (by omega) (by decide)).mp c5
              show Ex X m_Reader_readTag 114 [.ref (c0 + 8), .ref (c0 + 1), .int sv, .int (nI run), .int (bi fs), .int (nI q), .int (hb t q), .int 1, .int 0] [] (hp c0 n _ _) _
              refine Ex.nx rfl ?_
              refine Ex.nx rfl ?_
              refine Ex.nx rfl ?_
              refine CR.rd hC rfl rfl rfl rfl (cr_fail hC 4 (nI q)) ?_
              rintro v h1 ⟨rfl, F13, rfl, hC13⟩
              show Ex X m_Reader_readTag 121 [.ref (c0 + 8), .ref (c0 + 1), .int sv, .int (nI run), .int (bi fs), .int (nI q), .int (hb t q), .int 1, .int 0] [.int (-1)] (hp c0 n _ _) _
              exact Ex.ret rfl (ev_reti rfl) (rP_f (show sT t (m + 1) q run fs acc = (false, q, acc) by first | (simp [sT, L45, D45, c2, c3, d20, d8]; done) | (exfalso; simp_all [L45, D45]; done)) ⟨_, _, _, _, _, _, (by decide), hC13⟩)
        · replace c3 : (hb t q) = 45 := Classical.not_not.mp (of_decide_eq_false c3)
          show Ex X m_Reader_readTag 60 [.ref (c0 + 8), .ref (c0 + 1), .int sv, .int (nI run), .int (bi fs), .int (nI q), .int (hb t q), .int 1, b8] [] (hp c0 n _ _) _
          refine Ex.nx rfl ?_
          refine Ex.nx rfl ?_
          refine Ex.ite (fun c7 => ?_) (fun c7 => ?_)
          · replace c7 : (nI run) ≤ 0 := of_decide_eq_true c7
            have dr : ¬ 0 < run := by have := (nI_leI (b := 0) (by omega) (by decide)).mp c7; omega
            show Ex X m_Reader_readTag 68 [.ref (c0 + 8), .ref (c0 + 1), .int sv, .int (nI run), .int (bi fs), .int (nI q), .int (hb t q), .int 1, b8] [] (hp c0 n _ _) _
            refine Ex.nx rfl ?_
            refine Ex.nx rfl ?_
            show Ex X m_Reader_readTag 71 [.ref (c0 + 8), .ref (c0 + 1), .int sv, .int (nI run), .int (bi fs), .int (nI q), .int (hb t q), .int 1, .int 0] [] (hp c0 n _ _) _
            refine Ex.nx rfl ?_
            refine Ex.nx rfl ?_
            show Ex X m_Reader_readTag 88 [.ref (c0 + 8), .ref (c0 + 1), .int sv, .int (nI run), .int (bi fs), .int (nI q), .int (hb t q), .int 1, .int 0] [] (hp c0 n _ _) _
            refine Ex.nx rfl ?_
            refine Hx.get 8 rfl hC.r8 rfl ?_
            refine Hx.get 3 rfl hC.r3 rfl ?_
            refine CR.szt hC rfl rfl rfl ?_
            show Ex X m_Reader_readTag 98 [.ref (c0 + 8), .ref (c0 + 1), .int sv, .int (nI run), .int (bi fs), .int (nI q), .int (hb t q), .int 1, .int 0] [.int (nI acc.length)] (hp c0 n _ _) _
            refine Ex.nx rfl ?_
            refine Ex.nx rfl ?_
            refine Ex.ite (fun c8 => ?_) (fun c8 => ?_)
            · replace c8 : (nI acc.length) = 20 := of_decide_eq_true c8
              have d20 : acc.length = 20 := (nI_eq (b := 20) (by omega) (by decide)).mp c8
              show Ex X m_Reader_readTag 114 [.ref (c0 + 8), .ref (c0 + 1), .int sv, .int (nI run), .int (bi fs), .int (nI q), .int (hb t q), .int 1, .int 0] [] (hp c0 n _ _) _
              refine Ex.nx rfl ?_
              refine Ex.nx rfl ?_
              refine Ex.nx rfl ?_
              refine CR.rd hC rfl rfl rfl rfl (cr_fail hC 4 (nI q)) ?_
              rintro v h1 ⟨rfl, F14, rfl, hC14⟩
              show Ex X m_Reader_readTag 121 [.ref (c0 + 8), .ref (c0 + 1), .int sv, .int (nI run), .int (bi fs), .int (nI q), .int (hb t q), .int 1, .int 0] [.int (-1)] (hp c0 n _ _) _
              exact Ex.ret rfl (ev_reti rfl) (rP_f (show sT t (m + 1) q run fs acc = (false, q, acc) by first | (simp [sT, L45, D45, c2, c3, dr, d20]; done) | (exfalso; simp_all [L45, D45]; done)) ⟨_, _, _, _, _, _, (by decide), hC14⟩)
            · replace c8 : ¬ (nI acc.length) = 20 := of_decide_eq_false c8
              have d20 : ¬ acc.length = 20 := fun e => c8 (by rw [e]; rfl)
              show Ex X m_Reader_readTag 103 [.ref (c0 + 8), .ref (c0 + 1), .int sv, .int (nI run), .int (bi fs), .int (nI q), .int (hb t q), .int 1, .int 0] [] (hp c0 n _ _) _
              refine Ex.nx rfl ?_
              refine Ex.nx rfl ?_
              show Ex X m_Reader_readTag 108 [.ref (c0 + 8), .ref (c0 + 1), .int sv, .int (nI run), .int (bi fs), .int (nI q), .int (hb t q), .int 1, .int 0] [] (hp c0 n _ _) _
              refine Ex.nx rfl ?_
              refine Ex.nx rfl ?_
              refine Ex.nx rfl ?_
              refine Ex.ite (fun c9 => ?_) (fun c9 => ?_)
              · replace c9 : ¬ (nI run) = 8 := of_decide_eq_true c9
                have d8 : ¬ run = 8 := fun e => c9 (by rw [e]; rfl)
                show Ex X m_Reader_readTag 122 [.ref (c0 + 8), .ref (c0 + 1), .int sv, .int (nI run), .int (bi fs), .int (nI q), .int (hb t q), .int 1, .int 0] [] (hp c0 n _ _) _
                refine Ex.nx rfl ?_
                refine Ex.nx rfl ?_
                show Ex X m_Reader_readTag 140 [.ref (c0 + 8), .ref (c0 + 1), .int sv, .int (nI run), .int (bi fs), .int (nI q), .int (hb t q), .int 1, .int 0] [] (hp c0 n _ _) _
                refine Ex.nx rfl ?_
                refine Hx.get 8 rfl hC.r8 rfl ?_
                refine Hx.get 3 rfl hC.r3 rfl ?_
                refine Ex.nx rfl ?_
                refine Hx.calls rfl rfl rfl rfl (sx_Reader_small X (hb t q)) (fun v hv => ?_)
                subst hv
                show Ex X m_Reader_readTag 152 [.ref (c0 + 8), .ref (c0 + 1), .int sv, .int (nI run), .int (bi fs), .int (nI q), .int (hb t q), .int 1, .int 0] [.int (sml (hb t q)), .ref (c0 + 6)] (hp c0 n _ _) _
                refine Hx.top (y := nI (smlN (t.getD q 0))) (by rw [hb_lt (show q < t.length by omega)]; exact sml_all _ (hC.rt.by q)) ?_
                refine CR.adt (d := (smlN (t.getD q 0))) hC (smlN_lt _ (hC.rt.by q)) (by omega) rfl rfl ?_
                intro F15 hC15
                show Ex X m_Reader_readTag 155 [.ref (c0 + 8), .ref (c0 + 1), .int sv, .int (nI run), .int (bi fs), .int (nI q), .int (hb t q), .int 1, .int 0] [] (hp c0 n _ _) _
                refine Ex.nx rfl ?_
                refine Ex.nx rfl ?_
                show Ex X m_Reader_readTag 164 [.ref (c0 + 8), .ref (c0 + 1), .int sv, .int (nI run), .int (bi fs), .int (nI q), .int (hb t q), .int 1, .int 0] [] (hp c0 n _ _) _
                refine Ex.nx rfl ?_
                refine Ex.nx rfl ?_
                refine Ex.nx rfl ?_
                refine Ex.nx rfl ?_
                show Ex X m_Reader_readTag 168 [.ref (c0 + 8), .ref (c0 + 1), .int sv, .int ((nI run) + 1), .int (bi fs), .int (nI q), .int (hb t q), .int 1, .int 0] [] (hp c0 n _ _) _
                refine Ex.nx rfl ?_
                refine Ex.nx rfl ?_
                refine Ex.ite (fun c10 => ?_) (fun c10 => ?_)
                · replace c10 : fs = false := bi_eqt c10
                  show Ex X m_Reader_readTag 182 [.ref (c0 + 8), .ref (c0 + 1), .int sv, .int ((nI run) + 1), .int (bi fs), .int (nI q), .int (hb t q), .int 1, .int 0] [] (hp c0 n _ _) _
                  refine Ex.nx rfl ?_
                  refine Ex.nx rfl ?_
                  show Ex X m_Reader_readTag 185 [.ref (c0 + 8), .ref (c0 + 1), .int sv, .int ((nI run) + 1), .int 0, .int (nI q), .int (hb t q), .int 1, .int 0] [] (hp c0 n _ _) _
                  refine Ex.nx rfl ?_
                  show Ex X m_Reader_readTag 188 [.ref (c0 + 8), .ref (c0 + 1), .int sv, .int ((nI run) + 1), .int 0, .int ((nI q) + 1), .int (hb t q), .int 1, .int 0] [] (hp c0 n _ _) _
                  refine Ex.nx rfl ?_
                  show Ex X m_Reader_readTag 8 [.ref (c0 + 8), .ref (c0 + 1), .int sv, .int ((nI run) + 1), .int 0, .int ((nI q) + 1), .int (hb t q), .int 1, .int 0] [] (hp c0 n _ _) _
                  rw [show nI run + 1 = nI (run + 1) from nI_1 run, show nI q + 1 = nI (q + 1) from nI_1 q, show sT t (m + 1) q run fs acc = sT t m (q + 1) (run + 1) false (acc ++ [smlN (t.getD q 0)]) by first | (simp [sT, L45, D45, c2, c3, dr, d20, d8, c10]; done) | (exfalso; simp_all [L45, D45]; done)]
                  exact ih (q + 1) (run + 1) false _ _ _ _ _ (by omega) (by simp only [List.length_append, List.length_cons, List.length_nil]; omega) (by omega) hC15
                · replace c10 : fs = true := bi_eqf c10
                  show Ex X m_Reader_readTag 173 [.ref (c0 + 8), .ref (c0 + 1), .int sv, .int ((nI run) + 1), .int (bi fs), .int (nI q), .int (hb t q), .int 1, .int 0] [] (hp c0 n _ _) _
                  refine Ex.nx rfl ?_
                  refine Ex.nx rfl ?_
                  show Ex X m_Reader_readTag 178 [.ref (c0 + 8), .ref (c0 + 1), .int sv, .int ((nI run) + 1), .int (bi fs), .int (nI q), .int (hb t q), .int 1, .int 0] [] (hp c0 n _ _) _
                  refine Ex.nx rfl ?_
                  refine Ex.nx rfl ?_
                  refine Ex.nx rfl ?_
                  show Ex X m_Reader_readTag 185 [.ref (c0 + 8), .ref (c0 + 1), .int sv, .int ((nI run) + 1), .int 1, .int (nI q), .int (hb t q), .int 1, .int 0] [] (hp c0 n _ _) _
                  refine Ex.nx rfl ?_
                  show Ex X m_Reader_readTag 188 [.ref (c0 + 8), .ref (c0 + 1), .int sv, .int ((nI run) + 1), .int 1, .int ((nI q) + 1), .int (hb t q), .int 1, .int 0] [] (hp c0 n _ _) _
                  refine Ex.nx rfl ?_
                  show Ex X m_Reader_readTag 8 [.ref (c0 + 8), .ref (c0 + 1), .int sv, .int ((nI run) + 1), .int 1, .int ((nI q) + 1), .int (hb t q), .int 1, .int 0] [] (hp c0 n _ _) _
                  rw [show nI run + 1 = nI (run + 1) from nI_1 run, show nI q + 1 = nI (q + 1) from nI_1 q, show sT t (m + 1) q run fs acc = sT t m (q + 1) (run + 1) true (acc ++ [smlN (t.getD q 0)]) by first | (simp [sT, L45, D45, c2, c3, dr, d20, d8, c10]; done) | (exfalso; simp_all [L45, D45]; done)]
                  exact ih (q + 1) (run + 1) true _ _ _ _ _ (by omega) (by simp only [List.length_append, List.length_cons, List.length_nil]; omega) (by omega) hC15
              · replace c9 : (nI run) = 8 := Classical.not_not.mp (of_decide_eq_false c9)
                have d8 : run = 8 := (nI_eq (b := 8) (by omega) (by decide)).mp c9
                show Ex X m_Reader_readTag 114 [.ref (c0 + 8), .ref (c0 + 1), .int sv, .int (nI run), .int (bi fs), .int (nI q), .int (hb t q), .int 1, .int 0] [] (hp c0 n _ _) _
                refine Ex.nx rfl ?_
                refine Ex.nx rfl ?_
                refine Ex.nx rfl ?_
                refine CR.rd hC rfl rfl rfl rfl (cr_fail hC 4 (nI q)) ?_
                rintro v h1 ⟨rfl, F16, rfl, hC16⟩
                show Ex X m_Reader_readTag 121 [.ref (c0 + 8), .ref (c0 + 1), .int sv, .int (nI run), .int (bi fs), .int (nI q), .int (hb t q), .int 1, .int 0] [.int (-1)] (hp c0 n _ _) _
                exact Ex.ret rfl (ev_reti rfl) (rP_f (show sT t (m + 1) q run fs acc = (false, q, acc) by first | (simp [sT, L45, D45, c2, c3, dr, d20, d8]; done) | (exfalso; simp_all [L45, D45]; done)) ⟨_, _, _, _, _, _, (by decide), hC16⟩)
          · replace c7 : ¬ (nI run) ≤ 0 := of_decide_eq_false c7
            have dr : 0 < run := Nat.pos_of_ne_zero (fun e => c7 (by rw [e]; exact Int32.le_refl _))
            show Ex X m_Reader_readTag 64 [.ref (c0 + 8), .ref (c0 + 1), .int sv, .int (nI run), .int (bi fs), .int (nI q), .int (hb t q), .int 1, b8] [] (hp c0 n _ _) _
            refine Ex.nx rfl ?_
            refine Ex.nx rfl ?_
            refine Ex.nx rfl ?_
            show Ex X m_Reader_readTag 71 [.ref (c0 + 8), .ref (c0 + 1), .int sv, .int (nI run), .int (bi fs), .int (nI q), .int (hb t q), .int 1, .int 1] [] (hp c0 n _ _) _
            refine Ex.nx rfl ?_
            refine Ex.nx rfl ?_
            show Ex X m_Reader_readTag 88 [.ref (c0 + 8), .ref (c0 + 1), .int sv, .int (nI run), .int (bi fs), .int (nI q), .int (hb t q), .int 1, .int 1] [] (hp c0 n _ _) _
            refine Ex.nx rfl ?_
            refine Hx.get 8 rfl hC.r8 rfl ?_
            refine Hx.get 3 rfl hC.r3 rfl ?_
            refine CR.szt hC rfl rfl rfl ?_
            show Ex X m_Reader_readTag 98 [.ref (c0 + 8), .ref (c0 + 1), .int sv, .int (nI run), .int (bi fs), .int (nI q), .int (hb t q), .int 1, .int 1] [.int (nI acc.length)] (hp c0 n _ _) _
            refine Ex.nx rfl ?_
            refine Ex.nx rfl ?_
            refine Ex.ite (fun c11 => ?_) (fun c11 => ?_)
            · replace c11 : (nI acc.length) = 20 := of_decide_eq_true c11
              have d20 : acc.length = 20 := (nI_eq (b := 20) (by omega) (by decide)).mp c11
              show Ex X m_Reader_readTag 114 [.ref (c0 + 8), .ref (c0 + 1), .int sv, .int (nI run), .int (bi fs), .int (nI q), .int (hb t q), .int 1, .int 1] [] (hp c0 n _ _) _
              refine Ex.nx rfl ?_
              refine Ex.nx rfl ?_
              refine Ex.nx rfl ?_
              refine CR.rd hC rfl rfl rfl rfl (cr_fail hC 4 (nI q)) ?_
              rintro v h1 ⟨rfl, F17, rfl, hC17⟩
              show Ex X m_Reader_readTag 121 [.ref (c0 + 8), .ref (c0 + 1), .int sv, .int (nI run), .int (bi fs), .int (nI q), .int (hb t q), .int 1, .int 1] [.int (-1)] (hp c0 n _ _) _
              exact Ex.ret rfl (ev_reti rfl) (rP_f (show sT t (m + 1) q run fs acc = (false, q, acc) by first | (simp [sT, L45, D45, c2, c3, dr, d20]; done) | (exfalso; simp_all [L45, D45]; done)) ⟨_, _, _, _, _, _, (by decide), hC17⟩)
            · replace c11 : ¬ (nI acc.length) = 20 := of_decide_eq_false c11
              have d20 : ¬ acc.length = 20 := fun e => c11 (by rw [e]; rfl)
              show Ex X m_Reader_readTag 103 [.ref (c0 + 8), .ref (c0 + 1), .int sv, .int (nI run), .int (bi fs), .int (nI q), .int (hb t q), .int 1, .int 1] [] (hp c0 n _ _) _
              refine Ex.nx rfl ?_
              refine Ex.nx rfl ?_
              show Ex X m_Reader_readTag 108 [.ref (c0 + 8), .ref (c0 + 1), .int sv, .int (nI run), .int (bi fs), .int (nI q), .int (hb t q), .int 1, .int 1] [] (hp c0 n _ _) _
              refine Ex.nx rfl ?_
              refine Ex.nx rfl ?_
              refine Ex.nx rfl ?_
              refine Ex.ite (fun c12 => ?_) (fun c12 => ?_)
              · replace c12 : ¬ (nI run) = 8 := of_decide_eq_true c12
                have d8 : ¬ run = 8 := fun e => c12 (by rw [e]; rfl)
                show Ex X m_Reader_readTag 122 [.ref (c0 + 8), .ref (c0 + 1), .int sv, .int (nI run), .int (bi fs), .int (nI q), .int (hb t q), .int 1, .int 1] [] (hp c0 n _ _) _
                refine Ex.nx rfl ?_
                refine Ex.nx rfl ?_
                show Ex X m_Reader_readTag 140 [.ref (c0 + 8), .ref (c0 + 1), .int sv, .int (nI run), .int (bi fs), .int (nI q), .int (hb t q), .int 1, .int 1] [] (hp c0 n _ _) _
                refine Ex.nx rfl ?_
                refine Hx.get 8 rfl hC.r8 rfl ?_
                refine Hx.get 3 rfl hC.r3 rfl ?_
                refine Ex.nx rfl ?_
                refine Hx.calls rfl rfl rfl rfl (sx_Reader_small X (hb t q)) (fun v hv => ?_)
                subst hv
                show Ex X m_Reader_readTag 152 [.ref (c0 + 8), .ref (c0 + 1), .int sv, .int (nI run), .int (bi fs), .int (nI q), .int (hb t q), .int 1, .int 1] [.int (sml (hb t q)), .ref (c0 + 6)] (hp c0 n _ _) _
                refine Hx.top (y := nI (smlN (t.getD q 0))) (by rw [hb_lt (show q < t.length by omega)]; exact sml_all _ (hC.rt.by q)) ?_
                refine CR.adt (d := (smlN (t.getD q 0))) hC (smlN_lt _ (hC.rt.by q)) (by omega) rfl rfl ?_
                intro F18 hC18
                show Ex X m_Reader_readTag 155 [.ref (c0 + 8), .ref (c0 + 1), .int sv, .int (nI run), .int (bi fs), .int (nI q), .int (hb t q), .int 1, .int 1] [] (hp c0 n _ _) _
                refine Ex.nx rfl ?_
                refine Ex.nx rfl ?_
                show Ex X m_Reader_readTag 160 [.ref (c0 + 8), .ref (c0 + 1), .int sv, .int (nI run), .int (bi fs), .int (nI q), .int (hb t q), .int 1, .int 1] [] (hp c0 n _ _) _
                refine Ex.nx rfl ?_
                refine Ex.nx rfl ?_
                refine Ex.nx rfl ?_
                show Ex X m_Reader_readTag 168 [.ref (c0 + 8), .ref (c0 + 1), .int sv, .int 0, .int (bi fs), .int (nI q), .int (hb t q), .int 1, .int 1] [] (hp c0 n _ _) _
                refine Ex.nx rfl ?_
                refine Ex.nx rfl ?_
                refine Ex.ite (fun c13 => ?_) (fun c13 => ?_)
                · replace c13 : fs = false := bi_eqt c13
                  show Ex X m_Reader_readTag 182 [.ref (c0 + 8), .ref (c0 + 1), .int sv, .int 0, .int (bi fs), .int (nI q), .int (hb t q), .int 1, .int 1] [] (hp c0 n _ _) _
                  refine Ex.nx rfl ?_
                  refine Ex.nx rfl ?_
                  show Ex X m_Reader_readTag 185 [.ref (c0 + 8), .ref (c0 + 1), .int sv, .int 0, .int 0, .int (nI q), .int (hb t q), .int 1, .int 1] [] (hp c0 n _ _) _
                  refine Ex.nx rfl ?_
                  show Ex X m_Reader_readTag 188 [.ref (c0 + 8), .ref (c0 + 1), .int sv, .int 0, .int 0, .int ((nI q) + 1), .int (hb t q), .int 1, .int 1] [] (hp c0 n _ _) _
                  refine Ex.nx rfl ?_
                  show Ex X m_Reader_readTag 8 [.ref (c0 + 8), .ref (c0 + 1), .int sv, .int 0, .int 0, .int ((nI q) + 1), .int (hb t q), .int 1, .int 1] [] (hp c0 n _ _) _
                  rw [show nI q + 1 = nI (q + 1) from nI_1 q, show sT t (m + 1) q run fs acc = sT t m (q + 1) 0 false (acc ++ [smlN (t.getD q 0)]) by first | (simp [sT, L45, D45, c2, c3, dr, d20, d8, c13]; done) | (exfalso; simp_all [L45, D45]; done)]
                  exact ih (q + 1) 0 false _ _ _ _ _ (by omega) (by simp only [List.length_append, List.length_cons, List.length_nil]; omega) (by omega) hC18
                · replace c13 : fs = true := bi_eqf c13
                  show Ex X m_Reader_readTag 173 [.ref (c0 + 8), .ref (c0 + 1), .int sv, .int 0, .int (bi fs), .int (nI q), .int (hb t q), .int 1, .int 1] [] (hp c0 n _ _) _
                  refine Ex.nx rfl ?_
                  refine Ex.nx rfl ?_
                  show Ex X m_Reader_readTag 182 [.ref (c0 + 8), .ref (c0 + 1), .int sv, .int 0, .int (bi fs), .int (nI q), .int (hb t q), .int 1, .int 1] [] (hp c0 n _ _) _
                  refine Ex.nx rfl ?_
                  refine Ex.nx rfl ?_
                  show Ex X m_Reader_readTag 185 [.ref (c0 + 8), .ref (c0 + 1), .int sv, .int 0, .int 0, .int (nI q), .int (hb t q), .int 1, .int 1] [] (hp c0 n _ _) _
                  refine Ex.nx rfl ?_
                  show Ex X m_Reader_readTag 188 [.ref (c0 + 8), .ref (c0 + 1), .int sv, .int 0, .int 0, .int ((nI q) + 1), .int (hb t q), .int 1, .int 1] [] (hp c0 n _ _) _
                  refine Ex.nx rfl ?_
                  show Ex X m_Reader_readTag 8 [.ref (c0 + 8), .ref (c0 + 1), .int sv, .int 0, .int 0, .int ((nI q) + 1), .int (hb t q), .int 1, .int 1] [] (hp c0 n _ _) _
                  rw [show nI q + 1 = nI (q + 1) from nI_1 q, show sT t (m + 1) q run fs acc = sT t m (q + 1) 0 false (acc ++ [smlN (t.getD q 0)]) by first | (simp [sT, L45, D45, c2, c3, dr, d20, d8, c13]; done) | (exfalso; simp_all [L45, D45]; done)]
                  exact ih (q + 1) 0 false _ _ _ _ _ (by omega) (by simp only [List.length_append, List.length_cons, List.length_nil]; omega) (by omega) hC18
              · replace c12 : (nI run) = 8 := Classical.not_not.mp (of_decide_eq_false c12)
                have d8 : run = 8 := (nI_eq (b := 8) (by omega) (by decide)).mp c12
                show Ex X m_Reader_readTag 114 [.ref (c0 + 8), .ref (c0 + 1), .int sv, .int (nI run), .int (bi fs), .int (nI q), .int (hb t q), .int 1, .int 1] [] (hp c0 n _ _) _
                refine Ex.nx rfl ?_
                refine Ex.nx rfl ?_
                refine Ex.nx rfl ?_
                refine CR.rd hC rfl rfl rfl rfl (cr_fail hC 4 (nI q)) ?_
                rintro v h1 ⟨rfl, F19, rfl, hC19⟩
                show Ex X m_Reader_readTag 121 [.ref (c0 + 8), .ref (c0 + 1), .int sv, .int (nI run), .int (bi fs), .int (nI q), .int (hb t q), .int 1, .int 1] [.int (-1)] (hp c0 n _ _) _
                exact Ex.ret rfl (ev_reti rfl) (rP_f (show sT t (m + 1) q run fs acc = (false, q, acc) by first | (simp [sT, L45, D45, c2, c3, dr, d20, d8]; done) | (exfalso; simp_all [L45, D45]; done)) ⟨_, _, _, _, _, _, (by decide), hC19⟩)
      · replace c2 : (isL (hb t q)) = false := bi_nef c2
        show Ex X m_Reader_readTag 33 [.ref (c0 + 8), .ref (c0 + 1), .int sv, .int (nI run), .int (bi fs), .int (nI q), .int (hb t q), b7, b8] [] (hp c0 n _ _) _
        refine Ex.nx rfl ?_
        refine Hx.calls rfl rfl rfl rfl (sx_Reader_isDigit X (hb t q)) (fun v hv => ?_)
        subst hv
        show Ex X m_Reader_readTag 38 [.ref (c0 + 8), .ref (c0 + 1), .int sv, .int (nI run), .int (bi fs), .int (nI q), .int (hb t q), b7, b8] [.int (bi (isD (hb t q)))] (hp c0 n _ _) _
        refine Ex.nx rfl ?_
        refine Ex.ite (fun c14 => ?_) (fun c14 => ?_)
        · replace c14 : (isD (hb t q)) = false := bi_eqt c14
          show Ex X m_Reader_readTag 50 [.ref (c0 + 8), .ref (c0 + 1), .int sv, .int (nI run), .int (bi fs), .int (nI q), .int (hb t q), b7, b8] [] (hp c0 n _ _) _
          refine Ex.nx rfl ?_
          refine Ex.nx rfl ?_
          show Ex X m_Reader_readTag 53 [.ref (c0 + 8), .ref (c0 + 1), .int sv, .int (nI run), .int (bi fs), .int (nI q), .int (hb t q), .int 0, b8] [] (hp c0 n _ _) _
          refine Ex.nx rfl ?_
          refine Ex.nx rfl ?_
          refine Ex.nx rfl ?_
          refine Ex.ite (fun c15 => ?_) (fun c15 => ?_)
          · replace c15 : ¬ (hb t q) = 45 := of_decide_eq_true c15
            show Ex X m_Reader_readTag 68 [.ref (c0 + 8), .ref (c0 + 1), .int sv, .int (nI run), .int (bi fs), .int (nI q), .int (hb t q), .int 0, b8] [] (hp c0 n _ _) _
            refine Ex.nx rfl ?_
            refine Ex.nx rfl ?_
            show Ex X m_Reader_readTag 71 [.ref (c0 + 8), .ref (c0 + 1), .int sv, .int (nI run), .int (bi fs), .int (nI q), .int (hb t q), .int 0, .int 0] [] (hp c0 n _ _) _
            refine Ex.nx rfl ?_
            refine Ex.nx rfl ?_
            show Ex X m_Reader_readTag 76 [.ref (c0 + 8), .ref (c0 + 1), .int sv, .int (nI run), .int (bi fs), .int (nI q), .int (hb t q), .int 0, .int 0] [] (hp c0 n _ _) _
            refine Ex.nx rfl ?_
            refine Ex.nx rfl ?_
            show Ex X m_Reader_readTag 81 [.ref (c0 + 8), .ref (c0 + 1), .int sv, .int (nI run), .int (bi fs), .int (nI q), .int (hb t q), .int 0, .int 0] [] (hp c0 n _ _) _
            refine Ex.nx rfl ?_
            refine Ex.nx rfl ?_
            refine Ex.ite (fun c16 => ?_) (fun c16 => ?_)
            · replace c16 : (nI run) ≤ 0 := of_decide_eq_true c16
              have dr : ¬ 0 < run := by have := (nI_leI (b := 0) (by omega) (by decide)).mp c16; omega
              show Ex X m_Reader_readTag 88 [.ref (c0 + 8), .ref (c0 + 1), .int sv, .int (nI run), .int (bi fs), .int (nI q), .int (hb t q), .int 0, .int 0] [] (hp c0 n _ _) _
              refine Ex.nx rfl ?_
              refine Hx.get 8 rfl hC.r8 rfl ?_
              refine Hx.get 3 rfl hC.r3 rfl ?_
              refine CR.szt hC rfl rfl rfl ?_
              show Ex X m_Reader_readTag 98 [.ref (c0 + 8), .ref (c0 + 1), .int sv, .int (nI run), .int (bi fs), .int (nI q), .int (hb t q), .int 0, .int 0] [.int (nI acc.length)] (hp c0 n _ _) _
              refine Ex.nx rfl ?_
              refine Ex.nx rfl ?_
              refine Ex.ite (fun c17 => ?_) (fun c17 => ?_)
              · replace c17 : (nI acc.length) = 20 := of_decide_eq_true c17
                have d20 : acc.length = 20 := (nI_eq (b := 20) (by omega) (by decide)).mp c17
                show Ex X m_Reader_readTag 114 [.ref (c0 + 8), .ref (c0 + 1), .int sv, .int (nI run), .int (bi fs), .int (nI q), .int (hb t q), .int 0, .int 0] [] (hp c0 n _ _) _
                refine Ex.nx rfl ?_
                refine Ex.nx rfl ?_
                refine Ex.nx rfl ?_
                refine CR.rd hC rfl rfl rfl rfl (cr_fail hC 4 (nI q)) ?_
                rintro v h1 ⟨rfl, F20, rfl, hC20⟩
                show Ex X m_Reader_readTag 121 [.ref (c0 + 8), .ref (c0 + 1), .int sv, .int (nI run), .int (bi fs), .int (nI q), .int (hb t q), .int 0, .int 0] [.int (-1)] (hp c0 n _ _) _
                exact Ex.ret rfl (ev_reti rfl) (rP_f (show sT t (m + 1) q run fs acc = (false, q, acc) by first | (simp [sT, L45, D45, c2, c14, c15, dr, d20]; done) | (exfalso; simp_all [L45, D45]; done)) ⟨_, _, _, _, _, _, (by decide), hC20⟩)
              · replace c17 : ¬ (nI acc.length) = 20 := of_decide_eq_false c17
                have d20 : ¬ acc.length = 20 := fun e => c17 (by rw [e]; rfl)
                show Ex X m_Reader_readTag 103 [.ref (c0 + 8), .ref (c0 + 1), .int sv, .int (nI run), .int (bi fs), .int (nI q), .int (hb t q), .int 0, .int 0] [] (hp c0 n _ _) _
                refine Ex.nx rfl ?_
                refine Ex.nx rfl ?_
                show Ex X m_Reader_readTag 122 [.ref (c0 + 8), .ref (c0 + 1), .int sv, .int (nI run), .int (bi fs), .int (nI q), .int (hb t q), .int 0, .int 0] [] (hp c0 n _ _) _
                refine Ex.nx rfl ?_
                refine Ex.nx rfl ?_
                show Ex X m_Reader_readTag 127 [.ref (c0 + 8), .ref (c0 + 1), .int sv, .int (nI run), .int (bi fs), .int (nI q), .int (hb t q), .int 0, .int 0] [] (hp c0 n _ _) _
                refine Ex.nx rfl ?_
                refine Ex.nx rfl ?_
                show Ex X m_Reader_readTag 132 [.ref (c0 + 8), .ref (c0 + 1), .int sv, .int (nI run), .int (bi fs), .int (nI q), .int (hb t q), .int 0, .int 0] [] (hp c0 n _ _) _
                refine Ex.nx rfl ?_
                refine Ex.nx rfl ?_
                refine Ex.nx rfl ?_
                refine CR.rd hC rfl rfl rfl rfl (cr_fail hC 3 (nI q)) ?_
                rintro v h1 ⟨rfl, F21, rfl, hC21⟩
                show Ex X m_Reader_readTag 139 [.ref (c0 + 8), .ref (c0 + 1), .int sv, .int (nI run), .int (bi fs), .int (nI q), .int (hb t q), .int 0, .int 0] [.int (-1)] (hp c0 n _ _) _
                exact Ex.ret rfl (ev_reti rfl) (rP_f (show sT t (m + 1) q run fs acc = (false, q, acc) by first | (simp [sT, L45, D45, c2, c14, c15, dr, d20]; done) | (exfalso; simp_all [L45, D45]; done)) ⟨_, _, _, _, _, _, (by decide), hC21⟩)
            · replace c16 : ¬ (nI run) ≤ 0 := of_decide_eq_false c16
              have dr : 0 < run := Nat.pos_of_ne_zero (fun e => c16 (by rw [e]; exact Int32.le_refl _))
              show Ex X m_Reader_readTag 85 [.ref (c0 + 8), .ref (c0 + 1), .int sv, .int (nI run), .int (bi fs), .int (nI q), .int (hb t q), .int 0, .int 0] [] (hp c0 n _ _) _
              refine Ex.nx rfl ?_
              exact Ex.ret rfl (ev_reti rfl) (rP_t (show sT t (m + 1) q run fs acc = (true, q, acc) by first | (simp [sT, L45, D45, c2, c14, c15, dr]; done) | (exfalso; simp_all [L45, D45]; done)) hC)
          · replace c15 : (hb t q) = 45 := Classical.not_not.mp (of_decide_eq_false c15)
            show Ex X m_Reader_readTag 60 [.ref (c0 + 8), .ref (c0 + 1), .int sv, .int (nI run), .int (bi fs), .int (nI q), .int (hb t q), .int 0, b8] [] (hp c0 n _ _) _
            refine Ex.nx rfl ?_
            refine Ex.nx rfl ?_
            refine Ex.ite (fun c18 => ?_) (fun c18 => ?_)
            · replace c18 : (nI run) ≤ 0 := of_decide_eq_true c18
              have dr : ¬ 0 < run := by have := (nI_leI (b := 0) (by omega) (by decide)).mp c18; omega
              show Ex X m_Reader_readTag 68 [.ref (c0 + 8), .ref (c0 + 1), .int sv, .int (nI run), .int (bi fs), .int (nI q), .int (hb t q), .int 0, b8] [] (hp c0 n _ _) _
              refine Ex.nx rfl ?_
              refine Ex.nx rfl ?_
              show Ex X m_Reader_readTag 71 [.ref (c0 + 8), .ref (c0 + 1), .int sv, .int (nI run), .int (bi fs), .int (nI q), .int (hb t q), .int 0, .int 0] [] (hp c0 n _ _) _
              refine Ex.nx rfl ?_
              refine Ex.nx rfl ?_
              show Ex X m_Reader_readTag 76 [.ref (c0 + 8), .ref (c0 + 1), .int sv, .int (nI run), .int (bi fs), .int (nI q), .int (hb t q), .int 0, .int 0] [] (hp c0 n _ _) _
              refine Ex.nx rfl ?_
              refine Ex.nx rfl ?_
              show Ex X m_Reader_readTag 81 [.ref (c0 + 8), .ref (c0 + 1), .int sv, .int (nI run), .int (bi fs), .int (nI q), .int (hb t q), .int 0, .int 0] [] (hp c0 n _ _) _
              refine Ex.nx rfl ?_
              refine Ex.nx rfl ?_
              refine Ex.ite (fun c19 => ?_) (fun c19 => ?_)
              · replace c19 : (nI run) ≤ 0 := of_decide_eq_true c19
                have dr : ¬ 0 < run := by have := (nI_leI (b := 0) (by omega) (by decide)).mp c19; omega
                show Ex X m_Reader_readTag 88 [.ref (c0 + 8), .ref (c0 + 1), .int sv, .int (nI run), .int (bi fs), .int (nI q), .int (hb t q), .int 0, .int 0] [] (hp c0 n _ _) _
                refine Ex.nx rfl ?_
                refine Hx.get 8 rfl hC.r8 rfl ?_
                refine Hx.get 3 rfl hC.r3 rfl ?_
                refine CR.szt hC rfl rfl rfl ?_
                show Ex X m_Reader_readTag 98 [.ref (c0 + 8), .ref (c0 + 1), .int sv, .int (nI run), .int (bi fs), .int (nI q), .int (hb t q), .int 0, .int 0] [.int (nI acc.length)] (hp c0 n _ _) _
                refine Ex.nx rfl ?_
                refine Ex.nx rfl ?_
                refine Ex.ite (fun c20 => ?_) (fun c20 => ?_)
                · replace c20 : (nI acc.length) = 20 := of_decide_eq_true c20
                  have d20 : acc.length = 20 := (nI_eq (b := 20) (by omega) (by decide)).mp c20
                  show Ex X m_Reader_readTag 114 [.ref (c0 + 8), .ref (c0 + 1), .int sv, .int (nI run), .int (bi fs), .int (nI q), .int (hb t q), .int 0, .int 0] [] (hp c0 n _ _) _
                  refine Ex.nx rfl ?_
                  refine Ex.nx rfl ?_
                  refine Ex.nx rfl ?_
                  refine CR.rd hC rfl rfl rfl rfl (cr_fail hC 4 (nI q)) ?_
                  rintro v h1 ⟨rfl, F22, rfl, hC22⟩
                  show Ex X m_Reader_readTag 121 [.ref (c0 + 8), .ref (c0 + 1), .int sv, .int (nI run), .int (bi fs), .int (nI q), .int (hb t q), .int 0, .int 0] [.int (-1)] (hp c0 n _ _) _
                  exact Ex.ret rfl (ev_reti rfl) (rP_f (show sT t (m + 1) q run fs acc = (false, q, acc) by first | (simp [sT, L45, D45, c2, c14, c15, dr, d20]; done) | (exfalso; simp_all [L45, D45]; done)) ⟨_, _, _, _, _, _, (by decide), hC22⟩)
                · replace c20 : ¬ (nI acc.length) = 20 := of_decide_eq_false c20
                  have d20 : ¬ acc.length = 20 := fun e => c20 (by rw [e]; rfl)
                  show Ex X m_Reader_readTag 103 [.ref (c0 + 8), .ref (c0 + 1), .int sv, .int (nI run), .int (bi fs), .int (nI q), .int (hb t q), .int 0, .int 0] [] (hp c0 n _ _) _
                  refine Ex.nx rfl ?_
                  refine Ex.nx rfl ?_
                  show Ex X m_Reader_readTag 122 [.ref (c0 + 8), .ref (c0 + 1), .int sv, .int (nI run), .int (bi fs), .int (nI q), .int (hb t q), .int 0, .int 0] [] (hp c0 n _ _) _
                  refine Ex.nx rfl ?_
                  refine Ex.nx rfl ?_
                  show Ex X m_Reader_readTag 127 [.ref (c0 + 8), .ref (c0 + 1), .int sv, .int (nI run), .int (bi fs), .int (nI q), .int (hb t q), .int 0, .int 0] [] (hp c0 n _ _) _
                  refine Ex.nx rfl ?_
                  refine Ex.nx rfl ?_
                  show Ex X m_Reader_readTag 132 [.ref (c0 + 8), .ref (c0 + 1), .int sv, .int (nI run), .int (bi fs), .int (nI q), .int (hb t q), .int 0, .int 0] [] (hp c0 n _ _) _
                  refine Ex.nx rfl ?_
                  refine Ex.nx rfl ?_
                  refine Ex.nx rfl ?_
                  refine CR.rd hC rfl rfl rfl rfl (cr_fail hC 3 (nI q)) ?_
                  rintro v h1 ⟨rfl, F23, rfl, hC23⟩
                  show Ex X m_Reader_readTag 139 [.ref (c0 + 8), .ref (c0 + 1), .int sv, .int (nI run), .int (bi fs), .int (nI q), .int (hb t q), .int 0, .int 0] [.int (-1)] (hp c0 n _ _) _
                  exact Ex.ret rfl (ev_reti rfl) (rP_f (show sT t (m + 1) q run fs acc = (false, q, acc) by first | (simp [sT, L45, D45, c2, c14, c15, dr, d20]; done) | (exfalso; simp_all [L45, D45]; done)) ⟨_, _, _, _, _, _, (by decide), hC23⟩)
              · replace c19 : ¬ (nI run) ≤ 0 := of_decide_eq_false c19
                exact absurd c18 c19
            · replace c18 : ¬ (nI run) ≤ 0 := of_decide_eq_false c18
              have dr : 0 < run := Nat.pos_of_ne_zero (fun e => c18 (by rw [e]; exact Int32.le_refl _))
              show Ex X m_Reader_readTag 64 [.ref (c0 + 8), .ref (c0 + 1), .int sv, .int (nI run), .int (bi fs), .int (nI q), .int (hb t q), .int 0, b8] [] (hp c0 n _ _) _
              refine Ex.nx rfl ?_
              refine Ex.nx rfl ?_
              refine Ex.nx rfl ?_
              show Ex X m_Reader_readTag 71 [.ref (c0 + 8), .ref (c0 + 1), .int sv, .int (nI run), .int (bi fs), .int (nI q), .int (hb t q), .int 0, .int 1] [] (hp c0 n _ _) _
              refine Ex.nx rfl ?_
              refine Ex.nx rfl ?_
              show Ex X m_Reader_readTag 76 [.ref (c0 + 8), .ref (c0 + 1), .int sv, .int (nI run), .int (bi fs), .int (nI q), .int (hb t q), .int 0, .int 1] [] (hp c0 n _ _) _
              refine Ex.nx rfl ?_
              refine Ex.nx rfl ?_
              show Ex X m_Reader_readTag 88 [.ref (c0 + 8), .ref (c0 + 1), .int sv, .int (nI run), .int (bi fs), .int (nI q), .int (hb t q), .int 0, .int 1] [] (hp c0 n _ _) _
              refine Ex.nx rfl ?_
              refine Hx.get 8 rfl hC.r8 rfl ?_
              refine Hx.get 3 rfl hC.r3 rfl ?_
              refine CR.szt hC rfl rfl rfl ?_
              show Ex X m_Reader_readTag 98 [.ref (c0 + 8), .ref (c0 + 1), .int sv, .int (nI run), .int (bi fs), .int (nI q), .int (hb t q), .int 0, .int 1] [.int (nI acc.length)] (hp c0 n _ _) _
              refine Ex.nx rfl ?_
              refine Ex.nx rfl ?_
              refine Ex.ite (fun c21 => ?_) (fun c21 => ?_)
              · replace c21 : (nI acc.length) = 20 := of_decide_eq_true c21
                have d20 : acc.length = 20 := (nI_eq (b := 20) (by omega) (by decide)).mp c21
                show Ex X m_Reader_readTag 114 [.ref (c0 + 8), .ref (c0 + 1), .int sv, .int (nI run), .int (bi fs), .int (nI q), .int (hb t q), .int 0, .int 1] [] (hp c0 n _ _) _
                refine Ex.nx rfl ?_
                refine Ex.nx rfl ?_
                refine Ex.nx rfl ?_
                refine CR.rd hC rfl rfl rfl rfl (cr_fail hC 4 (nI q)) ?_
                rintro v h1 ⟨rfl, F24, rfl, hC24⟩
                show Ex X m_Reader_readTag 121 [.ref (c0 + 8), .ref (c0 + 1), .int sv, .int (nI run), .int (bi fs), .int (nI q), .int (hb t q), .int 0, .int 1] [.int (-1)] (hp c0 n _ _) _
                exact Ex.ret rfl (ev_reti rfl) (rP_f (show sT t (m + 1) q run fs acc = (false, q, acc) by first | (simp [sT, L45, D45, c2, c14, c15, dr, d20]; done) | (exfalso; simp_all [L45, D45]; done)) ⟨_, _, _, _, _, _, (by decide), hC24⟩)
              · replace c21 : ¬ (nI acc.length) = 20 := of_decide_eq_false c21
                have d20 : ¬ acc.length = 20 := fun e => c21 (by rw [e]; rfl)
                show Ex X m_Reader_readTag 103 [.ref (c0 + 8), .ref (c0 + 1), .int sv, .int (nI run), .int (bi fs), .int (nI q), .int (hb t q), .int 0, .int 1] [] (hp c0 n _ _) _
                refine Ex.nx rfl ?_
                refine Ex.nx rfl ?_
                show Ex X m_Reader_readTag 122 [.ref (c0 + 8), .ref (c0 + 1), .int sv, .int (nI run), .int (bi fs), .int (nI q), .int (hb t q), .int 0, .int 1] [] (hp c0 n _ _) _
                refine Ex.nx rfl ?_
                refine Ex.nx rfl ?_
                show Ex X m_Reader_readTag 127 [.ref (c0 + 8), .ref (c0 + 1), .int sv, .int (nI run), .int (bi fs), .int (nI q), .int (hb t q), .int 0, .int 1] [] (hp c0 n _ _) _
                refine Ex.nx rfl ?_
                refine Ex.nx rfl ?_
                show Ex X m_Reader_readTag 140 [.ref (c0 + 8), .ref (c0 + 1), .int sv, .int (nI run), .int (bi fs), .int (nI q), .int (hb t q), .int 0, .int 1] [] (hp c0 n _ _) _
                refine Ex.nx rfl ?_
                refine Hx.get 8 rfl hC.r8 rfl ?_
                refine Hx.get 3 rfl hC.r3 rfl ?_
                refine Ex.nx rfl ?_
                refine Hx.calls rfl rfl rfl rfl (sx_Reader_small X (hb t q)) (fun v hv => ?_)
                subst hv
                show Ex X m_Reader_readTag 152 [.ref (c0 + 8), .ref (c0 + 1), .int sv, .int (nI run), .int (bi fs), .int (nI q), .int (hb t q), .int 0, .int 1] [.int (sml (hb t q)), .ref (c0 + 6)] (hp c0 n _ _) _
                refine Hx.top (y := nI (smlN (t.getD q 0))) (by rw [hb_lt (show q < t.length by omega)]; exact sml_all _ (hC.rt.by q)) ?_
                refine CR.adt (d := (smlN (t.getD q 0))) hC (smlN_lt _ (hC.rt.by q)) (by omega) rfl rfl ?_
                intro F25 hC25
                show Ex X m_Reader_readTag 155 [.ref (c0 + 8), .ref (c0 + 1), .int sv, .int (nI run), .int (bi fs), .int (nI q), .int (hb t q), .int 0, .int 1] [] (hp c0 n _ _) _
                refine Ex.nx rfl ?_
                refine Ex.nx rfl ?_
                show Ex X m_Reader_readTag 160 [.ref (c0 + 8), .ref (c0 + 1), .int sv, .int (nI run), .int (bi fs), .int (nI q), .int (hb t q), .int 0, .int 1] [] (hp c0 n _ _) _
                refine Ex.nx rfl ?_
                refine Ex.nx rfl ?_
                refine Ex.nx rfl ?_
                show Ex X m_Reader_readTag 168 [.ref (c0 + 8), .ref (c0 + 1), .int sv, .int 0, .int (bi fs), .int (nI q), .int (hb t q), .int 0, .int 1] [] (hp c0 n _ _) _
                refine Ex.nx rfl ?_
                refine Ex.nx rfl ?_
                refine Ex.ite (fun c22 => ?_) (fun c22 => ?_)
                · replace c22 : fs = false := bi_eqt c22
                  show Ex X m_Reader_readTag 182 [.ref (c0 + 8), .ref (c0 + 1), .int sv, .int 0, .int (bi fs), .int (nI q), .int (hb t q), .int 0, .int 1] [] (hp c0 n _ _) _
                  refine Ex.nx rfl ?_
                  refine Ex.nx rfl ?_
                  show Ex X m_Reader_readTag 185 [.ref (c0 + 8), .ref (c0 + 1), .int sv, .int 0, .int 0, .int (nI q), .int (hb t q), .int 0, .int 1] [] (hp c0 n _ _) _
                  refine Ex.nx rfl ?_
                  show Ex X m_Reader_readTag 188 [.ref (c0 + 8), .ref (c0 + 1), .int sv, .int 0, .int 0, .int ((nI q) + 1), .int (hb t q), .int 0, .int 1] [] (hp c0 n _ _) _
                  refine Ex.nx rfl ?_
                  show Ex X m_Reader_readTag 8 [.ref (c0 + 8), .ref (c0 + 1), .int sv, .int 0, .int 0, .int ((nI q) + 1), .int (hb t q), .int 0, .int 1] [] (hp c0 n _ _) _
                  rw [show nI q + 1 = nI (q + 1) from nI_1 q, show sT t (m + 1) q run fs acc = sT t m (q + 1) 0 false (acc ++ [smlN (t.getD q 0)]) by first | (simp [sT, L45, D45, c2, c14, c15, dr, d20, c22]; done) | (exfalso; simp_all [L45, D45]; done)]
                  exact ih (q + 1) 0 false _ _ _ _ _ (by omega) (by simp only [List.length_append, List.length_cons, List.length_nil]; omega) (by omega) hC25
                · replace c22 : fs = true := bi_eqf c22
                  show Ex X m_Reader_readTag 173 [.ref (c0 + 8), .ref (c0 + 1), .int sv, .int 0, .int (bi fs), .int (nI q), .int (hb t q), .int 0, .int 1] [] (hp c0 n _ _) _
                  refine Ex.nx rfl ?_
                  refine Ex.nx rfl ?_
                  show Ex X m_Reader_readTag 182 [.ref (c0 + 8), .ref (c0 + 1), .int sv, .int 0, .int (bi fs), .int (nI q), .int (hb t q), .int 0, .int 1] [] (hp c0 n _ _) _
                  refine Ex.nx rfl ?_
                  refine Ex.nx rfl ?_
                  show Ex X m_Reader_readTag 185 [.ref (c0 + 8), .ref (c0 + 1), .int sv, .int 0, .int 0, .int (nI q), .int (hb t q), .int 0, .int 1] [] (hp c0 n _ _) _
                  refine Ex.nx rfl ?_
                  show Ex X m_Reader_readTag 188 [.ref (c0 + 8), .ref (c0 + 1), .int sv, .int 0, .int 0, .int ((nI q) + 1), .int (hb t q), .int 0, .int 1] [] (hp c0 n _ _) _
                  refine Ex.nx rfl ?_
                  show Ex X m_Reader_readTag 8 [.ref (c0 + 8), .ref (c0 + 1), .int sv, .int 0, .int 0, .int ((nI q) + 1), .int (hb t q), .int 0, .int 1] [] (hp c0 n _ _) _
                  rw [show nI q + 1 = nI (q + 1) from nI_1 q, show sT t (m + 1) q run fs acc = sT t m (q + 1) 0 false (acc ++ [smlN (t.getD q 0)]) by first | (simp [sT, L45, D45, c2, c14, c15, dr, d20, c22]; done) | (exfalso; simp_all [L45, D45]; done)]
                  exact ih (q + 1) 0 false _ _ _ _ _ (by omega) (by simp only [List.length_append, List.length_cons, List.length_nil]; omega) (by omega) hC25
        · replace c14 : (isD (hb t q)) = true := bi_eqf c14
          show Ex X m_Reader_readTag 41 [.ref (c0 + 8), .ref (c0 + 1), .int sv, .int (nI run), .int (bi fs), .int (nI q), .int (hb t q), b7, b8] [] (hp c0 n _ _) _
          refine Ex.nx rfl ?_
          refine Ex.nx rfl ?_
          refine Ex.ite (fun c23 => ?_) (fun c23 => ?_)
          · replace c23 : fs = true := bi_net c23
            show Ex X m_Reader_readTag 50 [.ref (c0 + 8), .ref (c0 + 1), .int sv, .int (nI run), .int (bi fs), .int (nI q), .int (hb t q), b7, b8] [] (hp c0 n _ _) _
            refine Ex.nx rfl ?_
            refine Ex.nx rfl ?_
            show Ex X m_Reader_readTag 53 [.ref (c0 + 8), .ref (c0 + 1), .int sv, .int (nI run), .int (bi fs), .int (nI q), .int (hb t q), .int 0, b8] [] (hp c0 n _ _) _
            refine Ex.nx rfl ?_
            refine Ex.nx rfl ?_
            refine Ex.nx rfl ?_
            refine Ex.ite (fun c24 => ?_) (fun c24 => ?_)
            · replace c24 : ¬ (hb t q) = 45 := of_decide_eq_true c24
              show Ex X m_Reader_readTag 68 [.ref (c0 + 8), .ref (c0 + 1), .int sv, .int (nI run), .int (bi fs), .int (nI q), .int (hb t q), .int 0, b8] [] (hp c0 n _ _) _
              refine Ex.nx rfl ?_
              refine Ex.nx rfl ?_
              show Ex X m_Reader_readTag 71 [.ref (c0 + 8), .ref (c0 + 1), .int sv, .int (nI run), .int (bi fs), .int (nI q), .int (hb t q), .int 0, .int 0] [] (hp c0 n _ _) _
              refine Ex.nx rfl ?_
              refine Ex.nx rfl ?_
              show Ex X m_Reader_readTag 76 [.ref (c0 + 8), .ref (c0 + 1), .int sv, .int (nI run), .int (bi fs), .int (nI q), .int (hb t q), .int 0, .int 0] [] (hp c0 n _ _) _
              refine Ex.nx rfl ?_
              refine Ex.nx rfl ?_
              show Ex X m_Reader_readTag 81 [.ref (c0 + 8), .ref (c0 + 1), .int sv, .int (nI run), .int (bi fs), .int (nI q), .int (hb t q), .int 0, .int 0] [] (hp c0 n _ _) _
              refine Ex.nx rfl ?_
              refine Ex.nx rfl ?_
              refine Ex.ite (fun c25 => ?_) (fun c25 => ?_)
              · replace c25 : (nI run) ≤ 0 := of_decide_eq_true c25
                have dr : ¬ 0 < run := by have := (nI_leI (b := 0) (by omega) (by decide)).mp c25; omega
                show Ex X m_Reader_readTag 88 [.ref (c0 + 8), .ref (c0 + 1), .int sv, .int (nI run), .int (bi fs), .int (nI q), .int (hb t q), .int 0, .int 0] [] (hp c0 n _ _) _
                refine Ex.nx rfl ?_
                refine Hx.get 8 rfl hC.r8 rfl ?_
                refine Hx.get 3 rfl hC.r3 rfl ?_
                refine CR.szt hC rfl rfl rfl ?_
                show Ex X m_Reader_readTag 98 [.ref (c0 + 8), .ref (c0 + 1), .int sv, .int (nI run), .int (bi fs), .int (nI q), .int (hb t q), .int 0, .int 0] [.int (nI acc.length)] (hp c0 n _ _) _
                refine Ex.nx rfl ?_
                refine Ex.nx rfl ?_
                refine Ex.ite (fun c26 => ?_) (fun c26 => ?_)
                · replace c26 : (nI acc.length) = 20 := of_decide_eq_true c26
                  have d20 : acc.length = 20 := (nI_eq (b := 20) (by omega) (by decide)).mp c26
                  show Ex X m_Reader_readTag 114 [.ref (c0 + 8), .ref (c0 + 1), .int sv, .int (nI run), .int (bi fs), .int (nI q), .int (hb t q), .int 0, .int 0] [] (hp c0 n _ _) _
                  refine Ex.nx rfl ?_
                  refine Ex.nx rfl ?_
                  refine Ex.nx rfl ?_
                  refine CR.rd hC rfl rfl rfl rfl (cr_fail hC 4 (nI q)) ?_
                  rintro v h1 ⟨rfl, F26, rfl, hC26⟩
                  show Ex X m_Reader_readTag 121 [.ref (c0 + 8), .ref (c0 + 1), .int sv, .int (nI run), .int (bi fs), .int (nI q), .int (hb t q), .int 0, .int 0] [.int (-1)] (hp c0 n _ _) _
                  exact Ex.ret rfl (ev_reti rfl) (rP_f (show sT t (m + 1) q run fs acc = (false, q, acc) by first | (simp [sT, L45, D45, c2, c14, c23, c24, dr, d20]; done) | (exfalso; simp_all [L45, D45]; done)) ⟨_, _, _, _, _, _, (by decide), hC26⟩)
                · replace c26 : ¬ (nI acc.length) = 20 := of_decide_eq_false c26
                  have d20 : ¬ acc.length = 20 := fun e => c26 (by rw [e]; rfl)
                  show Ex X m_Reader_readTag 103 [.ref (c0 + 8), .ref (c0 + 1), .int sv, .int (nI run), .int (bi fs), .int (nI q), .int (hb t q), .int 0, .int 0] [] (hp c0 n _ _) _
                  refine Ex.nx rfl ?_
                  refine Ex.nx rfl ?_
                  show Ex X m_Reader_readTag 122 [.ref (c0 + 8), .ref (c0 + 1), .int sv, .int (nI run), .int (bi fs), .int (nI q), .int (hb t q), .int 0, .int 0] [] (hp c0 n _ _) _
                  refine Ex.nx rfl ?_
                  refine Ex.nx rfl ?_
                  show Ex X m_Reader_readTag 127 [.ref (c0 + 8), .ref (c0 + 1), .int sv, .int (nI run), .int (bi fs), .int (nI q), .int (hb t q), .int 0, .int 0] [] (hp c0 n _ _) _
                  refine Ex.nx rfl ?_
                  refine Ex.nx rfl ?_
                  show Ex X m_Reader_readTag 132 [.ref (c0 + 8), .ref (c0 + 1), .int sv, .int (nI run), .int (bi fs), .int (nI q), .int (hb t q), .int 0, .int 0] [] (hp c0 n _ _) _
                  refine Ex.nx rfl ?_
                  refine Ex.nx rfl ?_
                  refine Ex.nx rfl ?_
                  refine CR.rd hC rfl rfl rfl rfl (cr_fail hC 3 (nI q)) ?_
                  rintro v h1 ⟨rfl, F27, rfl, hC27⟩
                  show Ex X m_Reader_readTag 139 [.ref (c0 + 8), .ref (c0 + 1), .int sv, .int (nI run), .int (bi fs), .int (nI q), .int (hb t q), .int 0, .int 0] [.int (-1)] (hp c0 n _ _) _
                  exact Ex.ret rfl (ev_reti rfl) (rP_f (show sT t (m + 1) q run fs acc = (false, q, acc) by first | (simp [sT, L45, D45, c2, c14, c23, c24, dr, d20]; done) | (exfalso; simp_all [L45, D45]; done)) ⟨_, _, _, _, _, _, (by decide), hC27⟩)
              · replace c25 : ¬ (nI run) ≤ 0 := of_decide_eq_false c25
                have dr : 0 < run := Nat.pos_of_ne_zero (fun e => c25 (by rw [e]; exact Int32.le_refl _))
                show Ex X m_Reader_readTag 85 [.ref (c0 + 8), .ref (c0 + 1), .int sv, .int (nI run), .int (bi fs), .int (nI q), .int (hb t q), .int 0, .int 0] [] (hp c0 n _ _) _
                refine Ex.nx rfl ?_
                exact Ex.ret rfl (ev_reti rfl) (rP_t (show sT t (m + 1) q run fs acc = (true, q, acc) by first | (simp [sT, L45, D45, c2, c14, c23, c24, dr]; done) | (exfalso; simp_all [L45, D45]; done)) hC)
            · replace c24 : (hb t q) = 45 := Classical.not_not.mp (of_decide_eq_false c24)
              show Ex X m_Reader_readTag 60 [.ref (c0 + 8), .ref (c0 + 1), .int sv, .int (nI run), .int (bi fs), .int (nI q), .int (hb t q), .int 0, b8] [] (hp c0 n _ _) _
              refine Ex.nx rfl ?_
              refine Ex.nx rfl ?_
              refine Ex.ite (fun c27 => ?_) (fun c27 => ?_)
              · replace c27 : (nI run) ≤ 0 := of_decide_eq_true c27
                have dr : ¬ 0 < run := by have := (nI_leI (b := 0) (by omega) (by decide)).mp c27; omega
                show Ex X m_Reader_readTag 68 [.ref (c0 + 8), .ref (c0 + 1), .int sv, .int (nI run), .int (bi fs), .int (nI q), .int (hb t q), .int 0, b8] [] (hp c0 n _ _) _
                refine Ex.nx rfl ?_
                refine Ex.nx rfl ?_
                show Ex X m_Reader_readTag 71 [.ref (c0 + 8), .ref (c0 + 1), .int sv, .int (nI run), .int (bi fs), .int (nI q), .int (hb t q), .int 0, .int 0] [] (hp c0 n _ _) _
                refine Ex.nx rfl ?_
                refine Ex.nx rfl ?_
                show Ex X m_Reader_readTag 76 [.ref (c0 + 8), .ref (c0 + 1), .int sv, .int (nI run), .int (bi fs), .int (nI q), .int (hb t q), .int 0, .int 0] [] (hp c0 n _ _) _
                refine Ex.nx rfl ?_
                refine Ex.nx rfl ?_
                show Ex X m_Reader_readTag 81 [.ref (c0 + 8), .ref (c0 + 1), .int sv, .int (nI run), .int (bi fs), .int (nI q), .int (hb t q), .int 0, .int 0] [] (hp c0 n _ _) _
                refine Ex.nx rfl ?_
                refine Ex.nx rfl ?_
                refine Ex.ite (fun c28 => ?_) (fun c28 => ?_)
                · replace c28 : (nI run) ≤ 0 := of_decide_eq_true c28
                  have dr : ¬ 0 < run := by have := (nI_leI (b := 0) (by omega) (by decide)).mp c28; omega
                  show Ex X m_Reader_readTag 88 [.ref (c0 + 8), .ref (c0 + 1), .int sv, .int (nI run), .int (bi fs), .int (nI q), .int (hb t q), .int 0, .int 0] [] (hp c0 n _ _) _
                  refine Ex.nx rfl ?_
                  refine Hx.get 8 rfl hC.r8 rfl ?_
                  refine Hx.get 3 rfl hC.r3 rfl ?_
                  refine CR.szt hC rfl rfl rfl ?_
                  show Ex X m_Reader_readTag 98 [.ref (c0 + 8), .ref (c0 + 1), .int sv, .int (nI run), .int (bi fs), .int (nI q), .int (hb t q), .int 0, .int 0] [.int (nI acc.length)] (hp c0 n _ _) _
                  refine Ex.nx rfl ?_
                  refine Ex.nx rfl ?_
                  refine Ex.ite (fun c29 => ?_) (fun c29 => ?_)
                  · replace c29 : (nI acc.length) = 20 := of_decide_eq_true c29
                    have d20 : acc.length = 20 := (nI_eq (b := 20) (by omega) (by decide)).mp c29
                    show Ex X m_Reader_readTag 114 [.ref (c0 + 8), .ref (c0 + 1), .int sv, .int (nI run), .int (bi fs), .int (nI q), .int (hb t q), .int 0, .int 0] [] (hp c0 n _ _) _
                    refine Ex.nx rfl ?_
                    refine Ex.nx rfl ?_
                    refine Ex.nx rfl ?_
                    refine CR.rd hC rfl rfl rfl rfl (cr_fail hC 4 (nI q)) ?_
                    rintro v h1 ⟨rfl, F28, rfl, hC28⟩
                    show Ex X m_Reader_readTag 121 [.ref (c0 + 8), .ref (c0 + 1), .int sv, .int (nI run), .int (bi fs), .int (nI q), .int (hb t q), .int 0, .int 0] [.int (-1)] (hp c0 n _ _) _
                    exact Ex.ret rfl (ev_reti rfl) (rP_f (show sT t (m + 1) q run fs acc = (false, q, acc) by first | (simp [sT, L45, D45, c2, c14, c23, c24, dr, d20]; done) | (exfalso; simp_all [L45, D45]; done)) ⟨_, _, _, _, _, _, (by decide), hC28⟩)
                  · replace c29 : ¬ (nI acc.length) = 20 := of_decide_eq_false c29
                    have d20 : ¬ acc.length = 20 := fun e => c29 (by rw [e]; rfl)
                    show Ex X m_Reader_readTag 103 [.ref (c0 + 8), .ref (c0 + 1), .int sv, .int (nI run), .int (bi fs), .int (nI q), .int (hb t q), .int 0, .int 0] [] (hp c0 n _ _) _
                    refine Ex.nx rfl ?_
                    refine Ex.nx rfl ?_
                    show Ex X m_Reader_readTag 122 [.ref (c0 + 8), .ref (c0 + 1), .int sv, .int (nI run), .int (bi fs), .int (nI q), .int (hb t q), .int 0, .int 0] [] (hp c0 n _ _) _
                    refine Ex.nx rfl ?_
                    refine Ex.nx rfl ?_
                    show Ex X m_Reader_readTag 127 [.ref (c0 + 8), .ref (c0 + 1), .int sv, .int (nI run), .int (bi fs), .int (nI q), .int (hb t q), .int 0, .int 0] [] (hp c0 n _ _) _
                    refine Ex.nx rfl ?_
                    refine Ex.nx rfl ?_
                    show Ex X m_Reader_readTag 132 [.ref (c0 + 8), .ref (c0 + 1), .int sv, .int (nI run), .int (bi fs), .int (nI q), .int (hb t q), .int 0, .int 0] [] (hp c0 n _ _) _
                    refine Ex.nx rfl ?_
                    refine Ex.nx rfl ?_
                    refine Ex.nx rfl ?_
                    refine CR.rd hC rfl rfl rfl rfl (cr_fail hC 3 (nI q)) ?_
                    rintro v h1 ⟨rfl, F29, rfl, hC29⟩
                    show Ex X m_Reader_readTag 139 [.ref (c0 + 8), .ref (c0 + 1), .int sv, .int (nI run), .int (bi fs), .int (nI q), .int (hb t q), .int 0, .int 0] [.int (-1)] (hp c0 n _ _) _
                    exact Ex.ret rfl (ev_reti rfl) (rP_f (show sT t (m + 1) q run fs acc = (false, q, acc) by first | (simp [sT, L45, D45, c2, c14, c23, c24, dr, d20]; done) | (exfalso; simp_all [L45, D45]; done)) ⟨_, _, _, _, _, _, (by decide), hC29⟩)
                · replace c28 : ¬ (nI run) ≤ 0 := of_decide_eq_false c28
                  exact absurd c27 c28
              · replace c27 : ¬ (nI run) ≤ 0 := of_decide_eq_false c27
                have dr : 0 < run := Nat.pos_of_ne_zero (fun e => c27 (by rw [e]; exact Int32.le_refl _))
                show Ex X m_Reader_readTag 64 [.ref (c0 + 8), .ref (c0 + 1), .int sv, .int (nI run), .int (bi fs), .int (nI q), .int (hb t q), .int 0, b8] [] (hp c0 n _ _) _
                refine Ex.nx rfl ?_
                refine Ex.nx rfl ?_
                refine Ex.nx rfl ?_
                show Ex X m_Reader_readTag 71 [.ref (c0 + 8), .ref (c0 + 1), .int sv, .int (nI run), .int (bi fs), .int (nI q), .int (hb t q), .int 0, .int 1] [] (hp c0 n _ _) _
                refine Ex.nx rfl ?_
                refine Ex.nx rfl ?_
                show Ex X m_Reader_readTag 76 [.ref (c0 + 8), .ref (c0 + 1), .int sv, .int (nI run), .int (bi fs), .int (nI q), .int (hb t q), .int 0, .int 1] [] (hp c0 n _ _) _
                refine Ex.nx rfl ?_
                refine Ex.nx rfl ?_
                show Ex X m_Reader_readTag 88 [.ref (c0 + 8), .ref (c0 + 1), .int sv, .int (nI run), .int (bi fs), .int (nI q), .int (hb t q), .int 0, .int 1] [] (hp c0 n _ _) _
                refine Ex.nx rfl ?_
                refine Hx.get 8 rfl hC.r8 rfl ?_
                refine Hx.get 3 rfl hC.r3 rfl ?_
                refine CR.szt hC rfl rfl rfl ?_
                show Ex X m_Reader_readTag 98 [.ref (c0 + 8), .ref (c0 + 1), .int sv, .int (nI run), .int (bi fs), .int (nI q), .int (hb t q), .int 0, .int 1] [.int (nI acc.length)] (hp c0 n _ _) _
                refine Ex.nx rfl ?_
                refine Ex.nx rfl ?_
                refine Ex.ite (fun c30 => ?_) (fun c30 => ?_)
                · replace c30 : (nI acc.length) = 20 := of_decide_eq_true c30
                  have d20 : acc.length = 20 := (nI_eq (b := 20) (by omega) (by decide)).mp c30
                  show Ex X m_Reader_readTag 114 [.ref (c0 + 8), .ref (c0 + 1), .int sv, .int (nI run), .int (bi fs), .int (nI q), .int (hb t q), .int 0, .int 1] [] (hp c0 n _ _) _
                  refine Ex.nx rfl ?_
                  refine Ex.nx rfl ?_
                  refine Ex.nx rfl ?_
                  refine CR.rd hC rfl rfl rfl rfl (cr_fail hC 4 (nI q)) ?_
                  rintro v h1 ⟨rfl, F30, rfl, hC30⟩
                  show Ex X m_Reader_readTag 121 [.ref (c0 + 8), .ref (c0 + 1), .int sv, .int (nI run), .int (bi fs), .int (nI q), .int (hb t q), .int 0, .int 1] [.int (-1)] (hp c0 n _ _) _
                  exact Ex.ret rfl (ev_reti rfl) (rP_f (show sT t (m + 1) q run fs acc = (false, q, acc) by first | (simp [sT, L45, D45, c2, c14, c23, c24, dr, d20]; done) | (exfalso; simp_all [L45, D45]; done)) ⟨_, _, _, _, _, _, (by decide), hC30⟩)
                · replace c30 : ¬ (nI acc.length) = 20 := of_decide_eq_false c30
                  have d20 : ¬ acc.length = 20 := fun e => c30 (by rw [e]; rfl)
                  show Ex X m_Reader_readTag 103 [.ref (c0 + 8), .ref (c0 + 1), .int sv, .int (nI run), .int (bi fs), .int (nI q), .int (hb t q), .int 0, .int 1] [] (hp c0 n _ _) _
                  refine Ex.nx rfl ?_
                  refine Ex.nx rfl ?_
                  show Ex X m_Reader_readTag 122 [.ref (c0 + 8), .ref (c0 + 1), .int sv, .int (nI run), .int (bi fs), .int (nI q), .int (hb t q), .int 0, .int 1] [] (hp c0 n _ _) _
                  refine Ex.nx rfl ?_
                  refine Ex.nx rfl ?_
                  show Ex X m_Reader_readTag 127 [.ref (c0 + 8), .ref (c0 + 1), .int sv, .int (nI run), .int (bi fs), .int (nI q), .int (hb t q), .int 0, .int 1] [] (hp c0 n _ _) _
                  refine Ex.nx rfl ?_
                  refine Ex.nx rfl ?_
                  show Ex X m_Reader_readTag 140 [.ref (c0 + 8), .ref (c0 + 1), .int sv, .int (nI run), .int (bi fs), .int (nI q), .int (hb t q), .int 0, .int 1] [] (hp c0 n _ _) _
                  refine Ex.nx rfl ?_
                  refine Hx.get 8 rfl hC.r8 rfl ?_
                  refine Hx.get 3 rfl hC.r3 rfl ?_
                  refine Ex.nx rfl ?_
                  refine Hx.calls rfl rfl rfl rfl (sx_Reader_small X (hb t q)) (fun v hv => ?_)
                  subst hv
                  show Ex X m_Reader_readTag 152 [.ref (c0 + 8), .ref (c0 + 1), .int sv, .int (nI run), .int (bi fs), .int (nI q), .int (hb t q), .int 0, .int 1] [.int (sml (hb t q)), .ref (c0 + 6)] (hp c0 n _ _) _
                  refine Hx.top (y := nI (smlN (t.getD q 0))) (by rw [hb_lt (show q < t.length by omega)]; exact sml_all _ (hC.rt.by q)) ?_
                  refine CR.adt (d := (smlN (t.getD q 0))) hC (smlN_lt _ (hC.rt.by q)) (by omega) rfl rfl ?_
                  intro F31 hC31
                  show Ex X m_Reader_readTag 155 [.ref (c0 + 8), .ref (c0 + 1), .int sv, .int (nI run), .int (bi fs), .int (nI q), .int (hb t q), .int 0, .int 1] [] (hp c0 n _ _) _
                  refine Ex.nx rfl ?_
                  refine Ex.nx rfl ?_
                  show Ex X m_Reader_readTag 160 [.ref (c0 + 8), .ref (c0 + 1), .int sv, .int (nI run), .int (bi fs), .int (nI q), .int (hb t q), .int 0, .int 1] [] (hp c0 n _ _) _
                  refine Ex.nx rfl ?_
                  refine Ex.nx rfl ?_
                  refine Ex.nx rfl ?_
                  show Ex X m_Reader_readTag 168 [.ref (c0 + 8), .ref (c0 + 1), .int sv, .int 0, .int (bi fs), .int (nI q), .int (hb t q), .int 0, .int 1] [] (hp c0 n _ _) _
                  refine Ex.nx rfl ?_
                  refine Ex.nx rfl ?_
                  refine Ex.ite (fun c31 => ?_) (fun c31 => ?_)
                  · replace c31 : fs = false := bi_eqt c31
                    exact Bool.noConfusion (c23.symm.trans c31)
                  · replace c31 : fs = true := bi_eqf c31
                    show Ex X m_Reader_readTag 173 [.ref (c0 + 8), .ref (c0 + 1), .int sv, .int 0, .int (bi fs), .int (nI q), .int (hb t q), .int 0, .int 1] [] (hp c0 n _ _) _
                    refine Ex.nx rfl ?_
                    refine Ex.nx rfl ?_
                    show Ex X m_Reader_readTag 182 [.ref (c0 + 8), .ref (c0 + 1), .int sv, .int 0, .int (bi fs), .int (nI q), .int (hb t q), .int 0, .int 1] [] (hp c0 n _ _) _
                    refine Ex.nx rfl ?_
                    refine Ex.nx rfl ?_
                    show Ex X m_Reader_readTag 185 [.ref (c0 + 8), .ref (c0 + 1), .int sv, .int 0, .int 0, .int (nI q), .int (hb t q), .int 0, .int 1] [] (hp c0 n _ _) _
                    refine Ex.nx rfl ?_
                    show Ex X m_Reader_readTag 188 [.ref (c0 + 8), .ref (c0 + 1), .int sv, .int 0, .int 0, .int ((nI q) + 1), .int (hb t q), .int 0, .int 1] [] (hp c0 n _ _) _
                    refine Ex.nx rfl ?_
                    show Ex X m_Reader_readTag 8 [.ref (c0 + 8), .ref (c0 + 1), .int sv, .int 0, .int 0, .int ((nI q) + 1), .int (hb t q), .int 0, .int 1] [] (hp c0 n _ _) _
                    rw [show nI q + 1 = nI (q + 1) from nI_1 q, show sT t (m + 1) q run fs acc = sT t m (q + 1) 0 false (acc ++ [smlN (t.getD q 0)]) by first | (simp [sT, L45, D45, c2, c14, c23, c24, dr, d20, c31]; done) | (exfalso; simp_all [L45, D45]; done)]
                    exact ih (q + 1) 0 false _ _ _ _ _ (by omega) (by simp only [List.length_append, List.length_cons, List.length_nil]; omega) (by omega) hC31
          · replace c23 : fs = false := bi_nef c23
            show Ex X m_Reader_readTag 46 [.ref (c0 + 8), .ref (c0 + 1), .int sv, .int (nI run), .int (bi fs), .int (nI q), .int (hb t q), b7, b8] [] (hp c0 n _ _) _
            refine Ex.nx rfl ?_
            refine Ex.nx rfl ?_
            refine Ex.nx rfl ?_
            show Ex X m_Reader_readTag 53 [.ref (c0 + 8), .ref (c0 + 1), .int sv, .int (nI run), .int (bi fs), .int (nI q), .int (hb t q), .int 1, b8] [] (hp c0 n _ _) _
            refine Ex.nx rfl ?_
            refine Ex.nx rfl ?_
            refine Ex.nx rfl ?_
            refine Ex.ite (fun c32 => ?_) (fun c32 => ?_)
            · replace c32 : ¬ (hb t q) = 45 := of_decide_eq_true c32
              show Ex X m_Reader_readTag 68 [.ref (c0 + 8), .ref (c0 + 1), .int sv, .int (nI run), .int (bi fs), .int (nI q), .int (hb t q), .int 1, b8] [] (hp c0 n _ _) _
              refine Ex.nx rfl ?_
              refine Ex.nx rfl ?_
              show Ex X m_Reader_readTag 71 [.ref (c0 + 8), .ref (c0 + 1), .int sv, .int (nI run), .int (bi fs), .int (nI q), .int (hb t q), .int 1, .int 0] [] (hp c0 n _ _) _
              refine Ex.nx rfl ?_
              refine Ex.nx rfl ?_
              show Ex X m_Reader_readTag 88 [.ref (c0 + 8), .ref (c0 + 1), .int sv, .int (nI run), .int (bi fs), .int (nI q), .int (hb t q), .int 1, .int 0] [] (hp c0 n _ _) _
              refine Ex.nx rfl ?_
              refine Hx.get 8 rfl hC.r8 rfl ?_
              refine Hx.get 3 rfl hC.r3 rfl ?_
              refine CR.szt hC rfl rfl rfl ?_
              show Ex X m_Reader_readTag 98 [.ref (c0 + 8), .ref (c0 + 1), .int sv, .int (nI run), .int (bi fs), .int (nI q), .int (hb t q), .int 1, .int 0] [.int (nI acc.length)] (hp c0 n _ _) _
              refine Ex.nx rfl ?_
              refine Ex.nx rfl ?_
              refine Ex.ite (fun c33 => ?_) (fun c33 => ?_)
              · replace c33 : (nI acc.length) = 20 := of_decide_eq_true c33
                have d20 : acc.length = 20 := (nI_eq (b := 20) (by omega) (by decide)).mp c33
                show Ex X m_Reader_readTag 114 [.ref (c0 + 8), .ref (c0 + 1), .int sv, .int (nI run), .int (bi fs), .int (nI q), .int (hb t q), .int 1, .int 0] [] (hp c0 n _ _) _
                refine Ex.nx rfl ?_
                refine Ex.nx rfl ?_
                refine Ex.nx rfl ?_
                refine CR.rd hC rfl rfl rfl rfl (cr_fail hC 4 (nI q)) ?_
                rintro v h1 ⟨rfl, F32, rfl, hC32⟩
                show Ex X m_Reader_readTag 121 [.ref (c0 + 8), .ref (c0 + 1), .int sv, .int (nI run), .int (bi fs), .int (nI q), .int (hb t q), .int 1, .int 0] [.int (-1)] (hp c0 n _ _) _
                exact Ex.ret rfl (ev_reti rfl) (rP_f (show sT t (m + 1) q run fs acc = (false, q, acc) by first | (simp [sT, L45, D45, c2, c14, c23, c32, d20]; done) | (exfalso; simp_all [L45, D45]; done)) ⟨_, _, _, _, _, _, (by decide), hC32⟩)
              · replace c33 : ¬ (nI acc.length) = 20 := of_decide_eq_false c33
                have d20 : ¬ acc.length = 20 := fun e => c33 (by rw [e]; rfl)
                show Ex X m_Reader_readTag 103 [.ref (c0 + 8), .ref (c0 + 1), .int sv, .int (nI run), .int (bi fs), .int (nI q), .int (hb t q), .int 1, .int 0] [] (hp c0 n _ _) _
                refine Ex.nx rfl ?_
                refine Ex.nx rfl ?_
                show Ex X m_Reader_readTag 108 [.ref (c0 + 8), .ref (c0 + 1), .int sv, .int (nI run), .int (bi fs), .int (nI q), .int (hb t q), .int 1, .int 0] [] (hp c0 n _ _) _
                refine Ex.nx rfl ?_
                refine Ex.nx rfl ?_
                refine Ex.nx rfl ?_
                refine Ex.ite (fun c34 => ?_) (fun c34 => ?_)
                · replace c34 : ¬ (nI run) = 8 := of_decide_eq_true c34
                  have d8 : ¬ run = 8 := fun e => c34 (by rw [e]; rfl)
                  show Ex X m_Reader_readTag 122 [.ref (c0 + 8), .ref (c0 + 1), .int sv, .int (nI run), .int (bi fs), .int (nI q), .int (hb t q), .int 1, .int 0] [] (hp c0 n _ _) _
                  refine Ex.nx rfl ?_
                  refine Ex.nx rfl ?_
                  show Ex X m_Reader_readTag 140 [.ref (c0 + 8), .ref (c0 + 1), .int sv, .int (nI run), .int (bi fs), .int (nI q), .int (hb t q), .int 1, .int 0] [] (hp c0 n _ _) _
                  refine Ex.nx rfl ?_
                  refine Hx.get 8 rfl hC.r8 rfl ?_
                  refine Hx.get 3 rfl hC.r3 rfl ?_
                  refine Ex.nx rfl ?_
                  refine Hx.calls rfl rfl rfl rfl (sx_Reader_small X (hb t q)) (fun v hv => ?_)
                  subst hv
                  show Ex X m_Reader_readTag 152 [.ref (c0 + 8), .ref (c0 + 1), .int sv, .int (nI run), .int (bi fs), .int (nI q), .int (hb t q), .int 1, .int 0] [.int (sml (hb t q)), .ref (c0 + 6)] (hp c0 n _ _) _
                  refine Hx.top (y := nI (smlN (t.getD q 0))) (by rw [hb_lt (show q < t.length by omega)]; exact sml_all _ (hC.rt.by q)) ?_
                  refine CR.adt (d := (smlN (t.getD q 0))) hC (smlN_lt _ (hC.rt.by q)) (by omega) rfl rfl ?_
                  intro F33 hC33
                  show Ex X m_Reader_readTag 155 [.ref (c0 + 8), .ref (c0 + 1), .int sv, .int (nI run), .int (bi fs), .int (nI q), .int (hb t q), .int 1, .int 0] [] (hp c0 n _ _) _
                  refine Ex.nx rfl ?_
                  refine Ex.nx rfl ?_
                  show Ex X m_Reader_readTag 164 [.ref (c0 + 8), .ref (c0 + 1), .int sv, .int (nI run), .int (bi fs), .int (nI q), .int (hb t q), .int 1, .int 0] [] (hp c0 n _ _) _
                  refine Ex.nx rfl ?_
                  refine Ex.nx rfl ?_
                  refine Ex.nx rfl ?_
                  refine Ex.nx rfl ?_
                  show Ex X m_Reader_readTag 168 [.ref (c0 + 8), .ref (c0 + 1), .int sv, .int ((nI run) + 1), .int (bi fs), .int (nI q), .int (hb t q), .int 1, .int 0] [] (hp c0 n _ _) _
                  refine Ex.nx rfl ?_
                  refine Ex.nx rfl ?_
                  refine Ex.ite (fun c35 => ?_) (fun c35 => ?_)
                  · replace c35 : fs = false := bi_eqt c35
                    show Ex X m_Reader_readTag 182 [.ref (c0 + 8), .ref (c0 + 1), .int sv, .int ((nI run) + 1), .int (bi fs), .int (nI q), .int (hb t q), .int 1, .int 0] [] (hp c0 n _ _) _
                    refine Ex.nx rfl ?_
                    refine Ex.nx rfl ?_
                    show Ex X m_Reader_readTag 185 [.ref (c0 + 8), .ref (c0 + 1), .int sv, .int ((nI run) + 1), .int 0, .int (nI q), .int (hb t q), .int 1, .int 0] [] (hp c0 n _ _) _
                    refine Ex.nx rfl ?_
                    show Ex X m_Reader_readTag 188 [.ref (c0 + 8), .ref (c0 + 1), .int sv, .int ((nI run) + 1), .int 0, .int ((nI q) + 1), .int (hb t q), .int 1, .int 0] [] (hp c0 n _ _) _
                    refine Ex.nx rfl ?_
                    show Ex X m_Reader_readTag 8 [.ref (c0 + 8), .ref (c0 + 1), .int sv, .int ((nI run) + 1), .int 0, .int ((nI q) + 1), .int (hb t q), .int 1, .int 0] [] (hp c0 n _ _) _
                    rw [show nI run + 1 = nI (run + 1) from nI_1 run, show nI q + 1 = nI (q + 1) from nI_1 q, show sT t (m + 1) q run fs acc = sT t m (q + 1) (run + 1) false (acc ++ [smlN (t.getD q 0)]) by first | (simp [sT, L45, D45, c2, c14, c23, c32, d20, d8, c35]; done) | (exfalso; simp_all [L45, D45]; done)]
                    exact ih (q + 1) (run + 1) false _ _ _ _ _ (by omega) (by simp only [List.length_append, List.length_cons, List.length_nil]; omega) (by omega) hC33
                  · replace c35 : fs = true := bi_eqf c35
                    exact Bool.noConfusion (c23.symm.trans c35)
                · replace c34 : (nI run) = 8 := Classical.not_not.mp (of_decide_eq_false c34)
                  have d8 : run = 8 := (nI_eq (b := 8) (by omega) (by decide)).mp c34
                  show Ex X m_Reader_readTag 114 [.ref (c0 + 8), .ref (c0 + 1), .int sv, .int (nI run), .int (bi fs), .int (nI q), .int (hb t q), .int 1, .int 0] [] (hp c0 n _ _) _
                  refine Ex.nx rfl ?_
                  refine Ex.nx rfl ?_
                  refine Ex.nx rfl ?_
                  refine CR.rd hC rfl rfl rfl rfl (cr_fail hC 4 (nI q)) ?_
                  rintro v h1 ⟨rfl, F34, rfl, hC34⟩
                  show Ex X m_Reader_readTag 121 [.ref (c0 + 8), .ref (c0 + 1), .int sv, .int (nI run), .int (bi fs), .int (nI q), .int (hb t q), .int 1, .int 0] [.int (-1)] (hp c0 n _ _) _
                  exact Ex.ret rfl (ev_reti rfl) (rP_f (show sT t (m + 1) q run fs acc = (false, q, acc) by first | (simp [sT, L45, D45, c2, c14, c23, c32, d20, d8]; done) | (exfalso; simp_all [L45, D45]; done)) ⟨_, _, _, _, _, _, (by decide), hC34⟩)
            · replace c32 : (hb t q) = 45 := Classical.not_not.mp (of_decide_eq_false c32)
              show Ex X m_Reader_readTag 60 [.ref (c0 + 8), .ref (c0 + 1), .int sv, .int (nI run), .int (bi fs), .int (nI q), .int (hb t q), .int 1, b8] [] (hp c0 n _ _) _
              refine Ex.nx rfl ?_
              refine Ex.nx rfl ?_
              refine Ex.ite (fun c36 => ?_) (fun c36 => ?_)
              · replace c36 : (nI run) ≤ 0 := of_decide_eq_true c36
                have dr : ¬ 0 < run := by have := (nI_leI (b := 0) (by omega) (by decide)).mp c36; omega
                show Ex X m_Reader_readTag 68 [.ref (c0 + 8), .ref (c0 + 1), .int sv, .int (nI run), .int (bi fs), .int (nI q), .int (hb t q), .int 1, b8] [] (hp c0 n _ _) _
                refine Ex.nx rfl ?_
                refine Ex.nx rfl ?_
                show Ex X m_Reader_readTag 71 [.ref (c0 + 8), .ref (c0 + 1), .int sv, .int (nI run), .int (bi fs), .int (nI q), .int (hb t q), .int 1, .int 0] [] (hp c0 n _ _) _
                refine Ex.nx rfl ?_
                refine Ex.nx rfl ?_
                show Ex X m_Reader_readTag 88 [.ref (c0 + 8), .ref (c0 + 1), .int sv, .int (nI run), .int (bi fs), .int (nI q), .int (hb t q), .int 1, .int 0] [] (hp c0 n _ _) _
                refine Ex.nx rfl ?_
                refine Hx.get 8 rfl hC.r8 rfl ?_
                refine Hx.get 3 rfl hC.r3 rfl ?_
                refine CR.szt hC rfl rfl rfl ?_
                show Ex X m_Reader_readTag 98 [.ref (c0 + 8), .ref (c0 + 1), .int sv, .int (nI run), .int (bi fs), .int (nI q), .int (hb t q), .int 1, .int 0] [.int (nI acc.length)] (hp c0 n _ _) _
                refine Ex.nx rfl ?_
                refine Ex.nx rfl ?_
                refine Ex.ite (fun c37 => ?_) (fun c37 => ?_)
                · replace c37 : (nI acc.length) = 20 := of_decide_eq_true c37
                  have d20 : acc.length = 20 := (nI_eq (b := 20) (by omega) (by decide)).mp c37
                  show Ex X m_Reader_readTag 114 [.ref (c0 + 8), .ref (c0 + 1), .int sv, .int (nI run), .int (bi fs), .int (nI q), .int (hb t q), .int 1, .int 0] [] (hp c0 n _ _) _
                  refine Ex.nx rfl ?_
                  refine Ex.nx rfl ?_
                  refine Ex.nx rfl ?_
                  refine CR.rd hC rfl rfl rfl rfl (cr_fail hC 4 (nI q)) ?_
                  rintro v h1 ⟨rfl, F35, rfl, hC35⟩
                  show Ex X m_Reader_readTag 121 [.ref (c0 + 8), .ref (c0 + 1), .int sv, .int (nI run), .int (bi fs), .int (nI q), .int (hb t q), .int 1, .int 0] [.int (-1)] (hp c0 n _ _) _
                  exact Ex.ret rfl (ev_reti rfl) (rP_f (show sT t (m + 1) q run fs acc = (false, q, acc) by first | (simp [sT, L45, D45, c2, c14, c23, c32, dr, d20]; done) | (exfalso; simp_all [L45, D45]; done)) ⟨_, _, _, _, _, _, (by decide), hC35⟩)
                · replace c37 : ¬ (nI acc.length) = 20 := of_decide_eq_false c37
                  have d20 : ¬ acc.length = 20 := fun e => c37 (by rw [e]; rfl)
                  show Ex X m_Reader_readTag 103 [.ref (c0 + 8), .ref (c0 + 1), .int sv, .int (nI run), .int (bi fs), .int (nI q), .int (hb t q), .int 1, .int 0] [] (hp c0 n _ _) _
                  refine Ex.nx rfl ?_
                  refine Ex.nx rfl ?_
                  show Ex X m_Reader_readTag 108 [.ref (c0 + 8), .ref (c0 + 1), .int sv, .int (nI run), .int (bi fs), .int (nI q), .int (hb t q), .int 1, .int 0] [] (hp c0 n _ _) _
                  refine Ex.nx rfl ?_
                  refine Ex.nx rfl ?_
                  refine Ex.nx rfl ?_
                  refine Ex.ite (fun c38 => ?_) (fun c38 => ?_)
                  · replace c38 : ¬ (nI run) = 8 := of_decide_eq_true c38
                    have d8 : ¬ run = 8 := fun e => c38 (by rw [e]; rfl)
                    show Ex X m_Reader_readTag 122 [.ref (c0 + 8), .ref (c0 + 1), .int sv, .int (nI run), .int (bi fs), .int (nI q), .int (hb t q), .int 1, .int 0] [] (hp c0 n _ _) _
                    refine Ex.nx rfl ?_
                    refine Ex.nx rfl ?_
                    show Ex X m_Reader_readTag 140 [.ref (c0 + 8), .ref (c0 + 1), .int sv, .int (nI run), .int (bi fs), .int (nI q), .int (hb t q), .int 1, .int 0] [] (hp c0 n _ _) _
                    refine Ex.nx rfl ?_
                    refine Hx.get 8 rfl hC.r8 rfl ?_
                    refine Hx.get 3 rfl hC.r3 rfl ?_
                    refine Ex.nx rfl ?_
                    refine Hx.calls rfl rfl rfl rfl (sx_Reader_small X (hb t q)) (fun v hv => ?_)
                    subst hv
                    show Ex X m_Reader_readTag 152 [.ref (c0 + 8), .ref (c0 + 1), .int sv, .int (nI run), .int (bi fs), .int (nI q), .int (hb t q), .int 1, .int 0] [.int (sml (hb t q)), .ref (c0 + 6)] (hp c0 n _ _) _
                    refine Hx.top (y := nI (smlN (t.getD q 0))) (by rw [hb_lt (show q < t.length by omega)]; exact sml_all _ (hC.rt.by q)) ?_
                    refine CR.adt (d := (smlN (t.getD q 0))) hC (smlN_lt _ (hC.rt.by q)) (by omega) rfl rfl ?_
                    intro F36 hC36
                    show Ex X m_Reader_readTag 155 [.ref (c0 + 8), .ref (c0 + 1), .int sv, .int (nI run), .int (bi fs), .int (nI q), .int (hb t q), .int 1, .int 0] [] (hp c0 n _ _) _
                    refine Ex.nx rfl ?_
                    refine Ex.nx rfl ?_
                    show Ex X m_Reader_readTag 164 [.ref (c0 + 8), .ref (c0 + 1), .int sv, .int (nI run), .int (bi fs), .int (nI q), .int (hb t q), .int 1, .int 0] [] (hp c0 n _ _) _
                    refine Ex.nx rfl ?_
                    refine Ex.nx rfl ?_
                    refine Ex.nx rfl ?_
                    refine Ex.nx rfl ?_
                    show Ex X m_Reader_readTag 168 [.ref (c0 + 8), .ref (c0 + 1), .int sv, .int ((nI run) + 1), .int (bi fs), .int (nI q), .int (hb t q), .int 1, .int 0] [] (hp c0 n _ _) _
                    refine Ex.nx rfl ?_
                    refine Ex.nx rfl ?_
                    refine Ex.ite (fun c39 => ?_) (fun c39 => ?_)
                    · replace c39 : fs = false := bi_eqt c39
                      show Ex X m_Reader_readTag 182 [.ref (c0 + 8), .ref (c0 + 1), .int sv, .int ((nI run) + 1), .int (bi fs), .int (nI q), .int (hb t q), .int 1, .int 0] [] (hp c0 n _ _) _
                      refine Ex.nx rfl ?_
                      refine Ex.nx rfl ?_
                      show Ex X m_Reader_readTag 185 [.ref (c0 + 8), .ref (c0 + 1), .int sv, .int ((nI run) + 1), .int 0, .int (nI q), .int (hb t q), .int 1, .int 0] [] (hp c0 n _ _) _
                      refine Ex.nx rfl ?_
                      show Ex X m_Reader_readTag 188 [.ref (c0 + 8), .ref (c0 + 1), .int sv, .int ((nI run) + 1), .int 0, .int ((nI q) + 1), .int (hb t q), .int 1, .int 0] [] (hp c0 n _ _) _
                      refine Ex.nx rfl ?_
                      show Ex X m_Reader_readTag 8 [.ref (c0 + 8), .ref (c0 + 1), .int sv, .int ((nI run) + 1), .int 0, .int ((nI q) + 1), .int (hb t q), .int 1, .int 0] [] (hp c0 n _ _) _
                      rw [show nI run + 1 = nI (run + 1) from nI_1 run, show nI q + 1 = nI (q + 1) from nI_1 q, show sT t (m + 1) q run fs acc = sT t m (q + 1) (run + 1) false (acc ++ [smlN (t.getD q 0)]) by first | (simp [sT, L45, D45, c2, c14, c23, c32, dr, d20, d8, c39]; done) | (exfalso; simp_all [L45, D45]; done)]
                      exact ih (q + 1) (run + 1) false _ _ _ _ _ (by omega) (by simp only [List.length_append, List.length_cons, List.length_nil]; omega) (by omega) hC36
                    · replace c39 : fs = true := bi_eqf c39
                      exact Bool.noConfusion (c23.symm.trans c39)
                  · replace c38 : (nI run) = 8 := Classical.not_not.mp (of_decide_eq_false c38)
                    have d8 : run = 8 := (nI_eq (b := 8) (by omega) (by decide)).mp c38
                    show Ex X m_Reader_readTag 114 [.ref (c0 + 8), .ref (c0 + 1), .int sv, .int (nI run), .int (bi fs), .int (nI q), .int (hb t q), .int 1, .int 0] [] (hp c0 n _ _) _
                    refine Ex.nx rfl ?_
                    refine Ex.nx rfl ?_
                    refine Ex.nx rfl ?_
                    refine CR.rd hC rfl rfl rfl rfl (cr_fail hC 4 (nI q)) ?_
                    rintro v h1 ⟨rfl, F37, rfl, hC37⟩
                    show Ex X m_Reader_readTag 121 [.ref (c0 + 8), .ref (c0 + 1), .int sv, .int (nI run), .int (bi fs), .int (nI q), .int (hb t q), .int 1, .int 0] [.int (-1)] (hp c0 n _ _) _
                    exact Ex.ret rfl (ev_reti rfl) (rP_f (show sT t (m + 1) q run fs acc = (false, q, acc) by first | (simp [sT, L45, D45, c2, c14, c23, c32, dr, d20, d8]; done) | (exfalso; simp_all [L45, D45]; done)) ⟨_, _, _, _, _, _, (by decide), hC37⟩)
              · replace c36 : ¬ (nI run) ≤ 0 := of_decide_eq_false c36
                have dr : 0 < run := Nat.pos_of_ne_zero (fun e => c36 (by rw [e]; exact Int32.le_refl _))
                show Ex X m_Reader_readTag 64 [.ref (c0 + 8), .ref (c0 + 1), .int sv, .int (nI run), .int (bi fs), .int (nI q), .int (hb t q), .int 1, b8] [] (hp c0 n _ _) _
                refine Ex.nx rfl ?_
                refine Ex.nx rfl ?_
                refine Ex.nx rfl ?_
                show Ex X m_Reader_readTag 71 [.ref (c0 + 8), .ref (c0 + 1), .int sv, .int (nI run), .int (bi fs), .int (nI q), .int (hb t q), .int 1, .int 1] [] (hp c0 n _ _) _
                refine Ex.nx rfl ?_
                refine Ex.nx rfl ?_
                show Ex X m_Reader_readTag 88 [.ref (c0 + 8), .ref (c0 + 1), .int sv, .int (nI run), .int (bi fs), .int (nI q), .int (hb t q), .int 1, .int 1] [] (hp c0 n _ _) _
                refine Ex.nx rfl ?_
                refine Hx.get 8 rfl hC.r8 rfl ?_
                refine Hx.get 3 rfl hC.r3 rfl ?_
                refine CR.szt hC rfl rfl rfl ?_
                show Ex X m_Reader_readTag 98 [.ref (c0 + 8), .ref (c0 + 1), .int sv, .int (nI run), .int (bi fs), .int (nI q), .int (hb t q), .int 1, .int 1] [.int (nI acc.length)] (hp c0 n _ _) _
                refine Ex.nx rfl ?_
                refine Ex.nx rfl ?_
                refine Ex.ite (fun c40 => ?_) (fun c40 => ?_)
                · replace c40 : (nI acc.length) = 20 := of_decide_eq_true c40
                  have d20 : acc.length = 20 := (nI_eq (b := 20) (by omega) (by decide)).mp c40
                  show Ex X m_Reader_readTag 114 [.ref (c0 + 8), .ref (c0 + 1), .int sv, .int (nI run), .int (bi fs), .int (nI q), .int (hb t q), .int 1, .int 1] [] (hp c0 n _ _) _
                  refine Ex.nx rfl ?_
                  refine Ex.nx rfl ?_
                  refine Ex.nx rfl ?_
                  refine CR.rd hC rfl rfl rfl rfl (cr_fail hC 4 (nI q)) ?_
                  rintro v h1 ⟨rfl, F38, rfl, hC38⟩
                  show Ex X m_Reader_readTag 121 [.ref (c0 + 8), .ref (c0 + 1), .int sv, .int (nI run), .int (bi fs), .int (nI q), .int (hb t q), .int 1, .int 1] [.int (-1)] (hp c0 n _ _) _
                  exact Ex.ret rfl (ev_reti rfl) (rP_f (show sT t (m + 1) q run fs acc = (false, q, acc) by first | (simp [sT, L45, D45, c2, c14, c23, c32, dr, d20]; done) | (exfalso; simp_all [L45, D45]; done)) ⟨_, _, _, _, _, _, (by decide), hC38⟩)
                · replace c40 : ¬ (nI acc.length) = 20 := of_decide_eq_false c40
                  have d20 : ¬ acc.length = 20 := fun e => c40 (by rw [e]; rfl)
                  show Ex X m_Reader_readTag 103 [.ref (c0 + 8), .ref (c0 + 1), .int sv, .int (nI run), .int (bi fs), .int (nI q), .int (hb t q), .int 1, .int 1] [] (hp c0 n _ _) _
                  refine Ex.nx rfl ?_
                  refine Ex.nx rfl ?_
                  show Ex X m_Reader_readTag 108 [.ref (c0 + 8), .ref (c0 + 1), .int sv, .int (nI run), .int (bi fs), .int (nI q), .int (hb t q), .int 1, .int 1] [] (hp c0 n _ _) _
                  refine Ex.nx rfl ?_
                  refine Ex.nx rfl ?_
                  refine Ex.nx rfl ?_
                  refine Ex.ite (fun c41 => ?_) (fun c41 => ?_)
                  · replace c41 : ¬ (nI run) = 8 := of_decide_eq_true c41
                    have d8 : ¬ run = 8 := fun e => c41 (by rw [e]; rfl)
                    show Ex X m_Reader_readTag 122 [.ref (c0 + 8), .ref (c0 + 1), .int sv, .int (nI run), .int (bi fs), .int (nI q), .int (hb t q), .int 1, .int 1] [] (hp c0 n _ _) _
                    refine Ex.nx rfl ?_
                    refine Ex.nx rfl ?_
                    show Ex X m_Reader_readTag 140 [.ref (c0 + 8), .ref (c0 + 1), .int sv, .int (nI run), .int (bi fs), .int (nI q), .int (hb t q), .int 1, .int 1] [] (hp c0 n _ _) _
                    refine Ex.nx rfl ?_
                    refine Hx.get 8 rfl hC.r8 rfl ?_
                    refine Hx.get 3 rfl hC.r3 rfl ?_
                    refine Ex.nx rfl ?_
                    refine Hx.calls rfl rfl rfl rfl (sx_Reader_small X (hb t q)) (fun v hv => ?_)
                    subst hv
                    show Ex X m_Reader_readTag 152 [.ref (c0 + 8), .ref (c0 + 1), .int sv, .int (nI run), .int (bi fs), .int (nI q), .int (hb t q), .int 1, .int 1] [.int (sml (hb t q)), .ref (c0 + 6)] (hp c0 n _ _) _
                    refine Hx.top (y := nI (smlN (t.getD q 0))) (by rw [hb_lt (show q < t.length by omega)]; exact sml_all _ (hC.rt.by q)) ?_
                    refine CR.adt (d := (smlN (t.getD q 0))) hC (smlN_lt _ (hC.rt.by q)) (by omega) rfl rfl ?_
                    intro F39 hC39
                    show Ex X m_Reader_readTag 155 [.ref (c0 + 8), .ref (c0 + 1), .int sv, .int (nI run), .int (bi fs), .int (nI q), .int (hb t q), .int 1, .int 1] [] (hp c0 n _ _) _
                    refine Ex.nx rfl ?_
                    refine Ex.nx rfl ?_
                    show Ex X m_Reader_readTag 160 [.ref (c0 + 8), .ref (c0 + 1), .int sv, .int (nI run), .int (bi fs), .int (nI q), .int (hb t q), .int 1, .int 1] [] (hp c0 n _ _) _
                    refine Ex.nx rfl ?_
                    refine Ex.nx rfl ?_
                    refine Ex.nx rfl ?_
                    show Ex X m_Reader_readTag 168 [.ref (c0 + 8), .ref (c0 + 1), .int sv, .int 0, .int (bi fs), .int (nI q), .int (hb t q), .int 1, .int 1] [] (hp c0 n _ _) _
                    refine Ex.nx rfl ?_
                    refine Ex.nx rfl ?_
                    refine Ex.ite (fun c42 => ?_) (fun c42 => ?_)
                    · replace c42 : fs = false := bi_eqt c42
                      show Ex X m_Reader_readTag 182 [.ref (c0 + 8), .ref (c0 + 1), .int sv, .int 0, .int (bi fs), .int (nI q), .int (hb t q), .int 1, .int 1] [] (hp c0 n _ _) _
                      refine Ex.nx rfl ?_
                      refine Ex.nx rfl ?_
                      show Ex X m_Reader_readTag 185 [.ref (c0 + 8), .ref (c0 + 1), .int sv, .int 0, .int 0, .int (nI q), .int (hb t q), .int 1, .int 1] [] (hp c0 n _ _) _
                      refine Ex.nx rfl ?_
                      show Ex X m_Reader_readTag 188 [.ref (c0 + 8), .ref (c0 + 1), .int sv, .int 0, .int 0, .int ((nI q) + 1), .int (hb t q), .int 1, .int 1] [] (hp c0 n _ _) _
                      refine Ex.nx rfl ?_
                      show Ex X m_Reader_readTag 8 [.ref (c0 + 8), .ref (c0 + 1), .int sv, .int 0, .int 0, .int ((nI q) + 1), .int (hb t q), .int 1, .int 1] [] (hp c0 n _ _) _
                      rw [show nI q + 1 = nI (q + 1) from nI_1 q, show sT t (m + 1) q run fs acc = sT t m (q + 1) 0 false (acc ++ [smlN (t.getD q 0)]) by first | (simp [sT, L45, D45, c2, c14, c23, c32, dr, d20, d8, c42]; done) | (exfalso; simp_all [L45, D45]; done)]
                      exact ih (q + 1) 0 false _ _ _ _ _ (by omega) (by simp only [List.length_append, List.length_cons, List.length_nil]; omega) (by omega) hC39
                    · replace c42 : fs = true := bi_eqf c42
                      exact Bool.noConfusion (c23.symm.trans c42)
                  · replace c41 : (nI run) = 8 := Classical.not_not.mp (of_decide_eq_false c41)
                    have d8 : run = 8 := (nI_eq (b := 8) (by omega) (by decide)).mp c41
                    show Ex X m_Reader_readTag 114 [.ref (c0 + 8), .ref (c0 + 1), .int sv, .int (nI run), .int (bi fs), .int (nI q), .int (hb t q), .int 1, .int 1] [] (hp c0 n _ _) _
                    refine Ex.nx rfl ?_
                    refine Ex.nx rfl ?_
                    refine Ex.nx rfl ?_
                    refine CR.rd hC rfl rfl rfl rfl (cr_fail hC 4 (nI q)) ?_
                    rintro v h1 ⟨rfl, F40, rfl, hC40⟩
                    show Ex X m_Reader_readTag 121 [.ref (c0 + 8), .ref (c0 + 1), .int sv, .int (nI run), .int (bi fs), .int (nI q), .int (hb t q), .int 1, .int 1] [.int (-1)] (hp c0 n _ _) _
                    exact Ex.ret rfl (ev_reti rfl) (rP_f (show sT t (m + 1) q run fs acc = (false, q, acc) by first | (simp [sT, L45, D45, c2, c14, c23, c32, dr, d20, d8]; done) | (exfalso; simp_all [L45, D45]; done)) ⟨_, _, _, _, _, _, (by decide), hC40⟩)
set_option maxRecDepth 100000 in
set_option maxHeartbeats 2000000 in
theorem cr_tag {X : ev_X} {c0 n z : Nat} {F0 : Nat → Option va_E} {t : List Nat} {s p fp : Int32} {nu : Int64} {bd : List Nat} {F : Nat → Option va_E} {q : Nat} (hq : q ≤ t.length) (hC : CR c0 F0 t s nu p bd ([]) 0 fp F) : Ex X m_Reader_readTag 0 [.ref (c0 + 8), .ref (c0 + 1), .int (nI q), ev_dead, ev_dead, ev_dead, ev_dead, ev_dead, ev_dead] [] (hp c0 n z F) (rP c0 n z F0 t (sT t (t.length - q) q 0 true []) (fun b F1 => CR c0 F0 t s nu p bd b 0 fp F1)) := by
  refine Ex.nx rfl ?_
  refine Ex.nx rfl ?_
  show Ex X m_Reader_readTag 2 [.ref (c0 + 8), .ref (c0 + 1), .int (nI q), .int 0, ev_dead, ev_dead, ev_dead, ev_dead, ev_dead] [] (hp c0 n _ _) _
  refine Ex.nx rfl ?_
  refine Ex.nx rfl ?_
  show Ex X m_Reader_readTag 5 [.ref (c0 + 8), .ref (c0 + 1), .int (nI q), .int 0, .int 1, ev_dead, ev_dead, ev_dead, ev_dead] [] (hp c0 n _ _) _
  refine Ex.nx rfl ?_
  refine Ex.nx rfl ?_
  show Ex X m_Reader_readTag 8 [.ref (c0 + 8), .ref (c0 + 1), .int (nI q), .int 0, .int 1, .int (nI q), ev_dead, ev_dead, ev_dead] [] (hp c0 n _ _) _
  show Ex X m_Reader_readTag 8 [.ref (c0 + 8), .ref (c0 + 1), .int (nI q), .int 0, .int 1, .int (nI q), ev_dead, ev_dead, ev_dead] [] (hp c0 n _ _) _
  exact cr_tg_l (nI q) (t.length - q) q 0 true [] _ _ _ _ (by omega) (by decide) (by have := hC.rt.le; omega) hC
end
section
/-! The String constants. (rows laid by wip/whole/str1.py) -/
/-- what is known of the String constants -/
def XS (X : ev_X) (c0 : Nat) : Prop := (∀ k, k < 12 → X.2.1 k < c0 ∧ X.2.2.1 k < c0 ∧ X.2.2.2.1 (X.2.1 k) = some k ∧ (∃ k', X.2.2.2.2.1 (X.2.2.1 k) = some k' ∧ pg_byt.getD k' [] = pg_byt.getD k []) ∧ X.2.2.1 k ≠ X.1.1) ∧ (X.2.2.2.2.2 = .null ∨ ∃ t, X.2.2.2.2.2 = .ref t)
def lo0 (c0 : Nat) (h : ev_H) : Prop := ∀ o, o < c0 → h.2.2 o = none
theorem lo_hp {c0 n z : Nat} {F : Nat → Option va_E} : lo0 c0 (hp c0 n z F) := fun _ ho => hp_lo ho
section STR
variable {X : ev_X} {c0 M pc nx a b w idx : Nat} {A r : List Value} {h : ev_H} {Q : Option Value → ev_H → Prop} {k : Nat}
theorem Hx.sg0 (hS : XS X c0) (hk : k < 12) (hl : lo0 c0 h) (o : pg_ops M pc = some (.getfield idx, nx, 90, 0, w)) (kk : Ex X M nx A (.ref (X.2.2.1 k) :: r) h Q) : Ex X M pc A (.ref (X.2.1 k) :: r) h Q := by
  obtain ⟨h1, -, h3, -⟩ := hS.1 k hk
  exact Ex.hp o rfl rfl rfl rfl rfl (by simp only [ev_hp, ev_get, hl _ h1, h3]; rfl) kk
theorem Hx.sg1 (hS : XS X c0) (hk : k < 12) (hl : lo0 c0 h) (o : pg_ops M pc = some (.getfield idx, nx, 90, 1, w)) (kk : Ex X M nx A (.int 0 :: r) h Q) : Ex X M pc A (.ref (X.2.1 k) :: r) h Q := by
  obtain ⟨h1, -, h3, -⟩ := hS.1 k hk
  exact Ex.hp o rfl rfl rfl rfl rfl (by simp only [ev_hp, ev_get, hl _ h1, h3]; rfl) kk
theorem Hx.slen2 (hS : XS X c0) (hk : k < 12) (hl : lo0 c0 h) (o : pg_ops M pc = some (.arraylength, nx, a, b, w)) (kk : Ex X M nx A (.int (nI (pg_byt.getD k []).length) :: r) h Q) : Ex X M pc A (.ref (X.2.2.1 k) :: r) h Q := by
  obtain ⟨-, h2, -, ⟨k', h4, h5⟩, h6⟩ := hS.1 k hk
  exact Ex.hp o rfl rfl rfl rfl rfl (by simp only [ev_hp, ev_alen, hl _ h2, if_neg h6, h4, h5]; rfl) kk
theorem Hx.sbal {j : Nat} (hS : XS X c0) (hk : k < 12) (hl : lo0 c0 h) (hj : j < (pg_byt.getD k []).length) (hj2 : j < 2 ^ 31) (o : pg_ops M pc = some (.baload, nx, a, b, w)) (kk : Ex X M nx A (.int ((pg_byt.getD k []).getD j 0) :: r) h Q) : Ex X M pc A (.int (nI j) :: .ref (X.2.2.1 k) :: r) h Q := by
  obtain ⟨-, h2, -, ⟨k', h4, h5⟩, h6⟩ := hS.1 k hk
  refine Ex.hp (st' := .int ((pg_byt.getD k []).getD j 0) :: r) (h' := h) o rfl rfl rfl rfl rfl ?_ kk
  simp only [ev_hp, ev_bald, hl _ h2, h4, h5]
  rw [nI_clamp hj2, if_pos]
  rintro (q | q)
  · exact nI_pos hj2 q
  · omega
theorem Hx.scl {as st A0 : List Value} {Q1 : Option Value → ev_H → Prop} (hS : XS X c0) (hk : k < 12) (hl : lo0 c0 h) (o : pg_ops M pc = some (.invokevirtual idx, nx, a, b, w)) (ha : ev_argI (pg_n a) st = some (X.2.1 k, as, r)) (hc : pg_c a = 90) (he : ev_ent (pg_L a) (.ref (X.2.1 k) :: as) = some A0) (k1 : Ex X a 0 A0 [] h Q1) (k2 : ∀ v h1, Q1 v h1 → Ex X M nx A (v.toList ++ r) h1 Q) : Ex X M pc A st h Q := by
  obtain ⟨h1, -, h3, -⟩ := hS.1 k hk
  refine Ex.call (rest := r) o rfl ?_ he k1 k2
  have hrc : ev_rcv X h (X.2.1 k) (pg_c a) = true := by unfold ev_rcv; rw [hl _ h1, hc, h3]; rfl
  simp only [ev_cal, ha, hrc, if_true]
theorem Hx.sst {as st A0 : List Value} {Q1 : Option Value → ev_H → Prop} (o : pg_ops M pc = some (.invokestatic idx, nx, a, b, w)) (hs : (decide (a ∈ pg_sp)) = false) (ha : ev_argS (pg_n a) st = some (as, r)) (he : ev_ent (pg_L a) as = some A0) (k1 : Ex X a 0 A0 [] h Q1) (k2 : ∀ v h1, Q1 v h1 → Ex X M nx A (v.toList ++ r) h1 Q) : Ex X M pc A st h Q := by
  refine Ex.call (rest := r) o rfl ?_ he k1 k2
  simp only [ev_cal, if_neg (of_decide_eq_false hs), ha]
end STR
/-- the length and the chars of constant k -/
def wlen (k : Nat) : Nat := (pg_byt.getD k []).length
def wch (k j : Nat) : Nat := ((pg_byt.getD k []).getD j 0).toNatClampNeg
set_option maxRecDepth 100000 in
theorem wch_all : ∀ k, k < 12 → ∀ j, j < wlen k → (((pg_byt.getD k []).getD j 0 &&& 255).toUInt32 % 65536).toInt32 = nI (wch k j) ∧ wch k j < 256 := by decide +kernel
theorem wlen_all : ∀ k, k < 12 → wlen k < 10 := by decide +kernel
set_option maxRecDepth 100000 in
theorem sh_0 : ∀ k, k < 12 → (nI (pg_byt.getD k []).length >>> ((0 : Int32) &&& 31)) = nI ((pg_byt.getD k []).length) := by decide +kernel
set_option maxRecDepth 100000 in
theorem ch_ret : ∀ b : Nat, b < 256 → ev_ret m_StringLatin1_charAt .ireturn [.int (nI b)] = some (some (.int (nI b))) := by
  intro b hb
  have e : ∀ b : Nat, b < 256 → narrow .char (.int (nI b)) = .int (nI b) := by decide +kernel
  show (if narrow .char (.int (nI b)) = .int (nI b) then some (some (Value.int (nI b))) else none) = _
  rw [if_pos (e b hb)]
theorem ch_ret2 : ∀ b : Nat, b < 256 → ev_ret m_String_charAt .ireturn [.int (nI b)] = some (some (.int (nI b))) := ch_ret
set_option maxRecDepth 100000 in
set_option maxHeartbeats 2000000 in
theorem hs_coder {X : ev_X} {c0 : Nat} {h : ev_H} (hS : XS X c0) (hl : lo0 c0 h) {k : Nat} (hk : k < 12) : Ex X m_String_coder 0 [.ref (X.2.1 k)] [] h (fun r h' => r = some (.int 0) ∧ h' = h) := by
  refine Ex.nx rfl ?_
  refine Ex.nx rfl ?_
  refine Ex.nx rfl ?_
  refine Hx.sg1 hS hk hl rfl ?_
  refine Ex.nx rfl ?_
  exact Ex.ret rfl rfl ⟨rfl, rfl⟩
set_option maxRecDepth 100000 in
set_option maxHeartbeats 2000000 in
theorem hs_length {X : ev_X} {c0 : Nat} {h : ev_H} (hS : XS X c0) (hl : lo0 c0 h) {k : Nat} (hk : k < 12) : Ex X m_String_length 0 [.ref (X.2.1 k)] [] h (fun r h' => r = some (.int (nI (wlen k))) ∧ h' = h) := by
  refine Ex.nx rfl ?_
  refine Hx.sg0 hS hk hl rfl ?_
  refine Hx.slen2 hS hk hl rfl ?_
  refine Ex.nx rfl ?_
  refine Hx.scl hS hk hl rfl rfl rfl rfl (hs_coder hS hl hk) ?_
  rintro v h1 ⟨rfl, rfl⟩
  refine Ex.nx rfl ?_
  exact Ex.ret rfl (ev_reti rfl) ⟨by rw [show (nI (pg_byt.getD k []).length >>> ((0 : Int32) &&& 31)) = nI (wlen k) from sh_0 k hk], rfl⟩
set_option maxRecDepth 100000 in
set_option maxHeartbeats 2000000 in
theorem hs_latin {X : ev_X} {c0 : Nat} {h : ev_H} (hS : XS X c0) (hl : lo0 c0 h) {k : Nat} (hk : k < 12) : Ex X m_String_isLatin1 0 [.ref (X.2.1 k)] [] h (fun r h' => r = some (.int 1) ∧ h' = h) := by
  refine Ex.nx rfl ?_
  refine Ex.nx rfl ?_
  refine Ex.nx rfl ?_
  refine Hx.sg1 hS hk hl rfl ?_
  refine Ex.nx rfl ?_
  refine Ex.nx rfl ?_
  refine Ex.nx rfl ?_
  exact Ex.ret rfl rfl ⟨rfl, rfl⟩
set_option maxRecDepth 100000 in
set_option maxHeartbeats 2000000 in
theorem hs_chk {X : ev_X} {h : ev_H} {j m : Nat} (fm : Value) (hj : j < m) (hm : m < 2 ^ 31) : Ex X m_Preconditions_checkIndex 0 [.int (nI j), .int (nI m), fm] [] h (fun r h' => r = some (.int (nI j)) ∧ h' = h) := by
  refine Ex.nx rfl ?_
  refine Ex.nx rfl ?_
  refine Ex.ite (fun c => ?_) (fun c => ?_)
  · exact absurd (of_decide_eq_true c) (nI_pos (by omega))
  refine Ex.nx rfl ?_
  refine Ex.nx rfl ?_
  refine Ex.nx rfl ?_
  refine Ex.ite (fun c => ?_) (fun c => ?_)
  · refine Ex.nx rfl ?_
    exact Ex.ret rfl (ev_reti rfl) ⟨rfl, rfl⟩
  · exact absurd (nI_lt hj hm) (of_decide_eq_false c)
set_option maxRecDepth 100000 in
set_option maxHeartbeats 2000000 in
theorem hs_chk2 {X : ev_X} {c0 : Nat} {h : ev_H} (hS : XS X c0) {j m : Nat} (hj : j < m) (hm : m < 2 ^ 31) : Ex X m_String_checkIndex 0 [.int (nI j), .int (nI m)] [] h (fun r h' => r = none ∧ h' = h) := by
  refine Ex.nx rfl ?_
  refine Ex.nx rfl ?_
  refine Ex.nx rfl ?_
  refine Hx.sst rfl rfl (as := [.int (nI j), .int (nI m), X.2.2.2.2.2]) (r := []) rfl (by rcases hS.2 with e | ⟨t, e⟩ <;> rw [e] <;> rfl) (hs_chk X.2.2.2.2.2 hj hm) ?_
  rintro v h1 ⟨rfl, rfl⟩
  refine Ex.nx rfl ?_
  exact Ex.ret rfl rfl ⟨rfl, rfl⟩
set_option maxRecDepth 100000 in
set_option maxHeartbeats 2000000 in
theorem hs_lchar {X : ev_X} {c0 : Nat} {h : ev_H} (hS : XS X c0) (hl : lo0 c0 h) {k : Nat} (hk : k < 12) {j : Nat} (hj : j < wlen k) : Ex X m_StringLatin1_charAt 0 [.ref (X.2.2.1 k), .int (nI j)] [] h (fun r h' => r = some (.int (nI (wch k j))) ∧ h' = h) := by
  refine Ex.nx rfl ?_
  refine Ex.nx rfl ?_
  refine Hx.slen2 hS hk hl rfl ?_
  refine Hx.sst rfl rfl rfl rfl (hs_chk2 hS hj (by have := wlen_all k hk; unfold wlen at this hj; omega)) ?_
  rintro v h1 ⟨rfl, rfl⟩
  refine Ex.nx rfl ?_
  refine Ex.nx rfl ?_
  refine Hx.sbal hS hk hl hj (by have := wlen_all k hk; omega) rfl ?_
  refine Ex.nx rfl ?_
  refine Ex.nx rfl ?_
  refine Ex.nx rfl ?_
  have e := wch_all k hk j hj
  refine Ex.ret rfl (?_ : ev_ret _ _ [.int ((((pg_byt.getD k []).getD j 0 &&& 255).toUInt32 % 65536).toInt32)] = _) ⟨rfl, rfl⟩
  rw [e.1]
  exact ch_ret _ e.2
set_option maxRecDepth 100000 in
set_option maxHeartbeats 2000000 in
theorem hs_char {X : ev_X} {c0 : Nat} {h : ev_H} (hS : XS X c0) (hl : lo0 c0 h) {k : Nat} (hk : k < 12) {j : Nat} (hj : j < wlen k) : Ex X m_String_charAt 0 [.ref (X.2.1 k), .int (nI j)] [] h (fun r h' => r = some (.int (nI (wch k j))) ∧ h' = h) := by
  refine Ex.nx rfl ?_
  refine Hx.scl hS hk hl rfl rfl rfl rfl (hs_latin hS hl hk) ?_
  rintro v h1 ⟨rfl, rfl⟩
  refine Ex.nx rfl ?_
  refine Ex.nx rfl ?_
  refine Hx.sg0 hS hk hl rfl ?_
  refine Ex.nx rfl ?_
  refine Hx.sst rfl rfl rfl rfl (hs_lchar hS hl hk hj) ?_
  rintro v h1 ⟨rfl, rfl⟩
  exact Ex.ret rfl (ch_ret2 _ (wch_all k hk j hj).2) ⟨rfl, rfl⟩
end
section
/-! The class reads numbers and truths. (rows laid by wip/whole/cr3.py) -/
/-- digits from q on -/
def sD (l : List Nat) (st mo : Nat) : Nat → Nat → Int64 → Bool × Nat × Int64
  | 0, q, v => (true, q, v)
  | m + 1, q, v => if isD (hb l q) = true then (if mo ≤ q - st then (false, q, v) else sD l st mo m (q + 1) (v * 10 + (hb l q - 48).toInt64)) else (true, q, v)
theorem sD_le (l : List Nat) (st mo : Nat) : ∀ (m q : Nat) (v : Int64), q + m = l.length → q - st ≤ mo → q ≤ (sD l st mo m q v).2.1 ∧ (sD l st mo m q v).2.1 ≤ l.length ∧ (sD l st mo m q v).2.1 - st ≤ mo := by
  intro m
  induction m with
  | zero => intro q v h1 h2; exact ⟨Nat.le_refl _, by show q ≤ _; omega, h2⟩
  | succ m ih =>
    intro q v h1 h2
    rw [sD]
    split
    · split
      · exact ⟨Nat.le_refl _, by show q ≤ _; omega, h2⟩
      · next h3 =>
        obtain ⟨a, b, c⟩ := ih (q + 1) (v * 10 + (hb l q - 48).toInt64) (by omega) (by omega)
        exact ⟨by omega, b, c⟩
    · exact ⟨Nat.le_refl _, by show q ≤ _; omega, h2⟩
set_option maxRecDepth 100000 in
set_option maxHeartbeats 2000000 in
theorem cr_dg_l {X : ev_X} {c0 n z : Nat} {F0 : Nat → Option va_E} {t : List Nat} {s p fp : Int32} {bd tl l : List Nat} {kr st mo : Nat} (hmo : mo ≤ 18) : ∀ (m q : Nat) (v : Int64) (F : Nat → Option va_E) (hm : q + m = l.length) (hst : st ≤ q) (hC : CR c0 F0 t s v p bd tl 0 fp F) (hr : crw t bd kr l), Ex X m_Reader_readDigits 3 [.ref (c0 + 8), .ref (c0 + kr), .int (nI st), .int (nI mo), .int (nI q)] [] (hp c0 n z F) (rP c0 n z F0 t (sD l st mo m q v) (fun v F1 => CR c0 F0 t s v p bd tl 0 fp F1)) := by
  intro m
  induction m with
  | zero =>
    intro q v F hm hst hC hr
    have hl := crw.le hC hr
    refine Ex.nx rfl ?_
    refine Ex.nx rfl ?_
    refine CR.sz hC hr rfl rfl rfl ?_
    show Ex X m_Reader_readDigits 9 [.ref (c0 + 8), .ref (c0 + kr), .int (nI st), .int (nI mo), .int (nI q)] [.int (nI l.length), .int (nI q)] (hp c0 n _ _) _
    refine Ex.nx rfl ?_
    refine Ex.ite (fun c1 => ?_) (fun c1 => ?_)
    · replace c1 : (nI l.length) ≤ (nI q) := of_decide_eq_true c1
      show Ex X m_Reader_readDigits 75 [.ref (c0 + 8), .ref (c0 + kr), .int (nI st), .int (nI mo), .int (nI q)] [] (hp c0 n _ _) _
      refine Ex.nx rfl ?_
      exact Ex.ret rfl (ev_reti rfl) (rP_t (b := v) rfl hC)
    · replace c1 : ¬ (nI l.length) ≤ (nI q) := of_decide_eq_false c1
      exact absurd (show nI l.length ≤ nI q by rw [show q = l.length by omega]; exact Int32.le_refl _) c1
  | succ m ih =>
    intro q v F hm hst hC hr
    have hl := crw.le hC hr
    refine Ex.nx rfl ?_
    refine Ex.nx rfl ?_
    refine CR.sz hC hr rfl rfl rfl ?_
    show Ex X m_Reader_readDigits 9 [.ref (c0 + 8), .ref (c0 + kr), .int (nI st), .int (nI mo), .int (nI q)] [.int (nI l.length), .int (nI q)] (hp c0 n _ _) _
    refine Ex.nx rfl ?_
    refine Ex.ite (fun c1 => ?_) (fun c1 => ?_)
    · replace c1 : (nI l.length) ≤ (nI q) := of_decide_eq_true c1
      exact absurd ((nI_leI (by omega) (by omega)).mp c1) (by omega)
    · replace c1 : ¬ (nI l.length) ≤ (nI q) := of_decide_eq_false c1
      show Ex X m_Reader_readDigits 12 [.ref (c0 + 8), .ref (c0 + kr), .int (nI st), .int (nI mo), .int (nI q)] [] (hp c0 n _ _) _
      refine Ex.nx rfl ?_
      refine Ex.nx rfl ?_
      refine CR.at (i := q) (A0 := []) hC hr (by omega) rfl rfl rfl ?_
      show Ex X m_Reader_readDigits 18 [.ref (c0 + 8), .ref (c0 + kr), .int (nI st), .int (nI mo), .int (nI q)] [.int (hb l q)] (hp c0 n _ _) _
      refine Hx.calls rfl rfl rfl rfl (sx_Reader_isDigit X (hb l q)) (fun v hv => ?_)
      subst hv
      show Ex X m_Reader_readDigits 21 [.ref (c0 + 8), .ref (c0 + kr), .int (nI st), .int (nI mo), .int (nI q)] [.int (bi (isD (hb l q)))] (hp c0 n _ _) _
      refine Ex.nx rfl ?_
      refine Ex.ite (fun c2 => ?_) (fun c2 => ?_)
      · replace c2 : (isD (hb l q)) = false := bi_eqt c2
        show Ex X m_Reader_readDigits 75 [.ref (c0 + 8), .ref (c0 + kr), .int (nI st), .int (nI mo), .int (nI q)] [] (hp c0 n _ _) _
        refine Ex.nx rfl ?_
        exact Ex.ret rfl (ev_reti rfl) (rP_t (show sD l st mo (m + 1) q v = (true, q, v) from if_neg (by rw [c2]; decide)) hC)
      · replace c2 : (isD (hb l q)) = true := bi_eqf c2
        show Ex X m_Reader_readDigits 24 [.ref (c0 + 8), .ref (c0 + kr), .int (nI st), .int (nI mo), .int (nI q)] [] (hp c0 n _ _) _
        refine Ex.nx rfl ?_
        refine Ex.nx rfl ?_
        refine Ex.nx rfl ?_
        refine Hx.top (y := nI (q - st)) (pk_sub (by omega)) ?_
        refine Ex.nx rfl ?_
        refine Ex.nx rfl ?_
        refine Ex.ite (fun c3 => ?_) (fun c3 => ?_)
        · replace c3 : (nI (q - st)) < (nI mo) := of_decide_eq_true c3
          show Ex X m_Reader_readDigits 40 [.ref (c0 + 8), .ref (c0 + kr), .int (nI st), .int (nI mo), .int (nI q)] [] (hp c0 n _ _) _
          refine Ex.nx rfl ?_
          refine Hx.get 8 rfl hC.r8 rfl ?_
          refine Ex.nx rfl ?_
          refine Hx.get 8 rfl hC.r8 rfl ?_
          refine Hx.get 3 rfl hC.r3 rfl ?_
          refine Ex.nx rfl ?_
          refine Ex.nx rfl ?_
          refine Ex.nx rfl ?_
          refine Ex.nx rfl ?_
          refine CR.at (i := q) (A0 := []) hC hr (by omega) rfl rfl rfl ?_
          show Ex X m_Reader_readDigits 61 [.ref (c0 + 8), .ref (c0 + kr), .int (nI st), .int (nI mo), .int (nI q)] [.int (hb l q), .long (v * 10), .ref (c0 + 3)] (hp c0 n _ _) _
          refine Ex.nx rfl ?_
          refine Ex.nx rfl ?_
          refine Ex.nx rfl ?_
          refine Ex.nx rfl ?_
          refine CR.pn hC rfl ?_
          intro F1 hC1
          show Ex X m_Reader_readDigits 69 [.ref (c0 + 8), .ref (c0 + kr), .int (nI st), .int (nI mo), .int (nI q)] [] (hp c0 n _ _) _
          refine Ex.nx rfl ?_
          show Ex X m_Reader_readDigits 72 [.ref (c0 + 8), .ref (c0 + kr), .int (nI st), .int (nI mo), .int ((nI q) + 1)] [] (hp c0 n _ _) _
          refine Ex.nx rfl ?_
          show Ex X m_Reader_readDigits 3 [.ref (c0 + 8), .ref (c0 + kr), .int (nI st), .int (nI mo), .int ((nI q) + 1)] [] (hp c0 n _ _) _
          rw [show nI q + 1 = nI (q + 1) from nI_1 q, show sD l st mo (m + 1) q v = sD l st mo m (q + 1) (v * 10 + (hb l q - 48).toInt64) from (if_pos c2).trans (if_neg (Nat.not_le.mpr ((nI_ltI (by omega) (by omega)).mp c3)))]
          exact ih (q + 1) _ _ (by omega) (by omega) hC1 hr
        · replace c3 : ¬ (nI (q - st)) < (nI mo) := of_decide_eq_false c3
          show Ex X m_Reader_readDigits 32 [.ref (c0 + 8), .ref (c0 + kr), .int (nI st), .int (nI mo), .int (nI q)] [] (hp c0 n _ _) _
          refine Ex.nx rfl ?_
          refine Ex.nx rfl ?_
          refine Ex.nx rfl ?_
          refine CR.rd hC rfl rfl rfl rfl (cr_fail hC 4 (nI q)) ?_
          rintro v h1 ⟨rfl, F2, rfl, hC2⟩
          show Ex X m_Reader_readDigits 39 [.ref (c0 + 8), .ref (c0 + kr), .int (nI st), .int (nI mo), .int (nI q)] [.int (-1)] (hp c0 n _ _) _
          exact Ex.ret rfl (ev_reti rfl) (rP_f (show sD l st mo (m + 1) q v = (false, q, v) from (if_pos c2).trans (if_pos (Nat.le_of_not_lt (fun e => c3 ((nI_ltI (by omega) (by omega)).mpr e))))) ⟨_, _, _, _, _, _, (by decide), hC2⟩)
set_option maxRecDepth 100000 in
set_option maxHeartbeats 2000000 in
theorem cr_digits {X : ev_X} {c0 n z : Nat} {F0 : Nat → Option va_E} {t : List Nat} {s p fp : Int32} {bd tl l : List Nat} {kr st mo : Nat} (hmo : mo ≤ 18) {v : Int64} {F : Nat → Option va_E} (hst : st ≤ l.length) (hC : CR c0 F0 t s v p bd tl 0 fp F) (hr : crw t bd kr l) : Ex X m_Reader_readDigits 0 [.ref (c0 + 8), .ref (c0 + kr), .int (nI st), .int (nI mo), ev_dead] [] (hp c0 n z F) (rP c0 n z F0 t (sD l st mo (l.length - st) st v) (fun v F1 => CR c0 F0 t s v p bd tl 0 fp F1)) := by
  refine Ex.nx rfl ?_
  refine Ex.nx rfl ?_
  show Ex X m_Reader_readDigits 3 [.ref (c0 + 8), .ref (c0 + kr), .int (nI st), .int (nI mo), .int (nI st)] [] (hp c0 n _ _) _
  show Ex X m_Reader_readDigits 3 [.ref (c0 + 8), .ref (c0 + kr), .int (nI st), .int (nI mo), .int (nI st)] [] (hp c0 n _ _) _
  exact cr_dg_l hmo (l.length - st) st v _ (by omega) (Nat.le_refl _) hC hr
set_option maxRecDepth 100000 in
set_option maxHeartbeats 2000000 in
theorem cr_lz {X : ev_X} {c0 n z : Nat} {F0 : Nat → Option va_E} {t : List Nat} {s fp ft : Int32} {bd tl : List Nat} {pn : Nat} {v : Int64} {F : Nat → Option va_E} (hp9 : pn ≤ 1000) (hC : CR c0 F0 t s v (nI pn) bd tl ft fp F) : Ex X m_Term_leaveOffZeros 0 [.ref (c0 + 3), ev_dead] [] (hp c0 n z F) (fun r h' => r = none ∧ ∃ F1, h' = hp c0 n z F1 ∧ CR c0 F0 t s (lz pn v).1 (nI (lz pn v).2) bd tl ft fp F1) := by
  refine (hx_lz pn v hp9 hC.r3).mono ?_
  rintro r h' ⟨rfl, rfl⟩
  exact ⟨rfl, _, rfl, hC.u3⟩
theorem lz_le : ∀ (p : Nat) (v : Int64), (lz p v).2 ≤ p := by
  intro p
  induction p with
  | zero => intro v; exact Nat.le_refl _
  | succ p ih =>
    intro v
    rw [lz]
    split
    · exact Nat.le_succ_of_le (ih _)
    · exact Nat.le_refl _
/-- a number, without its sign: sort, number, places -/
def sNu2 (l : List Nat) (st q1 : Nat) (v1 : Int64) : Bool × Nat × Int32 × Int64 × Nat := let o2 := sD l (q1 + 1) (18 - (q1 - st)) (l.length - (q1 + 1)) (q1 + 1) v1; if o2.1 = false then (false, o2.2.1, 0, 0, 0) else if o2.2.1 = q1 + 1 then (false, o2.2.1, 0, 0, 0) else if 9 < (lz (o2.2.1 - q1 - 1) o2.2.2).2 then (false, 0, 0, 0, 0) else (true, o2.2.1, 4, lz (o2.2.1 - q1 - 1) o2.2.2)
def sNu1 (l : List Nat) (st : Nat) (v : Int64) : Bool × Nat × Int32 × Int64 × Nat := let o1 := sD l st 18 (l.length - st) st v; if o1.1 = false then (false, o1.2.1, 0, 0, 0) else if hb l o1.2.1 = 46 then sNu2 l st o1.2.1 o1.2.2 else if o1.2.1 = st then (false, o1.2.1, 0, 0, 0) else (true, o1.2.1, 3, o1.2.2, 0)
def sgn0 (l : List Nat) : Nat := if (decide (hb l 0 = 43) || decide (hb l 0 = 45)) = true then 1 else 0
theorem nI_nm1 {n : Nat} (h : n < 2 ^ 31) : ¬ nI n = -1 := fun e => nI_pos h (by rw [e]; decide)
set_option maxRecDepth 100000 in
set_option maxHeartbeats 2000000 in
theorem cr_nu2 {X : ev_X} {c0 n z : Nat} {F0 : Nat → Option va_E} {t : List Nat} {s fp : Int32} {bd tl l : List Nat} {kr : Nat} {v : Int64} {F : Nat → Option va_E} (hC : CR c0 F0 t s v 0 bd tl 0 fp F) (hr : crw t bd kr l) {st q1 : Nat} (v4 : Value) (h1 : st ≤ q1) (h2 : q1 < l.length) (h3 : q1 - st ≤ 18) : Ex X m_Reader_readNumber 67 [.ref (c0 + 8), .ref (c0 + kr), .int (nI st), .int (nI q1), v4] [] (hp c0 n z F) (rP c0 n z F0 t (sNu2 l st q1 v) (fun x F1 => CR c0 F0 t x.1 x.2.1 (nI x.2.2) bd tl 0 fp F1)) := by
  have hl := crw.le hC hr
  refine Ex.nx rfl ?_
  refine Ex.nx rfl ?_
  refine Ex.nx rfl ?_
  refine Ex.nx rfl ?_
  refine Ex.nx rfl ?_
  refine Hx.top (y := nI (q1 + 1)) (nI_1 q1) ?_
  refine Ex.nx rfl ?_
  refine Ex.nx rfl ?_
  refine Ex.nx rfl ?_
  refine Ex.nx rfl ?_
  refine Hx.top (y := nI (q1 - st)) (pk_sub (by omega)) ?_
  refine Ex.nx rfl ?_
  refine Hx.top (y := nI (18 - (q1 - st))) (pk_sub (a := 18) (by omega)) ?_
  refine CR.rd hC rfl rfl rfl rfl (cr_digits (st := (q1 + 1)) (mo := (18 - (q1 - st))) (by omega) (by omega) hC hr) ?_
  obtain ⟨g1, g2, g3⟩ := sD_le l (q1 + 1) (18 - (q1 - st)) (l.length - (q1 + 1)) (q1 + 1) v (by omega) (by omega)
  generalize ho2 : sD l (q1 + 1) (18 - (q1 - st)) (l.length - (q1 + 1)) (q1 + 1) v = o at g1 g2 g3 ⊢
  obtain ⟨b3, y3, v3⟩ := o
  dsimp only at g1 g2 g3
  cases b3
  · rintro v h1 ⟨rfl, F3, rfl, hE⟩
    show Ex X m_Reader_readNumber 81 [.ref (c0 + 8), .ref (c0 + kr), .int (nI st), .int (nI q1), v4] [.int (-1)] (hp c0 n _ _) _
    refine Ex.nx rfl ?_
    show Ex X m_Reader_readNumber 83 [.ref (c0 + 8), .ref (c0 + kr), .int (nI st), .int (nI q1), .int (-1)] [] (hp c0 n _ _) _
    refine Ex.nx rfl ?_
    refine Ex.nx rfl ?_
    refine Ex.nx rfl ?_
    show Ex X m_Reader_readNumber 89 [.ref (c0 + 8), .ref (c0 + kr), .int (nI st), .int (nI q1), .int (-1)] [] (hp c0 n _ _) _
    refine Ex.nx rfl ?_
    exact Ex.ret rfl (ev_reti rfl) (rP_f (b := (0, 0, 0)) (by rw [sNu2, ho2]; rfl) hE)
  rintro v h1 ⟨rfl, F3, rfl, hC3⟩
  dsimp only at hC3
  show Ex X m_Reader_readNumber 81 [.ref (c0 + 8), .ref (c0 + kr), .int (nI st), .int (nI q1), v4] [.int (nI y3)] (hp c0 n _ _) _
  refine Ex.nx rfl ?_
  show Ex X m_Reader_readNumber 83 [.ref (c0 + 8), .ref (c0 + kr), .int (nI st), .int (nI q1), .int (nI y3)] [] (hp c0 n _ _) _
  refine Ex.nx rfl ?_
  refine Ex.nx rfl ?_
  refine Ex.nx rfl ?_
  refine Ex.ite (fun c1 => ?_) (fun c1 => ?_)
  · replace c1 : ¬ (nI y3) = (-1) := of_decide_eq_true c1
    skip
    show Ex X m_Reader_readNumber 91 [.ref (c0 + 8), .ref (c0 + kr), .int (nI st), .int (nI q1), .int (nI y3)] [] (hp c0 n _ _) _
    refine Ex.nx rfl ?_
    refine Ex.nx rfl ?_
    refine Ex.nx rfl ?_
    refine Ex.nx rfl ?_
    refine Hx.top (y := nI (q1 + 1)) (nI_1 q1) ?_
    refine Ex.nx rfl ?_
    refine Ex.ite (fun c2 => ?_) (fun c2 => ?_)
    · replace c2 : ¬ (nI y3) = (nI (q1 + 1)) := of_decide_eq_true c2
      have dq : ¬ y3 = q1 + 1 := fun e => c2 (by rw [e])
      show Ex X m_Reader_readNumber 107 [.ref (c0 + 8), .ref (c0 + kr), .int (nI st), .int (nI q1), .int (nI y3)] [] (hp c0 n _ _) _
      refine Ex.nx rfl ?_
      refine Hx.get 8 rfl hC3.r8 rfl ?_
      refine Ex.nx rfl ?_
      refine CR.ps hC3 rfl ?_
      intro F4 hC4
      show Ex X m_Reader_readNumber 115 [.ref (c0 + 8), .ref (c0 + kr), .int (nI st), .int (nI q1), .int (nI y3)] [] (hp c0 n _ _) _
      refine Ex.nx rfl ?_
      refine Hx.get 8 rfl hC4.r8 rfl ?_
      refine Ex.nx rfl ?_
      refine Ex.nx rfl ?_
      refine Ex.nx rfl ?_
      refine Hx.top (y := nI (y3 - q1)) (pk_sub (by omega)) ?_
      refine Ex.nx rfl ?_
      refine Ex.nx rfl ?_
      refine Hx.top (y := nI (y3 - q1 - 1)) (pk_sub (b := 1) (by omega)) ?_
      refine CR.pp hC4 rfl ?_
      intro F5 hC5
      show Ex X m_Reader_readNumber 128 [.ref (c0 + 8), .ref (c0 + kr), .int (nI st), .int (nI q1), .int (nI y3)] [] (hp c0 n _ _) _
      refine Ex.nx rfl ?_
      refine Hx.get 8 rfl hC5.r8 rfl ?_
      refine Hx.callX 3 rfl rfl hC5.r3 rfl rfl (cr_lz (pn := (y3 - q1 - 1)) (by omega) hC5) ?_
      rintro v h1 ⟨rfl, F6, rfl, hC6⟩
      have hz := lz_le (y3 - q1 - 1) v3
      show Ex X m_Reader_readNumber 135 [.ref (c0 + 8), .ref (c0 + kr), .int (nI st), .int (nI q1), .int (nI y3)] [] (hp c0 n _ _) _
      refine Ex.nx rfl ?_
      refine Hx.get 8 rfl hC6.r8 rfl ?_
      refine Hx.get 3 rfl hC6.r3 rfl ?_
      refine Ex.nx rfl ?_
      refine Ex.nx rfl ?_
      refine Ex.ite (fun c3 => ?_) (fun c3 => ?_)
      · replace c3 : (nI (lz (y3 - q1 - 1) v3).2) ≤ 9 := of_decide_eq_true c3
        have d9 : ¬ 9 < (lz (y3 - q1 - 1) v3).2 := Nat.not_lt.mpr ((nI_leI (b := 9) (by omega) (by decide)).mp c3)
        show Ex X m_Reader_readNumber 157 [.ref (c0 + 8), .ref (c0 + kr), .int (nI st), .int (nI q1), .int (nI y3)] [] (hp c0 n _ _) _
        refine Ex.nx rfl ?_
        exact Ex.ret rfl (ev_reti rfl) (rP_t (b := (4, lz (y3 - q1 - 1) v3)) (by simp [sNu2, ho2, dq, d9]) hC6)
      · replace c3 : ¬ (nI (lz (y3 - q1 - 1) v3).2) ≤ 9 := of_decide_eq_false c3
        have d9 : 9 < (lz (y3 - q1 - 1) v3).2 := Nat.lt_of_not_le (fun e => c3 ((nI_leI (b := 9) (by omega) (by decide)).mpr e))
        show Ex X m_Reader_readNumber 147 [.ref (c0 + 8), .ref (c0 + kr), .int (nI st), .int (nI q1), .int (nI y3)] [] (hp c0 n _ _) _
        refine Ex.nx rfl ?_
        refine Ex.nx rfl ?_
        refine Ex.nx rfl ?_
        refine CR.rd hC6 rfl rfl rfl rfl (cr_fail hC6 6 0) ?_
        rintro v h1 ⟨rfl, F7, rfl, hC7⟩
        show Ex X m_Reader_readNumber 154 [.ref (c0 + 8), .ref (c0 + kr), .int (nI st), .int (nI q1), .int (nI y3)] [.int (-1)] (hp c0 n _ _) _
        refine Ex.nx rfl ?_
        exact Ex.ret rfl (ev_reti rfl) (rP_f (b := (0, 0, 0)) (by simp [sNu2, ho2, dq, d9]) ⟨_, _, _, _, _, _, (by decide), hC7⟩)
    · replace c2 : (nI y3) = (nI (q1 + 1)) := Classical.not_not.mp (of_decide_eq_false c2)
      have dq : y3 = q1 + 1 := (nI_eq (by omega) (by omega)).mp c2
      show Ex X m_Reader_readNumber 99 [.ref (c0 + 8), .ref (c0 + kr), .int (nI st), .int (nI q1), .int (nI y3)] [] (hp c0 n _ _) _
      refine Ex.nx rfl ?_
      refine Ex.nx rfl ?_
      refine Ex.nx rfl ?_
      refine CR.rd hC3 rfl rfl rfl rfl (cr_lacking (i := y3) hC3 hr (by omega)) ?_
      rintro v h1 ⟨rfl, F8, rfl, hC8⟩
      show Ex X m_Reader_readNumber 106 [.ref (c0 + 8), .ref (c0 + kr), .int (nI st), .int (nI q1), .int (nI y3)] [.int (-1)] (hp c0 n _ _) _
      exact Ex.ret rfl (ev_reti rfl) (rP_f (b := (0, 0, 0)) (by simp [sNu2, ho2, dq]) ⟨_, _, _, _, _, _, lk_ne, hC8⟩)
  · replace c1 : (nI y3) = (-1) := Classical.not_not.mp (of_decide_eq_false c1)
    exact absurd (show (nI y3 = -1) from c1) (nI_nm1 (by omega))
set_option maxRecDepth 100000 in
set_option maxHeartbeats 2000000 in
theorem cr_nu1 {X : ev_X} {c0 n z : Nat} {F0 : Nat → Option va_E} {t : List Nat} {s fp : Int32} {bd tl l : List Nat} {kr : Nat} {v : Int64} {F : Nat → Option va_E} (hC : CR c0 F0 t s v 0 bd tl 0 fp F) (hr : crw t bd kr l) {st : Nat} (hst : st ≤ l.length) : Ex X m_Reader_readNumber 17 [.ref (c0 + 8), .ref (c0 + kr), .int (nI st), ev_dead, ev_dead] [] (hp c0 n z F) (rP c0 n z F0 t (sNu1 l st v) (fun x F1 => CR c0 F0 t x.1 x.2.1 (nI x.2.2) bd tl 0 fp F1)) := by
  have hl := crw.le hC hr
  refine Ex.nx rfl ?_
  refine Ex.nx rfl ?_
  refine Ex.nx rfl ?_
  refine Ex.nx rfl ?_
  refine CR.rd hC rfl rfl rfl rfl (cr_digits (st := st) (mo := 18) (by omega) (by omega) hC hr) ?_
  obtain ⟨g1, g2, g3⟩ := sD_le l st 18 (l.length - st) st v (by omega) (by omega)
  generalize ho1 : sD l st 18 (l.length - st) st v = o at g1 g2 g3 ⊢
  obtain ⟨b9, y9, v9⟩ := o
  dsimp only at g1 g2 g3
  cases b9
  · rintro v h1 ⟨rfl, F9, rfl, hE⟩
    show Ex X m_Reader_readNumber 25 [.ref (c0 + 8), .ref (c0 + kr), .int (nI st), ev_dead, ev_dead] [.int (-1)] (hp c0 n _ _) _
    refine Ex.nx rfl ?_
    show Ex X m_Reader_readNumber 26 [.ref (c0 + 8), .ref (c0 + kr), .int (nI st), .int (-1), ev_dead] [] (hp c0 n _ _) _
    refine Ex.nx rfl ?_
    refine Ex.nx rfl ?_
    refine Ex.nx rfl ?_
    show Ex X m_Reader_readNumber 31 [.ref (c0 + 8), .ref (c0 + kr), .int (nI st), .int (-1), ev_dead] [] (hp c0 n _ _) _
    refine Ex.nx rfl ?_
    exact Ex.ret rfl (ev_reti rfl) (rP_f (b := (0, 0, 0)) (by rw [sNu1, ho1]; rfl) hE)
  rintro v h1 ⟨rfl, F9, rfl, hC9⟩
  dsimp only at hC9
  show Ex X m_Reader_readNumber 25 [.ref (c0 + 8), .ref (c0 + kr), .int (nI st), ev_dead, ev_dead] [.int (nI y9)] (hp c0 n _ _) _
  refine Ex.nx rfl ?_
  show Ex X m_Reader_readNumber 26 [.ref (c0 + 8), .ref (c0 + kr), .int (nI st), .int (nI y9), ev_dead] [] (hp c0 n _ _) _
  refine Ex.nx rfl ?_
  refine Ex.nx rfl ?_
  refine Ex.nx rfl ?_
  refine Ex.ite (fun c1 => ?_) (fun c1 => ?_)
  · replace c1 : ¬ (nI y9) = (-1) := of_decide_eq_true c1
    skip
    show Ex X m_Reader_readNumber 33 [.ref (c0 + 8), .ref (c0 + kr), .int (nI st), .int (nI y9), ev_dead] [] (hp c0 n _ _) _
    refine Ex.nx rfl ?_
    refine Ex.nx rfl ?_
    refine CR.at (i := y9) (A0 := []) hC9 hr (by omega) rfl rfl rfl ?_
    show Ex X m_Reader_readNumber 38 [.ref (c0 + 8), .ref (c0 + kr), .int (nI st), .int (nI y9), ev_dead] [.int (hb l y9)] (hp c0 n _ _) _
    refine Ex.nx rfl ?_
    refine Ex.nx rfl ?_
    refine Ex.ite (fun c2 => ?_) (fun c2 => ?_)
    · replace c2 : (hb l y9) = 46 := of_decide_eq_true c2
      show Ex X m_Reader_readNumber 67 [.ref (c0 + 8), .ref (c0 + kr), .int (nI st), .int (nI y9), ev_dead] [] (hp c0 n _ _) _
      show Ex X m_Reader_readNumber 67 [.ref (c0 + 8), .ref (c0 + kr), .int (nI st), .int (nI y9), ev_dead] [] (hp c0 n _ _) _
      have h46 := hb_in (t := l) (q := y9) (by rw [c2]; decide)
      rw [show sNu1 l st v = sNu2 l st y9 v9 by simp [sNu1, ho1, c2]]
      exact cr_nu2 hC9 hr _ (by omega) h46 (by omega)
    · replace c2 : ¬ (hb l y9) = 46 := of_decide_eq_false c2
      show Ex X m_Reader_readNumber 43 [.ref (c0 + 8), .ref (c0 + kr), .int (nI st), .int (nI y9), ev_dead] [] (hp c0 n _ _) _
      refine Ex.nx rfl ?_
      refine Hx.get 8 rfl hC9.r8 rfl ?_
      refine Ex.nx rfl ?_
      refine CR.ps hC9 rfl ?_
      intro F10 hC10
      show Ex X m_Reader_readNumber 51 [.ref (c0 + 8), .ref (c0 + kr), .int (nI st), .int (nI y9), ev_dead] [] (hp c0 n _ _) _
      refine Ex.nx rfl ?_
      refine Ex.nx rfl ?_
      refine Ex.nx rfl ?_
      refine Ex.ite (fun c3 => ?_) (fun c3 => ?_)
      · replace c3 : ¬ (nI y9) = (nI st) := of_decide_eq_true c3
        have dq : ¬ y9 = st := fun e => c3 (by rw [e])
        show Ex X m_Reader_readNumber 65 [.ref (c0 + 8), .ref (c0 + kr), .int (nI st), .int (nI y9), ev_dead] [] (hp c0 n _ _) _
        refine Ex.nx rfl ?_
        exact Ex.ret rfl (ev_reti rfl) (rP_t (b := (3, v9, 0)) (by simp [sNu1, ho1, c2, dq]) hC10)
      · replace c3 : (nI y9) = (nI st) := Classical.not_not.mp (of_decide_eq_false c3)
        have dq : y9 = st := (nI_eq (by omega) (by omega)).mp c3
        show Ex X m_Reader_readNumber 56 [.ref (c0 + 8), .ref (c0 + kr), .int (nI st), .int (nI y9), ev_dead] [] (hp c0 n _ _) _
        refine Ex.nx rfl ?_
        refine Ex.nx rfl ?_
        refine Ex.nx rfl ?_
        refine CR.rd hC10 rfl rfl rfl rfl (cr_lacking (i := y9) hC10 hr (by omega)) ?_
        rintro v h1 ⟨rfl, F11, rfl, hC11⟩
        show Ex X m_Reader_readNumber 62 [.ref (c0 + 8), .ref (c0 + kr), .int (nI st), .int (nI y9), ev_dead] [.int (-1)] (hp c0 n _ _) _
        refine Ex.nx rfl ?_
        exact Ex.ret rfl (ev_reti rfl) (rP_f (b := (0, 0, 0)) (by unfold sNu1; simp only [ho1]; rw [if_neg (by decide), if_neg c2, if_pos dq]) ⟨_, _, _, _, _, _, lk_ne, hC11⟩)
  · replace c1 : (nI y9) = (-1) := Classical.not_not.mp (of_decide_eq_false c1)
    exact absurd (show (nI y9 = -1) from c1) (nI_nm1 (by omega))
theorem sgn_ne {x : Int32} (h : (decide (x = 43) || decide (x = 45)) = true) : x ≠ -1 := fun e => by rw [e] at h; exact absurd h (by decide)
set_option maxRecDepth 100000 in
set_option maxHeartbeats 2000000 in
theorem cr_number {X : ev_X} {c0 n z : Nat} {F0 : Nat → Option va_E} {t : List Nat} {s fp : Int32} {bd tl l : List Nat} {kr : Nat} {v : Int64} {F : Nat → Option va_E} (hC : CR c0 F0 t s v 0 bd tl 0 fp F) (hr : crw t bd kr l) : Ex X m_Reader_readNumber 0 [.ref (c0 + 8), .ref (c0 + kr), ev_dead, ev_dead, ev_dead] [] (hp c0 n z F) (rP c0 n z F0 t (sNu1 l (sgn0 l) v) (fun x F1 => CR c0 F0 t x.1 x.2.1 (nI x.2.2) bd tl 0 fp F1)) := by
  have hl := crw.le hC hr
  refine Ex.nx rfl ?_
  refine Ex.nx rfl ?_
  refine CR.at (i := 0) (A0 := []) hC hr (by omega) rfl rfl rfl ?_
  show Ex X m_Reader_readNumber 5 [.ref (c0 + 8), .ref (c0 + kr), ev_dead, ev_dead, ev_dead] [.int (hb l 0)] (hp c0 n _ _) _
  refine Hx.calls rfl rfl rfl rfl (sx_Reader_isSign X (hb l 0)) (fun v hv => ?_)
  subst hv
  show Ex X m_Reader_readNumber 8 [.ref (c0 + 8), .ref (c0 + kr), ev_dead, ev_dead, ev_dead] [.int (bi (decide ((hb l 0) = 43) || decide ((hb l 0) = 45)))] (hp c0 n _ _) _
  refine Ex.nx rfl ?_
  refine Ex.ite (fun c1 => ?_) (fun c1 => ?_)
  · replace c1 : (decide ((hb l 0) = 43) || decide ((hb l 0) = 45)) = false := bi_eqt c1
    show Ex X m_Reader_readNumber 15 [.ref (c0 + 8), .ref (c0 + kr), ev_dead, ev_dead, ev_dead] [] (hp c0 n _ _) _
    refine Ex.nx rfl ?_
    refine Ex.nx rfl ?_
    show Ex X m_Reader_readNumber 17 [.ref (c0 + 8), .ref (c0 + kr), .int 0, ev_dead, ev_dead] [] (hp c0 n _ _) _
    show Ex X m_Reader_readNumber 17 [.ref (c0 + 8), .ref (c0 + kr), .int 0, ev_dead, ev_dead] [] (hp c0 n _ _) _
    rw [show sgn0 l = 0 from if_neg (by rw [c1]; decide)]
    exact cr_nu1 hC hr (st := 0) (Nat.zero_le _)
  · replace c1 : (decide ((hb l 0) = 43) || decide ((hb l 0) = 45)) = true := bi_eqf c1
    show Ex X m_Reader_readNumber 11 [.ref (c0 + 8), .ref (c0 + kr), ev_dead, ev_dead, ev_dead] [] (hp c0 n _ _) _
    refine Ex.nx rfl ?_
    refine Ex.nx rfl ?_
    refine Ex.nx rfl ?_
    show Ex X m_Reader_readNumber 17 [.ref (c0 + 8), .ref (c0 + kr), .int 1, ev_dead, ev_dead] [] (hp c0 n _ _) _
    show Ex X m_Reader_readNumber 17 [.ref (c0 + 8), .ref (c0 + kr), .int 1, ev_dead, ev_dead] [] (hp c0 n _ _) _
    rw [show sgn0 l = 1 from if_pos c1]
    exact cr_nu1 hC hr (st := 1) (by have := hb_in (t := l) (q := 0) (sgn_ne c1); omega)
/-- a truth's word k from j on: where it fails -/
def sTl (l : List Nat) (k : Nat) : Nat → Nat → Option Nat
  | 0, _ => none
  | m + 1, j => if hb l j = nI (wch k j) then sTl l k m (j + 1) else some j
def sTr (l : List Nat) (k : Nat) (tv : Int32) : Bool × Nat × Int32 × Int64 × Nat := match sTl l k (wlen k - 1) 1 with
  | some j => (false, j, 0, 0, 0)
  | none => if isW (hb l (wlen k)) = true then (false, wlen k, 0, 0, 0) else (true, wlen k, 8, tv.toInt64, 0)
set_option maxRecDepth 100000 in
set_option maxHeartbeats 2000000 in
theorem cr_tr_e {X : ev_X} {c0 n z : Nat} (hS : XS X c0) {F0 : Nat → Option va_E} {t : List Nat} {k : Nat} (hk : k < 12) (tv : Int32) {s fp : Int32} {bd tl l : List Nat} {kr : Nat} {v : Int64} {F : Nat → Option va_E} (hC : CR c0 F0 t s v 0 bd tl 0 fp F) (hr : crw t bd kr l) (jv : Value) : Ex X m_Reader_readTruth 41 [.ref (c0 + 8), .ref (c0 + kr), .ref (X.2.1 k), .int tv, jv] [] (hp c0 n z F) (rP c0 n z F0 t (if isW (hb l (wlen k)) = true then (false, wlen k, 0, 0, 0) else (true, wlen k, 8, tv.toInt64, 0)) (fun x F1 => CR c0 F0 t x.1 x.2.1 (nI x.2.2) bd tl 0 fp F1)) := by
  have hw := wlen_all k hk
  refine Ex.nx rfl ?_
  refine Hx.scl hS hk lo_hp rfl rfl rfl rfl (hs_length hS lo_hp hk) ?_
  rintro v h1 ⟨rfl, rfl⟩
  show Ex X m_Reader_readTruth 45 [.ref (c0 + 8), .ref (c0 + kr), .ref (X.2.1 k), .int tv, jv] [.int (nI (wlen k))] (hp c0 n _ _) _
  refine Ex.nx rfl ?_
  show Ex X m_Reader_readTruth 47 [.ref (c0 + 8), .ref (c0 + kr), .ref (X.2.1 k), .int tv, .int (nI (wlen k))] [] (hp c0 n _ _) _
  refine Ex.nx rfl ?_
  refine Ex.nx rfl ?_
  refine CR.at (i := (wlen k)) (A0 := []) hC hr (by omega) rfl rfl rfl ?_
  show Ex X m_Reader_readTruth 53 [.ref (c0 + 8), .ref (c0 + kr), .ref (X.2.1 k), .int tv, .int (nI (wlen k))] [.int (hb l (wlen k))] (hp c0 n _ _) _
  refine Hx.calls rfl rfl rfl rfl (sx_Reader_isW X (hb l (wlen k))) (fun v hv => ?_)
  subst hv
  show Ex X m_Reader_readTruth 56 [.ref (c0 + 8), .ref (c0 + kr), .ref (X.2.1 k), .int tv, .int (nI (wlen k))] [.int (bi (isW (hb l (wlen k))))] (hp c0 n _ _) _
  refine Ex.nx rfl ?_
  refine Ex.ite (fun c1 => ?_) (fun c1 => ?_)
  · replace c1 : (isW (hb l (wlen k))) = false := bi_eqt c1
    show Ex X m_Reader_readTruth 67 [.ref (c0 + 8), .ref (c0 + kr), .ref (X.2.1 k), .int tv, .int (nI (wlen k))] [] (hp c0 n _ _) _
    refine Ex.nx rfl ?_
    refine Hx.get 8 rfl hC.r8 rfl ?_
    refine Ex.nx rfl ?_
    refine CR.ps hC rfl ?_
    intro F12 hC12
    show Ex X m_Reader_readTruth 76 [.ref (c0 + 8), .ref (c0 + kr), .ref (X.2.1 k), .int tv, .int (nI (wlen k))] [] (hp c0 n _ _) _
    refine Ex.nx rfl ?_
    refine Hx.get 8 rfl hC12.r8 rfl ?_
    refine Ex.nx rfl ?_
    refine Ex.nx rfl ?_
    refine CR.pn hC12 rfl ?_
    intro F13 hC13
    show Ex X m_Reader_readTruth 85 [.ref (c0 + 8), .ref (c0 + kr), .ref (X.2.1 k), .int tv, .int (nI (wlen k))] [] (hp c0 n _ _) _
    refine Ex.nx rfl ?_
    exact Ex.ret rfl (ev_reti rfl) (rP_t (b := (8, tv.toInt64, 0)) (show (if isW (hb l (wlen k)) = true then (false, wlen k, 0, 0, 0) else (true, wlen k, 8, tv.toInt64, 0)) = _ from if_neg (by rw [c1]; decide)) hC13)
  · replace c1 : (isW (hb l (wlen k))) = true := bi_eqf c1
    show Ex X m_Reader_readTruth 59 [.ref (c0 + 8), .ref (c0 + kr), .ref (X.2.1 k), .int tv, .int (nI (wlen k))] [] (hp c0 n _ _) _
    refine Ex.nx rfl ?_
    refine Ex.nx rfl ?_
    refine Ex.nx rfl ?_
    refine CR.rd hC rfl rfl rfl rfl (cr_fail hC 3 (nI (wlen k))) ?_
    rintro v h1 ⟨rfl, F14, rfl, hC14⟩
    show Ex X m_Reader_readTruth 66 [.ref (c0 + 8), .ref (c0 + kr), .ref (X.2.1 k), .int tv, .int (nI (wlen k))] [.int (-1)] (hp c0 n _ _) _
    exact Ex.ret rfl (ev_reti rfl) (rP_f (b := (0, 0, 0)) (show (if isW (hb l (wlen k)) = true then (false, wlen k, 0, 0, 0) else (true, wlen k, 8, tv.toInt64, 0)) = _ from if_pos c1) ⟨_, _, _, _, _, _, (by decide), hC14⟩)
set_option maxRecDepth 100000 in
set_option maxHeartbeats 2000000 in
theorem cr_tr_l {X : ev_X} {c0 n z : Nat} (hS : XS X c0) {F0 : Nat → Option va_E} {t : List Nat} {k : Nat} (hk : k < 12) (tv : Int32) {s fp : Int32} {bd tl l : List Nat} {kr : Nat} {v : Int64} {F : Nat → Option va_E} (hC : CR c0 F0 t s v 0 bd tl 0 fp F) (hr : crw t bd kr l) : ∀ (m j : Nat) (hm : j + m = wlen k), Ex X m_Reader_readTruth 3 [.ref (c0 + 8), .ref (c0 + kr), .ref (X.2.1 k), .int tv, .int (nI j)] [] (hp c0 n z F) (rP c0 n z F0 t ((match sTl l k m j with | some j => (false, j, 0, 0, 0) | none => if isW (hb l (wlen k)) = true then (false, wlen k, 0, 0, 0) else (true, wlen k, 8, tv.toInt64, 0)) : Bool × Nat × Int32 × Int64 × Nat) (fun x F1 => CR c0 F0 t x.1 x.2.1 (nI x.2.2) bd tl 0 fp F1)) := by
  have hw := wlen_all k hk
  have hl := crw.le hC hr
  intro m
  induction m with
  | zero =>
    intro j hm
    refine Ex.nx rfl ?_
    refine Ex.nx rfl ?_
    refine Hx.scl hS hk lo_hp rfl rfl rfl rfl (hs_length hS lo_hp hk) ?_
    rintro v h1 ⟨rfl, rfl⟩
    show Ex X m_Reader_readTruth 9 [.ref (c0 + 8), .ref (c0 + kr), .ref (X.2.1 k), .int tv, .int (nI j)] [.int (nI (wlen k)), .int (nI j)] (hp c0 n _ _) _
    refine Ex.nx rfl ?_
    refine Ex.ite (fun c1 => ?_) (fun c1 => ?_)
    · replace c1 : (nI (wlen k)) ≤ (nI j) := of_decide_eq_true c1
      show Ex X m_Reader_readTruth 41 [.ref (c0 + 8), .ref (c0 + kr), .ref (X.2.1 k), .int tv, .int (nI j)] [] (hp c0 n _ _) _
      show Ex X m_Reader_readTruth 41 [.ref (c0 + 8), .ref (c0 + kr), .ref (X.2.1 k), .int tv, .int (nI j)] [] (hp c0 n _ _) _
      exact cr_tr_e hS hk tv hC hr _
    · replace c1 : ¬ (nI (wlen k)) ≤ (nI j) := of_decide_eq_false c1
      exact absurd (show nI (wlen k) ≤ nI j by rw [show j = wlen k by omega]; exact Int32.le_refl _) c1
  | succ m ih =>
    intro j hm
    refine Ex.nx rfl ?_
    refine Ex.nx rfl ?_
    refine Hx.scl hS hk lo_hp rfl rfl rfl rfl (hs_length hS lo_hp hk) ?_
    rintro v h1 ⟨rfl, rfl⟩
    show Ex X m_Reader_readTruth 9 [.ref (c0 + 8), .ref (c0 + kr), .ref (X.2.1 k), .int tv, .int (nI j)] [.int (nI (wlen k)), .int (nI j)] (hp c0 n _ _) _
    refine Ex.nx rfl ?_
    refine Ex.ite (fun c1 => ?_) (fun c1 => ?_)
    · replace c1 : (nI (wlen k)) ≤ (nI j) := of_decide_eq_true c1
      exact absurd ((nI_leI (by omega) (by omega)).mp c1) (by omega)
    · replace c1 : ¬ (nI (wlen k)) ≤ (nI j) := of_decide_eq_false c1
      show Ex X m_Reader_readTruth 12 [.ref (c0 + 8), .ref (c0 + kr), .ref (X.2.1 k), .int tv, .int (nI j)] [] (hp c0 n _ _) _
      refine Ex.nx rfl ?_
      refine Ex.nx rfl ?_
      refine CR.at (i := j) (A0 := []) hC hr (by omega) rfl rfl rfl ?_
      show Ex X m_Reader_readTruth 18 [.ref (c0 + 8), .ref (c0 + kr), .ref (X.2.1 k), .int tv, .int (nI j)] [.int (hb l j)] (hp c0 n _ _) _
      refine Ex.nx rfl ?_
      refine Ex.nx rfl ?_
      refine Hx.scl hS hk lo_hp rfl rfl rfl rfl (hs_char hS lo_hp hk (j := j) (by omega)) ?_
      rintro v h1 ⟨rfl, rfl⟩
      show Ex X m_Reader_readTruth 24 [.ref (c0 + 8), .ref (c0 + kr), .ref (X.2.1 k), .int tv, .int (nI j)] [.int (nI (wch k j)), .int (hb l j)] (hp c0 n _ _) _
      refine Ex.nx rfl ?_
      refine Ex.ite (fun c2 => ?_) (fun c2 => ?_)
      · replace c2 : (hb l j) = (nI (wch k j)) := of_decide_eq_true c2
        show Ex X m_Reader_readTruth 35 [.ref (c0 + 8), .ref (c0 + kr), .ref (X.2.1 k), .int tv, .int (nI j)] [] (hp c0 n _ _) _
        refine Ex.nx rfl ?_
        show Ex X m_Reader_readTruth 38 [.ref (c0 + 8), .ref (c0 + kr), .ref (X.2.1 k), .int tv, .int ((nI j) + 1)] [] (hp c0 n _ _) _
        refine Ex.nx rfl ?_
        show Ex X m_Reader_readTruth 3 [.ref (c0 + 8), .ref (c0 + kr), .ref (X.2.1 k), .int tv, .int ((nI j) + 1)] [] (hp c0 n _ _) _
        rw [show nI j + 1 = nI (j + 1) from nI_1 j, show sTl l k (m + 1) j = sTl l k m (j + 1) from if_pos c2]
        exact ih (j + 1) (by omega)
      · replace c2 : ¬ (hb l j) = (nI (wch k j)) := of_decide_eq_false c2
        show Ex X m_Reader_readTruth 27 [.ref (c0 + 8), .ref (c0 + kr), .ref (X.2.1 k), .int tv, .int (nI j)] [] (hp c0 n _ _) _
        refine Ex.nx rfl ?_
        refine Ex.nx rfl ?_
        refine Ex.nx rfl ?_
        refine CR.rd hC rfl rfl rfl rfl (cr_lacking (i := j) hC hr (by omega)) ?_
        rintro v h1 ⟨rfl, F15, rfl, hC15⟩
        show Ex X m_Reader_readTruth 34 [.ref (c0 + 8), .ref (c0 + kr), .ref (X.2.1 k), .int tv, .int (nI j)] [.int (-1)] (hp c0 n _ _) _
        exact Ex.ret rfl (ev_reti rfl) (rP_f (q := j) (b := (0, 0, 0)) (by rw [show sTl l k (m + 1) j = some j from if_neg c2]) ⟨_, _, _, _, _, _, lk_ne, hC15⟩)
set_option maxRecDepth 100000 in
set_option maxHeartbeats 2000000 in
theorem cr_truth {X : ev_X} {c0 n z : Nat} (hS : XS X c0) {F0 : Nat → Option va_E} {t : List Nat} {k : Nat} (hk : k < 12) (tv : Int32) {s fp : Int32} {bd tl l : List Nat} {kr : Nat} {v : Int64} {F : Nat → Option va_E} (hC : CR c0 F0 t s v 0 bd tl 0 fp F) (hr : crw t bd kr l) (h1k : 1 ≤ wlen k) : Ex X m_Reader_readTruth 0 [.ref (c0 + 8), .ref (c0 + kr), .ref (X.2.1 k), .int tv, ev_dead] [] (hp c0 n z F) (rP c0 n z F0 t (sTr l k tv) (fun x F1 => CR c0 F0 t x.1 x.2.1 (nI x.2.2) bd tl 0 fp F1)) := by
  refine Ex.nx rfl ?_
  refine Ex.nx rfl ?_
  show Ex X m_Reader_readTruth 3 [.ref (c0 + 8), .ref (c0 + kr), .ref (X.2.1 k), .int tv, .int 1] [] (hp c0 n _ _) _
  show Ex X m_Reader_readTruth 3 [.ref (c0 + 8), .ref (c0 + kr), .ref (X.2.1 k), .int tv, .int 1] [] (hp c0 n _ _) _
  exact cr_tr_l hS hk tv hC hr (wlen k - 1) 1 (by omega)
end
section
/-! The class reads numbers and truths, told apart. (rows laid by wip/whole/cr4.py) -/
theorem sI_le (t : List Nat) : ∀ (m q : Nat) (acc : List Nat), q ≤ t.length → (sI t m q acc).2.1 ≤ t.length := by
  intro m
  induction m with
  | zero => intro q acc h; exact Nat.le_refl _
  | succ m ih =>
    intro q acc h
    rw [sI]
    repeat' split
    all_goals (try (show _ ≤ t.length))
    all_goals first | exact Nat.le_refl _ | (dsimp only; omega) | exact ih _ _ (by omega) | (exact ih _ _ (by have := esc_in (t := t) (q := q + 1) (by assumption); omega))
theorem sT_le (t : List Nat) : ∀ (m q run : Nat) (fs : Bool) (acc : List Nat), q + m = t.length → (sT t m q run fs acc).2.1 ≤ t.length := by
  intro m
  induction m with
  | zero => intro q run fs acc h; rw [sT]; split <;> exact Nat.le_refl _
  | succ m ih =>
    intro q run fs acc h
    rw [sT]
    repeat' split
    all_goals first | (dsimp only; omega) | exact ih _ _ _ _ (by omega)
theorem sNm_le (t : List Nat) : ∀ (m q : Nat) (acc : List Nat), q + m = t.length → (sNm t m q acc).2.1 ≤ t.length := by
  intro m
  induction m with
  | zero => intro q acc h; exact Nat.le_refl _
  | succ m ih =>
    intro q acc h
    rw [sNm]
    repeat' split
    all_goals first | (dsimp only; omega) | exact ih _ _ (by omega)
theorem sNa_le (t : List Nat) (q : Nat) (h : q ≤ 400) (ht : t.length ≤ 240) : (sNa t q).2.1 ≤ 400 := by
  unfold sNa
  split
  · next e => have := hb_in (t := t) (q := q) (by rw [e]; decide); have := sNm_le t (t.length - (q + 1)) (q + 1) [] (by omega); omega
  · exact h
theorem sB_le (t : List Nat) : ∀ (m q : Nat) (acc : List Nat), (sB t m q acc).2.1 ≤ q + m := by
  intro m
  induction m with
  | zero => intro q acc; exact Nat.le_refl _
  | succ m ih =>
    intro q acc
    rw [sB]
    repeat' split
    all_goals first | (dsimp only; omega) | (have := ih (q + 1) (acc ++ [t.getD q 0]); omega)
theorem sBk_le (t : List Nat) (ht : t.length ≤ 240) : (sBk t).2.1 ≤ 400 := by
  unfold sBk bkF
  have := sB_le t (t.length - 2) 2 []
  split
  · split
    · show (sB t (t.length - 2) 2 []).2.1 ≤ 400; omega
    · omega
  · decide
theorem sNu2_le (l : List Nat) (st q1 : Nat) (v : Int64) (h1 : q1 < l.length) (hl : l.length ≤ 240) (h3 : q1 - st ≤ 18) : (sNu2 l st q1 v).2.1 ≤ 400 := by
  obtain ⟨-, g2, -⟩ := sD_le l (q1 + 1) (18 - (q1 - st)) (l.length - (q1 + 1)) (q1 + 1) v (by omega) (by omega)
  unfold sNu2
  dsimp only
  repeat' split
  all_goals first | (dsimp only; omega) | decide
theorem sNu1_le (l : List Nat) (st : Nat) (v : Int64) (hst : st ≤ l.length) (hl : l.length ≤ 240) : (sNu1 l st v).2.1 ≤ 400 := by
  obtain ⟨-, g2, g3⟩ := sD_le l st 18 (l.length - st) st v (by omega) (by omega)
  unfold sNu1
  dsimp only
  split
  · dsimp only; omega
  · split
    · next e => exact sNu2_le _ _ _ _ (hb_in (by rw [e]; decide)) hl g3
    · split <;> (dsimp only; omega)
theorem sTl_le (l : List Nat) (k : Nat) : ∀ (m j : Nat) (x : Nat), sTl l k m j = some x → x ≤ j + m := by
  intro m
  induction m with
  | zero => intro j x h; cases h
  | succ m ih =>
    intro j x h
    rw [sTl] at h
    split at h
    · have := ih _ _ h; omega
    · cases h; omega
theorem sTr_le (l : List Nat) {k : Nat} (tv : Int32) (hk : k < 12) : (sTr l k tv).2.1 ≤ 400 := by
  have hw := wlen_all k hk
  unfold sTr
  split
  · next j e => have := sTl_le l k _ _ _ e; show j ≤ 400; omega
  · split <;> (dsimp only; omega)
/-- a number or truth -/
def sP (l : List Nat) : Bool × Nat × Int32 × Int64 × Nat := if hb l 0 = 116 then sTr l 0 1 else if hb l 0 = 102 then sTr l 1 0 else if (!(decide (hb l 0 = 43) || decide (hb l 0 = 45)) && !isD (hb l 0) && !decide (hb l 0 = 46)) = true then (false, 0, 0, 0, 0) else if hb l 0 = 45 then ((sNu1 l (sgn0 l) 0).1, (sNu1 l (sgn0 l) 0).2.1, (sNu1 l (sgn0 l) 0).2.2.1, -(sNu1 l (sgn0 l) 0).2.2.2.1, (sNu1 l (sgn0 l) 0).2.2.2.2) else sNu1 l (sgn0 l) 0
theorem sP_le (l : List Nat) (hl : l.length ≤ 240) : (sP l).2.1 ≤ 400 := by
  have hs : sgn0 l ≤ l.length := by
    unfold sgn0
    split
    · next e => have := hb_in (t := l) (q := 0) (sgn_ne e); omega
    · exact Nat.zero_le _
  have h1 := sNu1_le l (sgn0 l) 0 hs hl
  unfold sP
  repeat' split
  all_goals first | exact sTr_le l _ (by decide) | exact h1 | (dsimp only; omega) | decide
/-- a tail call -/
theorem rP_ret {α : Type} {X : ev_X} {c0 n z M pc nx a b w : Nat} {A : List Value} {F0 : Nat → Option va_E} {t : List Nat} {o : Bool × Nat × α} {G : α → (Nat → Option va_E) → Prop} {v : Option Value} {h : ev_H} (op : pg_ops M pc = some (.ireturn, nx, a, b, w)) (hr : pg_r M = some .int) (hq : rP c0 n z F0 t o G v h) : Ex X M pc A (v.toList ++ []) h (rP c0 n z F0 t o G) := by
  unfold rP at hq ⊢
  split at hq
  · next e => obtain ⟨rfl, h2⟩ := hq; exact Ex.ret op (ev_reti hr) (by rw [if_pos e]; exact ⟨rfl, h2⟩)
  · next e => obtain ⟨rfl, h2⟩ := hq; exact Ex.ret op (ev_reti hr) (by rw [if_neg e]; exact ⟨rfl, h2⟩)
set_option maxRecDepth 100000 in
set_option maxHeartbeats 2000000 in
theorem cr_plain {X : ev_X} {c0 n z : Nat} (hS : XS X c0) {F0 : Nat → Option va_E} {t : List Nat} {s fp : Int32} {bd tl l : List Nat} {kr : Nat} {F : Nat → Option va_E} (hC : CR c0 F0 t s 0 0 bd tl 0 fp F) (hr : crw t bd kr l) : Ex X m_Reader_readPlain 0 [.ref (c0 + 8), .ref (c0 + kr), ev_dead, ev_dead] [] (hp c0 n z F) (rP c0 n z F0 t (sP l) (fun x F1 => CR c0 F0 t x.1 x.2.1 (nI x.2.2) bd tl 0 fp F1)) := by
  refine Ex.nx rfl ?_
  refine Ex.nx rfl ?_
  refine CR.at (i := 0) (A0 := []) hC hr (by omega) rfl rfl rfl ?_
  show Ex X m_Reader_readPlain 5 [.ref (c0 + 8), .ref (c0 + kr), ev_dead, ev_dead] [.int (hb l 0)] (hp c0 n _ _) _
  refine Ex.nx rfl ?_
  show Ex X m_Reader_readPlain 6 [.ref (c0 + 8), .ref (c0 + kr), .int (hb l 0), ev_dead] [] (hp c0 n _ _) _
  refine Ex.nx rfl ?_
  refine Ex.nx rfl ?_
  refine Ex.nx rfl ?_
  refine Ex.ite (fun c1 => ?_) (fun c1 => ?_)
  · replace c1 : ¬ (hb l 0) = 116 := of_decide_eq_true c1
    show Ex X m_Reader_readPlain 21 [.ref (c0 + 8), .ref (c0 + kr), .int (hb l 0), ev_dead] [] (hp c0 n _ _) _
    refine Ex.nx rfl ?_
    refine Ex.nx rfl ?_
    refine Ex.nx rfl ?_
    refine Ex.ite (fun c2 => ?_) (fun c2 => ?_)
    · replace c2 : ¬ (hb l 0) = 102 := of_decide_eq_true c2
      show Ex X m_Reader_readPlain 36 [.ref (c0 + 8), .ref (c0 + kr), .int (hb l 0), ev_dead] [] (hp c0 n _ _) _
      refine Ex.nx rfl ?_
      refine Hx.calls rfl rfl rfl rfl (sx_Reader_isSign X (hb l 0)) (fun v hv => ?_)
      subst hv
      show Ex X m_Reader_readPlain 40 [.ref (c0 + 8), .ref (c0 + kr), .int (hb l 0), ev_dead] [.int (bi (decide ((hb l 0) = 43) || decide ((hb l 0) = 45)))] (hp c0 n _ _) _
      refine Ex.nx rfl ?_
      refine Ex.ite (fun c3 => ?_) (fun c3 => ?_)
      · replace c3 : (decide ((hb l 0) = 43) || decide ((hb l 0) = 45)) = true := bi_net c3
        show Ex X m_Reader_readPlain 63 [.ref (c0 + 8), .ref (c0 + kr), .int (hb l 0), ev_dead] [] (hp c0 n _ _) _
        refine Ex.nx rfl ?_
        refine Ex.nx rfl ?_
        refine CR.rd hC rfl rfl rfl rfl (cr_number hC hr) ?_
        generalize ho : sNu1 l (sgn0 l) 0 = o
        obtain ⟨b1, y1, x1, v1, pn1⟩ := o
        cases b1
        · rintro v h1 ⟨rfl, F1, rfl, ⟨s1, nu1, p1, bd1, tl1, ft1, hft, hC1⟩⟩
          dsimp only at hC1
          show Ex X m_Reader_readPlain 68 [.ref (c0 + 8), .ref (c0 + kr), .int (hb l 0), ev_dead] [.int (-1)] (hp c0 n _ _) _
          refine Ex.nx rfl ?_
          show Ex X m_Reader_readPlain 69 [.ref (c0 + 8), .ref (c0 + kr), .int (hb l 0), .int (-1)] [] (hp c0 n _ _) _
          refine Ex.nx rfl ?_
          refine Ex.nx rfl ?_
          refine Ex.nx rfl ?_
          refine Ex.ite (fun c4 => ?_) (fun c4 => ?_)
          · replace c4 : ¬ (hb l 0) = 45 := of_decide_eq_true c4
            show Ex X m_Reader_readPlain 90 [.ref (c0 + 8), .ref (c0 + kr), .int (hb l 0), .int (-1)] [] (hp c0 n _ _) _
            refine Ex.nx rfl ?_
            exact Ex.ret rfl (ev_reti rfl) (rP_f (q := y1) (b := (x1, v1, pn1)) (by unfold sP; rw [if_neg c1, if_neg c2, if_neg (by simp [c3]), if_neg c4, ho]) ⟨_, _, _, _, _, _, hft, hC1⟩)
          · replace c4 : (hb l 0) = 45 := Classical.not_not.mp (of_decide_eq_false c4)
            show Ex X m_Reader_readPlain 75 [.ref (c0 + 8), .ref (c0 + kr), .int (hb l 0), .int (-1)] [] (hp c0 n _ _) _
            refine Ex.nx rfl ?_
            refine Hx.get 8 rfl hC1.r8 rfl ?_
            refine Ex.nx rfl ?_
            refine Hx.get 8 rfl hC1.r8 rfl ?_
            refine Hx.get 3 rfl hC1.r3 rfl ?_
            refine Ex.nx rfl ?_
            refine CR.pn hC1 rfl ?_
            intro F2 hC2
            show Ex X m_Reader_readPlain 90 [.ref (c0 + 8), .ref (c0 + kr), .int (hb l 0), .int (-1)] [] (hp c0 n _ _) _
            refine Ex.nx rfl ?_
            exact Ex.ret rfl (ev_reti rfl) (rP_f (q := y1) (b := (x1, -v1, pn1)) (by unfold sP; rw [if_neg c1, if_neg c2, if_neg (by simp [c3]), if_pos c4, ho]) ⟨_, _, _, _, _, _, hft, hC2⟩)
        rintro v h1 ⟨rfl, F1, rfl, hC1⟩
        dsimp only at hC1
        show Ex X m_Reader_readPlain 68 [.ref (c0 + 8), .ref (c0 + kr), .int (hb l 0), ev_dead] [.int (nI y1)] (hp c0 n _ _) _
        refine Ex.nx rfl ?_
        show Ex X m_Reader_readPlain 69 [.ref (c0 + 8), .ref (c0 + kr), .int (hb l 0), .int (nI y1)] [] (hp c0 n _ _) _
        refine Ex.nx rfl ?_
        refine Ex.nx rfl ?_
        refine Ex.nx rfl ?_
        refine Ex.ite (fun c5 => ?_) (fun c5 => ?_)
        · replace c5 : ¬ (hb l 0) = 45 := of_decide_eq_true c5
          show Ex X m_Reader_readPlain 90 [.ref (c0 + 8), .ref (c0 + kr), .int (hb l 0), .int (nI y1)] [] (hp c0 n _ _) _
          refine Ex.nx rfl ?_
          exact Ex.ret rfl (ev_reti rfl) (rP_t (b := (x1, v1, pn1)) (by unfold sP; rw [if_neg c1, if_neg c2, if_neg (by simp [c3]), if_neg c5, ho]) hC1)
        · replace c5 : (hb l 0) = 45 := Classical.not_not.mp (of_decide_eq_false c5)
          show Ex X m_Reader_readPlain 75 [.ref (c0 + 8), .ref (c0 + kr), .int (hb l 0), .int (nI y1)] [] (hp c0 n _ _) _
          refine Ex.nx rfl ?_
          refine Hx.get 8 rfl hC1.r8 rfl ?_
          refine Ex.nx rfl ?_
          refine Hx.get 8 rfl hC1.r8 rfl ?_
          refine Hx.get 3 rfl hC1.r3 rfl ?_
          refine Ex.nx rfl ?_
          refine CR.pn hC1 rfl ?_
          intro F3 hC3
          show Ex X m_Reader_readPlain 90 [.ref (c0 + 8), .ref (c0 + kr), .int (hb l 0), .int (nI y1)] [] (hp c0 n _ _) _
          refine Ex.nx rfl ?_
          exact Ex.ret rfl (ev_reti rfl) (rP_t (b := (x1, -v1, pn1)) (by unfold sP; rw [if_neg c1, if_neg c2, if_neg (by simp [c3]), if_pos c5, ho]) hC3)
      · replace c3 : (decide ((hb l 0) = 43) || decide ((hb l 0) = 45)) = false := bi_nef c3
        show Ex X m_Reader_readPlain 43 [.ref (c0 + 8), .ref (c0 + kr), .int (hb l 0), ev_dead] [] (hp c0 n _ _) _
        refine Ex.nx rfl ?_
        refine Hx.calls rfl rfl rfl rfl (sx_Reader_isDigit X (hb l 0)) (fun v hv => ?_)
        subst hv
        show Ex X m_Reader_readPlain 47 [.ref (c0 + 8), .ref (c0 + kr), .int (hb l 0), ev_dead] [.int (bi (isD (hb l 0)))] (hp c0 n _ _) _
        refine Ex.nx rfl ?_
        refine Ex.ite (fun c6 => ?_) (fun c6 => ?_)
        · replace c6 : (isD (hb l 0)) = true := bi_net c6
          show Ex X m_Reader_readPlain 63 [.ref (c0 + 8), .ref (c0 + kr), .int (hb l 0), ev_dead] [] (hp c0 n _ _) _
          refine Ex.nx rfl ?_
          refine Ex.nx rfl ?_
          refine CR.rd hC rfl rfl rfl rfl (cr_number hC hr) ?_
          generalize ho : sNu1 l (sgn0 l) 0 = o
          obtain ⟨b4, y4, x4, v4, pn4⟩ := o
          cases b4
          · rintro v h1 ⟨rfl, F4, rfl, ⟨s1, nu1, p1, bd1, tl1, ft1, hft, hC4⟩⟩
            dsimp only at hC4
            show Ex X m_Reader_readPlain 68 [.ref (c0 + 8), .ref (c0 + kr), .int (hb l 0), ev_dead] [.int (-1)] (hp c0 n _ _) _
            refine Ex.nx rfl ?_
            show Ex X m_Reader_readPlain 69 [.ref (c0 + 8), .ref (c0 + kr), .int (hb l 0), .int (-1)] [] (hp c0 n _ _) _
            refine Ex.nx rfl ?_
            refine Ex.nx rfl ?_
            refine Ex.nx rfl ?_
            refine Ex.ite (fun c7 => ?_) (fun c7 => ?_)
            · replace c7 : ¬ (hb l 0) = 45 := of_decide_eq_true c7
              show Ex X m_Reader_readPlain 90 [.ref (c0 + 8), .ref (c0 + kr), .int (hb l 0), .int (-1)] [] (hp c0 n _ _) _
              refine Ex.nx rfl ?_
              exact Ex.ret rfl (ev_reti rfl) (rP_f (q := y4) (b := (x4, v4, pn4)) (by unfold sP; rw [if_neg c1, if_neg c2, if_neg (by simp [c6]), if_neg c7, ho]) ⟨_, _, _, _, _, _, hft, hC4⟩)
            · replace c7 : (hb l 0) = 45 := Classical.not_not.mp (of_decide_eq_false c7)
              show Ex X m_Reader_readPlain 75 [.ref (c0 + 8), .ref (c0 + kr), .int (hb l 0), .int (-1)] [] (hp c0 n _ _) _
              refine Ex.nx rfl ?_
              refine Hx.get 8 rfl hC4.r8 rfl ?_
              refine Ex.nx rfl ?_
              refine Hx.get 8 rfl hC4.r8 rfl ?_
              refine Hx.get 3 rfl hC4.r3 rfl ?_
              refine Ex.nx rfl ?_
              refine CR.pn hC4 rfl ?_
              intro F5 hC5
              show Ex X m_Reader_readPlain 90 [.ref (c0 + 8), .ref (c0 + kr), .int (hb l 0), .int (-1)] [] (hp c0 n _ _) _
              refine Ex.nx rfl ?_
              exact Ex.ret rfl (ev_reti rfl) (rP_f (q := y4) (b := (x4, -v4, pn4)) (by unfold sP; rw [if_neg c1, if_neg c2, if_neg (by simp [c6]), if_pos c7, ho]) ⟨_, _, _, _, _, _, hft, hC5⟩)
          rintro v h1 ⟨rfl, F4, rfl, hC4⟩
          dsimp only at hC4
          show Ex X m_Reader_readPlain 68 [.ref (c0 + 8), .ref (c0 + kr), .int (hb l 0), ev_dead] [.int (nI y4)] (hp c0 n _ _) _
          refine Ex.nx rfl ?_
          show Ex X m_Reader_readPlain 69 [.ref (c0 + 8), .ref (c0 + kr), .int (hb l 0), .int (nI y4)] [] (hp c0 n _ _) _
          refine Ex.nx rfl ?_
          refine Ex.nx rfl ?_
          refine Ex.nx rfl ?_
          refine Ex.ite (fun c8 => ?_) (fun c8 => ?_)
          · replace c8 : ¬ (hb l 0) = 45 := of_decide_eq_true c8
            show Ex X m_Reader_readPlain 90 [.ref (c0 + 8), .ref (c0 + kr), .int (hb l 0), .int (nI y4)] [] (hp c0 n _ _) _
            refine Ex.nx rfl ?_
            exact Ex.ret rfl (ev_reti rfl) (rP_t (b := (x4, v4, pn4)) (by unfold sP; rw [if_neg c1, if_neg c2, if_neg (by simp [c6]), if_neg c8, ho]) hC4)
          · replace c8 : (hb l 0) = 45 := Classical.not_not.mp (of_decide_eq_false c8)
            show Ex X m_Reader_readPlain 75 [.ref (c0 + 8), .ref (c0 + kr), .int (hb l 0), .int (nI y4)] [] (hp c0 n _ _) _
            refine Ex.nx rfl ?_
            refine Hx.get 8 rfl hC4.r8 rfl ?_
            refine Ex.nx rfl ?_
            refine Hx.get 8 rfl hC4.r8 rfl ?_
            refine Hx.get 3 rfl hC4.r3 rfl ?_
            refine Ex.nx rfl ?_
            refine CR.pn hC4 rfl ?_
            intro F6 hC6
            show Ex X m_Reader_readPlain 90 [.ref (c0 + 8), .ref (c0 + kr), .int (hb l 0), .int (nI y4)] [] (hp c0 n _ _) _
            refine Ex.nx rfl ?_
            exact Ex.ret rfl (ev_reti rfl) (rP_t (b := (x4, -v4, pn4)) (by unfold sP; rw [if_neg c1, if_neg c2, if_neg (by simp [c6]), if_pos c8, ho]) hC6)
        · replace c6 : (isD (hb l 0)) = false := bi_nef c6
          show Ex X m_Reader_readPlain 50 [.ref (c0 + 8), .ref (c0 + kr), .int (hb l 0), ev_dead] [] (hp c0 n _ _) _
          refine Ex.nx rfl ?_
          refine Ex.nx rfl ?_
          refine Ex.nx rfl ?_
          refine Ex.ite (fun c9 => ?_) (fun c9 => ?_)
          · replace c9 : (hb l 0) = 46 := of_decide_eq_true c9
            show Ex X m_Reader_readPlain 63 [.ref (c0 + 8), .ref (c0 + kr), .int (hb l 0), ev_dead] [] (hp c0 n _ _) _
            refine Ex.nx rfl ?_
            refine Ex.nx rfl ?_
            refine CR.rd hC rfl rfl rfl rfl (cr_number hC hr) ?_
            generalize ho : sNu1 l (sgn0 l) 0 = o
            obtain ⟨b7, y7, x7, v7, pn7⟩ := o
            cases b7
            · rintro v h1 ⟨rfl, F7, rfl, ⟨s1, nu1, p1, bd1, tl1, ft1, hft, hC7⟩⟩
              dsimp only at hC7
              show Ex X m_Reader_readPlain 68 [.ref (c0 + 8), .ref (c0 + kr), .int (hb l 0), ev_dead] [.int (-1)] (hp c0 n _ _) _
              refine Ex.nx rfl ?_
              show Ex X m_Reader_readPlain 69 [.ref (c0 + 8), .ref (c0 + kr), .int (hb l 0), .int (-1)] [] (hp c0 n _ _) _
              refine Ex.nx rfl ?_
              refine Ex.nx rfl ?_
              refine Ex.nx rfl ?_
              refine Ex.ite (fun c10 => ?_) (fun c10 => ?_)
              · replace c10 : ¬ (hb l 0) = 45 := of_decide_eq_true c10
                show Ex X m_Reader_readPlain 90 [.ref (c0 + 8), .ref (c0 + kr), .int (hb l 0), .int (-1)] [] (hp c0 n _ _) _
                refine Ex.nx rfl ?_
                exact Ex.ret rfl (ev_reti rfl) (rP_f (q := y7) (b := (x7, v7, pn7)) (by unfold sP; rw [if_neg c1, if_neg c2, if_neg (by simp [c9]), if_neg c10, ho]) ⟨_, _, _, _, _, _, hft, hC7⟩)
              · replace c10 : (hb l 0) = 45 := Classical.not_not.mp (of_decide_eq_false c10)
                show Ex X m_Reader_readPlain 75 [.ref (c0 + 8), .ref (c0 + kr), .int (hb l 0), .int (-1)] [] (hp c0 n _ _) _
                refine Ex.nx rfl ?_
                refine Hx.get 8 rfl hC7.r8 rfl ?_
                refine Ex.nx rfl ?_
                refine Hx.get 8 rfl hC7.r8 rfl ?_
                refine Hx.get 3 rfl hC7.r3 rfl ?_
                refine Ex.nx rfl ?_
                refine CR.pn hC7 rfl ?_
                intro F8 hC8
                show Ex X m_Reader_readPlain 90 [.ref (c0 + 8), .ref (c0 + kr), .int (hb l 0), .int (-1)] [] (hp c0 n _ _) _
                refine Ex.nx rfl ?_
                exact Ex.ret rfl (ev_reti rfl) (rP_f (q := y7) (b := (x7, -v7, pn7)) (by unfold sP; rw [if_neg c1, if_neg c2, if_neg (by simp [c9]), if_pos c10, ho]) ⟨_, _, _, _, _, _, hft, hC8⟩)
            rintro v h1 ⟨rfl, F7, rfl, hC7⟩
            dsimp only at hC7
            show Ex X m_Reader_readPlain 68 [.ref (c0 + 8), .ref (c0 + kr), .int (hb l 0), ev_dead] [.int (nI y7)] (hp c0 n _ _) _
            refine Ex.nx rfl ?_
            show Ex X m_Reader_readPlain 69 [.ref (c0 + 8), .ref (c0 + kr), .int (hb l 0), .int (nI y7)] [] (hp c0 n _ _) _
            refine Ex.nx rfl ?_
            refine Ex.nx rfl ?_
            refine Ex.nx rfl ?_
            refine Ex.ite (fun c11 => ?_) (fun c11 => ?_)
            · replace c11 : ¬ (hb l 0) = 45 := of_decide_eq_true c11
              show Ex X m_Reader_readPlain 90 [.ref (c0 + 8), .ref (c0 + kr), .int (hb l 0), .int (nI y7)] [] (hp c0 n _ _) _
              refine Ex.nx rfl ?_
              exact Ex.ret rfl (ev_reti rfl) (rP_t (b := (x7, v7, pn7)) (by unfold sP; rw [if_neg c1, if_neg c2, if_neg (by simp [c9]), if_neg c11, ho]) hC7)
            · replace c11 : (hb l 0) = 45 := Classical.not_not.mp (of_decide_eq_false c11)
              show Ex X m_Reader_readPlain 75 [.ref (c0 + 8), .ref (c0 + kr), .int (hb l 0), .int (nI y7)] [] (hp c0 n _ _) _
              refine Ex.nx rfl ?_
              refine Hx.get 8 rfl hC7.r8 rfl ?_
              refine Ex.nx rfl ?_
              refine Hx.get 8 rfl hC7.r8 rfl ?_
              refine Hx.get 3 rfl hC7.r3 rfl ?_
              refine Ex.nx rfl ?_
              refine CR.pn hC7 rfl ?_
              intro F9 hC9
              show Ex X m_Reader_readPlain 90 [.ref (c0 + 8), .ref (c0 + kr), .int (hb l 0), .int (nI y7)] [] (hp c0 n _ _) _
              refine Ex.nx rfl ?_
              exact Ex.ret rfl (ev_reti rfl) (rP_t (b := (x7, -v7, pn7)) (by unfold sP; rw [if_neg c1, if_neg c2, if_neg (by simp [c9]), if_pos c11, ho]) hC9)
          · replace c9 : ¬ (hb l 0) = 46 := of_decide_eq_false c9
            show Ex X m_Reader_readPlain 56 [.ref (c0 + 8), .ref (c0 + kr), .int (hb l 0), ev_dead] [] (hp c0 n _ _) _
            refine Ex.nx rfl ?_
            refine Ex.nx rfl ?_
            refine Ex.nx rfl ?_
            refine CR.rd hC rfl rfl rfl rfl (cr_fail hC 1 0) ?_
            rintro v h1 ⟨rfl, F10, rfl, hC10⟩
            show Ex X m_Reader_readPlain 62 [.ref (c0 + 8), .ref (c0 + kr), .int (hb l 0), ev_dead] [.int (-1)] (hp c0 n _ _) _
            exact Ex.ret rfl (ev_reti rfl) (rP_f (b := (0, 0, 0)) (show sP l = (false, 0, 0, 0, 0) by simp [sP, c1, c2, c3, c6, c9]) ⟨_, _, _, _, _, _, (by decide), hC10⟩)
    · replace c2 : (hb l 0) = 102 := Classical.not_not.mp (of_decide_eq_false c2)
      show Ex X m_Reader_readPlain 27 [.ref (c0 + 8), .ref (c0 + kr), .int (hb l 0), ev_dead] [] (hp c0 n _ _) _
      refine Ex.nx rfl ?_
      refine Ex.nx rfl ?_
      refine Ex.nx rfl ?_
      refine Ex.nx rfl ?_
      rw [show sP l = sTr l 1 0 from (if_neg c1).trans (if_pos c2)]
      refine CR.rd hC rfl rfl rfl rfl (cr_truth hS (k := 1) (by decide) 0 hC hr (by decide)) ?_
      intro v h1 hq
      exact rP_ret rfl rfl hq
  · replace c1 : (hb l 0) = 116 := Classical.not_not.mp (of_decide_eq_false c1)
    show Ex X m_Reader_readPlain 12 [.ref (c0 + 8), .ref (c0 + kr), .int (hb l 0), ev_dead] [] (hp c0 n _ _) _
    refine Ex.nx rfl ?_
    refine Ex.nx rfl ?_
    refine Ex.nx rfl ?_
    refine Ex.nx rfl ?_
    rw [show sP l = sTr l 0 1 from if_pos c1]
    refine CR.rd hC rfl rfl rfl rfl (cr_truth hS (k := 0) (by decide) 1 hC hr (by decide)) ?_
    intro v h1 hq
    exact rP_ret rfl rfl hq
end
section
/-! The class reads texts; words. (rows laid by wip/whole/cr5.py) -/
def mp {α β : Type} (o : Bool × Nat × α) (f : α → β) : Bool × Nat × β := (o.1, o.2.1, f o.2.2)
theorem rP_map {α β : Type} {c0 n z : Nat} {F0 : Nat → Option va_E} {t : List Nat} {o : Bool × Nat × α} {o' : Bool × Nat × β} {G : α → (Nat → Option va_E) → Prop} {G' : β → (Nat → Option va_E) → Prop} {v : Option Value} {h : ev_H} (f : α → β) (e : o' = mp o f) (hh : ∀ a F1, G a F1 → G' (f a) F1) (hq : rP c0 n z F0 t o G v h) : rP c0 n z F0 t o' G' v h := by
  subst e
  unfold rP at hq ⊢
  split at hq
  · next e => rw [if_pos (show (mp o f).1 = true from e)]; exact ⟨hq.1, hq.2.choose, hq.2.choose_spec.1, hh _ _ hq.2.choose_spec.2⟩
  · next e => rw [if_neg (show ¬ (mp o f).1 = true from e)]; exact hq
/-- a text, with its tag or type: sort, items, tail -/
def sTx2 (t : List Nat) (q : Nat) (bd : List Nat) : Bool × Nat × Int32 × List Nat × List Nat := if hb t q = 64 then mp (sT t (t.length - (q + 1)) (q + 1) 0 true []) (fun b => (6, bd, b)) else if hb t q = 94 then (if hb t (q + 1) = 94 then mp (sNa t (q + 2)) (fun b => (7, bd, b)) else (false, q + 1, 0, [], [])) else (true, q, 5, bd, [])
def sTx (t : List Nat) : Bool × Nat × Int32 × List Nat × List Nat := if (sI t t.length 1 []).1 = true then sTx2 t (sI t t.length 1 []).2.1 (sI t t.length 1 []).2.2 else (false, (sI t t.length 1 []).2.1, 0, [], [])
set_option maxRecDepth 100000 in
set_option maxHeartbeats 2000000 in
theorem cr_tx2 {X : ev_X} {c0 n z : Nat} {F0 : Nat → Option va_E} {t : List Nat} {p fp : Int32} {nu : Int64} {bd : List Nat} {F : Nat → Option va_E} {q : Nat} (hq : q ≤ 240) (hC : CR c0 F0 t 5 nu p bd ([]) 0 fp F) : Ex X m_Reader_readText 21 [.ref (c0 + 8), .ref (c0 + 1), .int (nI q)] [] (hp c0 n z F) (rP c0 n z F0 t (sTx2 t q bd) (fun x F1 => CR c0 F0 t x.1 nu p x.2.1 x.2.2 0 fp F1)) := by
  have hl := hC.rt.le
  refine Ex.nx rfl ?_
  refine Ex.nx rfl ?_
  refine CR.at (i := q) (A0 := []) hC (Or.inl ⟨rfl, rfl⟩) (by omega) rfl rfl rfl ?_
  show Ex X m_Reader_readText 26 [.ref (c0 + 8), .ref (c0 + 1), .int (nI q)] [.int (hb t q)] (hp c0 n _ _) _
  by_cases e1 : (hb t q) = 64
  · refine Hx.top (y := 64) e1 ?_
    refine Ex.nx rfl ?_
    show Ex X m_Reader_readText 52 [.ref (c0 + 8), .ref (c0 + 1), .int (nI q)] [] (hp c0 n _ _) _
    refine Ex.nx rfl ?_
    refine Hx.get 8 rfl hC.r8 rfl ?_
    refine Ex.nx rfl ?_
    refine CR.ps hC rfl ?_
    intro F1 hC1
    show Ex X m_Reader_readText 61 [.ref (c0 + 8), .ref (c0 + 1), .int (nI q)] [] (hp c0 n _ _) _
    refine Ex.nx rfl ?_
    refine Ex.nx rfl ?_
    refine Ex.nx rfl ?_
    refine Ex.nx rfl ?_
    refine Ex.nx rfl ?_
    refine Hx.top (y := nI (q + 1)) (nI_1 q) ?_
    have h64 := hb_in (t := t) (q := q) (by rw [e1]; decide)
    refine CR.rd hC1 rfl rfl rfl rfl (cr_tag (q := q + 1) (by omega) hC1) ?_
    intro v h1 hq
    exact rP_ret rfl rfl (rP_map (fun b => (6, bd, b)) (if_pos e1) (fun a F1 h => h) hq)
  by_cases e2 : (hb t q) = 94
  · refine Hx.top (y := 94) e2 ?_
    refine Ex.nx rfl ?_
    show Ex X m_Reader_readText 70 [.ref (c0 + 8), .ref (c0 + 1), .int (nI q)] [] (hp c0 n _ _) _
    refine Ex.nx rfl ?_
    refine Hx.get 8 rfl hC.r8 rfl ?_
    refine Ex.nx rfl ?_
    refine CR.ps hC rfl ?_
    intro F2 hC2
    show Ex X m_Reader_readText 79 [.ref (c0 + 8), .ref (c0 + 1), .int (nI q)] [] (hp c0 n _ _) _
    refine Ex.nx rfl ?_
    refine Ex.nx rfl ?_
    refine Ex.nx rfl ?_
    refine Ex.nx rfl ?_
    refine Hx.top (y := nI (q + 1)) (nI_1 q) ?_
    refine CR.at (i := (q + 1)) (A0 := []) hC2 (Or.inl ⟨rfl, rfl⟩) (by omega) rfl rfl rfl ?_
    show Ex X m_Reader_readText 86 [.ref (c0 + 8), .ref (c0 + 1), .int (nI q)] [.int (hb t (q + 1))] (hp c0 n _ _) _
    refine Ex.nx rfl ?_
    refine Ex.nx rfl ?_
    refine Ex.ite (fun c3 => ?_) (fun c3 => ?_)
    · replace c3 : ¬ (hb t (q + 1)) = 94 := of_decide_eq_true c3
      show Ex X m_Reader_readText 109 [.ref (c0 + 8), .ref (c0 + 1), .int (nI q)] [] (hp c0 n _ _) _
      refine Ex.nx rfl ?_
      refine Ex.nx rfl ?_
      refine Ex.nx rfl ?_
      refine Ex.nx rfl ?_
      refine Ex.nx rfl ?_
      refine Hx.top (y := nI (q + 1)) (nI_1 q) ?_
      refine CR.rd hC2 rfl rfl rfl rfl (cr_lacking (i := (q + 1)) hC2 (Or.inl ⟨rfl, rfl⟩) (by omega)) ?_
      rintro v h1 ⟨rfl, F3, rfl, hC3⟩
      show Ex X m_Reader_readText 117 [.ref (c0 + 8), .ref (c0 + 1), .int (nI q)] [.int (-1)] (hp c0 n _ _) _
      exact Ex.ret rfl (ev_reti rfl) (rP_f (q := q + 1) (b := (0, [], [])) ((if_neg e1).trans ((if_pos e2).trans (if_neg c3))) ⟨_, _, _, _, _, _, lk_ne, hC3⟩)
    · replace c3 : (hb t (q + 1)) = 94 := Classical.not_not.mp (of_decide_eq_false c3)
      show Ex X m_Reader_readText 91 [.ref (c0 + 8), .ref (c0 + 1), .int (nI q)] [] (hp c0 n _ _) _
      refine Ex.nx rfl ?_
      refine Ex.nx rfl ?_
      refine Ex.nx rfl ?_
      refine Ex.nx rfl ?_
      refine Ex.nx rfl ?_
      refine Hx.top (y := nI (q + 2)) (nI_add q 2) ?_
      refine Ex.nx rfl ?_
      refine Hx.get 8 rfl hC2.r8 rfl ?_
      refine Hx.get 3 rfl hC2.r3 rfl ?_
      refine CR.rd hC2 rfl rfl rfl rfl (cr_name6 (q := q + 2) (by omega) hC2) ?_
      intro v h1 hq
      refine Ex.nx rfl ?_
      exact rP_ret rfl rfl (rP_map (fun b => (7, bd, b)) ((if_neg e1).trans ((if_pos e2).trans (if_pos c3))) (fun a F1 h => h) hq)
  refine Hx.lsw (off := 92) rfl rfl ((lv_osw e1 rfl).trans ((lv_osw e2 rfl).trans rfl)) (by decide) ?_
  show Ex X m_Reader_readText 118 [.ref (c0 + 8), .ref (c0 + 1), .int (nI q)] [] (hp c0 n _ _) _
  refine Ex.nx rfl ?_
  exact Ex.ret rfl (ev_reti rfl) (rP_t (b := (5, bd, [])) ((if_neg e1).trans (if_neg e2)) hC)
set_option maxRecDepth 100000 in
set_option maxHeartbeats 2000000 in
theorem cr_text {X : ev_X} {c0 n z : Nat} {F0 : Nat → Option va_E} {t : List Nat} {s p fp : Int32} {nu : Int64} {F : Nat → Option va_E} (h0 : 1 ≤ t.length) (hC : CR c0 F0 t s nu p ([]) ([]) 0 fp F) : Ex X m_Reader_readText 0 [.ref (c0 + 8), .ref (c0 + 1), ev_dead] [] (hp c0 n z F) (rP c0 n z F0 t (sTx t) (fun x F1 => CR c0 F0 t x.1 nu p x.2.1 x.2.2 0 fp F1)) := by
  have hl := hC.rt.le
  refine Ex.nx rfl ?_
  refine Hx.get 8 rfl hC.r8 rfl ?_
  refine Ex.nx rfl ?_
  refine CR.ps hC rfl ?_
  intro F4 hC4
  show Ex X m_Reader_readText 8 [.ref (c0 + 8), .ref (c0 + 1), ev_dead] [] (hp c0 n _ _) _
  refine Ex.nx rfl ?_
  refine Ex.nx rfl ?_
  have hle := sI_le t t.length 1 [] h0
  unfold sTx
  refine CR.rd hC4 rfl rfl rfl rfl (cr_items h0 hC4) ?_
  generalize sI t t.length 1 [] = o at hle ⊢
  obtain ⟨b5, y5, d5⟩ := o
  dsimp only at hle
  cases b5
  · rintro v h1 ⟨rfl, F5, rfl, hE⟩
    show Ex X m_Reader_readText 13 [.ref (c0 + 8), .ref (c0 + 1), ev_dead] [.int (-1)] (hp c0 n _ _) _
    refine Ex.nx rfl ?_
    show Ex X m_Reader_readText 14 [.ref (c0 + 8), .ref (c0 + 1), .int (-1)] [] (hp c0 n _ _) _
    refine Ex.nx rfl ?_
    refine Ex.nx rfl ?_
    refine Ex.nx rfl ?_
    show Ex X m_Reader_readText 19 [.ref (c0 + 8), .ref (c0 + 1), .int (-1)] [] (hp c0 n _ _) _
    refine Ex.nx rfl ?_
    exact Ex.ret rfl (ev_reti rfl) (rP_f (b := (0, [], [])) rfl hE)
  rintro v h1 ⟨rfl, F5, rfl, hC5⟩
  dsimp only at hC5
  show Ex X m_Reader_readText 13 [.ref (c0 + 8), .ref (c0 + 1), ev_dead] [.int (nI y5)] (hp c0 n _ _) _
  refine Ex.nx rfl ?_
  show Ex X m_Reader_readText 14 [.ref (c0 + 8), .ref (c0 + 1), .int (nI y5)] [] (hp c0 n _ _) _
  refine Ex.nx rfl ?_
  refine Ex.nx rfl ?_
  refine Ex.nx rfl ?_
  refine Ex.ite (fun c1 => ?_) (fun c1 => ?_)
  · replace c1 : ¬ (nI y5) = (-1) := of_decide_eq_true c1
    show Ex X m_Reader_readText 21 [.ref (c0 + 8), .ref (c0 + 1), .int (nI y5)] [] (hp c0 n _ _) _
    show Ex X m_Reader_readText 21 [.ref (c0 + 8), .ref (c0 + 1), .int (nI y5)] [] (hp c0 n _ _) _
    have hl := hC.rt.le
    exact cr_tx2 (by omega) hC5
  · replace c1 : (nI y5) = (-1) := Classical.not_not.mp (of_decide_eq_false c1)
    exact absurd c1 (nI_nm1 (by omega))
abbrev Tm : Type := Int32 × Int64 × Nat × List Nat × List Nat
def sA (t : List Nat) : Bool × Nat × Tm := if hb t 0 = 34 then mp (sTx t) (fun x => (x.1, 0, 0, x.2.1, x.2.2)) else if hb t 0 = 60 then mp (sNa t 0) (fun b => (2, 0, 0, b, [])) else if hb t 0 = 95 then mp (sBk t) (fun b => (1, 0, 0, b, [])) else mp (sP t) (fun x => (x.1, x.2.1, x.2.2, [], []))
set_option maxRecDepth 100000 in
set_option maxHeartbeats 2000000 in
theorem cr_any {X : ev_X} {c0 n z : Nat} (hS : XS X c0) {F0 : Nat → Option va_E} {t : List Nat} {fp : Int32} {F : Nat → Option va_E} (hC : CR c0 F0 t 0 0 0 ([]) ([]) 0 fp F) : Ex X m_Reader_readAny 0 [.ref (c0 + 8), .ref (c0 + 1)] [] (hp c0 n z F) (rP c0 n z F0 t (sA t) (fun x F1 => CR c0 F0 t x.1 x.2.1 (nI x.2.2.1) x.2.2.2.1 x.2.2.2.2 0 fp F1)) := by
  refine Ex.nx rfl ?_
  refine Ex.nx rfl ?_
  refine CR.at (i := 0) (A0 := []) hC (Or.inl ⟨rfl, rfl⟩) (by omega) rfl rfl rfl ?_
  show Ex X m_Reader_readAny 5 [.ref (c0 + 8), .ref (c0 + 1)] [.int (hb t 0)] (hp c0 n _ _) _
  by_cases e1 : (hb t 0) = 34
  · refine Hx.top (y := 34) e1 ?_
    refine Ex.nx rfl ?_
    show Ex X m_Reader_readAny 68 [.ref (c0 + 8), .ref (c0 + 1)] [] (hp c0 n _ _) _
    refine Ex.nx rfl ?_
    refine Ex.nx rfl ?_
    refine CR.rd hC rfl rfl rfl rfl (cr_text (by have := hb_in (t := t) (q := 0) (by rw [e1]; decide); omega) hC) ?_
    intro v h1 hq
    exact rP_ret rfl rfl (rP_map (fun x : Int32 × List Nat × List Nat => (x.1, 0, 0, x.2.1, x.2.2)) (if_pos e1) (fun a F1 h => h) hq)
  by_cases e2 : (hb t 0) = 60
  · refine Hx.top (y := 60) e2 ?_
    refine Ex.nx rfl ?_
    show Ex X m_Reader_readAny 46 [.ref (c0 + 8), .ref (c0 + 1)] [] (hp c0 n _ _) _
    refine Ex.nx rfl ?_
    refine Hx.get 8 rfl hC.r8 rfl ?_
    refine Ex.nx rfl ?_
    refine CR.ps hC rfl ?_
    intro F6 hC6
    show Ex X m_Reader_readAny 54 [.ref (c0 + 8), .ref (c0 + 1)] [] (hp c0 n _ _) _
    refine Ex.nx rfl ?_
    refine Ex.nx rfl ?_
    refine Ex.nx rfl ?_
    refine Ex.nx rfl ?_
    refine Hx.get 8 rfl hC6.r8 rfl ?_
    refine Hx.get 3 rfl hC6.r3 rfl ?_
    refine CR.rd hC6 rfl rfl rfl rfl (cr_name4 (q := 0) (by decide) hC6) ?_
    intro v h1 hq
    exact rP_ret rfl rfl (rP_map (fun b => (2, 0, 0, b, [])) ((if_neg e1).trans (if_pos e2)) (fun a F1 h => h) hq)
  by_cases e3 : (hb t 0) = 95
  · refine Hx.top (y := 95) e3 ?_
    refine Ex.nx rfl ?_
    show Ex X m_Reader_readAny 40 [.ref (c0 + 8), .ref (c0 + 1)] [] (hp c0 n _ _) _
    refine Ex.nx rfl ?_
    refine Ex.nx rfl ?_
    refine CR.rd hC rfl rfl rfl rfl (cr_blank hC) ?_
    intro v h1 hq
    exact rP_ret rfl rfl (rP_map (fun b => (1, 0, 0, b, [])) ((if_neg e1).trans ((if_neg e2).trans (if_pos e3))) (fun a F1 h => h) hq)
  refine Hx.lsw (off := 69) rfl rfl ((lv_osw e1 rfl).trans ((lv_osw e2 rfl).trans ((lv_osw e3 rfl).trans rfl))) (by decide) ?_
  show Ex X m_Reader_readAny 74 [.ref (c0 + 8), .ref (c0 + 1)] [] (hp c0 n _ _) _
  refine Ex.nx rfl ?_
  refine Ex.nx rfl ?_
  refine CR.rd hC rfl rfl rfl rfl (cr_plain hS hC (Or.inl ⟨rfl, rfl⟩)) ?_
  intro v h1 hq
  exact rP_ret rfl rfl (rP_map (fun x : Int32 × Int64 × Nat => (x.1, x.2.1, x.2.2, [], [])) ((if_neg e1).trans ((if_neg e2).trans (if_neg e3))) (fun a F1 h => h) hq)
def wl (k : Nat) : List Nat := (List.range (wlen k)).map (wch k)
theorem wl_len (k : Nat) : (wl k).length = wlen k := by simp [wl]
theorem wl_get {k i : Nat} (h : i < wlen k) : (wl k).getD i 0 = wch k i := by simp [wl, List.getD_eq_getElem?_getD, h]
theorem wl_t {k : Nat} (hk : k < 12) {l : List Nat} (hb1 : ∀ i, l.getD i 0 < 256) (hl : l.length = wlen k) (h : ∀ i, i < wlen k → hb l i = nI (wch k i)) : l = wl k := by
  refine getD_ext0 (by rw [hl, wl_len]) (fun j hj => ?_)
  rw [wl_get (by omega)]
  have e := h j (by omega)
  rw [hb_lt hj] at e
  exact (nI_eq (by have := hb1 j; omega) (by have := (wch_all k hk j (by omega)).2; omega)).mp e
theorem wl_f {k i : Nat} {l : List Nat} (e : l = wl k) (hi : i < wlen k) : hb l i = nI (wch k i) := by
  rw [e, hb_lt (by rw [wl_len]; exact hi), wl_get hi]
set_option maxRecDepth 100000 in
set_option maxHeartbeats 2000000 in
theorem rl_sp_l {X : ev_X} {c0 n z : Nat} (hS : XS X c0) {k : Nat} (hk : k < 12) {F : Nat → Option va_E} {j0 ja N : Nat} {l : List Nat} (hN : N ≤ 1000) (h : rowL c0 F j0 ja N l) (hl : l.length = wlen k) : ∀ (m j : Nat) (hm : j + m = wlen k) (hp1 : ∀ i, i < j → hb l i = nI (wch k i)), Ex X m_Row_spells 15 [.ref (c0 + j0), .ref (X.2.1 k), .int (nI j)] [] (hp c0 n z F) (fun r h' => r = some (.int (bi (decide (l = wl k)))) ∧ h' = hp c0 n z F) := by
  have hw := wlen_all k hk
  intro m
  induction m with
  | zero =>
    intro j hm hp1
    refine Ex.nx rfl ?_
    refine Ex.nx rfl ?_
    refine Hx.scl hS hk lo_hp rfl rfl rfl rfl (hs_length hS lo_hp hk) ?_
    rintro v h1 ⟨rfl, rfl⟩
    show Ex X m_Row_spells 20 [.ref (c0 + j0), .ref (X.2.1 k), .int (nI j)] [.int (nI (wlen k)), .int (nI j)] (hp c0 n _ _) _
    refine Ex.nx rfl ?_
    refine Ex.ite (fun c1 => ?_) (fun c1 => ?_)
    · replace c1 : (nI (wlen k)) ≤ (nI j) := of_decide_eq_true c1
      show Ex X m_Row_spells 44 [.ref (c0 + j0), .ref (X.2.1 k), .int (nI j)] [] (hp c0 n _ _) _
      refine Ex.nx rfl ?_
      exact Ex.ret rfl rfl ⟨ret_1 (decide_eq_true (wl_t hk h.by hl (fun i hi => hp1 i (by omega)))), rfl⟩
    · replace c1 : ¬ (nI (wlen k)) ≤ (nI j) := of_decide_eq_false c1
      exact absurd (show nI (wlen k) ≤ nI j by rw [show j = wlen k by omega]; exact Int32.le_refl _) c1
  | succ m ih =>
    intro j hm hp1
    refine Ex.nx rfl ?_
    refine Ex.nx rfl ?_
    refine Hx.scl hS hk lo_hp rfl rfl rfl rfl (hs_length hS lo_hp hk) ?_
    rintro v h1 ⟨rfl, rfl⟩
    show Ex X m_Row_spells 20 [.ref (c0 + j0), .ref (X.2.1 k), .int (nI j)] [.int (nI (wlen k)), .int (nI j)] (hp c0 n _ _) _
    refine Ex.nx rfl ?_
    refine Ex.ite (fun c1 => ?_) (fun c1 => ?_)
    · replace c1 : (nI (wlen k)) ≤ (nI j) := of_decide_eq_true c1
      exact absurd ((nI_leI (by omega) (by omega)).mp c1) (by omega)
    · replace c1 : ¬ (nI (wlen k)) ≤ (nI j) := of_decide_eq_false c1
      show Ex X m_Row_spells 23 [.ref (c0 + j0), .ref (X.2.1 k), .int (nI j)] [] (hp c0 n _ _) _
      refine Ex.nx rfl ?_
      refine Ex.nx rfl ?_
      refine Hx.rowE h rfl rfl rfl rfl (rl_at h hN (i := j) (by omega)) ?_
      show Ex X m_Row_spells 28 [.ref (c0 + j0), .ref (X.2.1 k), .int (nI j)] [.int (hb l j)] (hp c0 n _ _) _
      refine Ex.nx rfl ?_
      refine Ex.nx rfl ?_
      refine Hx.scl hS hk lo_hp rfl rfl rfl rfl (hs_char hS lo_hp hk (j := j) (by omega)) ?_
      rintro v h1 ⟨rfl, rfl⟩
      show Ex X m_Row_spells 33 [.ref (c0 + j0), .ref (X.2.1 k), .int (nI j)] [.int (nI (wch k j)), .int (hb l j)] (hp c0 n _ _) _
      refine Ex.nx rfl ?_
      refine Ex.ite (fun c2 => ?_) (fun c2 => ?_)
      · replace c2 : (hb l j) = (nI (wch k j)) := of_decide_eq_true c2
        show Ex X m_Row_spells 38 [.ref (c0 + j0), .ref (X.2.1 k), .int (nI j)] [] (hp c0 n _ _) _
        refine Ex.nx rfl ?_
        show Ex X m_Row_spells 41 [.ref (c0 + j0), .ref (X.2.1 k), .int ((nI j) + 1)] [] (hp c0 n _ _) _
        refine Ex.nx rfl ?_
        show Ex X m_Row_spells 15 [.ref (c0 + j0), .ref (X.2.1 k), .int ((nI j) + 1)] [] (hp c0 n _ _) _
        rw [show nI j + 1 = nI (j + 1) from nI_1 j]
        exact ih (j + 1) (by omega) (fun i hi => by
          by_cases q : i < j
          · exact hp1 i q
          · rw [show i = j by omega]; exact c2)
      · replace c2 : ¬ (hb l j) = (nI (wch k j)) := of_decide_eq_false c2
        show Ex X m_Row_spells 36 [.ref (c0 + j0), .ref (X.2.1 k), .int (nI j)] [] (hp c0 n _ _) _
        refine Ex.nx rfl ?_
        exact Ex.ret rfl rfl ⟨ret_0 (decide_eq_false (fun e => c2 (wl_f e (by omega)))), rfl⟩
set_option maxRecDepth 100000 in
set_option maxHeartbeats 2000000 in
theorem rl_spells {X : ev_X} {c0 n z : Nat} (hS : XS X c0) {k : Nat} (hk : k < 12) {F : Nat → Option va_E} {j0 ja N : Nat} {l : List Nat} (hN : N ≤ 1000) (h : rowL c0 F j0 ja N l) : Ex X m_Row_spells 0 [.ref (c0 + j0), .ref (X.2.1 k), ev_dead] [] (hp c0 n z F) (fun r h' => r = some (.int (bi (decide (l = wl k)))) ∧ h' = hp c0 n z F) := by
  have hw := wlen_all k hk
  obtain ⟨f, hF, -⟩ := id h
  refine Ex.nx rfl ?_
  refine Hx.get j0 rfl hF rfl ?_
  refine Ex.nx rfl ?_
  refine Hx.scl hS hk lo_hp rfl rfl rfl rfl (hs_length hS lo_hp hk) ?_
  rintro v h1 ⟨rfl, rfl⟩
  show Ex X m_Row_spells 8 [.ref (c0 + j0), .ref (X.2.1 k), ev_dead] [.int (nI (wlen k)), .int (nI l.length)] (hp c0 n _ _) _
  refine Ex.nx rfl ?_
  refine Ex.ite (fun c1 => ?_) (fun c1 => ?_)
  · replace c1 : (nI l.length) = (nI (wlen k)) := of_decide_eq_true c1
    show Ex X m_Row_spells 13 [.ref (c0 + j0), .ref (X.2.1 k), ev_dead] [] (hp c0 n _ _) _
    refine Ex.nx rfl ?_
    refine Ex.nx rfl ?_
    show Ex X m_Row_spells 15 [.ref (c0 + j0), .ref (X.2.1 k), .int 0] [] (hp c0 n _ _) _
    show Ex X m_Row_spells 15 [.ref (c0 + j0), .ref (X.2.1 k), .int 0] [] (hp c0 n _ _) _
    exact rl_sp_l hS hk hN h ((nI_eq (by have := h.le; omega) (by omega)).mp c1) (wlen k) 0 (by omega) (fun i hi => absurd hi (Nat.not_lt_zero i))
  · replace c1 : ¬ (nI l.length) = (nI (wlen k)) := of_decide_eq_false c1
    show Ex X m_Row_spells 11 [.ref (c0 + j0), .ref (X.2.1 k), ev_dead] [] (hp c0 n _ _) _
    refine Ex.nx rfl ?_
    exact Ex.ret rfl rfl ⟨ret_0 (decide_eq_false (fun e => c1 (by rw [e, wl_len]))), rfl⟩
def snm (tl : List Nat) : Int32 := if tl = wl 3 then 3 else if tl = wl 4 then 4 else if tl = wl 5 then 8 else 7
set_option maxRecDepth 100000 in
set_option maxHeartbeats 2000000 in
theorem hx_sortNamed {X : ev_X} {c0 n z : Nat} (hS : XS X c0) {F : Nat → Option va_E} {tl : List Nat} (h : rowL c0 F 6 7 60 tl) : Ex X m_Reader_sortNamed 0 [.ref (c0 + 6)] [] (hp c0 n z F) (fun r h' => r = some (.int (snm tl)) ∧ h' = hp c0 n z F) := by
  refine Ex.nx rfl ?_
  refine Ex.nx rfl ?_
  refine Hx.rowE h rfl rfl rfl rfl (rl_spells hS (k := 3) (by decide) (by decide) h) ?_
  show Ex X m_Reader_sortNamed 6 [.ref (c0 + 6)] [.int (bi (decide (tl = wl 3)))] (hp c0 n _ _) _
  refine Ex.nx rfl ?_
  refine Ex.ite (fun c1 => ?_) (fun c1 => ?_)
  · replace c1 : (decide (tl = wl 3)) = false := bi_eqt c1
    show Ex X m_Reader_sortNamed 11 [.ref (c0 + 6)] [] (hp c0 n _ _) _
    refine Ex.nx rfl ?_
    refine Ex.nx rfl ?_
    refine Hx.rowE h rfl rfl rfl rfl (rl_spells hS (k := 4) (by decide) (by decide) h) ?_
    show Ex X m_Reader_sortNamed 17 [.ref (c0 + 6)] [.int (bi (decide (tl = wl 4)))] (hp c0 n _ _) _
    refine Ex.nx rfl ?_
    refine Ex.ite (fun c2 => ?_) (fun c2 => ?_)
    · replace c2 : (decide (tl = wl 4)) = false := bi_eqt c2
      show Ex X m_Reader_sortNamed 22 [.ref (c0 + 6)] [] (hp c0 n _ _) _
      refine Ex.nx rfl ?_
      refine Ex.nx rfl ?_
      refine Hx.rowE h rfl rfl rfl rfl (rl_spells hS (k := 5) (by decide) (by decide) h) ?_
      show Ex X m_Reader_sortNamed 28 [.ref (c0 + 6)] [.int (bi (decide (tl = wl 5)))] (hp c0 n _ _) _
      refine Ex.nx rfl ?_
      refine Ex.ite (fun c3 => ?_) (fun c3 => ?_)
      · replace c3 : (decide (tl = wl 5)) = false := bi_eqt c3
        show Ex X m_Reader_sortNamed 36 [.ref (c0 + 6)] [] (hp c0 n _ _) _
        refine Ex.nx rfl ?_
        exact Ex.ret rfl (ev_reti rfl) ⟨by rw [snm, if_neg (of_decide_eq_false c1), if_neg (of_decide_eq_false c2), if_neg (of_decide_eq_false c3)]; rfl, rfl⟩
      · replace c3 : (decide (tl = wl 5)) = true := bi_eqf c3
        show Ex X m_Reader_sortNamed 31 [.ref (c0 + 6)] [] (hp c0 n _ _) _
        refine Ex.nx rfl ?_
        refine Ex.nx rfl ?_
        exact Ex.ret rfl (ev_reti rfl) ⟨by rw [snm, if_neg (of_decide_eq_false c1), if_neg (of_decide_eq_false c2), if_pos (of_decide_eq_true c3)]; rfl, rfl⟩
    · replace c2 : (decide (tl = wl 4)) = true := bi_eqf c2
      show Ex X m_Reader_sortNamed 20 [.ref (c0 + 6)] [] (hp c0 n _ _) _
      refine Ex.nx rfl ?_
      exact Ex.ret rfl (ev_reti rfl) ⟨by rw [snm, if_neg (of_decide_eq_false c1), if_pos (of_decide_eq_true c2)]; rfl, rfl⟩
  · replace c1 : (decide (tl = wl 3)) = true := bi_eqf c1
    show Ex X m_Reader_sortNamed 9 [.ref (c0 + 6)] [] (hp c0 n _ _) _
    refine Ex.nx rfl ?_
    exact Ex.ret rfl (ev_reti rfl) ⟨by rw [snm, if_pos (of_decide_eq_true c1)]; rfl, rfl⟩
end
section
/-! The class settles a type; its last steps. (rows laid by wip/whole/cr6.py) -/
/-- what a typed text is: of four types no kind of their own -/
def sSe (b tl : List Nat) (q : Nat) : Bool × Nat × Tm := if tl = wl 2 then (true, q, 5, 0, 0, b, []) else if snm tl = 7 then (true, q, 7, 0, 0, b, tl) else if (sP b).1 = true ∧ (sP b).2.1 = b.length ∧ (sP b).2.2.1 = snm tl then (true, q, (sP b).2.2.1, (sP b).2.2.2.1, (sP b).2.2.2.2, [], []) else (false, 0, 0, 0, 0, [], [])
set_option maxRecDepth 100000 in
set_option maxHeartbeats 2000000 in
theorem cr_settle {X : ev_X} {c0 n z : Nat} (hS : XS X c0) {F0 : Nat → Option va_E} {t : List Nat} {fp : Int32} {bd tl : List Nat} {F : Nat → Option va_E} {q : Nat} (hq : q ≤ 1000) (hC : CR c0 F0 t 7 0 0 bd tl 0 fp F) : Ex X m_Reader_settleType 0 [.ref (c0 + 8), .int (nI q), ev_dead, ev_dead] [] (hp c0 n z F) (rP c0 n z F0 t (sSe bd tl q) (fun x F1 => CR c0 F0 t x.1 x.2.1 (nI x.2.2.1) x.2.2.2.1 x.2.2.2.2 0 fp F1)) := by
  refine Ex.nx rfl ?_
  refine Hx.get 8 rfl hC.r8 rfl ?_
  refine Hx.get 3 rfl hC.r3 rfl ?_
  refine Ex.nx rfl ?_
  refine Hx.rowE hC.rl rfl rfl rfl rfl (rl_spells hS (k := 2) (by decide) (by decide) hC.rl) ?_
  show Ex X m_Reader_settleType 12 [.ref (c0 + 8), .int (nI q), ev_dead, ev_dead] [.int (bi (decide (tl = wl 2)))] (hp c0 n _ _) _
  refine Ex.nx rfl ?_
  refine Ex.ite (fun c1 => ?_) (fun c1 => ?_)
  · replace c1 : (decide (tl = wl 2)) = false := bi_eqt c1
    show Ex X m_Reader_settleType 35 [.ref (c0 + 8), .int (nI q), ev_dead, ev_dead] [] (hp c0 n _ _) _
    refine Ex.nx rfl ?_
    refine Hx.get 8 rfl hC.r8 rfl ?_
    refine Hx.get 3 rfl hC.r3 rfl ?_
    refine Hx.sst rfl rfl rfl rfl (hx_sortNamed hS hC.rl) ?_
    rintro v h1 ⟨rfl, rfl⟩
    show Ex X m_Reader_settleType 45 [.ref (c0 + 8), .int (nI q), ev_dead, ev_dead] [.int (snm tl)] (hp c0 n _ _) _
    refine Ex.nx rfl ?_
    show Ex X m_Reader_settleType 46 [.ref (c0 + 8), .int (nI q), .int (snm tl), ev_dead] [] (hp c0 n _ _) _
    refine Ex.nx rfl ?_
    refine Ex.nx rfl ?_
    refine Ex.nx rfl ?_
    refine Ex.ite (fun c2 => ?_) (fun c2 => ?_)
    · replace c2 : ¬ (snm tl) = 7 := of_decide_eq_true c2
      show Ex X m_Reader_settleType 54 [.ref (c0 + 8), .int (nI q), .int (snm tl), ev_dead] [] (hp c0 n _ _) _
      refine Ex.nx rfl ?_
      refine Ex.nx rfl ?_
      refine Hx.get 8 rfl hC.r8 rfl ?_
      refine Hx.get 3 rfl hC.r3 rfl ?_
      have hbl := hC.rb.le
      have hPl := sP_le bd (by omega)
      refine CR.rd hC rfl rfl rfl rfl (cr_plain hS hC (Or.inr ⟨rfl, rfl⟩)) ?_
      generalize ho : sP bd = o at hPl ⊢
      obtain ⟨b1, y1, x1, v1, pn1⟩ := o
      dsimp only at hPl
      cases b1
      · rintro v h1 ⟨rfl, F1, rfl, ⟨s1, nu1, p1, bd1, tl1, ft1, hft, hC1⟩⟩
        dsimp only at hC1
        show Ex X m_Reader_settleType 65 [.ref (c0 + 8), .int (nI q), .int (snm tl), ev_dead] [.int (-1)] (hp c0 n _ _) _
        refine Ex.nx rfl ?_
        show Ex X m_Reader_settleType 66 [.ref (c0 + 8), .int (nI q), .int (snm tl), .int (-1)] [] (hp c0 n _ _) _
        refine Ex.nx rfl ?_
        refine Ex.nx rfl ?_
        refine Hx.get 8 rfl hC1.r8 rfl ?_
        refine Hx.get 3 rfl hC1.r3 rfl ?_
        refine CR.sz hC1 (Or.inr ⟨rfl, rfl⟩) rfl rfl rfl ?_
        show Ex X m_Reader_settleType 77 [.ref (c0 + 8), .int (nI q), .int (snm tl), .int (-1)] [.int (nI bd1.length), .int (-1)] (hp c0 n _ _) _
        refine Ex.nx rfl ?_
        refine Ex.ite (fun c3 => ?_) (fun c3 => ?_)
        · replace c3 : ¬ (-1) = (nI bd1.length) := of_decide_eq_true c3
          show Ex X m_Reader_settleType 91 [.ref (c0 + 8), .int (nI q), .int (snm tl), .int (-1)] [] (hp c0 n _ _) _
          refine Ex.nx rfl ?_
          refine Ex.nx rfl ?_
          refine Ex.nx rfl ?_
          refine CR.rd hC1 rfl rfl rfl rfl (cr_fail hC1 7 0) ?_
          rintro v h1 ⟨rfl, F2, rfl, hC2⟩
          show Ex X m_Reader_settleType 98 [.ref (c0 + 8), .int (nI q), .int (snm tl), .int (-1)] [.int (-1)] (hp c0 n _ _) _
          exact Ex.ret rfl (ev_reti rfl) (rP_f (q := 0) (b := (0, 0, 0, [], [])) (by unfold sSe; rw [if_neg (of_decide_eq_false c1), if_neg c2, ho]; exact if_neg (fun h => Bool.false_ne_true h.1)) ⟨_, _, _, _, _, _, (by decide), hC2⟩)
        · replace c3 : (-1) = (nI bd1.length) := Classical.not_not.mp (of_decide_eq_false c3)
          exact absurd (show (-1 : Int32) = nI bd1.length from c3).symm (nI_nm1 (by have := hC1.rb.le; omega))
      rintro v h1 ⟨rfl, F1, rfl, hC1⟩
      dsimp only at hC1
      show Ex X m_Reader_settleType 65 [.ref (c0 + 8), .int (nI q), .int (snm tl), ev_dead] [.int (nI y1)] (hp c0 n _ _) _
      refine Ex.nx rfl ?_
      show Ex X m_Reader_settleType 66 [.ref (c0 + 8), .int (nI q), .int (snm tl), .int (nI y1)] [] (hp c0 n _ _) _
      refine Ex.nx rfl ?_
      refine Ex.nx rfl ?_
      refine Hx.get 8 rfl hC1.r8 rfl ?_
      refine Hx.get 3 rfl hC1.r3 rfl ?_
      refine CR.sz hC1 (Or.inr ⟨rfl, rfl⟩) rfl rfl rfl ?_
      show Ex X m_Reader_settleType 77 [.ref (c0 + 8), .int (nI q), .int (snm tl), .int (nI y1)] [.int (nI bd.length), .int (nI y1)] (hp c0 n _ _) _
      refine Ex.nx rfl ?_
      refine Ex.ite (fun c4 => ?_) (fun c4 => ?_)
      · replace c4 : ¬ (nI y1) = (nI bd.length) := of_decide_eq_true c4
        show Ex X m_Reader_settleType 91 [.ref (c0 + 8), .int (nI q), .int (snm tl), .int (nI y1)] [] (hp c0 n _ _) _
        refine Ex.nx rfl ?_
        refine Ex.nx rfl ?_
        refine Ex.nx rfl ?_
        refine CR.rd hC1 rfl rfl rfl rfl (cr_fail hC1 7 0) ?_
        rintro v h1 ⟨rfl, F3, rfl, hC3⟩
        show Ex X m_Reader_settleType 98 [.ref (c0 + 8), .int (nI q), .int (snm tl), .int (nI y1)] [.int (-1)] (hp c0 n _ _) _
        exact Ex.ret rfl (ev_reti rfl) (rP_f (q := 0) (b := (0, 0, 0, [], [])) (by unfold sSe; rw [if_neg (of_decide_eq_false c1), if_neg c2, ho]; exact if_neg (fun h => c4 (by rw [show y1 = bd.length from h.2.1]))) ⟨_, _, _, _, _, _, (by decide), hC3⟩)
      · replace c4 : (nI y1) = (nI bd.length) := Classical.not_not.mp (of_decide_eq_false c4)
        skip
        show Ex X m_Reader_settleType 80 [.ref (c0 + 8), .int (nI q), .int (snm tl), .int (nI y1)] [] (hp c0 n _ _) _
        refine Ex.nx rfl ?_
        refine Hx.get 8 rfl hC1.r8 rfl ?_
        refine Hx.get 3 rfl hC1.r3 rfl ?_
        refine Ex.nx rfl ?_
        refine Ex.nx rfl ?_
        refine Ex.ite (fun c5 => ?_) (fun c5 => ?_)
        · replace c5 : x1 = (snm tl) := of_decide_eq_true c5
          show Ex X m_Reader_settleType 99 [.ref (c0 + 8), .int (nI q), .int (snm tl), .int (nI y1)] [] (hp c0 n _ _) _
          refine Ex.nx rfl ?_
          refine Hx.get 8 rfl hC1.r8 rfl ?_
          refine Hx.get 3 rfl hC1.r3 rfl ?_
          refine CR.clb hC1 rfl rfl ?_
          intro F4 hC4
          show Ex X m_Reader_settleType 109 [.ref (c0 + 8), .int (nI q), .int (snm tl), .int (nI y1)] [] (hp c0 n _ _) _
          refine Ex.nx rfl ?_
          refine Hx.get 8 rfl hC4.r8 rfl ?_
          refine Hx.get 3 rfl hC4.r3 rfl ?_
          refine CR.clt hC4 rfl rfl ?_
          intro F5 hC5
          show Ex X m_Reader_settleType 119 [.ref (c0 + 8), .int (nI q), .int (snm tl), .int (nI y1)] [] (hp c0 n _ _) _
          refine Ex.nx rfl ?_
          exact Ex.ret rfl (ev_reti rfl) (rP_t (q := q) (b := (x1, v1, pn1, [], [])) (by unfold sSe; rw [if_neg (of_decide_eq_false c1), if_neg c2, ho]; exact if_pos ⟨rfl, (nI_eq (a := y1) (by omega) (by omega)).mp c4, c5⟩) hC5)
        · replace c5 : ¬ x1 = (snm tl) := of_decide_eq_false c5
          show Ex X m_Reader_settleType 91 [.ref (c0 + 8), .int (nI q), .int (snm tl), .int (nI y1)] [] (hp c0 n _ _) _
          refine Ex.nx rfl ?_
          refine Ex.nx rfl ?_
          refine Ex.nx rfl ?_
          refine CR.rd hC1 rfl rfl rfl rfl (cr_fail hC1 7 0) ?_
          rintro v h1 ⟨rfl, F6, rfl, hC6⟩
          show Ex X m_Reader_settleType 98 [.ref (c0 + 8), .int (nI q), .int (snm tl), .int (nI y1)] [.int (-1)] (hp c0 n _ _) _
          exact Ex.ret rfl (ev_reti rfl) (rP_f (q := 0) (b := (0, 0, 0, [], [])) (by unfold sSe; rw [if_neg (of_decide_eq_false c1), if_neg c2, ho]; exact if_neg (fun h => c5 h.2.2)) ⟨_, _, _, _, _, _, (by decide), hC6⟩)
    · replace c2 : (snm tl) = 7 := Classical.not_not.mp (of_decide_eq_false c2)
      show Ex X m_Reader_settleType 52 [.ref (c0 + 8), .int (nI q), .int (snm tl), ev_dead] [] (hp c0 n _ _) _
      refine Ex.nx rfl ?_
      exact Ex.ret rfl (ev_reti rfl) (rP_t (q := q) (b := (7, 0, 0, bd, tl)) ((if_neg (of_decide_eq_false c1)).trans (if_pos c2)) hC)
  · replace c1 : (decide (tl = wl 2)) = true := bi_eqf c1
    show Ex X m_Reader_settleType 15 [.ref (c0 + 8), .int (nI q), ev_dead, ev_dead] [] (hp c0 n _ _) _
    refine Ex.nx rfl ?_
    refine Hx.get 8 rfl hC.r8 rfl ?_
    refine Ex.nx rfl ?_
    refine CR.ps hC rfl ?_
    intro F7 hC7
    show Ex X m_Reader_settleType 23 [.ref (c0 + 8), .int (nI q), ev_dead, ev_dead] [] (hp c0 n _ _) _
    refine Ex.nx rfl ?_
    refine Hx.get 8 rfl hC7.r8 rfl ?_
    refine Hx.get 3 rfl hC7.r3 rfl ?_
    refine CR.clt hC7 rfl rfl ?_
    intro F8 hC8
    show Ex X m_Reader_settleType 33 [.ref (c0 + 8), .int (nI q), ev_dead, ev_dead] [] (hp c0 n _ _) _
    refine Ex.nx rfl ?_
    exact Ex.ret rfl (ev_reti rfl) (rP_t (q := q) (b := (5, 0, 0, bd, [])) (if_pos (of_decide_eq_true c1)) hC8)
set_option maxRecDepth 100000 in
set_option maxHeartbeats 2000000 in
theorem cr_become {X : ev_X} {c0 n z : Nat} {F0 : Nat → Option va_E} {t : List Nat} {s p ft fp : Int32} {nu : Int64} {bd tl : List Nat} {F : Nat → Option va_E} (hC : CR c0 F0 t s nu p bd tl ft fp F) (s1 : Int32) (v1 : Int64) (p1 : Int32) : Ex X m_Term_become 0 [.ref (c0 + 3), .int s1, .long v1, ev_dead, .int p1] [] (hp c0 n z F) (fun r h' => r = none ∧ ∃ F1, h' = hp c0 n z F1 ∧ CR c0 F0 t s1 v1 p1 [] [] ft fp F1) := by
  refine Ex.nx rfl ?_
  refine Ex.nx rfl ?_
  refine CR.ps hC rfl ?_
  intro F9 hC9
  show Ex X m_Term_become 5 [.ref (c0 + 3), .int s1, .long v1, ev_dead, .int p1] [] (hp c0 n _ _) _
  refine Ex.nx rfl ?_
  refine Ex.nx rfl ?_
  refine CR.pn hC9 rfl ?_
  intro F10 hC10
  show Ex X m_Term_become 10 [.ref (c0 + 3), .int s1, .long v1, ev_dead, .int p1] [] (hp c0 n _ _) _
  refine Ex.nx rfl ?_
  refine Ex.nx rfl ?_
  refine CR.pp hC10 rfl ?_
  intro F11 hC11
  show Ex X m_Term_become 16 [.ref (c0 + 3), .int s1, .long v1, ev_dead, .int p1] [] (hp c0 n _ _) _
  refine Ex.nx rfl ?_
  refine Hx.get 3 rfl hC11.r3 rfl ?_
  refine CR.clb hC11 rfl rfl ?_
  intro F12 hC12
  show Ex X m_Term_become 23 [.ref (c0 + 3), .int s1, .long v1, ev_dead, .int p1] [] (hp c0 n _ _) _
  refine Ex.nx rfl ?_
  refine Hx.get 3 rfl hC12.r3 rfl ?_
  refine CR.clt hC12 rfl rfl ?_
  intro F13 hC13
  show Ex X m_Term_become 30 [.ref (c0 + 3), .int s1, .long v1, ev_dead, .int p1] [] (hp c0 n _ _) _
  exact Ex.ret rfl rfl ⟨rfl, _, rfl, hC13⟩
/-- what the tape is: a term, or a fault at a place -/
def sAll2 (t : List Nat) (o : Bool × Nat × Tm) : Bool × Nat × Tm := if o.1 = true then (if o.2.1 < t.length then (false, o.2.1, 0, 0, 0, [], []) else (true, t.length, o.2.2)) else (false, o.2.1, 0, 0, 0, [], [])
def sAll1 (o : Bool × Nat × Tm) : Bool × Nat × Tm := if o.1 = true then (if o.2.2.1 = 7 then sSe o.2.2.2.2.2.1 o.2.2.2.2.2.2 o.2.1 else o) else o
def sAll (t : List Nat) : Bool × Nat × Tm := sAll2 t (sAll1 (sA t))
/-- the answer of readTerm -/
def tP (c0 n z : Nat) (F0 : Nat → Option va_E) (t : List Nat) (o : Bool × Nat × Tm) (r : Option Value) (h' : ev_H) : Prop := if o.1 = true then r = some (.int 0) ∧ ∃ F1, h' = hp c0 n z F1 ∧ CR c0 F0 t o.2.2.1 o.2.2.2.1 (nI o.2.2.2.2.1) o.2.2.2.2.2.1 o.2.2.2.2.2.2 0 (nI t.length) F1 else ∃ ft, ft ≠ 0 ∧ r = some (.int ft) ∧ ∃ F1, h' = hp c0 n z F1 ∧ ∃ s nu p bd tl, CR c0 F0 t s nu p bd tl ft (nI o.2.1) F1
theorem tP_t {c0 n z : Nat} {F0 F1 : Nat → Option va_E} {t : List Nat} {o : Bool × Nat × Tm} {q : Nat} {x : Tm} (e : o = (true, q, x)) (h : CR c0 F0 t x.1 x.2.1 (nI x.2.2.1) x.2.2.2.1 x.2.2.2.2 0 (nI t.length) F1) : tP c0 n z F0 t o (some (.int 0)) (hp c0 n z F1) := by
  subst e
  unfold tP
  rw [if_pos rfl]
  exact ⟨rfl, F1, rfl, h⟩
theorem tP_f {c0 n z : Nat} {F0 F1 : Nat → Option va_E} {t : List Nat} {o : Bool × Nat × Tm} {s p ft : Int32} {nu : Int64} {bd tl : List Nat} (e : ¬ o.1 = true) (hf : ft ≠ 0) (h : CR c0 F0 t s nu p bd tl ft (nI o.2.1) F1) : tP c0 n z F0 t o (some (.int ft)) (hp c0 n z F1) := by
  unfold tP
  rw [if_neg e]
  exact ⟨ft, hf, rfl, F1, rfl, _, _, _, _, _, h⟩
theorem sTx_le (t : List Nat) (ht : t.length ≤ 240) : (sTx t).2.1 ≤ 400 := by
  unfold sTx
  split
  · by_cases h0 : 1 ≤ t.length
    · have h1 := sI_le t t.length 1 [] h0
      unfold sTx2
      split
      · next e => have := hb_in (t := t) (q := (sI t t.length 1 []).2.1) (by rw [e]; decide); have := sT_le t (t.length - ((sI t t.length 1 []).2.1 + 1)) ((sI t t.length 1 []).2.1 + 1) 0 true [] (by omega); show (sT _ _ _ _ _ _).2.1 ≤ 400; omega
      · split
        · split
          · exact sNa_le t _ (by omega) ht
          · dsimp only; omega
        · dsimp only; omega
    · have hz : t.length = 0 := by omega
      next hh => rw [hz] at hh; exact absurd hh (by simp [sI])
  · by_cases h0 : 1 ≤ t.length
    · have h1 := sI_le t t.length 1 [] h0
      dsimp only; omega
    · have hz : t.length = 0 := by omega
      rw [hz]; simp [sI, hz]
theorem sNu1_s (l : List Nat) (st : Nat) (v : Int64) : (sNu1 l st v).2.2.1 = 3 ∨ (sNu1 l st v).2.2.1 = 4 ∨ (sNu1 l st v).2.2.1 = 0 := by
  unfold sNu1 sNu2
  dsimp only
  repeat' split
  all_goals first | exact Or.inl rfl | exact Or.inr (Or.inl rfl) | exact Or.inr (Or.inr rfl)
theorem sTr_s (l : List Nat) (k : Nat) (tv : Int32) : (sTr l k tv).2.2.1 = 8 ∨ (sTr l k tv).2.2.1 = 0 := by
  unfold sTr
  repeat' split
  all_goals first | exact Or.inl rfl | exact Or.inr rfl
theorem sP_s (l : List Nat) : (sP l).2.2.1 = 3 ∨ (sP l).2.2.1 = 4 ∨ (sP l).2.2.1 = 8 ∨ (sP l).2.2.1 = 0 := by
  have h1 := sNu1_s l (sgn0 l) 0
  unfold sP
  repeat' split
  · rcases sTr_s l 0 1 with h | h <;> simp [h]
  · rcases sTr_s l 1 0 with h | h <;> simp [h]
  · simp
  · rcases h1 with h | h | h <;> simp [h]
  · rcases h1 with h | h | h <;> simp [h]
theorem sA_7 (t : List Nat) : (sA t).2.2.1 = 7 → (sA t).2.2.2.1 = 0 ∧ (sA t).2.2.2.2.1 = 0 := by
  unfold sA
  repeat' split
  · intro _; exact ⟨rfl, rfl⟩
  · intro h; exact absurd (show (2 : Int32) = 7 from h) (by decide)
  · intro h; exact absurd (show (1 : Int32) = 7 from h) (by decide)
  · intro h
    have h' : (sP t).2.2.1 = 7 := h
    rcases sP_s t with e | e | e | e <;> (rw [e] at h'; exact absurd h' (by decide))
theorem sA_le (t : List Nat) (ht : t.length ≤ 240) : (sA t).2.1 ≤ 400 := by
  unfold sA
  repeat' split
  · exact sTx_le t ht
  · exact sNa_le t 0 (by omega) ht
  · exact sBk_le t ht
  · exact sP_le t ht
theorem sSe_le (b tl : List Nat) (q : Nat) (h : q ≤ 400) : (sSe b tl q).2.1 ≤ 400 := by
  unfold sSe
  repeat' split
  all_goals first | exact h | decide
set_option maxRecDepth 100000 in
set_option maxHeartbeats 2000000 in
theorem cr_term_t {X : ev_X} {c0 n z : Nat} {F0 : Nat → Option va_E} {t : List Nat} {F : Nat → Option va_E} {q : Nat} {x : Tm} (hq : q ≤ 400) (hC : CR c0 F0 t x.1 x.2.1 (nI x.2.2.1) x.2.2.2.1 x.2.2.2.2 0 (nI t.length) F) : Ex X m_Reader_readTerm 52 [.ref (c0 + 8), .ref (c0 + 1), .int (nI q)] [] (hp c0 n z F) (tP c0 n z F0 t (sAll2 t (true, q, x))) := by
  have hl := hC.rt.le
  refine Ex.nx rfl ?_
  refine Ex.nx rfl ?_
  refine Ex.nx rfl ?_
  refine Ex.ite (fun c1 => ?_) (fun c1 => ?_)
  · replace c1 : (nI q) = (-1) := of_decide_eq_true c1
    exact absurd c1 (nI_nm1 (by omega))
  · replace c1 : ¬ (nI q) = (-1) := of_decide_eq_false c1
    show Ex X m_Reader_readTerm 57 [.ref (c0 + 8), .ref (c0 + 1), .int (nI q)] [] (hp c0 n _ _) _
    refine Ex.nx rfl ?_
    refine Ex.nx rfl ?_
    refine CR.sz hC (Or.inl ⟨rfl, rfl⟩) rfl rfl rfl ?_
    show Ex X m_Reader_readTerm 62 [.ref (c0 + 8), .ref (c0 + 1), .int (nI q)] [.int (nI t.length), .int (nI q)] (hp c0 n _ _) _
    refine Ex.nx rfl ?_
    refine Ex.ite (fun c2 => ?_) (fun c2 => ?_)
    · replace c2 : (nI t.length) ≤ (nI q) := of_decide_eq_true c2
      show Ex X m_Reader_readTerm 73 [.ref (c0 + 8), .ref (c0 + 1), .int (nI q)] [] (hp c0 n _ _) _
      refine Ex.nx rfl ?_
      refine Hx.get 8 rfl hC.r8 rfl ?_
      exact Ex.ret rfl (ev_reti rfl) (tP_t ((if_pos rfl).trans (if_neg (show ¬ q < t.length by have := (nI_leI (by omega) (by omega)).mp c2; omega))) hC)
    · replace c2 : ¬ (nI t.length) ≤ (nI q) := of_decide_eq_false c2
      show Ex X m_Reader_readTerm 65 [.ref (c0 + 8), .ref (c0 + 1), .int (nI q)] [] (hp c0 n _ _) _
      refine Ex.nx rfl ?_
      refine Ex.nx rfl ?_
      refine Ex.nx rfl ?_
      refine CR.rd hC rfl rfl rfl rfl (cr_fail hC 8 (nI q)) ?_
      rintro v h1 ⟨rfl, F14, rfl, hC14⟩
      show Ex X m_Reader_readTerm 72 [.ref (c0 + 8), .ref (c0 + 1), .int (nI q)] [.int (-1)] (hp c0 n _ _) _
      refine Ex.nx rfl ?_
      refine Ex.nx rfl ?_
      refine Hx.get 8 rfl hC14.r8 rfl ?_
      have e : sAll2 t (true, q, x) = (false, q, 0, 0, 0, [], []) := (if_pos rfl).trans (if_pos (Nat.lt_of_not_le (fun e => c2 ((nI_leI (by omega) (by omega)).mpr e))))
      rw [e]
      exact Ex.ret rfl (ev_reti rfl) (tP_f Bool.false_ne_true (by decide) hC14)
set_option maxRecDepth 100000 in
set_option maxHeartbeats 2000000 in
theorem cr_term_e {X : ev_X} {c0 n z : Nat} {F0 : Nat → Option va_E} {t : List Nat} {F : Nat → Option va_E} {o : Bool × Nat × Tm} (he : ¬ o.1 = true) (hE : CE c0 F0 t o.2.1 F) : Ex X m_Reader_readTerm 52 [.ref (c0 + 8), .ref (c0 + 1), .int (-1)] [] (hp c0 n z F) (tP c0 n z F0 t o) := by
  obtain ⟨s1, nu1, p1, bd1, tl1, ft1, hft, hC⟩ := hE
  refine Ex.nx rfl ?_
  refine Ex.nx rfl ?_
  refine Ex.nx rfl ?_
  show Ex X m_Reader_readTerm 73 [.ref (c0 + 8), .ref (c0 + 1), .int (-1)] [] (hp c0 n _ _) _
  refine Ex.nx rfl ?_
  refine Hx.get 8 rfl hC.r8 rfl ?_
  exact Ex.ret rfl (ev_reti rfl) (tP_f he hft hC)
set_option maxRecDepth 100000 in
set_option maxHeartbeats 2000000 in
theorem cr_term_s {X : ev_X} {c0 n z : Nat} (hS : XS X c0) {F0 : Nat → Option va_E} {t : List Nat} {F : Nat → Option va_E} {bd tl : List Nat} {q : Nat} (hq : q ≤ 400) (hC : CR c0 F0 t 7 0 0 bd tl 0 (nI t.length) F) : Ex X m_Reader_readTerm 46 [.ref (c0 + 8), .ref (c0 + 1), .int (nI q)] [] (hp c0 n z F) (tP c0 n z F0 t (sAll2 t (sSe bd tl q))) := by
  have hl := hC.rt.le
  refine Ex.nx rfl ?_
  refine Ex.nx rfl ?_
  have hz := sSe_le bd tl q (by omega)
  refine CR.rd hC rfl rfl rfl rfl (cr_settle hS (by omega) hC) ?_
  generalize sSe bd tl q = o at hz ⊢
  obtain ⟨b, y, x⟩ := o
  dsimp only at hz
  cases b
  · rintro v h1 ⟨rfl, F1, rfl, hE⟩
    refine Ex.nx rfl ?_
    exact cr_term_e (o := sAll2 t (false, y, x)) Bool.false_ne_true hE
  rintro v h1 ⟨rfl, F1, rfl, hC1⟩
  refine Ex.nx rfl ?_
  exact cr_term_t (by omega) hC1
set_option maxRecDepth 100000 in
set_option maxHeartbeats 2000000 in
theorem cr_term {X : ev_X} {c0 n z : Nat} (hS : XS X c0) {F0 : Nat → Option va_E} {t : List Nat} {s p ft fp : Int32} {nu : Int64} {bd tl : List Nat} {F : Nat → Option va_E} (hC : CR c0 F0 t s nu p bd tl ft fp F) : Ex X m_Reader_readTerm 0 [.ref (c0 + 8), .ref (c0 + 1), ev_dead] [] (hp c0 n z F) (tP c0 n z F0 t (sAll t)) := by
  have hl := hC.rt.le
  refine Ex.nx rfl ?_
  refine Hx.get 8 rfl hC.r8 rfl ?_
  refine Ex.nx rfl ?_
  refine Ex.nx rfl ?_
  refine Ex.nx rfl ?_
  refine Hx.callX 3 rfl rfl hC.r3 rfl rfl (cr_become hC 0 0 0) ?_
  rintro v h1 ⟨rfl, F16, rfl, hC16⟩
  show Ex X m_Reader_readTerm 10 [.ref (c0 + 8), .ref (c0 + 1), ev_dead] [] (hp c0 n _ _) _
  refine Ex.nx rfl ?_
  refine Ex.nx rfl ?_
  refine CR.pf hC16 rfl ?_
  intro F17 hC17
  show Ex X m_Reader_readTerm 15 [.ref (c0 + 8), .ref (c0 + 1), ev_dead] [] (hp c0 n _ _) _
  refine Ex.nx rfl ?_
  refine Ex.nx rfl ?_
  refine CR.sz hC17 (Or.inl ⟨rfl, rfl⟩) rfl rfl rfl ?_
  show Ex X m_Reader_readTerm 20 [.ref (c0 + 8), .ref (c0 + 1), ev_dead] [.int (nI t.length), .ref (c0 + 8)] (hp c0 n _ _) _
  refine CR.pq hC17 rfl ?_
  intro F18 hC18
  show Ex X m_Reader_readTerm 23 [.ref (c0 + 8), .ref (c0 + 1), ev_dead] [] (hp c0 n _ _) _
  refine Ex.nx rfl ?_
  refine Ex.nx rfl ?_
  have hAl := sA_le t hl
  have h7 := sA_7 t
  refine CR.rd hC18 rfl rfl rfl rfl (cr_any hS hC18) ?_
  unfold sAll
  generalize sA t = o at hAl h7 ⊢
  obtain ⟨b19, y19, x19⟩ := o
  dsimp only at hAl h7
  cases b19
  · rintro v h1 ⟨rfl, F19, rfl, hE⟩
    show Ex X m_Reader_readTerm 28 [.ref (c0 + 8), .ref (c0 + 1), ev_dead] [.int (-1)] (hp c0 n _ _) _
    refine Ex.nx rfl ?_
    show Ex X m_Reader_readTerm 29 [.ref (c0 + 8), .ref (c0 + 1), .int (-1)] [] (hp c0 n _ _) _
    refine Ex.nx rfl ?_
    refine Ex.nx rfl ?_
    refine Ex.nx rfl ?_
    show Ex X m_Reader_readTerm 52 [.ref (c0 + 8), .ref (c0 + 1), .int (-1)] [] (hp c0 n _ _) _
    show Ex X m_Reader_readTerm 52 [.ref (c0 + 8), .ref (c0 + 1), .int (-1)] [] (hp c0 n _ _) _
    exact cr_term_e (o := sAll2 t (sAll1 (false, y19, x19))) Bool.false_ne_true hE
  rintro v h1 ⟨rfl, F19, rfl, hC19⟩
  dsimp only at hC19
  show Ex X m_Reader_readTerm 28 [.ref (c0 + 8), .ref (c0 + 1), ev_dead] [.int (nI y19)] (hp c0 n _ _) _
  refine Ex.nx rfl ?_
  show Ex X m_Reader_readTerm 29 [.ref (c0 + 8), .ref (c0 + 1), .int (nI y19)] [] (hp c0 n _ _) _
  refine Ex.nx rfl ?_
  refine Ex.nx rfl ?_
  refine Ex.nx rfl ?_
  refine Ex.ite (fun c1 => ?_) (fun c1 => ?_)
  · replace c1 : (nI y19) = (-1) := of_decide_eq_true c1
    exact absurd c1 (nI_nm1 (by omega))
  · replace c1 : ¬ (nI y19) = (-1) := of_decide_eq_false c1
    show Ex X m_Reader_readTerm 34 [.ref (c0 + 8), .ref (c0 + 1), .int (nI y19)] [] (hp c0 n _ _) _
    refine Ex.nx rfl ?_
    refine Hx.get 8 rfl hC19.r8 rfl ?_
    refine Hx.get 3 rfl hC19.r3 rfl ?_
    refine Ex.nx rfl ?_
    refine Ex.nx rfl ?_
    refine Ex.ite (fun c2 => ?_) (fun c2 => ?_)
    · replace c2 : ¬ x19.1 = 7 := of_decide_eq_true c2
      have e7 : sAll1 (true, y19, x19) = (true, y19, x19) := (if_pos rfl).trans (if_neg c2)
      show Ex X m_Reader_readTerm 52 [.ref (c0 + 8), .ref (c0 + 1), .int (nI y19)] [] (hp c0 n _ _) _
      show Ex X m_Reader_readTerm 52 [.ref (c0 + 8), .ref (c0 + 1), .int (nI y19)] [] (hp c0 n _ _) _
      rw [e7]
      exact cr_term_t (by omega) hC19
    · replace c2 : x19.1 = 7 := Classical.not_not.mp (of_decide_eq_false c2)
      show Ex X m_Reader_readTerm 46 [.ref (c0 + 8), .ref (c0 + 1), .int (nI y19)] [] (hp c0 n _ _) _
      show Ex X m_Reader_readTerm 46 [.ref (c0 + 8), .ref (c0 + 1), .int (nI y19)] [] (hp c0 n _ _) _
      obtain ⟨z1, z2, z3, z4, z5⟩ := x19
      dsimp only at hC19 c2 h7
      obtain ⟨g2, g3⟩ := h7 c2
      have e7 : sAll1 (true, y19, z1, z2, z3, z4, z5) = sSe z4 z5 y19 := (if_pos rfl).trans (if_pos c2)
      rw [e7]
      subst g2 g3
      rw [c2] at hC19
      exact cr_term_s hS (by omega) hC19
end
section
/-! Rows and terms of the class, compared. (rows laid by wip/whole/tm1.py) -/
theorem Hx.min {X : ev_X} {M pc nx b w idx : Nat} {A r : List Value} {Q : Option Value → ev_H → Prop} {h : ev_H} {x y : Int32} (o : pg_ops M pc = some (.invokestatic idx, nx, 56, b, w)) (hs : Nat.ble (r.map fun v => v.category).sum 8 = true) (kk : Ex X M nx A (.int (if y < x then y else x) :: r) h Q) : Ex X M pc A (.int y :: .int x :: r) h Q :=
  Ex.hp o rfl rfl rfl rfl rfl (by simp only [ev_hp, ev_math]; rw [if_pos (Nat.le_of_ble_eq_true hs)]; rfl) kk
theorem nI_min {a b : Nat} (ha : a < 2 ^ 31) (hb : b < 2 ^ 31) : (if nI b < nI a then nI b else nI a) = nI (min a b) := by
  by_cases h : b < a
  · rw [if_pos ((nI_ltI hb ha).mpr h), Nat.min_eq_right (by omega)]
  · rw [if_neg (fun q => h ((nI_ltI hb ha).mp q)), Nat.min_eq_left (by omega)]
def cmpL (a b : Int64) : Int32 := if lg_cmp a b < 0 then -1 else if 0 < lg_cmp a b then 1 else 0
/-- the order of two rows of bytes, from i on -/
def ordI (l m : List Nat) : Nat → Nat → Int32
  | 0, _ => cmpL (nI l.length).toInt64 (nI m.length).toInt64
  | d + 1, i => if hb l i = hb m i then ordI l m d (i + 1) else if hb l i < hb m i then -1 else 1
def ordL (l m : List Nat) : Int32 := ordI l m (min l.length m.length) 0
set_option maxRecDepth 100000 in
set_option maxHeartbeats 2000000 in
theorem sx_cmp (X : ev_X) (a b : Int64) : Sx X m_Tab_compareNumbers 0 [.long a, ev_dead, .long b, ev_dead] [] (fun r => r = some (.int (cmpL a b))) := by
  refine Sx.go (fun _ => rfl) ?_
  refine Sx.go (fun _ => rfl) ?_
  refine Sx.go (fun _ => rfl) ?_
  refine Sx.go (fun _ => rfl) ?_
  refine Sx.ite (fun c1 => ?_) (fun c1 => ?_)
  · replace c1 : 0 ≤ (lg_cmp a b) := of_decide_eq_true c1
    show Sx X m_Tab_compareNumbers 10 [.long a, ev_dead, .long b, ev_dead] [] _
    refine Sx.go (fun _ => rfl) ?_
    refine Sx.go (fun _ => rfl) ?_
    refine Sx.go (fun _ => rfl) ?_
    refine Sx.go (fun _ => rfl) ?_
    refine Sx.ite (fun c2 => ?_) (fun c2 => ?_)
    · replace c2 : (lg_cmp a b) ≤ 0 := of_decide_eq_true c2
      show Sx X m_Tab_compareNumbers 20 [.long a, ev_dead, .long b, ev_dead] [] _
      refine Sx.go (fun _ => rfl) ?_
      exact Sx.ret rfl (ev_reti rfl) (by rw [cmpL, if_neg (Int32.not_lt.mpr c1), if_neg (Int32.not_lt.mpr c2)] <;> rfl)
    · replace c2 : ¬ (lg_cmp a b) ≤ 0 := of_decide_eq_false c2
      show Sx X m_Tab_compareNumbers 16 [.long a, ev_dead, .long b, ev_dead] [] _
      refine Sx.go (fun _ => rfl) ?_
      refine Sx.go (fun _ => rfl) ?_
      exact Sx.ret rfl (ev_reti rfl) (by rw [cmpL, if_neg (Int32.not_lt.mpr c1), if_pos (Int32.not_le.mp c2)] <;> rfl)
  · replace c1 : ¬ 0 ≤ (lg_cmp a b) := of_decide_eq_false c1
    show Sx X m_Tab_compareNumbers 6 [.long a, ev_dead, .long b, ev_dead] [] _
    refine Sx.go (fun _ => rfl) ?_
    refine Sx.go (fun _ => rfl) ?_
    exact Sx.ret rfl (ev_reti rfl) (by rw [cmpL, if_pos (Int32.not_le.mp c1)] <;> rfl)
set_option maxRecDepth 100000 in
set_option maxHeartbeats 2000000 in
theorem rl_or_l {X : ev_X} {c0 n z : Nat} {F : Nat → Option va_E} {k ka N j ja N1 : Nat} {l m : List Nat} (hN : N ≤ 1000) (hN1 : N1 ≤ 1000) (h : rowL c0 F k ka N l) (g : rowL c0 F j ja N1 m) {e : Nat} (he : e ≤ 1000) : ∀ (d i : Nat) (hm : i + d = e), Ex X m_Row_orderTo 14 [.ref (c0 + k), .ref (c0 + j), .int (nI e), .int (nI i)] [] (hp c0 n z F) (fun r h' => r = some (.int (ordI l m d i)) ∧ h' = hp c0 n z F) := by
  obtain ⟨f1, hF, -⟩ := id h
  obtain ⟨f2, gF, -⟩ := id g
  have hl := h.le
  have gl := g.le
  intro d
  induction d with
  | zero =>
    intro i hm
    refine Ex.nx rfl ?_
    refine Ex.nx rfl ?_
    refine Ex.nx rfl ?_
    refine Ex.ite (fun c1 => ?_) (fun c1 => ?_)
    · replace c1 : (nI e) ≤ (nI i) := of_decide_eq_true c1
      show Ex X m_Row_orderTo 57 [.ref (c0 + k), .ref (c0 + j), .int (nI e), .int (nI i)] [] (hp c0 n _ _) _
      refine Ex.nx rfl ?_
      refine Hx.get k rfl hF rfl ?_
      refine Ex.nx rfl ?_
      refine Ex.nx rfl ?_
      refine Hx.get j rfl gF rfl ?_
      refine Ex.nx rfl ?_
      refine Hx.calls rfl rfl rfl rfl (sx_cmp X ((nI l.length).toInt64) ((nI m.length).toInt64)) (fun v hv => ?_)
      subst hv
      show Ex X m_Row_orderTo 70 [.ref (c0 + k), .ref (c0 + j), .int (nI e), .int (nI i)] [.int (cmpL ((nI l.length).toInt64) ((nI m.length).toInt64))] (hp c0 n _ _) _
      exact Ex.ret rfl (ev_reti rfl) ⟨rfl, rfl⟩
    · replace c1 : ¬ (nI e) ≤ (nI i) := of_decide_eq_false c1
      exact absurd (show nI e ≤ nI i by rw [show i = e by omega]; exact Int32.le_refl _) c1
  | succ d ih =>
    intro i hm
    refine Ex.nx rfl ?_
    refine Ex.nx rfl ?_
    refine Ex.nx rfl ?_
    refine Ex.ite (fun c1 => ?_) (fun c1 => ?_)
    · replace c1 : (nI e) ≤ (nI i) := of_decide_eq_true c1
      exact absurd ((nI_leI (by omega) (by omega)).mp c1) (by omega)
    · replace c1 : ¬ (nI e) ≤ (nI i) := of_decide_eq_false c1
      show Ex X m_Row_orderTo 19 [.ref (c0 + k), .ref (c0 + j), .int (nI e), .int (nI i)] [] (hp c0 n _ _) _
      refine Ex.nx rfl ?_
      refine Ex.nx rfl ?_
      refine Hx.rowE h rfl rfl rfl rfl (rl_at h hN (i := i) (by omega)) ?_
      show Ex X m_Row_orderTo 24 [.ref (c0 + k), .ref (c0 + j), .int (nI e), .int (nI i)] [.int (hb l i)] (hp c0 n _ _) _
      refine Ex.nx rfl ?_
      refine Ex.nx rfl ?_
      refine Hx.rowE g rfl rfl rfl rfl (rl_at g hN1 (i := i) (by omega)) ?_
      show Ex X m_Row_orderTo 29 [.ref (c0 + k), .ref (c0 + j), .int (nI e), .int (nI i)] [.int (hb m i), .int (hb l i)] (hp c0 n _ _) _
      refine Ex.nx rfl ?_
      refine Ex.ite (fun c2 => ?_) (fun c2 => ?_)
      · replace c2 : (hb l i) = (hb m i) := of_decide_eq_true c2
        show Ex X m_Row_orderTo 51 [.ref (c0 + k), .ref (c0 + j), .int (nI e), .int (nI i)] [] (hp c0 n _ _) _
        refine Ex.nx rfl ?_
        show Ex X m_Row_orderTo 54 [.ref (c0 + k), .ref (c0 + j), .int (nI e), .int ((nI i) + 1)] [] (hp c0 n _ _) _
        refine Ex.nx rfl ?_
        show Ex X m_Row_orderTo 14 [.ref (c0 + k), .ref (c0 + j), .int (nI e), .int ((nI i) + 1)] [] (hp c0 n _ _) _
        rw [show nI i + 1 = nI (i + 1) from nI_1 i, show ordI l m (d + 1) i = ordI l m d (i + 1) from if_pos c2]
        exact ih (i + 1) (by omega)
      · replace c2 : ¬ (hb l i) = (hb m i) := of_decide_eq_false c2
        show Ex X m_Row_orderTo 32 [.ref (c0 + k), .ref (c0 + j), .int (nI e), .int (nI i)] [] (hp c0 n _ _) _
        refine Ex.nx rfl ?_
        refine Ex.nx rfl ?_
        refine Hx.rowE h rfl rfl rfl rfl (rl_at h hN (i := i) (by omega)) ?_
        show Ex X m_Row_orderTo 37 [.ref (c0 + k), .ref (c0 + j), .int (nI e), .int (nI i)] [.int (hb l i)] (hp c0 n _ _) _
        refine Ex.nx rfl ?_
        refine Ex.nx rfl ?_
        refine Hx.rowE g rfl rfl rfl rfl (rl_at g hN1 (i := i) (by omega)) ?_
        show Ex X m_Row_orderTo 42 [.ref (c0 + k), .ref (c0 + j), .int (nI e), .int (nI i)] [.int (hb m i), .int (hb l i)] (hp c0 n _ _) _
        refine Ex.nx rfl ?_
        refine Ex.ite (fun c3 => ?_) (fun c3 => ?_)
        · replace c3 : (hb m i) ≤ (hb l i) := of_decide_eq_true c3
          show Ex X m_Row_orderTo 49 [.ref (c0 + k), .ref (c0 + j), .int (nI e), .int (nI i)] [] (hp c0 n _ _) _
          refine Ex.nx rfl ?_
          exact Ex.ret rfl (ev_reti rfl) ⟨by rw [show ordI l m (d + 1) i = 1 from (if_neg c2).trans (if_neg (Int32.not_lt.mpr c3))]; rfl, rfl⟩
        · replace c3 : ¬ (hb m i) ≤ (hb l i) := of_decide_eq_false c3
          show Ex X m_Row_orderTo 45 [.ref (c0 + k), .ref (c0 + j), .int (nI e), .int (nI i)] [] (hp c0 n _ _) _
          refine Ex.nx rfl ?_
          refine Ex.nx rfl ?_
          exact Ex.ret rfl (ev_reti rfl) ⟨by rw [show ordI l m (d + 1) i = -1 from (if_neg c2).trans (if_pos (Int32.not_le.mp c3))]; rfl, rfl⟩
set_option maxRecDepth 100000 in
set_option maxHeartbeats 2000000 in
theorem rl_order {X : ev_X} {c0 n z : Nat} {F : Nat → Option va_E} {k ka N j ja N1 : Nat} {l m : List Nat} (hN : N ≤ 1000) (hN1 : N1 ≤ 1000) (h : rowL c0 F k ka N l) (g : rowL c0 F j ja N1 m) : Ex X m_Row_orderTo 0 [.ref (c0 + k), .ref (c0 + j), ev_dead, ev_dead] [] (hp c0 n z F) (fun r h' => r = some (.int (ordL l m)) ∧ h' = hp c0 n z F) := by
  obtain ⟨f1, hF, -⟩ := id h
  obtain ⟨f2, gF, -⟩ := id g
  have hl := h.le
  have gl := g.le
  refine Ex.nx rfl ?_
  refine Hx.get k rfl hF rfl ?_
  refine Ex.nx rfl ?_
  refine Hx.get j rfl gF rfl ?_
  refine Hx.min rfl rfl ?_
  refine Hx.top (y := nI (min l.length m.length)) (nI_min (by omega) (by omega)) ?_
  show Ex X m_Row_orderTo 11 [.ref (c0 + k), .ref (c0 + j), ev_dead, ev_dead] [.int (nI (min l.length m.length))] (hp c0 n _ _) _
  refine Ex.nx rfl ?_
  show Ex X m_Row_orderTo 12 [.ref (c0 + k), .ref (c0 + j), .int (nI (min l.length m.length)), ev_dead] [] (hp c0 n _ _) _
  refine Ex.nx rfl ?_
  refine Ex.nx rfl ?_
  show Ex X m_Row_orderTo 14 [.ref (c0 + k), .ref (c0 + j), .int (nI (min l.length m.length)), .int 0] [] (hp c0 n _ _) _
  show Ex X m_Row_orderTo 14 [.ref (c0 + k), .ref (c0 + j), .int (nI (min l.length m.length)), .int 0] [] (hp c0 n _ _) _
  exact rl_or_l hN hN1 h g (by omega) (min l.length m.length) 0 (by omega)
theorem cmpL_0 {a b : Int64} : cmpL a b = 0 ↔ a = b := by
  unfold cmpL
  constructor
  · intro h
    split at h
    · exact absurd h (by decide)
    · split at h
      · exact absurd h (by decide)
      · next h1 h2 =>
        rw [lgc_n, Int64.lt_iff_toInt_lt] at h1
        rw [lgc_p, Int64.lt_iff_toInt_lt] at h2
        exact Int64.toInt_inj.mp (by omega)
  · intro h
    rw [if_neg (by rw [lgc_n, h]; exact Int64.lt_irrefl), if_neg (by rw [lgc_p, h]; exact Int64.lt_irrefl)]
theorem ordI_hb {l m : List Nat} : ∀ (d i : Nat), ordI l m d i = 0 → ∀ x, i ≤ x → x < i + d → hb l x = hb m x := by
  intro d
  induction d with
  | zero => intro i _ x h1 h2; omega
  | succ d ih =>
    intro i h x h1 h2
    rw [ordI] at h
    split at h
    · next e =>
      by_cases q : x = i
      · rw [q]; exact e
      · exact ih (i + 1) h x (by omega) (by omega)
    · split at h <;> exact absurd h (by decide)
theorem ordI_rf {l : List Nat} : ∀ (d i : Nat), ordI l l d i = 0 := by
  intro d
  induction d with
  | zero => intro i; exact cmpL_0.mpr rfl
  | succ d ih => intro i; rw [ordI, if_pos rfl]; exact ih _
theorem ordL_eq {l m : List Nat} (h1 : ∀ i, l.getD i 0 < 256) (h2 : ∀ i, m.getD i 0 < 256) (hl : l.length = m.length) (h : ordL l m = 0) : l = m := by
  refine getD_ext0 hl (fun x hx => ?_)
  have e := ordI_hb _ _ h x (Nat.zero_le _) (by rw [← hl, Nat.min_self]; omega)
  rw [hb_lt hx, hb_lt (by omega)] at e
  exact (nI_eq (by have := h1 x; omega) (by have := h2 x; omega)).mp e
set_option maxRecDepth 100000 in
set_option maxHeartbeats 2000000 in
theorem rl_has {X : ev_X} {c0 n z : Nat} {F : Nat → Option va_E} {k ka N j ja N1 : Nat} {l m : List Nat} (hN : N ≤ 1000) (hN1 : N1 ≤ 1000) (h : rowL c0 F k ka N l) (g : rowL c0 F j ja N1 m) : Ex X m_Row_hasBytesOf 0 [.ref (c0 + k), .ref (c0 + j)] [] (hp c0 n z F) (fun r h' => r = some (.int (bi (decide (l = m)))) ∧ h' = hp c0 n z F) := by
  obtain ⟨f1, hF, -⟩ := id h
  obtain ⟨f2, gF, -⟩ := id g
  have hl := h.le
  have gl := g.le
  refine Ex.nx rfl ?_
  refine Hx.get k rfl hF rfl ?_
  refine Ex.nx rfl ?_
  refine Hx.get j rfl gF rfl ?_
  refine Ex.nx rfl ?_
  refine Ex.ite (fun c1 => ?_) (fun c1 => ?_)
  · replace c1 : ¬ (nI l.length) = (nI m.length) := of_decide_eq_true c1
    show Ex X m_Row_hasBytesOf 23 [.ref (c0 + k), .ref (c0 + j)] [] (hp c0 n _ _) _
    refine Ex.nx rfl ?_
    exact Ex.ret rfl rfl ⟨ret_0 (decide_eq_false (fun e => c1 (by rw [e]))), rfl⟩
  · replace c1 : (nI l.length) = (nI m.length) := Classical.not_not.mp (of_decide_eq_false c1)
    show Ex X m_Row_hasBytesOf 11 [.ref (c0 + k), .ref (c0 + j)] [] (hp c0 n _ _) _
    refine Ex.nx rfl ?_
    refine Ex.nx rfl ?_
    refine Hx.rowE h rfl rfl rfl rfl (rl_order hN hN1 h g) ?_
    show Ex X m_Row_hasBytesOf 16 [.ref (c0 + k), .ref (c0 + j)] [.int (ordL l m)] (hp c0 n _ _) _
    refine Ex.nx rfl ?_
    refine Ex.ite (fun c2 => ?_) (fun c2 => ?_)
    · replace c2 : ¬ (ordL l m) = 0 := of_decide_eq_true c2
      show Ex X m_Row_hasBytesOf 23 [.ref (c0 + k), .ref (c0 + j)] [] (hp c0 n _ _) _
      refine Ex.nx rfl ?_
      exact Ex.ret rfl rfl ⟨ret_0 (decide_eq_false (fun e => c2 (by rw [e]; exact ordI_rf _ _))), rfl⟩
    · replace c2 : (ordL l m) = 0 := Classical.not_not.mp (of_decide_eq_false c2)
      show Ex X m_Row_hasBytesOf 19 [.ref (c0 + k), .ref (c0 + j)] [] (hp c0 n _ _) _
      refine Ex.nx rfl ?_
      refine Ex.nx rfl ?_
      exact Ex.ret rfl rfl ⟨ret_1 (decide_eq_true (ordL_eq h.by g.by ((nI_eq (by omega) (by omega)).mp c1) c2)), rfl⟩
/-- a term's cells -/
def trm (c0 : Nat) (F : Nat → Option va_E) (k N1 N2 : Nat) (x : Tm) : Prop := F k = some (.inr (2, [.int x.1, .long x.2.1, .int (nI x.2.2.1), .ref (c0 + (k + 1)), .ref (c0 + (k + 3))])) ∧ rowL c0 F (k + 1) (k + 2) N1 x.2.2.2.1 ∧ rowL c0 F (k + 3) (k + 4) N2 x.2.2.2.2 ∧ N1 ≤ 1000 ∧ N2 ≤ 1000 ∧ x.2.2.1 ≤ 20
def dv : Nat → Int64 → Int64
  | 0, v => v
  | p + 1, v => dv p (v / 10)
def ml : Nat → Int64 → Int64
  | 0, v => v
  | p + 1, v => ml p (v * 10)
def wpt (x : Tm) : Int64 := dv x.2.2.1 x.2.1
def bln (x : Tm) : Int64 := ml (9 - x.2.2.1) (x.2.1 - ml x.2.2.1 (wpt x))
def rkT (x : Tm) : Int32 := if x.1 = 4 then 3 else x.1
def vlT (x y : Tm) : Int32 := if cmpL (wpt x) (wpt y) = 0 then (if cmpL (bln x) (bln y) = 0 then ordL x.2.2.2.1 y.2.2.2.1 else cmpL (bln x) (bln y)) else cmpL (wpt x) (wpt y)
def orT (x y : Tm) : Int32 := if cmpL (rkT x).toInt64 (rkT y).toInt64 = 0 then (if vlT x y = 0 then (if cmpL x.1.toInt64 y.1.toInt64 = 0 then ordL x.2.2.2.2 y.2.2.2.2 else cmpL x.1.toInt64 y.1.toInt64) else vlT x y) else cmpL (rkT x).toInt64 (rkT y).toInt64
def hls (x : Tm) : Bool := decide (rkT x = 3) || decide (x.1 = 5) || decide (x.1 = 8)
def str (x y : Tm) : Bool := decide (x.1 = 7) && !decide (y.1 < 3) && !decide (8 < y.1)
set_option maxRecDepth 100000 in
set_option maxHeartbeats 2000000 in
theorem tm_rank {X : ev_X} {c0 n z : Nat} {F : Nat → Option va_E} {k N1 N2 : Nat} {x : Tm} (h : trm c0 F k N1 N2 x) : Ex X m_Term_rank 0 [.ref (c0 + k)] [] (hp c0 n z F) (fun r h' => r = some (.int (rkT x)) ∧ h' = hp c0 n z F) := by
  refine Ex.nx rfl ?_
  refine Hx.get k rfl h.1 rfl ?_
  refine Ex.nx rfl ?_
  refine Ex.nx rfl ?_
  refine Ex.ite (fun c1 => ?_) (fun c1 => ?_)
  · replace c1 : ¬ x.1 = 4 := of_decide_eq_true c1
    show Ex X m_Term_rank 12 [.ref (c0 + k)] [] (hp c0 n _ _) _
    refine Ex.nx rfl ?_
    refine Hx.get k rfl h.1 rfl ?_
    exact Ex.ret rfl (ev_reti rfl) ⟨by rw [rkT, if_neg c1] <;> rfl, rfl⟩
  · replace c1 : x.1 = 4 := Classical.not_not.mp (of_decide_eq_false c1)
    show Ex X m_Term_rank 8 [.ref (c0 + k)] [] (hp c0 n _ _) _
    refine Ex.nx rfl ?_
    refine Ex.nx rfl ?_
    exact Ex.ret rfl (ev_reti rfl) ⟨by rw [rkT, if_pos c1] <;> rfl, rfl⟩
theorem lgc_rf (a : Int64) : lg_cmp a a = 0 := by
  unfold lg_cmp
  rw [if_neg (show ¬ a > a from Int64.lt_irrefl), if_pos rfl]
theorem tm_ext {x y : Tm} (h1 : x.1 = y.1) (h2 : x.2.1 = y.2.1) (h3 : x.2.2.1 = y.2.2.1) (h4 : x.2.2.2.1 = y.2.2.2.1) (h5 : x.2.2.2.2 = y.2.2.2.2) : x = y := by
  obtain ⟨a, b, c, d, e⟩ := x
  obtain ⟨a', b', c', d', e'⟩ := y
  simp only at h1 h2 h3 h4 h5
  rw [h1, h2, h3, h4, h5]
set_option maxRecDepth 100000 in
set_option maxHeartbeats 2000000 in
theorem tm_one {X : ev_X} {c0 n z : Nat} {F : Nat → Option va_E} {k N1 N2 : Nat} {x : Tm} (h : trm c0 F k N1 N2 x) {j N3 N4 : Nat} {y : Tm} (g : trm c0 F j N3 N4 y) : Ex X m_Term_isOneWith 0 [.ref (c0 + k), .ref (c0 + j)] [] (hp c0 n z F) (fun r h' => r = some (.int (bi (decide (x = y)))) ∧ h' = hp c0 n z F) := by
  refine Ex.nx rfl ?_
  refine Hx.get k rfl h.1 rfl ?_
  refine Ex.nx rfl ?_
  refine Hx.get j rfl g.1 rfl ?_
  refine Ex.nx rfl ?_
  refine Ex.ite (fun c1 => ?_) (fun c1 => ?_)
  · replace c1 : ¬ x.1 = y.1 := of_decide_eq_true c1
    show Ex X m_Term_isOneWith 66 [.ref (c0 + k), .ref (c0 + j)] [] (hp c0 n _ _) _
    refine Ex.nx rfl ?_
    exact Ex.ret rfl rfl ⟨ret_0 (decide_eq_false (fun e => c1 (by rw [e]))), rfl⟩
  · replace c1 : x.1 = y.1 := Classical.not_not.mp (of_decide_eq_false c1)
    show Ex X m_Term_isOneWith 11 [.ref (c0 + k), .ref (c0 + j)] [] (hp c0 n _ _) _
    refine Ex.nx rfl ?_
    refine Hx.get k rfl h.1 rfl ?_
    refine Ex.nx rfl ?_
    refine Hx.get j rfl g.1 rfl ?_
    refine Ex.nx rfl ?_
    refine Ex.nx rfl ?_
    refine Ex.ite (fun c2 => ?_) (fun c2 => ?_)
    · replace c2 : ¬ (lg_cmp x.2.1 y.2.1) = 0 := of_decide_eq_true c2
      show Ex X m_Term_isOneWith 66 [.ref (c0 + k), .ref (c0 + j)] [] (hp c0 n _ _) _
      refine Ex.nx rfl ?_
      exact Ex.ret rfl rfl ⟨ret_0 (decide_eq_false (fun e => c2 (by rw [e]; exact lgc_rf _))), rfl⟩
    · replace c2 : (lg_cmp x.2.1 y.2.1) = 0 := Classical.not_not.mp (of_decide_eq_false c2)
      show Ex X m_Term_isOneWith 23 [.ref (c0 + k), .ref (c0 + j)] [] (hp c0 n _ _) _
      refine Ex.nx rfl ?_
      refine Hx.get k rfl h.1 rfl ?_
      refine Ex.nx rfl ?_
      refine Hx.get j rfl g.1 rfl ?_
      refine Ex.nx rfl ?_
      refine Ex.ite (fun c3 => ?_) (fun c3 => ?_)
      · replace c3 : ¬ (nI x.2.2.1) = (nI y.2.2.1) := of_decide_eq_true c3
        show Ex X m_Term_isOneWith 66 [.ref (c0 + k), .ref (c0 + j)] [] (hp c0 n _ _) _
        refine Ex.nx rfl ?_
        exact Ex.ret rfl rfl ⟨ret_0 (decide_eq_false (fun e => c3 (by rw [e]))), rfl⟩
      · replace c3 : (nI x.2.2.1) = (nI y.2.2.1) := Classical.not_not.mp (of_decide_eq_false c3)
        show Ex X m_Term_isOneWith 34 [.ref (c0 + k), .ref (c0 + j)] [] (hp c0 n _ _) _
        refine Ex.nx rfl ?_
        refine Hx.get k rfl h.1 rfl ?_
        refine Ex.nx rfl ?_
        refine Hx.get j rfl g.1 rfl ?_
        refine Hx.rowE h.2.1 rfl rfl rfl rfl (rl_has h.2.2.2.1 g.2.2.2.1 h.2.1 g.2.1) ?_
        show Ex X m_Term_isOneWith 45 [.ref (c0 + k), .ref (c0 + j)] [.int (bi (decide (x.2.2.2.1 = y.2.2.2.1)))] (hp c0 n _ _) _
        refine Ex.nx rfl ?_
        refine Ex.ite (fun c4 => ?_) (fun c4 => ?_)
        · replace c4 : (decide (x.2.2.2.1 = y.2.2.2.1)) = false := bi_eqt c4
          show Ex X m_Term_isOneWith 66 [.ref (c0 + k), .ref (c0 + j)] [] (hp c0 n _ _) _
          refine Ex.nx rfl ?_
          exact Ex.ret rfl rfl ⟨ret_0 (decide_eq_false (fun e => (of_decide_eq_false c4) (by rw [e]))), rfl⟩
        · replace c4 : (decide (x.2.2.2.1 = y.2.2.2.1)) = true := bi_eqf c4
          show Ex X m_Term_isOneWith 48 [.ref (c0 + k), .ref (c0 + j)] [] (hp c0 n _ _) _
          refine Ex.nx rfl ?_
          refine Hx.get k rfl h.1 rfl ?_
          refine Ex.nx rfl ?_
          refine Hx.get j rfl g.1 rfl ?_
          refine Hx.rowE h.2.2.1 rfl rfl rfl rfl (rl_has h.2.2.2.2.1 g.2.2.2.2.1 h.2.2.1 g.2.2.1) ?_
          show Ex X m_Term_isOneWith 59 [.ref (c0 + k), .ref (c0 + j)] [.int (bi (decide (x.2.2.2.2 = y.2.2.2.2)))] (hp c0 n _ _) _
          refine Ex.nx rfl ?_
          refine Ex.ite (fun c5 => ?_) (fun c5 => ?_)
          · replace c5 : (decide (x.2.2.2.2 = y.2.2.2.2)) = false := bi_eqt c5
            show Ex X m_Term_isOneWith 66 [.ref (c0 + k), .ref (c0 + j)] [] (hp c0 n _ _) _
            refine Ex.nx rfl ?_
            exact Ex.ret rfl rfl ⟨ret_0 (decide_eq_false (fun e => (of_decide_eq_false c5) (by rw [e]))), rfl⟩
          · replace c5 : (decide (x.2.2.2.2 = y.2.2.2.2)) = true := bi_eqf c5
            show Ex X m_Term_isOneWith 62 [.ref (c0 + k), .ref (c0 + j)] [] (hp c0 n _ _) _
            refine Ex.nx rfl ?_
            refine Ex.nx rfl ?_
            exact Ex.ret rfl rfl ⟨ret_1 (decide_eq_true (tm_ext c1 (lgc0 c2) ((nI_eq (by have := h.2.2.2.2.2; omega) (by have := g.2.2.2.2.2; omega)).mp c3) (of_decide_eq_true c4) (of_decide_eq_true c5))), rfl⟩
set_option maxRecDepth 100000 in
set_option maxHeartbeats 2000000 in
theorem tm_bytes {X : ev_X} {c0 n z : Nat} {F : Nat → Option va_E} {k N1 N2 : Nat} {x : Tm} (h : trm c0 F k N1 N2 x) : Ex X m_Term_bytes 0 [.ref (c0 + k)] [] (hp c0 n z F) (fun r h' => r = some (.int (nI (x.2.2.2.1.length + x.2.2.2.2.length))) ∧ h' = hp c0 n z F) := by
  refine Ex.nx rfl ?_
  refine Hx.get k rfl h.1 rfl ?_
  refine Hx.rowE h.2.1 rfl rfl rfl rfl (rl_size h.2.1) ?_
  show Ex X m_Term_bytes 7 [.ref (c0 + k)] [.int (nI x.2.2.2.1.length)] (hp c0 n _ _) _
  refine Ex.nx rfl ?_
  refine Hx.get k rfl h.1 rfl ?_
  refine Hx.rowE h.2.2.1 rfl rfl rfl rfl (rl_size h.2.2.1) ?_
  show Ex X m_Term_bytes 14 [.ref (c0 + k)] [.int (nI x.2.2.2.2.length), .int (nI x.2.2.2.1.length)] (hp c0 n _ _) _
  refine Ex.nx rfl ?_
  exact Ex.ret rfl (ev_reti rfl) ⟨by rw [nI_add], rfl⟩
set_option maxRecDepth 100000 in
set_option maxHeartbeats 2000000 in
theorem tm_wp_l {X : ev_X} {c0 n z : Nat} {F : Nat → Option va_E} {k N1 N2 : Nat} {x : Tm} (h : trm c0 F k N1 N2 x) : ∀ (d i : Nat) (v : Int64) (hm : i + d = x.2.2.1), Ex X m_Term_wholePart 7 [.ref (c0 + k), .long v, ev_dead, .int (nI i)] [] (hp c0 n z F) (fun r h' => r = some (.long (dv d v)) ∧ h' = hp c0 n z F) := by
  have hp20 := h.2.2.2.2.2
  intro d
  induction d with
  | zero =>
    intro i v hm
    refine Ex.nx rfl ?_
    refine Ex.nx rfl ?_
    refine Hx.get k rfl h.1 rfl ?_
    refine Ex.nx rfl ?_
    refine Ex.ite (fun c1 => ?_) (fun c1 => ?_)
    · replace c1 : (nI x.2.2.1) ≤ (nI i) := of_decide_eq_true c1
      show Ex X m_Term_wholePart 27 [.ref (c0 + k), .long v, ev_dead, .int (nI i)] [] (hp c0 n _ _) _
      refine Ex.nx rfl ?_
      exact Ex.ret rfl rfl ⟨rfl, rfl⟩
    · replace c1 : ¬ (nI x.2.2.1) ≤ (nI i) := of_decide_eq_false c1
      exact absurd (show nI x.2.2.1 ≤ nI i by rw [show i = x.2.2.1 by omega]; exact Int32.le_refl _) c1
  | succ d ih =>
    intro i v hm
    refine Ex.nx rfl ?_
    refine Ex.nx rfl ?_
    refine Hx.get k rfl h.1 rfl ?_
    refine Ex.nx rfl ?_
    refine Ex.ite (fun c1 => ?_) (fun c1 => ?_)
    · replace c1 : (nI x.2.2.1) ≤ (nI i) := of_decide_eq_true c1
      exact absurd ((nI_leI (by omega) (by omega)).mp c1) (by omega)
    · replace c1 : ¬ (nI x.2.2.1) ≤ (nI i) := of_decide_eq_false c1
      show Ex X m_Term_wholePart 15 [.ref (c0 + k), .long v, ev_dead, .int (nI i)] [] (hp c0 n _ _) _
      refine Ex.nx rfl ?_
      refine Ex.nx rfl ?_
      refine Ex.nx rfl ?_
      refine Ex.nx rfl ?_
      show Ex X m_Term_wholePart 21 [.ref (c0 + k), .long (v / 10), ev_dead, .int (nI i)] [] (hp c0 n _ _) _
      refine Ex.nx rfl ?_
      show Ex X m_Term_wholePart 24 [.ref (c0 + k), .long (v / 10), ev_dead, .int ((nI i) + 1)] [] (hp c0 n _ _) _
      refine Ex.nx rfl ?_
      show Ex X m_Term_wholePart 7 [.ref (c0 + k), .long (v / 10), ev_dead, .int ((nI i) + 1)] [] (hp c0 n _ _) _
      rw [show nI i + 1 = nI (i + 1) from nI_1 i]
      exact ih (i + 1) _ (by omega)
set_option maxRecDepth 100000 in
set_option maxHeartbeats 2000000 in
theorem tm_wp {X : ev_X} {c0 n z : Nat} {F : Nat → Option va_E} {k N1 N2 : Nat} {x : Tm} (h : trm c0 F k N1 N2 x) : Ex X m_Term_wholePart 0 [.ref (c0 + k), ev_dead, ev_dead, ev_dead] [] (hp c0 n z F) (fun r h' => r = some (.long (wpt x)) ∧ h' = hp c0 n z F) := by
  refine Ex.nx rfl ?_
  refine Hx.get k rfl h.1 rfl ?_
  refine Ex.nx rfl ?_
  show Ex X m_Term_wholePart 5 [.ref (c0 + k), .long x.2.1, ev_dead, ev_dead] [] (hp c0 n _ _) _
  refine Ex.nx rfl ?_
  refine Ex.nx rfl ?_
  show Ex X m_Term_wholePart 7 [.ref (c0 + k), .long x.2.1, ev_dead, .int 0] [] (hp c0 n _ _) _
  show Ex X m_Term_wholePart 7 [.ref (c0 + k), .long x.2.1, ev_dead, .int 0] [] (hp c0 n _ _) _
  exact tm_wp_l h x.2.2.1 0 x.2.1 (by omega)
set_option maxRecDepth 100000 in
set_option maxHeartbeats 2000000 in
theorem tm_b2_l {X : ev_X} {c0 n z : Nat} {F : Nat → Option va_E} {k N1 N2 : Nat} {x : Tm} (h : trm c0 F k N1 N2 x) (bv : Int64) : ∀ (d i : Nat) (v : Int64) (hm : 9 ≤ i + d) (hd : d = 9 - i) (hi : i ≤ 100), Ex X m_Term_billionths 40 [.ref (c0 + k), .long bv, ev_dead, .long v, ev_dead, .int (nI i)] [] (hp c0 n z F) (fun r h' => r = some (.long (ml d v)) ∧ h' = hp c0 n z F) := by
  intro d
  induction d with
  | zero =>
    intro i v hm hd hi
    refine Ex.nx rfl ?_
    refine Ex.nx rfl ?_
    refine Ex.nx rfl ?_
    refine Ex.ite (fun c1 => ?_) (fun c1 => ?_)
    · replace c1 : 9 ≤ (nI i) := of_decide_eq_true c1
      show Ex X m_Term_billionths 59 [.ref (c0 + k), .long bv, ev_dead, .long v, ev_dead, .int (nI i)] [] (hp c0 n _ _) _
      refine Ex.nx rfl ?_
      exact Ex.ret rfl rfl ⟨rfl, rfl⟩
    · replace c1 : ¬ 9 ≤ (nI i) := of_decide_eq_false c1
      exact absurd (show (9 : Int32) ≤ nI i from (nI_leI (a := 9) (by decide) (by omega)).mpr (by omega)) c1
  | succ d ih =>
    intro i v hm hd hi
    refine Ex.nx rfl ?_
    refine Ex.nx rfl ?_
    refine Ex.nx rfl ?_
    refine Ex.ite (fun c1 => ?_) (fun c1 => ?_)
    · replace c1 : 9 ≤ (nI i) := of_decide_eq_true c1
      exact absurd ((nI_leI (a := 9) (by decide) (by omega)).mp c1) (by omega)
    · replace c1 : ¬ 9 ≤ (nI i) := of_decide_eq_false c1
      show Ex X m_Term_billionths 47 [.ref (c0 + k), .long bv, ev_dead, .long v, ev_dead, .int (nI i)] [] (hp c0 n _ _) _
      refine Ex.nx rfl ?_
      refine Ex.nx rfl ?_
      refine Ex.nx rfl ?_
      refine Ex.nx rfl ?_
      show Ex X m_Term_billionths 53 [.ref (c0 + k), .long bv, ev_dead, .long (v * 10), ev_dead, .int (nI i)] [] (hp c0 n _ _) _
      refine Ex.nx rfl ?_
      show Ex X m_Term_billionths 56 [.ref (c0 + k), .long bv, ev_dead, .long (v * 10), ev_dead, .int ((nI i) + 1)] [] (hp c0 n _ _) _
      refine Ex.nx rfl ?_
      show Ex X m_Term_billionths 40 [.ref (c0 + k), .long bv, ev_dead, .long (v * 10), ev_dead, .int ((nI i) + 1)] [] (hp c0 n _ _) _
      rw [show nI i + 1 = nI (i + 1) from nI_1 i]
      exact ih (i + 1) _ (by omega) (by omega) (by omega)
set_option maxRecDepth 100000 in
set_option maxHeartbeats 2000000 in
theorem tm_b1_l {X : ev_X} {c0 n z : Nat} {F : Nat → Option va_E} {k N1 N2 : Nat} {x : Tm} (h : trm c0 F k N1 N2 x) : ∀ (d i : Nat) (v : Int64) (hm : i + d = x.2.2.1), Ex X m_Term_billionths 7 [.ref (c0 + k), .long v, ev_dead, .int (nI i), ev_dead, ev_dead] [] (hp c0 n z F) (fun r h' => r = some (.long (ml (9 - x.2.2.1) (x.2.1 - ml d v))) ∧ h' = hp c0 n z F) := by
  have hp20 := h.2.2.2.2.2
  intro d
  induction d with
  | zero =>
    intro i v hm
    refine Ex.nx rfl ?_
    refine Ex.nx rfl ?_
    refine Hx.get k rfl h.1 rfl ?_
    refine Ex.nx rfl ?_
    refine Ex.ite (fun c1 => ?_) (fun c1 => ?_)
    · replace c1 : (nI x.2.2.1) ≤ (nI i) := of_decide_eq_true c1
      show Ex X m_Term_billionths 27 [.ref (c0 + k), .long v, ev_dead, .int (nI i), ev_dead, ev_dead] [] (hp c0 n _ _) _
      refine Ex.nx rfl ?_
      refine Hx.get k rfl h.1 rfl ?_
      refine Ex.nx rfl ?_
      refine Ex.nx rfl ?_
      refine Ex.nx rfl ?_
      show Ex X m_Term_billionths 34 [.ref (c0 + k), .long v, ev_dead, .long (x.2.1 - v), ev_dead, ev_dead] [] (hp c0 n _ _) _
      refine Ex.nx rfl ?_
      refine Hx.get k rfl h.1 rfl ?_
      refine Ex.nx rfl ?_
      show Ex X m_Term_billionths 40 [.ref (c0 + k), .long v, ev_dead, .long (x.2.1 - v), ev_dead, .int (nI x.2.2.1)] [] (hp c0 n _ _) _
      show Ex X m_Term_billionths 40 [.ref (c0 + k), .long v, ev_dead, .long (x.2.1 - v), ev_dead, .int (nI x.2.2.1)] [] (hp c0 n _ _) _
      exact tm_b2_l h _ (9 - x.2.2.1) x.2.2.1 _ (by omega) rfl (by omega)
    · replace c1 : ¬ (nI x.2.2.1) ≤ (nI i) := of_decide_eq_false c1
      exact absurd (show nI x.2.2.1 ≤ nI i by rw [show i = x.2.2.1 by omega]; exact Int32.le_refl _) c1
  | succ d ih =>
    intro i v hm
    refine Ex.nx rfl ?_
    refine Ex.nx rfl ?_
    refine Hx.get k rfl h.1 rfl ?_
    refine Ex.nx rfl ?_
    refine Ex.ite (fun c1 => ?_) (fun c1 => ?_)
    · replace c1 : (nI x.2.2.1) ≤ (nI i) := of_decide_eq_true c1
      exact absurd ((nI_leI (by omega) (by omega)).mp c1) (by omega)
    · replace c1 : ¬ (nI x.2.2.1) ≤ (nI i) := of_decide_eq_false c1
      show Ex X m_Term_billionths 15 [.ref (c0 + k), .long v, ev_dead, .int (nI i), ev_dead, ev_dead] [] (hp c0 n _ _) _
      refine Ex.nx rfl ?_
      refine Ex.nx rfl ?_
      refine Ex.nx rfl ?_
      refine Ex.nx rfl ?_
      show Ex X m_Term_billionths 21 [.ref (c0 + k), .long (v * 10), ev_dead, .int (nI i), ev_dead, ev_dead] [] (hp c0 n _ _) _
      refine Ex.nx rfl ?_
      show Ex X m_Term_billionths 24 [.ref (c0 + k), .long (v * 10), ev_dead, .int ((nI i) + 1), ev_dead, ev_dead] [] (hp c0 n _ _) _
      refine Ex.nx rfl ?_
      show Ex X m_Term_billionths 7 [.ref (c0 + k), .long (v * 10), ev_dead, .int ((nI i) + 1), ev_dead, ev_dead] [] (hp c0 n _ _) _
      rw [show nI i + 1 = nI (i + 1) from nI_1 i]
      exact ih (i + 1) _ (by omega)
set_option maxRecDepth 100000 in
set_option maxHeartbeats 2000000 in
theorem tm_bl {X : ev_X} {c0 n z : Nat} {F : Nat → Option va_E} {k N1 N2 : Nat} {x : Tm} (h : trm c0 F k N1 N2 x) : Ex X m_Term_billionths 0 [.ref (c0 + k), ev_dead, ev_dead, ev_dead, ev_dead, ev_dead] [] (hp c0 n z F) (fun r h' => r = some (.long (bln x)) ∧ h' = hp c0 n z F) := by
  refine Ex.nx rfl ?_
  refine Hx.call k rfl rfl h.1 rfl rfl (tm_wp h) ?_
  show Ex X m_Term_billionths 4 [.ref (c0 + k), ev_dead, ev_dead, ev_dead, ev_dead, ev_dead] [.long (wpt x)] (hp c0 n _ _) _
  refine Ex.nx rfl ?_
  show Ex X m_Term_billionths 5 [.ref (c0 + k), .long (wpt x), ev_dead, ev_dead, ev_dead, ev_dead] [] (hp c0 n _ _) _
  refine Ex.nx rfl ?_
  refine Ex.nx rfl ?_
  show Ex X m_Term_billionths 7 [.ref (c0 + k), .long (wpt x), ev_dead, .int 0, ev_dead, ev_dead] [] (hp c0 n _ _) _
  show Ex X m_Term_billionths 7 [.ref (c0 + k), .long (wpt x), ev_dead, .int 0, ev_dead, ev_dead] [] (hp c0 n _ _) _
  exact tm_b1_l h x.2.2.1 0 _ (by omega)
set_option maxRecDepth 100000 in
set_option maxHeartbeats 2000000 in
theorem tm_val {X : ev_X} {c0 n z : Nat} {F : Nat → Option va_E} {k N1 N2 : Nat} {x : Tm} (h : trm c0 F k N1 N2 x) {j N3 N4 : Nat} {y : Tm} (g : trm c0 F j N3 N4 y) : Ex X m_Term_valueTo 0 [.ref (c0 + k), .ref (c0 + j), ev_dead, ev_dead] [] (hp c0 n z F) (fun r h' => r = some (.int (vlT x y)) ∧ h' = hp c0 n z F) := by
  refine Ex.nx rfl ?_
  refine Hx.call k rfl rfl h.1 rfl rfl (tm_wp h) ?_
  show Ex X m_Term_valueTo 4 [.ref (c0 + k), .ref (c0 + j), ev_dead, ev_dead] [.long (wpt x)] (hp c0 n _ _) _
  refine Ex.nx rfl ?_
  refine Hx.call j rfl rfl g.1 rfl rfl (tm_wp g) ?_
  show Ex X m_Term_valueTo 8 [.ref (c0 + k), .ref (c0 + j), ev_dead, ev_dead] [.long (wpt y), .long (wpt x)] (hp c0 n _ _) _
  refine Hx.calls rfl rfl rfl rfl (sx_cmp X (wpt x) (wpt y)) (fun v hv => ?_)
  subst hv
  show Ex X m_Term_valueTo 11 [.ref (c0 + k), .ref (c0 + j), ev_dead, ev_dead] [.int (cmpL (wpt x) (wpt y))] (hp c0 n _ _) _
  refine Ex.nx rfl ?_
  show Ex X m_Term_valueTo 12 [.ref (c0 + k), .ref (c0 + j), .int (cmpL (wpt x) (wpt y)), ev_dead] [] (hp c0 n _ _) _
  refine Ex.nx rfl ?_
  refine Ex.nx rfl ?_
  refine Ex.ite (fun c1 => ?_) (fun c1 => ?_)
  · replace c1 : (cmpL (wpt x) (wpt y)) = 0 := of_decide_eq_true c1
    show Ex X m_Term_valueTo 18 [.ref (c0 + k), .ref (c0 + j), .int (cmpL (wpt x) (wpt y)), ev_dead] [] (hp c0 n _ _) _
    refine Ex.nx rfl ?_
    refine Hx.call k rfl rfl h.1 rfl rfl (tm_bl h) ?_
    show Ex X m_Term_valueTo 22 [.ref (c0 + k), .ref (c0 + j), .int (cmpL (wpt x) (wpt y)), ev_dead] [.long (bln x)] (hp c0 n _ _) _
    refine Ex.nx rfl ?_
    refine Hx.call j rfl rfl g.1 rfl rfl (tm_bl g) ?_
    show Ex X m_Term_valueTo 26 [.ref (c0 + k), .ref (c0 + j), .int (cmpL (wpt x) (wpt y)), ev_dead] [.long (bln y), .long (bln x)] (hp c0 n _ _) _
    refine Hx.calls rfl rfl rfl rfl (sx_cmp X (bln x) (bln y)) (fun v hv => ?_)
    subst hv
    show Ex X m_Term_valueTo 29 [.ref (c0 + k), .ref (c0 + j), .int (cmpL (wpt x) (wpt y)), ev_dead] [.int (cmpL (bln x) (bln y))] (hp c0 n _ _) _
    refine Ex.nx rfl ?_
    show Ex X m_Term_valueTo 30 [.ref (c0 + k), .ref (c0 + j), .int (cmpL (wpt x) (wpt y)), .int (cmpL (bln x) (bln y))] [] (hp c0 n _ _) _
    refine Ex.nx rfl ?_
    refine Ex.nx rfl ?_
    refine Ex.ite (fun c2 => ?_) (fun c2 => ?_)
    · replace c2 : (cmpL (bln x) (bln y)) = 0 := of_decide_eq_true c2
      show Ex X m_Term_valueTo 38 [.ref (c0 + k), .ref (c0 + j), .int (cmpL (wpt x) (wpt y)), .int (cmpL (bln x) (bln y))] [] (hp c0 n _ _) _
      refine Ex.nx rfl ?_
      refine Hx.get k rfl h.1 rfl ?_
      refine Ex.nx rfl ?_
      refine Hx.get j rfl g.1 rfl ?_
      refine Hx.rowE h.2.1 rfl rfl rfl rfl (rl_order h.2.2.2.1 g.2.2.2.1 h.2.1 g.2.1) ?_
      show Ex X m_Term_valueTo 49 [.ref (c0 + k), .ref (c0 + j), .int (cmpL (wpt x) (wpt y)), .int (cmpL (bln x) (bln y))] [.int (ordL x.2.2.2.1 y.2.2.2.1)] (hp c0 n _ _) _
      exact Ex.ret rfl (ev_reti rfl) ⟨by rw [vlT, if_pos c1, if_pos c2], rfl⟩
    · replace c2 : ¬ (cmpL (bln x) (bln y)) = 0 := of_decide_eq_false c2
      show Ex X m_Term_valueTo 34 [.ref (c0 + k), .ref (c0 + j), .int (cmpL (wpt x) (wpt y)), .int (cmpL (bln x) (bln y))] [] (hp c0 n _ _) _
      refine Ex.nx rfl ?_
      refine Ex.nx rfl ?_
      exact Ex.ret rfl (ev_reti rfl) ⟨by rw [vlT, if_pos c1, if_neg c2], rfl⟩
  · replace c1 : ¬ (cmpL (wpt x) (wpt y)) = 0 := of_decide_eq_false c1
    show Ex X m_Term_valueTo 16 [.ref (c0 + k), .ref (c0 + j), .int (cmpL (wpt x) (wpt y)), ev_dead] [] (hp c0 n _ _) _
    refine Ex.nx rfl ?_
    exact Ex.ret rfl (ev_reti rfl) ⟨by rw [vlT, if_neg c1], rfl⟩
set_option maxRecDepth 100000 in
set_option maxHeartbeats 2000000 in
theorem tm_ord {X : ev_X} {c0 n z : Nat} {F : Nat → Option va_E} {k N1 N2 : Nat} {x : Tm} (h : trm c0 F k N1 N2 x) {j N3 N4 : Nat} {y : Tm} (g : trm c0 F j N3 N4 y) : Ex X m_Term_orderTo 0 [.ref (c0 + k), .ref (c0 + j), ev_dead, ev_dead, ev_dead] [] (hp c0 n z F) (fun r h' => r = some (.int (orT x y)) ∧ h' = hp c0 n z F) := by
  refine Ex.nx rfl ?_
  refine Hx.call k rfl rfl h.1 rfl rfl (tm_rank h) ?_
  show Ex X m_Term_orderTo 4 [.ref (c0 + k), .ref (c0 + j), ev_dead, ev_dead, ev_dead] [.int (rkT x)] (hp c0 n _ _) _
  refine Ex.nx rfl ?_
  refine Ex.nx rfl ?_
  refine Hx.call j rfl rfl g.1 rfl rfl (tm_rank g) ?_
  show Ex X m_Term_orderTo 9 [.ref (c0 + k), .ref (c0 + j), ev_dead, ev_dead, ev_dead] [.int (rkT y), .long ((rkT x).toInt64)] (hp c0 n _ _) _
  refine Ex.nx rfl ?_
  refine Hx.calls rfl rfl rfl rfl (sx_cmp X ((rkT x).toInt64) ((rkT y).toInt64)) (fun v hv => ?_)
  subst hv
  show Ex X m_Term_orderTo 13 [.ref (c0 + k), .ref (c0 + j), ev_dead, ev_dead, ev_dead] [.int (cmpL ((rkT x).toInt64) ((rkT y).toInt64))] (hp c0 n _ _) _
  refine Ex.nx rfl ?_
  show Ex X m_Term_orderTo 14 [.ref (c0 + k), .ref (c0 + j), .int (cmpL ((rkT x).toInt64) ((rkT y).toInt64)), ev_dead, ev_dead] [] (hp c0 n _ _) _
  refine Ex.nx rfl ?_
  refine Ex.nx rfl ?_
  refine Ex.ite (fun c1 => ?_) (fun c1 => ?_)
  · replace c1 : (cmpL ((rkT x).toInt64) ((rkT y).toInt64)) = 0 := of_decide_eq_true c1
    show Ex X m_Term_orderTo 20 [.ref (c0 + k), .ref (c0 + j), .int (cmpL ((rkT x).toInt64) ((rkT y).toInt64)), ev_dead, ev_dead] [] (hp c0 n _ _) _
    refine Ex.nx rfl ?_
    refine Ex.nx rfl ?_
    refine Hx.call k rfl rfl h.1 rfl rfl (tm_val h g) ?_
    show Ex X m_Term_orderTo 25 [.ref (c0 + k), .ref (c0 + j), .int (cmpL ((rkT x).toInt64) ((rkT y).toInt64)), ev_dead, ev_dead] [.int (vlT x y)] (hp c0 n _ _) _
    refine Ex.nx rfl ?_
    show Ex X m_Term_orderTo 26 [.ref (c0 + k), .ref (c0 + j), .int (cmpL ((rkT x).toInt64) ((rkT y).toInt64)), .int (vlT x y), ev_dead] [] (hp c0 n _ _) _
    refine Ex.nx rfl ?_
    refine Ex.nx rfl ?_
    refine Ex.ite (fun c2 => ?_) (fun c2 => ?_)
    · replace c2 : (vlT x y) = 0 := of_decide_eq_true c2
      show Ex X m_Term_orderTo 32 [.ref (c0 + k), .ref (c0 + j), .int (cmpL ((rkT x).toInt64) ((rkT y).toInt64)), .int (vlT x y), ev_dead] [] (hp c0 n _ _) _
      refine Ex.nx rfl ?_
      refine Hx.get k rfl h.1 rfl ?_
      refine Ex.nx rfl ?_
      refine Ex.nx rfl ?_
      refine Hx.get j rfl g.1 rfl ?_
      refine Ex.nx rfl ?_
      refine Hx.calls rfl rfl rfl rfl (sx_cmp X x.1.toInt64 y.1.toInt64) (fun v hv => ?_)
      subst hv
      show Ex X m_Term_orderTo 45 [.ref (c0 + k), .ref (c0 + j), .int (cmpL ((rkT x).toInt64) ((rkT y).toInt64)), .int (vlT x y), ev_dead] [.int (cmpL x.1.toInt64 y.1.toInt64)] (hp c0 n _ _) _
      refine Ex.nx rfl ?_
      show Ex X m_Term_orderTo 47 [.ref (c0 + k), .ref (c0 + j), .int (cmpL ((rkT x).toInt64) ((rkT y).toInt64)), .int (vlT x y), .int (cmpL x.1.toInt64 y.1.toInt64)] [] (hp c0 n _ _) _
      refine Ex.nx rfl ?_
      refine Ex.nx rfl ?_
      refine Ex.ite (fun c3 => ?_) (fun c3 => ?_)
      · replace c3 : (cmpL x.1.toInt64 y.1.toInt64) = 0 := of_decide_eq_true c3
        show Ex X m_Term_orderTo 57 [.ref (c0 + k), .ref (c0 + j), .int (cmpL ((rkT x).toInt64) ((rkT y).toInt64)), .int (vlT x y), .int (cmpL x.1.toInt64 y.1.toInt64)] [] (hp c0 n _ _) _
        refine Ex.nx rfl ?_
        refine Hx.get k rfl h.1 rfl ?_
        refine Ex.nx rfl ?_
        refine Hx.get j rfl g.1 rfl ?_
        refine Hx.rowE h.2.2.1 rfl rfl rfl rfl (rl_order h.2.2.2.2.1 g.2.2.2.2.1 h.2.2.1 g.2.2.1) ?_
        show Ex X m_Term_orderTo 68 [.ref (c0 + k), .ref (c0 + j), .int (cmpL ((rkT x).toInt64) ((rkT y).toInt64)), .int (vlT x y), .int (cmpL x.1.toInt64 y.1.toInt64)] [.int (ordL x.2.2.2.2 y.2.2.2.2)] (hp c0 n _ _) _
        exact Ex.ret rfl (ev_reti rfl) ⟨by rw [orT, if_pos c1, if_pos c2, if_pos c3], rfl⟩
      · replace c3 : ¬ (cmpL x.1.toInt64 y.1.toInt64) = 0 := of_decide_eq_false c3
        show Ex X m_Term_orderTo 52 [.ref (c0 + k), .ref (c0 + j), .int (cmpL ((rkT x).toInt64) ((rkT y).toInt64)), .int (vlT x y), .int (cmpL x.1.toInt64 y.1.toInt64)] [] (hp c0 n _ _) _
        refine Ex.nx rfl ?_
        refine Ex.nx rfl ?_
        exact Ex.ret rfl (ev_reti rfl) ⟨by rw [orT, if_pos c1, if_pos c2, if_neg c3], rfl⟩
    · replace c2 : ¬ (vlT x y) = 0 := of_decide_eq_false c2
      show Ex X m_Term_orderTo 30 [.ref (c0 + k), .ref (c0 + j), .int (cmpL ((rkT x).toInt64) ((rkT y).toInt64)), .int (vlT x y), ev_dead] [] (hp c0 n _ _) _
      refine Ex.nx rfl ?_
      exact Ex.ret rfl (ev_reti rfl) ⟨by rw [orT, if_pos c1, if_neg c2], rfl⟩
  · replace c1 : ¬ (cmpL ((rkT x).toInt64) ((rkT y).toInt64)) = 0 := of_decide_eq_false c1
    show Ex X m_Term_orderTo 18 [.ref (c0 + k), .ref (c0 + j), .int (cmpL ((rkT x).toInt64) ((rkT y).toInt64)), ev_dead, ev_dead] [] (hp c0 n _ _) _
    refine Ex.nx rfl ?_
    exact Ex.ret rfl (ev_reti rfl) ⟨by rw [orT, if_neg c1], rfl⟩
set_option maxRecDepth 100000 in
set_option maxHeartbeats 2000000 in
theorem tm_less {X : ev_X} {c0 n z : Nat} {F : Nat → Option va_E} {k N1 N2 : Nat} {x : Tm} (h : trm c0 F k N1 N2 x) : Ex X m_Term_hasLess 0 [.ref (c0 + k)] [] (hp c0 n z F) (fun r h' => r = some (.int (bi (hls x))) ∧ h' = hp c0 n z F) := by
  refine Ex.nx rfl ?_
  refine Hx.call k rfl rfl h.1 rfl rfl (tm_rank h) ?_
  show Ex X m_Term_hasLess 4 [.ref (c0 + k)] [.int (rkT x)] (hp c0 n _ _) _
  refine Ex.nx rfl ?_
  refine Ex.nx rfl ?_
  refine Ex.ite (fun c1 => ?_) (fun c1 => ?_)
  · replace c1 : (rkT x) = 3 := of_decide_eq_true c1
    show Ex X m_Term_hasLess 25 [.ref (c0 + k)] [] (hp c0 n _ _) _
    refine Ex.nx rfl ?_
    refine Ex.nx rfl ?_
    exact Ex.ret rfl rfl ⟨ret_1 (by simp [hls, c1]), rfl⟩
  · replace c1 : ¬ (rkT x) = 3 := of_decide_eq_false c1
    show Ex X m_Term_hasLess 8 [.ref (c0 + k)] [] (hp c0 n _ _) _
    refine Ex.nx rfl ?_
    refine Hx.get k rfl h.1 rfl ?_
    refine Ex.nx rfl ?_
    refine Ex.nx rfl ?_
    refine Ex.ite (fun c2 => ?_) (fun c2 => ?_)
    · replace c2 : x.1 = 5 := of_decide_eq_true c2
      show Ex X m_Term_hasLess 25 [.ref (c0 + k)] [] (hp c0 n _ _) _
      refine Ex.nx rfl ?_
      refine Ex.nx rfl ?_
      exact Ex.ret rfl rfl ⟨ret_1 (by simp [hls, c1, c2]), rfl⟩
    · replace c2 : ¬ x.1 = 5 := of_decide_eq_false c2
      show Ex X m_Term_hasLess 16 [.ref (c0 + k)] [] (hp c0 n _ _) _
      refine Ex.nx rfl ?_
      refine Hx.get k rfl h.1 rfl ?_
      refine Ex.nx rfl ?_
      refine Ex.nx rfl ?_
      refine Ex.ite (fun c3 => ?_) (fun c3 => ?_)
      · replace c3 : ¬ x.1 = 8 := of_decide_eq_true c3
        show Ex X m_Term_hasLess 29 [.ref (c0 + k)] [] (hp c0 n _ _) _
        refine Ex.nx rfl ?_
        exact Ex.ret rfl rfl ⟨ret_0 (by simp [hls, c1, c2, c3]), rfl⟩
      · replace c3 : x.1 = 8 := Classical.not_not.mp (of_decide_eq_false c3)
        show Ex X m_Term_hasLess 25 [.ref (c0 + k)] [] (hp c0 n _ _) _
        refine Ex.nx rfl ?_
        refine Ex.nx rfl ?_
        exact Ex.ret rfl rfl ⟨ret_1 (by simp [hls, c1, c2, c3]), rfl⟩
set_option maxRecDepth 100000 in
set_option maxHeartbeats 2000000 in
theorem tm_str {X : ev_X} {c0 n z : Nat} {F : Nat → Option va_E} {k N1 N2 : Nat} {x : Tm} (h : trm c0 F k N1 N2 x) {j N3 N4 : Nat} {y : Tm} (g : trm c0 F j N3 N4 y) : Ex X m_Term_isStrangeTo 0 [.ref (c0 + k), .ref (c0 + j)] [] (hp c0 n z F) (fun r h' => r = some (.int (bi (str x y))) ∧ h' = hp c0 n z F) := by
  refine Ex.nx rfl ?_
  refine Hx.get k rfl h.1 rfl ?_
  refine Ex.nx rfl ?_
  refine Ex.nx rfl ?_
  refine Ex.ite (fun c1 => ?_) (fun c1 => ?_)
  · replace c1 : ¬ x.1 = 7 := of_decide_eq_true c1
    show Ex X m_Term_isStrangeTo 30 [.ref (c0 + k), .ref (c0 + j)] [] (hp c0 n _ _) _
    refine Ex.nx rfl ?_
    exact Ex.ret rfl rfl ⟨ret_0 (by simp [str, c1]), rfl⟩
  · replace c1 : x.1 = 7 := Classical.not_not.mp (of_decide_eq_false c1)
    show Ex X m_Term_isStrangeTo 9 [.ref (c0 + k), .ref (c0 + j)] [] (hp c0 n _ _) _
    refine Ex.nx rfl ?_
    refine Hx.get j rfl g.1 rfl ?_
    refine Ex.nx rfl ?_
    refine Ex.nx rfl ?_
    refine Ex.ite (fun c2 => ?_) (fun c2 => ?_)
    · replace c2 : y.1 < 3 := of_decide_eq_true c2
      show Ex X m_Term_isStrangeTo 30 [.ref (c0 + k), .ref (c0 + j)] [] (hp c0 n _ _) _
      refine Ex.nx rfl ?_
      exact Ex.ret rfl rfl ⟨ret_0 (by simp [str, c1, c2]), rfl⟩
    · replace c2 : ¬ y.1 < 3 := of_decide_eq_false c2
      show Ex X m_Term_isStrangeTo 17 [.ref (c0 + k), .ref (c0 + j)] [] (hp c0 n _ _) _
      refine Ex.nx rfl ?_
      refine Hx.get j rfl g.1 rfl ?_
      refine Ex.nx rfl ?_
      refine Ex.nx rfl ?_
      refine Ex.ite (fun c3 => ?_) (fun c3 => ?_)
      · replace c3 : 8 < y.1 := of_decide_eq_true c3
        show Ex X m_Term_isStrangeTo 30 [.ref (c0 + k), .ref (c0 + j)] [] (hp c0 n _ _) _
        refine Ex.nx rfl ?_
        exact Ex.ret rfl rfl ⟨ret_0 (by simp [str, c1, Int32.not_lt.mp c2, c3]), rfl⟩
      · replace c3 : ¬ 8 < y.1 := of_decide_eq_false c3
        show Ex X m_Term_isStrangeTo 26 [.ref (c0 + k), .ref (c0 + j)] [] (hp c0 n _ _) _
        refine Ex.nx rfl ?_
        refine Ex.nx rfl ?_
        exact Ex.ret rfl rfl ⟨ret_1 (by simp [str, c1, Int32.not_lt.mp c2, Int32.not_lt.mp c3]), rfl⟩
end
section
/-! The class's table: get, numberOf; rows added; become. (rows laid by wip/whole/tm2.py) -/
def tm0 : Tm := (0, 0, 0, [], [])
/-- the table's cells: the terms, and their bytes -/
def tbl (c0 : Nat) (F : Nat → Option va_E) (T : List Tm) (u : Nat) : Prop := F 9 = some (.inr (3, [.ref (c0 + 10), .int (nI T.length), .int (nI u)])) ∧ (∃ κ : Nat → Option Nat, F 10 = some (.inl (2, 2000, .inr (.inr (.inr (.inr κ))))) ∧ ∀ i, i < T.length → κ i = some (c0 + (26 + 5 * i))) ∧ T.length ≤ 2000 ∧ u ≤ 40000 ∧ ∀ i, i < T.length → ∃ N1 N2, trm c0 F (26 + 5 * i) N1 N2 (T.getD i tm0)
theorem trm.fr {c0 k N1 N2 : Nat} {F F' : Nat → Option va_E} {x : Tm} (h : trm c0 F k N1 N2 x) (e : ∀ q, k ≤ q → q < k + 5 → F' q = F q) : trm c0 F' k N1 N2 x := ⟨(e k (by omega) (by omega)).trans h.1, h.2.1.fr (e _ (by omega) (by omega)) (e _ (by omega) (by omega)), h.2.2.1.fr (e _ (by omega) (by omega)) (e _ (by omega) (by omega)), h.2.2.2⟩
theorem tbl.fr {c0 u : Nat} {F F' : Nat → Option va_E} {T : List Tm} (h : tbl c0 F T u) (e9 : F' 9 = F 9) (e10 : F' 10 = F 10) (e : ∀ q, 26 ≤ q → q < 26 + 5 * T.length → F' q = F q) : tbl c0 F' T u := by
  obtain ⟨h1, ⟨κ, h2, h3⟩, h4, h5, h6⟩ := h
  refine ⟨e9.trans h1, ⟨κ, e10.trans h2, h3⟩, h4, h5, fun i hi => ?_⟩
  obtain ⟨N1, N2, hh⟩ := h6 i hi
  exact ⟨N1, N2, hh.fr (fun q q1 q2 => e q (by omega) (by omega))⟩
theorem tb_cases (T : List Tm) (hT : T.length ≤ 2000) (t : Int32) : (∃ i, i < T.length ∧ t = nI (i + 1)) ∨ (t < 1 ∨ (¬ t < 1 ∧ nI T.length < t)) := by
  by_cases h1 : t < 1
  · exact Or.inr (Or.inl h1)
  · by_cases h2 : nI T.length < t
    · exact Or.inr (Or.inr ⟨h1, h2⟩)
    · refine Or.inl ?_
      obtain ⟨j, hj, rfl⟩ := nI_of (x := t) (fun q => h1 (Int32.lt_trans q (by decide)))
      have h3 : ¬ j < 1 := fun q => h1 ((nI_ltI (b := 1) hj (by decide)).mpr q)
      have h4 : ¬ T.length < j := fun q => h2 ((nI_ltI (by omega) hj).mpr q)
      exact ⟨j - 1, by omega, by rw [show j - 1 + 1 = j by omega]⟩
set_option maxRecDepth 100000 in
set_option maxHeartbeats 2000000 in
theorem tb_get {X : ev_X} {c0 n z : Nat} {F : Nat → Option va_E} {T : List Tm} {u : Nat} (h : tbl c0 F T u) {i : Nat} (hi : i < T.length) : Ex X m_Terms_get 0 [.ref (c0 + 9), .int (nI (i + 1))] [] (hp c0 n z F) (fun r h' => r = some (.ref (c0 + (26 + 5 * i))) ∧ h' = hp c0 n z F) := by
  obtain ⟨h9, ⟨κ, h10, hκ⟩, hT, hu, hx⟩ := id h
  refine Ex.nx rfl ?_
  refine Ex.nx rfl ?_
  refine Ex.nx rfl ?_
  refine Ex.ite (fun c1 => ?_) (fun c1 => ?_)
  · replace c1 : (nI (i + 1)) < 1 := of_decide_eq_true c1
    exact absurd ((nI_ltI (b := 1) (by omega) (by decide)).mp c1) (by omega)
  · replace c1 : ¬ (nI (i + 1)) < 1 := of_decide_eq_false c1
    show Ex X m_Terms_get 5 [.ref (c0 + 9), .int (nI (i + 1))] [] (hp c0 n _ _) _
    refine Ex.nx rfl ?_
    refine Ex.nx rfl ?_
    refine Hx.get 9 rfl h9 rfl ?_
    refine Ex.nx rfl ?_
    refine Ex.ite (fun c2 => ?_) (fun c2 => ?_)
    · replace c2 : (nI T.length) < (nI (i + 1)) := of_decide_eq_true c2
      exact absurd ((nI_ltI (by omega) (by omega)).mp c2) (by omega)
    · replace c2 : ¬ (nI T.length) < (nI (i + 1)) := of_decide_eq_false c2
      show Ex X m_Terms_get 13 [.ref (c0 + 9), .int (nI (i + 1))] [] (hp c0 n _ _) _
      refine Ex.nx rfl ?_
      refine Ex.nx rfl ?_
      refine Hx.get 9 rfl h9 rfl ?_
      refine Hx.alen 10 rfl h10 rfl ?_
      refine Ex.nx rfl ?_
      refine Ex.ite (fun c3 => ?_) (fun c3 => ?_)
      · replace c3 : (nI 2000) < (nI (i + 1)) := of_decide_eq_true c3
        exact absurd ((nI_ltI (by decide) (by omega)).mp c3) (by omega)
      · replace c3 : ¬ (nI 2000) < (nI (i + 1)) := of_decide_eq_false c3
        show Ex X m_Terms_get 22 [.ref (c0 + 9), .int (nI (i + 1))] [] (hp c0 n _ _) _
        refine Ex.nx rfl ?_
        refine Hx.get 9 rfl h9 rfl ?_
        refine Ex.nx rfl ?_
        refine Ex.nx rfl ?_
        refine Ex.nx rfl ?_
        refine Hx.top (y := nI i) (nI_pred i) ?_
        refine Hx.aald 10 rfl h10 (nI_in (by omega) (by decide)) ?_
        rw [nI_clamp (by omega), hκ i hi]
        refine Ex.nx rfl ?_
        exact Ex.ret rfl rfl ⟨rfl, rfl⟩
set_option maxRecDepth 100000 in
set_option maxHeartbeats 2000000 in
theorem tb_no {X : ev_X} {c0 n z : Nat} {F : Nat → Option va_E} {T : List Tm} {u : Nat} (h : tbl c0 F T u) {t : Int32} (hn : t < 1 ∨ (¬ t < 1 ∧ nI T.length < t)) : Ex X m_Terms_get 0 [.ref (c0 + 9), .int t] [] (hp c0 n z F) (fun r h' => r = some .null ∧ h' = hp c0 n z F) := by
  obtain ⟨h9, ⟨κ, h10, hκ⟩, hT, hu, hx⟩ := id h
  refine Ex.nx rfl ?_
  refine Ex.nx rfl ?_
  refine Ex.nx rfl ?_
  refine Ex.ite (fun c1 => ?_) (fun c1 => ?_)
  · replace c1 : t < 1 := of_decide_eq_true c1
    show Ex X m_Terms_get 33 [.ref (c0 + 9), .int t] [] (hp c0 n _ _) _
    refine Ex.nx rfl ?_
    exact Ex.ret rfl rfl ⟨rfl, rfl⟩
  · replace c1 : ¬ t < 1 := of_decide_eq_false c1
    show Ex X m_Terms_get 5 [.ref (c0 + 9), .int t] [] (hp c0 n _ _) _
    refine Ex.nx rfl ?_
    refine Ex.nx rfl ?_
    refine Hx.get 9 rfl h9 rfl ?_
    refine Ex.nx rfl ?_
    refine Ex.ite (fun c2 => ?_) (fun c2 => ?_)
    · replace c2 : (nI T.length) < t := of_decide_eq_true c2
      show Ex X m_Terms_get 33 [.ref (c0 + 9), .int t] [] (hp c0 n _ _) _
      refine Ex.nx rfl ?_
      exact Ex.ret rfl rfl ⟨rfl, rfl⟩
    · replace c2 : ¬ (nI T.length) < t := of_decide_eq_false c2
      rcases hn with q | ⟨_, q⟩
      · exact absurd q c1
      · exact absurd q c2
def fnT (T : List Tm) (x : Tm) : Nat → Nat → Int32
  | 0, _ => -2
  | m + 1, i => if T.getD i tm0 = x then nI (i + 1) else fnT T x m (i + 1)
def numT (T : List Tm) (x : Tm) : Int32 := fnT T x T.length 0
set_option maxRecDepth 100000 in
set_option maxHeartbeats 2000000 in
theorem tb_nu_l {X : ev_X} {c0 n z : Nat} {F : Nat → Option va_E} {T : List Tm} {u : Nat} (h : tbl c0 F T u) {N1 N2 : Nat} {x : Tm} (hd : trm c0 F 3 N1 N2 x) : ∀ (m i : Nat) (tv : Value) (hm : i + m = T.length), Ex X m_Terms_numberOf 2 [.ref (c0 + 9), .ref (c0 + 3), .int (nI (i + 1)), tv] [] (hp c0 n z F) (fun r h' => r = some (.int (fnT T x m i)) ∧ h' = hp c0 n z F) := by
  obtain ⟨h9, ⟨κ, h10, hκ⟩, hT, hu, hx⟩ := id h
  intro m
  induction m with
  | zero =>
    intro i tv hm
    refine Ex.nx rfl ?_
    refine Ex.nx rfl ?_
    refine Hx.get 9 rfl h9 rfl ?_
    refine Ex.nx rfl ?_
    refine Ex.ite (fun c1 => ?_) (fun c1 => ?_)
    · replace c1 : (nI T.length) < (nI (i + 1)) := of_decide_eq_true c1
      show Ex X m_Terms_numberOf 36 [.ref (c0 + 9), .ref (c0 + 3), .int (nI (i + 1)), tv] [] (hp c0 n _ _) _
      refine Ex.nx rfl ?_
      exact Ex.ret rfl (ev_reti rfl) ⟨rfl, rfl⟩
    · replace c1 : ¬ (nI T.length) < (nI (i + 1)) := of_decide_eq_false c1
      exact absurd (nI_lt (show T.length < i + 1 by omega) (by omega)) c1
  | succ m ih =>
    intro i tv hm
    refine Ex.nx rfl ?_
    refine Ex.nx rfl ?_
    refine Hx.get 9 rfl h9 rfl ?_
    refine Ex.nx rfl ?_
    refine Ex.ite (fun c1 => ?_) (fun c1 => ?_)
    · replace c1 : (nI T.length) < (nI (i + 1)) := of_decide_eq_true c1
      exact absurd ((nI_ltI (by omega) (by omega)).mp c1) (by omega)
    · replace c1 : ¬ (nI T.length) < (nI (i + 1)) := of_decide_eq_false c1
      show Ex X m_Terms_numberOf 10 [.ref (c0 + 9), .ref (c0 + 3), .int (nI (i + 1)), tv] [] (hp c0 n _ _) _
      refine Ex.nx rfl ?_
      refine Ex.nx rfl ?_
      refine Hx.call 9 rfl rfl h9 rfl rfl (tb_get h (i := i) (by omega)) ?_
      show Ex X m_Terms_numberOf 15 [.ref (c0 + 9), .ref (c0 + 3), .int (nI (i + 1)), tv] [.ref (c0 + (26 + 5 * i))] (hp c0 n _ _) _
      refine Ex.nx rfl ?_
      show Ex X m_Terms_numberOf 16 [.ref (c0 + 9), .ref (c0 + 3), .int (nI (i + 1)), .ref (c0 + (26 + 5 * i))] [] (hp c0 n _ _) _
      refine Ex.nx rfl ?_
      refine Ex.nx rfl ?_
      show Ex X m_Terms_numberOf 20 [.ref (c0 + 9), .ref (c0 + 3), .int (nI (i + 1)), .ref (c0 + (26 + 5 * i))] [] (hp c0 n _ _) _
      refine Ex.nx rfl ?_
      refine Ex.nx rfl ?_
      obtain ⟨M1, M2, hti⟩ := hx i (by omega)
      refine Hx.call (26 + 5 * i) rfl rfl hti.1 rfl rfl (tm_one hti hd) ?_
      show Ex X m_Terms_numberOf 25 [.ref (c0 + 9), .ref (c0 + 3), .int (nI (i + 1)), .ref (c0 + (26 + 5 * i))] [.int (bi (decide (T.getD i tm0 = x)))] (hp c0 n _ _) _
      refine Ex.nx rfl ?_
      refine Ex.ite (fun c2 => ?_) (fun c2 => ?_)
      · replace c2 : (decide (T.getD i tm0 = x)) = false := bi_eqt c2
        show Ex X m_Terms_numberOf 30 [.ref (c0 + 9), .ref (c0 + 3), .int (nI (i + 1)), .ref (c0 + (26 + 5 * i))] [] (hp c0 n _ _) _
        refine Ex.nx rfl ?_
        show Ex X m_Terms_numberOf 33 [.ref (c0 + 9), .ref (c0 + 3), .int ((nI (i + 1)) + 1), .ref (c0 + (26 + 5 * i))] [] (hp c0 n _ _) _
        refine Ex.nx rfl ?_
        show Ex X m_Terms_numberOf 2 [.ref (c0 + 9), .ref (c0 + 3), .int ((nI (i + 1)) + 1), .ref (c0 + (26 + 5 * i))] [] (hp c0 n _ _) _
        rw [show nI (i + 1) + 1 = nI (i + 1 + 1) from nI_1 (i + 1), show fnT T x (m + 1) i = fnT T x m (i + 1) from if_neg (of_decide_eq_false c2)]
        exact ih (i + 1) _ (by omega)
      · replace c2 : (decide (T.getD i tm0 = x)) = true := bi_eqf c2
        show Ex X m_Terms_numberOf 28 [.ref (c0 + 9), .ref (c0 + 3), .int (nI (i + 1)), .ref (c0 + (26 + 5 * i))] [] (hp c0 n _ _) _
        refine Ex.nx rfl ?_
        exact Ex.ret rfl (ev_reti rfl) ⟨by rw [show fnT T x (m + 1) i = nI (i + 1) from if_pos (of_decide_eq_true c2)], rfl⟩
set_option maxRecDepth 100000 in
set_option maxHeartbeats 2000000 in
theorem tb_num {X : ev_X} {c0 n z : Nat} {F : Nat → Option va_E} {T : List Tm} {u : Nat} (h : tbl c0 F T u) {N1 N2 : Nat} {x : Tm} (hd : trm c0 F 3 N1 N2 x) : Ex X m_Terms_numberOf 0 [.ref (c0 + 9), .ref (c0 + 3), ev_dead, ev_dead] [] (hp c0 n z F) (fun r h' => r = some (.int (numT T x)) ∧ h' = hp c0 n z F) := by
  obtain ⟨h9, ⟨κ, h10, hκ⟩, hT, hu, hx⟩ := id h
  refine Ex.nx rfl ?_
  refine Ex.nx rfl ?_
  show Ex X m_Terms_numberOf 2 [.ref (c0 + 9), .ref (c0 + 3), .int 1, ev_dead] [] (hp c0 n _ _) _
  show Ex X m_Terms_numberOf 2 [.ref (c0 + 9), .ref (c0 + 3), .int 1, ev_dead] [] (hp c0 n _ _) _
  exact tb_nu_l h hd T.length 0 _ (by omega)
theorem take_s {m : List Nat} {i : Nat} (h : i < m.length) : m.take i ++ [m.getD i 0] = m.take (i + 1) := by
  rw [List.take_succ, List.getD_eq_getElem?_getD, List.getElem?_eq_getElem h]; rfl
set_option maxRecDepth 100000 in
set_option maxHeartbeats 2000000 in
theorem rl_aa_l {X : ev_X} {c0 n z : Nat} {k ka N j ja N1 : Nat} {l m : List Nat} (hN : N ≤ 1000) (hN1 : N1 ≤ 1000) (hk : ka ≠ k) (h1 : j ≠ k) (h2 : j ≠ ka) (h3 : ja ≠ k) (h4 : ja ≠ ka) (hlm : l.length + m.length ≤ N) : ∀ (d i : Nat) (F : Nat → Option va_E) (hm : i + d = m.length) (h : rowL c0 F k ka N (l ++ m.take i)) (g : rowL c0 F j ja N1 m), Ex X m_Row_addAll 2 [.ref (c0 + k), .ref (c0 + j), .int (nI i)] [] (hp c0 n z F) (fun r h' => r = none ∧ ∃ F', h' = hp c0 n z F' ∧ rowL c0 F' k ka N (l ++ m) ∧ ∀ q, q ≠ k → q ≠ ka → F' q = F q) := by
  intro d
  induction d with
  | zero =>
    intro i F hm h g
    obtain ⟨f2, gF, -⟩ := id g
    have gl := g.le
    refine Ex.nx rfl ?_
    refine Ex.nx rfl ?_
    refine Hx.get j rfl gF rfl ?_
    refine Ex.nx rfl ?_
    refine Ex.ite (fun c1 => ?_) (fun c1 => ?_)
    · replace c1 : (nI m.length) ≤ (nI i) := of_decide_eq_true c1
      show Ex X m_Row_addAll 25 [.ref (c0 + k), .ref (c0 + j), .int (nI i)] [] (hp c0 n _ _) _
      exact Ex.ret rfl rfl ⟨rfl, F, rfl, by rw [show i = m.length by omega, List.take_length] at h; exact h, fun q _ _ => rfl⟩
    · replace c1 : ¬ (nI m.length) ≤ (nI i) := of_decide_eq_false c1
      exact absurd (show nI m.length ≤ nI i by rw [show i = m.length by omega]; exact Int32.le_refl _) c1
  | succ d ih =>
    intro i F hm h g
    obtain ⟨f2, gF, -⟩ := id g
    have gl := g.le
    refine Ex.nx rfl ?_
    refine Ex.nx rfl ?_
    refine Hx.get j rfl gF rfl ?_
    refine Ex.nx rfl ?_
    refine Ex.ite (fun c1 => ?_) (fun c1 => ?_)
    · replace c1 : (nI m.length) ≤ (nI i) := of_decide_eq_true c1
      exact absurd ((nI_leI (by omega) (by omega)).mp c1) (by omega)
    · replace c1 : ¬ (nI m.length) ≤ (nI i) := of_decide_eq_false c1
      show Ex X m_Row_addAll 10 [.ref (c0 + k), .ref (c0 + j), .int (nI i)] [] (hp c0 n _ _) _
      refine Ex.nx rfl ?_
      refine Ex.nx rfl ?_
      refine Ex.nx rfl ?_
      refine Hx.rowE g rfl rfl rfl rfl (rl_at g hN1 (i := i) (by omega)) ?_
      refine Hx.top (y := nI (m.getD i 0)) (hb_lt (by omega)) ?_
      show Ex X m_Row_addAll 16 [.ref (c0 + k), .ref (c0 + j), .int (nI i)] [.int (nI (m.getD i 0)), .ref (c0 + k)] (hp c0 n _ _) _
      refine Hx.rowc h rfl rfl rfl rfl (rl_add h hN hk (m.getD i 0) (g.by i) (by simp only [List.length_append, List.length_take]; omega)) ?_
      rintro v hh ⟨rfl, F1, rfl, r1, r2⟩
      show Ex X m_Row_addAll 19 [.ref (c0 + k), .ref (c0 + j), .int (nI i)] [] (hp c0 n _ _) _
      refine Ex.nx rfl ?_
      show Ex X m_Row_addAll 22 [.ref (c0 + k), .ref (c0 + j), .int ((nI i) + 1)] [] (hp c0 n _ _) _
      refine Ex.nx rfl ?_
      show Ex X m_Row_addAll 2 [.ref (c0 + k), .ref (c0 + j), .int ((nI i) + 1)] [] (hp c0 n _ _) _
      rw [show nI i + 1 = nI (i + 1) from nI_1 i]
      rw [List.append_assoc, take_s (by omega)] at r1
      refine (ih (i + 1) F1 (by omega) r1 (g.fr (r2 _ h1 h2) (r2 _ h3 h4))).mono ?_
      rintro r h' ⟨rfl, F2, rfl, q1, q2⟩
      exact ⟨rfl, F2, rfl, q1, fun q a b => (q2 q a b).trans (r2 q a b)⟩
set_option maxRecDepth 100000 in
set_option maxHeartbeats 2000000 in
theorem rl_addAll {X : ev_X} {c0 n z : Nat} {k ka N j ja N1 : Nat} {l m : List Nat} (hN : N ≤ 1000) (hN1 : N1 ≤ 1000) (hk : ka ≠ k) (h1 : j ≠ k) (h2 : j ≠ ka) (h3 : ja ≠ k) (h4 : ja ≠ ka) (hlm : l.length + m.length ≤ N) {F : Nat → Option va_E} (h : rowL c0 F k ka N l) (g : rowL c0 F j ja N1 m) : Ex X m_Row_addAll 0 [.ref (c0 + k), .ref (c0 + j), ev_dead] [] (hp c0 n z F) (fun r h' => r = none ∧ ∃ F', h' = hp c0 n z F' ∧ rowL c0 F' k ka N (l ++ m) ∧ ∀ q, q ≠ k → q ≠ ka → F' q = F q) := by
  refine Ex.nx rfl ?_
  refine Ex.nx rfl ?_
  show Ex X m_Row_addAll 2 [.ref (c0 + k), .ref (c0 + j), .int 0] [] (hp c0 n _ _) _
  show Ex X m_Row_addAll 2 [.ref (c0 + k), .ref (c0 + j), .int 0] [] (hp c0 n _ _) _
  exact rl_aa_l hN hN1 hk h1 h2 h3 h4 hlm m.length 0 F (by omega) (by rw [List.take_zero, List.append_nil]; exact h) g
theorem tm_become {X : ev_X} {c0 n z : Nat} {F : Nat → Option va_E} {k N1 N2 : Nat} {x : Tm} (h : trm c0 F k N1 N2 x) (s : Int32) (v : Int64) {p : Nat} (hp20 : p ≤ 20) : Ex X m_Term_become 0 [.ref (c0 + k), .int s, .long v, ev_dead, .int (nI p)] [] (hp c0 n z F) (fun r h' => r = none ∧ ∃ F', h' = hp c0 n z F' ∧ trm c0 F' k N1 N2 (s, v, p, [], []) ∧ ∀ q, q < k ∨ k + 5 ≤ q → F' q = F q) := by
  obtain ⟨h1, h2, h3, h4, h5, h6⟩ := h
  refine Ex.nx rfl ?_
  refine Ex.nx rfl ?_
  refine Hx.put k rfl h1 rfl rfl rfl ?_
  refine Ex.nx rfl ?_
  refine Ex.nx rfl ?_
  refine Hx.put k rfl (va_up_self _ _ _) rfl rfl rfl ?_
  refine Ex.nx rfl ?_
  refine Ex.nx rfl ?_
  refine Hx.put k rfl (va_up_self _ _ _) rfl rfl rfl ?_
  rw [va_uu, va_uu]
  refine Hx.eF (F1 := va_up F k (some (.inr (2, [.int s, .long v, .int (nI p), .ref (c0 + (k + 1)), .ref (c0 + (k + 3))])))) rfl ?_
  have r2 : rowL c0 (va_up F k (some (.inr (2, [.int s, .long v, .int (nI p), .ref (c0 + (k + 1)), .ref (c0 + (k + 3))])))) (k + 1) (k + 2) N1 x.2.2.2.1 := h2.fr (va_up_ne _ _ (by omega)) (va_up_ne _ _ (by omega))
  have r3 : rowL c0 (va_up F k (some (.inr (2, [.int s, .long v, .int (nI p), .ref (c0 + (k + 1)), .ref (c0 + (k + 3))])))) (k + 3) (k + 4) N2 x.2.2.2.2 := h3.fr (va_up_ne _ _ (by omega)) (va_up_ne _ _ (by omega))
  have r1 : va_up F k (some (.inr (2, [.int s, .long v, .int (nI p), .ref (c0 + (k + 1)), .ref (c0 + (k + 3))]))) k = some (.inr (2, [.int s, .long v, .int (nI p), .ref (c0 + (k + 1)), .ref (c0 + (k + 3))])) := va_up_self _ _ _
  have r0 : ∀ q, q < k ∨ k + 5 ≤ q → va_up F k (some (.inr (2, [.int s, .long v, .int (nI p), .ref (c0 + (k + 1)), .ref (c0 + (k + 3))]))) q = F q := fun q hq => va_up_ne _ _ (by omega)
  generalize va_up F k (some (.inr (2, [.int s, .long v, .int (nI p), .ref (c0 + (k + 1)), .ref (c0 + (k + 3))]))) = G at r0 r1 r2 r3 ⊢
  refine Ex.nx rfl ?_
  refine Hx.get k rfl r1 rfl ?_
  refine Hx.rowc r2 rfl rfl rfl rfl (rl_clear r2 (by omega)) ?_
  rintro v1 hh ⟨rfl, G1, rfl, g1, g2⟩
  refine Ex.nx rfl ?_
  refine Hx.get k rfl ((g2 k (by omega) (by omega)).trans r1) rfl ?_
  have r4 := r3.fr (F' := G1) (g2 _ (by omega) (by omega)) (g2 _ (by omega) (by omega))
  refine Hx.rowc r4 rfl rfl rfl rfl (rl_clear r4 (by omega)) ?_
  rintro v2 hh ⟨rfl, G2, rfl, g3, g4⟩
  refine Ex.ret rfl rfl ⟨rfl, G2, rfl, ⟨?_, ?_, g3, h4, h5, hp20⟩, fun q hq => ?_⟩
  · exact (g4 k (by omega) (by omega)).trans ((g2 k (by omega) (by omega)).trans r1)
  · exact g1.fr (g4 _ (by omega) (by omega)) (g4 _ (by omega) (by omega))
  · exact (g4 q (by omega) (by omega)).trans ((g2 q (by omega) (by omega)).trans (r0 q hq))
end
section
/-! A term is copied and kept. (rows laid by wip/whole/tm3.py) -/
set_option maxRecDepth 100000 in
set_option maxHeartbeats 2000000 in
theorem tm_copy {X : ev_X} {c0 n z : Nat} {F : Nat → Option va_E} {N1 N2 : Nat} {x : Tm} (h : trm c0 F 3 N1 N2 x) (hn : 26 ≤ n) : Ex X m_Term_copy 0 [.ref (c0 + 3), ev_dead] [] (hp c0 n z F) (fun r h' => r = some (.ref (c0 + n)) ∧ ∃ F', h' = hp c0 (n + 5) (z + (9 + x.2.2.2.1.length + x.2.2.2.2.length)) F' ∧ trm c0 F' n x.2.2.2.1.length x.2.2.2.2.length x ∧ ∀ q, q < n → F' q = F q) := by
  have hb1 := h.2.1.le
  have hb2 := h.2.2.1.le
  have hN1 := h.2.2.2.1
  have hN2 := h.2.2.2.2.1
  have h20 := h.2.2.2.2.2
  refine Hx.newo rfl rfl ?_
  have d : trm c0 (va_up F n (some (.inr (2, pg_D.getD 2 [])))) 3 N1 N2 x := h.fr (fun q q1 q2 => va_up_ne _ _ (by omega))
  have d0 : ∀ q, q < n → va_up F n (some (.inr (2, pg_D.getD 2 []))) q = F q := fun q hq => va_up_ne _ _ (by omega)
  have dn : va_up F n (some (.inr (2, pg_D.getD 2 []))) n = some (.inr (2, [.int 0, .long 0, .int 0, .null, .null])) := va_up_self _ _ _
  generalize va_up F n (some (.inr (2, pg_D.getD 2 []))) = F1 at d d0 dn ⊢
  refine Ex.nx rfl ?_
  refine Ex.nx rfl ?_
  refine Hx.get 3 rfl d.1 rfl ?_
  refine Hx.rowE d.2.1 rfl rfl rfl rfl (rl_size d.2.1) ?_
  refine Ex.nx rfl ?_
  refine Hx.get 3 rfl d.1 rfl ?_
  refine Hx.rowE d.2.2.1 rfl rfl rfl rfl (rl_size d.2.2.1) ?_
  refine Hx.callp rfl rfl rfl rfl (hx_Term n (R1 := x.2.2.2.1.length) (R2 := x.2.2.2.2.length) dn (by omega) (by omega) (by omega)) ?_
  have e2 : ∀ F2 : Nat → Option va_E, F2 = (va_up (va_up (va_up (va_up (va_up F1 (n + 1) (some (.inr (1, [.ref (c0 + (n + 1 + 1)), .int 0])))) (n + 1 + 1) (some (.inl (0, x.2.2.2.1.length, .inl (fun _ => 0))))) (n + 1 + 2) (some (.inr (1, [.ref (c0 + (n + 1 + 3)), .int 0])))) (n + 1 + 3) (some (.inl (0, x.2.2.2.2.length, .inl (fun _ => 0))))) n (some (.inr (2, [.int 0, .long 0, .int 0, .ref (c0 + (n + 1)), .ref (c0 + (n + 1 + 2))])))) → trm c0 F2 n x.2.2.2.1.length x.2.2.2.2.length (0, 0, 0, [], []) ∧ ∀ q, q < n → F2 q = F1 q := by
    rintro F2 rfl
    refine ⟨⟨va_up_self _ _ _, ⟨fun _ => 0, ?_, ?_, Nat.zero_le _, fun i hi => absurd hi (Nat.not_lt_zero i), fun i => by simp⟩, ⟨fun _ => 0, ?_, ?_, Nat.zero_le _, fun i hi => absurd hi (Nat.not_lt_zero i), fun i => by simp⟩, by omega, by omega, by decide⟩, fun q hq => ?_⟩
    · exact (va_up_ne _ _ (by omega)).trans ((va_up_ne _ _ (by omega)).trans ((va_up_ne _ _ (by omega)).trans ((va_up_ne _ _ (by omega)).trans (va_up_self _ _ _))))
    · exact (va_up_ne _ _ (by omega)).trans ((va_up_ne _ _ (by omega)).trans ((va_up_ne _ _ (by omega)).trans (va_up_self _ _ _)))
    · exact (va_up_ne _ _ (by omega)).trans ((va_up_ne _ _ (by omega)).trans (va_up_self _ _ _))
    · exact (va_up_ne _ _ (by omega)).trans (va_up_self _ _ _)
    · exact (va_up_ne _ _ (by omega)).trans ((va_up_ne _ _ (by omega)).trans ((va_up_ne _ _ (by omega)).trans ((va_up_ne _ _ (by omega)).trans (va_up_ne _ _ (by omega)))))
  obtain ⟨t1, t2⟩ := e2 _ rfl
  clear e2
  generalize va_up (va_up (va_up (va_up (va_up F1 (n + 1) (some (.inr (1, [.ref (c0 + (n + 1 + 1)), .int 0])))) (n + 1 + 1) (some (.inl (0, x.2.2.2.1.length, .inl (fun _ => 0))))) (n + 1 + 2) (some (.inr (1, [.ref (c0 + (n + 1 + 3)), .int 0])))) (n + 1 + 3) (some (.inl (0, x.2.2.2.2.length, .inl (fun _ => 0))))) n (some (.inr (2, [.int 0, .long 0, .int 0, .ref (c0 + (n + 1)), .ref (c0 + (n + 1 + 2))]))) = F2 at t1 t2 ⊢
  have k1 : trm c0 F2 3 N1 N2 x := d.fr (fun q q1 q2 => t2 q (by omega))
  refine Ex.nx rfl ?_
  refine Ex.nx rfl ?_
  refine Ex.nx rfl ?_
  refine Hx.get 3 rfl k1.1 rfl ?_
  refine Ex.nx rfl ?_
  refine Hx.get 3 rfl k1.1 rfl ?_
  refine Ex.nx rfl ?_
  refine Hx.get 3 rfl k1.1 rfl ?_
  refine Hx.callX n rfl rfl t1.1 rfl rfl (tm_become t1 x.1 x.2.1 h20) ?_
  rintro v1 hh ⟨rfl, F3, rfl, t3, t4⟩
  have k2 : trm c0 F3 3 N1 N2 x := k1.fr (fun q q1 q2 => t4 q (Or.inl (by omega)))
  refine Ex.nx rfl ?_
  refine Hx.get n rfl t3.1 rfl ?_
  refine Ex.nx rfl ?_
  refine Hx.get 3 rfl k2.1 rfl ?_
  refine Hx.rowc t3.2.1 rfl rfl rfl rfl (rl_addAll (by omega) hN1 (by omega) (by omega) (by omega) (by omega) (by omega) (by simp) t3.2.1 k2.2.1) ?_
  rintro v2 hh ⟨rfl, F4, rfl, u1, u2⟩
  have k3 : trm c0 F4 3 N1 N2 x := k2.fr (fun q q1 q2 => u2 q (by omega) (by omega))
  have t5 : F4 n = _ := (u2 n (by omega) (by omega)).trans t3.1
  refine Ex.nx rfl ?_
  refine Hx.get n rfl t5 rfl ?_
  refine Ex.nx rfl ?_
  refine Hx.get 3 rfl k3.1 rfl ?_
  have t6 := t3.2.2.1.fr (F' := F4) (u2 _ (by omega) (by omega)) (u2 _ (by omega) (by omega))
  refine Hx.rowc t6 rfl rfl rfl rfl (rl_addAll (by omega) hN2 (by omega) (by omega) (by omega) (by omega) (by omega) (by simp) t6 k3.2.2.1) ?_
  rintro v3 hh ⟨rfl, F5, rfl, w1, w2⟩
  refine Ex.nx rfl ?_
  refine Ex.ret rfl rfl ⟨rfl, F5, ?_, ⟨(w2 n (by omega) (by omega)).trans t5, ?_, ?_, by omega, by omega, h20⟩, fun q hq => ?_⟩
  · show hp c0 (n + 1 + 4) (z + 5 + (4 + _ + _)) F5 = hp c0 (n + 5) _ F5
    rw [show z + 5 + (4 + x.2.2.2.1.length + x.2.2.2.2.length) = z + (9 + x.2.2.2.1.length + x.2.2.2.2.length) by omega]
  · exact u1.fr (w2 _ (by omega) (by omega)) (w2 _ (by omega) (by omega))
  · exact w1
  · exact (w2 q (by omega) (by omega)).trans ((u2 q (by omega) (by omega)).trans ((t4 q (Or.inl hq)).trans ((t2 q hq).trans (d0 q hq))))
/-- what keep answers, and the table behind it -/
def kpP (c0 z : Nat) (F : Nat → Option va_E) (T : List Tm) (u : Nat) (x : Tm) (r : Option Value) (h' : ev_H) : Prop := (numT T x ≠ -2 ∧ r = some (.int (numT T x)) ∧ h' = hp c0 (26 + 5 * T.length) z F) ∨ (numT T x = -2 ∧ (2000 ≤ T.length ∨ 40000 < u + (x.2.2.2.1.length + x.2.2.2.2.length)) ∧ r = some (.int (-3)) ∧ h' = hp c0 (26 + 5 * T.length) z F) ∨ (numT T x = -2 ∧ T.length < 2000 ∧ u + (x.2.2.2.1.length + x.2.2.2.2.length) ≤ 40000 ∧ r = some (.int (nI (T.length + 1))) ∧ ∃ F', h' = hp c0 (26 + 5 * (T ++ [x]).length) (z + (9 + x.2.2.2.1.length + x.2.2.2.2.length)) F' ∧ tbl c0 F' (T ++ [x]) (u + (x.2.2.2.1.length + x.2.2.2.2.length)) ∧ ∀ q, q < 26 → q ≠ 9 → q ≠ 10 → F' q = F q)
theorem getD_tm {T : List Tm} {x : Tm} {i : Nat} (h : i < T.length + 1) : (T ++ [x]).getD i tm0 = if i < T.length then T.getD i tm0 else x := by
  rw [List.getD_eq_getElem?_getD]
  split
  · next q => rw [List.getElem?_append_left q, ← List.getD_eq_getElem?_getD]
  · next q => rw [List.getElem?_append_right (by omega), show i - T.length = 0 by omega]; rfl
set_option maxRecDepth 100000 in
set_option maxHeartbeats 2000000 in
theorem tb_keep {X : ev_X} {c0 z : Nat} {F : Nat → Option va_E} {T : List Tm} {u : Nat} (h : tbl c0 F T u) {N1 N2 : Nat} {x : Tm} (hd : trm c0 F 3 N1 N2 x) : Ex X m_Terms_keep 0 [.ref (c0 + 9), .ref (c0 + 3), ev_dead] [] (hp c0 (26 + 5 * T.length) z F) (kpP c0 z F T u x) := by
  obtain ⟨h9, ⟨κ, h10, hκ⟩, hT, hu, hx⟩ := id h
  have hb1 := hd.2.1.le
  have hb2 := hd.2.2.1.le
  have hN1 := hd.2.2.2.1
  have hN2 := hd.2.2.2.2.1
  refine Ex.nx rfl ?_
  refine Ex.nx rfl ?_
  refine Hx.call 9 rfl rfl h9 rfl rfl (tb_num h hd) ?_
  show Ex X m_Terms_keep 5 [.ref (c0 + 9), .ref (c0 + 3), ev_dead] [.int (numT T x)] (hp c0 (26 + 5 * T.length) _ _) _
  refine Ex.nx rfl ?_
  show Ex X m_Terms_keep 6 [.ref (c0 + 9), .ref (c0 + 3), .int (numT T x)] [] (hp c0 (26 + 5 * T.length) _ _) _
  refine Ex.nx rfl ?_
  refine Ex.nx rfl ?_
  refine Ex.nx rfl ?_
  refine Ex.ite (fun c1 => ?_) (fun c1 => ?_)
  · replace c1 : (numT T x) = (-2) := of_decide_eq_true c1
    show Ex X m_Terms_keep 14 [.ref (c0 + 9), .ref (c0 + 3), .int (numT T x)] [] (hp c0 (26 + 5 * T.length) _ _) _
    refine Ex.nx rfl ?_
    refine Hx.get 9 rfl h9 rfl ?_
    refine Ex.nx rfl ?_
    refine Ex.ite (fun c2 => ?_) (fun c2 => ?_)
    · replace c2 : (nI T.length) < 0 := of_decide_eq_true c2
      exact absurd c2 (nI_pos (by omega))
    · replace c2 : ¬ (nI T.length) < 0 := of_decide_eq_false c2
      show Ex X m_Terms_keep 21 [.ref (c0 + 9), .ref (c0 + 3), .int (numT T x)] [] (hp c0 (26 + 5 * T.length) _ _) _
      refine Ex.nx rfl ?_
      refine Hx.get 9 rfl h9 rfl ?_
      refine Ex.nx rfl ?_
      refine Hx.get 9 rfl h9 rfl ?_
      refine Hx.alen 10 rfl h10 rfl ?_
      refine Ex.nx rfl ?_
      refine Ex.ite (fun c3 => ?_) (fun c3 => ?_)
      · replace c3 : (nI 2000) ≤ (nI T.length) := of_decide_eq_true c3
        show Ex X m_Terms_keep 47 [.ref (c0 + 9), .ref (c0 + 3), .int (numT T x)] [] (hp c0 (26 + 5 * T.length) _ _) _
        refine Ex.nx rfl ?_
        exact Ex.ret rfl (ev_reti rfl) (Or.inr (Or.inl ⟨c1, Or.inl ((nI_leI (by decide) (by omega)).mp c3), rfl, rfl⟩))
      · replace c3 : ¬ (nI 2000) ≤ (nI T.length) := of_decide_eq_false c3
        have hT2 : T.length < 2000 := Nat.lt_of_not_le (fun q => c3 ((nI_leI (by decide) (by omega)).mpr q))
        show Ex X m_Terms_keep 33 [.ref (c0 + 9), .ref (c0 + 3), .int (numT T x)] [] (hp c0 (26 + 5 * T.length) _ _) _
        refine Ex.nx rfl ?_
        refine Hx.get 9 rfl h9 rfl ?_
        refine Ex.nx rfl ?_
        refine Hx.call 3 rfl rfl hd.1 rfl rfl (tm_bytes hd) ?_
        show Ex X m_Terms_keep 41 [.ref (c0 + 9), .ref (c0 + 3), .int (numT T x)] [.int (nI (x.2.2.2.1.length + x.2.2.2.2.length)), .int (nI u)] (hp c0 (26 + 5 * T.length) _ _) _
        refine Ex.nx rfl ?_
        refine Hx.top (y := nI (u + (x.2.2.2.1.length + x.2.2.2.2.length))) (nI_add _ _) ?_
        refine Ex.nx rfl ?_
        refine Ex.nx rfl ?_
        refine Ex.ite (fun c4 => ?_) (fun c4 => ?_)
        · replace c4 : (nI (u + (x.2.2.2.1.length + x.2.2.2.2.length))) ≤ 40000 := of_decide_eq_true c4
          show Ex X m_Terms_keep 50 [.ref (c0 + 9), .ref (c0 + 3), .int (numT T x)] [] (hp c0 (26 + 5 * T.length) _ _) _
          refine Ex.nx rfl ?_
          refine Hx.get 9 rfl h9 rfl ?_
          refine Ex.nx rfl ?_
          refine Hx.get 9 rfl h9 rfl ?_
          refine Ex.nx rfl ?_
          refine Hx.callX 3 rfl rfl hd.1 rfl rfl (tm_copy hd (by omega)) ?_
          rintro v1 hh ⟨rfl, F1, rfl, t1, t2⟩
          have k9 := (t2 9 (by omega)).trans h9
          have k10 := (t2 10 (by omega)).trans h10
          have kd : trm c0 F1 3 N1 N2 x := hd.fr (fun q q1 q2 => t2 q (by omega))
          show Ex X m_Terms_keep 62 [.ref (c0 + 9), .ref (c0 + 3), .int (numT T x)] [.ref (c0 + (26 + 5 * T.length)), .int (nI T.length), .ref (c0 + 10)] (hp c0 (26 + 5 * T.length + 5) _ _) _
          refine Hx.aast 10 (26 + 5 * T.length) rfl k10 t1.1 (nI_in hT2 (by decide)) ?_
          refine Ex.nx rfl ?_
          refine Ex.nx rfl ?_
          refine Hx.get 9 rfl k9 rfl ?_
          refine Ex.nx rfl ?_
          refine Ex.nx rfl ?_
          refine Hx.top (y := nI (T.length + 1)) (nI_1 _) ?_
          refine Hx.put 9 rfl k9 rfl rfl rfl ?_
          refine Ex.nx rfl ?_
          refine Ex.nx rfl ?_
          refine Hx.get 9 rfl rfl rfl ?_
          refine Ex.nx rfl ?_
          have kd2 := kd.fr (F' := va_up (va_up F1 10 (some (.inl (2, 2000, .inr (.inr (.inr (.inr (va_up (κ) (nI T.length).toNatClampNeg (some (c0 + (26 + 5 * T.length))))))))))) 9 (some (.inr (3, [.ref (c0 + 10), .int (nI (T.length + 1)), .int (nI u)])))) (fun q q1 q2 => by rw [va_up_ne _ _ (by omega), va_up_ne _ _ (by omega)])
          refine Hx.call 3 rfl rfl kd2.1 rfl rfl (tm_bytes kd2) ?_
          show Ex X m_Terms_keep 82 [.ref (c0 + 9), .ref (c0 + 3), .int (numT T x)] [.int (nI (x.2.2.2.1.length + x.2.2.2.2.length)), .int (nI u), .ref (c0 + 9)] (hp c0 (26 + 5 * T.length + 5) _ _) _
          refine Ex.nx rfl ?_
          refine Hx.top (y := nI (u + (x.2.2.2.1.length + x.2.2.2.2.length))) (nI_add _ _) ?_
          refine Hx.put 9 rfl rfl rfl rfl rfl ?_
          refine Ex.nx rfl ?_
          refine Hx.get 9 rfl rfl rfl ?_
          refine Ex.ret rfl (ev_reti rfl) (Or.inr (Or.inr ⟨c1, hT2, (nI_leI (b := 40000) (by omega) (by decide)).mp c4, rfl, _, congrArg (fun k => hp c0 k _ _) (show 26 + 5 * T.length + 5 = 26 + 5 * (T ++ [x]).length by simp only [List.length_append, List.length_cons, List.length_nil]; omega), ?_, ?_⟩))
          rotate_left
          · intro q hq h9' h10'
            exact (va_up_ne _ _ h9').trans ((va_up_ne _ _ h9').trans ((va_up_ne _ _ h10').trans (t2 q (by omega))))
          · refine ⟨?_, ⟨va_up κ T.length (some (c0 + (26 + 5 * T.length))), ?_, ?_⟩, ?_, (nI_leI (b := 40000) (by omega) (by decide)).mp c4, ?_⟩
            · rw [List.length_append]; exact va_up_self _ _ _
            · rw [nI_clamp (by omega)]; exact (va_up_ne _ _ (by decide)).trans ((va_up_ne _ _ (by decide)).trans (va_up_self _ _ _))
            · intro i hi
              simp only [List.length_append, List.length_cons, List.length_nil] at hi
              by_cases q : i = T.length
              · rw [q, va_up_self]
              · rw [va_up_ne _ _ q]; exact hκ i (by omega)
            · simp only [List.length_append, List.length_cons, List.length_nil]; omega
            · intro i hi
              simp only [List.length_append, List.length_cons, List.length_nil] at hi
              rw [getD_tm hi]
              split
              · next q =>
                obtain ⟨M1, M2, hti⟩ := hx i q
                exact ⟨M1, M2, hti.fr (fun y y1 y2 => (va_up_ne _ _ (by omega)).trans ((va_up_ne _ _ (by omega)).trans ((va_up_ne _ _ (by omega)).trans (t2 y (by omega)))))⟩
              · next q =>
                rw [show i = T.length by omega]
                exact ⟨_, _, t1.fr (fun y y1 y2 => (va_up_ne _ _ (by omega)).trans ((va_up_ne _ _ (by omega)).trans (va_up_ne _ _ (by omega))))⟩
        · replace c4 : ¬ (nI (u + (x.2.2.2.1.length + x.2.2.2.2.length))) ≤ 40000 := of_decide_eq_false c4
          show Ex X m_Terms_keep 47 [.ref (c0 + 9), .ref (c0 + 3), .int (numT T x)] [] (hp c0 (26 + 5 * T.length) _ _) _
          refine Ex.nx rfl ?_
          exact Ex.ret rfl (ev_reti rfl) (Or.inr (Or.inl ⟨c1, Or.inr (Nat.lt_of_not_le (fun q => c4 ((nI_leI (b := 40000) (by omega) (by decide)).mpr q))), rfl, rfl⟩))
  · replace c1 : ¬ (numT T x) = (-2) := of_decide_eq_false c1
    show Ex X m_Terms_keep 12 [.ref (c0 + 9), .ref (c0 + 3), .int (numT T x)] [] (hp c0 (26 + 5 * T.length) _ _) _
    refine Ex.nx rfl ?_
    exact Ex.ret rfl (ev_reti rfl) (Or.inl ⟨c1, rfl, rfl⟩)
end
section
/-! The class writes. (rows laid by wip/whole/wr1.py) -/
/-- the writer's rows: out holds o, digits holds d -/
def WR (c0 : Nat) (F0 : Nat → Option va_E) (o d : List Nat) (F : Nat → Option va_E) : Prop := (∀ q, (q < 12 ∨ 15 < q) → F q = F0 q) ∧ rowL c0 F 12 13 194 o ∧ rowL c0 F 14 15 18 d
def W11 (c0 : Nat) (F0 : Nat → Option va_E) : Prop := F0 11 = some (.inr (4, [.ref (c0 + 12), .ref (c0 + 14)]))
section WRR
variable {X : ev_X} {c0 n z M pc nx a b w idx : Nat} {A r st : List Value} {F F0 : Nat → Option va_E} {Q : Option Value → ev_H → Prop} {o d : List Nat}
theorem WR.r11 (h0 : W11 c0 F0) (h : WR c0 F0 o d F) : F 11 = some (.inr (4, [.ref (c0 + 12), .ref (c0 + 14)])) := (h.1 11 (by decide)).trans h0
theorem WR.uo {F1 : Nat → Option va_E} {o1 : List Nat} (h : WR c0 F0 o d F) (h1 : rowL c0 F1 12 13 194 o1) (h2 : ∀ j, j ≠ 12 → j ≠ 13 → F1 j = F j) : WR c0 F0 o1 d F1 := ⟨fun q hq => (h2 q (by omega) (by omega)).trans (h.1 q hq), h1, h.2.2.fr (h2 _ (by decide) (by decide)) (h2 _ (by decide) (by decide))⟩
theorem WR.ud {F1 : Nat → Option va_E} {d1 : List Nat} (h : WR c0 F0 o d F) (h1 : rowL c0 F1 14 15 18 d1) (h2 : ∀ j, j ≠ 14 → j ≠ 15 → F1 j = F j) : WR c0 F0 o d1 F1 := ⟨fun q hq => (h2 q (by omega) (by omega)).trans (h.1 q hq), h.2.1.fr (h2 _ (by decide) (by decide)) (h2 _ (by decide) (by decide)), h1⟩
theorem WR.ado {x : Nat} (h : WR c0 F0 o d F) (hx : x < 256) (hl : o.length < 194) (op : pg_ops M pc = some (.invokevirtual idx, nx, 10, b, w)) (ha : ev_argI (pg_n 10) st = some (c0 + 12, [.int (nI x)], r)) (k : ∀ F1, WR c0 F0 (o ++ [x]) d F1 → Ex X M nx A r (hp c0 n z F1) Q) : Ex X M pc A st (hp c0 n z F) Q :=
  Hx.rowc h.2.1 op ha rfl rfl (rl_add h.2.1 (by decide) (by decide) x hx hl) (fun v h1 ⟨e1, F1, e2, e3, e4⟩ => by rw [e1, e2]; exact k F1 (h.uo e3 e4))
theorem WR.add {x : Nat} (h : WR c0 F0 o d F) (hx : x < 256) (hl : d.length < 18) (op : pg_ops M pc = some (.invokevirtual idx, nx, 10, b, w)) (ha : ev_argI (pg_n 10) st = some (c0 + 14, [.int (nI x)], r)) (k : ∀ F1, WR c0 F0 o (d ++ [x]) F1 → Ex X M nx A r (hp c0 n z F1) Q) : Ex X M pc A st (hp c0 n z F) Q :=
  Hx.rowc h.2.2 op ha rfl rfl (rl_add h.2.2 (by decide) (by decide) x hx hl) (fun v h1 ⟨e1, F1, e2, e3, e4⟩ => by rw [e1, e2]; exact k F1 (h.ud e3 e4))
theorem WR.clo (h : WR c0 F0 o d F) (op : pg_ops M pc = some (.invokevirtual idx, nx, 14, b, w)) (ha : ev_argI (pg_n 14) st = some (c0 + 12, [], r)) (k : ∀ F1, WR c0 F0 [] d F1 → Ex X M nx A r (hp c0 n z F1) Q) : Ex X M pc A st (hp c0 n z F) Q :=
  Hx.rowc h.2.1 op ha rfl rfl (rl_clear h.2.1 (by decide)) (fun v h1 ⟨e1, F1, e2, e3, e4⟩ => by rw [e1, e2]; exact k F1 (h.uo e3 e4))
theorem WR.cld (h : WR c0 F0 o d F) (op : pg_ops M pc = some (.invokevirtual idx, nx, 14, b, w)) (ha : ev_argI (pg_n 14) st = some (c0 + 14, [], r)) (k : ∀ F1, WR c0 F0 o [] F1 → Ex X M nx A r (hp c0 n z F1) Q) : Ex X M pc A st (hp c0 n z F) Q :=
  Hx.rowc h.2.2 op ha rfl rfl (rl_clear h.2.2 (by decide)) (fun v h1 ⟨e1, F1, e2, e3, e4⟩ => by rw [e1, e2]; exact k F1 (h.ud e3 e4))
/-- a row beside the writer's -/
theorem WR.ada {j ja N1 : Nat} {m : List Nat} (h : WR c0 F0 o d F) (g : rowL c0 F0 j ja N1 m) (hN1 : N1 ≤ 1000) (hj : j < 12 ∨ 15 < j) (hja : ja < 12 ∨ 15 < ja) (hl : o.length + m.length ≤ 194) (op : pg_ops M pc = some (.invokevirtual idx, nx, 60, b, w)) (ha : ev_argI (pg_n 60) st = some (c0 + 12, [.ref (c0 + j)], r)) (k : ∀ F1, WR c0 F0 (o ++ m) d F1 → Ex X M nx A r (hp c0 n z F1) Q) : Ex X M pc A st (hp c0 n z F) Q :=
  Hx.rowc h.2.1 op ha rfl rfl (rl_addAll (by decide) hN1 (by decide) (by omega) (by omega) (by omega) (by omega) hl h.2.1 (g.fr (h.1 j hj) (h.1 ja hja))) (fun v h1 ⟨e1, F1, e2, e3, e4⟩ => by rw [e1, e2]; exact k F1 (h.uo e3 e4))
end WRR
theorem wl_ls : True := trivial
theorem wln_0 : wlen 0 = 4 := by decide
theorem wln_1 : wlen 1 = 5 := by decide
theorem wln_2 : wlen 2 = 4 := by decide
theorem wln_3 : wlen 3 = 5 := by decide
theorem wln_4 : wlen 4 = 7 := by decide
theorem wln_5 : wlen 5 = 5 := by decide
theorem wln_6 : wlen 6 = 2 := by decide
theorem wln_7 : wlen 7 = 2 := by decide
theorem wln_8 : wlen 8 = 2 := by decide
theorem wln_9 : wlen 9 = 2 := by decide
theorem wln_10 : wlen 10 = 2 := by decide
theorem wln_11 : wlen 11 = 2 := by decide
set_option maxRecDepth 100000 in
set_option maxHeartbeats 2000000 in
theorem wr_wd_l {X : ev_X} {c0 n z : Nat} (hS : XS X c0) {F0 : Nat → Option va_E} {k : Nat} (hk : k < 12) {o d : List Nat} (hl : o.length + wlen k ≤ 194) : ∀ (m i : Nat) (F : Nat → Option va_E) (hm : i + m = wlen k) (hW : WR c0 F0 (o ++ (wl k).take i) d F), Ex X m_Row_addWord 2 [.ref (c0 + 12), .ref (X.2.1 k), .int (nI i)] [] (hp c0 n z F) (fun rr h' => rr = none ∧ ∃ F1, h' = hp c0 n z F1 ∧ WR c0 F0 (o ++ wl k) (d) F1) := by
  have hw := wlen_all k hk
  intro m
  induction m with
  | zero =>
    intro i F hm hW
    refine Ex.nx rfl ?_
    refine Ex.nx rfl ?_
    refine Hx.scl hS hk lo_hp rfl rfl rfl rfl (hs_length hS lo_hp hk) ?_
    rintro v h1 ⟨rfl, rfl⟩
    show Ex X m_Row_addWord 7 [.ref (c0 + 12), .ref (X.2.1 k), .int (nI i)] [.int (nI (wlen k)), .int (nI i)] (hp c0 n _ _) _
    refine Ex.nx rfl ?_
    refine Ex.ite (fun c1 => ?_) (fun c1 => ?_)
    · replace c1 : (nI (wlen k)) ≤ (nI i) := of_decide_eq_true c1
      show Ex X m_Row_addWord 25 [.ref (c0 + 12), .ref (X.2.1 k), .int (nI i)] [] (hp c0 n _ _) _
      exact Ex.ret rfl rfl ⟨rfl, F, rfl, by rw [show i = wlen k by omega, ← wl_len, List.take_length] at hW; exact hW⟩
    · replace c1 : ¬ (nI (wlen k)) ≤ (nI i) := of_decide_eq_false c1
      exact absurd (show nI (wlen k) ≤ nI i by rw [show i = wlen k by omega]; exact Int32.le_refl _) c1
  | succ m ih =>
    intro i F hm hW
    refine Ex.nx rfl ?_
    refine Ex.nx rfl ?_
    refine Hx.scl hS hk lo_hp rfl rfl rfl rfl (hs_length hS lo_hp hk) ?_
    rintro v h1 ⟨rfl, rfl⟩
    show Ex X m_Row_addWord 7 [.ref (c0 + 12), .ref (X.2.1 k), .int (nI i)] [.int (nI (wlen k)), .int (nI i)] (hp c0 n _ _) _
    refine Ex.nx rfl ?_
    refine Ex.ite (fun c1 => ?_) (fun c1 => ?_)
    · replace c1 : (nI (wlen k)) ≤ (nI i) := of_decide_eq_true c1
      exact absurd ((nI_leI (by omega) (by omega)).mp c1) (by omega)
    · replace c1 : ¬ (nI (wlen k)) ≤ (nI i) := of_decide_eq_false c1
      show Ex X m_Row_addWord 10 [.ref (c0 + 12), .ref (X.2.1 k), .int (nI i)] [] (hp c0 n _ _) _
      refine Ex.nx rfl ?_
      refine Ex.nx rfl ?_
      refine Ex.nx rfl ?_
      refine Hx.scl hS hk lo_hp rfl rfl rfl rfl (hs_char hS lo_hp hk (j := i) (by omega)) ?_
      rintro v h1 ⟨rfl, rfl⟩
      show Ex X m_Row_addWord 16 [.ref (c0 + 12), .ref (X.2.1 k), .int (nI i)] [.int (nI (wch k i)), .ref (c0 + 12)] (hp c0 n _ _) _
      refine WR.ado (x := (wch k i)) hW (wch_all k hk i (by omega)).2 (by simp only [List.length_append, List.length_take, wl_len]; omega) rfl rfl ?_
      intro F1 hW1
      show Ex X m_Row_addWord 19 [.ref (c0 + 12), .ref (X.2.1 k), .int (nI i)] [] (hp c0 n _ _) _
      refine Ex.nx rfl ?_
      show Ex X m_Row_addWord 22 [.ref (c0 + 12), .ref (X.2.1 k), .int ((nI i) + 1)] [] (hp c0 n _ _) _
      refine Ex.nx rfl ?_
      show Ex X m_Row_addWord 2 [.ref (c0 + 12), .ref (X.2.1 k), .int ((nI i) + 1)] [] (hp c0 n _ _) _
      rw [show nI i + 1 = nI (i + 1) from nI_1 i]
      have e := take_s (m := wl k) (i := i) (by rw [wl_len]; omega)
      rw [wl_get (by omega)] at e
      refine ih (i + 1) _ (by omega) ?_
      rw [← e, ← List.append_assoc]
      exact hW1
set_option maxRecDepth 100000 in
set_option maxHeartbeats 2000000 in
theorem wr_word {X : ev_X} {c0 n z : Nat} (hS : XS X c0) {F0 : Nat → Option va_E} {k : Nat} (hk : k < 12) {o d : List Nat} {F : Nat → Option va_E} (hW : WR c0 F0 o d F) (hl : o.length + wlen k ≤ 194) : Ex X m_Row_addWord 0 [.ref (c0 + 12), .ref (X.2.1 k), ev_dead] [] (hp c0 n z F) (fun rr h' => rr = none ∧ ∃ F1, h' = hp c0 n z F1 ∧ WR c0 F0 (o ++ wl k) (d) F1) := by
  refine Ex.nx rfl ?_
  refine Ex.nx rfl ?_
  show Ex X m_Row_addWord 2 [.ref (c0 + 12), .ref (X.2.1 k), .int 0] [] (hp c0 n _ _) _
  show Ex X m_Row_addWord 2 [.ref (c0 + 12), .ref (X.2.1 k), .int 0] [] (hp c0 n _ _) _
  exact wr_wd_l hS hk hl (wlen k) 0 F (by omega) (by rw [List.take_zero, List.append_nil]; exact hW)
set_option maxRecDepth 100000 in
set_option maxHeartbeats 2000000 in
theorem wr_name {X : ev_X} {c0 n z : Nat} {F0 : Nat → Option va_E} (h0 : W11 c0 F0) {o d : List Nat} {F : Nat → Option va_E} {j ja N1 : Nat} {m : List Nat} (hW : WR c0 F0 o d F) (g : rowL c0 F0 j ja N1 m) (hN1 : N1 ≤ 1000) (hj : j < 12 ∨ 15 < j) (hja : ja < 12 ∨ 15 < ja) (hl : o.length + m.length + 2 ≤ 194) : Ex X m_Writer_addName 0 [.ref (c0 + 11), .ref (c0 + j)] [] (hp c0 n z F) (fun rr h' => rr = none ∧ ∃ F1, h' = hp c0 n z F1 ∧ WR c0 F0 (o ++ ([60] ++ m ++ [62])) (d) F1) := by
  refine Ex.nx rfl ?_
  refine Hx.get 11 rfl (WR.r11 h0 hW) rfl ?_
  refine Ex.nx rfl ?_
  refine WR.ado (x := 60) hW (by decide) (by first | omega | (simp only [List.length_append, List.length_cons, List.length_nil, wl_len, wln_6]; omega)) rfl rfl ?_
  intro F2 hW2
  show Ex X m_Writer_addName 9 [.ref (c0 + 11), .ref (c0 + j)] [] (hp c0 n _ _) _
  refine Ex.nx rfl ?_
  refine Hx.get 11 rfl (WR.r11 h0 hW2) rfl ?_
  refine Ex.nx rfl ?_
  refine WR.ada hW2 g hN1 hj hja (by first | omega | (simp only [List.length_append, List.length_cons, List.length_nil, wl_len, wln_6]; omega)) rfl rfl ?_
  intro F3 hW3
  show Ex X m_Writer_addName 17 [.ref (c0 + 11), .ref (c0 + j)] [] (hp c0 n _ _) _
  refine Ex.nx rfl ?_
  refine Hx.get 11 rfl (WR.r11 h0 hW3) rfl ?_
  refine Ex.nx rfl ?_
  refine WR.ado (x := 62) hW3 (by decide) (by first | omega | (simp only [List.length_append, List.length_cons, List.length_nil, wl_len, wln_6]; omega)) rfl rfl ?_
  intro F4 hW4
  show Ex X m_Writer_addName 26 [.ref (c0 + 11), .ref (c0 + j)] [] (hp c0 n _ _) _
  exact Ex.ret rfl rfl ⟨rfl, _, rfl, by rw [show o ++ ([60] ++ m ++ [62]) = (((o ++ [60]) ++ m) ++ [62]) by simp]; exact hW4⟩
def esW (b : Nat) : List Nat := if b = 9 then wl 10 else if b = 10 then wl 8 else if b = 13 then wl 9 else if b = 34 then [92, 34] else if b = 92 then [92, 92] else [b]
theorem esW_len (b : Nat) : (esW b).length ≤ 2 := by
  unfold esW
  repeat' split
  all_goals first | decide | (rw [wl_len]; decide) | simp
theorem nI_lit {b n : Nat} {y : Int32} (hy : y = nI n) (hb : b < 2 ^ 31) (hn : n < 2 ^ 31) (h : nI b = y) : b = n := (nI_eq hb hn).mp (h.trans hy)
theorem nI_nlit {b n : Nat} {y : Int32} (hy : y = nI n) (h : ¬ nI b = y) : ¬ b = n := fun e => h (by rw [e, hy])
set_option maxRecDepth 100000 in
set_option maxHeartbeats 2000000 in
theorem wr_item {X : ev_X} {c0 n z : Nat} {F0 : Nat → Option va_E} (h0 : W11 c0 F0) (hS : XS X c0) {o d : List Nat} {F : Nat → Option va_E} {b : Nat} (hb : b < 256) (hW : WR c0 F0 o d F) (hl : o.length + 2 ≤ 194) : Ex X m_Writer_addItem 0 [.ref (c0 + 11), .int (nI b)] [] (hp c0 n z F) (fun rr h' => rr = none ∧ ∃ F1, h' = hp c0 n z F1 ∧ WR c0 F0 (o ++ esW b) (d) F1) := by
  refine Ex.nx rfl ?_
  by_cases e1 : (nI b) = 9
  · refine Hx.top (y := 9) e1 ?_
    refine Ex.nx rfl ?_
    show Ex X m_Writer_addItem 76 [.ref (c0 + 11), .int (nI b)] [] (hp c0 n _ _) _
    refine Ex.nx rfl ?_
    refine Hx.get 11 rfl (WR.r11 h0 hW) rfl ?_
    refine Ex.nx rfl ?_
    refine Hx.rowc hW.2.1 rfl rfl rfl rfl (wr_word hS (k := 10) (by decide) hW (by first | (have := wl_ls; simp only [List.length_append, List.length_cons, List.length_nil, wl_len]; omega) | (simp only [List.length_append, List.length_cons, List.length_nil, wl_len, wln_10]; omega) | (rw [wln_10]; omega))) ?_
    rintro v hh ⟨rfl, F5, rfl, hW5⟩
    show Ex X m_Writer_addItem 85 [.ref (c0 + 11), .int (nI b)] [] (hp c0 n _ _) _
    refine Ex.nx rfl ?_
    exact Ex.ret rfl rfl ⟨rfl, _, rfl, by rw [esW, if_pos (nI_lit (n := 9) rfl (by omega) (by decide) e1)]; simpa using hW5⟩
  by_cases e2 : (nI b) = 10
  · refine Hx.top (y := 10) e2 ?_
    refine Ex.nx rfl ?_
    show Ex X m_Writer_addItem 52 [.ref (c0 + 11), .int (nI b)] [] (hp c0 n _ _) _
    refine Ex.nx rfl ?_
    refine Hx.get 11 rfl (WR.r11 h0 hW) rfl ?_
    refine Ex.nx rfl ?_
    refine Hx.rowc hW.2.1 rfl rfl rfl rfl (wr_word hS (k := 8) (by decide) hW (by first | (have := wl_ls; simp only [List.length_append, List.length_cons, List.length_nil, wl_len]; omega) | (simp only [List.length_append, List.length_cons, List.length_nil, wl_len, wln_8]; omega) | (rw [wln_8]; omega))) ?_
    rintro v hh ⟨rfl, F6, rfl, hW6⟩
    show Ex X m_Writer_addItem 61 [.ref (c0 + 11), .int (nI b)] [] (hp c0 n _ _) _
    refine Ex.nx rfl ?_
    exact Ex.ret rfl rfl ⟨rfl, _, rfl, by rw [esW, if_neg (nI_nlit (n := 9) rfl e1), if_pos (nI_lit (n := 10) rfl (by omega) (by decide) e2)]; simpa using hW6⟩
  by_cases e3 : (nI b) = 13
  · refine Hx.top (y := 13) e3 ?_
    refine Ex.nx rfl ?_
    show Ex X m_Writer_addItem 64 [.ref (c0 + 11), .int (nI b)] [] (hp c0 n _ _) _
    refine Ex.nx rfl ?_
    refine Hx.get 11 rfl (WR.r11 h0 hW) rfl ?_
    refine Ex.nx rfl ?_
    refine Hx.rowc hW.2.1 rfl rfl rfl rfl (wr_word hS (k := 9) (by decide) hW (by first | (have := wl_ls; simp only [List.length_append, List.length_cons, List.length_nil, wl_len]; omega) | (simp only [List.length_append, List.length_cons, List.length_nil, wl_len, wln_9]; omega) | (rw [wln_9]; omega))) ?_
    rintro v hh ⟨rfl, F7, rfl, hW7⟩
    show Ex X m_Writer_addItem 73 [.ref (c0 + 11), .int (nI b)] [] (hp c0 n _ _) _
    refine Ex.nx rfl ?_
    exact Ex.ret rfl rfl ⟨rfl, _, rfl, by rw [esW, if_neg (nI_nlit (n := 9) rfl e1), if_neg (nI_nlit (n := 10) rfl e2), if_pos (nI_lit (n := 13) rfl (by omega) (by decide) e3)]; simpa using hW7⟩
  by_cases e4 : (nI b) = 34
  · refine Hx.top (y := 34) e4 ?_
    refine Ex.nx rfl ?_
    show Ex X m_Writer_addItem 88 [.ref (c0 + 11), .int (nI b)] [] (hp c0 n _ _) _
    refine Ex.nx rfl ?_
    refine Hx.get 11 rfl (WR.r11 h0 hW) rfl ?_
    refine Ex.nx rfl ?_
    refine WR.ado (x := 92) hW (by decide) (by first | omega | (simp only [List.length_append, List.length_cons, List.length_nil]; omega)) rfl rfl ?_
    intro F8 hW8
    show Ex X m_Writer_addItem 97 [.ref (c0 + 11), .int (nI b)] [] (hp c0 n _ _) _
    refine Ex.nx rfl ?_
    refine Hx.get 11 rfl (WR.r11 h0 hW8) rfl ?_
    refine Ex.nx rfl ?_
    refine WR.ado (x := b) hW8 hb (by first | omega | (simp only [List.length_append, List.length_cons, List.length_nil]; omega)) rfl rfl ?_
    intro F9 hW9
    show Ex X m_Writer_addItem 105 [.ref (c0 + 11), .int (nI b)] [] (hp c0 n _ _) _
    refine Ex.nx rfl ?_
    exact Ex.ret rfl rfl ⟨rfl, _, rfl, by have eb := nI_lit (n := 34) rfl (by omega) (by decide) e4; rw [esW, if_neg (nI_nlit (n := 9) rfl e1), if_neg (nI_nlit (n := 10) rfl e2), if_neg (nI_nlit (n := 13) rfl e3), if_pos (nI_lit (n := 34) rfl (by omega) (by decide) e4)]; simpa [eb] using hW9⟩
  by_cases e5 : (nI b) = 92
  · refine Hx.top (y := 92) e5 ?_
    refine Ex.nx rfl ?_
    show Ex X m_Writer_addItem 88 [.ref (c0 + 11), .int (nI b)] [] (hp c0 n _ _) _
    refine Ex.nx rfl ?_
    refine Hx.get 11 rfl (WR.r11 h0 hW) rfl ?_
    refine Ex.nx rfl ?_
    refine WR.ado (x := 92) hW (by decide) (by first | omega | (simp only [List.length_append, List.length_cons, List.length_nil]; omega)) rfl rfl ?_
    intro F10 hW10
    show Ex X m_Writer_addItem 97 [.ref (c0 + 11), .int (nI b)] [] (hp c0 n _ _) _
    refine Ex.nx rfl ?_
    refine Hx.get 11 rfl (WR.r11 h0 hW10) rfl ?_
    refine Ex.nx rfl ?_
    refine WR.ado (x := b) hW10 hb (by first | omega | (simp only [List.length_append, List.length_cons, List.length_nil]; omega)) rfl rfl ?_
    intro F11 hW11
    show Ex X m_Writer_addItem 105 [.ref (c0 + 11), .int (nI b)] [] (hp c0 n _ _) _
    refine Ex.nx rfl ?_
    exact Ex.ret rfl rfl ⟨rfl, _, rfl, by have eb := nI_lit (n := 92) rfl (by omega) (by decide) e5; rw [esW, if_neg (nI_nlit (n := 9) rfl e1), if_neg (nI_nlit (n := 10) rfl e2), if_neg (nI_nlit (n := 13) rfl e3), if_neg (nI_nlit (n := 34) rfl e4), if_pos (nI_lit (n := 92) rfl (by omega) (by decide) e5)]; simpa [eb] using hW11⟩
  refine Hx.lsw (off := 107) rfl rfl ((lv_osw e1 rfl).trans ((lv_osw e2 rfl).trans ((lv_osw e3 rfl).trans ((lv_osw e4 rfl).trans ((lv_osw e5 rfl).trans rfl))))) (by decide) ?_
  show Ex X m_Writer_addItem 108 [.ref (c0 + 11), .int (nI b)] [] (hp c0 n _ _) _
  refine Ex.nx rfl ?_
  refine Hx.get 11 rfl (WR.r11 h0 hW) rfl ?_
  refine Ex.nx rfl ?_
  refine WR.ado (x := b) hW hb (by first | omega | (simp only [List.length_append, List.length_cons, List.length_nil]; omega)) rfl rfl ?_
  intro F12 hW12
  show Ex X m_Writer_addItem 116 [.ref (c0 + 11), .int (nI b)] [] (hp c0 n _ _) _
  exact Ex.ret rfl rfl ⟨rfl, _, rfl, by rw [esW, if_neg (nI_nlit (n := 9) rfl e1), if_neg (nI_nlit (n := 10) rfl e2), if_neg (nI_nlit (n := 13) rfl e3), if_neg (nI_nlit (n := 34) rfl e4), if_neg (nI_nlit (n := 92) rfl e5)]; simpa using hW12⟩
end
section
/-! The class writes texts and digits. (rows laid by wip/whole/wr2.py) -/
theorem fm_s {m : List Nat} {i : Nat} (h : i < m.length) : (m.take i).flatMap esW ++ esW (m.getD i 0) = (m.take (i + 1)).flatMap esW := by
  rw [← take_s h, List.flatMap_append]; simp
theorem fm_len (m : List Nat) : (m.flatMap esW).length ≤ 2 * m.length := by
  induction m with
  | nil => exact Nat.le_refl _
  | cons a m ih =>
    rw [List.flatMap_cons, List.length_append, List.length_cons]
    have := esW_len a
    omega
theorem fm_len2 (m : List Nat) (i : Nat) (h : i ≤ m.length) : ((m.take i).flatMap esW).length ≤ 2 * i := by
  have := fm_len (m.take i)
  rw [List.length_take] at this
  omega
/-- what may be kept -/
def okT (x : Tm) : Prop := x.2.2.2.1.length ≤ 64 ∧ x.2.2.2.2.length ≤ 60 ∧ (∃ r : Nat, r < 10 ^ 18 ∧ (x.2.1 = lN r ∨ x.2.1 = -lN r)) ∧ x.2.2.1 ≤ 9 ∧ (x.1 = 1 ∨ x.1 = 2 ∨ x.1 = 3 ∨ x.1 = 4 ∨ x.1 = 5 ∨ x.1 = 6 ∨ x.1 = 7 ∨ x.1 = 8)
theorem Hx.abs {X : ev_X} {M pc nx b w idx : Nat} {A r : List Value} {Q : Option Value → ev_H → Prop} {h : ev_H} {x : Int64} (o : pg_ops M pc = some (.invokestatic idx, nx, 79, b, w)) (hs : Nat.ble (r.map fun v => v.category).sum 8 = true) (kk : Ex X M nx A (.long (if 0 < x then x else -x) :: r) h Q) : Ex X M pc A (.long x :: r) h Q :=
  Ex.hp o rfl rfl rfl rfl rfl (by simp only [ev_hp, ev_math]; rw [if_pos (Nat.le_of_ble_eq_true hs)]; rfl) kk
theorem lN_big {r : Nat} (h : r < 2 ^ 63) : (lN r).toInt = r := lg_ofNat_toInt h
theorem abs_lN {x : Int64} {r : Nat} (hr : r < 10 ^ 18) (h : x = lN r ∨ x = -lN r) : (if 0 < x then x else -x) = lN r := by
  have hb := lN_big (r := r) (by omega)
  have e0 : (0 : Int64).toInt = 0 := rfl
  rcases h with rfl | rfl
  · by_cases h0 : (0 : Int64) < lN r
    · rw [if_pos h0]
    · rw [if_neg h0]
      rw [Int64.lt_iff_toInt_lt, e0, hb] at h0
      have : r = 0 := by omega
      subst this
      decide
  · by_cases h0 : (0 : Int64) < -lN r
    · rw [Int64.lt_iff_toInt_lt, e0] at h0
      rcases i64_neg (lN r) with ⟨a, b⟩ | ⟨a, b⟩ <;> omega
    · rw [if_neg h0, Int64.neg_neg]
def txW (x : Tm) : List Nat := [34] ++ x.2.2.2.1.flatMap esW ++ [34] ++ (if x.1 = 6 then [64] ++ x.2.2.2.2 else if x.1 = 7 then wl 11 ++ ([60] ++ x.2.2.2.2 ++ [62]) else [])
set_option maxRecDepth 100000 in
set_option maxHeartbeats 2000000 in
theorem wr_tx_e {X : ev_X} {c0 n z : Nat} {F0 : Nat → Option va_E} (h0 : W11 c0 F0) (hS : XS X c0) {j N1 N2 : Nat} {x : Tm} (g : trm c0 F0 j N1 N2 x) (hj : 26 ≤ j) (hk : okT x) {d : List Nat} {F : Nat → Option va_E} (iv : Value) (hW : WR c0 F0 ([34] ++ x.2.2.2.1.flatMap esW) d F) : Ex X m_Writer_addText 40 [.ref (c0 + 11), .ref (c0 + j), iv] [] (hp c0 n z F) (fun rr h' => rr = none ∧ ∃ F1, h' = hp c0 n z F1 ∧ WR c0 F0 (txW x) (d) F1) := by
  have h64 := hk.1
  have h60 := hk.2.1
  refine Ex.nx rfl ?_
  refine Hx.get 11 rfl (WR.r11 h0 hW) rfl ?_
  refine Ex.nx rfl ?_
  refine WR.ado (x := 34) hW (by decide) (by have := fm_len x.2.2.2.1; simp only [List.length_append, List.length_cons, List.length_nil]; omega) rfl rfl ?_
  intro F13 hW13
  show Ex X m_Writer_addText 49 [.ref (c0 + 11), .ref (c0 + j), iv] [] (hp c0 n _ _) _
  refine Ex.nx rfl ?_
  refine Hx.get j rfl ((hW13.1 j (by omega)).trans g.1) rfl ?_
  refine Ex.nx rfl ?_
  refine Ex.nx rfl ?_
  refine Ex.ite (fun c1 => ?_) (fun c1 => ?_)
  · replace c1 : ¬ x.1 = 6 := of_decide_eq_true c1
    show Ex X m_Writer_addText 81 [.ref (c0 + 11), .ref (c0 + j), iv] [] (hp c0 n _ _) _
    refine Ex.nx rfl ?_
    refine Hx.get j rfl ((hW13.1 j (by omega)).trans g.1) rfl ?_
    refine Ex.nx rfl ?_
    refine Ex.nx rfl ?_
    refine Ex.ite (fun c2 => ?_) (fun c2 => ?_)
    · replace c2 : ¬ x.1 = 7 := of_decide_eq_true c2
      show Ex X m_Writer_addText 107 [.ref (c0 + 11), .ref (c0 + j), iv] [] (hp c0 n _ _) _
      exact Ex.ret rfl rfl ⟨rfl, _, rfl, by rw [txW, if_neg c1, if_neg c2]; simpa using hW13⟩
    · replace c2 : x.1 = 7 := Classical.not_not.mp (of_decide_eq_false c2)
      show Ex X m_Writer_addText 90 [.ref (c0 + 11), .ref (c0 + j), iv] [] (hp c0 n _ _) _
      refine Ex.nx rfl ?_
      refine Hx.get 11 rfl (WR.r11 h0 hW13) rfl ?_
      refine Ex.nx rfl ?_
      refine Hx.rowc hW13.2.1 rfl rfl rfl rfl (wr_word hS (k := 11) (by decide) hW13 (by have := fm_len x.2.2.2.1; simp only [List.length_append, List.length_cons, List.length_nil, wln_11]; omega)) ?_
      rintro v hh ⟨rfl, F14, rfl, hW14⟩
      show Ex X m_Writer_addText 99 [.ref (c0 + 11), .ref (c0 + j), iv] [] (hp c0 n _ _) _
      refine Ex.nx rfl ?_
      refine Ex.nx rfl ?_
      refine Hx.get j rfl ((hW14.1 j (by omega)).trans g.1) rfl ?_
      refine Hx.callX 11 rfl rfl (WR.r11 h0 hW14) rfl rfl (wr_name h0 hW14 g.2.2.1 g.2.2.2.2.1 (by omega) (by omega) (by have := fm_len x.2.2.2.1; simp only [List.length_append, List.length_cons, List.length_nil, wl_len, wln_11]; omega)) ?_
      rintro v hh ⟨rfl, F15, rfl, hW15⟩
      show Ex X m_Writer_addText 107 [.ref (c0 + 11), .ref (c0 + j), iv] [] (hp c0 n _ _) _
      exact Ex.ret rfl rfl ⟨rfl, _, rfl, by rw [txW, if_neg c1, if_pos c2]; simpa using hW15⟩
  · replace c1 : x.1 = 6 := Classical.not_not.mp (of_decide_eq_false c1)
    show Ex X m_Writer_addText 58 [.ref (c0 + 11), .ref (c0 + j), iv] [] (hp c0 n _ _) _
    refine Ex.nx rfl ?_
    refine Hx.get 11 rfl (WR.r11 h0 hW13) rfl ?_
    refine Ex.nx rfl ?_
    refine WR.ado (x := 64) hW13 (by decide) (by have := fm_len x.2.2.2.1; simp only [List.length_append, List.length_cons, List.length_nil]; omega) rfl rfl ?_
    intro F16 hW16
    show Ex X m_Writer_addText 67 [.ref (c0 + 11), .ref (c0 + j), iv] [] (hp c0 n _ _) _
    refine Ex.nx rfl ?_
    refine Hx.get 11 rfl (WR.r11 h0 hW16) rfl ?_
    refine Ex.nx rfl ?_
    refine Hx.get j rfl ((hW16.1 j (by omega)).trans g.1) rfl ?_
    refine WR.ada hW16 g.2.2.1 g.2.2.2.2.1 (by omega) (by omega) (by have := fm_len x.2.2.2.1; simp only [List.length_append, List.length_cons, List.length_nil]; omega) rfl rfl ?_
    intro F17 hW17
    show Ex X m_Writer_addText 78 [.ref (c0 + 11), .ref (c0 + j), iv] [] (hp c0 n _ _) _
    refine Ex.nx rfl ?_
    exact Ex.ret rfl rfl ⟨rfl, _, rfl, by rw [txW, if_pos c1]; simpa using hW17⟩
set_option maxRecDepth 100000 in
set_option maxHeartbeats 2000000 in
theorem wr_tx_l {X : ev_X} {c0 n z : Nat} {F0 : Nat → Option va_E} (h0 : W11 c0 F0) (hS : XS X c0) {j N1 N2 : Nat} {x : Tm} (g : trm c0 F0 j N1 N2 x) (hj : 26 ≤ j) (hk : okT x) {d : List Nat} : ∀ (m i : Nat) (F : Nat → Option va_E) (hm : i + m = x.2.2.2.1.length) (hW : WR c0 F0 ([34] ++ (x.2.2.2.1.take i).flatMap esW) d F), Ex X m_Writer_addText 11 [.ref (c0 + 11), .ref (c0 + j), .int (nI i)] [] (hp c0 n z F) (fun rr h' => rr = none ∧ ∃ F1, h' = hp c0 n z F1 ∧ WR c0 F0 (txW x) (d) F1) := by
  have h64 := hk.1
  intro m
  induction m with
  | zero =>
    intro i F hm hW
    refine Ex.nx rfl ?_
    refine Ex.nx rfl ?_
    refine Hx.get j rfl ((hW.1 j (by omega)).trans g.1) rfl ?_
    have gg := g.2.1.fr (hW.1 _ (by omega)) (hW.1 _ (by omega))
    refine Hx.rowE gg rfl rfl rfl rfl (rl_size gg) ?_
    clear gg
    show Ex X m_Writer_addText 19 [.ref (c0 + 11), .ref (c0 + j), .int (nI i)] [.int (nI x.2.2.2.1.length), .int (nI i)] (hp c0 n _ _) _
    refine Ex.nx rfl ?_
    refine Ex.ite (fun c1 => ?_) (fun c1 => ?_)
    · replace c1 : (nI x.2.2.2.1.length) ≤ (nI i) := of_decide_eq_true c1
      show Ex X m_Writer_addText 40 [.ref (c0 + 11), .ref (c0 + j), .int (nI i)] [] (hp c0 n _ _) _
      show Ex X m_Writer_addText 40 [.ref (c0 + 11), .ref (c0 + j), .int (nI i)] [] (hp c0 n _ _) _
      exact wr_tx_e h0 hS g hj hk _ (by rw [show i = x.2.2.2.1.length by omega, List.take_length] at hW; exact hW)
    · replace c1 : ¬ (nI x.2.2.2.1.length) ≤ (nI i) := of_decide_eq_false c1
      exact absurd (show nI x.2.2.2.1.length ≤ nI i by rw [show i = x.2.2.2.1.length by omega]; exact Int32.le_refl _) c1
  | succ m ih =>
    intro i F hm hW
    have hfl := fm_len2 x.2.2.2.1 i (by omega)
    refine Ex.nx rfl ?_
    refine Ex.nx rfl ?_
    refine Hx.get j rfl ((hW.1 j (by omega)).trans g.1) rfl ?_
    have gg := g.2.1.fr (hW.1 _ (by omega)) (hW.1 _ (by omega))
    refine Hx.rowE gg rfl rfl rfl rfl (rl_size gg) ?_
    clear gg
    show Ex X m_Writer_addText 19 [.ref (c0 + 11), .ref (c0 + j), .int (nI i)] [.int (nI x.2.2.2.1.length), .int (nI i)] (hp c0 n _ _) _
    refine Ex.nx rfl ?_
    refine Ex.ite (fun c1 => ?_) (fun c1 => ?_)
    · replace c1 : (nI x.2.2.2.1.length) ≤ (nI i) := of_decide_eq_true c1
      exact absurd ((nI_leI (by omega) (by omega)).mp c1) (by omega)
    · replace c1 : ¬ (nI x.2.2.2.1.length) ≤ (nI i) := of_decide_eq_false c1
      show Ex X m_Writer_addText 22 [.ref (c0 + 11), .ref (c0 + j), .int (nI i)] [] (hp c0 n _ _) _
      refine Ex.nx rfl ?_
      refine Ex.nx rfl ?_
      refine Hx.get j rfl ((hW.1 j (by omega)).trans g.1) rfl ?_
      refine Ex.nx rfl ?_
      have gg := g.2.1.fr (hW.1 _ (by omega)) (hW.1 _ (by omega))
      refine Hx.rowE gg rfl rfl rfl rfl (rl_at gg g.2.2.2.1 (i := i) (by omega)) ?_
      clear gg
      refine Hx.top (y := nI (x.2.2.2.1.getD i 0)) (hb_lt (by omega)) ?_
      show Ex X m_Writer_addText 31 [.ref (c0 + 11), .ref (c0 + j), .int (nI i)] [.int (nI (x.2.2.2.1.getD i 0)), .ref (c0 + 11)] (hp c0 n _ _) _
      refine Hx.callX 11 rfl rfl (WR.r11 h0 hW) rfl rfl (wr_item h0 hS (b := x.2.2.2.1.getD i 0) (g.2.1.by i) hW (by simp only [List.length_append, List.length_cons, List.length_nil]; omega)) ?_
      rintro v hh ⟨rfl, F18, rfl, hW18⟩
      show Ex X m_Writer_addText 34 [.ref (c0 + 11), .ref (c0 + j), .int (nI i)] [] (hp c0 n _ _) _
      refine Ex.nx rfl ?_
      show Ex X m_Writer_addText 37 [.ref (c0 + 11), .ref (c0 + j), .int ((nI i) + 1)] [] (hp c0 n _ _) _
      refine Ex.nx rfl ?_
      show Ex X m_Writer_addText 11 [.ref (c0 + 11), .ref (c0 + j), .int ((nI i) + 1)] [] (hp c0 n _ _) _
      rw [show nI i + 1 = nI (i + 1) from nI_1 i]
      rw [List.append_assoc, fm_s (by omega)] at hW18
      exact ih (i + 1) _ (by omega) hW18
set_option maxRecDepth 100000 in
set_option maxHeartbeats 2000000 in
theorem wr_text {X : ev_X} {c0 n z : Nat} {F0 : Nat → Option va_E} (h0 : W11 c0 F0) (hS : XS X c0) {j N1 N2 : Nat} {x : Tm} (g : trm c0 F0 j N1 N2 x) (hj : 26 ≤ j) (hk : okT x) {d : List Nat} {F : Nat → Option va_E} (hW : WR c0 F0 [] d F) : Ex X m_Writer_addText 0 [.ref (c0 + 11), .ref (c0 + j), ev_dead] [] (hp c0 n z F) (fun rr h' => rr = none ∧ ∃ F1, h' = hp c0 n z F1 ∧ WR c0 F0 (txW x) (d) F1) := by
  refine Ex.nx rfl ?_
  refine Hx.get 11 rfl (WR.r11 h0 hW) rfl ?_
  refine Ex.nx rfl ?_
  refine WR.ado (x := 34) hW (by decide) (by first | omega | (simp only [List.length_append, List.length_cons, List.length_nil, wl_len, wln_6]; omega)) rfl rfl ?_
  intro F19 hW19
  show Ex X m_Writer_addText 9 [.ref (c0 + 11), .ref (c0 + j), ev_dead] [] (hp c0 n _ _) _
  refine Ex.nx rfl ?_
  refine Ex.nx rfl ?_
  show Ex X m_Writer_addText 11 [.ref (c0 + 11), .ref (c0 + j), .int 0] [] (hp c0 n _ _) _
  show Ex X m_Writer_addText 11 [.ref (c0 + 11), .ref (c0 + j), .int 0] [] (hp c0 n _ _) _
  exact wr_tx_l h0 hS g hj hk x.2.2.2.1.length 0 _ (by omega) (by simpa using hW19)
/-- a number's digits, the last one first, at least e of them -/
def tdl : Nat → Nat → Nat → Nat → List Nat
  | 0, _, _, _ => []
  | m + 1, i, r, e => if 0 < r ∨ i < e then (48 + r % 10) :: tdl m (i + 1) (r / 10) e else []
theorem tdl_len : ∀ (m i r e : Nat), (tdl m i r e).length ≤ m := by
  intro m
  induction m with
  | zero => intro i r e; exact Nat.le_refl _
  | succ m ih =>
    intro i r e
    rw [tdl]
    split
    · rw [List.length_cons]; have := ih (i + 1) (r / 10) e; omega
    · exact Nat.zero_le _
theorem td_v {r : Nat} (hr : r < 2 ^ 63) : 48 + (lN r - lN r / 10 * 10).toInt32 = nI (48 + r % 10) := by
  rw [show (10 : Int64) = lN 10 from rfl, pk_lRem hr (by decide) (by decide), lN_i]
  exact nI_add 48 (r % 10)
theorem lN_pos {r : Nat} (hr : r < 2 ^ 63) : 0 < lg_cmp (lN r) 0 ↔ 0 < r := by
  rw [lgc_p, Int64.lt_iff_toInt_lt, lN_big hr, show (0 : Int64).toInt = 0 from rfl]; omega
theorem Hx.topL {X : ev_X} {M pc : Nat} {A r : List Value} {Q : Option Value → ev_H → Prop} {h0 : ev_H} {x y : Int64} (h : x = y) (k : Ex X M pc A (.long y :: r) h0 Q) : Ex X M pc A (.long x :: r) h0 Q := h ▸ k
set_option maxRecDepth 100000 in
set_option maxHeartbeats 2000000 in
theorem wr_td_l {X : ev_X} {c0 n z : Nat} {F0 : Nat → Option va_E} (h0 : W11 c0 F0) (nv : Int64) {o : List Nat} {e : Nat} (he : e ≤ 100) : ∀ (m i r : Nat) (d : List Nat) (F : Nat → Option va_E) (hm : i + m = 18) (hd : d.length ≤ i) (hr : r < 10 ^ 18) (hW : WR c0 F0 o d F), Ex X m_Writer_takeDigits 13 [.ref (c0 + 11), .long nv, ev_dead, .int (nI e), .long (lN r), ev_dead, .int (nI i)] [] (hp c0 n z F) (fun rr h' => rr = none ∧ ∃ F1, h' = hp c0 n z F1 ∧ WR c0 F0 (o) (d ++ tdl m i r e) F1) := by
  intro m
  induction m with
  | zero =>
    intro i r d F hm hd hr hW
    refine Ex.nx rfl ?_
    refine Ex.nx rfl ?_
    refine Ex.nx rfl ?_
    refine Ex.ite (fun c1 => ?_) (fun c1 => ?_)
    · replace c1 : 18 ≤ (nI i) := of_decide_eq_true c1
      show Ex X m_Writer_takeDigits 64 [.ref (c0 + 11), .long nv, ev_dead, .int (nI e), .long (lN r), ev_dead, .int (nI i)] [] (hp c0 n _ _) _
      exact Ex.ret rfl rfl ⟨rfl, _, rfl, by rw [tdl, List.append_nil]; exact hW⟩
    · replace c1 : ¬ 18 ≤ (nI i) := of_decide_eq_false c1
      exact absurd (show (18 : Int32) ≤ nI i by rw [show i = 18 by omega]; decide) c1
  | succ m ih =>
    intro i r d F hm hd hr hW
    refine Ex.nx rfl ?_
    refine Ex.nx rfl ?_
    refine Ex.nx rfl ?_
    refine Ex.ite (fun c1 => ?_) (fun c1 => ?_)
    · replace c1 : 18 ≤ (nI i) := of_decide_eq_true c1
      exact absurd ((nI_leI (a := 18) (by decide) (by omega)).mp c1) (by omega)
    · replace c1 : ¬ 18 ≤ (nI i) := of_decide_eq_false c1
      show Ex X m_Writer_takeDigits 20 [.ref (c0 + 11), .long nv, ev_dead, .int (nI e), .long (lN r), ev_dead, .int (nI i)] [] (hp c0 n _ _) _
      refine Ex.nx rfl ?_
      refine Ex.nx rfl ?_
      refine Ex.nx rfl ?_
      refine Ex.nx rfl ?_
      refine Ex.ite (fun c2 => ?_) (fun c2 => ?_)
      · replace c2 : 0 < (lg_cmp (lN r) 0) := of_decide_eq_true c2
        show Ex X m_Writer_takeDigits 33 [.ref (c0 + 11), .long nv, ev_dead, .int (nI e), .long (lN r), ev_dead, .int (nI i)] [] (hp c0 n _ _) _
        refine Ex.nx rfl ?_
        refine Hx.get 11 rfl (WR.r11 h0 hW) rfl ?_
        refine Ex.nx rfl ?_
        refine Ex.nx rfl ?_
        refine Ex.nx rfl ?_
        refine Ex.nx rfl ?_
        refine Ex.nx rfl ?_
        refine Ex.nx rfl ?_
        refine Hx.top (y := nI (48 + r % 10)) (td_v (by omega)) ?_
        refine WR.add (x := (48 + r % 10)) hW (by omega) (by omega) rfl rfl ?_
        intro F20 hW20
        show Ex X m_Writer_takeDigits 50 [.ref (c0 + 11), .long nv, ev_dead, .int (nI e), .long (lN r), ev_dead, .int (nI i)] [] (hp c0 n _ _) _
        refine Ex.nx rfl ?_
        refine Ex.nx rfl ?_
        refine Ex.nx rfl ?_
        refine Hx.topL (y := lN (r / 10)) (pk_lDiv (b := 10) (by omega) (by decide) (by decide)) ?_
        refine Ex.nx rfl ?_
        show Ex X m_Writer_takeDigits 58 [.ref (c0 + 11), .long nv, ev_dead, .int (nI e), .long (lN (r / 10)), ev_dead, .int (nI i)] [] (hp c0 n _ _) _
        refine Ex.nx rfl ?_
        show Ex X m_Writer_takeDigits 61 [.ref (c0 + 11), .long nv, ev_dead, .int (nI e), .long (lN (r / 10)), ev_dead, .int ((nI i) + 1)] [] (hp c0 n _ _) _
        refine Ex.nx rfl ?_
        show Ex X m_Writer_takeDigits 13 [.ref (c0 + 11), .long nv, ev_dead, .int (nI e), .long (lN (r / 10)), ev_dead, .int ((nI i) + 1)] [] (hp c0 n _ _) _
        rw [show nI i + 1 = nI (i + 1) from nI_1 i, show tdl (m + 1) i r e = (48 + r % 10) :: tdl m (i + 1) (r / 10) e from if_pos (Or.inl ((lN_pos (by omega)).mp c2))]
        refine (ih (i + 1) (r / 10) _ _ (by omega) (by simp only [List.length_append, List.length_cons, List.length_nil]; omega) (by omega) hW20).mono ?_
        rintro r1 h1 ⟨rfl, F2, rfl, h2⟩
        exact ⟨rfl, F2, rfl, by simpa using h2⟩
      · replace c2 : ¬ 0 < (lg_cmp (lN r) 0) := of_decide_eq_false c2
        show Ex X m_Writer_takeDigits 27 [.ref (c0 + 11), .long nv, ev_dead, .int (nI e), .long (lN r), ev_dead, .int (nI i)] [] (hp c0 n _ _) _
        refine Ex.nx rfl ?_
        refine Ex.nx rfl ?_
        refine Ex.nx rfl ?_
        refine Ex.ite (fun c3 => ?_) (fun c3 => ?_)
        · replace c3 : (nI e) ≤ (nI i) := of_decide_eq_true c3
          show Ex X m_Writer_takeDigits 64 [.ref (c0 + 11), .long nv, ev_dead, .int (nI e), .long (lN r), ev_dead, .int (nI i)] [] (hp c0 n _ _) _
          exact Ex.ret rfl rfl ⟨rfl, _, rfl, by rw [show tdl (m + 1) i r e = [] from if_neg (by rintro (q | q); exact c2 ((lN_pos (by omega)).mpr q); exact absurd ((nI_leI (by omega) (by omega)).mp c3) (by omega)), List.append_nil]; exact hW⟩
        · replace c3 : ¬ (nI e) ≤ (nI i) := of_decide_eq_false c3
          show Ex X m_Writer_takeDigits 33 [.ref (c0 + 11), .long nv, ev_dead, .int (nI e), .long (lN r), ev_dead, .int (nI i)] [] (hp c0 n _ _) _
          refine Ex.nx rfl ?_
          refine Hx.get 11 rfl (WR.r11 h0 hW) rfl ?_
          refine Ex.nx rfl ?_
          refine Ex.nx rfl ?_
          refine Ex.nx rfl ?_
          refine Ex.nx rfl ?_
          refine Ex.nx rfl ?_
          refine Ex.nx rfl ?_
          refine Hx.top (y := nI (48 + r % 10)) (td_v (by omega)) ?_
          refine WR.add (x := (48 + r % 10)) hW (by omega) (by omega) rfl rfl ?_
          intro F21 hW21
          show Ex X m_Writer_takeDigits 50 [.ref (c0 + 11), .long nv, ev_dead, .int (nI e), .long (lN r), ev_dead, .int (nI i)] [] (hp c0 n _ _) _
          refine Ex.nx rfl ?_
          refine Ex.nx rfl ?_
          refine Ex.nx rfl ?_
          refine Hx.topL (y := lN (r / 10)) (pk_lDiv (b := 10) (by omega) (by decide) (by decide)) ?_
          refine Ex.nx rfl ?_
          show Ex X m_Writer_takeDigits 58 [.ref (c0 + 11), .long nv, ev_dead, .int (nI e), .long (lN (r / 10)), ev_dead, .int (nI i)] [] (hp c0 n _ _) _
          refine Ex.nx rfl ?_
          show Ex X m_Writer_takeDigits 61 [.ref (c0 + 11), .long nv, ev_dead, .int (nI e), .long (lN (r / 10)), ev_dead, .int ((nI i) + 1)] [] (hp c0 n _ _) _
          refine Ex.nx rfl ?_
          show Ex X m_Writer_takeDigits 13 [.ref (c0 + 11), .long nv, ev_dead, .int (nI e), .long (lN (r / 10)), ev_dead, .int ((nI i) + 1)] [] (hp c0 n _ _) _
          rw [show nI i + 1 = nI (i + 1) from nI_1 i, show tdl (m + 1) i r e = (48 + r % 10) :: tdl m (i + 1) (r / 10) e from if_pos (Or.inr (Nat.lt_of_not_le (fun q => c3 ((nI_leI (by omega) (by omega)).mpr q))))]
          refine (ih (i + 1) (r / 10) _ _ (by omega) (by simp only [List.length_append, List.length_cons, List.length_nil]; omega) (by omega) hW21).mono ?_
          rintro r1 h1 ⟨rfl, F2, rfl, h2⟩
          exact ⟨rfl, F2, rfl, by simpa using h2⟩
set_option maxRecDepth 100000 in
set_option maxHeartbeats 2000000 in
theorem wr_td {X : ev_X} {c0 n z : Nat} {F0 : Nat → Option va_E} (h0 : W11 c0 F0) {o d : List Nat} {e r : Nat} (he : e ≤ 100) (hr : r < 10 ^ 18) {F : Nat → Option va_E} (hW : WR c0 F0 o d F) : Ex X m_Writer_takeDigits 0 [.ref (c0 + 11), .long (lN r), ev_dead, .int (nI e), ev_dead, ev_dead, ev_dead] [] (hp c0 n z F) (fun rr h' => rr = none ∧ ∃ F1, h' = hp c0 n z F1 ∧ WR c0 F0 (o) (tdl 18 0 r e) F1) := by
  refine Ex.nx rfl ?_
  refine Hx.get 11 rfl (WR.r11 h0 hW) rfl ?_
  refine WR.cld hW rfl rfl ?_
  intro F22 hW22
  show Ex X m_Writer_takeDigits 7 [.ref (c0 + 11), .long (lN r), ev_dead, .int (nI e), ev_dead, ev_dead, ev_dead] [] (hp c0 n _ _) _
  refine Ex.nx rfl ?_
  refine Ex.nx rfl ?_
  show Ex X m_Writer_takeDigits 10 [.ref (c0 + 11), .long (lN r), ev_dead, .int (nI e), .long (lN r), ev_dead, ev_dead] [] (hp c0 n _ _) _
  refine Ex.nx rfl ?_
  refine Ex.nx rfl ?_
  show Ex X m_Writer_takeDigits 13 [.ref (c0 + 11), .long (lN r), ev_dead, .int (nI e), .long (lN r), ev_dead, .int 0] [] (hp c0 n _ _) _
  show Ex X m_Writer_takeDigits 13 [.ref (c0 + 11), .long (lN r), ev_dead, .int (nI e), .long (lN r), ev_dead, .int 0] [] (hp c0 n _ _) _
  refine (wr_td_l h0 _ he 18 0 r [] _ (by decide) (Nat.le_refl _) hr hW22).mono ?_
  rintro r1 h1 ⟨rfl, F2, rfl, h2⟩
  exact ⟨rfl, F2, rfl, by simpa using h2⟩
end
section
/-! The class writes numbers and terms. (rows laid by wip/whole/wr3.py) -/
/-- the digits, the last first, and the dot, from place k down -/
def nbl (D : List Nat) (p : Nat) : Nat → List Nat
  | 0 => []
  | k + 1 => ((if k + 1 = p then [46] else []) ++ [D.getD k 0]) ++ nbl D p k
def nuW (x : Tm) (r : Nat) : List Nat := ((if 0 ≤ lg_cmp x.2.1 0 then [] else [45]) ++ nbl (tdl 18 0 r (x.2.2.1 + 1)) x.2.2.1 (tdl 18 0 r (x.2.2.1 + 1)).length) ++ (if x.1 = 4 ∧ x.2.2.1 = 0 then wl 7 else [])
def wrW (x : Tm) (r : Nat) : List Nat := if x.1 = 1 then wl 6 ++ x.2.2.2.1 else if x.1 = 2 then [60] ++ x.2.2.2.1 ++ [62] else if x.1 = 3 then nuW x r else if x.1 = 4 then nuW x r else if x.1 = 8 then (if x.2.1 = 1 then wl 0 else wl 1) else txW x
set_option maxRecDepth 100000 in
set_option maxHeartbeats 2000000 in
theorem wr_nu_e {X : ev_X} {c0 n z : Nat} {F0 : Nat → Option va_E} (h0 : W11 c0 F0) (hS : XS X c0) {j N1 N2 : Nat} {x : Tm} (g : trm c0 F0 j N1 N2 x) (hj : 26 ≤ j) (hk : okT x) {r : Nat} (hr : r < 10 ^ 18) (hx : x.2.1 = lN r ∨ x.2.1 = -lN r) {o d : List Nat} {F : Nat → Option va_E} (iv : Value) (ho : o.length ≤ 100) (hW : WR c0 F0 o d F) : Ex X m_Writer_addNumber 87 [.ref (c0 + 11), .ref (c0 + j), iv] [] (hp c0 n z F) (fun rr h' => rr = none ∧ ∃ F1, h' = hp c0 n z F1 ∧ WR c0 F0 (o ++ (if x.1 = 4 ∧ x.2.2.1 = 0 then wl 7 else [])) (d) F1) := by
  have h9 := hk.2.2.2.1
  refine Ex.nx rfl ?_
  refine Hx.get j rfl ((hW.1 j (by omega)).trans g.1) rfl ?_
  refine Ex.nx rfl ?_
  refine Ex.nx rfl ?_
  refine Ex.ite (fun c1 => ?_) (fun c1 => ?_)
  · replace c1 : ¬ x.1 = 4 := of_decide_eq_true c1
    show Ex X m_Writer_addNumber 111 [.ref (c0 + 11), .ref (c0 + j), iv] [] (hp c0 n _ _) _
    exact Ex.ret rfl rfl ⟨rfl, _, rfl, by rw [if_neg (fun h => c1 h.1)]; simpa using hW⟩
  · replace c1 : x.1 = 4 := Classical.not_not.mp (of_decide_eq_false c1)
    show Ex X m_Writer_addNumber 95 [.ref (c0 + 11), .ref (c0 + j), iv] [] (hp c0 n _ _) _
    refine Ex.nx rfl ?_
    refine Hx.get j rfl ((hW.1 j (by omega)).trans g.1) rfl ?_
    refine Ex.nx rfl ?_
    refine Ex.ite (fun c2 => ?_) (fun c2 => ?_)
    · replace c2 : ¬ (nI x.2.2.1) = 0 := of_decide_eq_true c2
      show Ex X m_Writer_addNumber 111 [.ref (c0 + 11), .ref (c0 + j), iv] [] (hp c0 n _ _) _
      exact Ex.ret rfl rfl ⟨rfl, _, rfl, by rw [if_neg (fun h => c2 (by rw [h.2]; rfl))]; simpa using hW⟩
    · replace c2 : (nI x.2.2.1) = 0 := Classical.not_not.mp (of_decide_eq_false c2)
      show Ex X m_Writer_addNumber 102 [.ref (c0 + 11), .ref (c0 + j), iv] [] (hp c0 n _ _) _
      refine Ex.nx rfl ?_
      refine Hx.get 11 rfl (WR.r11 h0 hW) rfl ?_
      refine Ex.nx rfl ?_
      refine Hx.rowc hW.2.1 rfl rfl rfl rfl (wr_word hS (k := 7) (by decide) hW (by first | (simp only [List.length_append, List.length_cons, List.length_nil, wl_len, wln_7]; omega) | (rw [wln_7]; omega))) ?_
      rintro v hh ⟨rfl, F23, rfl, hW23⟩
      show Ex X m_Writer_addNumber 111 [.ref (c0 + 11), .ref (c0 + j), iv] [] (hp c0 n _ _) _
      exact Ex.ret rfl rfl ⟨rfl, _, rfl, by rw [if_pos ⟨c1, (nI_eq (b := 0) (by omega) (by decide)).mp c2⟩]; simpa using hW23⟩
set_option maxRecDepth 100000 in
set_option maxHeartbeats 2000000 in
theorem wr_nu_l {X : ev_X} {c0 n z : Nat} {F0 : Nat → Option va_E} (h0 : W11 c0 F0) (hS : XS X c0) {j N1 N2 : Nat} {x : Tm} (g : trm c0 F0 j N1 N2 x) (hj : 26 ≤ j) (hk : okT x) {r : Nat} (hr : r < 10 ^ 18) (hx : x.2.1 = lN r ∨ x.2.1 = -lN r) {D : List Nat} (hD : ∀ i, D.getD i 0 < 256) (hDl : D.length ≤ 18) : ∀ (k : Nat) (o : List Nat) (F : Nat → Option va_E) (hkD : k ≤ D.length) (ho : o.length + 2 * k ≤ 60) (hW : WR c0 F0 o D F), Ex X m_Writer_addNumber 43 [.ref (c0 + 11), .ref (c0 + j), .int (nI k)] [] (hp c0 n z F) (fun rr h' => rr = none ∧ ∃ F1, h' = hp c0 n z F1 ∧ WR c0 F0 (o ++ nbl D x.2.2.1 k ++ (if x.1 = 4 ∧ x.2.2.1 = 0 then wl 7 else [])) (D) F1) := by
  have h9 := hk.2.2.2.1
  intro k
  induction k with
  | zero =>
    intro o F hkD ho hW
    show Ex X m_Writer_addNumber 43 [.ref (c0 + 11), .ref (c0 + j), .int 0] [] (hp c0 n z F) _
    refine Ex.nx rfl ?_
    refine Ex.nx rfl ?_
    show Ex X m_Writer_addNumber 87 [.ref (c0 + 11), .ref (c0 + j), .int 0] [] (hp c0 n _ _) _
    show Ex X m_Writer_addNumber 87 [.ref (c0 + 11), .ref (c0 + j), .int 0] [] (hp c0 n _ _) _
    rw [nbl, List.append_nil]
    exact wr_nu_e h0 hS g hj hk hr hx _ (by omega) hW
  | succ k ih =>
    intro o F hkD ho hW
    refine Ex.nx rfl ?_
    refine Ex.nx rfl ?_
    refine Ex.ite (fun c1 => ?_) (fun c1 => ?_)
    · replace c1 : (nI (k + 1)) ≤ 0 := of_decide_eq_true c1
      exact absurd c1 (nI_nle (by omega) (by omega))
    · replace c1 : ¬ (nI (k + 1)) ≤ 0 := of_decide_eq_false c1
      show Ex X m_Writer_addNumber 47 [.ref (c0 + 11), .ref (c0 + j), .int (nI (k + 1))] [] (hp c0 n _ _) _
      refine Ex.nx rfl ?_
      refine Ex.nx rfl ?_
      refine Hx.get j rfl ((hW.1 j (by omega)).trans g.1) rfl ?_
      refine Ex.nx rfl ?_
      refine Ex.ite (fun c2 => ?_) (fun c2 => ?_)
      · replace c2 : ¬ (nI (k + 1)) = (nI x.2.2.1) := of_decide_eq_true c2
        show Ex X m_Writer_addNumber 64 [.ref (c0 + 11), .ref (c0 + j), .int (nI (k + 1))] [] (hp c0 n _ _) _
        refine Ex.nx rfl ?_
        refine Hx.get 11 rfl (WR.r11 h0 hW) rfl ?_
        refine Ex.nx rfl ?_
        refine Hx.get 11 rfl (WR.r11 h0 hW) rfl ?_
        refine Ex.nx rfl ?_
        refine Ex.nx rfl ?_
        refine Ex.nx rfl ?_
        refine Hx.top (y := nI k) (nI_pred k) ?_
        refine Hx.rowE hW.2.2 rfl rfl rfl rfl (rl_at hW.2.2 (by decide) (i := k) (by omega)) ?_
        refine Hx.top (y := nI (D.getD k 0)) (hb_lt (by omega)) ?_
        show Ex X m_Writer_addNumber 78 [.ref (c0 + 11), .ref (c0 + j), .int (nI (k + 1))] [.int (nI (D.getD k 0)), .ref (c0 + 12)] (hp c0 n _ _) _
        refine WR.ado (x := (D.getD k 0)) hW (hD _) (by first | omega | (simp only [List.length_append, List.length_cons, List.length_nil, wl_len, wln_6]; omega)) rfl rfl ?_
        intro F24 hW24
        show Ex X m_Writer_addNumber 81 [.ref (c0 + 11), .ref (c0 + j), .int (nI (k + 1))] [] (hp c0 n _ _) _
        refine Ex.nx rfl ?_
        show Ex X m_Writer_addNumber 84 [.ref (c0 + 11), .ref (c0 + j), .int ((nI (k + 1)) + (-1))] [] (hp c0 n _ _) _
        refine Ex.nx rfl ?_
        show Ex X m_Writer_addNumber 43 [.ref (c0 + 11), .ref (c0 + j), .int ((nI (k + 1)) + (-1))] [] (hp c0 n _ _) _
        rw [pk_m1]
        refine (ih _ _ (by omega) (by simp only [List.length_append, List.length_cons, List.length_nil]; omega) hW24).mono ?_
        rintro r1 h1 ⟨rfl, F2, rfl, h2⟩
        exact ⟨rfl, F2, rfl, by rw [nbl, if_neg (fun q => c2 (by rw [q]))]; simpa using h2⟩
      · replace c2 : (nI (k + 1)) = (nI x.2.2.1) := Classical.not_not.mp (of_decide_eq_false c2)
        show Ex X m_Writer_addNumber 55 [.ref (c0 + 11), .ref (c0 + j), .int (nI (k + 1))] [] (hp c0 n _ _) _
        refine Ex.nx rfl ?_
        refine Hx.get 11 rfl (WR.r11 h0 hW) rfl ?_
        refine Ex.nx rfl ?_
        refine WR.ado (x := 46) hW (by decide) (by first | omega | (simp only [List.length_append, List.length_cons, List.length_nil, wl_len, wln_6]; omega)) rfl rfl ?_
        intro F25 hW25
        show Ex X m_Writer_addNumber 64 [.ref (c0 + 11), .ref (c0 + j), .int (nI (k + 1))] [] (hp c0 n _ _) _
        refine Ex.nx rfl ?_
        refine Hx.get 11 rfl (WR.r11 h0 hW25) rfl ?_
        refine Ex.nx rfl ?_
        refine Hx.get 11 rfl (WR.r11 h0 hW25) rfl ?_
        refine Ex.nx rfl ?_
        refine Ex.nx rfl ?_
        refine Ex.nx rfl ?_
        refine Hx.top (y := nI k) (nI_pred k) ?_
        refine Hx.rowE hW25.2.2 rfl rfl rfl rfl (rl_at hW25.2.2 (by decide) (i := k) (by omega)) ?_
        refine Hx.top (y := nI (D.getD k 0)) (hb_lt (by omega)) ?_
        show Ex X m_Writer_addNumber 78 [.ref (c0 + 11), .ref (c0 + j), .int (nI (k + 1))] [.int (nI (D.getD k 0)), .ref (c0 + 12)] (hp c0 n _ _) _
        refine WR.ado (x := (D.getD k 0)) hW25 (hD _) (by first | omega | (simp only [List.length_append, List.length_cons, List.length_nil, wl_len, wln_6]; omega)) rfl rfl ?_
        intro F26 hW26
        show Ex X m_Writer_addNumber 81 [.ref (c0 + 11), .ref (c0 + j), .int (nI (k + 1))] [] (hp c0 n _ _) _
        refine Ex.nx rfl ?_
        show Ex X m_Writer_addNumber 84 [.ref (c0 + 11), .ref (c0 + j), .int ((nI (k + 1)) + (-1))] [] (hp c0 n _ _) _
        refine Ex.nx rfl ?_
        show Ex X m_Writer_addNumber 43 [.ref (c0 + 11), .ref (c0 + j), .int ((nI (k + 1)) + (-1))] [] (hp c0 n _ _) _
        rw [pk_m1]
        refine (ih _ _ (by omega) (by simp only [List.length_append, List.length_cons, List.length_nil]; omega) hW26).mono ?_
        rintro r1 h1 ⟨rfl, F2, rfl, h2⟩
        exact ⟨rfl, F2, rfl, by rw [nbl, if_pos ((nI_eq (by omega) (by omega)).mp c2)]; simpa using h2⟩
set_option maxRecDepth 100000 in
set_option maxHeartbeats 2000000 in
theorem wr_num {X : ev_X} {c0 n z : Nat} {F0 : Nat → Option va_E} (h0 : W11 c0 F0) (hS : XS X c0) {j N1 N2 : Nat} {x : Tm} (g : trm c0 F0 j N1 N2 x) (hj : 26 ≤ j) (hk : okT x) {r : Nat} (hr : r < 10 ^ 18) (hx : x.2.1 = lN r ∨ x.2.1 = -lN r) {d : List Nat} {F : Nat → Option va_E} (hW : WR c0 F0 [] d F) : Ex X m_Writer_addNumber 0 [.ref (c0 + 11), .ref (c0 + j), ev_dead] [] (hp c0 n z F) (fun rr h' => rr = none ∧ ∃ F1 D, h' = hp c0 n z F1 ∧ WR c0 F0 (nuW x r) D F1) := by
  have h9 := hk.2.2.2.1
  refine Ex.nx rfl ?_
  refine Hx.get j rfl ((hW.1 j (by omega)).trans g.1) rfl ?_
  refine Ex.nx rfl ?_
  refine Ex.nx rfl ?_
  refine Ex.nx rfl ?_
  refine Ex.ite (fun c1 => ?_) (fun c1 => ?_)
  · replace c1 : 0 ≤ (lg_cmp x.2.1 0) := of_decide_eq_true c1
    show Ex X m_Writer_addNumber 18 [.ref (c0 + 11), .ref (c0 + j), ev_dead] [] (hp c0 n _ _) _
    refine Ex.nx rfl ?_
    refine Ex.nx rfl ?_
    refine Hx.get j rfl ((hW.1 j (by omega)).trans g.1) rfl ?_
    refine Hx.abs rfl rfl ?_
    refine Hx.topL (y := lN r) (abs_lN hr hx) ?_
    show Ex X m_Writer_addNumber 26 [.ref (c0 + 11), .ref (c0 + j), ev_dead] [.long (lN r), .ref (c0 + 11)] (hp c0 n _ _) _
    refine Ex.nx rfl ?_
    refine Hx.get j rfl ((hW.1 j (by omega)).trans g.1) rfl ?_
    refine Ex.nx rfl ?_
    refine Ex.nx rfl ?_
    refine Hx.top (y := nI (x.2.2.1 + 1)) (nI_1 _) ?_
    refine Hx.callX 11 rfl rfl (WR.r11 h0 hW) rfl rfl (wr_td h0 (e := x.2.2.1 + 1) (r := r) (by omega) hr hW) ?_
    rintro v hh ⟨rfl, F27, rfl, hW27⟩
    show Ex X m_Writer_addNumber 35 [.ref (c0 + 11), .ref (c0 + j), ev_dead] [] (hp c0 n _ _) _
    refine Ex.nx rfl ?_
    refine Hx.get 11 rfl (WR.r11 h0 hW27) rfl ?_
    refine Hx.rowE hW27.2.2 rfl rfl rfl rfl (rl_size hW27.2.2) ?_
    show Ex X m_Writer_addNumber 42 [.ref (c0 + 11), .ref (c0 + j), ev_dead] [.int (nI (tdl 18 0 r (x.2.2.1 + 1)).length)] (hp c0 n _ _) _
    refine Ex.nx rfl ?_
    show Ex X m_Writer_addNumber 43 [.ref (c0 + 11), .ref (c0 + j), .int (nI (tdl 18 0 r (x.2.2.1 + 1)).length)] [] (hp c0 n _ _) _
    show Ex X m_Writer_addNumber 43 [.ref (c0 + 11), .ref (c0 + j), .int (nI (tdl 18 0 r (x.2.2.1 + 1)).length)] [] (hp c0 n _ _) _
    refine (wr_nu_l h0 hS g hj hk hr hx hW27.2.2.by (tdl_len _ _ _ _) (tdl 18 0 r (x.2.2.1 + 1)).length _ _ (Nat.le_refl _) (by have := tdl_len 18 0 r (x.2.2.1 + 1); simp only [List.length_append, List.length_cons, List.length_nil]; omega) hW27).mono ?_
    rintro r1 h1 ⟨rfl, F2, rfl, h2⟩
    exact ⟨rfl, F2, _, rfl, by rw [nuW, if_pos c1]; simpa using h2⟩
  · replace c1 : ¬ 0 ≤ (lg_cmp x.2.1 0) := of_decide_eq_false c1
    show Ex X m_Writer_addNumber 9 [.ref (c0 + 11), .ref (c0 + j), ev_dead] [] (hp c0 n _ _) _
    refine Ex.nx rfl ?_
    refine Hx.get 11 rfl (WR.r11 h0 hW) rfl ?_
    refine Ex.nx rfl ?_
    refine WR.ado (x := 45) hW (by decide) (by first | omega | (simp only [List.length_append, List.length_cons, List.length_nil, wl_len, wln_6]; omega)) rfl rfl ?_
    intro F28 hW28
    show Ex X m_Writer_addNumber 18 [.ref (c0 + 11), .ref (c0 + j), ev_dead] [] (hp c0 n _ _) _
    refine Ex.nx rfl ?_
    refine Ex.nx rfl ?_
    refine Hx.get j rfl ((hW28.1 j (by omega)).trans g.1) rfl ?_
    refine Hx.abs rfl rfl ?_
    refine Hx.topL (y := lN r) (abs_lN hr hx) ?_
    show Ex X m_Writer_addNumber 26 [.ref (c0 + 11), .ref (c0 + j), ev_dead] [.long (lN r), .ref (c0 + 11)] (hp c0 n _ _) _
    refine Ex.nx rfl ?_
    refine Hx.get j rfl ((hW28.1 j (by omega)).trans g.1) rfl ?_
    refine Ex.nx rfl ?_
    refine Ex.nx rfl ?_
    refine Hx.top (y := nI (x.2.2.1 + 1)) (nI_1 _) ?_
    refine Hx.callX 11 rfl rfl (WR.r11 h0 hW28) rfl rfl (wr_td h0 (e := x.2.2.1 + 1) (r := r) (by omega) hr hW28) ?_
    rintro v hh ⟨rfl, F29, rfl, hW29⟩
    show Ex X m_Writer_addNumber 35 [.ref (c0 + 11), .ref (c0 + j), ev_dead] [] (hp c0 n _ _) _
    refine Ex.nx rfl ?_
    refine Hx.get 11 rfl (WR.r11 h0 hW29) rfl ?_
    refine Hx.rowE hW29.2.2 rfl rfl rfl rfl (rl_size hW29.2.2) ?_
    show Ex X m_Writer_addNumber 42 [.ref (c0 + 11), .ref (c0 + j), ev_dead] [.int (nI (tdl 18 0 r (x.2.2.1 + 1)).length)] (hp c0 n _ _) _
    refine Ex.nx rfl ?_
    show Ex X m_Writer_addNumber 43 [.ref (c0 + 11), .ref (c0 + j), .int (nI (tdl 18 0 r (x.2.2.1 + 1)).length)] [] (hp c0 n _ _) _
    show Ex X m_Writer_addNumber 43 [.ref (c0 + 11), .ref (c0 + j), .int (nI (tdl 18 0 r (x.2.2.1 + 1)).length)] [] (hp c0 n _ _) _
    refine (wr_nu_l h0 hS g hj hk hr hx hW29.2.2.by (tdl_len _ _ _ _) (tdl 18 0 r (x.2.2.1 + 1)).length _ _ (Nat.le_refl _) (by have := tdl_len 18 0 r (x.2.2.1 + 1); simp only [List.length_append, List.length_cons, List.length_nil]; omega) hW29).mono ?_
    rintro r1 h1 ⟨rfl, F2, rfl, h2⟩
    exact ⟨rfl, F2, _, rfl, by rw [nuW, if_neg c1]; simpa using h2⟩
set_option maxRecDepth 100000 in
set_option maxHeartbeats 2000000 in
theorem wr_term {X : ev_X} {c0 n z : Nat} {F0 : Nat → Option va_E} (h0 : W11 c0 F0) (hS : XS X c0) {j N1 N2 : Nat} {x : Tm} (g : trm c0 F0 j N1 N2 x) (hj : 26 ≤ j) (hk : okT x) {r : Nat} (hr : r < 10 ^ 18) (hx : x.2.1 = lN r ∨ x.2.1 = -lN r) {o d : List Nat} {F : Nat → Option va_E} (hW : WR c0 F0 o d F) : Ex X m_Writer_writeTerm 0 [.ref (c0 + 11), .ref (c0 + j)] [] (hp c0 n z F) (fun rr h' => rr = some (.int (nI (wrW x r).length)) ∧ ∃ F1 D, h' = hp c0 n z F1 ∧ WR c0 F0 (wrW x r) D F1) := by
  have h64 := hk.1
  have h60 := hk.2.1
  refine Ex.nx rfl ?_
  refine Hx.get 11 rfl (WR.r11 h0 hW) rfl ?_
  refine WR.clo hW rfl rfl ?_
  intro F30 hW30
  show Ex X m_Writer_writeTerm 7 [.ref (c0 + 11), .ref (c0 + j)] [] (hp c0 n _ _) _
  refine Ex.nx rfl ?_
  refine Hx.get j rfl ((hW30.1 j (by omega)).trans g.1) rfl ?_
  rcases hk.2.2.2.2 with e | e | e | e | e | e | e | e
  · refine Hx.top (y := 1) e ?_
    refine Ex.nx rfl ?_
    show Ex X m_Writer_writeTerm 56 [.ref (c0 + 11), .ref (c0 + j)] [] (hp c0 n _ _) _
    refine Ex.nx rfl ?_
    refine Hx.get 11 rfl (WR.r11 h0 hW30) rfl ?_
    refine Ex.nx rfl ?_
    refine Hx.rowc hW30.2.1 rfl rfl rfl rfl (wr_word hS (k := 6) (by decide) hW30 (by first | (simp only [List.length_append, List.length_cons, List.length_nil, wl_len, wln_6]; omega) | (rw [wln_6]; omega))) ?_
    rintro v hh ⟨rfl, F31, rfl, hW31⟩
    show Ex X m_Writer_writeTerm 65 [.ref (c0 + 11), .ref (c0 + j)] [] (hp c0 n _ _) _
    refine Ex.nx rfl ?_
    refine Hx.get 11 rfl (WR.r11 h0 hW31) rfl ?_
    refine Ex.nx rfl ?_
    refine Hx.get j rfl ((hW31.1 j (by omega)).trans g.1) rfl ?_
    refine WR.ada hW31 g.2.1 g.2.2.2.1 (by omega) (by omega) (by first | omega | (simp only [List.length_append, List.length_cons, List.length_nil, wl_len, wln_6]; omega)) rfl rfl ?_
    intro F32 hW32
    show Ex X m_Writer_writeTerm 76 [.ref (c0 + 11), .ref (c0 + j)] [] (hp c0 n _ _) _
    refine Ex.nx rfl ?_
    refine Ex.nx rfl ?_
    refine Hx.get 11 rfl (WR.r11 h0 hW32) rfl ?_
    refine Hx.rowE hW32.2.1 rfl rfl rfl rfl (rl_size hW32.2.1) ?_
    show Ex X m_Writer_writeTerm 136 [.ref (c0 + 11), .ref (c0 + j)] [.int (nI ((([] : List Nat) ++ wl 6) ++ x.2.2.2.1).length)] (hp c0 n _ _) _
    exact Ex.ret rfl (ev_reti rfl) (by rw [show wrW x r = ((([] : List Nat) ++ wl 6) ++ x.2.2.2.1) by rw [wrW, if_pos e] <;> rfl]; exact ⟨rfl, _, _, rfl, hW32⟩)
  · refine Hx.top (y := 2) e ?_
    refine Ex.nx rfl ?_
    show Ex X m_Writer_writeTerm 79 [.ref (c0 + 11), .ref (c0 + j)] [] (hp c0 n _ _) _
    refine Ex.nx rfl ?_
    refine Ex.nx rfl ?_
    refine Hx.get j rfl ((hW30.1 j (by omega)).trans g.1) rfl ?_
    refine Hx.callX 11 rfl rfl (WR.r11 h0 hW30) rfl rfl (wr_name h0 hW30 g.2.1 g.2.2.2.1 (by omega) (by omega) (by simp only [List.length_nil]; omega)) ?_
    rintro v hh ⟨rfl, F33, rfl, hW33⟩
    show Ex X m_Writer_writeTerm 87 [.ref (c0 + 11), .ref (c0 + j)] [] (hp c0 n _ _) _
    refine Ex.nx rfl ?_
    refine Ex.nx rfl ?_
    refine Hx.get 11 rfl (WR.r11 h0 hW33) rfl ?_
    refine Hx.rowE hW33.2.1 rfl rfl rfl rfl (rl_size hW33.2.1) ?_
    show Ex X m_Writer_writeTerm 136 [.ref (c0 + 11), .ref (c0 + j)] [.int (nI (([] : List Nat) ++ ([60] ++ x.2.2.2.1 ++ [62])).length)] (hp c0 n _ _) _
    exact Ex.ret rfl (ev_reti rfl) (by rw [show wrW x r = (([] : List Nat) ++ ([60] ++ x.2.2.2.1 ++ [62])) by rw [wrW, if_neg (by rw [e]; decide), if_pos e] <;> rfl]; exact ⟨rfl, _, _, rfl, hW33⟩)
  · refine Hx.top (y := 3) e ?_
    refine Ex.nx rfl ?_
    show Ex X m_Writer_writeTerm 90 [.ref (c0 + 11), .ref (c0 + j)] [] (hp c0 n _ _) _
    refine Ex.nx rfl ?_
    refine Ex.nx rfl ?_
    refine Hx.callX 11 rfl rfl (WR.r11 h0 hW30) rfl rfl (wr_num h0 hS g hj hk hr hx hW30) ?_
    rintro v hh ⟨rfl, F34, D34, rfl, hW34⟩
    show Ex X m_Writer_writeTerm 95 [.ref (c0 + 11), .ref (c0 + j)] [] (hp c0 n _ _) _
    refine Ex.nx rfl ?_
    refine Ex.nx rfl ?_
    refine Hx.get 11 rfl (WR.r11 h0 hW34) rfl ?_
    refine Hx.rowE hW34.2.1 rfl rfl rfl rfl (rl_size hW34.2.1) ?_
    show Ex X m_Writer_writeTerm 136 [.ref (c0 + 11), .ref (c0 + j)] [.int (nI (nuW x r).length)] (hp c0 n _ _) _
    exact Ex.ret rfl (ev_reti rfl) (by rw [show wrW x r = (nuW x r) by rw [wrW, if_neg (by rw [e]; decide), if_neg (by rw [e]; decide), if_pos e]]; exact ⟨rfl, _, _, rfl, hW34⟩)
  · refine Hx.top (y := 4) e ?_
    refine Ex.nx rfl ?_
    show Ex X m_Writer_writeTerm 90 [.ref (c0 + 11), .ref (c0 + j)] [] (hp c0 n _ _) _
    refine Ex.nx rfl ?_
    refine Ex.nx rfl ?_
    refine Hx.callX 11 rfl rfl (WR.r11 h0 hW30) rfl rfl (wr_num h0 hS g hj hk hr hx hW30) ?_
    rintro v hh ⟨rfl, F35, D35, rfl, hW35⟩
    show Ex X m_Writer_writeTerm 95 [.ref (c0 + 11), .ref (c0 + j)] [] (hp c0 n _ _) _
    refine Ex.nx rfl ?_
    refine Ex.nx rfl ?_
    refine Hx.get 11 rfl (WR.r11 h0 hW35) rfl ?_
    refine Hx.rowE hW35.2.1 rfl rfl rfl rfl (rl_size hW35.2.1) ?_
    show Ex X m_Writer_writeTerm 136 [.ref (c0 + 11), .ref (c0 + j)] [.int (nI (nuW x r).length)] (hp c0 n _ _) _
    exact Ex.ret rfl (ev_reti rfl) (by rw [show wrW x r = (nuW x r) by rw [wrW, if_neg (by rw [e]; decide), if_neg (by rw [e]; decide), if_neg (by rw [e]; decide), if_pos e]]; exact ⟨rfl, _, _, rfl, hW35⟩)
  · refine Hx.top (y := 5) e ?_
    refine Ex.nx rfl ?_
    show Ex X m_Writer_writeTerm 124 [.ref (c0 + 11), .ref (c0 + j)] [] (hp c0 n _ _) _
    refine Ex.nx rfl ?_
    refine Ex.nx rfl ?_
    refine Hx.callX 11 rfl rfl (WR.r11 h0 hW30) rfl rfl (wr_text h0 hS g hj hk hW30) ?_
    rintro v hh ⟨rfl, F36, rfl, hW36⟩
    show Ex X m_Writer_writeTerm 129 [.ref (c0 + 11), .ref (c0 + j)] [] (hp c0 n _ _) _
    refine Ex.nx rfl ?_
    refine Hx.get 11 rfl (WR.r11 h0 hW36) rfl ?_
    refine Hx.rowE hW36.2.1 rfl rfl rfl rfl (rl_size hW36.2.1) ?_
    show Ex X m_Writer_writeTerm 136 [.ref (c0 + 11), .ref (c0 + j)] [.int (nI (txW x).length)] (hp c0 n _ _) _
    exact Ex.ret rfl (ev_reti rfl) (by rw [show wrW x r = (txW x) by rw [wrW, if_neg (by rw [e]; decide), if_neg (by rw [e]; decide), if_neg (by rw [e]; decide), if_neg (by rw [e]; decide), if_neg (by rw [e]; decide)]]; exact ⟨rfl, _, _, rfl, hW36⟩)
  · refine Hx.top (y := 6) e ?_
    refine Ex.nx rfl ?_
    show Ex X m_Writer_writeTerm 124 [.ref (c0 + 11), .ref (c0 + j)] [] (hp c0 n _ _) _
    refine Ex.nx rfl ?_
    refine Ex.nx rfl ?_
    refine Hx.callX 11 rfl rfl (WR.r11 h0 hW30) rfl rfl (wr_text h0 hS g hj hk hW30) ?_
    rintro v hh ⟨rfl, F37, rfl, hW37⟩
    show Ex X m_Writer_writeTerm 129 [.ref (c0 + 11), .ref (c0 + j)] [] (hp c0 n _ _) _
    refine Ex.nx rfl ?_
    refine Hx.get 11 rfl (WR.r11 h0 hW37) rfl ?_
    refine Hx.rowE hW37.2.1 rfl rfl rfl rfl (rl_size hW37.2.1) ?_
    show Ex X m_Writer_writeTerm 136 [.ref (c0 + 11), .ref (c0 + j)] [.int (nI (txW x).length)] (hp c0 n _ _) _
    exact Ex.ret rfl (ev_reti rfl) (by rw [show wrW x r = (txW x) by rw [wrW, if_neg (by rw [e]; decide), if_neg (by rw [e]; decide), if_neg (by rw [e]; decide), if_neg (by rw [e]; decide), if_neg (by rw [e]; decide)]]; exact ⟨rfl, _, _, rfl, hW37⟩)
  · refine Hx.top (y := 7) e ?_
    refine Ex.nx rfl ?_
    show Ex X m_Writer_writeTerm 124 [.ref (c0 + 11), .ref (c0 + j)] [] (hp c0 n _ _) _
    refine Ex.nx rfl ?_
    refine Ex.nx rfl ?_
    refine Hx.callX 11 rfl rfl (WR.r11 h0 hW30) rfl rfl (wr_text h0 hS g hj hk hW30) ?_
    rintro v hh ⟨rfl, F38, rfl, hW38⟩
    show Ex X m_Writer_writeTerm 129 [.ref (c0 + 11), .ref (c0 + j)] [] (hp c0 n _ _) _
    refine Ex.nx rfl ?_
    refine Hx.get 11 rfl (WR.r11 h0 hW38) rfl ?_
    refine Hx.rowE hW38.2.1 rfl rfl rfl rfl (rl_size hW38.2.1) ?_
    show Ex X m_Writer_writeTerm 136 [.ref (c0 + 11), .ref (c0 + j)] [.int (nI (txW x).length)] (hp c0 n _ _) _
    exact Ex.ret rfl (ev_reti rfl) (by rw [show wrW x r = (txW x) by rw [wrW, if_neg (by rw [e]; decide), if_neg (by rw [e]; decide), if_neg (by rw [e]; decide), if_neg (by rw [e]; decide), if_neg (by rw [e]; decide)]]; exact ⟨rfl, _, _, rfl, hW38⟩)
  · refine Hx.top (y := 8) e ?_
    refine Ex.nx rfl ?_
    show Ex X m_Writer_writeTerm 98 [.ref (c0 + 11), .ref (c0 + j)] [] (hp c0 n _ _) _
    refine Ex.nx rfl ?_
    refine Hx.get 11 rfl (WR.r11 h0 hW30) rfl ?_
    refine Ex.nx rfl ?_
    refine Hx.get j rfl ((hW30.1 j (by omega)).trans g.1) rfl ?_
    refine Ex.nx rfl ?_
    refine Ex.nx rfl ?_
    refine Ex.nx rfl ?_
    refine Ex.ite (fun c1 => ?_) (fun c1 => ?_)
    · replace c1 : ¬ (lg_cmp x.2.1 1) = 0 := of_decide_eq_true c1
      show Ex X m_Writer_writeTerm 116 [.ref (c0 + 11), .ref (c0 + j)] [.ref (c0 + 12)] (hp c0 n _ _) _
      refine Ex.nx rfl ?_
      refine Hx.rowc hW30.2.1 rfl rfl rfl rfl (wr_word hS (k := 1) (by decide) hW30 (by first | (simp only [List.length_append, List.length_cons, List.length_nil, wl_len, wln_1]; omega) | (rw [wln_1]; omega))) ?_
      rintro v hh ⟨rfl, F39, rfl, hW39⟩
      show Ex X m_Writer_writeTerm 121 [.ref (c0 + 11), .ref (c0 + j)] [] (hp c0 n _ _) _
      refine Ex.nx rfl ?_
      refine Ex.nx rfl ?_
      refine Hx.get 11 rfl (WR.r11 h0 hW39) rfl ?_
      refine Hx.rowE hW39.2.1 rfl rfl rfl rfl (rl_size hW39.2.1) ?_
      show Ex X m_Writer_writeTerm 136 [.ref (c0 + 11), .ref (c0 + j)] [.int (nI (([] : List Nat) ++ wl 1).length)] (hp c0 n _ _) _
      exact Ex.ret rfl (ev_reti rfl) (by rw [show wrW x r = (([] : List Nat) ++ wl 1) by rw [wrW, if_neg (by rw [e]; decide), if_neg (by rw [e]; decide), if_neg (by rw [e]; decide), if_neg (by rw [e]; decide), if_pos e, if_neg (lgc1 c1)] <;> rfl]; exact ⟨rfl, _, _, rfl, hW39⟩)
    · replace c1 : (lg_cmp x.2.1 1) = 0 := Classical.not_not.mp (of_decide_eq_false c1)
      show Ex X m_Writer_writeTerm 111 [.ref (c0 + 11), .ref (c0 + j)] [.ref (c0 + 12)] (hp c0 n _ _) _
      refine Ex.nx rfl ?_
      refine Ex.nx rfl ?_
      refine Hx.rowc hW30.2.1 rfl rfl rfl rfl (wr_word hS (k := 0) (by decide) hW30 (by first | (simp only [List.length_append, List.length_cons, List.length_nil, wl_len, wln_0]; omega) | (rw [wln_0]; omega))) ?_
      rintro v hh ⟨rfl, F40, rfl, hW40⟩
      show Ex X m_Writer_writeTerm 121 [.ref (c0 + 11), .ref (c0 + j)] [] (hp c0 n _ _) _
      refine Ex.nx rfl ?_
      refine Ex.nx rfl ?_
      refine Hx.get 11 rfl (WR.r11 h0 hW40) rfl ?_
      refine Hx.rowE hW40.2.1 rfl rfl rfl rfl (rl_size hW40.2.1) ?_
      show Ex X m_Writer_writeTerm 136 [.ref (c0 + 11), .ref (c0 + j)] [.int (nI (([] : List Nat) ++ wl 0).length)] (hp c0 n _ _) _
      exact Ex.ret rfl (ev_reti rfl) (by rw [show wrW x r = (([] : List Nat) ++ wl 0) by rw [wrW, if_neg (by rw [e]; decide), if_neg (by rw [e]; decide), if_neg (by rw [e]; decide), if_neg (by rw [e]; decide), if_pos e, if_pos (lgc0 c1)] <;> rfl]; exact ⟨rfl, _, _, rfl, hW40⟩)
def wtO (o : List Nat) (t : Int32) : Int32 := if t < 0 then -1 else if t < nI o.length then hb o t.toNatClampNeg else -1
set_option maxRecDepth 100000 in
set_option maxHeartbeats 2000000 in
theorem wr_at {X : ev_X} {c0 n z : Nat} {F0 : Nat → Option va_E} (h0 : W11 c0 F0) {o d : List Nat} {F : Nat → Option va_E} (t : Int32) (hW : WR c0 F0 o d F) : Ex X m_Writer_byteAt 0 [.ref (c0 + 11), .int t] [] (hp c0 n z F) (fun rr h' => rr = some (.int (wtO o t)) ∧ h' = hp c0 n z F) := by
  refine Ex.nx rfl ?_
  refine Ex.nx rfl ?_
  refine Ex.ite (fun c1 => ?_) (fun c1 => ?_)
  · replace c1 : t < 0 := of_decide_eq_true c1
    show Ex X m_Writer_byteAt 15 [.ref (c0 + 11), .int t] [] (hp c0 n _ _) _
    refine Ex.nx rfl ?_
    refine Ex.nx rfl ?_
    exact Ex.ret rfl (ev_reti rfl) ⟨by rw [wtO, if_pos c1] <;> rfl, rfl⟩
  · replace c1 : ¬ t < 0 := of_decide_eq_false c1
    show Ex X m_Writer_byteAt 4 [.ref (c0 + 11), .int t] [] (hp c0 n _ _) _
    refine Ex.nx rfl ?_
    refine Ex.nx rfl ?_
    refine Hx.get 11 rfl (WR.r11 h0 hW) rfl ?_
    refine Hx.rowE hW.2.1 rfl rfl rfl rfl (rl_size hW.2.1) ?_
    show Ex X m_Writer_byteAt 12 [.ref (c0 + 11), .int t] [.int (nI o.length), .int t] (hp c0 n _ _) _
    refine Ex.nx rfl ?_
    refine Ex.ite (fun c2 => ?_) (fun c2 => ?_)
    · replace c2 : t < (nI o.length) := of_decide_eq_true c2
      show Ex X m_Writer_byteAt 19 [.ref (c0 + 11), .int t] [] (hp c0 n _ _) _
      refine Ex.nx rfl ?_
      refine Hx.get 11 rfl (WR.r11 h0 hW) rfl ?_
      refine Ex.nx rfl ?_
      obtain ⟨i, hi, rfl⟩ := nI_of c1
      refine Hx.rowE hW.2.1 rfl rfl rfl rfl (rl_at hW.2.1 (by decide) (i := i) hi) ?_
      exact Ex.ret rfl (ev_reti rfl) ⟨by rw [wtO, if_neg c1, if_pos c2, nI_clamp hi], rfl⟩
    · replace c2 : ¬ t < (nI o.length) := of_decide_eq_false c2
      show Ex X m_Writer_byteAt 15 [.ref (c0 + 11), .int t] [] (hp c0 n _ _) _
      refine Ex.nx rfl ?_
      refine Ex.nx rfl ?_
      exact Ex.ret rfl (ev_reti rfl) ⟨by rw [wtO, if_neg c1, if_neg c2] <;> rfl, rfl⟩
end
