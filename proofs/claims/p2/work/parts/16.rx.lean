/-! The reference's world: its object at c0 + 16, its nine arrays behind it; σ: its int fields, τ: its arrays, by the numbers of the fields. -/
def ra (k : Nat) : Nat := match k with
  | 0 => 17 | 3 => 18 | 4 => 19 | 5 => 20 | 6 => 21 | 9 => 22 | 14 => 23 | 20 => 24 | _ => 25
def rsz (k : Nat) : Option Nat := match k with
  | 0 => some 240 | 3 => some 132000 | 4 => some 2002 | 5 => some 2002 | 6 => some 2002 | 9 => some 260 | 14 => some 260 | 20 => some 240 | 21 => some 40 | _ => none
def rfs (c0 : Nat) (σ : Nat → Int32) : List Value := [.ref (c0 + 17), .int (σ 1), .int (σ 2), .ref (c0 + 18), .ref (c0 + 19), .ref (c0 + 20), .ref (c0 + 21), .int (σ 7), .int (σ 8), .ref (c0 + 22), .int (σ 10), .int (σ 11), .int (σ 12), .int (σ 13), .ref (c0 + 23), .int (σ 15), .int (σ 16), .int (σ 17), .int (σ 18), .int (σ 19), .ref (c0 + 24), .ref (c0 + 25), .int (σ 22), .int (σ 23)]
def RM (c0 : Nat) (h : ev_H) (σ : Nat → Int32) (τ : Nat → Nat → Int32) : Prop := h.2.2 (c0 + 16) = some (.inr (6, rfs c0 σ)) ∧ (∀ k n, rsz k = some n → h.2.2 (c0 + ra k) = some (.inl (1, n, .inl (τ k)))) ∧ ∀ o, o < c0 → h.2.2 o = none
/-- nothing but the reference's cells has changed, and nothing is made -/
def RF (c0 : Nat) (h h' : ev_H) : Prop := h'.1 = h.1 ∧ h'.2.1 = h.2.1 ∧ ∀ o, (o < c0 + 16 ∨ c0 + 26 ≤ o) → h'.2.2 o = h.2.2 o
theorem RF.rf {c0 : Nat} {h : ev_H} : RF c0 h h := ⟨rfl, rfl, fun _ _ => rfl⟩
theorem RF.tr {c0 : Nat} {h h1 h2 : ev_H} (a : RF c0 h h1) (b : RF c0 h1 h2) : RF c0 h h2 := ⟨b.1.trans a.1, b.2.1.trans a.2.1, fun o ho => (b.2.2 o ho).trans (a.2.2 o ho)⟩
theorem RF.set {c0 o : Nat} {h : ev_H} {e : va_E} (h1 : c0 + 16 ≤ o) (h2 : o < c0 + 26) : RF c0 h (ev_set h o e) := ⟨rfl, rfl, fun q hq => gn (by omega) rfl⟩
theorem ra_in {k n : Nat} (h : rsz k = some n) : 17 ≤ ra k ∧ ra k < 26 := by
  unfold rsz at h
  split at h <;> first | (cases h; done) | (simp [ra])
theorem ra_inj {k n k' n' : Nat} (h : rsz k = some n) (h' : rsz k' = some n') (e : ra k = ra k') : k = k' := by
  unfold rsz at h h'
  split at h <;> first | (cases h; done) | (split at h' <;> first | (cases h'; done) | rfl | (simp [ra] at e))
def Rx (X : ev_X) (c0 M pc : Nat) (A st : List Value) (σ : Nat → Int32) (τ : Nat → Nat → Int32) (Q : Option Value → (Nat → Int32) → (Nat → Nat → Int32) → Prop) : Prop :=
  ∀ h, RM c0 h σ τ → Ex X M pc A st h (fun r h' => ∃ σ' τ', RM c0 h' σ' τ' ∧ RF c0 h h' ∧ Q r σ' τ')
section RXR
variable {X : ev_X} {c0 M pc pc' nx a b w idx : Nat} {A A' st st' r : List Value} {σ : Nat → Int32} {τ : Nat → Nat → Int32} {Q : Option Value → (Nat → Int32) → (Nat → Nat → Int32) → Prop}
theorem Rx.mono {Q' : Option Value → (Nat → Int32) → (Nat → Nat → Int32) → Prop} (k : Rx X c0 M pc A st σ τ Q) (hq : ∀ r σ' τ', Q r σ' τ' → Q' r σ' τ') : Rx X c0 M pc A st σ τ Q' := fun h hM => (k h hM).mono fun r h' ⟨σ', τ', q1, q2, q3⟩ => ⟨σ', τ', q1, q2, hq r σ' τ' q3⟩
theorem Rx.go (h1 : ∀ h, ev_nx X M pc A st h = some (pc', A', st', h)) (k : Rx X c0 M pc' A' st' σ τ Q) : Rx X c0 M pc A st σ τ Q := fun h hM => Ex.nx (h1 h) (k h hM)
theorem Rx.ite {p1 p2 : Nat} {c : Bool} (kt : c = true → Rx X c0 M p1 A st σ τ Q) (kf : c = false → Rx X c0 M p2 A st σ τ Q) : Rx X c0 M (if c = true then p1 else p2) A st σ τ Q := by
  cases c
  · exact kf rfl
  · exact kt rfl
theorem Rx.get {v : Value} (o : pg_ops M pc = some (.getfield idx, nx, 6, b, w)) (hv : (rfs c0 σ)[b]? = some v) (k : Rx X c0 M nx A (v :: r) σ τ Q) : Rx X c0 M pc A (.ref (c0 + 16) :: r) σ τ Q := fun h hM => Ex.get o hM.1 hv (k h hM)
theorem RM.put {h : ev_H} {b : Nat} {x : Int32} (hM : RM c0 h σ τ) (hb : (rfs c0 σ).set b (.int x) = rfs c0 (upd σ b x)) : RM c0 (ev_set h (c0 + 16) (.inr (6, (rfs c0 σ).set b (.int x)))) (upd σ b x) τ :=
  ⟨by rw [hb]; exact gs, fun k n hk => gn (by have := ra_in hk; omega) (hM.2.1 k n hk), fun o ho => gn (by omega) (hM.2.2 o ho)⟩
theorem Rx.put {x : Int32} (o : pg_ops M pc = some (.putfield idx, nx, 6, b, w)) (hl : b < 24) (ht : pg_t 6 b = .int) (hb : (rfs c0 σ).set b (.int x) = rfs c0 (upd σ b x)) (k : Rx X c0 M nx A r (upd σ b x) τ Q) : Rx X c0 M pc A (.int x :: .ref (c0 + 16) :: r) σ τ Q := fun h hM => by
  refine Ex.put o hM.1 hl (by rw [ht]; rfl) (by rw [ht]; rfl) ?_
  refine (k _ (hM.put hb)).mono fun r h' ⟨σ', τ', q1, q2, q3⟩ => ⟨σ', τ', q1, RF.tr (RF.set (by omega) (by omega)) q2, q3⟩
theorem Rx.ald {j : Int32} {n : Nat} (kk : Nat) (o : pg_ops M pc = some (.iaload, nx, a, b, w)) (hz : rsz kk = some n) (hj : ¬ (j < 0 ∨ n ≤ j.toNatClampNeg)) (k : Rx X c0 M nx A (.int (τ kk j.toNatClampNeg) :: r) σ τ Q) : Rx X c0 M pc A (.int j :: .ref (c0 + ra kk) :: r) σ τ Q := fun h hM => Ex.iald o (hM.2.1 kk n hz) hj (k h hM)
theorem RM.ast {h : ev_H} {kk n j : Nat} {x : Int32} (hM : RM c0 h σ τ) (hz : rsz kk = some n) : RM c0 (ev_set h (c0 + ra kk) (.inl (1, n, .inl (upd (τ kk) j x)))) σ (va_up τ kk (upd (τ kk) j x)) := by
  have hr := ra_in hz
  refine ⟨gn (by omega) hM.1, fun k' n' hk' => ?_, fun o ho => gn (by omega) (hM.2.2 o ho)⟩
  by_cases e : k' = kk
  · subst e
    cases hz.symm.trans hk'
    rw [show va_up τ k' (upd (τ k') j x) k' = upd (τ k') j x by simp [va_up]]
    exact gs
  · rw [show va_up τ kk (upd (τ kk) j x) k' = τ k' by simp [va_up, e]]
    exact gn (fun q => e (ra_inj hk' hz (by omega))) (hM.2.1 k' n' hk')
theorem Rx.ast {j x : Int32} {n : Nat} (kk : Nat) (o : pg_ops M pc = some (.iastore, nx, a, b, w)) (hz : rsz kk = some n) (hj : ¬ (j < 0 ∨ n ≤ j.toNatClampNeg)) (k : Rx X c0 M nx A r σ (va_up τ kk (upd (τ kk) j.toNatClampNeg x)) Q) : Rx X c0 M pc A (.int x :: .int j :: .ref (c0 + ra kk) :: r) σ τ Q := fun h hM => by
  have hr := ra_in hz
  refine Ex.iast o (hM.2.1 kk n hz) hj ?_
  refine (k _ (hM.ast hz)).mono fun r h' ⟨σ', τ', q1, q2, q3⟩ => ⟨σ', τ', q1, RF.tr (RF.set (by omega) (by omega)) q2, q3⟩
theorem Rx.ret {i : Instr} {v : Option Value} (o : pg_ops M pc = some (i, nx, a, b, w)) (hr : ev_ret M i st = some v) (q : Q v σ τ) : Rx X c0 M pc A st σ τ Q := fun h hM => Ex.ret o hr ⟨σ, τ, hM, RF.rf, q⟩
/-- a call of a method of the reference -/
theorem Rx.call {as rest A0 : List Value} {Q1 : Option Value → (Nat → Int32) → (Nat → Nat → Int32) → Prop} (o : pg_ops M pc = some (.invokevirtual idx, nx, a, b, w)) (ha : ev_argI (pg_n a) st = some (c0 + 16, as, rest)) (hc : pg_c a = 6) (he : ev_ent (pg_L a) (.ref (c0 + 16) :: as) = some A0) (k1 : Rx X c0 a 0 A0 [] σ τ Q1)
    (k2 : ∀ (v : Option Value) (σ' : Nat → Int32) (τ' : Nat → Nat → Int32), Q1 v σ' τ' → Rx X c0 M nx A (v.toList ++ rest) σ' τ' Q) : Rx X c0 M pc A st σ τ Q := fun h hM => by
  refine Ex.call (rest := rest) o rfl ?_ he (k1 h hM) (fun v h1 ⟨σ', τ', q1, q2, q3⟩ => ?_)
  · have hrc : ev_rcv X h (c0 + 16) (pg_c a) = true := by unfold ev_rcv; rw [hM.1, hc]; rfl
    simp only [ev_cal, ha, hrc, if_true]
  · exact (k2 v σ' τ' q3 h1 q1).mono fun r h' ⟨σ2, τ2, p1, p2, p3⟩ => ⟨σ2, τ2, p1, RF.tr q2 p2, p3⟩
/-- a call of a static method that leaves the heap as it is -/
theorem Rx.scall {as rest A0 : List Value} {Q1 : Option Value → Prop} (o : pg_ops M pc = some (.invokestatic idx, nx, a, b, w)) (hs : (decide (a ∈ pg_sp)) = false) (ha : ev_argS (pg_n a) st = some (as, rest)) (he : ev_ent (pg_L a) as = some A0) (k1 : ∀ h, Ex X a 0 A0 [] h (fun v h' => h' = h ∧ Q1 v))
    (k2 : ∀ v : Option Value, Q1 v → Rx X c0 M nx A (v.toList ++ rest) σ τ Q) : Rx X c0 M pc A st σ τ Q := fun h hM => by
  refine Ex.call (rest := rest) o rfl ?_ he (k1 h) (fun v h1 ⟨q1, q2⟩ => ?_)
  · simp only [ev_cal, if_neg (of_decide_eq_false hs), ha]
  · subst q1
    exact k2 v q2 h1 hM
theorem Rx.callE {as rest A0 : List Value} {v : Option Value} {σ1 : Nat → Int32} {τ1 : Nat → Nat → Int32} (o : pg_ops M pc = some (.invokevirtual idx, nx, a, b, w)) (ha : ev_argI (pg_n a) st = some (c0 + 16, as, rest)) (hc : pg_c a = 6) (he : ev_ent (pg_L a) (.ref (c0 + 16) :: as) = some A0) (k1 : Rx X c0 a 0 A0 [] σ τ (fun r σ' τ' => r = v ∧ σ' = σ1 ∧ τ' = τ1))
    (k2 : Rx X c0 M nx A (v.toList ++ rest) σ1 τ1 Q) : Rx X c0 M pc A st σ τ Q := Rx.call o ha hc he k1 (fun r σ' τ' ⟨e1, e2, e3⟩ => by rw [e1, e2, e3]; exact k2)
theorem Rx.scallE {as rest A0 : List Value} {v : Option Value} (o : pg_ops M pc = some (.invokestatic idx, nx, a, b, w)) (hs : (decide (a ∈ pg_sp)) = false) (ha : ev_argS (pg_n a) st = some (as, rest)) (he : ev_ent (pg_L a) as = some A0) (k1 : ∀ h, Ex X a 0 A0 [] h (fun r h' => h' = h ∧ r = v))
    (k2 : Rx X c0 M nx A (v.toList ++ rest) σ τ Q) : Rx X c0 M pc A st σ τ Q := Rx.scall o hs ha he k1 (fun r e1 => by rw [e1]; exact k2)
theorem Rx.aldE {j v : Int32} {n : Nat} (kk : Nat) (o : pg_ops M pc = some (.iaload, nx, a, b, w)) (hz : rsz kk = some n) (hj : ¬ (j < 0 ∨ n ≤ j.toNatClampNeg)) (hv : τ kk j.toNatClampNeg = v) (k : Rx X c0 M nx A (.int v :: r) σ τ Q) : Rx X c0 M pc A (.int j :: .ref (c0 + ra kk) :: r) σ τ Q := Rx.ald kk o hz hj (by rw [hv]; exact k)
theorem Rx.top {x y : Int32} (h : x = y) (k : Rx X c0 M pc A (.int y :: r) σ τ Q) : Rx X c0 M pc A (.int x :: r) σ τ Q := h ▸ k
theorem Rx.callX {α : Type} {P : α → Prop} {as rest A0 : List Value} {v : α → Option Value} {σ1 : α → Nat → Int32} {τ1 : α → Nat → Nat → Int32} (o : pg_ops M pc = some (.invokevirtual idx, nx, a, b, w)) (ha : ev_argI (pg_n a) st = some (c0 + 16, as, rest)) (hc : pg_c a = 6) (he : ev_ent (pg_L a) (.ref (c0 + 16) :: as) = some A0) (k1 : Rx X c0 a 0 A0 [] σ τ (fun r σ' τ' => ∃ x : α, P x ∧ r = v x ∧ σ' = σ1 x ∧ τ' = τ1 x))
    (k2 : ∀ x : α, P x → Rx X c0 M nx A ((v x).toList ++ rest) (σ1 x) (τ1 x) Q) : Rx X c0 M pc A st σ τ Q := Rx.call o ha hc he k1 (fun r σ' τ' ⟨x, hx, e1, e2, e3⟩ => by rw [e1, e2, e3]; exact k2 x hx)
theorem Rx.callP {P : (Nat → Int32) → (Nat → Nat → Int32) → Prop} {as rest A0 : List Value} {v : Option Value} (o : pg_ops M pc = some (.invokevirtual idx, nx, a, b, w)) (ha : ev_argI (pg_n a) st = some (c0 + 16, as, rest)) (hc : pg_c a = 6) (he : ev_ent (pg_L a) (.ref (c0 + 16) :: as) = some A0) (k1 : Rx X c0 a 0 A0 [] σ τ (fun r σ' τ' => r = v ∧ P σ' τ'))
    (k2 : ∀ (σ' : Nat → Int32) (τ' : Nat → Nat → Int32), P σ' τ' → Rx X c0 M nx A (v.toList ++ rest) σ' τ' Q) : Rx X c0 M pc A st σ τ Q := Rx.call o ha hc he k1 (fun r σ' τ' ⟨e1, e2⟩ => by rw [e1]; exact k2 σ' τ' e2)
end RXR
