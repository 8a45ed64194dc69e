/-! The two sides as one state; a call on both sides. -/
theorem CC.fr {c0 u pl : Nat} {t o : List Nat} {T : List Tm} {F F1 : Nat → Option va_E} (h : CC c0 t T u o pl F) (hq : ∀ k, (k < 16 ∨ 26 ≤ k) → F1 k = F k) : CC c0 t T u o pl F1 := by
  obtain ⟨h1, ⟨s, nu, p, bd, tl, ft, hC⟩, h3, h4, ⟨d, hW⟩, h6⟩ := h
  exact ⟨(hq 0 (by decide)).trans h1, ⟨s, nu, p, bd, tl, ft, fun _ _ => rfl, hC.rt.fr (hq _ (by decide)) (hq _ (by decide)), (hq 3 (by decide)).trans hC.r3, hC.rb.fr (hq _ (by decide)) (hq _ (by decide)), hC.rl.fr (hq _ (by decide)) (hq _ (by decide)), (hq 8 (by decide)).trans hC.r8⟩, h3.fr (hq _ (by decide)) (hq _ (by decide)) (fun q q1 _ => hq q (Or.inr q1)), (hq 11 (by decide)).trans h4, ⟨d, fun _ _ => rfl, hW.2.1.fr (hq _ (by decide)) (hq _ (by decide)), hW.2.2.fr (hq _ (by decide)) (hq _ (by decide))⟩, h6⟩
theorem RM_sm {c0 n z n' z' : Nat} {F F' : Nat → Option va_E} {σ : Nat → Int32} {τ : Nat → Nat → Int32} (h : RM c0 (hp c0 n z F) σ τ) (e : rsm F F') : RM c0 (hp c0 n' z' F') σ τ := by
  refine ⟨hp_at.trans ((e 16 (by decide) (by decide)).trans (hp_at.symm.trans h.1)), fun k m hk => ?_, fun o ho => hp_lo ho⟩
  have hb := ra_in hk
  exact hp_at.trans ((e (ra k) (by omega) hb.2).trans (hp_at.symm.trans (h.2.1 k m hk)))
/-- both sides at the same table, tape, sum, written bytes, place -/
def J (c0 z : Nat) (t : List Nat) (T : List Tm) (u : Nat) (o : List Nat) (pl : Nat) (h : ev_H) : Prop := ∃ F σ τ, h = hp c0 (26 + 5 * T.length) z F ∧ CC c0 t T u o pl F ∧ RM c0 h σ τ ∧ RC (T.map en) t u pl o σ τ ∧ cT T
def JE (c0 z n : Nat) (h : ev_H) : Prop := ∃ z' t T u o pl, J c0 z' t T u o pl h ∧ z' ≤ z + 200 ∧ T.length ≤ n + 1
theorem J_of {c0 z u pl : Nat} {t o : List Nat} {T : List Tm} {F : Nat → Option va_E} {h : ev_H} {σ : Nat → Int32} {τ : Nat → Nat → Int32} (hC : CC c0 t T u o pl F) (hM : RM c0 h σ τ) (hF : RF c0 (hp c0 (26 + 5 * T.length) z F) h) (hR : RC (T.map en) t u pl o σ τ) (hc : cT T) : J c0 z t T u o pl h := by
  have e : h = hp c0 (26 + 5 * T.length) z (fun k => h.2.2 (c0 + k)) := by
    obtain ⟨a, b, g⟩ := h
    have ea : a = c0 + (26 + 5 * T.length) := hF.1
    have eb : b = z := hF.2.1
    have eg : g = fun o => if o < c0 then none else g (c0 + (o - c0)) := by
      funext o
      by_cases ho : o < c0
      · rw [if_pos ho]; exact hM.2.2 o ho
      · rw [if_neg ho, show c0 + (o - c0) = o by omega]
    show (a, b, g) = (c0 + (26 + 5 * T.length), z, fun o => if o < c0 then none else g (c0 + (o - c0)))
    rw [← eg, ea, eb]
  exact ⟨_, σ, τ, e, hC.fr (fun k hk => (hF.2.2 (c0 + k) (by omega)).trans hp_at), hM, hR, hc⟩
/-- a call's answers and what they lead to -/
def PV {α : Type} (mk : α → Value) (c0 z n : Nat) (σ : Nat → Int32) (τ : Nat → Nat → Int32) (eq : Prop) (P : Option Value → ev_H → Prop) (R : Option Value → (Nat → Int32) → (Nat → Nat → Int32) → Prop) : Prop := ∀ rA h', P rA h' → RM c0 h' σ τ ∧ ∃ a : α, rA = some (mk a) ∧ ∀ rB σ' τ' h'', R rB σ' τ' → RM c0 h'' σ' τ' → RF c0 h' h'' → JE c0 z n h'' ∧ ∃ b : α, rB = some (mk b) ∧ (eq → a = b)
section PVR
variable {c0 n z u pl : Nat} {t o : List Nat} {T : List Tm} {F : Nat → Option va_E} {σ : Nat → Int32} {τ : Nat → Nat → Int32} {eq : Prop}
theorem pv_same {α : Type} {mk : α → Value} {a b : α} (hM : RM c0 (hp c0 n z F) σ τ) (hc : cT T) (he : eq → a = b) : PV mk c0 z T.length σ τ eq (cP c0 z F t T u o pl (mk a)) (rC (T.map en) t u pl o (mk b)) := by
  rintro rA h' ⟨F', z', rfl, hC, hs, hz, rfl⟩
  refine ⟨RM_sm hM hs, a, rfl, ?_⟩
  rintro rB σ' τ' h'' ⟨rfl, hR⟩ hM' hF
  exact ⟨⟨z', t, T, u, o, pl, J_of hC hM' hF hR hc, hz, by omega⟩, b, rfl, he⟩
theorem kP_RM {x : Tm} {r : Option Value} {h' : ev_H} (hM : RM c0 (hp c0 n z F) σ τ) (hK : kP c0 z F t T u o pl x r h') : RM c0 h' σ τ ∧ ∃ a : Int32, r = some (.int a) := by
  rcases hK with ⟨-, F', z', rfl, -, hs, -, rfl⟩ | ⟨-, -, F', z', rfl, -, hs, -, rfl⟩ | ⟨-, -, -, F', z', rfl, -, hs, -, rfl⟩
  · exact ⟨RM_sm hM hs, _, rfl⟩
  · exact ⟨RM_sm hM hs, _, rfl⟩
  · exact ⟨RM_sm hM hs, _, rfl⟩
theorem pv_kp {x : Tm} {R : Option Value → (Nat → Int32) → (Nat → Nat → Int32) → Prop} (hM : RM c0 (hp c0 n z F) σ τ) (hc : cT T) (ho : oT T) (cx : cn x) (ox : okT x) (hT : T.length ≤ 2000) (hR : ∀ r σ' τ', R r σ' τ' → ∃ ts' u', RC ts' t u' pl o σ' τ' ∧ mdR (T.map en) (en x).1 (en x).2.1 (en x).2.2 u (sm x) r ts' u') : PV Value.int c0 z T.length σ τ eq (kP c0 z F t T u o pl x) R := by
  intro rA h' hK
  obtain ⟨hM1, a, ea⟩ := kP_RM hM hK
  refine ⟨hM1, a, ea, ?_⟩
  intro rB σ' τ' h'' hr hM' hF
  obtain ⟨ts', u', hRC, hmd⟩ := hR _ _ _ hr
  obtain ⟨T', v, rfl, hc', hl, rfl, F', z', rfl, hC, hs, hz, e⟩ := kp_md hc ho cx ox hK hmd hT
  refine ⟨⟨z', t, T', u', o, pl, J_of hC hM' hF hRC hc', hz, hl⟩, v, rfl, fun _ => ?_⟩
  rw [ea] at e
  injection e with e
  injection e
theorem PV.mono {α : Type} {mk : α → Value} {P P' : Option Value → ev_H → Prop} {R R' : Option Value → (Nat → Int32) → (Nat → Nat → Int32) → Prop} {m : Nat} (h : PV mk c0 z m σ τ eq P R) (hP : ∀ r h', P' r h' → P r h') (hR : ∀ r σ' τ', R' r σ' τ' → R r σ' τ') : PV mk c0 z m σ τ eq P' R' := by
  intro rA h' q
  obtain ⟨h1, a, e, h2⟩ := h rA h' (hP _ _ q)
  exact ⟨h1, a, e, fun rB σ' τ' h'' q2 => h2 rB σ' τ' h'' (hR _ _ _ q2)⟩
/-- read -/
theorem pv_read (hM : RM c0 (hp c0 n z F) σ τ) (hc : cT T) (ho : oT T) (hT : T.length ≤ 2000) (ht : ∀ i, t.getD i 0 < 256) : PV Value.int c0 z T.length σ τ False (rdP c0 z F t T u o) (reP (T.map en) t u o) := by
  unfold rdP
  by_cases hA : (sAll t).1 = true
  · have hx : cn (sAll t).2.2 ∨ ∀ d kd qq db, ¬ roO t t.length d kd qq db := by
      by_cases hd : ∃ d kd qq db, roO t t.length d kd qq db
      · obtain ⟨d, kd, qq, db, h⟩ := hd
        obtain ⟨x, e, -, -, cx⟩ := all_O ht h
        rw [e]; exact Or.inl cx
      · exact Or.inr (fun d kd qq db h => hd ⟨d, kd, qq, db, h⟩)
    rcases hx with cx | hno
    · refine (pv_kp (x := (sAll t).2.2) (t := []) (pl := t.length) (o := o) hM hc ho cx (sAll_ok ht hA) hT (R := reP (T.map en) t u o) ?_).mono (fun r h' q => by rw [if_pos hA] at q; exact q) (fun _ _ _ q => q)
      rintro r σ' τ' ⟨ts', u', pl', hRC, ⟨d, kd, qq, db, h1, rfl, h2⟩ | ⟨x, h1, -⟩⟩
      · obtain ⟨x, e, ex, es, -⟩ := all_O ht h1
        refine ⟨ts', u', hRC, ?_⟩
        rw [e]
        show mdR (T.map en) (en x).1 (en x).2.1 (en x).2.2 u (sm x) r ts' u'
        rw [ex, es]; exact h2
      · rw [(all_F ht h1).1] at hA; cases hA
    · intro rA h' q
      rw [if_pos hA] at q
      obtain ⟨hM1, a, ea⟩ := kP_RM hM q
      refine ⟨hM1, a, ea, ?_⟩
      rintro rB σ' τ' h'' ⟨ts', u', pl', hRC, ⟨d, kd, qq, db, h1, -⟩ | ⟨x, h1, -⟩⟩
      · exact absurd h1 (hno _ _ _ _)
      · rw [(all_F ht h1).1] at hA; cases hA
  · intro rA h' q
    rw [if_neg hA] at q
    obtain ⟨v, F', z', rfl, hC, hs, hz, rfl⟩ := q
    refine ⟨RM_sm hM hs, v, rfl, ?_⟩
    rintro rB σ' τ' h'' ⟨ts', u', pl', hRC, ⟨d, kd, qq, db, h1, -⟩ | ⟨x, h1, rfl, rfl, rfl⟩⟩ hM' hF
    · obtain ⟨x, e, -⟩ := all_O ht h1
      rw [e] at hA; exact absurd rfl hA
    · rw [(all_F ht h1).2] at hC
      exact ⟨⟨z', [], T, u', o, pl', J_of hC hM' hF hRC hc, hz, by omega⟩, x, rfl, False.elim⟩
/-- find -/
theorem pv_find (hM : RM c0 (hp c0 n z F) σ τ) (hc : cT T) (ht : ∀ i, t.getD i 0 < 256) : PV Value.int c0 z T.length σ τ False (fiP c0 z F t T u o) (rfP (T.map en) t u o) := by
  unfold fiP
  by_cases hA : (sAll t).1 = true
  · intro rA h' q
    rw [if_pos hA] at q
    obtain ⟨F', z', rfl, hC, hs, hz, rfl⟩ := q
    refine ⟨RM_sm hM hs, _, rfl, ?_⟩
    rintro rB σ' τ' h'' ⟨pl', hRC, ⟨d, kd, qq, db, j, h1, rfl, h3, rfl⟩ | ⟨x, h1, rfl⟩⟩ hM' hF
    · exact ⟨⟨z', [], T, u, o, t.length, J_of hC hM' hF hRC hc, hz, by omega⟩, _, rfl, False.elim⟩
    · rw [(all_F ht h1).1] at hA; cases hA
  · intro rA h' q
    rw [if_neg hA] at q
    obtain ⟨v, F', z', rfl, hC, hs, hz, rfl⟩ := q
    refine ⟨RM_sm hM hs, v, rfl, ?_⟩
    rintro rB σ' τ' h'' ⟨pl', hRC, ⟨d, kd, qq, db, j, h1, -⟩ | ⟨x, h1, rfl⟩⟩ hM' hF
    · obtain ⟨x, e, -⟩ := all_O ht h1
      rw [e] at hA; exact absurd rfl hA
    · rw [(all_F ht h1).2] at hC
      exact ⟨⟨z', [], T, u, o, pl', J_of hC hM' hF hRC hc, hz, by omega⟩, x, rfl, False.elim⟩
/-- type -/
theorem pv_type (hM : RM c0 (hp c0 n z F) σ τ) (hc : cT T) (v : Int64) (b : Int32) : PV Value.int c0 z T.length σ τ True (if b < 1 then cP c0 z F t T u o pl (.int (-1)) else if b ≤ 8 then (if nI t.length + b ≤ 240 then cP c0 z F (t ++ byl v b.toNatClampNeg) T u o pl (.int (nI (t ++ byl v b.toNatClampNeg).length)) else cP c0 z F t T u o pl (.int (-3))) else cP c0 z F t T u o pl (.int (-1))) (if b < 1 then rC (T.map en) t u pl o (.int (-1)) else if b ≤ 8 then (if nI t.length + b ≤ 240 then rC (T.map en) (t ++ byl v b.toNatClampNeg) u pl o (.int (nI (t ++ byl v b.toNatClampNeg).length)) else rC (T.map en) t u pl o (.int (-3))) else rC (T.map en) t u pl o (.int (-1))) := by
  split
  · exact pv_same hM hc (fun _ => rfl)
  · split
    · split
      · exact pv_same hM hc (fun _ => rfl)
      · exact pv_same hM hc (fun _ => rfl)
    · exact pv_same hM hc (fun _ => rfl)
end PVR
