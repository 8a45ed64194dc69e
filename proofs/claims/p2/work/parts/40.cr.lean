/-! The class while it reads: rows as lists of bytes (rowL), the draft and the reader (CR). -/
def rowL (c0 : Nat) (F : Nat → Option va_E) (k ka N : Nat) (l : List Nat) : Prop := ∃ f : Nat → Int32, F k = some (.inr (1, [.ref (c0 + ka), .int (nI l.length)])) ∧ F ka = some (.inl (0, N, .inl f)) ∧ l.length ≤ N ∧ (∀ i, i < l.length → f i &&& 255 = nI (l.getD i 0)) ∧ ∀ i, l.getD i 0 < 256
set_option maxRecDepth 100000 in
theorem nar_255 : ∀ b : Nat, b < 256 → vp_nar .byte (nI b) &&& 255 = nI b := by decide +kernel
theorem rowL.fr {c0 k ka N : Nat} {F F' : Nat → Option va_E} {l : List Nat} (h : rowL c0 F k ka N l) (e1 : F' k = F k) (e2 : F' ka = F ka) : rowL c0 F' k ka N l := by
  obtain ⟨f, h1, h2, h3⟩ := h
  exact ⟨f, e1.trans h1, e2.trans h2, h3⟩
section RLR
variable {X : ev_X} {c0 n z k ka N : Nat} {F : Nat → Option va_E} {l : List Nat}
theorem rowL.ob (h : rowL c0 F k ka N l) : ∃ fs, F k = some (.inr (1, fs)) := by obtain ⟨f, h1, -⟩ := h; exact ⟨_, h1⟩
theorem rowL.le (h : rowL c0 F k ka N l) : l.length ≤ N := by obtain ⟨f, -, -, h3, -⟩ := h; exact h3
theorem rowL.by (h : rowL c0 F k ka N l) (i : Nat) : l.getD i 0 < 256 := by obtain ⟨f, -, -, -, -, h5⟩ := h; exact h5 i
theorem rl_size (h : rowL c0 F k ka N l) : Ex X m_Row_size 0 [.ref (c0 + k)] [] (hp c0 n z F) (fun r h' => r = some (.int (nI l.length)) ∧ h' = hp c0 n z F) := by
  obtain ⟨f, h1, -⟩ := h
  exact hx_size k h1
theorem rl_at (h : rowL c0 F k ka N l) (hN : N ≤ 1000) {i : Nat} (hi : i < 2 ^ 31) : Ex X m_Row_at 0 [.ref (c0 + k), .int (nI i)] [] (hp c0 n z F) (fun r h' => r = some (.int (hb l i)) ∧ h' = hp c0 n z F) := by
  obtain ⟨f, h1, h2, h3, h4, h5⟩ := h
  unfold hb
  by_cases q : i < l.length
  · rw [if_pos q]
    refine (hx_at_lt k ka h1 h2 hN h3 q).mono ?_
    rintro r h' ⟨rfl, rfl⟩
    exact ⟨by rw [h4 i q], rfl⟩
  · rw [if_neg q]
    exact hx_at_ge k ka h1 h2 hN h3 (by omega) hi
theorem rl_clear (h : rowL c0 F k ka N l) (hne : ka ≠ k) : Ex X m_Row_clear 0 [.ref (c0 + k)] [] (hp c0 n z F) (fun r h' => r = none ∧ ∃ F', h' = hp c0 n z F' ∧ rowL c0 F' k ka N [] ∧ ∀ j, j ≠ k → j ≠ ka → F' j = F j) := by
  obtain ⟨f, h1, h2, h3, h4, h5⟩ := h
  refine (hx_clear k h1).mono ?_
  rintro r h' ⟨rfl, rfl⟩
  exact ⟨rfl, _, rfl, ⟨f, va_up_self _ _ _, (va_up_ne _ _ hne).trans h2, Nat.zero_le _, fun i hi => absurd hi (Nat.not_lt_zero i), fun i => by simp⟩, fun j hj _ => va_up_ne _ _ hj⟩
theorem rl_add (h : rowL c0 F k ka N l) (hN : N ≤ 1000) (hne : ka ≠ k) (b : Nat) (hb : b < 256) (hl : l.length < N) : Ex X m_Row_add 0 [.ref (c0 + k), .int (nI b)] [] (hp c0 n z F) (fun r h' => r = none ∧ ∃ F', h' = hp c0 n z F' ∧ rowL c0 F' k ka N (l ++ [b]) ∧ ∀ j, j ≠ k → j ≠ ka → F' j = F j) := by
  obtain ⟨f, h1, h2, h3, h4, h5⟩ := h
  refine (hx_add k ka h1 h2 hN hl (Ne.symm hne) (nI b)).mono ?_
  rintro r h' ⟨rfl, rfl⟩
  refine ⟨rfl, _, rfl, ⟨upd f l.length (vp_nar .byte (nI b)), ?_, (va_up_ne _ _ hne).trans (va_up_self _ _ _), ?_, ?_, ?_⟩, fun j hj1 hj2 => (va_up_ne _ _ hj1).trans (va_up_ne _ _ hj2)⟩
  · rw [va_up_self, List.length_append]; rfl
  · simp only [List.length_append, List.length_cons, List.length_nil]; omega
  · intro i hi
    simp only [List.length_append, List.length_cons, List.length_nil] at hi
    rw [getD_snoc hi]
    split
    · next q => rw [pk_un (by omega)]; exact h4 i q
    · next q => rw [show i = l.length by omega, pk_us]; exact nar_255 b hb
  · intro i
    by_cases q : i < l.length + 1
    · rw [getD_snoc q]
      split
      · exact h5 i
      · exact hb
    · rw [gd0 (by simp only [List.length_append, List.length_cons, List.length_nil]; omega)]; decide
end RLR
def CR (c0 : Nat) (F0 : Nat → Option va_E) (t : List Nat) (s : Int32) (nu : Int64) (p : Int32) (bd tl : List Nat) (ft fp : Int32) (F : Nat → Option va_E) : Prop := (∀ j, (j < 3 ∨ 8 < j) → F j = F0 j) ∧ rowL c0 F 1 2 240 t ∧ F 3 = some (.inr (2, [.int s, .long nu, .int p, .ref (c0 + 4), .ref (c0 + 6)])) ∧ rowL c0 F 4 5 64 bd ∧ rowL c0 F 6 7 60 tl ∧ F 8 = some (.inr (0, [.ref (c0 + 3), .int ft, .int fp]))
/-- a fault told, at w -/
def CE (c0 : Nat) (F0 : Nat → Option va_E) (t : List Nat) (w : Nat) (F : Nat → Option va_E) : Prop := ∃ s nu p bd tl ft, ft ≠ 0 ∧ CR c0 F0 t s nu p bd tl ft (nI w) F
/-- the row that is read: the tape, or the draft's body -/
def crw (t bd : List Nat) (kr : Nat) (l : List Nat) : Prop := (kr = 1 ∧ l = t) ∨ (kr = 4 ∧ l = bd)
section CRR
variable {X : ev_X} {c0 n z M pc nx a b w idx kr : Nat} {A r : List Value} {F F0 : Nat → Option va_E} {Q : Option Value → ev_H → Prop} {t bd tl l : List Nat} {s p ft fp x : Int32} {nu : Int64}
theorem CR.r3 (h : CR c0 F0 t s nu p bd tl ft fp F) : F 3 = some (.inr (2, [.int s, .long nu, .int p, .ref (c0 + 4), .ref (c0 + 6)])) := h.2.2.1
theorem CR.r8 (h : CR c0 F0 t s nu p bd tl ft fp F) : F 8 = some (.inr (0, [.ref (c0 + 3), .int ft, .int fp])) := h.2.2.2.2.2
theorem CR.rt (h : CR c0 F0 t s nu p bd tl ft fp F) : rowL c0 F 1 2 240 t := h.2.1
theorem CR.rb (h : CR c0 F0 t s nu p bd tl ft fp F) : rowL c0 F 4 5 64 bd := h.2.2.2.1
theorem CR.rl (h : CR c0 F0 t s nu p bd tl ft fp F) : rowL c0 F 6 7 60 tl := h.2.2.2.2.1
theorem CR.u3 {s' p' : Int32} {nu' : Int64} (h : CR c0 F0 t s nu p bd tl ft fp F) : CR c0 F0 t s' nu' p' bd tl ft fp (va_up F 3 (some (.inr (2, [.int s', .long nu', .int p', .ref (c0 + 4), .ref (c0 + 6)])))) :=
  ⟨fun j hj => (va_up_ne _ _ (by omega)).trans (h.1 j hj), h.rt.fr (va_up_ne _ _ (by decide)) (va_up_ne _ _ (by decide)), va_up_self _ _ _, h.rb.fr (va_up_ne _ _ (by decide)) (va_up_ne _ _ (by decide)), h.rl.fr (va_up_ne _ _ (by decide)) (va_up_ne _ _ (by decide)), (va_up_ne _ _ (by decide)).trans h.r8⟩
theorem CR.u8 {ft' fp' : Int32} (h : CR c0 F0 t s nu p bd tl ft fp F) : CR c0 F0 t s nu p bd tl ft' fp' (va_up F 8 (some (.inr (0, [.ref (c0 + 3), .int ft', .int fp'])))) :=
  ⟨fun j hj => (va_up_ne _ _ (by omega)).trans (h.1 j hj), h.rt.fr (va_up_ne _ _ (by decide)) (va_up_ne _ _ (by decide)), (va_up_ne _ _ (by decide)).trans h.r3, h.rb.fr (va_up_ne _ _ (by decide)) (va_up_ne _ _ (by decide)), h.rl.fr (va_up_ne _ _ (by decide)) (va_up_ne _ _ (by decide)), va_up_self _ _ _⟩
theorem CR.ps (h : CR c0 F0 t s nu p bd tl ft fp F) (o : pg_ops M pc = some (.putfield idx, nx, 2, 0, w)) (k : ∀ F1, CR c0 F0 t x nu p bd tl ft fp F1 → Ex X M nx A r (hp c0 n z F1) Q) : Ex X M pc A (.int x :: .ref (c0 + 3) :: r) (hp c0 n z F) Q := Hx.put 3 o h.r3 rfl rfl rfl (k _ h.u3)
theorem CR.pn {y : Int64} (h : CR c0 F0 t s nu p bd tl ft fp F) (o : pg_ops M pc = some (.putfield idx, nx, 2, 1, w)) (k : ∀ F1, CR c0 F0 t s y p bd tl ft fp F1 → Ex X M nx A r (hp c0 n z F1) Q) : Ex X M pc A (.long y :: .ref (c0 + 3) :: r) (hp c0 n z F) Q := Hx.put 3 o h.r3 rfl rfl rfl (k _ h.u3)
theorem CR.pp (h : CR c0 F0 t s nu p bd tl ft fp F) (o : pg_ops M pc = some (.putfield idx, nx, 2, 2, w)) (k : ∀ F1, CR c0 F0 t s nu x bd tl ft fp F1 → Ex X M nx A r (hp c0 n z F1) Q) : Ex X M pc A (.int x :: .ref (c0 + 3) :: r) (hp c0 n z F) Q := Hx.put 3 o h.r3 rfl rfl rfl (k _ h.u3)
theorem CR.pf (h : CR c0 F0 t s nu p bd tl ft fp F) (o : pg_ops M pc = some (.putfield idx, nx, 0, 1, w)) (k : ∀ F1, CR c0 F0 t s nu p bd tl x fp F1 → Ex X M nx A r (hp c0 n z F1) Q) : Ex X M pc A (.int x :: .ref (c0 + 8) :: r) (hp c0 n z F) Q := Hx.put 8 o h.r8 rfl rfl rfl (k _ h.u8)
theorem CR.pq (h : CR c0 F0 t s nu p bd tl ft fp F) (o : pg_ops M pc = some (.putfield idx, nx, 0, 2, w)) (k : ∀ F1, CR c0 F0 t s nu p bd tl ft x F1 → Ex X M nx A r (hp c0 n z F1) Q) : Ex X M pc A (.int x :: .ref (c0 + 8) :: r) (hp c0 n z F) Q := Hx.put 8 o h.r8 rfl rfl rfl (k _ h.u8)
/-- a call of a method of a row -/
theorem Hx.rowc {k ka N : Nat} {as st A0 : List Value} {Q1 : Option Value → ev_H → Prop} (hr : rowL c0 F k ka N l) (o : pg_ops M pc = some (.invokevirtual idx, nx, a, b, w)) (ha : ev_argI (pg_n a) st = some (c0 + k, as, r)) (hc : pg_c a = 1) (he : ev_ent (pg_L a) (.ref (c0 + k) :: as) = some A0) (k1 : Ex X a 0 A0 [] (hp c0 n z F) Q1) (k2 : ∀ v h1, Q1 v h1 → Ex X M nx A (v.toList ++ r) h1 Q) : Ex X M pc A st (hp c0 n z F) Q := by
  obtain ⟨fs, hF⟩ := hr.ob
  exact Hx.callX k o ha hF hc he k1 k2
theorem Hx.rowE {k ka N : Nat} {as st A0 : List Value} {v : Option Value} (hr : rowL c0 F k ka N l) (o : pg_ops M pc = some (.invokevirtual idx, nx, a, b, w)) (ha : ev_argI (pg_n a) st = some (c0 + k, as, r)) (hc : pg_c a = 1) (he : ev_ent (pg_L a) (.ref (c0 + k) :: as) = some A0) (k1 : Ex X a 0 A0 [] (hp c0 n z F) (fun r h' => r = v ∧ h' = hp c0 n z F)) (k2 : Ex X M nx A (v.toList ++ r) (hp c0 n z F) Q) : Ex X M pc A st (hp c0 n z F) Q :=
  Hx.rowc hr o ha hc he k1 (fun v' h1 ⟨e1, e2⟩ => by rw [e1, e2]; exact k2)
theorem CR.row (h : CR c0 F0 t s nu p bd tl ft fp F) (hr : crw t bd kr l) : ∃ ka N, N ≤ 1000 ∧ rowL c0 F kr ka N l := by
  rcases hr with ⟨rfl, rfl⟩ | ⟨rfl, rfl⟩
  · exact ⟨2, 240, by decide, h.rt⟩
  · exact ⟨5, 64, by decide, h.rb⟩
theorem crw.le (h : CR c0 F0 t s nu p bd tl ft fp F) (hr : crw t bd kr l) : l.length ≤ 240 := by
  rcases hr with ⟨-, rfl⟩ | ⟨-, rfl⟩
  · exact h.rt.le
  · exact Nat.le_trans h.rb.le (by decide)
theorem crw.by (h : CR c0 F0 t s nu p bd tl ft fp F) (hr : crw t bd kr l) (i : Nat) : l.getD i 0 < 256 := by
  rcases hr with ⟨-, rfl⟩ | ⟨-, rfl⟩
  · exact h.rt.by i
  · exact h.rb.by i
theorem CR.at {st : List Value} {i : Nat} {A0 : List Value} (h : CR c0 F0 t s nu p bd tl ft fp F) (hr : crw t bd kr l) (hi : i < 2 ^ 31) (o : pg_ops M pc = some (.invokevirtual idx, nx, 16, b, w)) (ha : ev_argI (pg_n 16) st = some (c0 + kr, [.int (nI i)], r)) (he : ev_ent (pg_L 16) [.ref (c0 + kr), .int (nI i)] = some [.ref (c0 + kr), .int (nI i)]) (k : Ex X M nx A (.int (hb l i) :: r) (hp c0 n z F) Q) : Ex X M pc A st (hp c0 n z F) Q := by
  obtain ⟨ka, N, hN, hR⟩ := h.row hr
  exact Hx.rowE hR o ha rfl he (rl_at hR hN hi) k
theorem CR.sz {st : List Value} (h : CR c0 F0 t s nu p bd tl ft fp F) (hr : crw t bd kr l) (o : pg_ops M pc = some (.invokevirtual idx, nx, 9, b, w)) (ha : ev_argI (pg_n 9) st = some (c0 + kr, [], r)) (he : ev_ent (pg_L 9) [.ref (c0 + kr)] = some [.ref (c0 + kr)]) (k : Ex X M nx A (.int (nI l.length) :: r) (hp c0 n z F) Q) : Ex X M pc A st (hp c0 n z F) Q := by
  obtain ⟨ka, N, hN, hR⟩ := h.row hr
  exact Hx.rowE hR o ha rfl he (rl_size hR) k
theorem CR.szt {st : List Value} (h : CR c0 F0 t s nu p bd tl ft fp F) (o : pg_ops M pc = some (.invokevirtual idx, nx, 9, b, w)) (ha : ev_argI (pg_n 9) st = some (c0 + 6, [], r)) (he : ev_ent (pg_L 9) [.ref (c0 + 6)] = some [.ref (c0 + 6)]) (k : Ex X M nx A (.int (nI tl.length) :: r) (hp c0 n z F) Q) : Ex X M pc A st (hp c0 n z F) Q :=
  Hx.rowE h.rl o ha rfl he (rl_size h.rl) k
theorem CR.ub {F1 : Nat → Option va_E} {bd' : List Nat} (h : CR c0 F0 t s nu p bd tl ft fp F) (hr : rowL c0 F1 4 5 64 bd') (hj : ∀ j, j ≠ 4 → j ≠ 5 → F1 j = F j) : CR c0 F0 t s nu p bd' tl ft fp F1 :=
  ⟨fun j hh => (hj j (by omega) (by omega)).trans (h.1 j hh), h.rt.fr (hj 1 (by decide) (by decide)) (hj 2 (by decide) (by decide)), (hj 3 (by decide) (by decide)).trans h.r3, hr, h.rl.fr (hj 6 (by decide) (by decide)) (hj 7 (by decide) (by decide)), (hj 8 (by decide) (by decide)).trans h.r8⟩
theorem CR.ul {F1 : Nat → Option va_E} {tl' : List Nat} (h : CR c0 F0 t s nu p bd tl ft fp F) (hr : rowL c0 F1 6 7 60 tl') (hj : ∀ j, j ≠ 6 → j ≠ 7 → F1 j = F j) : CR c0 F0 t s nu p bd tl' ft fp F1 :=
  ⟨fun j hh => (hj j (by omega) (by omega)).trans (h.1 j hh), h.rt.fr (hj 1 (by decide) (by decide)) (hj 2 (by decide) (by decide)), (hj 3 (by decide) (by decide)).trans h.r3, h.rb.fr (hj 4 (by decide) (by decide)) (hj 5 (by decide) (by decide)), hr, (hj 8 (by decide) (by decide)).trans h.r8⟩
theorem CR.adb {st : List Value} {d : Nat} (h : CR c0 F0 t s nu p bd tl ft fp F) (hd : d < 256) (hl : bd.length < 64) (o : pg_ops M pc = some (.invokevirtual idx, nx, 10, b, w)) (ha : ev_argI (pg_n 10) st = some (c0 + 4, [.int (nI d)], r)) (k : ∀ F1, CR c0 F0 t s nu p (bd ++ [d]) tl ft fp F1 → Ex X M nx A r (hp c0 n z F1) Q) : Ex X M pc A st (hp c0 n z F) Q :=
  Hx.rowc h.rb o ha rfl rfl (rl_add h.rb (by decide) (by decide) d hd hl) (fun v h1 ⟨e1, F1, e2, e3, e4⟩ => by rw [e1, e2]; exact k F1 (h.ub e3 e4))
theorem CR.adt {st : List Value} {d : Nat} (h : CR c0 F0 t s nu p bd tl ft fp F) (hd : d < 256) (hl : tl.length < 60) (o : pg_ops M pc = some (.invokevirtual idx, nx, 10, b, w)) (ha : ev_argI (pg_n 10) st = some (c0 + 6, [.int (nI d)], r)) (k : ∀ F1, CR c0 F0 t s nu p bd (tl ++ [d]) ft fp F1 → Ex X M nx A r (hp c0 n z F1) Q) : Ex X M pc A st (hp c0 n z F) Q :=
  Hx.rowc h.rl o ha rfl rfl (rl_add h.rl (by decide) (by decide) d hd hl) (fun v h1 ⟨e1, F1, e2, e3, e4⟩ => by rw [e1, e2]; exact k F1 (h.ul e3 e4))
theorem CR.clb {st : List Value} (h : CR c0 F0 t s nu p bd tl ft fp F) (o : pg_ops M pc = some (.invokevirtual idx, nx, 14, b, w)) (ha : ev_argI (pg_n 14) st = some (c0 + 4, [], r)) (k : ∀ F1, CR c0 F0 t s nu p [] tl ft fp F1 → Ex X M nx A r (hp c0 n z F1) Q) : Ex X M pc A st (hp c0 n z F) Q :=
  Hx.rowc h.rb o ha rfl rfl (rl_clear h.rb (by decide)) (fun v h1 ⟨e1, F1, e2, e3, e4⟩ => by rw [e1, e2]; exact k F1 (h.ub e3 e4))
theorem CR.clt {st : List Value} (h : CR c0 F0 t s nu p bd tl ft fp F) (o : pg_ops M pc = some (.invokevirtual idx, nx, 14, b, w)) (ha : ev_argI (pg_n 14) st = some (c0 + 6, [], r)) (k : ∀ F1, CR c0 F0 t s nu p bd [] ft fp F1 → Ex X M nx A r (hp c0 n z F1) Q) : Ex X M pc A st (hp c0 n z F) Q :=
  Hx.rowc h.rl o ha rfl rfl (rl_clear h.rl (by decide)) (fun v h1 ⟨e1, F1, e2, e3, e4⟩ => by rw [e1, e2]; exact k F1 (h.ul e3 e4))
/-- a call of a method of the reader -/
theorem CR.rd {as st A0 : List Value} {Q1 : Option Value → ev_H → Prop} (h : CR c0 F0 t s nu p bd tl ft fp F) (o : pg_ops M pc = some (.invokevirtual idx, nx, a, b, w)) (ha : ev_argI (pg_n a) st = some (c0 + 8, as, r)) (hc : pg_c a = 0) (he : ev_ent (pg_L a) (.ref (c0 + 8) :: as) = some A0) (k1 : Ex X a 0 A0 [] (hp c0 n z F) Q1) (k2 : ∀ v h1, Q1 v h1 → Ex X M nx A (v.toList ++ r) h1 Q) : Ex X M pc A st (hp c0 n z F) Q := Hx.callX 8 o ha h.r8 hc he k1 k2
end CRR
