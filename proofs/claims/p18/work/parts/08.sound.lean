section
/-! What the tables' classes are (decided); what a state must give (ev_K); a machine's heap holds the evaluator's (ev_HR). -/
def pg_cP (c : Nat) (q : vw_C) : Prop := (∀ w ∈ u_ws q.1 q.2.1 q.2.2, w ∈ pg_ws) ∧ (∀ k, k < q.2.2 → parseFieldDescriptor (q.2.1 k).2.2.1 = some (pg_t c k)) ∧ (∀ a, a < q.2.2 → ∀ b, b < q.2.2 → a ≠ b → (q.2.1 a).2.1 ≠ (q.2.1 b).2.1) ∧ Cond.instantiable q.1 q.2.2 ∈ pg_ws ∧ Cond.initialized q.1 ∈ pg_ws ∧ (∀ j, j < q.2.2 → defaultValue (pg_t c j) = vp_V (pg_D.getD c []) j) ∧ (pg_D.getD c []).length = q.2.2
set_option maxRecDepth 100000 in
theorem pg_c0 : pg_cP 0 ("TermTable$Reader", pg_T0, 3) := ⟨by decide +kernel, by decide +kernel, by decide +kernel, by decide +kernel, by decide +kernel, by decide +kernel, by decide +kernel⟩
set_option maxRecDepth 100000 in
theorem pg_c1 : pg_cP 1 ("TermTable$Row", pg_T1, 2) := ⟨by decide +kernel, by decide +kernel, by decide +kernel, by decide +kernel, by decide +kernel, by decide +kernel, by decide +kernel⟩
set_option maxRecDepth 100000 in
theorem pg_c2 : pg_cP 2 ("TermTable$Term", pg_T2, 5) := ⟨by decide +kernel, by decide +kernel, by decide +kernel, by decide +kernel, by decide +kernel, by decide +kernel, by decide +kernel⟩
set_option maxRecDepth 100000 in
theorem pg_c3 : pg_cP 3 ("TermTable$Terms", pg_T3, 3) := ⟨by decide +kernel, by decide +kernel, by decide +kernel, by decide +kernel, by decide +kernel, by decide +kernel, by decide +kernel⟩
set_option maxRecDepth 100000 in
theorem pg_c4 : pg_cP 4 ("TermTable$Writer", pg_T4, 2) := ⟨by decide +kernel, by decide +kernel, by decide +kernel, by decide +kernel, by decide +kernel, by decide +kernel, by decide +kernel⟩
set_option maxRecDepth 100000 in
theorem pg_c5 : pg_cP 5 ("TermTable", pg_T5, 5) := ⟨by decide +kernel, by decide +kernel, by decide +kernel, by decide +kernel, by decide +kernel, by decide +kernel, by decide +kernel⟩
set_option maxRecDepth 100000 in
theorem pg_c6 : pg_cP 6 ("TermTableModel", pg_T6, 24) := ⟨by decide +kernel, by decide +kernel, by decide +kernel, by decide +kernel, by decide +kernel, by decide +kernel, by decide +kernel⟩
theorem pg_cok (c : Nat) (q : vw_C) (h : pg_cl[c]? = some q) : pg_cP c q := by
  match c, h with
  | 0, h => exact (Option.some.inj h) ▸ pg_c0
  | 1, h => exact (Option.some.inj h) ▸ pg_c1
  | 2, h => exact (Option.some.inj h) ▸ pg_c2
  | 3, h => exact (Option.some.inj h) ▸ pg_c3
  | 4, h => exact (Option.some.inj h) ▸ pg_c4
  | 5, h => exact (Option.some.inj h) ▸ pg_c5
  | 6, h => exact (Option.some.inj h) ▸ pg_c6
  | n + 7, h => cases h
def ev_A (H0 : Heap) : Nat → Prop := fun q => H0.size ≤ q
def ev_K (D : va_G) (dA : Nat → ClassId) (X : ev_X) (H0 : Heap) (s : State) : Prop :=
  (∀ (c : Nat) (q : vw_C), pg_cl[c]? = some q → u_Kn s q.1 q.2.1 q.2.2 (D.1 c) (D.2 c)) ∧
  (∀ (t : Nat) (ty : FieldType), pg_ty[t]? = some ty → ArrOfT s (dA t) ty ∧ va_RA s (dA t) ty) ∧
  (∀ q ∈ pg_str, vk_R q.1 q.2.1 (pg_txt.getD q.2.2 "") (X.2.1 q.2.2) s) ∧
  (∀ o k : Nat, X.2.2.2.1 o = some k → va_O "java/lang/String" o (ev_A H0) s H0 ∧ va_OF "java/lang/String" "coder" "B" (.int 0) o (ev_A H0) s H0 ∧ va_OF "java/lang/String" "value" "[B" (.ref (X.2.2.1 k)) o (ev_A H0) s H0) ∧
  (∀ o k : Nat, X.2.2.2.2.1 o = some k → va_T .byte o (pg_byt.getD k []).length (fun j => .int ((pg_byt.getD k []).getD j 0)) (ev_A H0) s H0) ∧
  va_Z "java/lang/String" "COMPACT_STRINGS" "Z" (.int 1) (ev_A H0) s H0 ∧ va_Z "jdk/internal/util/Preconditions" "SIOOBE_FORMATTER" "Ljava/util/function/BiFunction;" X.2.2.2.2.2 (ev_A H0) s H0 ∧
  (va_X X.1.1 X.1.2.1 X.1.2.2 s H0 ∧ X.1.1 < H0.size) ∧
  (∀ w ∈ lw_tbl, pg_isN w = true → va_Nw w s) ∧ va_AO "TermTable$Term" s
theorem ev_K.warm {D : va_G} {dA : Nat → ClassId} {X : ev_X} {H0 : Heap} {s U : State} (hW : s.WarmedH U.vm) (h : ev_K D dA X H0 s) : ev_K D dA X H0 U := by
  have hvm := hW.alike
  obtain ⟨h1, h2, h3, h4, h5, h6, h6b, h7, h8, h9⟩ := h
  refine ⟨fun c q hq => u_Kn_moved hvm (h1 c q hq), fun t ty ht => ⟨arrOfT_moved hvm (h2 t ty ht).1, (h2 t ty ht).2.moved hvm⟩, fun q hq => vk_R.warm hW (h3 q hq), fun o k ho => ⟨va_O.moved hvm (h4 o k ho).1, va_OF.moved hvm (h4 o k ho).2.1, va_OF.moved hvm (h4 o k ho).2.2⟩, fun o k ho => va_T.moved hvm (h5 o k ho), va_Z.moved hvm h6, va_Z.moved hvm h6b, ⟨va_X.moved hvm h7.1, h7.2⟩, fun w hw hn => ?_, va_AO.moved hvm h9⟩
  have h := h8 w hw hn
  cases w <;> first | exact va_Nw.warmF hW h | exact va_Nw.warmM hW h | cases hn
def ev_c (dA : Nat → ClassId) : va_E → va_E
  | .inl a => .inl (dA a.1, a.2)
  | .inr o => .inr o
def ev_HR (D : va_G) (dA : Nat → ClassId) (H0 : Heap) (h : ev_H) (H : Heap) : Prop := H.size = h.1 ∧ H0.size ≤ h.1 ∧ (∀ q : Nat, q < H0.size → H[q]? = H0[q]?) ∧ ∀ (a : Nat) (e : va_E), h.2.2 a = some e → H0.size ≤ a ∧ va_at D pg_cl (a, ev_c dA e) H
theorem ev_HR.set {D : va_G} {dA : Nat → ClassId} {H0 H H1 : Heap} {h : ev_H} {a : Nat} {e0 e : va_E} (hH : ev_HR D dA H0 h H) (ha : h.2.2 a = some e0) (hat : va_at D pg_cl (a, ev_c dA e) H1) (z : H1.size = H.size) (oq : ∀ q : Nat, q ≠ a → H1[q]? = H[q]?) : ev_HR D dA H0 (ev_set h a e) H1 := by
  obtain ⟨g1, g2, g3, g4⟩ := hH
  have hlo := (g4 a e0 ha).1
  refine ⟨z.trans g1, g2, fun q hq => (oq q (by omega)).trans (g3 q hq), fun b f hb => ?_⟩
  by_cases hba : b = a
  · subst hba
    have hf : some e = some f := by simpa [ev_set, va_up] using hb
    cases hf
    exact ⟨hlo, hat⟩
  · have hb' : h.2.2 b = some f := by simpa [ev_set, va_up, hba] using hb
    exact ⟨(g4 b f hb').1, (g4 b f hb').2.kept (oq b hba)⟩
theorem ev_HR.push {D : va_G} {dA : Nat → ClassId} {H0 H H1 : Heap} {h : ev_H} {n : Nat} {e : va_E} (hH : ev_HR D dA H0 h H) (hat : va_at D pg_cl (h.1, ev_c dA e) H1) (z : H1.size = H.size + 1) (oq : ∀ q : Nat, q < H.size → H1[q]? = H[q]?) : ev_HR D dA H0 (ev_new h n e) H1 := by
  obtain ⟨g1, g2, g3, g4⟩ := hH
  refine ⟨by rw [z, g1]; rfl, Nat.le_succ_of_le g2, fun q hq => (oq q (by omega)).trans (g3 q hq), fun b f hb => ?_⟩
  by_cases hba : b = h.1
  · subst hba
    have hf : some e = some f := by simpa [ev_new, va_up] using hb
    cases hf
    exact ⟨g2, hat⟩
  · have hb' : h.2.2 b = some f := by simpa [ev_new, va_up, hba] using hb
    have hlt := (g4 b f hb').2.lt
    exact ⟨(g4 b f hb').1, (g4 b f hb').2.kept (oq b hlt)⟩
/-- what holds inside method M -/
def ev_Cx (D : va_G) (dA : Nat → ClassId) (X : ev_X) (H0 : Heap) (p : Program) (R : Room) (s : State) (m : MethodId) (args : Array Value) (meth : Method) (c : Code) (M : Nat) : Prop :=
  p.tables.exec = Jvm.exec ∧ c.code = pg_b M ∧ meth.sig.returnType = pg_r M ∧ c.maxLocals = pg_L M ∧ s.vm.findClass (pg_y M).cls = some m.cls ∧ (∀ w ∈ pg_ws, w.before args s = true) ∧ meth.locks = false ∧ ((pg_y M).name = "<init>" → meth.name = "<init>") ∧ ev_K D dA X H0 s ∧ pg_f M ≤ R.frames ∧ pg_w M ≤ R.locals
end
section
/-! The evaluator's heap steps over the machine. -/
section EV2
variable {p : Program} {l : Launch} {e : Env} {R : Room} {s : State} {m : MethodId} {args : Array Value} {below : List Frame} {meth : Method} {c : Code} {H : Heap} {locs : List Loc} {cells slots : Nat} {Q : State → Prop}
variable {D : va_G} {dA : Nat → ClassId} {X : ev_X} {H0 : Heap} {M pc a b w idx : Nat} {ls : Array Slot} {st st' : List Value} {h h' : ev_H}
/-- how a walk goes on behind a step from h to h' -/
def ev_KW (p : Program) (l : Launch) (e : Env) (R : Room) (s : State) (m : MethodId) (args : Array Value) (below : List Frame) (meth : Method) (c : Code) (Q : State → Prop) (D : va_G) (dA : Nat → ClassId) (H0 : Heap) (h h' : ev_H) (cells slots : Nat) (g : JFrame) : Prop :=
  ∀ (H' : Heap) (locs' : List Loc) (cells' slots' : Nat), ev_HR D dA H0 h' H' → (∀ q ∈ locs', H0.size ≤ q.base) → cells' + h.1 = cells + h'.1 → slots' + h.2.1 = slots + h'.2.1 → W p l e R s m args below meth c H' locs' cells' slots' Q g
theorem ev_kept (hH : ev_HR D dA H0 h H) : ∀ q : Nat, q < H0.size → ¬ ev_A H0 q → H[q]? = H0[q]? := fun q hq _ => hH.2.2.1 q hq
theorem ev_lc1 {o i : Nat} (hl : ∀ q ∈ locs, H0.size ≤ q.base) (hlo : H0.size ≤ o) : ∀ q ∈ locs ++ [(⟨o, i⟩ : Loc)], H0.size ≤ q.base := by
  intro q hq
  rcases List.mem_append.mp hq with hq | hq
  · exact hl q hq
  · rw [List.mem_singleton.mp hq]; exact hlo
theorem ev_K1 (hK : ev_K D dA X H0 s) : va_K D pg_cl [] s := ⟨hK.1, fun k q h => by simp at h⟩
theorem ev_K2 (hK : ev_K D dA X H0 s) {t : Nat} {ty : FieldType} (ht : pg_ty[t]? = some ty) : va_K D pg_cl [(dA t, ty)] s := ⟨hK.1, fun k q h => by
  cases k with
  | zero => cases h; exact hK.2.1 t ty ht
  | succ k => simp at h⟩
theorem ev_P1 {q : Nat × va_E} (h : va_at D pg_cl q H) : va_P D pg_cl [q] H := fun k x hx => by
  cases k with
  | zero => cases hx; exact h
  | succ k => simp at hx
theorem ev_get_ok (C : ev_Cx D dA X H0 p R s m args meth c M) (hd : decode (pg_b M) pc = .ok (.getfield idx, 3)) (hc : ev_chk2 M (.getfield idx) a b w = true) (hH : ev_HR D dA H0 h H) (hl : ∀ q ∈ locs, H0.size ≤ q.base) (hh : ev_get X a b st h = some (st', h'))
    (k : ev_KW p l e R s m args below meth c Q D dA H0 h h' cells slots (F0 m (pc + 3) ls st')) : W p l e R s m args below meth c H locs cells slots Q (F0 m pc ls st) := by
  obtain ⟨hx, hb, hr, hml, hown, hts, hlk, hin, hK, hf, hw⟩ := C
  unfold ev_get at hh
  split at hh
  · next o r =>
    split at hh
    · next ci fs ho =>
      split at hh
      · next hci =>
        subst hci
        split at hh
        · next v hv =>
          cases hh
          have hkk := k H locs cells slots hH hl rfl rfl
          have hat := (hH.2.2.2 o _ ho).2
          by_cases h90 : ci = 90
          · subst h90
            obtain ⟨r0, hr0, -⟩ := hat
            cases hr0
          simp only [ev_chk2, h90, if_false, ev_chkF] at hc
          split at hc
          · next q hq =>
            obtain ⟨h1, h2⟩ := Bool.and_eq_true_iff.mp hc
            have hbN : b < q.2.2 := of_decide_eq_true h1
            obtain ⟨c1, -⟩ := pg_cok _ _ hq
            rcases Bool.or_eq_true_iff.mp h2 with h3 | h3
            · exact va_get (D := D) (cl := pg_cl) (ci := ci) hx hb hts c1 hown (ev_K1 hK) (ev_P1 hat) 0 rfl hq b hbN (hts _ (pg_ws_of (of_decide_eq_true h3) rfl)) (fun _ h9 => h9) hv hd hkk
            · exact va_getN (D := D) (cl := pg_cl) (ci := ci) hx hb hts c1 hown (ev_K1 hK) (ev_P1 hat) 0 rfl hq b hbN (va_Nw.use rfl (hK.2.2.2.2.2.2.2.2.1 _ (List.mem_of_getElem? (of_decide_eq_true h3)) rfl)) (fun _ h9 => h9) hv hd hkk
          · cases hc
        · cases hh
      · cases hh
    · cases hh
    · next ho =>
      split at hh
      · next h90 =>
        subst h90
        split at hh
        · next k0 hk0 =>
          cases hh
          have hkk := k H locs cells slots hH hl rfl rfl
          obtain ⟨q1, q2, q3⟩ := hK.2.2.2.1 o k0 hk0
          simp only [ev_chk2, if_true] at hc
          have hlink := hts _ (pg_ws_of (of_decide_eq_true hc) rfl)
          by_cases hb0 : b = 0
          · simp only [hb0, if_true] at hlink hkk
            obtain ⟨cf, kf, fi, f, cell, g1, g2, g3, g4, g5, g6⟩ := q3.kept (ev_kept hH)
            exact W.getf hx hb hown hlink g1 g2 g3 g4 g5 rfl rfl hd hkk
          · simp only [hb0, if_false] at hlink hkk
            obtain ⟨cf, kf, fi, f, cell, g1, g2, g3, g4, g5, g6⟩ := q2.kept (ev_kept hH)
            exact W.getf hx hb hown hlink g1 g2 g3 g4 g5 rfl rfl hd hkk
        · cases hh
      · cases hh
  · cases hh
theorem ev_put_ok (C : ev_Cx D dA X H0 p R s m args meth c M) (hd : decode (pg_b M) pc = .ok (.putfield idx, 3)) (hc : ev_chk2 M (.putfield idx) a b w = true) (hH : ev_HR D dA H0 h H) (hl : ∀ q ∈ locs, H0.size ≤ q.base) (hh : ev_put a b st h = some (st', h'))
    (k : ev_KW p l e R s m args below meth c Q D dA H0 h h' cells slots (F0 m (pc + 3) ls st')) : W p l e R s m args below meth c H locs cells slots Q (F0 m pc ls st) := by
  obtain ⟨hx, hb, hr, hml, hown, hts, hlk, hin, hK, hf, hw⟩ := C
  unfold ev_put at hh
  split at hh
  · next v o r =>
    split at hh
    · next ci fs ho =>
      split at hh
      · next hci =>
        cases hh
        obtain ⟨rfl, hlt, hn, hfit⟩ := hci
        have hat := (hH.2.2.2 o _ ho).2
        have hlo := (hH.2.2.2 o _ ho).1
        simp only [ev_chk2] at hc
        obtain ⟨hcF, hcP⟩ := Bool.and_eq_true_iff.mp hc
        unfold ev_chkF at hcF
        split at hcF
        · next q hq =>
          obtain ⟨h1, h2⟩ := Bool.and_eq_true_iff.mp hcF
          have hbN : b < q.2.2 := of_decide_eq_true h1
          obtain ⟨c1, c2, c3, -⟩ := pg_cok _ _ hq
          have hap := va_apart (own := (pg_y M).cls) (D := D) (cl := pg_cl) hts c1 (pg_t ci) c2 c3 (ev_K1 hK) hq
          obtain ⟨r0, hr0, cell, q1, q2, q3, q4⟩ := hat
          have hr1 : r0 = q := Option.some.inj (hr0.symm.trans hq)
          subst hr1
          obtain ⟨hS, hfc, kC, hkC, hkind⟩ := hK.1 ci _ hq
          obtain ⟨cf, kf, fi, f, hi, hsl⟩ := hS b hbN
          have hst := (u_facts hfc hkC (u_lays hts c1 hbN) hi).1
          have hat1 : ∀ H1 : Heap, H1[o]? = some (cell.setSlot f.slot v) → va_at D pg_cl (o, ev_c dA (.inr (ci, fs.set b v))) H1 := fun H1 e1 => ⟨_, hq, t_OB.to (V := updV (vp_V fs) b v) ⟨_, e1, q2, q3, by rw [hsl]; exact t_set q4 hap hbN v⟩ (fun j _ => vp_updV_set hlt v j)⟩
          have kk : ∀ H1 : Heap, H1[o]? = some (cell.setSlot f.slot v) → H1.size = H.size → (∀ q, q ≠ o → H1[q]? = H[q]?) → W p l e R s m args below meth c H1 (locs ++ [⟨o, f.slot⟩]) cells slots Q (F0 m (pc + 3) ls st') := fun H1 e1 z oq =>
            k H1 _ cells slots (hH.set ho (hat1 H1 e1) z oq) (ev_lc1 hl hlo) rfl rfl
          have hcd := c2 b hbN
          by_cases hfin : (r0.2.1 b).2.2.2 = true
          · unfold ev_chkP at hcP
            rw [hq] at hcP
            simp only [hfin, Bool.not_true, Bool.false_or, Bool.and_eq_true, decide_eq_true_eq] at hcP
            obtain ⟨⟨hdecl, hini⟩, hwd⟩ := hcP
            have hlay := hts _ (c1 _ (u_in_lay hbN))
            unfold u_lay at hlay
            rw [if_pos hfin] at hlay
            have hcf : m.cls = cf := by
              obtain ⟨_, _, c', _, _, _, -, -, hf', -, -, -, hown2, -⟩ := Cond.laysFinal_spec hlay
              have e1 : c' = cf := by have := hi.symm.trans hf'; simp at this; exact this.1.symm
              rw [hdecl] at hown2
              rw [← e1]; exact Option.some.inj (hown.symm.trans hown2)
            have h6 := u_fits hfc hkC hkind (Or.inr hlay) hi hcd hn hfit
            exact W.putFinK hx hb hown (hts _ (pg_ws_of hwd rfl)) hi hst hcf (hin hini) (by rw [q2]; exact h6) q1 q3 (by rw [hsl]; exact k2_hasslot (q4 b hbN)) rfl rfl hd kk
          · have hlay := hts _ (c1 _ (u_in_lay hbN))
            unfold u_lay at hlay
            rw [if_neg hfin] at hlay
            have h6 := u_store hfc hkC hkind hlay hi hcd hn hfit
            rcases Bool.or_eq_true_iff.mp h2 with h3 | h3
            · exact W.putK hx hb (f := f) ⟨hown, hts _ (pg_ws_of (of_decide_eq_true h3) rfl), ⟨_, _, _, hi⟩, hst⟩ (by rw [q2]; exact h6) q1 q3 (by rw [hsl]; exact k2_hasslot (q4 b hbN)) rfl rfl hd kk
            · exact va_WputK hx hb hown (va_Nw.use rfl (hK.2.2.2.2.2.2.2.2.1 _ (List.mem_of_getElem? (of_decide_eq_true h3)) rfl)) hi hst (by rw [q2]; exact h6) q1 q3 (by rw [hsl]; exact k2_hasslot (q4 b hbN)) rfl rfl hd kk
        · cases hcF
      · cases hh
    · cases hh
  · cases hh
end EV2
end
section
/-! The evaluator's heap steps over the machine: arrays, new cells, the rest. -/
section EV3
variable {p : Program} {l : Launch} {e : Env} {R : Room} {s : State} {m : MethodId} {args : Array Value} {below : List Frame} {meth : Method} {c : Code} {H : Heap} {locs : List Loc} {cells slots : Nat} {Q : State → Prop}
variable {D : va_G} {dA : Nat → ClassId} {X : ev_X} {H0 : Heap} {M pc a b w idx : Nat} {ls : Array Slot} {st st' : List Value} {h h' : ev_H}
theorem ev_S (hH : ev_HR D dA H0 h H) (hl : ∀ q ∈ locs, H0.size ≤ q.base) : va_S (ev_A H0) H0 H locs := ⟨by rw [hH.1]; exact hH.2.1, ev_kept hH, hl⟩
theorem ev_iald_ok (C : ev_Cx D dA X H0 p R s m args meth c M) (hd : decode (pg_b M) pc = .ok (.iaload, 1)) (hH : ev_HR D dA H0 h H) (hl : ∀ q ∈ locs, H0.size ≤ q.base) (hh : ev_iald X st h = some (st', h'))
    (k : ev_KW p l e R s m args below meth c Q D dA H0 h h' cells slots (F0 m (pc + 1) ls st')) : W p l e R s m args below meth c H locs cells slots Q (F0 m pc ls st) := by
  obtain ⟨hx, hb, hr, hml, hown, hts, hlk, hin, hK, hf, hw⟩ := C
  unfold ev_iald at hh
  split at hh
  · next j o r =>
    split at hh
    · next t n f ho =>
      split at hh
      · next hc =>
        cases hh
        exact va_iald (D := D) (cl := pg_cl) hx hb (ev_K2 hK hc.1) (ev_P1 (hH.2.2.2 o _ ho).2) 0 0 rfl rfl hc.2 hd (k H locs cells slots hH hl rfl rfl)
      · cases hh
    · cases hh
    · next ho =>
      split at hh
      · next hc =>
        cases hh
        obtain ⟨rfl, hc⟩ := hc
        exact va_sld hx hb hK.2.2.2.2.2.2.2.1.1 hK.2.2.2.2.2.2.2.1.2 (Nat.not_le.mpr hK.2.2.2.2.2.2.2.1.2) (ev_S hH hl) hc hd (k H locs cells slots hH hl rfl rfl)
      · cases hh
  · cases hh
theorem ev_bald_ok (C : ev_Cx D dA X H0 p R s m args meth c M) (hd : decode (pg_b M) pc = .ok (.baload, 1)) (hH : ev_HR D dA H0 h H) (hl : ∀ q ∈ locs, H0.size ≤ q.base) (hh : ev_bald X st h = some (st', h'))
    (k : ev_KW p l e R s m args below meth c Q D dA H0 h h' cells slots (F0 m (pc + 1) ls st')) : W p l e R s m args below meth c H locs cells slots Q (F0 m pc ls st) := by
  obtain ⟨hx, hb, hr, hml, hown, hts, hlk, hin, hK, hf, hw⟩ := C
  unfold ev_bald at hh
  split at hh
  · next j o r =>
    split at hh
    · next t n f ho =>
      split at hh
      · next hc =>
        cases hh
        exact va_bald (D := D) (cl := pg_cl) hx hb (ev_K2 hK hc.1) (ev_P1 (hH.2.2.2 o _ ho).2) 0 0 rfl rfl hc.2 hd (k H locs cells slots hH hl rfl rfl)
      · cases hh
    · cases hh
    · next ho =>
      split at hh
      · next k0 hk0 =>
        split at hh
        · next hc =>
          cases hh
          obtain ⟨cell, h1, h2, h3, h4, h5, h6, h7⟩ := (hK.2.2.2.2.1 o k0 hk0).kept (ev_kept hH)
          have hlt : j.toNatClampNeg < (pg_byt.getD k0 []).length := Nat.not_le.mp fun q => hc (Or.inr q)
          refine W.bald hx hb h1 h2 h3 (fun q => q.elim (fun q => hc (Or.inl q)) (fun q => by omega)) (h6 _ hlt) rfl rfl hd (k H locs cells slots hH hl rfl rfl)
        · cases hh
      · cases hh
  · cases hh
theorem ev_aald_ok (C : ev_Cx D dA X H0 p R s m args meth c M) (hd : decode (pg_b M) pc = .ok (.aaload, 1)) (hH : ev_HR D dA H0 h H) (hl : ∀ q ∈ locs, H0.size ≤ q.base) (hh : ev_aald st h = some (st', h'))
    (k : ev_KW p l e R s m args below meth c Q D dA H0 h h' cells slots (F0 m (pc + 1) ls st')) : W p l e R s m args below meth c H locs cells slots Q (F0 m pc ls st) := by
  obtain ⟨hx, hb, hr, hml, hown, hts, hlk, hin, hK, hf, hw⟩ := C
  unfold ev_aald at hh
  split at hh
  · next j o r =>
    split at hh
    · next t n f ho =>
      split at hh
      · next cn ht =>
        split at hh
        · next hc =>
          cases hh
          exact va_aldq (D := D) (cl := pg_cl) hx hb (ev_K2 hK ht) (ev_P1 (hH.2.2.2 o _ ho).2) 0 0 rfl rfl hc hd (k H locs cells slots hH hl rfl rfl)
        · cases hh
      · cases hh
    · cases hh
  · cases hh
theorem ev_iast_ok (C : ev_Cx D dA X H0 p R s m args meth c M) (hd : decode (pg_b M) pc = .ok (.iastore, 1)) (hH : ev_HR D dA H0 h H) (hl : ∀ q ∈ locs, H0.size ≤ q.base) (hh : ev_iast st h = some (st', h'))
    (k : ev_KW p l e R s m args below meth c Q D dA H0 h h' cells slots (F0 m (pc + 1) ls st')) : W p l e R s m args below meth c H locs cells slots Q (F0 m pc ls st) := by
  obtain ⟨hx, hb, hr, hml, hown, hts, hlk, hin, hK, hf, hw⟩ := C
  unfold ev_iast at hh
  split at hh
  · next x j o r =>
    split at hh
    · next t n f ho =>
      split at hh
      · next hc =>
        cases hh
        have hat : H[o]? = some (vp_cell (dA t) (n, .inl f)) := (hH.2.2.2 o _ ho).2
        refine W.iast hx hb hat ((hK.2.1 t _ hc.1).1 n (fun j => .int (f j))) (fun q => by cases q) (by show ¬ (j < 0 ∨ (arrV _ _ _).slots.size ≤ _); rw [arrV_size]; exact hc.2) rfl rfl hd fun H1 e1 z oq => ?_
        refine k H1 _ cells slots (hH.set ho ?_ z oq) (ev_lc1 hl (hH.2.2.2 o _ ho).1) rfl rfl
        show H1[o]? = some (vp_cell _ _)
        rw [e1, vp_cell_i, vp_cell_i, arrV_store]
        congr 2
        funext q
        by_cases hq : q = j.toNatClampNeg
        · subst hq; simp [updV, upd]
        · simp [updV, upd, hq]
      · cases hh
    · cases hh
  · cases hh
theorem ev_bast_ok (C : ev_Cx D dA X H0 p R s m args meth c M) (hd : decode (pg_b M) pc = .ok (.bastore, 1)) (hH : ev_HR D dA H0 h H) (hl : ∀ q ∈ locs, H0.size ≤ q.base) (hh : ev_bast st h = some (st', h'))
    (k : ev_KW p l e R s m args below meth c Q D dA H0 h h' cells slots (F0 m (pc + 1) ls st')) : W p l e R s m args below meth c H locs cells slots Q (F0 m pc ls st) := by
  obtain ⟨hx, hb, hr, hml, hown, hts, hlk, hin, hK, hf, hw⟩ := C
  unfold ev_bast at hh
  split at hh
  · next x j o r =>
    split at hh
    · next t n f ho =>
      split at hh
      · next hc =>
        cases hh
        have hat : H[o]? = some (vp_cell (dA t) (n, .inl f)) := (hH.2.2.2 o _ ho).2
        refine W.bast hx hb hat ((hK.2.1 t _ hc.1).1 n (fun j => .int (f j))) (fun q => by cases q) (by show ¬ (j < 0 ∨ (arrV _ _ _).slots.size ≤ _); rw [arrV_size]; exact hc.2) rfl rfl hd fun H1 e1 z oq => ?_
        refine k H1 _ cells slots (hH.set ho ?_ z oq) (ev_lc1 hl (hH.2.2.2 o _ ho).1) rfl rfl
        show H1[o]? = some (vp_cell _ _)
        rw [e1, vp_cell_i, vp_cell_i, arrV_store]
        congr 2
        funext q
        by_cases hq : q = j.toNatClampNeg
        · subst hq
          simp [updV, upd, vp_nar]
          try rfl
        · simp [updV, upd, hq]
      · cases hh
    · cases hh
  · cases hh
theorem pg_el_ok {t ci : Nat} (h : pg_el[t]? = some ci) {D : va_G} {dA : Nat → ClassId} {q : Nat × List Value} {v : Nat} {H : Heap} (hat : va_at D pg_cl (v, .inr (ci, q.2)) H) : ∃ r, pg_cl[ci]? = some r ∧ pg_ty[t]? = some (.object r.1) := by
  obtain ⟨r, hr, -⟩ := hat
  refine ⟨r, hr, ?_⟩
  match t, h with
  | 0, h => cases h; cases hr
  | 1, h => cases h; cases hr
  | 2, h => cases h; cases hr; rfl
  | n + 3, h => cases h
theorem ev_aast_ok (C : ev_Cx D dA X H0 p R s m args meth c M) (hd : decode (pg_b M) pc = .ok (.aastore, 1)) (hH : ev_HR D dA H0 h H) (hl : ∀ q ∈ locs, H0.size ≤ q.base) (hh : ev_aast st h = some (st', h'))
    (k : ev_KW p l e R s m args below meth c Q D dA H0 h h' cells slots (F0 m (pc + 1) ls st')) : W p l e R s m args below meth c H locs cells slots Q (F0 m pc ls st) := by
  obtain ⟨hx, hb, hr, hml, hown, hts, hlk, hin, hK, hf, hw⟩ := C
  unfold ev_aast at hh
  split at hh
  · next v j o r =>
    split at hh
    · next t n f ho =>
      split at hh
      · next ci vs hv =>
        split at hh
        · next hc =>
          cases hh
          have hatv : va_at D pg_cl (v, .inr (ci, vs)) H := (hH.2.2.2 v _ hv).2
          obtain ⟨rr, hrr, hty⟩ := pg_el_ok hc.1 (dA := dA) (q := (0, vs)) hatv
          have hat : H[o]? = some (vp_cell (dA t) (n, .inr (.inr (.inr (.inr f))))) := (hH.2.2.2 o _ ho).2
          have hlt : j.toNatClampNeg < n := Nat.not_le.mp fun q => hc.2 (Or.inr q)
          have h0 : ¬ j < 0 := fun q => hc.2 (Or.inl q)
          obtain ⟨r', hr', cellV, g1, g2, g3, -⟩ := hatv
          have hcls := (hK.1 ci rr hrr).2
          obtain ⟨kA, comp, k1, k2, k3, -⟩ := (hK.2.1 t _ hty).2
          have hcomp : comp = D.1 ci := Option.some.inj (k3.symm.trans hcls.1)
          subst hcomp
          obtain ⟨kC, hkC, -⟩ := hcls.2
          refine W.aast hx hb hat (fun q h => by cases h) (fun h => by cases h) k1 k2 rfl hkC ⟨h0, by show _ < (arrV _ _ _).slots.size; rw [arrV_size]; exact hlt⟩ g1 (fun q h => by rw [g3] at h; cases h) (by rw [g2]; exact hkC) (by rw [g2]; exact va_assign hcls) rfl rfl hd fun H1 e1 z oq => ?_
          refine k H1 _ cells slots (hH.set ho ?_ z oq) (ev_lc1 hl (hH.2.2.2 o _ ho).1) rfl rfl
          show H1[o]? = some (vp_cell _ _)
          rw [e1, vp_cell_q, vp_cell_q, arrV_store]
          congr 2
          funext q
          by_cases hq : q = j.toNatClampNeg
          · subst hq; simp [updV, va_up, va_rf]
          · simp [updV, va_up, hq]
        · cases hh
      · cases hh
    · cases hh
  · cases hh
theorem ev_alen_ok (C : ev_Cx D dA X H0 p R s m args meth c M) (hd : decode (pg_b M) pc = .ok (.arraylength, 1)) (hH : ev_HR D dA H0 h H) (hl : ∀ q ∈ locs, H0.size ≤ q.base) (hh : ev_alen X st h = some (st', h'))
    (k : ev_KW p l e R s m args below meth c Q D dA H0 h h' cells slots (F0 m (pc + 1) ls st')) : W p l e R s m args below meth c H locs cells slots Q (F0 m pc ls st) := by
  obtain ⟨hx, hb, hr, hml, hown, hts, hlk, hin, hK, hf, hw⟩ := C
  unfold ev_alen at hh
  split at hh
  · next o r =>
    split at hh
    · next t n f ho =>
      split at hh
      · next hc =>
        cases hh
        have ht : pg_ty[t]? = some pg_ty[t] := List.getElem?_eq_getElem hc
        exact va_alen (D := D) (cl := pg_cl) hx hb (ev_K2 hK ht) (ev_P1 (hH.2.2.2 o _ ho).2) 0 0 rfl rfl rfl hd (k H locs cells slots hH hl rfl rfl)
      · cases hh
    · cases hh
    · next ho =>
      split at hh
      · next hc =>
        cases hh
        subst hc
        exact va_slen hx hb hK.2.2.2.2.2.2.2.1.1 hK.2.2.2.2.2.2.2.1.2 (Nat.not_le.mpr hK.2.2.2.2.2.2.2.1.2) (ev_S hH hl) hd (k H locs cells slots hH hl rfl rfl)
      · split at hh
        · next k0 hk0 =>
          cases hh
          obtain ⟨cell, h1, h2, h3, h4, h5, h6, h7⟩ := (hK.2.2.2.2.1 o k0 hk0).kept (ev_kept hH)
          exact W.alen hx hb h1 h2 h5 rfl rfl hd (k H locs cells slots hH hl rfl rfl)
        · cases hh
  · cases hh
theorem ev_newo_ok (C : ev_Cx D dA X H0 p R s m args meth c M) (hd : decode (pg_b M) pc = .ok (.new idx, 3)) (hc : ev_chk2 M (.new idx) a b w = true) (hH : ev_HR D dA H0 h H) (hl : ∀ q ∈ locs, H0.size ≤ q.base) (hh : ev_newo a st h = some (st', h'))
    (hcl : cells + h'.1 ≤ R.cells + h.1) (hsl : slots + h'.2.1 ≤ R.slots + h.2.1) (k : ev_KW p l e R s m args below meth c Q D dA H0 h h' cells slots (F0 m (pc + 3) ls st')) : W p l e R s m args below meth c H locs cells slots Q (F0 m pc ls st) := by
  obtain ⟨hx, hb, hr, hml, hown, hts, hlk, hin, hK, hf, hw⟩ := C
  unfold ev_newo at hh
  split at hh
  · next q hq =>
    cases hh
    simp only [ev_chk2, hq] at hc
    obtain ⟨c1, c2, c3, c4, c5, c6, -⟩ := pg_cok _ _ hq
    have hKn := hK.1 a _ hq
    simp only [ev_new] at hcl hsl
    refine W.newcK hx hb hown (hts _ (pg_ws_of (of_decide_eq_true hc) rfl)) (hts _ c4) (hts _ c5) rfl hd (by omega) (by omega) hKn.2.1 hH.1 fun H1 kC hkC e1 z1 o1 => ?_
    refine k H1 locs (cells + 1) (slots + q.2.2) (hH.push ⟨_, hq, (u_born (pg_t a) hts c1 hKn hkC e1 c2).to c6⟩ (by rw [z1, hH.1]) (fun x hx => o1 x (by rw [← hH.1]; exact hx))) hl ?_ ?_
    · simp only [ev_new]; omega
    · simp only [ev_new]; omega
  · cases hh
theorem ev_newa_ok {at' : ArrayType} (C : ev_Cx D dA X H0 p R s m args meth c M) (hd : decode (pg_b M) pc = .ok (.newarray at', 2)) (harr : (Cond.arrayClass (Op.newarray.typeOf at')).before args s = true) (hH : ev_HR D dA H0 h H) (hl : ∀ q ∈ locs, H0.size ≤ q.base) (hh : ev_newa a at' st h = some (st', h'))
    (hcl : cells + h'.1 ≤ R.cells + h.1) (hsl : slots + h'.2.1 ≤ R.slots + h.2.1) (k : ev_KW p l e R s m args below meth c Q D dA H0 h h' cells slots (F0 m (pc + 2) ls st')) : W p l e R s m args below meth c H locs cells slots Q (F0 m pc ls st) := by
  obtain ⟨hx, hb, hr, hml, hown, hts, hlk, hin, hK, hf, hw⟩ := C
  unfold ev_newa at hh
  split at hh
  · next n r =>
    split at hh
    · next hc =>
      cases hh
      obtain ⟨h1, h2, h3, h4⟩ := hc
      simp only [ev_new] at hcl hsl
      refine va_newaK hx hb harr rfl hd rfl h3 rfl h4 (by omega) (by omega) hH.1 fun H1 cA e1 z1 o1 hAr hNm => ?_
      have hcA : cA = dA a := by
        have hra := (hK.2.1 a _ h1).2
        rcases h2 with h2 | h2 <;> rw [h2] at hra hNm <;> exact Option.some.inj (hNm.symm.trans hra)
      refine k H1 locs (cells + 1) (slots + n.toNatClampNeg) (hH.push ?_ (by rw [z1, hH.1]) (fun x hx => o1 x (by rw [← hH.1]; exact hx))) hl ?_ ?_
      · show H1[h.1]? = some (vp_cell (dA a) (n.toNatClampNeg, .inl fun _ => 0))
        rw [e1, hcA, vp_cell_i]
        rcases h2 with h2 | h2 <;> rw [h2] <;> rfl
      · simp only [ev_new]; omega
      · simp only [ev_new]; omega
    · cases hh
  · cases hh
theorem ev_anew_ok (C : ev_Cx D dA X H0 p R s m args meth c M) (hd : decode (pg_b M) pc = .ok (.anewarray idx, 3)) (hc : ev_chk2 M (.anewarray idx) a b w = true) (hH : ev_HR D dA H0 h H) (hl : ∀ q ∈ locs, H0.size ≤ q.base) (hh : ev_anew a st h = some (st', h'))
    (hcl : cells + h'.1 ≤ R.cells + h.1) (hsl : slots + h'.2.1 ≤ R.slots + h.2.1) (k : ev_KW p l e R s m args below meth c Q D dA H0 h h' cells slots (F0 m (pc + 3) ls st')) : W p l e R s m args below meth c H locs cells slots Q (F0 m pc ls st) := by
  obtain ⟨hx, hb, hr, hml, hown, hts, hlk, hin, hK, hf, hw⟩ := C
  unfold ev_anew at hh
  split at hh
  · next n r =>
    simp only [ev_chk2, Bool.and_eq_true, decide_eq_true_eq] at hc
    split at hh
    · next cn hcn =>
      split at hh
      · next hn =>
        cases hh
        simp only [ev_new] at hcl hsl
        have hra := (hK.2.1 a _ hc.2).2
        refine W.anew hx hb hown (hts _ (pg_ws_of hc.1 rfl)) (va_AO.use hK.2.2.2.2.2.2.2.2.2) rfl hd rfl hn.1 hn.2 (by omega) (by omega) fun cA kA comp f1 f2 f3 f4 => ?_
        have hcA : cA = dA a := by
          obtain ⟨_, _, _, _, _, g5⟩ := hra
          exact Option.some.inj (f1.symm.trans g5)
        rw [hH.1]
        refine k _ locs (cells + 1) (slots + n.toNatClampNeg) (hH.push ?_ (by rw [Array.size_push]) (fun x hx => by rw [Array.getElem?_push, if_neg (Nat.ne_of_lt hx)])) hl ?_ ?_
        · show (H.push _)[h.1]? = some (vp_cell (dA a) (n.toNatClampNeg, .inr (.inr (.inr (.inr fun _ => none)))))
          rw [← hH.1, Array.getElem?_push_size, hcA, vp_cell_q, ← arrV_new]
          rfl
        · simp only [ev_new]; omega
        · simp only [ev_new]; omega
      · cases hh
    · cases hh
  · cases hh
end EV3
end
section
/-! One step; entry; monotone heaps. -/
section EV4
variable {p : Program} {l : Launch} {e : Env} {R : Room} {s : State} {m : MethodId} {args : Array Value} {below : List Frame} {meth : Method} {c : Code} {H : Heap} {locs : List Loc} {cells slots : Nat} {Q : State → Prop}
variable {D : va_G} {dA : Nat → ClassId} {X : ev_X} {H0 : Heap} {M pc pc' nx a b w : Nat} {ls : Array Slot} {A A' st st' : List Value} {h h' : ev_H} {i : Instr}
theorem pg_arr0 : Cond.arrayClass .byte ∈ pg_ws := by decide +kernel
theorem pg_arr1 : Cond.arrayClass .int ∈ pg_ws := by decide +kernel
theorem pg_oi1 : Cond.instanceMethod Lib.objectInit ∈ pg_ws := by decide +kernel
theorem pg_oi2 : Cond.code Lib.objectInit ⟨#[0xb1]⟩ 1 none ∈ pg_ws := by decide +kernel
theorem pg_maxy : pg_y pg_max = Lib.Math.max.name := by decide +kernel
theorem pg_miny : pg_y pg_min = Lib.Math.min.name := by decide +kernel
theorem pg_absy : pg_y pg_abs = Lib.MathLoose.abs_long.x := by decide +kernel
theorem pg_inmax : (pg_max ∈ pg_sp) = True := eq_true (by decide +kernel)
theorem pg_inmin : (pg_min ∈ pg_sp) = True := eq_true (by decide +kernel)
theorem pg_inabs : (pg_abs ∈ pg_sp) = True := eq_true (by decide +kernel)
theorem pg_math0 : Cond.initialized "java/lang/Math" ∈ pg_ws := by decide +kernel
theorem pg_max1 : Cond.static Lib.Math.max.name ∈ pg_ws := by decide +kernel
theorem pg_min1 : Cond.static Lib.Math.min.name ∈ pg_ws := by decide +kernel
theorem pg_abs1 : Cond.static Lib.MathLoose.abs_long.x ∈ pg_ws := by decide +kernel
theorem pg_max2 : Cond.code Lib.Math.max.name Lib.Math.max.code 2 (some .int) ∈ pg_ws := pg_ws_of pg_w3 rfl
theorem pg_min2 : Cond.code Lib.Math.min.name Lib.Math.min.code 2 (some .int) ∈ pg_ws := pg_ws_of pg_w56 rfl
theorem pg_abs2 : Cond.code Lib.MathLoose.abs_long.x Lib.MathLoose.abs_long.code 2 (some .long) ∈ pg_ws := pg_ws_of pg_w79 rfl
theorem pg_oiy : pg_y pg_obj = Lib.objectInit := by decide +kernel
set_option maxHeartbeats 4000000 in
theorem ev_hp_ok (C : ev_Cx D dA X H0 p R s m args meth c M) (hd : decode (pg_b M) pc = .ok (i, ev_len i)) (hc : ev_chk2 M i a b w = true) (hH : ev_HR D dA H0 h H) (hl : ∀ q ∈ locs, H0.size ≤ q.base) (hL : ev_L ls (pg_L M) A) (hh : ev_hp X i a b st h = some (st', h'))
    (hcl : cells + h'.1 ≤ R.cells + h.1) (hsl : slots + h'.2.1 ≤ R.slots + h.2.1) (k : ev_KW p l e R s m args below meth c Q D dA H0 h h' cells slots (F0 m (pc + ev_len i) ls st')) : W p l e R s m args below meth c H locs cells slots Q (F0 m pc ls st) := by
  cases i
  case getfield idx => exact ev_get_ok C hd hc hH hl hh k
  case putfield idx => exact ev_put_ok C hd hc hH hl hh k
  case iaload => exact ev_iald_ok C hd hH hl hh k
  case baload => exact ev_bald_ok C hd hH hl hh k
  case aaload => exact ev_aald_ok C hd hH hl hh k
  case iastore => exact ev_iast_ok C hd hH hl hh k
  case bastore => exact ev_bast_ok C hd hH hl hh k
  case aastore => exact ev_aast_ok C hd hH hl hh k
  case arraylength => exact ev_alen_ok C hd hH hl hh k
  case new idx => exact ev_newo_ok C hd hc hH hl hh hcl hsl k
  case anewarray idx => exact ev_anew_ok C hd hc hH hl hh hcl hsl k
  case newarray t =>
    have hta : (Op.newarray.typeOf t = .int ∨ Op.newarray.typeOf t = .byte) := by
      dsimp only [ev_hp, ev_newa] at hh
      split at hh
      · split at hh
        · next hq => exact hq.2.1
        · cases hh
      · cases hh
    exact ev_newa_ok C hd (by rcases hta with q | q <;> rw [q]; exact C.2.2.2.2.2.1 _ pg_arr1; exact C.2.2.2.2.2.1 _ pg_arr0) hH hl hh hcl hsl k
  case getstatic idx =>
    obtain ⟨hx, hb, hr, hml, hown, hts, hlk, hin, hK, hf, hw⟩ := C
    cases hh
    have hkk := k H locs cells slots hH hl rfl rfl
    simp only [ev_chk2] at hc
    by_cases ha : a = 0
    · simp only [ha, if_true] at hc hkk
      obtain ⟨cf, kf, fi, f, ad, cell, h1, h2, h3, h4, h5, h6, h7, h8⟩ := hK.2.2.2.2.2.1.kept (ev_kept hH)
      exact W.gets hx hb hown (hts _ (pg_ws_of (of_decide_eq_true hc) rfl)) h1 h2 h3 h4 h5 (fun e => by rw [e] at h6; cases h6) h7 rfl hd hkk
    · simp only [ha, if_false] at hc hkk
      obtain ⟨cf, kf, fi, f, ad, cell, h1, h2, h3, h4, h5, h6, h7, h8⟩ := hK.2.2.2.2.2.2.1.kept (ev_kept hH)
      exact W.gets hx hb hown (hts _ (pg_ws_of (of_decide_eq_true hc) rfl)) h1 h2 h3 h4 h5 (fun e => by rw [e] at h6; cases h6) h7 rfl hd hkk
  case ldc idx =>
    obtain ⟨hx, hb, hr, hml, hown, hts, hlk, hin, hK, hf, hw⟩ := C
    dsimp only [ev_hp] at hh
    split at hh
    · next hb1 =>
      cases hh
      simp only [ev_chk2, hb1, if_true, decide_eq_true_eq] at hc
      exact va_ldcS hx hb hown (hK.2.2.1 _ hc) hd (k H locs cells slots hH hl rfl rfl)
    · cases hh
  case invokespecial idx =>
    obtain ⟨hx, hb, hr, hml, hown, hts, hlk, hin, hK, hf, hw⟩ := C
    dsimp only [ev_hp, ev_oini] at hh
    split at hh
    · next o r =>
      split at hh
      · next ha =>
        cases hh
        simp only [ev_chk2, ha.1, if_true, Bool.and_eq_true, decide_eq_true_eq] at hc
        have hlk2 := of_decide_eq_true hc.2
        rw [pg_oiy] at hlk2
        refine W.objInit hx hb hown (hts _ (pg_ws_of hlk2 rfl)) (hts _ pg_oi1) (hts _ pg_oi2) rfl (by rw [hml]; exact hL.2.1) rfl hd (by omega) ?_ (k H locs cells slots hH hl rfl rfl)
        have h8 : 2 * (F0 m pc ls (.ref o :: st')).monitorRoom + (st'.map fun v => v.category).sum ≤ 8 := lv_room ha.2
        omega
      · cases hh
    · cases hh
  case invokestatic idx =>
    obtain ⟨hx, hb, hr, hml, hown, hts, hlk, hin, hK, hf, hw⟩ := C
    dsimp only [ev_hp, ev_math] at hh
    split at hh
    · next y x r =>
      split at hh
      · next hsum =>
        split at hh
        · next ha =>
          cases hh
          subst ha
          simp only [ev_chk2, pg_inmax, if_true, Bool.and_eq_true, decide_eq_true_eq] at hc
          have hlk2 := of_decide_eq_true hc.1.2
          rw [pg_maxy] at hlk2
          exact va_mmax hx hb (by rw [hml]; exact hL.2.1.symm) hown (hts _ (pg_ws_of hlk2 rfl)) (hts _ pg_max1) (hts _ pg_math0) (hts _ pg_max2) (by omega) (by omega) (by omega) (by omega) hd (k H locs cells slots hH hl rfl rfl)
        · split at hh
          · next ha =>
            cases hh
            subst ha
            simp only [ev_chk2, pg_inmin, if_true, Bool.and_eq_true, decide_eq_true_eq] at hc
            have hlk2 := of_decide_eq_true hc.1.2
            rw [pg_miny] at hlk2
            exact va_mmin hx hb (by rw [hml]; exact hL.2.1.symm) hown (hts _ (pg_ws_of hlk2 rfl)) (hts _ pg_min1) (hts _ pg_math0) (hts _ pg_min2) (by omega) (by omega) (by omega) (by omega) hd (k H locs cells slots hH hl rfl rfl)
          · cases hh
      · cases hh
    · next x r =>
      split at hh
      · next hsum =>
        split at hh
        · next ha =>
          cases hh
          subst ha
          simp only [ev_chk2, pg_inabs, if_true, Bool.and_eq_true, decide_eq_true_eq] at hc
          have hlk2 := of_decide_eq_true hc.1.2
          rw [pg_absy] at hlk2
          exact va_mabs_long hx hb (by rw [hml]; exact hL.2.1.symm) hown (hts _ (pg_ws_of hlk2 rfl)) (hts _ pg_abs1) (hts _ pg_math0) (hts _ pg_abs2) (by omega) (by omega) (by omega) (by omega) hd (k H locs cells slots hH hl rfl rfl)
        · cases hh
      · cases hh
    · cases hh
  all_goals cases hh
set_option maxHeartbeats 4000000 in
theorem ev_one_ok (C : ev_Cx D dA X H0 p R s m args meth c M) (hc : ev_chk M (pc, i, nx, a, b, w) = true) (hH : ev_HR D dA H0 h H) (hl : ∀ q ∈ locs, H0.size ≤ q.base) (hL : ev_L ls (pg_L M) A) (hh : ev_one X i pc nx a b A st h = some (pc', A', st', h'))
    (hcl : cells + h'.1 ≤ R.cells + h.1) (hsl : slots + h'.2.1 ≤ R.slots + h.2.1) (k : ∀ ls' : Array Slot, ev_L ls' (pg_L M) A' → ev_KW p l e R s m args below meth c Q D dA H0 h h' cells slots (F0 m pc' ls' st')) : W p l e R s m args below meth c H locs cells slots Q (F0 m pc ls st) := by
  unfold ev_chk at hc
  simp only [Bool.and_eq_true, Bool.or_eq_true, decide_eq_true_eq] at hc
  obtain ⟨⟨⟨hd0, hle⟩, hsw⟩, hc2⟩ := hc
  have hd : ∀ z : Nat, nx = pc + z → decode (pg_b M) pc = .ok (i, z) := fun z hz => by rw [hd0, hz, Nat.add_sub_cancel_left]
  unfold ev_one at hh
  split at hh
  · next st1 h1 =>
    have hns : nx = pc + ev_len i := hsw.resolve_left (fun q => by cases i <;> first | (cases q; done) | cases h1)
    cases hh
    have hkk := k ls hL H locs cells slots hH hl rfl rfl
    rw [hns] at hkk
    refine ev_st_ok C.1 C.2.1 C.2.2.2.2.1 (hd _ hns) (fun kk v hi hv => ?_) (fun kk v hi hv => ?_) h1 hkk
    · subst hi
      by_cases hb1 : b = 0
      · simp only [hb1, if_true] at hv
        simp only [ev_chk2, hb1, hv] at hc2
        simp at hc2
        exact C.2.2.2.2.2.1 _ (pg_ws_of hc2 rfl)
      · simp only [hb1, if_false] at hv
        cases hv
    · subst hi
      by_cases hb1 : b = 0
      · simp only [hb1, if_true] at hv
        simp only [ev_chk2, hb1, hv] at hc2
        simp at hc2
        exact C.2.2.2.2.2.1 _ (pg_ws_of hc2 rfl)
      · simp only [hb1, if_false] at hv
        cases hv
  · split at hh
    · next A1 st1 h1 =>
      have hns : nx = pc + ev_len i := hsw.resolve_left (fun q => by cases i <;> first | (cases q; done) | cases h1)
      cases hh
      refine ev_lc_ok C.1 C.2.1 (hd _ hns) hL h1 (fun ls' hL' => ?_)
      have hkk := k ls' hL' H locs cells slots hH hl rfl rfl
      rw [hns] at hkk
      exact hkk
    · split at hh
      · next pc1 st1 h1 =>
        cases hh
        have hkk := k ls hL H locs cells slots hH hl rfl rfl
        refine ev_br_ok (len := nx - pc) C.1 C.2.1 hd0 (hsw.imp id (fun q => by omega)) ?_ hkk
        rw [Nat.add_sub_cancel' hle]
        exact h1
      · split at hh
        · next st1 h1 hp1 =>
          have hns : nx = pc + ev_len i := hsw.resolve_left (fun q => by cases i <;> first | (cases q; done) | cases hp1)
          cases hh
          refine ev_hp_ok C (hd _ hns) hc2 hH hl hL hp1 hcl hsl ?_
          rw [← hns]
          exact k ls hL
        · cases hh
end EV4
theorem ev_fl_len (as : List Value) : (ev_fl as).length = (lg_sl as).length := by
  induction as with
  | nil => rfl
  | cons v t ih =>
    by_cases hv : v.category = 2
    · simp [ev_fl, lg_sl, hv] at ih ⊢
      simpa [lg_sl] using ih
    · simp [ev_fl, lg_sl, hv] at ih ⊢
      simpa [lg_sl] using ih
theorem ev_fl_at (as : List Value) : ∀ (k j : Nat) (v : Value), (ev_fl as)[j]? = some v → v ≠ ev_dead → (k + j, v) ∈ lv_args k as := by
  induction as with
  | nil => intro k j v h; simp [ev_fl] at h
  | cons u t ih =>
    intro k j v h hd
    by_cases hu : u.category = 2
    · simp only [ev_fl, hu, if_true] at h
      simp only [lv_args, hu, if_true]
      match j, h with
      | 0, h => cases h; exact List.mem_cons_self
      | 1, h => cases h; exact absurd rfl hd
      | j + 2, h =>
        have := ih (k + 2) j v (by simpa using h) hd
        rw [show k + (j + 2) = k + 2 + j by omega]
        exact List.mem_cons_of_mem _ this
    · simp only [ev_fl, hu, if_false] at h
      simp only [lv_args, hu, if_false]
      match j, h with
      | 0, h => cases h; exact List.mem_cons_self
      | j + 1, h =>
        have := ih (k + 1) j v (by simpa using h) hd
        rw [show k + (j + 1) = k + 1 + j by omega]
        exact List.mem_cons_of_mem _ this
theorem ev_entry {L : Nat} {as A0 : List Value} (h : ev_ent L as = some A0) : ev_L ((lg_sl as ++ List.replicate (L - (lg_sl as).length) Slot.unset).toArray) L A0 := by
  unfold ev_ent at h
  split at h
  · next hle =>
    cases h
    rw [ev_fl_len] at hle
    obtain ⟨e1, e2, e3⟩ := lv_entry as hle
    refine ⟨by rw [List.length_append, List.length_replicate, ev_fl_len]; omega, e1, e2, fun q hq => ?_⟩
    obtain ⟨h1, h2⟩ := ev_prs_mem.mp hq
    by_cases hlt : q.1 < (ev_fl as).length
    · rw [List.getElem?_append_left hlt] at h1
      have := ev_fl_at as 0 q.1 q.2 h1 h2
      rw [Nat.zero_add] at this
      exact e3 q this
    · rw [List.getElem?_append_right (by omega)] at h1
      exact absurd (List.eq_of_mem_replicate (List.mem_of_getElem? h1)) h2
  · cases h
end
section
/-! The soundness of the evaluator: what ev_run answers, the machine does. -/
def ev_mchk (a : Nat) : Bool := decide (lw_tbl[(pg_p a).getD 1 0]? = some (.initialized (pg_y a).cls)) && (if pg_s a then decide (lw_tbl[(pg_p a).getD 2 0]? = some (.static (pg_y a))) else decide (lw_tbl[(pg_p a).getD 2 0]? = some (.instanceMethod (pg_y a)))) && decide ((pg_y a).cls ≠ "java/lang/invoke/MethodHandle") && decide ((pg_y a).cls ≠ "java/lang/invoke/VarHandle") && decide ((parseMethodDescriptor (pg_y a).desc).map (fun d => d.parameters.length) = some (pg_n a)) && plainName (pg_y a).cls && (pg_s a || decide ((pg_y a).name = "<init>") || (decide (lw_tbl[(pg_p a).getD 3 0]? = some (.selects (pg_y a).cls (pg_y a) (pg_y a))) && (if pg_c a = 90 then decide ((pg_y a).cls = "java/lang/String") else decide ((pg_cl[pg_c a]?).map (fun q => q.1) = some (pg_y a).cls))))
set_option maxRecDepth 100000 in
theorem pg_mall : (List.range 157).all (fun a => decide (a ∈ pg_sp) || ev_mchk a) = true := by decide +kernel
theorem pg_mok {a : Nat} (h1 : a < 157) (h2 : a ∉ pg_sp) : ev_mchk a = true := by
  have h := List.all_eq_true.mp pg_mall a (List.mem_range.mpr h1)
  simp only [Bool.or_eq_true, decide_eq_true_eq] at h
  exact h.resolve_left h2
theorem ev_fc {α : Type} {P : Nat → α → Prop} {k : Nat} {x : α} {l : List α} (h : P k x) (t : ∀ (j : Nat) (y : α), l[j]? = some y → P (k + 1 + j) y) : ∀ (j : Nat) (y : α), (x :: l)[j]? = some y → P (k + j) y := by
  intro j y hj
  cases j with
  | zero => cases hj; exact h
  | succ j =>
    have := t j y (by simpa using hj)
    rw [show k + (j + 1) = k + 1 + j by omega]
    exact this
def ev_kP (k : Nat) (y : List (Nat × ev_R)) : Prop := y.all (ev_chk k) = true
set_option maxRecDepth 100000 in
set_option maxHeartbeats 4000000 in
theorem pg_kall : ∀ (j : Nat) (y : List (Nat × ev_R)), pg_O[j]? = some y → ev_kP (0 + j) y := ev_fc (P := ev_kP) pg_k0 (ev_fc (P := ev_kP) pg_k1 (ev_fc (P := ev_kP) pg_k2 (ev_fc (P := ev_kP) pg_k3 (ev_fc (P := ev_kP) pg_k4 (ev_fc (P := ev_kP) pg_k5 (ev_fc (P := ev_kP) pg_k6 (ev_fc (P := ev_kP) pg_k7 (ev_fc (P := ev_kP) pg_k8 (ev_fc (P := ev_kP) pg_k9 (ev_fc (P := ev_kP) pg_k10 (ev_fc (P := ev_kP) pg_k11 (ev_fc (P := ev_kP) pg_k12 (ev_fc (P := ev_kP) pg_k13 (ev_fc (P := ev_kP) pg_k14 (ev_fc (P := ev_kP) pg_k15 (ev_fc (P := ev_kP) pg_k16 (ev_fc (P := ev_kP) pg_k17 (ev_fc (P := ev_kP) pg_k18 (ev_fc (P := ev_kP) pg_k19 (ev_fc (P := ev_kP) pg_k20 (ev_fc (P := ev_kP) pg_k21 (ev_fc (P := ev_kP) pg_k22 (ev_fc (P := ev_kP) pg_k23 (ev_fc (P := ev_kP) pg_k24 (ev_fc (P := ev_kP) pg_k25 (ev_fc (P := ev_kP) pg_k26 (ev_fc (P := ev_kP) pg_k27 (ev_fc (P := ev_kP) pg_k28 (ev_fc (P := ev_kP) pg_k29 (ev_fc (P := ev_kP) pg_k30 (ev_fc (P := ev_kP) pg_k31 (ev_fc (P := ev_kP) pg_k32 (ev_fc (P := ev_kP) pg_k33 (ev_fc (P := ev_kP) pg_k34 (ev_fc (P := ev_kP) pg_k35 (ev_fc (P := ev_kP) pg_k36 (ev_fc (P := ev_kP) pg_k37 (ev_fc (P := ev_kP) pg_k38 (ev_fc (P := ev_kP) pg_k39 (ev_fc (P := ev_kP) pg_k40 (ev_fc (P := ev_kP) pg_k41 (ev_fc (P := ev_kP) pg_k42 (ev_fc (P := ev_kP) pg_k43 (ev_fc (P := ev_kP) pg_k44 (ev_fc (P := ev_kP) pg_k45 (ev_fc (P := ev_kP) pg_k46 (ev_fc (P := ev_kP) pg_k47 (ev_fc (P := ev_kP) pg_k48 (ev_fc (P := ev_kP) pg_k49 (ev_fc (P := ev_kP) pg_k50 (ev_fc (P := ev_kP) pg_k51 (ev_fc (P := ev_kP) pg_k52 (ev_fc (P := ev_kP) pg_k53 (ev_fc (P := ev_kP) pg_k54 (ev_fc (P := ev_kP) pg_k55 (ev_fc (P := ev_kP) pg_k56 (ev_fc (P := ev_kP) pg_k57 (ev_fc (P := ev_kP) pg_k58 (ev_fc (P := ev_kP) pg_k59 (ev_fc (P := ev_kP) pg_k60 (ev_fc (P := ev_kP) pg_k61 (ev_fc (P := ev_kP) pg_k62 (ev_fc (P := ev_kP) pg_k63 (ev_fc (P := ev_kP) pg_k64 (ev_fc (P := ev_kP) pg_k65 (ev_fc (P := ev_kP) pg_k66 (ev_fc (P := ev_kP) pg_k67 (ev_fc (P := ev_kP) pg_k68 (ev_fc (P := ev_kP) pg_k69 (ev_fc (P := ev_kP) pg_k70 (ev_fc (P := ev_kP) pg_k71 (ev_fc (P := ev_kP) pg_k72 (ev_fc (P := ev_kP) pg_k73 (ev_fc (P := ev_kP) pg_k74 (ev_fc (P := ev_kP) pg_k75 (ev_fc (P := ev_kP) pg_k76 (ev_fc (P := ev_kP) pg_k77 (ev_fc (P := ev_kP) pg_k78 (ev_fc (P := ev_kP) pg_k79 (ev_fc (P := ev_kP) pg_k80 (ev_fc (P := ev_kP) pg_k81 (ev_fc (P := ev_kP) pg_k82 (ev_fc (P := ev_kP) pg_k83 (ev_fc (P := ev_kP) pg_k84 (ev_fc (P := ev_kP) pg_k85 (ev_fc (P := ev_kP) pg_k86 (ev_fc (P := ev_kP) pg_k87 (ev_fc (P := ev_kP) pg_k88 (ev_fc (P := ev_kP) pg_k89 (ev_fc (P := ev_kP) pg_k90 (ev_fc (P := ev_kP) pg_k91 (ev_fc (P := ev_kP) pg_k92 (ev_fc (P := ev_kP) pg_k93 (ev_fc (P := ev_kP) pg_k94 (ev_fc (P := ev_kP) pg_k95 (ev_fc (P := ev_kP) pg_k96 (ev_fc (P := ev_kP) pg_k97 (ev_fc (P := ev_kP) pg_k98 (ev_fc (P := ev_kP) pg_k99 (ev_fc (P := ev_kP) pg_k100 (ev_fc (P := ev_kP) pg_k101 (ev_fc (P := ev_kP) pg_k102 (ev_fc (P := ev_kP) pg_k103 (ev_fc (P := ev_kP) pg_k104 (ev_fc (P := ev_kP) pg_k105 (ev_fc (P := ev_kP) pg_k106 (ev_fc (P := ev_kP) pg_k107 (ev_fc (P := ev_kP) pg_k108 (ev_fc (P := ev_kP) pg_k109 (ev_fc (P := ev_kP) pg_k110 (ev_fc (P := ev_kP) pg_k111 (ev_fc (P := ev_kP) pg_k112 (ev_fc (P := ev_kP) pg_k113 (ev_fc (P := ev_kP) pg_k114 (ev_fc (P := ev_kP) pg_k115 (ev_fc (P := ev_kP) pg_k116 (ev_fc (P := ev_kP) pg_k117 (ev_fc (P := ev_kP) pg_k118 (ev_fc (P := ev_kP) pg_k119 (ev_fc (P := ev_kP) pg_k120 (ev_fc (P := ev_kP) pg_k121 (ev_fc (P := ev_kP) pg_k122 (ev_fc (P := ev_kP) pg_k123 (ev_fc (P := ev_kP) pg_k124 (ev_fc (P := ev_kP) pg_k125 (ev_fc (P := ev_kP) pg_k126 (ev_fc (P := ev_kP) pg_k127 (ev_fc (P := ev_kP) pg_k128 (ev_fc (P := ev_kP) pg_k129 (ev_fc (P := ev_kP) pg_k130 (ev_fc (P := ev_kP) pg_k131 (ev_fc (P := ev_kP) pg_k132 (ev_fc (P := ev_kP) pg_k133 (ev_fc (P := ev_kP) pg_k134 (ev_fc (P := ev_kP) pg_k135 (ev_fc (P := ev_kP) pg_k136 (ev_fc (P := ev_kP) pg_k137 (ev_fc (P := ev_kP) pg_k138 (ev_fc (P := ev_kP) pg_k139 (ev_fc (P := ev_kP) pg_k140 (ev_fc (P := ev_kP) pg_k141 (ev_fc (P := ev_kP) pg_k142 (ev_fc (P := ev_kP) pg_k143 (ev_fc (P := ev_kP) pg_k144 (ev_fc (P := ev_kP) pg_k145 (ev_fc (P := ev_kP) pg_k146 (ev_fc (P := ev_kP) pg_k147 (ev_fc (P := ev_kP) pg_k148 (ev_fc (P := ev_kP) pg_k149 (ev_fc (P := ev_kP) pg_k150 (ev_fc (P := ev_kP) pg_k151 (ev_fc (P := ev_kP) pg_k152 (ev_fc (P := ev_kP) pg_k153 (ev_fc (P := ev_kP) pg_k154 (ev_fc (P := ev_kP) pg_k155 (ev_fc (P := ev_kP) pg_k156 (ev_fc (P := ev_kP) pg_k157 (fun j y h => by simp at h))))))))))))))))))))))))))))))))))))))))))))))))))))))))))))))))))))))))))))))))))))))))))))))))))))))))))))))))))))))))))))))))))))))))))))))))))))))))))))))
theorem pg_ok {M pc : Nat} {q : ev_R} (h : pg_ops M pc = some q) : ev_chk M (pc, q) = true := by
  unfold pg_ops at h
  split at h
  · next x hx =>
    cases h
    have h1 := List.find?_some hx
    have h2 := List.mem_of_find?_eq_some hx
    have h3 : x.1 = pc := by simpa using h1
    have h4 : (pg_O.getD M []).all (ev_chk M) = true := by
      rw [List.getD_eq_getElem?_getD]
      cases hM : pg_O[M]? with
      | none => rfl
      | some y =>
        have := pg_kall M y hM
        rw [Nat.zero_add] at this
        exact this
    have h5 := List.all_eq_true.mp h4 x h2
    rw [← h3]
    exact h5
  · cases h
def pg_wsm (a : Nat) : List Cond := .code (pg_y a) (pg_b a) (pg_L a) (pg_r a) :: pg_ws
def pg_wP (k : Nat) (q : pg_MT) : Prop := k < 157 → Cond.code q.1 q.2.1 q.2.2.1 q.2.2.2.1 ∈ pg_ws
set_option maxRecDepth 100000 in
set_option maxHeartbeats 4000000 in
theorem pg_wall : ∀ (j : Nat) (q : pg_MT), pg_M[j]? = some q → pg_wP (0 + j) q := ev_fc (P := pg_wP) (fun _ => pg_ws_of pg_w0 rfl) (ev_fc (P := pg_wP) (fun _ => pg_ws_of pg_w1 rfl) (ev_fc (P := pg_wP) (fun _ => pg_ws_of pg_w2 rfl) (ev_fc (P := pg_wP) (fun _ => pg_ws_of pg_w3 rfl) (ev_fc (P := pg_wP) (fun _ => pg_ws_of pg_w4 rfl) (ev_fc (P := pg_wP) (fun _ => pg_ws_of pg_w5 rfl) (ev_fc (P := pg_wP) (fun _ => pg_ws_of pg_w6 rfl) (ev_fc (P := pg_wP) (fun _ => pg_ws_of pg_w7 rfl) (ev_fc (P := pg_wP) (fun _ => pg_ws_of pg_w8 rfl) (ev_fc (P := pg_wP) (fun _ => pg_ws_of pg_w9 rfl) (ev_fc (P := pg_wP) (fun _ => pg_ws_of pg_w10 rfl) (ev_fc (P := pg_wP) (fun _ => pg_ws_of pg_w11 rfl) (ev_fc (P := pg_wP) (fun _ => pg_ws_of pg_w12 rfl) (ev_fc (P := pg_wP) (fun _ => pg_ws_of pg_w13 rfl) (ev_fc (P := pg_wP) (fun _ => pg_ws_of pg_w14 rfl) (ev_fc (P := pg_wP) (fun _ => pg_ws_of pg_w15 rfl) (ev_fc (P := pg_wP) (fun _ => pg_ws_of pg_w16 rfl) (ev_fc (P := pg_wP) (fun _ => pg_ws_of pg_w17 rfl) (ev_fc (P := pg_wP) (fun _ => pg_ws_of pg_w18 rfl) (ev_fc (P := pg_wP) (fun _ => pg_ws_of pg_w19 rfl) (ev_fc (P := pg_wP) (fun _ => pg_ws_of pg_w20 rfl) (ev_fc (P := pg_wP) (fun _ => pg_ws_of pg_w21 rfl) (ev_fc (P := pg_wP) (fun _ => pg_ws_of pg_w22 rfl) (ev_fc (P := pg_wP) (fun _ => pg_ws_of pg_w23 rfl) (ev_fc (P := pg_wP) (fun _ => pg_ws_of pg_w24 rfl) (ev_fc (P := pg_wP) (fun _ => pg_ws_of pg_w25 rfl) (ev_fc (P := pg_wP) (fun _ => pg_ws_of pg_w26 rfl) (ev_fc (P := pg_wP) (fun _ => pg_ws_of pg_w27 rfl) (ev_fc (P := pg_wP) (fun _ => pg_ws_of pg_w28 rfl) (ev_fc (P := pg_wP) (fun _ => pg_ws_of pg_w29 rfl) (ev_fc (P := pg_wP) (fun _ => pg_ws_of pg_w30 rfl) (ev_fc (P := pg_wP) (fun _ => pg_ws_of pg_w31 rfl) (ev_fc (P := pg_wP) (fun _ => pg_ws_of pg_w32 rfl) (ev_fc (P := pg_wP) (fun _ => pg_ws_of pg_w33 rfl) (ev_fc (P := pg_wP) (fun _ => pg_ws_of pg_w34 rfl) (ev_fc (P := pg_wP) (fun _ => pg_ws_of pg_w35 rfl) (ev_fc (P := pg_wP) (fun _ => pg_ws_of pg_w36 rfl) (ev_fc (P := pg_wP) (fun _ => pg_ws_of pg_w37 rfl) (ev_fc (P := pg_wP) (fun _ => pg_ws_of pg_w38 rfl) (ev_fc (P := pg_wP) (fun _ => pg_ws_of pg_w39 rfl) (ev_fc (P := pg_wP) (fun _ => pg_ws_of pg_w40 rfl) (ev_fc (P := pg_wP) (fun _ => pg_ws_of pg_w41 rfl) (ev_fc (P := pg_wP) (fun _ => pg_ws_of pg_w42 rfl) (ev_fc (P := pg_wP) (fun _ => pg_ws_of pg_w43 rfl) (ev_fc (P := pg_wP) (fun _ => pg_ws_of pg_w44 rfl) (ev_fc (P := pg_wP) (fun _ => pg_ws_of pg_w45 rfl) (ev_fc (P := pg_wP) (fun _ => pg_ws_of pg_w46 rfl) (ev_fc (P := pg_wP) (fun _ => pg_ws_of pg_w47 rfl) (ev_fc (P := pg_wP) (fun _ => pg_ws_of pg_w48 rfl) (ev_fc (P := pg_wP) (fun _ => pg_ws_of pg_w49 rfl) (ev_fc (P := pg_wP) (fun _ => pg_ws_of pg_w50 rfl) (ev_fc (P := pg_wP) (fun _ => pg_ws_of pg_w51 rfl) (ev_fc (P := pg_wP) (fun _ => pg_ws_of pg_w52 rfl) (ev_fc (P := pg_wP) (fun _ => pg_ws_of pg_w53 rfl) (ev_fc (P := pg_wP) (fun _ => pg_ws_of pg_w54 rfl) (ev_fc (P := pg_wP) (fun _ => pg_ws_of pg_w55 rfl) (ev_fc (P := pg_wP) (fun _ => pg_ws_of pg_w56 rfl) (ev_fc (P := pg_wP) (fun _ => pg_ws_of pg_w57 rfl) (ev_fc (P := pg_wP) (fun _ => pg_ws_of pg_w58 rfl) (ev_fc (P := pg_wP) (fun _ => pg_ws_of pg_w59 rfl) (ev_fc (P := pg_wP) (fun _ => pg_ws_of pg_w60 rfl) (ev_fc (P := pg_wP) (fun _ => pg_ws_of pg_w61 rfl) (ev_fc (P := pg_wP) (fun _ => pg_ws_of pg_w62 rfl) (ev_fc (P := pg_wP) (fun _ => pg_ws_of pg_w63 rfl) (ev_fc (P := pg_wP) (fun _ => pg_ws_of pg_w64 rfl) (ev_fc (P := pg_wP) (fun _ => pg_ws_of pg_w65 rfl) (ev_fc (P := pg_wP) (fun _ => pg_ws_of pg_w66 rfl) (ev_fc (P := pg_wP) (fun _ => pg_ws_of pg_w67 rfl) (ev_fc (P := pg_wP) (fun _ => pg_ws_of pg_w68 rfl) (ev_fc (P := pg_wP) (fun _ => pg_ws_of pg_w69 rfl) (ev_fc (P := pg_wP) (fun _ => pg_ws_of pg_w70 rfl) (ev_fc (P := pg_wP) (fun _ => pg_ws_of pg_w71 rfl) (ev_fc (P := pg_wP) (fun _ => pg_ws_of pg_w72 rfl) (ev_fc (P := pg_wP) (fun _ => pg_ws_of pg_w73 rfl) (ev_fc (P := pg_wP) (fun _ => pg_ws_of pg_w74 rfl) (ev_fc (P := pg_wP) (fun _ => pg_ws_of pg_w75 rfl) (ev_fc (P := pg_wP) (fun _ => pg_ws_of pg_w76 rfl) (ev_fc (P := pg_wP) (fun _ => pg_ws_of pg_w77 rfl) (ev_fc (P := pg_wP) (fun _ => pg_ws_of pg_w78 rfl) (ev_fc (P := pg_wP) (fun _ => pg_ws_of pg_w79 rfl) (ev_fc (P := pg_wP) (fun _ => pg_ws_of pg_w80 rfl) (ev_fc (P := pg_wP) (fun _ => pg_ws_of pg_w81 rfl) (ev_fc (P := pg_wP) (fun _ => pg_ws_of pg_w82 rfl) (ev_fc (P := pg_wP) (fun _ => pg_ws_of pg_w83 rfl) (ev_fc (P := pg_wP) (fun _ => pg_ws_of pg_w84 rfl) (ev_fc (P := pg_wP) (fun _ => pg_ws_of pg_w85 rfl) (ev_fc (P := pg_wP) (fun _ => pg_ws_of pg_w86 rfl) (ev_fc (P := pg_wP) (fun _ => pg_ws_of pg_w87 rfl) (ev_fc (P := pg_wP) (fun _ => pg_ws_of pg_w88 rfl) (ev_fc (P := pg_wP) (fun _ => pg_ws_of pg_w89 rfl) (ev_fc (P := pg_wP) (fun _ => pg_ws_of pg_w90 rfl) (ev_fc (P := pg_wP) (fun _ => pg_ws_of pg_w91 rfl) (ev_fc (P := pg_wP) (fun _ => pg_ws_of pg_w92 rfl) (ev_fc (P := pg_wP) (fun _ => pg_ws_of pg_w93 rfl) (ev_fc (P := pg_wP) (fun _ => pg_ws_of pg_w94 rfl) (ev_fc (P := pg_wP) (fun _ => pg_ws_of pg_w95 rfl) (ev_fc (P := pg_wP) (fun _ => pg_ws_of pg_w96 rfl) (ev_fc (P := pg_wP) (fun _ => pg_ws_of pg_w97 rfl) (ev_fc (P := pg_wP) (fun _ => pg_ws_of pg_w98 rfl) (ev_fc (P := pg_wP) (fun _ => pg_ws_of pg_w99 rfl) (ev_fc (P := pg_wP) (fun _ => pg_ws_of pg_w100 rfl) (ev_fc (P := pg_wP) (fun _ => pg_ws_of pg_w101 rfl) (ev_fc (P := pg_wP) (fun _ => pg_ws_of pg_w102 rfl) (ev_fc (P := pg_wP) (fun _ => pg_ws_of pg_w103 rfl) (ev_fc (P := pg_wP) (fun _ => pg_ws_of pg_w104 rfl) (ev_fc (P := pg_wP) (fun _ => pg_ws_of pg_w105 rfl) (ev_fc (P := pg_wP) (fun _ => pg_ws_of pg_w106 rfl) (ev_fc (P := pg_wP) (fun _ => pg_ws_of pg_w107 rfl) (ev_fc (P := pg_wP) (fun _ => pg_ws_of pg_w108 rfl) (ev_fc (P := pg_wP) (fun _ => pg_ws_of pg_w109 rfl) (ev_fc (P := pg_wP) (fun _ => pg_ws_of pg_w110 rfl) (ev_fc (P := pg_wP) (fun _ => pg_ws_of pg_w111 rfl) (ev_fc (P := pg_wP) (fun _ => pg_ws_of pg_w112 rfl) (ev_fc (P := pg_wP) (fun _ => pg_ws_of pg_w113 rfl) (ev_fc (P := pg_wP) (fun _ => pg_ws_of pg_w114 rfl) (ev_fc (P := pg_wP) (fun _ => pg_ws_of pg_w115 rfl) (ev_fc (P := pg_wP) (fun _ => pg_ws_of pg_w116 rfl) (ev_fc (P := pg_wP) (fun _ => pg_ws_of pg_w117 rfl) (ev_fc (P := pg_wP) (fun _ => pg_ws_of pg_w118 rfl) (ev_fc (P := pg_wP) (fun _ => pg_ws_of pg_w119 rfl) (ev_fc (P := pg_wP) (fun _ => pg_ws_of pg_w120 rfl) (ev_fc (P := pg_wP) (fun _ => pg_ws_of pg_w121 rfl) (ev_fc (P := pg_wP) (fun _ => pg_ws_of pg_w122 rfl) (ev_fc (P := pg_wP) (fun _ => pg_ws_of pg_w123 rfl) (ev_fc (P := pg_wP) (fun _ => pg_ws_of pg_w124 rfl) (ev_fc (P := pg_wP) (fun _ => pg_ws_of pg_w125 rfl) (ev_fc (P := pg_wP) (fun _ => pg_ws_of pg_w126 rfl) (ev_fc (P := pg_wP) (fun _ => pg_ws_of pg_w127 rfl) (ev_fc (P := pg_wP) (fun _ => pg_ws_of pg_w128 rfl) (ev_fc (P := pg_wP) (fun _ => pg_ws_of pg_w129 rfl) (ev_fc (P := pg_wP) (fun _ => pg_ws_of pg_w130 rfl) (ev_fc (P := pg_wP) (fun _ => pg_ws_of pg_w131 rfl) (ev_fc (P := pg_wP) (fun _ => pg_ws_of pg_w132 rfl) (ev_fc (P := pg_wP) (fun _ => pg_ws_of pg_w133 rfl) (ev_fc (P := pg_wP) (fun _ => pg_ws_of pg_w134 rfl) (ev_fc (P := pg_wP) (fun _ => pg_ws_of pg_w135 rfl) (ev_fc (P := pg_wP) (fun _ => pg_ws_of pg_w136 rfl) (ev_fc (P := pg_wP) (fun _ => pg_ws_of pg_w137 rfl) (ev_fc (P := pg_wP) (fun _ => pg_ws_of pg_w138 rfl) (ev_fc (P := pg_wP) (fun _ => pg_ws_of pg_w139 rfl) (ev_fc (P := pg_wP) (fun _ => pg_ws_of pg_w140 rfl) (ev_fc (P := pg_wP) (fun _ => pg_ws_of pg_w141 rfl) (ev_fc (P := pg_wP) (fun _ => pg_ws_of pg_w142 rfl) (ev_fc (P := pg_wP) (fun _ => pg_ws_of pg_w143 rfl) (ev_fc (P := pg_wP) (fun _ => pg_ws_of pg_w144 rfl) (ev_fc (P := pg_wP) (fun _ => pg_ws_of pg_w145 rfl) (ev_fc (P := pg_wP) (fun _ => pg_ws_of pg_w146 rfl) (ev_fc (P := pg_wP) (fun _ => pg_ws_of pg_w147 rfl) (ev_fc (P := pg_wP) (fun _ => pg_ws_of pg_w148 rfl) (ev_fc (P := pg_wP) (fun _ => pg_ws_of pg_w149 rfl) (ev_fc (P := pg_wP) (fun _ => pg_ws_of pg_w150 rfl) (ev_fc (P := pg_wP) (fun _ => pg_ws_of pg_w151 rfl) (ev_fc (P := pg_wP) (fun _ => pg_ws_of pg_w152 rfl) (ev_fc (P := pg_wP) (fun _ => pg_ws_of pg_w153 rfl) (ev_fc (P := pg_wP) (fun _ => pg_ws_of pg_w154 rfl) (ev_fc (P := pg_wP) (fun _ => pg_ws_of pg_w155 rfl) (ev_fc (P := pg_wP) (fun _ => pg_ws_of pg_w156 rfl) (ev_fc (P := pg_wP) (fun h => absurd h (by decide)) (fun j y h => by simp at h))))))))))))))))))))))))))))))))))))))))))))))))))))))))))))))))))))))))))))))))))))))))))))))))))))))))))))))))))))))))))))))))))))))))))))))))))))))))))))))
theorem pg_good {a : Nat} (h : a < 157) : GoodIn pg_ws (pg_wsm a) := by
  intro w hw
  rcases List.mem_cons.mp hw with rfl | hw
  · refine ⟨?_, Or.inl rfl⟩
    have hl : a < pg_M.length := Nat.lt_of_lt_of_le h (by decide +kernel)
    have h1 := pg_wall a pg_M[a] (List.getElem?_eq_getElem hl) (by rw [Nat.zero_add]; exact h)
    have h2 : pg_m a = pg_M[a] := by unfold pg_m; rw [List.getD_eq_getElem?_getD, List.getElem?_eq_getElem hl]; rfl
    unfold pg_y pg_b pg_L pg_r
    rw [h2]
    exact h1
  · exact ⟨hw, good_of_word (List.mem_filter.mp hw).2⟩
-- heaps only grow
theorem ev_hp_mono {X : ev_X} {i : Instr} {a b : Nat} {st st' : List Value} {h h' : ev_H} (hh : ev_hp X i a b st h = some (st', h')) : h.1 ≤ h'.1 ∧ h.2.1 ≤ h'.2.1 := by
  cases i <;> simp only [ev_hp] at hh <;> first
    | cases hh; done
    | (simp only [ev_get] at hh; repeat' (split at hh)
       all_goals (first | cases hh; done | (cases hh; exact ⟨Nat.le_refl _, Nat.le_refl _⟩)))
    | (simp only [ev_put] at hh; repeat' (split at hh)
       all_goals (first | cases hh; done | (cases hh; exact ⟨Nat.le_refl _, Nat.le_refl _⟩)))
    | (simp only [ev_iald] at hh; repeat' (split at hh)
       all_goals (first | cases hh; done | (cases hh; exact ⟨Nat.le_refl _, Nat.le_refl _⟩)))
    | (simp only [ev_bald] at hh; repeat' (split at hh)
       all_goals (first | cases hh; done | (cases hh; exact ⟨Nat.le_refl _, Nat.le_refl _⟩)))
    | (simp only [ev_aald] at hh; repeat' (split at hh)
       all_goals (first | cases hh; done | (cases hh; exact ⟨Nat.le_refl _, Nat.le_refl _⟩)))
    | (simp only [ev_iast] at hh; repeat' (split at hh)
       all_goals (first | cases hh; done | (cases hh; exact ⟨Nat.le_refl _, Nat.le_refl _⟩)))
    | (simp only [ev_bast] at hh; repeat' (split at hh)
       all_goals (first | cases hh; done | (cases hh; exact ⟨Nat.le_refl _, Nat.le_refl _⟩)))
    | (simp only [ev_aast] at hh; repeat' (split at hh)
       all_goals (first | cases hh; done | (cases hh; exact ⟨Nat.le_refl _, Nat.le_refl _⟩)))
    | (simp only [ev_alen] at hh; repeat' (split at hh)
       all_goals (first | cases hh; done | (cases hh; exact ⟨Nat.le_refl _, Nat.le_refl _⟩)))
    | (simp only [ev_newa] at hh; repeat' (split at hh)
       all_goals (first | cases hh; done | (cases hh; exact ⟨Nat.le_succ _, Nat.le_add_right _ _⟩)))
    | (simp only [ev_anew] at hh; repeat' (split at hh)
       all_goals (first | cases hh; done | (cases hh; exact ⟨Nat.le_succ _, Nat.le_add_right _ _⟩)))
    | (simp only [ev_newo] at hh; repeat' (split at hh)
       all_goals (first | cases hh; done | (cases hh; exact ⟨Nat.le_succ _, Nat.le_add_right _ _⟩)))
    | (simp only [ev_math] at hh; repeat' (split at hh)
       all_goals (first | cases hh; done | (cases hh; exact ⟨Nat.le_refl _, Nat.le_refl _⟩)))
    | (simp only [ev_oini] at hh; repeat' (split at hh)
       all_goals (first | cases hh; done | (cases hh; exact ⟨Nat.le_refl _, Nat.le_refl _⟩)))
    | (cases hh; exact ⟨Nat.le_refl _, Nat.le_refl _⟩)
    | (split at hh
       all_goals (first | cases hh; done | (cases hh; exact ⟨Nat.le_refl _, Nat.le_refl _⟩)))
theorem ev_one_mono {X : ev_X} {i : Instr} {pc nx a b pc' : Nat} {A A' st st' : List Value} {h h' : ev_H} (hh : ev_one X i pc nx a b A st h = some (pc', A', st', h')) : h.1 ≤ h'.1 ∧ h.2.1 ≤ h'.2.1 := by
  unfold ev_one at hh
  split at hh
  · cases hh; exact ⟨Nat.le_refl _, Nat.le_refl _⟩
  · split at hh
    · cases hh; exact ⟨Nat.le_refl _, Nat.le_refl _⟩
    · split at hh
      · cases hh; exact ⟨Nat.le_refl _, Nat.le_refl _⟩
      · split at hh
        · next hp => cases hh; exact ev_hp_mono hp
        · cases hh
theorem ev_mono (X : ev_X) : ∀ (n M pc : Nat) (A st : List Value) (h : ev_H) (r : Option Value) (h' : ev_H), ev_run X n M pc A st h = some (r, h') → h.1 ≤ h'.1 ∧ h.2.1 ≤ h'.2.1 := by
  intro n
  induction n with
  | zero => intro M pc A st h r h' hr; cases hr
  | succ n ih =>
    intro M pc A st h r h' hr
    rw [ev_run] at hr
    split at hr
    · cases hr
    · split at hr
      · cases hr; exact ⟨Nat.le_refl _, Nat.le_refl _⟩
      · split at hr
        · split at hr
          · split at hr
            · next v h1 hc =>
              have e1 := ih _ _ _ _ _ _ _ hc
              have e2 := ih _ _ _ _ _ _ _ hr
              exact ⟨Nat.le_trans e1.1 e2.1, Nat.le_trans e1.2 e2.2⟩
            · cases hr
          · cases hr
        · split at hr
          · next ho =>
            have e1 := ev_one_mono ho
            have e2 := ih _ _ _ _ _ _ _ hr
            exact ⟨Nat.le_trans e1.1 e2.1, Nat.le_trans e1.2 e2.2⟩
          · cases hr
def ev_Q (D : va_G) (dA : Nat → ClassId) (H0 : Heap) (r : Option Value) (h' : ev_H) : Array Value → State → Outcome → State → Prop := fun _ _ o t => o = .returned r ∧ ev_HR D dA H0 h' t.heap
/-- how a walk of method M ends, when its answer is r and its heap h' -/
def ev_Fin (p : Program) (l : Launch) (e : Env) (R : Room) (s : State) (m : MethodId) (args : Array Value) (below : List Frame) (meth : Method) (c : Code) (Q : State → Prop) (D : va_G) (dA : Nat → ClassId) (H0 : Heap) (M : Nat) (r : Option Value) (h' : ev_H) : Prop :=
  ∀ (i : Instr) (pc : Nat) (st : List Value) (H : Heap) (locs : List Loc) (cells slots : Nat) (ls : Array Slot), decode (pg_b M) pc = .ok (i, 1) → ev_ret M i st = some r → ev_HR D dA H0 h' H → (∀ q ∈ locs, H0.size ≤ q.base) → cells ≤ R.cells → slots ≤ R.slots → W p l e R s m args below meth c H locs cells slots Q (F0 m pc ls st)
def ev_S0 (D : va_G) (dA : Nat → ClassId) (X : ev_X) (H0 : Heap) (n : Nat) : Prop :=
  ∀ (M pc : Nat) (A st : List Value) (h : ev_H) (r : Option Value) (h' : ev_H), ev_run X n M pc A st h = some (r, h') →
    ∀ (p : Program) (l : Launch) (e : Env) (R : Room) (s : State) (m : MethodId) (args : Array Value) (below : List Frame) (meth : Method) (c : Code) (Q : State → Prop), ev_Cx D dA X H0 p R s m args meth c M → ev_Fin p l e R s m args below meth c Q D dA H0 M r h' →
    ∀ (H : Heap) (locs : List Loc) (cells slots : Nat) (ls : Array Slot), ev_HR D dA H0 h H → ev_L ls (pg_L M) A → (∀ q ∈ locs, H0.size ≤ q.base) → cells + h'.1 ≤ R.cells + h.1 → slots + h'.2.1 ≤ R.slots + h.2.1 →
    W p l e R s m args below meth c H locs cells slots Q (F0 m pc ls st)
theorem ev_ret_len {M : Nat} {i : Instr} {st : List Value} {r : Option Value} (h : ev_ret M i st = some r) : ev_len i = 1 ∧ ev_sw i = false := by
  cases i <;> first | exact ⟨rfl, rfl⟩ | cases h
section EV5
variable {p : Program} {l : Launch} {e : Env} {R : Room} {s : State} {m : MethodId} {args : Array Value} {below : List Frame} {meth : Method} {c : Code} {H : Heap} {locs : List Loc} {cells slots : Nat} {Q : State → Prop}
variable {D : va_G} {dA : Nat → ClassId} {X : ev_X} {H0 : Heap} {M pc pc' nx a b w : Nat} {ls : Array Slot} {A A' st st' : List Value} {h h' : ev_H} {i : Instr}
theorem ev_met {n : Nat} {as A0 : List Value} {v : Option Value} {h1 : ev_H} (ih : ev_S0 D dA X H0 n) (hrun : ev_run X n a 0 A0 [] h = some (v, h1)) (hent : ev_ent (pg_L a) as = some A0) (hm : ev_mchk a = true) (l : Launch) :
    Met l (pg_y a) (pg_wsm a) { frames := pg_f a, cells := h1.1 - h.1, slots := h1.2.1 - h.2.1, locals := pg_w a } (va_Pc as (fun U => ev_HR D dA H0 h U.heap ∧ ev_K D dA X H0 U)) (ev_Q D dA H0 v h1) (h1.1 - h.1) (h1.2.1 - h.2.1) (ev_A H0) := by
  have hm' := hm
  unfold ev_mchk at hm'
  simp only [Bool.and_eq_true, decide_eq_true_eq] at hm'
  have hmono := ev_mono _ _ _ _ _ _ _ _ _ hrun
  refine Met.ofW (cc := pg_b a) (maxL := pg_L a) (ret := pg_r a) hm'.1.2 rfl ?_
  intro p e s m args below meth c s₁ B hml hv
  obtain ⟨rfl, hH, hK⟩ := hv
  have hts0 := atoms_spec (ws := pg_wsm a) B.pre
  rw [lg_entry_eq]
  refine ih a 0 A0 [] h v h1 hrun p l e _ s m _ below meth c _ ⟨B.exec, B.bytes, B.returns, hml, findClass_of_methodNamed B.named, fun w hw => hts0 w (List.mem_cons_of_mem _ hw), B.notSynchronized, fun hq => by rw [(name_of_methodNamed B.named B.method).1]; exact hq, hK, Nat.le_refl _, Nat.le_refl _⟩ ?_ s.heap [] 0 0 _ hH (ev_entry hent) (fun q hq => by cases hq) (by show 0 + h1.1 ≤ (h1.1 - h.1) + h.1; omega) (by show 0 + h1.2.1 ≤ (h1.2.1 - h.2.1) + h.2.1; omega)
  intro i pc st H locs cells slots ls hd hret hH1 hl hc hs
  have hlocks := B.notSynchronized
  refine W.widen (k := h1.1 - h.1) (n := h1.2.1 - h.2.1) hc hs ?_
  have hq : ∀ t : State, t.heap = H → s.WarmedH t.vm → ev_Q D dA H0 v h1 as.toArray s (.returned v) t := fun t ht _ => ⟨rfl, by rw [ht]; exact hH1⟩
  unfold ev_ret at hret
  split at hret
  · split at hret
    · split at hret
      · next ty hty =>
        split at hret
        · next hn => cases hret; exact W.zret B.exec B.bytes (B.returns.trans hty) hn hq hl hd
        · cases hret
      · cases hret
    · cases hret
  · split at hret
    · split at hret
      · next hty => cases hret; exact W.lret B.exec B.bytes (B.returns.trans hty) hq hl hd
      · cases hret
    · cases hret
  · split at hret
    · next cn hty =>
      split at hret
      · cases hret; exact W.aret B.exec B.bytes (B.returns.trans hty) (Or.inl ⟨_, rfl⟩) (Or.inr ⟨_, rfl⟩) hq hl hd
      · cases hret; exact W.aret B.exec B.bytes (B.returns.trans hty) (Or.inl ⟨_, rfl⟩) (Or.inl rfl) hq hl hd
      · cases hret
    · cases hret
  · split at hret
    · split at hret
      · next hty => cases hret; exact W.vret B.exec B.bytes (B.returns.trans hty) hq hl hd
      · cases hret
    · cases hret
  · cases hret
theorem ev_wcall {v : Option Value} {h1 : ev_H} {mc ms : Nat} {rest : List Value} {aa : Array Value} (hr : va_Run p l e R s m args below meth c H locs cells slots mc ms (F0 m pc ls st) rest (ev_Q D dA H0 v h1 aa) (ev_A H0)) (hl : ∀ q ∈ locs, H0.size ≤ q.base)
    (kk : ∀ (H1 : Heap) (locs1 : List Loc), ev_HR D dA H0 h1 H1 → (∀ q ∈ locs1, H0.size ≤ q.base) → W p l e R s m args below meth c H1 locs1 (cells + mc) (slots + ms) Q (F0 m (pc + 3) ls (v.toList ++ rest))) : W p l e R s m args below meth c H locs cells slots Q (F0 m pc ls st) := by
  intro T hT X
  obtain ⟨v', st₀, t, T', L, h0, X', hL, e1, e2, ⟨hv, hq⟩, st⟩ := hr T hT X
  cases hv
  obtain ⟨t2, a1, b1⟩ := kk T'.heap (locs ++ L) (by rw [e1]; exact hq) (fun q hq => (List.mem_append.mp hq).elim (hl q) (hL q)) T' rfl X'
  exact ⟨t2, st t2 a1, b1⟩
end EV5
end
section
/-! The soundness of the evaluator: calls, the theorem, and its two uses (a method's contract; the law's own walk). -/
section EV6
variable {p : Program} {l : Launch} {e : Env} {R : Room} {s : State} {m : MethodId} {args : Array Value} {below : List Frame} {meth : Method} {c : Code} {H : Heap} {locs : List Loc} {cells slots : Nat} {Q : State → Prop}
variable {D : va_G} {dA : Nat → ClassId} {X : ev_X} {H0 : Heap} {M pc pc' nx a b w : Nat} {ls : Array Slot} {A A' st st' : List Value} {h h' : ev_H} {i : Instr}
theorem ev_argI_ok {k o : Nat} {as r : List Value} (hh : ev_argI k st = some (o, as, r)) : as.length = k ∧ st = as.reverse ++ .ref o :: r ∧ (r.map fun v => v.category).sum ≤ 8 := by
  unfold ev_argI at hh
  split at hh
  · next o' r' hdr =>
    split at hh
    · next hc =>
      cases hh
      refine ⟨by rw [List.length_reverse]; exact hc.1, ?_, hc.2⟩
      rw [List.reverse_reverse, ← hdr, List.take_append_drop]
    · cases hh
  · cases hh
theorem ev_argS_ok {k : Nat} {as r : List Value} (hh : ev_argS k st = some (as, r)) : as.length = k ∧ st = as.reverse ++ r ∧ (r.map fun v => v.category).sum ≤ 8 := by
  unfold ev_argS at hh
  split at hh
  · next hc =>
    cases hh
    refine ⟨by rw [List.length_reverse]; exact hc.1, ?_, hc.2⟩
    rw [List.reverse_reverse, List.take_append_drop]
  · cases hh
theorem ev_rcv_ok {o : Nat} (hK : ev_K D dA X H0 s) (hH : ev_HR D dA H0 h H) (hm : ev_mchk a = true) (hs : pg_s a = false) (hn : (pg_y a).name ≠ "<init>") (hr : ev_rcv X h o (pg_c a) = true) : ∃ cell : Cell, H[o]? = some cell ∧ cell.vm.isStatics = false ∧ s.vm.findClass (pg_y a).cls = some cell.cls := by
  unfold ev_mchk at hm
  simp only [Bool.and_eq_true, hs, hn, decide_false, Bool.false_or] at hm
  have hcl := hm.2.2
  unfold ev_rcv at hr
  split at hr
  · next ci fs ho =>
    have hci : ci = pg_c a := by simpa using hr
    subst hci
    have hat : va_at D pg_cl (o, .inr (pg_c a, fs)) H := (hH.2.2.2 o _ ho).2
    obtain ⟨q, hq, -⟩ := id hat
    have h90 : ¬ pg_c a = 90 := fun z => by rw [z] at hq; cases hq
    rw [if_neg h90, hq] at hcl
    have hq1 : q.1 = (pg_y a).cls := by simpa using hcl
    obtain ⟨cell, g1, g2, g3⟩ := va_recv (ev_K1 hK) (ev_P1 hat) hq (q0 := 0) rfl
    exact ⟨cell, g1, g2, by rw [← hq1]; exact g3⟩
  · cases hr
  · next ho =>
    simp only [Bool.and_eq_true, beq_iff_eq] at hr
    rw [if_pos hr.1] at hcl
    have hs1 : (pg_y a).cls = "java/lang/String" := of_decide_eq_true hcl
    obtain ⟨k, hk⟩ := Option.isSome_iff_exists.mp hr.2
    obtain ⟨cell, g1, g2, g3, -⟩ := (hK.2.2.2.1 o k hk).1.kept (ev_kept hH)
    exact ⟨cell, g1, g2, by rw [hs1]; exact g3⟩
theorem ev_blind {as : List Value} : FrameBlind (va_Pc as (fun U => ev_HR D dA H0 h U.heap ∧ ev_K D dA X H0 U)) := fun a U g mk q => ⟨q.1, q.2.1, ev_K.warm (s := U) (U := U.calling g mk a) (State.WarmedH.refl U) q.2.2⟩
set_option maxHeartbeats 4000000 in
theorem ev_calrun {as rest : List Value} {v : Option Value} {h1 : ev_H} {mc ms : Nat} (C : ev_Cx D dA X H0 p R s m args meth c M) (hc : ev_chk M (pc, i, nx, a, b, w) = true) (hH : ev_HR D dA H0 h H) (hL : ev_L ls (pg_L M) A) (hh : ev_cal X i a st h = some (as, rest))
    (hM : ev_mchk a = true → Met l (pg_y a) (pg_wsm a) { frames := pg_f a, cells := mc, slots := ms, locals := pg_w a } (va_Pc as (fun U => ev_HR D dA H0 h U.heap ∧ ev_K D dA X H0 U)) (ev_Q D dA H0 v h1) mc ms (ev_A H0)) (hf : cells + mc ≤ R.cells ∧ slots + ms ≤ R.slots) :
    nx = pc + 3 ∧ va_Run p l e R s m args below meth c H locs cells slots mc ms (F0 m pc ls st) rest (ev_Q D dA H0 v h1 as.toArray) (ev_A H0) := by
  unfold ev_chk at hc
  simp only [Bool.and_eq_true, Bool.or_eq_true, decide_eq_true_eq] at hc
  obtain ⟨⟨⟨hd0, hle⟩, hsw⟩, hc2⟩ := hc
  obtain ⟨hx, hb, hr, hml, hown, hts, hlk, hin, hK, hfr, hw⟩ := C
  cases i
  case invokevirtual idx =>
    have hnx : nx = pc + 3 := hsw.resolve_left (fun q => by cases q)
    refine ⟨hnx, ?_⟩
    have hd : decode (pg_b M) pc = .ok (.invokevirtual idx, 3) := by rw [hd0, hnx, Nat.add_sub_cancel_left]
    simp only [ev_chk2, ev_chkC, ev_chkL, ev_chkN, Bool.and_eq_true, Bool.or_eq_true, decide_eq_true_eq, Bool.not_eq_true'] at hc2
    obtain ⟨⟨⟨⟨⟨⟨ha1, ha2⟩, hf1⟩, hf2⟩, hlink⟩, hst⟩, hni⟩ := hc2
    have hm := pg_mok ha1 ha2
    have hG := pg_good ha1
    simp only [ev_cal] at hh
    split at hh
    · next o as' r' harg =>
      split at hh
      · next hrcv =>
        cases hh
        obtain ⟨hlen, hstk, hsum⟩ := ev_argI_ok harg
        have hm2 := hm
        unfold ev_mchk at hm2
        simp only [Bool.and_eq_true, decide_eq_true_eq, hst, Bool.false_or, Bool.or_eq_true, Bool.false_eq_true, if_false] at hm2
        obtain ⟨⟨⟨⟨⟨⟨m2, m3⟩, m4⟩, m5⟩, m6⟩, m7⟩, m8⟩ := hm2
        have m8' := m8.resolve_left hni
        have hini := hts _ (pg_ws_of m2 rfl)
        have hinst := hts _ (pg_ws_of m3 rfl)
        have hsel := hts _ (pg_ws_of m8'.1 rfl)
        have hR : pg_f a + 1 ≤ R.frames ∧ 8 + (pg_L a + 11) + pg_w a ≤ R.locals := ⟨Nat.le_trans hf1 hfr, Nat.le_trans hf2 hw⟩
        have hpre : PreV s H (pg_y a).cls o (va_Pc (.ref o :: as') (fun U => ev_HR D dA H0 h U.heap ∧ ev_K D dA X H0 U)) as' := ⟨ev_blind, ev_rcv_ok hK hH hm hst hni hrcv, fun U hU hW => ⟨rfl, by rw [hU]; exact hH, ev_K.warm hW hK⟩⟩
        rcases hlink with hlink | hlink
        · exact va_runV (As := as') (rest := rest) ⟨hx, hb, hml, hown, hts⟩ (hM hm) ⟨callB_of (pg_n a) hts hG rfl rfl rfl hini (hts _ (pg_ws_of hlink rfl)) ⟨m4, m5, m6⟩ hR, hinst, hsel⟩ hpre rfl hlen hL.2.1 hstk (lv_room hsum) hd hf
        · exact va_runVN (As := as') (rest := rest) ⟨hx, hb, hml, hown, hts⟩ (hM hm) ⟨va_cnB (pg_n a) hts hG rfl rfl rfl (hK.2.2.2.2.2.2.2.2.1 _ (List.mem_of_getElem? hlink) rfl) hini ⟨m4, m5, m6⟩ hR, hinst, hsel⟩ hpre rfl hlen hL.2.1 hstk (lv_room hsum) hd hf
      · cases hh
    · cases hh
  case invokespecial idx =>
    have hnx : nx = pc + 3 := hsw.resolve_left (fun q => by cases q)
    refine ⟨hnx, ?_⟩
    have hd : decode (pg_b M) pc = .ok (.invokespecial idx, 3) := by rw [hd0, hnx, Nat.add_sub_cancel_left]
    simp only [ev_cal] at hh
    split at hh
    · cases hh
    next hobj =>
    simp only [ev_chk2, hobj, if_false, ev_chkC, ev_chkL, Bool.and_eq_true, decide_eq_true_eq, Bool.not_eq_true'] at hc2
    obtain ⟨⟨⟨⟨⟨⟨⟨ha1, ha2⟩, hf1⟩, hf2⟩, hlink⟩, hst⟩, hni⟩, hrn⟩ := hc2
    have hm := pg_mok ha1 ha2
    have hG := pg_good ha1
    split at hh
    · next o as' r' harg =>
      cases hh
      obtain ⟨hlen, hstk, hsum⟩ := ev_argI_ok harg
      have hm2 := hm
      unfold ev_mchk at hm2
      simp only [Bool.and_eq_true, decide_eq_true_eq, hst, Bool.false_eq_true, if_false] at hm2
      obtain ⟨⟨⟨⟨⟨⟨m2, m3⟩, m4⟩, m5⟩, m6⟩, m7⟩, m8⟩ := hm2
      have hini := hts _ (pg_ws_of m2 rfl)
      have hinst := hts _ (pg_ws_of m3 rfl)
      have hR : pg_f a + 1 ≤ R.frames ∧ 8 + (pg_L a + 11) + pg_w a ≤ R.locals := ⟨Nat.le_trans hf1 hfr, Nat.le_trans hf2 hw⟩
      exact va_runI (As := as') (rest := rest) ⟨hx, hb, hml, hown, hts⟩ (hM hm) ⟨callB_of (pg_n a) hts hG (by unfold pg_wsm; rw [hrn]) rfl rfl hini (hts _ (pg_ws_of hlink rfl)) ⟨m4, m5, m6⟩ hR, hni, hinst⟩ ⟨ev_blind, fun U hU hW => ⟨rfl, by rw [hU]; exact hH, ev_K.warm hW hK⟩⟩ rfl hlen hL.2.1 hstk (lv_room hsum) hd hf
    · cases hh
  case invokestatic idx =>
    have hnx : nx = pc + 3 := hsw.resolve_left (fun q => by cases q)
    refine ⟨hnx, ?_⟩
    have hd : decode (pg_b M) pc = .ok (.invokestatic idx, 3) := by rw [hd0, hnx, Nat.add_sub_cancel_left]
    simp only [ev_cal] at hh
    split at hh
    · cases hh
    next hsp =>
    simp only [ev_chk2, hsp, if_false, ev_chkC, ev_chkL, ev_chkN, Bool.and_eq_true, Bool.or_eq_true, decide_eq_true_eq] at hc2
    obtain ⟨⟨⟨⟨⟨ha1, ha2⟩, hf1⟩, hf2⟩, hlink⟩, hst⟩ := hc2
    have hm := pg_mok ha1 hsp
    have hG := pg_good ha1
    obtain ⟨hlen, hstk, hsum⟩ := ev_argS_ok hh
    have hm2 := hm
    unfold ev_mchk at hm2
    simp only [Bool.and_eq_true, decide_eq_true_eq, hst, if_true] at hm2
    obtain ⟨⟨⟨⟨⟨⟨m2, m3⟩, m4⟩, m5⟩, m6⟩, m7⟩, m8⟩ := hm2
    have hini := hts _ (pg_ws_of m2 rfl)
    have hstat := hts _ (pg_ws_of m3 rfl)
    have hR : pg_f a + 1 ≤ R.frames ∧ 8 + (pg_L a + 11) + pg_w a ≤ R.locals := ⟨Nat.le_trans hf1 hfr, Nat.le_trans hf2 hw⟩
    have hpre : PreS s H (va_Pc as (fun U => ev_HR D dA H0 h U.heap ∧ ev_K D dA X H0 U)) as := ⟨ev_blind, fun U hU hW => ⟨rfl, by rw [hU]; exact hH, ev_K.warm hW hK⟩⟩
    rcases hlink with hlink | hlink
    · exact va_runS (As := as) (rest := rest) ⟨hx, hb, hml, hown, hts⟩ (hM hm) ⟨callB_of (pg_n a) hts hG rfl rfl rfl hini (hts _ (pg_ws_of hlink rfl)) ⟨m4, m5, m6⟩ hR, hstat⟩ hpre rfl hlen hL.2.1 hstk (lv_room hsum) hd hf
    · exact va_runSN (As := as) (rest := rest) ⟨hx, hb, hml, hown, hts⟩ (hM hm) ⟨va_cnB (pg_n a) hts hG rfl rfl rfl (hK.2.2.2.2.2.2.2.2.1 _ (List.mem_of_getElem? hlink) rfl) hini ⟨m4, m5, m6⟩ hR, hstat, trivial⟩ hpre rfl hlen hL.2.1 hstk (lv_room hsum) hd hf
  all_goals cases hh
end EV6
set_option maxHeartbeats 4000000 in
/-- THE SOUNDNESS of the evaluator -/
theorem ev_sound (D : va_G) (dA : Nat → ClassId) (X : ev_X) (H0 : Heap) : ∀ n, ev_S0 D dA X H0 n := by
  intro n
  induction n with
  | zero => intro M pc A st h r h' hr; cases hr
  | succ n ih =>
    intro M pc A st h r h' hr p l e R s m args below meth c Q C fin H locs cells slots ls hH hL hl hcl hsl
    rw [ev_run] at hr
    split at hr
    · cases hr
    next i nx a b w hop =>
    have hchk := pg_ok hop
    split at hr
    · next r0 hret =>
      cases hr
      have hq := ev_ret_len hret
      have hc := hchk
      unfold ev_chk at hc
      simp only [Bool.and_eq_true, Bool.or_eq_true, decide_eq_true_eq, hq.2, hq.1, Bool.false_eq_true, false_or] at hc
      obtain ⟨⟨⟨hd0, hle⟩, hsw⟩, hc2⟩ := hc
      exact fin i pc st H locs cells slots ls (by rw [hd0, hsw, Nat.add_sub_cancel_left]) hret hH hl (by omega) (by omega)
    · split at hr
      · next as rest hcal =>
        split at hr
        · next A0 hent =>
          split at hr
          · next v h1 hcallee =>
            have e1 := ev_mono _ _ _ _ _ _ _ _ _ hcallee
            have e2 := ev_mono _ _ _ _ _ _ _ _ _ hr
            obtain ⟨hnx, hRun⟩ := ev_calrun (below := below) (e := e) (locs := locs) (cells := cells) (slots := slots) (v := v) (h1 := h1) (mc := h1.1 - h.1) (ms := h1.2.1 - h.2.1) C hchk hH hL hcal (fun hm => ev_met ih hcallee hent hm l) ⟨by omega, by omega⟩
            refine ev_wcall hRun hl (fun H1 locs1 hH1 hl1 => ?_)
            rw [← hnx]
            exact ih M nx A (v.toList ++ rest) h1 r h' hr p l e R s m args below meth c Q C fin H1 locs1 _ _ ls hH1 hL hl1 (by omega) (by omega)
          · cases hr
        · cases hr
      · split at hr
        · next pc' A' st' h2 hone =>
          have e1 := ev_one_mono hone
          have e2 := ev_mono _ _ _ _ _ _ _ _ _ hr
          exact ev_one_ok C hchk hH hl hL hone (by omega) (by omega) (fun ls' hL' H' locs' cells' slots' hH' hl' q1 q2 => ih M pc' A' st' h2 r h' hr p l e R s m args below meth c Q C fin H' locs' cells' slots' ls' hH' hL' hl' (by omega) (by omega))
        · cases hr
end
