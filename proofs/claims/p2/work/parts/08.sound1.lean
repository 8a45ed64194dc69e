/-! What the tables' classes are (decided); what a state must give (ev_K); a machine's heap holds the evaluator's (ev_HR). -/
def pg_cP (c : Nat) (q : vw_C) : Prop := (∀ w ∈ u_ws q.1 q.2.1 q.2.2, w ∈ pg_ws) ∧ (∀ k, k < q.2.2 → parseFieldDescriptor (q.2.1 k).2.2.1 = some (pg_t c k)) ∧ (∀ a, a < q.2.2 → ∀ b, b < q.2.2 → a ≠ b → (q.2.1 a).2.1 ≠ (q.2.1 b).2.1) ∧ Cond.instantiable q.1 q.2.2 ∈ pg_ws ∧ Cond.initialized q.1 ∈ pg_ws ∧ (∀ j, j < q.2.2 → defaultValue (pg_t c j) = vp_V (pg_D.getD c []) j) ∧ (pg_D.getD c []).length = q.2.2
set_option maxRecDepth 100000 in
theorem pg_c0 : pg_cP 0 ("TermTable$Reader", pg_T0, 3) := ⟨by decide +kernel, by decide +kernel, by decide +kernel, by decide +kernel, by decide +kernel, by decide +kernel, by decide +kernel⟩
set_option maxRecDepth 100000 in
theorem pg_c1 : pg_cP 1 ("TermTable$Row", pg_T1, 2) := ⟨by decide +kernel, by decide +kernel, by decide +kernel, by decide +kernel, by decide +kernel, by decide +kernel, by decide +kernel⟩
set_option maxRecDepth 100000 in
theorem pg_c2 : pg_cP 2 ("TermTable$Term", pg_T2, 5) := ⟨by decide +kernel, by decide +kernel, by decide +kernel, by decide +kernel, by decide +kernel, by decide +kernel, by decide +kernel⟩
set_option maxRecDepth 100000 in
theorem pg_c3 : pg_cP 3 ("TermTable$Terms", pg_T3, 3) := ⟨by decide +kernel, by decide +kernel, by decide +kernel, by decide +kernel, by decide +kernel, by decide +kernel, by decide +kernel⟩
set_option maxRecDepth 100000 in
theorem pg_c4 : pg_cP 4 ("TermTable$Writer", pg_T4, 2) := ⟨by decide +kernel, by decide +kernel, by decide +kernel, by decide +kernel, by decide +kernel, by decide +kernel, by decide +kernel⟩
set_option maxRecDepth 100000 in
theorem pg_c5 : pg_cP 5 ("TermTable", pg_T5, 5) := ⟨by decide +kernel, by decide +kernel, by decide +kernel, by decide +kernel, by decide +kernel, by decide +kernel, by decide +kernel⟩
set_option maxRecDepth 100000 in
theorem pg_c6 : pg_cP 6 ("TermTableModel", pg_T6, 24) := ⟨by decide +kernel, by decide +kernel, by decide +kernel, by decide +kernel, by decide +kernel, by decide +kernel, by decide +kernel⟩
theorem pg_cok (c : Nat) (q : vw_C) (h : pg_cl[c]? = some q) : pg_cP c q := by
  match c, h with
  | 0, h => exact (Option.some.inj h) ▸ pg_c0
  | 1, h => exact (Option.some.inj h) ▸ pg_c1
  | 2, h => exact (Option.some.inj h) ▸ pg_c2
  | 3, h => exact (Option.some.inj h) ▸ pg_c3
  | 4, h => exact (Option.some.inj h) ▸ pg_c4
  | 5, h => exact (Option.some.inj h) ▸ pg_c5
  | 6, h => exact (Option.some.inj h) ▸ pg_c6
  | n + 7, h => cases h
def ev_A (H0 : Heap) : Nat → Prop := fun q => H0.size ≤ q
def ev_K (D : va_G) (dA : Nat → ClassId) (X : ev_X) (H0 : Heap) (s : State) : Prop :=
  (∀ (c : Nat) (q : vw_C), pg_cl[c]? = some q → u_Kn s q.1 q.2.1 q.2.2 (D.1 c) (D.2 c)) ∧
  (∀ (t : Nat) (ty : FieldType), pg_ty[t]? = some ty → ArrOfT s (dA t) ty ∧ va_RA s (dA t) ty) ∧
  (∀ q ∈ pg_str, vk_R q.1 q.2.1 (pg_txt.getD q.2.2 "") (X.2.1 q.2.2) s) ∧
  (∀ o k : Nat, X.2.2.2.1 o = some k → va_O "java/lang/String" o (ev_A H0) s H0 ∧ va_OF "java/lang/String" "coder" "B" (.int 0) o (ev_A H0) s H0 ∧ va_OF "java/lang/String" "value" "[B" (.ref (X.2.2.1 k)) o (ev_A H0) s H0) ∧
  (∀ o k : Nat, X.2.2.2.2.1 o = some k → va_T .byte o (pg_byt.getD k []).length (fun j => .int ((pg_byt.getD k []).getD j 0)) (ev_A H0) s H0) ∧
  va_Z "java/lang/String" "COMPACT_STRINGS" "Z" (.int 1) (ev_A H0) s H0 ∧ va_Z "jdk/internal/util/Preconditions" "SIOOBE_FORMATTER" "Ljava/util/function/BiFunction;" X.2.2.2.2.2 (ev_A H0) s H0 ∧
  (va_X X.1.1 X.1.2.1 X.1.2.2 s H0 ∧ X.1.1 < H0.size) ∧
  (∀ w ∈ lw_tbl, pg_isN w = true → va_Nw w s) ∧ va_AO "TermTable$Term" s
theorem ev_K.warm {D : va_G} {dA : Nat → ClassId} {X : ev_X} {H0 : Heap} {s U : State} (hW : s.WarmedH U.vm) (h : ev_K D dA X H0 s) : ev_K D dA X H0 U := by
  have hvm := hW.alike
  obtain ⟨h1, h2, h3, h4, h5, h6, h6b, h7, h8, h9⟩ := h
  refine ⟨fun c q hq => u_Kn_moved hvm (h1 c q hq), fun t ty ht => ⟨arrOfT_moved hvm (h2 t ty ht).1, (h2 t ty ht).2.moved hvm⟩, fun q hq => vk_R.warm hW (h3 q hq), fun o k ho => ⟨va_O.moved hvm (h4 o k ho).1, va_OF.moved hvm (h4 o k ho).2.1, va_OF.moved hvm (h4 o k ho).2.2⟩, fun o k ho => va_T.moved hvm (h5 o k ho), va_Z.moved hvm h6, va_Z.moved hvm h6b, ⟨va_X.moved hvm h7.1, h7.2⟩, fun w hw hn => ?_, va_AO.moved hvm h9⟩
  have h := h8 w hw hn
  cases w <;> first | exact va_Nw.warmF hW h | exact va_Nw.warmM hW h | cases hn
def ev_c (dA : Nat → ClassId) : va_E → va_E
  | .inl a => .inl (dA a.1, a.2)
  | .inr o => .inr o
def ev_HR (D : va_G) (dA : Nat → ClassId) (H0 : Heap) (h : ev_H) (H : Heap) : Prop := H.size = h.1 ∧ H0.size ≤ h.1 ∧ (∀ q : Nat, q < H0.size → H[q]? = H0[q]?) ∧ ∀ (a : Nat) (e : va_E), h.2.2 a = some e → H0.size ≤ a ∧ va_at D pg_cl (a, ev_c dA e) H
theorem ev_HR.set {D : va_G} {dA : Nat → ClassId} {H0 H H1 : Heap} {h : ev_H} {a : Nat} {e0 e : va_E} (hH : ev_HR D dA H0 h H) (ha : h.2.2 a = some e0) (hat : va_at D pg_cl (a, ev_c dA e) H1) (z : H1.size = H.size) (oq : ∀ q : Nat, q ≠ a → H1[q]? = H[q]?) : ev_HR D dA H0 (ev_set h a e) H1 := by
  obtain ⟨g1, g2, g3, g4⟩ := hH
  have hlo := (g4 a e0 ha).1
  refine ⟨z.trans g1, g2, fun q hq => (oq q (by omega)).trans (g3 q hq), fun b f hb => ?_⟩
  by_cases hba : b = a
  · subst hba
    have hf : some e = some f := by simpa [ev_set, va_up] using hb
    cases hf
    exact ⟨hlo, hat⟩
  · have hb' : h.2.2 b = some f := by simpa [ev_set, va_up, hba] using hb
    exact ⟨(g4 b f hb').1, (g4 b f hb').2.kept (oq b hba)⟩
theorem ev_HR.push {D : va_G} {dA : Nat → ClassId} {H0 H H1 : Heap} {h : ev_H} {n : Nat} {e : va_E} (hH : ev_HR D dA H0 h H) (hat : va_at D pg_cl (h.1, ev_c dA e) H1) (z : H1.size = H.size + 1) (oq : ∀ q : Nat, q < H.size → H1[q]? = H[q]?) : ev_HR D dA H0 (ev_new h n e) H1 := by
  obtain ⟨g1, g2, g3, g4⟩ := hH
  refine ⟨by rw [z, g1]; rfl, Nat.le_succ_of_le g2, fun q hq => (oq q (by omega)).trans (g3 q hq), fun b f hb => ?_⟩
  by_cases hba : b = h.1
  · subst hba
    have hf : some e = some f := by simpa [ev_new, va_up] using hb
    cases hf
    exact ⟨g2, hat⟩
  · have hb' : h.2.2 b = some f := by simpa [ev_new, va_up, hba] using hb
    have hlt := (g4 b f hb').2.lt
    exact ⟨(g4 b f hb').1, (g4 b f hb').2.kept (oq b hlt)⟩
/-- what holds inside method M -/
def ev_Cx (D : va_G) (dA : Nat → ClassId) (X : ev_X) (H0 : Heap) (p : Program) (R : Room) (s : State) (m : MethodId) (args : Array Value) (meth : Method) (c : Code) (M : Nat) : Prop :=
  p.tables.exec = Jvm.exec ∧ c.code = pg_b M ∧ meth.sig.returnType = pg_r M ∧ c.maxLocals = pg_L M ∧ s.vm.findClass (pg_y M).cls = some m.cls ∧ (∀ w ∈ pg_ws, w.before args s = true) ∧ meth.locks = false ∧ ((pg_y M).name = "<init>" → meth.name = "<init>") ∧ ev_K D dA X H0 s ∧ pg_f M ≤ R.frames ∧ pg_w M ≤ R.locals
