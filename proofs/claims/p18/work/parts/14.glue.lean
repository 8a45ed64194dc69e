section
/-! THE CLAIM OUT OF ONE WALK OF THE LAW'S BODY. Your part is whole_start (and what it stands on); all else here is the same for every law, but numbers. -/
def R_law : String := "TermTableLaw"
def lw_P (b : Addr) (xs : List Int32) (args : Array Value) (s : State) : Prop := args = #[.ref b] ∧ s.IntsAt b xs ∧ xs.length ≤ 2048 ∧ (Jvm.Cond.and given_1 narrow_1).before args s = true
def lw_Q (_ : Array Value) (s : State) (o : Outcome) (t : State) : Prop := o = .returned (some (.int 1)) ∧ Framed s o t [] 600000 7302249
def lw_Z (below : List Frame) (a : Array Value) (s : State) : State → Prop := fun t => ∃ o, t.status = .running ∧ Ended t below o ∧ lw_Q a s o t
/-- the law's own end, with 1 on the stack, nothing written that was there before, its room as the claim has it -/
theorem lw_ret {p : Program} {l : Launch} {e : Env} {s : State} {m : MethodId} {below : List Frame} {meth : Method} {c : Code} {b : Nat} (hx : p.tables.exec = Jvm.exec) (hb : c.code = code) (hr : meth.sig.returnType = ret) (hlocks : meth.locks = false) {pc : Nat} {H : Heap} {ls : Array Slot} (hdg : decode code pc = .ok (.ireturn, 1)) : W p l e room_1 s m #[Value.ref b] below meth c H [] 600000 7302249 (lw_Z below #[Value.ref b] s) (F0 m pc ls [.int 1]) := by
  intro T hT X
  obtain ⟨fs, hret, hrun, hended, hW, hframe⟩ := X.leave (v := some (.int 1)) (hlocks := hlocks) (fun h => by rw [hr] at h; cases h)
  have hmeth' : T.vm.method? m = some meth := X.method'
  refine ⟨T.setFrames fs, ?_, .returned (some (.int 1)), hrun, hended, rfl, ⟨_, rfl⟩, hW, hframe⟩
  jvm_step X.here [X.here.top, hx, hb, hdg, hmeth', hr, ret, narrow_b1]
  (try refine ⟨rfl, ?_⟩); (try refine ⟨rfl, ?_⟩)
  first | (intro acts; rw [hret _ acts rfl rfl rfl]) | rw [hret _ _ rfl rfl rfl]
  exact Steps.refl _
/-- what holds at the law's entry: the machine, the code, the tables' words (any of lw_tbl by 'hts w (by decide +kernel)'), the script of L ints xs at the cell b, what the Statement gives of the start (any of its parts by flat_of_before) -/
def lw_At (p : Program) (s : State) (m : MethodId) (meth : Method) (c : Code) (b L : Nat) (xs : Nat → Int32) : Prop :=
  p.tables.exec = Jvm.exec ∧ c.code = code ∧ meth.sig.returnType = ret ∧ c.maxLocals = 4 ∧ s.vm.findClass R_law = some m.cls ∧ (∀ w ∈ lw_tbl, w.before #[Value.ref b] s = true) ∧ va_X b L xs s s.heap ∧ b < s.heap.size ∧ meth.locks = false ∧ (Jvm.Cond.and given_1 narrow_1).before #[Value.ref b] s = true
/-! From the evaluator to the law's own walk. -/
def pg_s1 : List (String × Nat) := [("TermTable$Reader", 69), ("TermTable$Reader", 75), ("TermTable$Reader", 144), ("TermTable$Reader", 156), ("TermTable$Reader", 158), ("TermTable$Reader", 160), ("TermTable$Writer", 40), ("TermTable$Writer", 101), ("TermTable$Writer", 82), ("TermTable$Writer", 84), ("TermTable$Writer", 86), ("TermTable$Writer", 80)]
def ev_tm (i : Nat) : Term := .string (pg_s1.getD i ("", 0)).1 (pg_s1.getD i ("", 0)).2
abbrev ev_fl0 : List Cond := flatC (Jvm.Cond.and given_1 narrow_1)
/-- the outside of a run: the script, the String constants -/
def ev_XW (X : ev_X) (c0 : Nat) : Prop := X.1.1 < c0 ∧ (∀ k, k < 12 → X.2.1 k < c0 ∧ X.2.2.1 k < c0 ∧ X.2.2.2.1 (X.2.1 k) = some k ∧ (∃ k', X.2.2.2.2.1 (X.2.2.1 k) = some k' ∧ pg_byt.getD k' [] = pg_byt.getD k []) ∧ X.2.2.1 k ≠ X.1.1) ∧ (X.2.2.2.2.2 = .null ∨ ∃ t, X.2.2.2.2.2 = .ref t)
/-- WHAT IS LEFT: the law, evaluated, answers 1, in its room -/
def ev_Law : Prop := ∀ (X : ev_X) (c0 : Nat), ev_XW X c0 → X.1.2.1 ≤ 2048 → ∃ n h', ev_run X n 157 0 [.ref X.1.1, ev_dead, ev_dead, ev_dead] [] (c0, 0, fun _ => none) = some (some (.int 1), h') ∧ h'.1 ≤ c0 + 600000 ∧ h'.2.1 ≤ 7302249
theorem ev_inv (ad : Nat → Nat) : ∃ f : Nat → Option Nat, (∀ o k, f o = some k → k < 12 ∧ ad k = o) ∧ (∀ k, k < 12 → ∃ k', f (ad k) = some k') := by
  have h0 : ∀ o : Nat, ∃ r : Option Nat, (∀ k, r = some k → k < 12 ∧ ad k = o) ∧ (∀ k, k < 12 → ad k = o → ∃ k', r = some k') := by
    intro o
    by_cases h : ∃ k, k < 12 ∧ ad k = o
    · obtain ⟨k, hk⟩ := h
      exact ⟨some k, fun k' e => by cases e; exact hk, fun _ _ _ => ⟨k, rfl⟩⟩
    · exact ⟨none, fun k e => (by cases e), fun k h1 h2 => absurd ⟨k, h1, h2⟩ h⟩
  obtain ⟨f, hf⟩ := Classical.axiomOfChoice h0
  exact ⟨f, fun o k e => (hf o).1 k e, fun k hk => (hf (ad k)).2 k hk rfl⟩
theorem ev_m1 : ∀ i, i < 12 → Cond.exactly (ev_tm i) "java/lang/String" ∈ ev_fl0 := by decide +kernel
theorem ev_m2 : ∀ i, i < 12 → Cond.eq (.field (ev_tm i) "java/lang/String" "coder" "B") (.int 0) ∈ ev_fl0 := by decide +kernel
theorem ev_m3 : ∀ i, i < 12 → Cond.arrayOf (.field (ev_tm i) "java/lang/String" "value" "[B") .byte ∈ ev_fl0 := by decide +kernel
theorem ev_m4 : ∀ i, i < 12 → Cond.eq (.length (.field (ev_tm i) "java/lang/String" "value" "[B")) (.int (Int32.ofNat ((pg_byt.map List.length).getD i 0))) ∈ ev_fl0 := by decide +kernel
theorem ev_m5 : ∀ i, i < 12 → ∀ j, j < (pg_byt.map List.length).getD i 0 → Cond.eq (.elem (.field (ev_tm i) "java/lang/String" "value" "[B") (.int (Int32.ofNat j))) (.int ((pg_byt.getD i []).getD j 0)) ∈ ev_fl0 := by decide +kernel
theorem ev_m6_0 : ∀ j, j < 12 → 0 ≠ j → (Cond.not (Cond.eq (ev_tm 0) (ev_tm j)) ∈ ev_fl0 ∨ Cond.not (Cond.eq (ev_tm j) (ev_tm 0)) ∈ ev_fl0) := by decide +kernel
theorem ev_m6_1 : ∀ j, j < 12 → 1 ≠ j → (Cond.not (Cond.eq (ev_tm 1) (ev_tm j)) ∈ ev_fl0 ∨ Cond.not (Cond.eq (ev_tm j) (ev_tm 1)) ∈ ev_fl0) := by decide +kernel
theorem ev_m6_2 : ∀ j, j < 12 → 2 ≠ j → (Cond.not (Cond.eq (ev_tm 2) (ev_tm j)) ∈ ev_fl0 ∨ Cond.not (Cond.eq (ev_tm j) (ev_tm 2)) ∈ ev_fl0) := by decide +kernel
theorem ev_m6_3 : ∀ j, j < 12 → 3 ≠ j → (Cond.not (Cond.eq (ev_tm 3) (ev_tm j)) ∈ ev_fl0 ∨ Cond.not (Cond.eq (ev_tm j) (ev_tm 3)) ∈ ev_fl0) := by decide +kernel
theorem ev_m6_4 : ∀ j, j < 12 → 4 ≠ j → (Cond.not (Cond.eq (ev_tm 4) (ev_tm j)) ∈ ev_fl0 ∨ Cond.not (Cond.eq (ev_tm j) (ev_tm 4)) ∈ ev_fl0) := by decide +kernel
theorem ev_m6_5 : ∀ j, j < 12 → 5 ≠ j → (Cond.not (Cond.eq (ev_tm 5) (ev_tm j)) ∈ ev_fl0 ∨ Cond.not (Cond.eq (ev_tm j) (ev_tm 5)) ∈ ev_fl0) := by decide +kernel
theorem ev_m6_6 : ∀ j, j < 12 → 6 ≠ j → (Cond.not (Cond.eq (ev_tm 6) (ev_tm j)) ∈ ev_fl0 ∨ Cond.not (Cond.eq (ev_tm j) (ev_tm 6)) ∈ ev_fl0) := by decide +kernel
theorem ev_m6_7 : ∀ j, j < 12 → 7 ≠ j → (Cond.not (Cond.eq (ev_tm 7) (ev_tm j)) ∈ ev_fl0 ∨ Cond.not (Cond.eq (ev_tm j) (ev_tm 7)) ∈ ev_fl0) := by decide +kernel
theorem ev_m6_8 : ∀ j, j < 12 → 8 ≠ j → (Cond.not (Cond.eq (ev_tm 8) (ev_tm j)) ∈ ev_fl0 ∨ Cond.not (Cond.eq (ev_tm j) (ev_tm 8)) ∈ ev_fl0) := by decide +kernel
theorem ev_m6_9 : ∀ j, j < 12 → 9 ≠ j → (Cond.not (Cond.eq (ev_tm 9) (ev_tm j)) ∈ ev_fl0 ∨ Cond.not (Cond.eq (ev_tm j) (ev_tm 9)) ∈ ev_fl0) := by decide +kernel
theorem ev_m6_10 : ∀ j, j < 12 → 10 ≠ j → (Cond.not (Cond.eq (ev_tm 10) (ev_tm j)) ∈ ev_fl0 ∨ Cond.not (Cond.eq (ev_tm j) (ev_tm 10)) ∈ ev_fl0) := by decide +kernel
theorem ev_m6_11 : ∀ j, j < 12 → 11 ≠ j → (Cond.not (Cond.eq (ev_tm 11) (ev_tm j)) ∈ ev_fl0 ∨ Cond.not (Cond.eq (ev_tm j) (ev_tm 11)) ∈ ev_fl0) := by decide +kernel
theorem ev_m6 : ∀ i, i < 12 → ∀ j, j < 12 → i ≠ j → (Cond.not (Cond.eq (ev_tm i) (ev_tm j)) ∈ ev_fl0 ∨ Cond.not (Cond.eq (ev_tm j) (ev_tm i)) ∈ ev_fl0) := by
  intro i hi
  match i, hi with
  | 0, _ => exact ev_m6_0
  | 1, _ => exact ev_m6_1
  | 2, _ => exact ev_m6_2
  | 3, _ => exact ev_m6_3
  | 4, _ => exact ev_m6_4
  | 5, _ => exact ev_m6_5
  | 6, _ => exact ev_m6_6
  | 7, _ => exact ev_m6_7
  | 8, _ => exact ev_m6_8
  | 9, _ => exact ev_m6_9
  | 10, _ => exact ev_m6_10
  | 11, _ => exact ev_m6_11
  | n + 12, h => exact absurd h (by omega)
theorem ev_m7 : ∀ q ∈ pg_str, q.2.2 < 12 ∧ Cond.stringRef q.1 q.2.1 (pg_txt.getD q.2.2 "") ∈ lw_tbl ∧ (ev_tm q.2.2 = .string q.1 q.2.1 ∨ Cond.eq (ev_tm q.2.2) (.string q.1 q.2.1) ∈ ev_fl0) := by decide +kernel
theorem ev_m8 : ∀ i, i < 12 → (pg_byt.map List.length).getD i 0 < 2 ^ 31 ∧ (pg_byt.map List.length).getD i 0 = (pg_byt.getD i []).length := by decide +kernel
theorem ev_m9 : Cond.laysStatic "java/lang/String" "COMPACT_STRINGS" "Z" ∈ lw_tbl ∧ Cond.initialized "java/lang/String" ∈ lw_tbl ∧ Cond.laysStatic "jdk/internal/util/Preconditions" "SIOOBE_FORMATTER" "Ljava/util/function/BiFunction;" ∈ lw_tbl ∧ Cond.initialized "jdk/internal/util/Preconditions" ∈ lw_tbl ∧ Cond.arrayOver (.object "TermTable$Term") ∈ lw_tbl := by decide +kernel
theorem ev_m10 : Cond.eq (.static "java/lang/String" "COMPACT_STRINGS" "Z") (.int 1) ∈ ev_fl0 ∧ Cond.isRef (.static "jdk/internal/util/Preconditions" "SIOOBE_FORMATTER" "Ljava/util/function/BiFunction;") ∈ ev_fl0 := by decide +kernel
theorem ev_gext (l l' : List Int32) (h : l.length = l'.length) (hh : ∀ j, j < l.length → l.getD j 0 = l'.getD j 0) : l = l' := by
  refine List.ext_getElem h (fun j j1 j2 => ?_)
  have := hh j j1
  rw [List.getD_eq_getElem?_getD, List.getD_eq_getElem?_getD, List.getElem?_eq_getElem j1, List.getElem?_eq_getElem j2] at this
  exact this
theorem ev_Tsame {t N N' : Nat} {f f' : Nat → Value} {A : Nat → Prop} {s : State} {H : Heap} (h : va_T .byte t N f A s H) (h' : va_T .byte t N' f' A s H) (hN : N < 2 ^ 31) (hN' : N' < 2 ^ 31) : N = N' ∧ ∀ j, j < N → f j = f' j := by
  obtain ⟨c1, a1, a2, a3, a4, a5, a6, a7⟩ := h
  obtain ⟨c2, b1, b2, b3, b4, b5, b6, b7⟩ := h'
  cases a1.symm.trans b1
  have e1 : nI N = nI N' := a5.symm.trans b5
  have e2 : N = N' := (nI_eq hN hN').mp e1
  exact ⟨e2, fun j hj => Option.some.inj ((a6 j hj).symm.trans (b6 j (by omega)))⟩
set_option maxHeartbeats 4000000 in
theorem whole_of (hlaw : ev_Law) {p : Program} {e : Env} {s : State} {m : MethodId} {below : List Frame} {meth : Method} {c : Code} (l : Launch) {b L : Nat} {xs : Nat → Int32} (hL : L ≤ 2048) (C0 : lw_At p s m meth c b L xs) : W p l e room_1 s m #[Value.ref b] below meth c s.heap [] 0 0 (lw_Z below #[Value.ref b] s) (entryFrame m ([Value.ref b] : List Value).toArray 4) := by
  obtain ⟨hx, hb, hr, hml, hown, hts, hX, hbl, hlocks, hgv⟩ := C0
  have hs := flat_of_before _ hgv
  have hA : ∀ a : Nat, a < s.heap.size → ¬ ev_A s.heap a := fun a h => Nat.not_le.mpr h
  have htW : ∀ w ∈ pg_ws, w.before #[Value.ref b] s = true := fun w hw => hts w (List.mem_filter.mp hw).1
  obtain ⟨dd, hdd⟩ : ∃ dd : Nat → ClassId × (Nat → Nat), ∀ (k : Nat) (q : vw_C), pg_cl[k]? = some q → u_Kn s q.1 q.2.1 q.2.2 (dd k).1 (dd k).2 := by
    have h0 : ∀ k : Nat, ∃ d : ClassId × (Nat → Nat), ∀ q : vw_C, pg_cl[k]? = some q → u_Kn s q.1 q.2.1 q.2.2 d.1 d.2 := by
      intro k
      cases hk : pg_cl[k]? with
      | none => exact ⟨(0, fun _ => 0), fun q h => by cases h⟩
      | some q =>
        obtain ⟨c1, -, -, c4, -⟩ := pg_cok k q hk
        obtain ⟨cC, iS, hkn⟩ := u_known (C := q.1) (T := q.2.1) (N := q.2.2) (n := q.2.2) htW c1 (htW _ c4)
        exact ⟨(cC, iS), fun q' h => by cases h; exact hkn⟩
    obtain ⟨f, hf⟩ := Classical.axiomOfChoice h0
    exact ⟨f, hf⟩
  obtain ⟨dA, hdA⟩ : ∃ dA : Nat → ClassId, ∀ (t : Nat) (ty : FieldType), pg_ty[t]? = some ty → ArrOfT s (dA t) ty ∧ va_RA s (dA t) ty := by
    have h0 : ∀ t : Nat, ∃ cA : ClassId, ∀ ty : FieldType, pg_ty[t]? = some ty → ArrOfT s cA ty ∧ va_RA s cA ty := by
      intro t
      match t with
      | 0 =>
        obtain ⟨cA, kA, comp, g1, g2, g3⟩ := Cond.arrayClass_spec (htW _ pg_arr0)
        exact ⟨cA, fun ty h => by cases h; exact ⟨fun n z => ⟨fun k h => (by cases h), kA, g2, comp, g3⟩, g1⟩⟩
      | 1 =>
        obtain ⟨cA, kA, comp, g1, g2, g3⟩ := Cond.arrayClass_spec (htW _ pg_arr1)
        exact ⟨cA, fun ty h => by cases h; exact ⟨fun n z => ⟨fun k h => (by cases h), kA, g2, comp, g3⟩, g1⟩⟩
      | 2 =>
        obtain ⟨comp, cA, kA, g1, g2, g3, g4, g5⟩ := Cond.arrayOver_spec (hts _ ev_m9.2.2.2.2)
        exact ⟨cA, fun ty h => by cases h; exact ⟨fun n z => ⟨fun k h => (by cases h), kA, g3, comp, g4⟩, kA, comp, g3, g4, g1, g5⟩⟩
      | n + 3 => exact ⟨0, fun ty h => by cases h⟩
    obtain ⟨f, hf⟩ := Classical.axiomOfChoice h0
    exact ⟨f, hf⟩
  obtain ⟨adK, adV, hS, hev⟩ := vk_Sof (args := #[Value.ref b]) (s := s) (N := 12) (tm := ev_tm) (len := pg_byt.map List.length) (byt := pg_byt) (A := ev_A s.heap) (fun i hi => (ev_m8 i hi).1) (fun i hi => hs _ (ev_m1 i hi)) (fun i hi => hs _ (ev_m2 i hi)) (fun i hi => hs _ (ev_m3 i hi)) (fun i hi => hs _ (ev_m4 i hi)) (fun i hi j hj => hs _ (ev_m5 i hi j hj)) (fun i j hi hj hij => (ev_m6 i hi j hj hij).imp (hs _) (hs _)) hA
  obtain ⟨six, hs1, hs2⟩ := ev_inv adK
  obtain ⟨vix, hv1, hv2⟩ := ev_inv adV
  have hZ := va_Zof (A := ev_A s.heap) (hts _ ev_m9.1) (hts _ ev_m9.2.1) (va_eqi (hs _ ev_m10.1)) hA
  obtain ⟨fm, hfm, hZ2⟩ : ∃ fm : Value, (fm = .null ∨ ∃ t, fm = .ref t) ∧ va_Z "jdk/internal/util/Preconditions" "SIOOBE_FORMATTER" "Ljava/util/function/BiFunction;" fm (ev_A s.heap) s s.heap := by
    rcases va_Zqof (A := ev_A s.heap) (hts _ ev_m9.2.2.1) (hts _ ev_m9.2.2.2.1) (hs _ ev_m10.2) hA with h | ⟨t, h⟩
    · exact ⟨.null, Or.inl rfl, h⟩
    · exact ⟨.ref t, Or.inr ⟨t, rfl⟩, h⟩
  have hT : ∀ k, k < 12 → va_T .byte (adV k) (pg_byt.getD k []).length (fun j => .int ((pg_byt.getD k []).getD j 0)) (ev_A s.heap) s s.heap := fun k hk => by
    have := (hS.1 k hk).2.2.2
    rw [(ev_m8 k hk).2] at this
    exact this
  have hK : ev_K (fun k => (dd k).1, fun k => (dd k).2) dA ((b, L, xs), adK, adV, six, vix, fm) s.heap s := by
    refine ⟨hdd, hdA, fun q hq => ?_, fun o k ho => ?_, fun o k ho => ?_, hZ, hZ2, ⟨hX, hbl⟩, fun w hw hn => ?_, va_AO.of (hts _ ev_m9.2.2.2.2)⟩
    · obtain ⟨h1, h2, h3⟩ := ev_m7 q hq
      refine vk_R.of (hts _ h2) ?_
      have h4 := hev q.2.2 h1
      rcases h3 with h3 | h3
      · rw [← h3]; exact h4
      · exact va_eqR (hs _ h3) h4
    · obtain ⟨h1, rfl⟩ := hs1 o k ho
      exact ⟨(hS.1 k h1).1, (hS.1 k h1).2.1, (hS.1 k h1).2.2.1⟩
    · obtain ⟨h1, rfl⟩ := hv1 o k ho
      exact hT k h1
    · have hq := hts w hw
      cases w <;> first | (cases hn; done) | exact va_Nw.of rfl hq
  have hXW : ev_XW ((b, L, xs), adK, adV, six, vix, fm) s.heap.size := by
    refine ⟨hbl, fun k hk => ⟨?_, ?_, ?_, ?_, ?_⟩, hfm⟩
    · obtain ⟨cell, g1, -⟩ := (hS.1 k hk).1
      exact (Array.getElem?_eq_some_iff.mp g1).1
    · obtain ⟨cell, g1, -⟩ := hT k hk
      exact (Array.getElem?_eq_some_iff.mp g1).1
    · obtain ⟨k', hk'⟩ := hs2 k hk
      obtain ⟨h1, h2⟩ := hs1 _ _ hk'
      rw [hS.2 k' k h1 hk h2] at hk'
      exact hk'
    · obtain ⟨k', hk'⟩ := hv2 k hk
      obtain ⟨h1, h2⟩ := hv1 _ _ hk'
      refine ⟨k', hk', ?_⟩
      have e1 := hT k hk
      have e2 := hT k' h1
      rw [h2] at e2
      obtain ⟨g1, g2⟩ := ev_Tsame e2 e1 (by rw [← (ev_m8 k' h1).2]; exact (ev_m8 k' h1).1) (by rw [← (ev_m8 k hk).2]; exact (ev_m8 k hk).1)
      exact ev_gext _ _ g1 (fun j j1 => Value.int.inj (g2 j j1))
    · intro (e : adV k = b)
      obtain ⟨cell, g1, ⟨-, kk, g2, comp, g3⟩, -⟩ := hT k hk
      obtain ⟨scr, q1, ⟨-, kk', q2, comp', q3⟩, -⟩ := hX
      rw [e] at g1
      cases g1.symm.trans q1
      cases g2.symm.trans q2
      rw [g3] at q3
      cases q3
  obtain ⟨n, h', hrun, hc1, hc2⟩ := hlaw _ _ hXW hL
  rw [lg_entry_eq]
  refine ev_sound _ _ _ _ n 157 0 _ [] _ _ h' hrun p l e room_1 s m #[Value.ref b] below meth c _ ⟨hx, hb, hr, hml, hown, htW, hlocks, fun hq => absurd hq (by decide +kernel), hK, by decide +kernel, by decide +kernel⟩ ?_ s.heap [] 0 0 _ ⟨rfl, Nat.le_refl _, fun _ _ => rfl, fun a e h => by cases h⟩ (ev_entry (L := 4) (as := [Value.ref b]) rfl) (fun q hq => by cases hq) (by show 0 + h'.1 ≤ 600000 + s.heap.size; omega) (by show 0 + h'.2.1 ≤ 7302249 + 0; omega)
  intro i pc st H locs cells slots ls hd hret hH hl hcc hss
  unfold ev_ret at hret
  split at hret
  · split at hret
    · split at hret
      · split at hret
        · cases hret
          refine va_forget hl ?_
          exact W.widen (k := 600000) (n := 7302249) hcc hss (lw_ret hx hb hr hlocks hd)
        · cases hret
      · cases hret
    · cases hret
  · split at hret
    · split at hret <;> cases hret
    · cases hret
  · split at hret
    · split at hret <;> cases hret
    · cases hret
  · split at hret
    · split at hret <;> cases hret
    · cases hret
  · cases hret
end
