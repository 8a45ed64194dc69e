section
/-! An evaluator of bytecode over a pure heap (own work): its words. -/
abbrev ev_H : Type := Nat × Nat × (Nat → Option va_E)

def ev_dead : Value := .retAddr 0
def ev_len : Instr → Nat
  | .bipush _ => 2 | .iload _ => 2 | .lload _ => 2 | .aload _ => 2 | .istore _ => 2 | .lstore _ => 2 | .astore _ => 2 | .ldc _ => 2 | .newarray _ => 2
  | .sipush _ => 3 | .iinc _ _ => 3 | .ifCond _ _ => 3 | .if_icmp _ _ => 3 | .if_acmp _ _ => 3 | .ifnull _ => 3 | .ifnonnull _ => 3 | .goto _ => 3 | .ldc2_w _ => 3 | .ldc_w _ => 3
  | .getfield _ => 3 | .putfield _ => 3 | .getstatic _ => 3 | .invokevirtual _ => 3 | .invokespecial _ => 3 | .invokestatic _ => 3 | .new _ => 3 | .anewarray _ => 3 | .checkcast _ => 3 | .instanceof _ => 3
  | .invokeinterface _ _ => 5
  | _ => 1
-- stack shapes
def ev_ii (f : Int32 → Int32 → Option Value) : List Value → Option (List Value)
  | .int y :: .int x :: r => match f x y with
    | some v => some (v :: r)
    | none => none
  | _ => none
def ev_ll (f : Int64 → Int64 → Option Value) : List Value → Option (List Value)
  | .long y :: .long x :: r => match f x y with
    | some v => some (v :: r)
    | none => none
  | _ => none
def ev_li (f : Int64 → Int32 → Value) : List Value → Option (List Value)
  | .int y :: .long x :: r => some (f x y :: r)
  | _ => none
def ev_i1 (f : Int32 → Value) : List Value → Option (List Value)
  | .int x :: r => some (f x :: r)
  | _ => none
def ev_l1 (f : Int64 → Value) : List Value → Option (List Value)
  | .long x :: r => some (f x :: r)
  | _ => none
theorem ev_ii_inv {f : Int32 → Int32 → Option Value} {st st' : List Value} (h : ev_ii f st = some st') : ∃ x y r v, st = .int y :: .int x :: r ∧ f x y = some v ∧ st' = v :: r := by
  unfold ev_ii at h
  split at h
  · split at h
    · cases h; exact ⟨_, _, _, _, rfl, by assumption, rfl⟩
    · cases h
  · cases h
theorem ev_ll_inv {f : Int64 → Int64 → Option Value} {st st' : List Value} (h : ev_ll f st = some st') : ∃ x y r v, st = .long y :: .long x :: r ∧ f x y = some v ∧ st' = v :: r := by
  unfold ev_ll at h
  split at h
  · split at h
    · cases h; exact ⟨_, _, _, _, rfl, by assumption, rfl⟩
    · cases h
  · cases h
theorem ev_li_inv {f : Int64 → Int32 → Value} {st st' : List Value} (h : ev_li f st = some st') : ∃ x y r, st = .int y :: .long x :: r ∧ st' = f x y :: r := by
  unfold ev_li at h
  split at h
  · cases h; exact ⟨_, _, _, rfl, rfl⟩
  · cases h
theorem ev_i1_inv {f : Int32 → Value} {st st' : List Value} (h : ev_i1 f st = some st') : ∃ x r, st = .int x :: r ∧ st' = f x :: r := by
  unfold ev_i1 at h
  split at h
  · cases h; exact ⟨_, _, rfl, rfl⟩
  · cases h
theorem ev_l1_inv {f : Int64 → Value} {st st' : List Value} (h : ev_l1 f st = some st') : ∃ x r, st = .long x :: r ∧ st' = f x :: r := by
  unfold ev_l1 at h
  split at h
  · cases h; exact ⟨_, _, rfl, rfl⟩
  · cases h
def ev_dup : List Value → Option (List Value)
  | v :: r => if v.category = 1 then some (v :: v :: r) else none
  | _ => none
def ev_pop : List Value → Option (List Value)
  | v :: r => if v.category = 1 then some r else none
  | _ => none
def ev_pop2 : List Value → Option (List Value)
  | v :: r => if v.category = 2 then some r else none
  | _ => none
def ev_dupx1 : List Value → Option (List Value)
  | v :: w :: r => if v.category = 1 ∧ w.category = 1 then some (v :: w :: v :: r) else none
  | _ => none
def ev_dup2 : List Value → Option (List Value)
  | v :: r => if v.category = 2 then some (v :: v :: r) else match r with
    | w :: r' => if v.category = 1 ∧ w.category = 1 then some (v :: w :: v :: w :: r') else none
    | _ => none
  | _ => none
def ev_dupx2 : List Value → Option (List Value)
  | v :: w :: x :: r => if v.category = 1 ∧ w.category = 1 ∧ x.category = 1 then some (v :: w :: x :: v :: r) else none
  | _ => none
def ev_dup2x1 : List Value → Option (List Value)
  | v :: w :: r => if v.category = 2 ∧ w.category = 1 then some (v :: w :: v :: r) else none
  | _ => none
/-- what an instruction does to the stack alone; kv: the constant that it loads -/
def ev_st (kv : Value) (i : Instr) (st : List Value) : Option (List Value) := match i with
  | .iconst n => some (.int (Int32.ofInt n) :: st)
  | .bipush n => some (.int (Int8.ofInt n).toInt32 :: st)
  | .sipush n => some (.int (Int16.ofInt n).toInt32 :: st)
  | .lconst n => some (.long (Int64.ofNat n.val) :: st)
  | .ldc _ => match kv with
    | .int v => some (.int v :: st)
    | _ => none
  | .ldc2_w _ => match kv with
    | .long v => some (.long v :: st)
    | _ => none
  | .aconst_null => some (.null :: st)
  | .iadd => ev_ii (fun x y => some (.int (x + y))) st
  | .isub => ev_ii (fun x y => some (.int (x - y))) st
  | .imul => ev_ii (fun x y => some (.int (x * y))) st
  | .iand => ev_ii (fun x y => some (.int (x &&& y))) st
  | .ior => ev_ii (fun x y => some (.int (x ||| y))) st
  | .ixor => ev_ii (fun x y => some (.int (x ^^^ y))) st
  | .idiv => ev_ii (fun x y => if y = 0 then none else some (.int (x / y))) st
  | .irem => ev_ii (fun x y => if y = 0 then none else some (.int (x - x / y * y))) st
  | .ishl => ev_ii (fun x y => some (.int (x <<< (y &&& 31)))) st
  | .ishr => ev_ii (fun x y => some (.int (x >>> (y &&& 31)))) st
  | .iushr => ev_ii (fun x y => some (.int (x.toUInt32 >>> (y.toUInt32 &&& Int32.toUInt32 31)).toInt32)) st
  | .ineg => ev_i1 (fun x => .int (-x)) st
  | .ladd => ev_ll (fun x y => some (.long (x + y))) st
  | .lsub => ev_ll (fun x y => some (.long (x - y))) st
  | .lmul => ev_ll (fun x y => some (.long (x * y))) st
  | .land => ev_ll (fun x y => some (.long (x &&& y))) st
  | .lor => ev_ll (fun x y => some (.long (x ||| y))) st
  | .lxor => ev_ll (fun x y => some (.long (x ^^^ y))) st
  | .ldiv => ev_ll (fun x y => if y = 0 then none else some (.long (x / y))) st
  | .lrem => ev_ll (fun x y => if y = 0 then none else some (.long (x - x / y * y))) st
  | .lcmp => ev_ll (fun x y => some (.int (lg_cmp x y))) st
  | .lneg => ev_l1 (fun x => .long (-x)) st
  | .lushr => ev_li (fun x y => .long (x.toUInt64 >>> (y.toInt64.toUInt64 &&& Int64.toUInt64 63)).toInt64) st
  | .lshl => ev_li (fun x y => .long (x <<< (y.toInt64 &&& 63))) st
  | .lshr => ev_li (fun x y => .long (x >>> (y.toInt64 &&& 63))) st
  | .i2l => ev_i1 (fun x => .long x.toInt64) st
  | .l2i => ev_l1 (fun x => .int x.toInt32) st
  | .i2b => ev_i1 (fun x => .int x.toInt8.toInt32) st
  | .i2s => ev_i1 (fun x => .int x.toInt16.toInt32) st
  | .i2c => ev_i1 (fun x => .int (x.toUInt32 % 65536).toInt32) st
  | .dup => ev_dup st
  | .pop => ev_pop st
  | .pop2 => ev_pop2 st
  | .dup_x1 => ev_dupx1 st
  | .dup_x2 => ev_dupx2 st
  | .dup2 => ev_dup2 st
  | .dup2_x1 => ev_dup2x1 st
  | _ => none
-- locals
def ev_kill (A : List Value) (i : Nat) : List Value := match i with
  | 0 => A
  | j + 1 => match A[j]? with
    | some (.long _) => A.set j ev_dead
    | some (.double _) => A.set j ev_dead
    | _ => A
def ev_s1 (A : List Value) (i : Nat) (v : Value) : List Value := (ev_kill A i).set i v
def ev_s2 (A : List Value) (i : Nat) (v : Value) : List Value := ((ev_kill A i).set i v).set (i + 1) ev_dead
def ev_ild (A : List Value) (i : Nat) (st : List Value) : Option (List Value × List Value) := match A[i]? with
  | some (.int x) => some (A, .int x :: st)
  | _ => none
def ev_lld (A : List Value) (i : Nat) (st : List Value) : Option (List Value × List Value) := match A[i]? with
  | some (.long x) => some (A, .long x :: st)
  | _ => none
def ev_ald (A : List Value) (i : Nat) (st : List Value) : Option (List Value × List Value) := match A[i]? with
  | some (.ref x) => some (A, .ref x :: st)
  | some .null => some (A, .null :: st)
  | _ => none
def ev_ist (A : List Value) (i : Nat) (st : List Value) : Option (List Value × List Value) := match st with
  | .int x :: r => if i < A.length then some (ev_s1 A i (.int x), r) else none
  | _ => none
def ev_lst (A : List Value) (i : Nat) (st : List Value) : Option (List Value × List Value) := match st with
  | .long x :: r => if i + 1 < A.length then some (ev_s2 A i (.long x), r) else none
  | _ => none
def ev_ast (A : List Value) (i : Nat) (st : List Value) : Option (List Value × List Value) := match st with
  | .ref x :: r => if i < A.length then some (ev_s1 A i (.ref x), r) else none
  | .null :: r => if i < A.length then some (ev_s1 A i .null, r) else none
  | _ => none
def ev_inc (A : List Value) (i : Nat) (n : Int) (st : List Value) : Option (List Value × List Value) := match A[i]? with
  | some (.int x) => some (ev_s1 A i (.int (x + Int32.ofInt n)), st)
  | _ => none
def ev_lc (i : Instr) (A st : List Value) : Option (List Value × List Value) := match i with
  | .iload k => ev_ild A k st
  | .iload_n k => ev_ild A k.val st
  | .lload k => ev_lld A k st
  | .lload_n k => ev_lld A k.val st
  | .aload k => ev_ald A k st
  | .aload_n k => ev_ald A k.val st
  | .istore k => ev_ist A k st
  | .istore_n k => ev_ist A k.val st
  | .lstore k => ev_lst A k st
  | .lstore_n k => ev_lst A k.val st
  | .astore k => ev_ast A k st
  | .astore_n k => ev_ast A k.val st
  | .iinc k n => ev_inc A k n st
  | _ => none
-- branches
def ev_sw : Instr → Bool
  | .lookupswitch _ _ => true
  | .tableswitch _ _ _ _ => true
  | _ => false
def ev_t (pc : Nat) (off : Int) : Nat := ((pc : Int) + off).toNat
def ev_c1 (c : ClassFile.Cond) (x : Int32) : Bool := match c with
  | .eq => decide (x = 0) | .ne => decide (¬ x = 0) | .lt => decide (x < 0) | .ge => decide (0 ≤ x) | .gt => decide (0 < x) | .le => decide (x ≤ 0)
def ev_c2 (c : ClassFile.Cond) (x y : Int32) : Bool := match c with
  | .eq => decide (x = y) | .ne => decide (¬ x = y) | .lt => decide (x < y) | .ge => decide (y ≤ x) | .gt => decide (y < x) | .le => decide (x ≤ y)
def ev_br (i : Instr) (pc nx : Nat) (st : List Value) : Option (Nat × List Value) := match i with
  | .ifCond c off => match st with
    | .int x :: r => if (pc : Int) + off < 0 then none else some (if ev_c1 c x then ev_t pc off else nx, r)
    | _ => none
  | .if_icmp c off => match st with
    | .int y :: .int x :: r => if (pc : Int) + off < 0 then none else some (if ev_c2 c x y then ev_t pc off else nx, r)
    | _ => none
  | .ifnull off => match st with
    | .ref _ :: r => some (nx, r)
    | .null :: r => if (pc : Int) + off < 0 then none else some (ev_t pc off, r)
    | _ => none
  | .ifnonnull off => match st with
    | .ref _ :: r => if (pc : Int) + off < 0 then none else some (ev_t pc off, r)
    | .null :: r => some (nx, r)
    | _ => none
  | .goto off => if (pc : Int) + off < 0 then none else some (ev_t pc off, st)
  | .lookupswitch d ps => match st with
    | .int x :: r => if (ps.toList.zip (ps.toList.drop 1)).all (fun (a, next) => a.1 < next.1) = true ∧ 0 ≤ (pc : Int) + Op.lookupswitch.offset ps.toList d x.toInt then some (ev_t pc (Op.lookupswitch.offset ps.toList d x.toInt), r) else none
    | _ => none
  | .tableswitch d lo hi offs => match st with
    | .int x :: r => if x.toInt < lo ∨ hi < x.toInt then (if (pc : Int) + d < 0 then none else some (ev_t pc d, r)) else match offs[(x.toInt - lo).toNat]? with
      | some off => if (pc : Int) + off < 0 then none else some (ev_t pc off, r)
      | none => none
    | _ => none
  | _ => none
end
section
/-! The evaluator's steps over the machine: stack, locals, branches. -/
def ev_prs (A : List Value) : List (Nat × Value) := (List.range A.length).filterMap fun i => match A[i]? with
  | some v => if v = ev_dead then none else some (i, v)
  | none => none
theorem ev_prs_mem {A : List Value} {q : Nat × Value} : q ∈ ev_prs A ↔ A[q.1]? = some q.2 ∧ q.2 ≠ ev_dead := by
  unfold ev_prs
  rw [List.mem_filterMap]
  constructor
  · rintro ⟨i, -, h⟩
    split at h
    · next v hv =>
      split at h
      · cases h
      · next hd => cases h; exact ⟨hv, hd⟩
    · cases h
  · rintro ⟨h1, h2⟩
    refine ⟨q.1, List.mem_range.mpr (List.getElem?_eq_some_iff.mp h1).1, ?_⟩
    rw [h1]
    simp [h2]
/-- the machine's locals hold what the list says -/
def ev_L (ls : Array Slot) (nL : Nat) (A : List Value) : Prop := A.length = nL ∧ lv_has ls nL (ev_prs A)
theorem ev_L.get {ls : Array Slot} {nL : Nat} {A : List Value} (h : ev_L ls nL A) {i : Nat} {v : Value} (hv : A[i]? = some v) (hd : v ≠ ev_dead) : ls[i]? = some (.val v) := h.2.2.2 (i, v) (ev_prs_mem.mpr ⟨hv, hd⟩)
theorem ev_kill_len (A : List Value) (i : Nat) : (ev_kill A i).length = A.length := by
  unfold ev_kill
  split
  · rfl
  · split <;> simp
theorem ev_kill_at {A : List Value} {i j : Nat} {v : Value} (h : (ev_kill A i)[j]? = some v) (hd : v ≠ ev_dead) : A[j]? = some v ∧ ¬ (j + 1 = i ∧ v.category = 2) := by
  unfold ev_kill at h
  split at h
  · exact ⟨h, fun q => by omega⟩
  · next k =>
    have key : ∀ B : List Value, B = A.set k ev_dead → B[j]? = some v → A[j]? = some v ∧ ¬ (j + 1 = k + 1 ∧ v.category = 2) := by
      intro B hB hv
      rw [hB, List.getElem?_set] at hv
      split at hv
      · split at hv
        · cases hv; exact absurd rfl hd
        · cases hv
      · next hne => exact ⟨hv, fun q => hne (by omega)⟩
    split at h
    · exact key _ rfl h
    · exact key _ rfl h
    · next hn1 hn2 =>
      refine ⟨h, fun q => ?_⟩
      have hj : j = k := by omega
      subst hj
      cases v <;> first | exact hn1 _ h | exact hn2 _ h | simp [Value.category] at q
theorem ev_L_s1 {ls' : Array Slot} {nL i : Nat} {A : List Value} {v : Value} (hA : A.length = nL) (h : lv_has ls' nL ((i, v) :: (ev_prs A).filter (fun q => !(q.1 == i) && !(q.1 + 1 == i && q.2.category == 2)))) : ev_L ls' nL (ev_s1 A i v) := by
  refine ⟨by unfold ev_s1; rw [List.length_set, ev_kill_len, hA], h.1, h.2.1, fun q hq => ?_⟩
  obtain ⟨h1, h2⟩ := ev_prs_mem.mp hq
  unfold ev_s1 at h1
  rw [List.getElem?_set] at h1
  split at h1
  · next he =>
    split at h1
    · have h3 : v = q.2 := Option.some.inj h1
      have h4 := h.2.2 (i, v) List.mem_cons_self
      rw [← he, ← h3]
      exact h4
    · cases h1
  · next hne =>
    obtain ⟨h3, h4⟩ := ev_kill_at h1 h2
    refine h.2.2 q (List.mem_cons_of_mem _ (List.mem_filter.mpr ⟨ev_prs_mem.mpr ⟨h3, h2⟩, ?_⟩))
    have h5 : ¬ q.1 = i := fun z => hne z.symm
    by_cases h6 : q.1 + 1 = i
    · have h7 : ¬ q.2.category = 2 := fun z => h4 ⟨h6, z⟩
      simp [h5, h7]
    · simp [h5, h6]
theorem ev_L_s2 {ls' : Array Slot} {nL i : Nat} {A : List Value} {v : Value} (hA : A.length = nL) (h : lv_has ls' nL ((i, v) :: (ev_prs A).filter (fun q => !(q.1 == i) && (!(q.1 == i + 1) && !(q.1 + 1 == i && q.2.category == 2))))) : ev_L ls' nL (ev_s2 A i v) := by
  refine ⟨by unfold ev_s2; rw [List.length_set, List.length_set, ev_kill_len, hA], h.1, h.2.1, fun q hq => ?_⟩
  obtain ⟨h1, h2⟩ := ev_prs_mem.mp hq
  unfold ev_s2 at h1
  rw [List.getElem?_set] at h1
  split at h1
  · split at h1
    · exact absurd (Option.some.inj h1).symm h2
    · cases h1
  next hne0 =>
  rw [List.getElem?_set] at h1
  split at h1
  · next he =>
    split at h1
    · have h3 : v = q.2 := Option.some.inj h1
      have h4 := h.2.2 (i, v) List.mem_cons_self
      rw [← he, ← h3]
      exact h4
    · cases h1
  · next hne =>
    obtain ⟨h3, h4⟩ := ev_kill_at h1 h2
    refine h.2.2 q (List.mem_cons_of_mem _ (List.mem_filter.mpr ⟨ev_prs_mem.mpr ⟨h3, h2⟩, ?_⟩))
    have h5 : ¬ q.1 = i := fun z => hne z.symm
    have h8 : ¬ q.1 = i + 1 := fun z => hne0 z.symm
    by_cases h6 : q.1 + 1 = i
    · have h7 : ¬ q.2.category = 2 := fun z => h4 ⟨h6, z⟩
      simp [h5, h7, h8]
    · simp [h5, h6, h8]
section EV1
variable {p : Program} {l : Launch} {e : Env} {R : Room} {s : State} {m : MethodId} {args : Array Value} {below : List Frame} {meth : Method} {c : Code} {H : Heap} {locs : List Loc} {cells slots : Nat} {Q : State → Prop}
variable {cc : ByteArray} {pc : Nat} {ls : Array Slot} {st st' : List Value} {i : Instr}
set_option maxHeartbeats 4000000 in
theorem ev_st_ok {kv : Value} {own : String} (hx : p.tables.exec = Jvm.exec) (hb : c.code = cc) (hown : s.vm.findClass own = some m.cls) (hd : decode cc pc = .ok (i, ev_len i))
    (hk1 : ∀ k v, i = .ldc k → kv = .int v → (Jvm.Cond.constant own k v).before args s = true) (hk2 : ∀ k v, i = .ldc2_w k → kv = .long v → (Jvm.Cond.constantLong own k v).before args s = true)
    (h : ev_st kv i st = some st') (k : W p l e R s m args below meth c H locs cells slots Q (F0 m (pc + ev_len i) ls st')) : W p l e R s m args below meth c H locs cells slots Q (F0 m pc ls st) := by
  cases i
  case iconst n => cases h; exact lv_iconst hx hb hd rfl k
  case bipush n => cases h; exact lv_bipush hx hb hd rfl k
  case sipush n => cases h; exact lv_sipush hx hb hd rfl k
  case lconst n => cases h; exact lv_lconst hx hb hd rfl k
  case ldc n => 
    dsimp only [ev_st] at h
    split at h
    · cases h; exact lv_ldc hx hb hown (hk1 _ _ rfl rfl) hd k
    · cases h
  case ldc2_w n => 
    dsimp only [ev_st] at h
    split at h
    · cases h; exact lv_ldc2 hx hb hown (hk2 _ _ rfl rfl) hd k
    · cases h
  case aconst_null => cases h; exact lv_null hx hb hd k
  case iadd => obtain ⟨x, y, r, v, rfl, hf, rfl⟩ := ev_ii_inv (by simpa only [ev_st] using h); cases hf; exact lv_iadd hx hb hd k
  case isub => obtain ⟨x, y, r, v, rfl, hf, rfl⟩ := ev_ii_inv (by simpa only [ev_st] using h); cases hf; exact lv_isub hx hb hd k
  case imul => obtain ⟨x, y, r, v, rfl, hf, rfl⟩ := ev_ii_inv (by simpa only [ev_st] using h); cases hf; exact lv_imul hx hb hd k
  case iand => obtain ⟨x, y, r, v, rfl, hf, rfl⟩ := ev_ii_inv (by simpa only [ev_st] using h); cases hf; exact lv_iand hx hb hd k
  case ior => obtain ⟨x, y, r, v, rfl, hf, rfl⟩ := ev_ii_inv (by simpa only [ev_st] using h); cases hf; exact lv_ior hx hb hd k
  case ixor => obtain ⟨x, y, r, v, rfl, hf, rfl⟩ := ev_ii_inv (by simpa only [ev_st] using h); cases hf; exact lv_ixor hx hb hd k
  case ishl => obtain ⟨x, y, r, v, rfl, hf, rfl⟩ := ev_ii_inv (by simpa only [ev_st] using h); cases hf; exact lv_ishl hx hb hd k
  case ishr => obtain ⟨x, y, r, v, rfl, hf, rfl⟩ := ev_ii_inv (by simpa only [ev_st] using h); cases hf; exact lv_ishr hx hb hd k
  case iushr => obtain ⟨x, y, r, v, rfl, hf, rfl⟩ := ev_ii_inv (by simpa only [ev_st] using h); cases hf; exact lv_iushr hx hb hd rfl k
  case idiv => obtain ⟨x, y, r, v, rfl, hf, rfl⟩ := ev_ii_inv (by simpa only [ev_st] using h); split at hf <;> cases hf; exact lv_idiv hx hb hd (by assumption) k
  case irem => obtain ⟨x, y, r, v, rfl, hf, rfl⟩ := ev_ii_inv (by simpa only [ev_st] using h); split at hf <;> cases hf; exact lv_irem hx hb hd (by assumption) k
  case ineg => obtain ⟨x, r, rfl, rfl⟩ := ev_i1_inv (by simpa only [ev_st] using h); exact lv_ineg hx hb hd k
  case ladd => obtain ⟨x, y, r, v, rfl, hf, rfl⟩ := ev_ll_inv (by simpa only [ev_st] using h); cases hf; exact lv_ladd hx hb hd k
  case lsub => obtain ⟨x, y, r, v, rfl, hf, rfl⟩ := ev_ll_inv (by simpa only [ev_st] using h); cases hf; exact lv_lsub hx hb hd k
  case lmul => obtain ⟨x, y, r, v, rfl, hf, rfl⟩ := ev_ll_inv (by simpa only [ev_st] using h); cases hf; exact lv_lmul hx hb hd k
  case land => obtain ⟨x, y, r, v, rfl, hf, rfl⟩ := ev_ll_inv (by simpa only [ev_st] using h); cases hf; exact lv_land hx hb hd k
  case lor => obtain ⟨x, y, r, v, rfl, hf, rfl⟩ := ev_ll_inv (by simpa only [ev_st] using h); cases hf; exact lv_lor hx hb hd k
  case lxor => obtain ⟨x, y, r, v, rfl, hf, rfl⟩ := ev_ll_inv (by simpa only [ev_st] using h); cases hf; exact lv_lxor hx hb hd k
  case ldiv => obtain ⟨x, y, r, v, rfl, hf, rfl⟩ := ev_ll_inv (by simpa only [ev_st] using h); split at hf <;> cases hf; exact lv_ldiv hx hb hd (by assumption) k
  case lrem => obtain ⟨x, y, r, v, rfl, hf, rfl⟩ := ev_ll_inv (by simpa only [ev_st] using h); split at hf <;> cases hf; exact lv_lrem hx hb hd (by assumption) k
  case lcmp => obtain ⟨x, y, r, v, rfl, hf, rfl⟩ := ev_ll_inv (by simpa only [ev_st] using h); cases hf; exact W.lcmp hx hb hd k
  case lneg => obtain ⟨x, r, rfl, rfl⟩ := ev_l1_inv (by simpa only [ev_st] using h); exact lv_lneg hx hb hd k
  case lushr => obtain ⟨x, y, r, rfl, rfl⟩ := ev_li_inv (by simpa only [ev_st] using h); exact lv_lushr hx hb hd rfl k
  case lshl => obtain ⟨x, y, r, rfl, rfl⟩ := ev_li_inv (by simpa only [ev_st] using h); exact lv_lshl hx hb hd rfl k
  case lshr => obtain ⟨x, y, r, rfl, rfl⟩ := ev_li_inv (by simpa only [ev_st] using h); exact lv_lshr hx hb hd rfl k
  case i2l => obtain ⟨x, r, rfl, rfl⟩ := ev_i1_inv (by simpa only [ev_st] using h); exact lv_i2l hx hb hd rfl k
  case l2i => obtain ⟨x, r, rfl, rfl⟩ := ev_l1_inv (by simpa only [ev_st] using h); exact lv_l2i hx hb hd rfl k
  case i2b => obtain ⟨x, r, rfl, rfl⟩ := ev_i1_inv (by simpa only [ev_st] using h); exact lv_i2b hx hb hd rfl k
  case i2s => obtain ⟨x, r, rfl, rfl⟩ := ev_i1_inv (by simpa only [ev_st] using h); exact lv_i2s hx hb hd rfl k
  case i2c => obtain ⟨x, r, rfl, rfl⟩ := ev_i1_inv (by simpa only [ev_st] using h); exact lv_i2c hx hb hd rfl k
  case dup => dsimp only [ev_st, ev_dup] at h; split at h; rotate_left; cases h; split at h <;> cases h; exact lv_dup hx hb hd (by assumption) k
  case pop => dsimp only [ev_st, ev_pop] at h; split at h; rotate_left; cases h; split at h <;> cases h; exact lv_pop hx hb hd (by assumption) k
  case pop2 => dsimp only [ev_st, ev_pop2] at h; split at h; rotate_left; cases h; split at h <;> cases h; exact lv_pop2_2 hx hb hd (by assumption) k
  case dup_x1 => dsimp only [ev_st, ev_dupx1] at h; split at h; rotate_left; cases h; split at h <;> cases h; next hc => exact lv_dup_x1 hx hb hd hc.1 hc.2 k
  case dup_x2 => dsimp only [ev_st, ev_dupx2] at h; split at h; rotate_left; cases h; split at h <;> cases h; next hc => exact lv_dup_x2 hx hb hd hc.1 hc.2.1 hc.2.2 k
  case dup2_x1 => dsimp only [ev_st, ev_dup2x1] at h; split at h; rotate_left; cases h; split at h <;> cases h; next hc => exact lv_dup2_x1_2 hx hb hd hc.1 hc.2 k
  case dup2 =>
    dsimp only [ev_st, ev_dup2] at h
    split at h; rotate_left; cases h
    split at h
    · next hc => cases h; exact lv_dup2_2 hx hb hd hc k
    · split at h; rotate_left; cases h
      split at h <;> cases h
      next hc => exact lv_dup2_11 hx hb hd hc.1 hc.2 k
  all_goals cases h
set_option maxHeartbeats 4000000 in
theorem ev_lc_ok {nL : Nat} {A A' : List Value} (hx : p.tables.exec = Jvm.exec) (hb : c.code = cc) (hd : decode cc pc = .ok (i, ev_len i)) (hL : ev_L ls nL A)
    (h : ev_lc i A st = some (A', st')) (k : ∀ ls' : Array Slot, ev_L ls' nL A' → W p l e R s m args below meth c H locs cells slots Q (F0 m (pc + ev_len i) ls' st')) : W p l e R s m args below meth c H locs cells slots Q (F0 m pc ls st) := by
  cases i
  case iload n => dsimp only [ev_lc, ev_ild] at h; split at h <;> cases h; next hv => exact lv_iload hx hb hd (hL.get hv (fun q => by cases q)) (k _ hL)
  case iload_n n => dsimp only [ev_lc, ev_ild] at h; split at h <;> cases h; next hv => exact lv_iload_n hx hb hd rfl (hL.get hv (fun q => by cases q)) (k _ hL)
  case lload n => dsimp only [ev_lc, ev_lld] at h; split at h <;> cases h; next hv => exact lv_lload hx hb hd (hL.get hv (fun q => by cases q)) (k _ hL)
  case lload_n n => dsimp only [ev_lc, ev_lld] at h; split at h <;> cases h; next hv => exact lv_lload_n hx hb hd rfl (hL.get hv (fun q => by cases q)) (k _ hL)
  case aload n =>
    dsimp only [ev_lc, ev_ald] at h; split at h <;> cases h
    · next hv => exact lv_aload hx hb hd (hL.get hv (fun q => by cases q)) (k _ hL)
    · next hv => exact lv_aloadN hx hb hd (hL.get hv (fun q => by cases q)) (k _ hL)
  case aload_n n =>
    dsimp only [ev_lc, ev_ald] at h; split at h <;> cases h
    · next hv => exact lv_aload_n hx hb hd rfl (hL.get hv (fun q => by cases q)) (k _ hL)
    · next hv => exact lv_aload_nN hx hb hd rfl (hL.get hv (fun q => by cases q)) (k _ hL)
  case istore n => dsimp only [ev_lc, ev_ist] at h; split at h; rotate_left; cases h; split at h <;> cases h; next hi => exact lv_istore hx hb hd hL.2 (by rw [← hL.1]; exact hi) rfl (fun ls' h' => k ls' (ev_L_s1 hL.1 h'))
  case istore_n n => dsimp only [ev_lc, ev_ist] at h; split at h; rotate_left; cases h; split at h <;> cases h; next hi => exact lv_istore_n hx hb hd rfl hL.2 (by rw [← hL.1]; exact hi) rfl (fun ls' h' => k ls' (ev_L_s1 hL.1 h'))
  case lstore n => dsimp only [ev_lc, ev_lst] at h; split at h; rotate_left; cases h; split at h <;> cases h; next hi => exact lv_lstore hx hb hd hL.2 (by rw [← hL.1]; exact hi) rfl (fun ls' h' => k ls' (ev_L_s2 hL.1 h'))
  case lstore_n n => dsimp only [ev_lc, ev_lst] at h; split at h; rotate_left; cases h; split at h <;> cases h; next hi => exact lv_lstore_n hx hb hd rfl hL.2 (by rw [← hL.1]; exact hi) rfl (fun ls' h' => k ls' (ev_L_s2 hL.1 h'))
  case astore n =>
    dsimp only [ev_lc, ev_ast] at h; split at h; rotate_left; rotate_left; cases h
    · split at h <;> cases h; next hi => exact lv_astore hx hb hd hL.2 (by rw [← hL.1]; exact hi) rfl (fun ls' h' => k ls' (ev_L_s1 hL.1 h'))
    · split at h <;> cases h; next hi => exact lv_astoreN hx hb hd hL.2 (by rw [← hL.1]; exact hi) rfl (fun ls' h' => k ls' (ev_L_s1 hL.1 h'))
  case astore_n n =>
    dsimp only [ev_lc, ev_ast] at h; split at h; rotate_left; rotate_left; cases h
    · split at h <;> cases h; next hi => exact lv_astore_n hx hb hd rfl hL.2 (by rw [← hL.1]; exact hi) rfl (fun ls' h' => k ls' (ev_L_s1 hL.1 h'))
    · split at h <;> cases h; next hi => exact lv_astore_nN hx hb hd rfl hL.2 (by rw [← hL.1]; exact hi) rfl (fun ls' h' => k ls' (ev_L_s1 hL.1 h'))
  case iinc n z =>
    dsimp only [ev_lc, ev_inc] at h; split at h <;> cases h
    next x hv =>
    obtain ⟨j, hj⟩ := List.getElem?_of_mem (ev_prs_mem (q := (n, .int x)) |>.mpr ⟨hv, fun q => by cases q⟩)
    exact lv_iinc hx hb hd hL.2 hj rfl (by rw [← hL.1]; exact (List.getElem?_eq_some_iff.mp hv).1) rfl (fun ls' h' => k ls' (ev_L_s1 hL.1 h'))
  all_goals cases h
theorem ev_t_ok {pc : Nat} {off : Int} (h : ¬ (pc : Int) + off < 0) : (pc : Int) + off = (ev_t pc off : Int) := by
  unfold ev_t
  omega
set_option maxHeartbeats 4000000 in
theorem ev_br_ok {pc' len : Nat} (hx : p.tables.exec = Jvm.exec) (hb : c.code = cc) (hd : decode cc pc = .ok (i, len)) (hlen : ev_sw i = true ∨ len = ev_len i)
    (h : ev_br i pc (pc + len) st = some (pc', st')) (k : W p l e R s m args below meth c H locs cells slots Q (F0 m pc' ls st')) : W p l e R s m args below meth c H locs cells slots Q (F0 m pc ls st) := by
  cases i
  case ifCond cd off =>
    have hl3 : len = 3 := hlen.elim (fun q => by cases q) id
    subst hl3
    dsimp only [ev_br] at h
    split at h; rotate_left; cases h
    split at h; cases h
    next x r hn =>
    obtain ⟨h1, h2⟩ := Prod.mk.inj (Option.some.inj h)
    subst h2
    have ht := ev_t_ok hn
    cases cd <;> simp only [ev_c1, decide_eq_true_eq] at h1
    · exact lv_if_eq hx hb hd ht (fun q => by rw [if_pos q] at h1; rw [h1]; exact k) (fun q => by rw [if_neg q] at h1; rw [h1]; exact k)
    · exact lv_if_ne hx hb hd ht (fun q => by rw [if_pos q] at h1; rw [h1]; exact k) (fun q => by rw [if_neg (fun z => z q)] at h1; rw [h1]; exact k)
    · exact lv_if_lt hx hb hd ht (fun q => by rw [if_pos q] at h1; rw [h1]; exact k) (fun q => by rw [if_neg q] at h1; rw [h1]; exact k)
    · exact lv_if_ge hx hb hd ht (fun q => by rw [if_pos q] at h1; rw [h1]; exact k) (fun q => by rw [if_neg q] at h1; rw [h1]; exact k)
    · exact lv_if_gt hx hb hd ht (fun q => by rw [if_pos q] at h1; rw [h1]; exact k) (fun q => by rw [if_neg q] at h1; rw [h1]; exact k)
    · exact lv_if_le hx hb hd ht (fun q => by rw [if_pos q] at h1; rw [h1]; exact k) (fun q => by rw [if_neg q] at h1; rw [h1]; exact k)
  case if_icmp cd off =>
    have hl3 : len = 3 := hlen.elim (fun q => by cases q) id
    subst hl3
    dsimp only [ev_br] at h
    split at h; rotate_left; cases h
    split at h; cases h
    next y x r hn =>
    obtain ⟨h1, h2⟩ := Prod.mk.inj (Option.some.inj h)
    subst h2
    have ht := ev_t_ok hn
    cases cd <;> simp only [ev_c2, decide_eq_true_eq] at h1
    · exact lv_icmp_eq hx hb hd ht (fun q => by rw [if_pos q] at h1; rw [h1]; exact k) (fun q => by rw [if_neg q] at h1; rw [h1]; exact k)
    · exact lv_icmp_ne hx hb hd ht (fun q => by rw [if_pos q] at h1; rw [h1]; exact k) (fun q => by rw [if_neg (fun z => z q)] at h1; rw [h1]; exact k)
    · exact lv_icmp_lt hx hb hd ht (fun q => by rw [if_pos q] at h1; rw [h1]; exact k) (fun q => by rw [if_neg q] at h1; rw [h1]; exact k)
    · exact lv_icmp_ge hx hb hd ht (fun q => by rw [if_pos q] at h1; rw [h1]; exact k) (fun q => by rw [if_neg q] at h1; rw [h1]; exact k)
    · exact lv_icmp_gt hx hb hd ht (fun q => by rw [if_pos q] at h1; rw [h1]; exact k) (fun q => by rw [if_neg q] at h1; rw [h1]; exact k)
    · exact lv_icmp_le hx hb hd ht (fun q => by rw [if_pos q] at h1; rw [h1]; exact k) (fun q => by rw [if_neg q] at h1; rw [h1]; exact k)
  case ifnull off =>
    have hl3 : len = 3 := hlen.elim (fun q => by cases q) id
    subst hl3
    dsimp only [ev_br] at h
    split at h
    · cases h; exact lv_ifnull hx hb hd k
    · split at h <;> cases h
      next hn => exact lv_ifnullN hx hb hd (ev_t_ok hn) k
    · cases h
  case ifnonnull off =>
    have hl3 : len = 3 := hlen.elim (fun q => by cases q) id
    subst hl3
    dsimp only [ev_br] at h
    split at h
    · split at h <;> cases h
      next hn => exact lv_ifnonnull hx hb hd (ev_t_ok hn) k
    · cases h; exact lv_ifnonnullN hx hb hd k
    · cases h
  case goto off =>
    have hl3 : len = 3 := hlen.elim (fun q => by cases q) id
    subst hl3
    dsimp only [ev_br] at h
    split at h <;> cases h
    next hn => exact lv_goto hx hb hd (ev_t_ok hn) k
  case lookupswitch d ps =>
    dsimp only [ev_br] at h
    split at h; rotate_left; cases h
    split at h <;> cases h
    next hc => exact lv_lookup hx hb hd hc.1 rfl (ev_t_ok (by have := hc.2; omega)) k
  case tableswitch d lo hi offs =>
    dsimp only [ev_br] at h
    split at h; rotate_left; cases h
    split at h
    · next hc =>
      split at h <;> cases h
      next hn => exact lv_tableOut hx hb hd hc (ev_t_ok hn) k
    · next hc =>
      split at h; rotate_left; cases h
      next off hoff =>
      split at h <;> cases h
      next hn => exact lv_tableIn hx hb hd (fun q => hc (Or.inl q)) (fun q => hc (Or.inr q)) hoff (ev_t_ok hn) k
  all_goals cases h
end EV1
end
section
/-! The evaluator's heap and its run. X: the script (cell, length, ints), the String constants' cells, their byte arrays' cells, and back; a static of the JDK's that is only carried. A heap: next cell, slots made, the cells. -/
abbrev ev_X : Type := (Nat × Nat × (Nat → Int32)) × (Nat → Nat) × (Nat → Nat) × (Nat → Option Nat) × (Nat → Option Nat) × Value
def ev_set (h : ev_H) (o : Nat) (e : va_E) : ev_H := (h.1, h.2.1, va_up h.2.2 o (some e))
def ev_new (h : ev_H) (n : Nat) (e : va_E) : ev_H := (h.1 + 1, h.2.1 + n, va_up h.2.2 h.1 (some e))
def ev_get (X : ev_X) (a b : Nat) (st : List Value) (h : ev_H) : Option (List Value × ev_H) := match st with
  | .ref o :: r => match h.2.2 o with
    | some (.inr (ci, fs)) => if ci = a then (match fs[b]? with
      | some v => some (v :: r, h)
      | none => none) else none
    | some (.inl _) => none
    | none => if a = 90 then (match X.2.2.2.1 o with
      | some k => some ((if b = 0 then .ref (X.2.2.1 k) else .int 0) :: r, h)
      | none => none) else none
  | _ => none
def ev_put (a b : Nat) (st : List Value) (h : ev_H) : Option (List Value × ev_H) := match st with
  | v :: .ref o :: r => match h.2.2 o with
    | some (.inr (ci, fs)) => if ci = a ∧ b < fs.length ∧ narrow (pg_t a b) v = v ∧ fits (pg_t a b) v = true then some (r, ev_set h o (.inr (ci, fs.set b v))) else none
    | _ => none
  | _ => none
def ev_iald (X : ev_X) (st : List Value) (h : ev_H) : Option (List Value × ev_H) := match st with
  | .int j :: .ref o :: r => match h.2.2 o with
    | some (.inl (t, n, .inl f)) => if pg_ty[t]? = some .int ∧ ¬ (j < 0 ∨ n ≤ j.toNatClampNeg) then some (.int (f j.toNatClampNeg) :: r, h) else none
    | some _ => none
    | none => if o = X.1.1 ∧ ¬ (j < 0 ∨ X.1.2.1 ≤ j.toNatClampNeg) then some (.int (X.1.2.2 j.toNatClampNeg) :: r, h) else none
  | _ => none
def ev_bald (X : ev_X) (st : List Value) (h : ev_H) : Option (List Value × ev_H) := match st with
  | .int j :: .ref o :: r => match h.2.2 o with
    | some (.inl (t, n, .inl f)) => if pg_ty[t]? = some .byte ∧ ¬ (j < 0 ∨ n ≤ j.toNatClampNeg) then some (.int (f j.toNatClampNeg) :: r, h) else none
    | some _ => none
    | none => match X.2.2.2.2.1 o with
      | some k => if ¬ (j < 0 ∨ (pg_byt.getD k []).length ≤ j.toNatClampNeg) then some (.int ((pg_byt.getD k []).getD j.toNatClampNeg 0) :: r, h) else none
      | none => none
  | _ => none
def ev_aald (st : List Value) (h : ev_H) : Option (List Value × ev_H) := match st with
  | .int j :: .ref o :: r => match h.2.2 o with
    | some (.inl (t, n, .inr (.inr (.inr (.inr f))))) => match pg_ty[t]? with
      | some (.object _) => if ¬ (j < 0 ∨ n ≤ j.toNatClampNeg) then some (va_rf (f j.toNatClampNeg) :: r, h) else none
      | _ => none
    | _ => none
  | _ => none
def ev_iast (st : List Value) (h : ev_H) : Option (List Value × ev_H) := match st with
  | .int x :: .int j :: .ref o :: r => match h.2.2 o with
    | some (.inl (t, n, .inl f)) => if pg_ty[t]? = some .int ∧ ¬ (j < 0 ∨ n ≤ j.toNatClampNeg) then some (r, ev_set h o (.inl (t, n, .inl (upd f j.toNatClampNeg x)))) else none
    | _ => none
  | _ => none
def ev_bast (st : List Value) (h : ev_H) : Option (List Value × ev_H) := match st with
  | .int x :: .int j :: .ref o :: r => match h.2.2 o with
    | some (.inl (t, n, .inl f)) => if pg_ty[t]? = some .byte ∧ ¬ (j < 0 ∨ n ≤ j.toNatClampNeg) then some (r, ev_set h o (.inl (t, n, .inl (upd f j.toNatClampNeg (vp_nar .byte x))))) else none
    | _ => none
  | _ => none
def ev_aast (st : List Value) (h : ev_H) : Option (List Value × ev_H) := match st with
  | .ref v :: .int j :: .ref o :: r => match h.2.2 o with
    | some (.inl (t, n, .inr (.inr (.inr (.inr f))))) => match h.2.2 v with
      | some (.inr (ci, _)) => if pg_el[t]? = some ci ∧ ¬ (j < 0 ∨ n ≤ j.toNatClampNeg) then some (r, ev_set h o (.inl (t, n, .inr (.inr (.inr (.inr (va_up f j.toNatClampNeg (some v)))))))) else none
      | _ => none
    | _ => none
  | _ => none
def ev_alen (X : ev_X) (st : List Value) (h : ev_H) : Option (List Value × ev_H) := match st with
  | .ref o :: r => match h.2.2 o with
    | some (.inl (t, n, _)) => if t < pg_ty.length then some (.int (Int32.ofNat n) :: r, h) else none
    | some (.inr _) => none
    | none => if o = X.1.1 then some (.int (Int32.ofNat X.1.2.1) :: r, h) else match X.2.2.2.2.1 o with
      | some k => some (.int (Int32.ofNat (pg_byt.getD k []).length) :: r, h)
      | none => none
  | _ => none
def ev_newa (a : Nat) (at' : ArrayType) (st : List Value) (h : ev_H) : Option (List Value × ev_H) := match st with
  | .int n :: r => if pg_ty[a]? = some (Op.newarray.typeOf at') ∧ (Op.newarray.typeOf at' = .int ∨ Op.newarray.typeOf at' = .byte) ∧ ¬ n < 0 ∧ n.toNatClampNeg * componentBytes (Op.newarray.typeOf at') ≤ 536870912 then some (.ref h.1 :: r, ev_new h n.toNatClampNeg (.inl (a, n.toNatClampNeg, .inl (fun _ => 0)))) else none
  | _ => none
def ev_anew (a : Nat) (st : List Value) (h : ev_H) : Option (List Value × ev_H) := match st with
  | .int n :: r => match pg_ty[a]? with
    | some (.object _) => if ¬ n < 0 ∧ n.toNatClampNeg * 4 ≤ 536870912 then some (.ref h.1 :: r, ev_new h n.toNatClampNeg (.inl (a, n.toNatClampNeg, .inr (.inr (.inr (.inr (fun _ => none))))))) else none
    | _ => none
  | _ => none
def ev_newo (a : Nat) (st : List Value) (h : ev_H) : Option (List Value × ev_H) := match pg_cl[a]? with
  | some q => some (.ref h.1 :: st, ev_new h q.2.2 (.inr (a, pg_D.getD a [])))
  | none => none
def ev_oini (a : Nat) (st : List Value) (h : ev_H) : Option (List Value × ev_H) := match st with
  | .ref _ :: r => if a = pg_obj ∧ (r.map fun v => v.category).sum ≤ 8 then some (r, h) else none
  | _ => none
def ev_math (a : Nat) (st : List Value) (h : ev_H) : Option (List Value × ev_H) := match st with
  | .int y :: .int x :: r => if (r.map fun v => v.category).sum ≤ 8 then (if a = pg_max then some (.int (if x < y then y else x) :: r, h) else if a = pg_min then some (.int (if y < x then y else x) :: r, h) else none) else none
  | .long x :: r => if (r.map fun v => v.category).sum ≤ 8 then (if a = pg_abs then some (.long (if 0 < x then x else -x) :: r, h) else none) else none
  | _ => none
def ev_hp (X : ev_X) (i : Instr) (a b : Nat) (st : List Value) (h : ev_H) : Option (List Value × ev_H) := match i with
  | .getfield _ => ev_get X a b st h
  | .putfield _ => ev_put a b st h
  | .iaload => ev_iald X st h
  | .baload => ev_bald X st h
  | .aaload => ev_aald st h
  | .iastore => ev_iast st h
  | .bastore => ev_bast st h
  | .aastore => ev_aast st h
  | .arraylength => ev_alen X st h
  | .newarray t => ev_newa a t st h
  | .anewarray _ => ev_anew a st h
  | .new _ => ev_newo a st h
  | .getstatic _ => some ((if a = 0 then .int 1 else X.2.2.2.2.2) :: st, h)
  | .ldc _ => if b = 1 then some (.ref (X.2.1 a) :: st, h) else none
  | .invokespecial _ => ev_oini a st h
  | .invokestatic _ => ev_math a st h
  | _ => none
-- calls and ends
def ev_rcv (X : ev_X) (h : ev_H) (o ci : Nat) : Bool := match h.2.2 o with
  | some (.inr (c, _)) => c == ci
  | some (.inl _) => false
  | none => ci == 90 && (X.2.2.2.1 o).isSome
def ev_argI (k : Nat) (st : List Value) : Option (Nat × List Value × List Value) := match st.drop k with
  | .ref o :: r => if (st.take k).length = k ∧ (r.map fun v => v.category).sum ≤ 8 then some (o, (st.take k).reverse, r) else none
  | _ => none
def ev_argS (k : Nat) (st : List Value) : Option (List Value × List Value) := if (st.take k).length = k ∧ ((st.drop k).map fun v => v.category).sum ≤ 8 then some ((st.take k).reverse, st.drop k) else none
def ev_cal (X : ev_X) (i : Instr) (a : Nat) (st : List Value) (h : ev_H) : Option (List Value × List Value) := match i with
  | .invokevirtual _ => match ev_argI (pg_n a) st with
    | some (o, as, r) => if ev_rcv X h o (pg_c a) = true then some (.ref o :: as, r) else none
    | none => none
  | .invokespecial _ => if a = pg_obj then none else match ev_argI (pg_n a) st with
    | some (o, as, r) => some (.ref o :: as, r)
    | none => none
  | .invokestatic _ => if a ∈ pg_sp then none else ev_argS (pg_n a) st
  | _ => none
def ev_fl : List Value → List Value
  | [] => []
  | v :: t => if v.category = 2 then v :: ev_dead :: ev_fl t else v :: ev_fl t
def ev_ent (L : Nat) (as : List Value) : Option (List Value) := if (ev_fl as).length ≤ L then some (ev_fl as ++ List.replicate (L - (ev_fl as).length) ev_dead) else none
def ev_ret (M : Nat) (i : Instr) (st : List Value) : Option (Option Value) := match i with
  | .ireturn => match st with
    | [.int v] => match pg_r M with
      | some ty => if narrow ty (.int v) = .int v then some (some (.int v)) else none
      | none => none
    | _ => none
  | .lreturn => match st with
    | [.long v] => if pg_r M = some .long then some (some (.long v)) else none
    | _ => none
  | .areturn => match pg_r M with
    | some (.object _) => match st with
      | [.ref a] => some (some (.ref a))
      | [.null] => some (some .null)
      | _ => none
    | _ => none
  | .return_ => match st with
    | [] => if pg_r M = none then some none else none
    | _ => none
  | _ => none
def ev_one (X : ev_X) (i : Instr) (pc nx a b : Nat) (A st : List Value) (h : ev_H) : Option (Nat × List Value × List Value × ev_H) := match ev_st (if b = 0 then pg_kon.getD a .null else .null) i st with
  | some st' => some (nx, A, st', h)
  | none => match ev_lc i A st with
    | some (A', st') => some (nx, A', st', h)
    | none => match ev_br i pc nx st with
      | some (pc', st') => some (pc', A, st', h)
      | none => match ev_hp X i a b st h with
        | some (st', h') => some (nx, A, st', h')
        | none => none
def ev_run (X : ev_X) : Nat → Nat → Nat → List Value → List Value → ev_H → Option (Option Value × ev_H)
  | 0, _, _, _, _, _ => none
  | n + 1, M, pc, A, st, h => match pg_ops M pc with
    | none => none
    | some (i, nx, a, b, _) => match ev_ret M i st with
      | some r => some (r, h)
      | none => match ev_cal X i a st h with
        | some (as, r) => match ev_ent (pg_L a) as with
          | some A0 => match ev_run X n a 0 A0 [] h with
            | some (v, h1) => ev_run X n M nx A (v.toList ++ r) h1
            | none => none
          | none => none
        | none => match ev_one X i pc nx a b A st h with
          | some (pc', A', st', h') => ev_run X n M pc' A' st' h'
          | none => none
end
section
/-! The tables against the Statement's words: a check that a program decides, class by class and method by method. -/
def pg_ws : List Cond := lw_tbl.filter goodWord
def pg_isN : Cond → Bool
  | .fieldLinkNest .. => true
  | .methodLinkNest .. => true
  | _ => false
theorem pg_ws_of {w : Nat} {c : Cond} (h : lw_tbl[w]? = some c) (hg : goodWord c = true) : c ∈ pg_ws := List.mem_filter.mpr ⟨List.mem_of_getElem? h, hg⟩
def ev_chkF (M : Nat) (idx a b w : Nat) : Bool := match pg_cl[a]? with
  | some q => decide (b < q.2.2) && (decide (lw_tbl[w]? = some (.fieldLink (pg_y M).cls idx (q.2.1 b).1 (q.2.1 b).2.1 (q.2.1 b).2.2.1)) || decide (lw_tbl[w]? = some (.fieldLinkNest (pg_y M).cls idx (q.2.1 b).1 (q.2.1 b).2.1 (q.2.1 b).2.2.1 "TermTable")))
  | none => false
def ev_chkP (M : Nat) (idx a b w : Nat) : Bool := match pg_cl[a]? with
  | some q => !(q.2.1 b).2.2.2 || (decide ((q.2.1 b).1 = (pg_y M).cls) && decide ((pg_y M).name = "<init>") && decide (lw_tbl[w]? = some (.fieldLink (pg_y M).cls idx (q.2.1 b).1 (q.2.1 b).2.1 (q.2.1 b).2.2.1)))
  | none => false
def ev_chkC (M : Nat) (a : Nat) : Bool := decide (a < 157) && decide (a ∉ pg_sp) && decide (pg_f a + 1 ≤ pg_f M) && decide (8 + (pg_L a + 11) + pg_w a ≤ pg_w M)
def ev_chkL (M idx a w : Nat) : Bool := decide (lw_tbl[w]? = some (.methodLink (pg_y M).cls idx (pg_y a)))
def ev_chkN (M idx a w : Nat) : Bool := decide (lw_tbl[w]? = some (.methodLinkNest (pg_y M).cls idx (pg_y a) "TermTable"))
def ev_chk2 (M : Nat) (i : Instr) (a b w : Nat) : Bool := match i with
  | .getfield idx => if a = 90 then decide (lw_tbl[w]? = some (.fieldLink (pg_y M).cls idx "java/lang/String" (if b = 0 then "value" else "coder") (if b = 0 then "[B" else "B"))) else ev_chkF M idx a b w
  | .putfield idx => ev_chkF M idx a b w && ev_chkP M idx a b w
  | .getstatic idx => if a = 0 then decide (lw_tbl[w]? = some (.fieldLink (pg_y M).cls idx "java/lang/String" "COMPACT_STRINGS" "Z")) else decide (lw_tbl[w]? = some (.fieldLink (pg_y M).cls idx "jdk/internal/util/Preconditions" "SIOOBE_FORMATTER" "Ljava/util/function/BiFunction;"))
  | .invokevirtual idx => ev_chkC M a && (ev_chkL M idx a w || ev_chkN M idx a w) && !pg_s a && decide ((pg_y a).name ≠ "<init>")
  | .invokespecial idx => if a = pg_obj then decide (1 ≤ pg_f M) && decide (20 ≤ pg_w M) && ev_chkL M idx a w else ev_chkC M a && ev_chkL M idx a w && !pg_s a && decide ((pg_y a).name = "<init>") && decide (pg_r a = none)
  | .invokestatic idx => if a ∈ pg_sp then decide (1 ≤ pg_f M) && decide (21 ≤ pg_w M) && ev_chkL M idx a w && decide (a ≠ pg_obj) else ev_chkC M a && (ev_chkL M idx a w || ev_chkN M idx a w) && pg_s a
  | .new idx => match pg_cl[a]? with
    | some q => decide (lw_tbl[w]? = some (.classLink (pg_y M).cls idx q.1))
    | none => false
  | .anewarray idx => decide (lw_tbl[w]? = some (.classLink (pg_y M).cls idx "TermTable$Term")) && decide (pg_ty[a]? = some (.object "TermTable$Term"))
  | .ldc idx => if b = 1 then decide (((pg_y M).cls, idx, a) ∈ pg_str) else match pg_kon.getD a .null with
    | .int v => decide (lw_tbl[w]? = some (.constant (pg_y M).cls idx v))
    | _ => false
  | .ldc2_w idx => match pg_kon.getD a .null with
    | .long v => decide (lw_tbl[w]? = some (.constantLong (pg_y M).cls idx v)) && decide (b = 0)
    | _ => false
  | _ => true
def ev_chk (M : Nat) (q : Nat × ev_R) : Bool := decide (decode (pg_b M) q.1 = .ok (q.2.1, q.2.2.1 - q.1)) && decide (q.1 ≤ q.2.2.1) && (ev_sw q.2.1 || decide (q.2.2.1 = q.1 + ev_len q.2.1)) && ev_chk2 M q.2.1 q.2.2.2.1 q.2.2.2.2.1 q.2.2.2.2.2
end
