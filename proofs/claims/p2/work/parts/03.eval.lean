/-! An evaluator of bytecode over a pure heap (own work): its words. -/
abbrev ev_H : Type := Nat × Nat × (Nat → Option va_E)

def ev_dead : Value := .retAddr 0
def ev_len : Instr → Nat
  | .bipush _ => 2 | .iload _ => 2 | .lload _ => 2 | .aload _ => 2 | .istore _ => 2 | .lstore _ => 2 | .astore _ => 2 | .ldc _ => 2 | .newarray _ => 2
  | .sipush _ => 3 | .iinc _ _ => 3 | .ifCond _ _ => 3 | .if_icmp _ _ => 3 | .if_acmp _ _ => 3 | .ifnull _ => 3 | .ifnonnull _ => 3 | .goto _ => 3 | .ldc2_w _ => 3 | .ldc_w _ => 3
  | .getfield _ => 3 | .putfield _ => 3 | .getstatic _ => 3 | .invokevirtual _ => 3 | .invokespecial _ => 3 | .invokestatic _ => 3 | .new _ => 3 | .anewarray _ => 3 | .checkcast _ => 3 | .instanceof _ => 3
  | .invokeinterface _ _ => 5
  | _ => 1
-- stack shapes
def ev_ii (f : Int32 → Int32 → Option Value) : List Value → Option (List Value)
  | .int y :: .int x :: r => match f x y with
    | some v => some (v :: r)
    | none => none
  | _ => none
def ev_ll (f : Int64 → Int64 → Option Value) : List Value → Option (List Value)
  | .long y :: .long x :: r => match f x y with
    | some v => some (v :: r)
    | none => none
  | _ => none
def ev_li (f : Int64 → Int32 → Value) : List Value → Option (List Value)
  | .int y :: .long x :: r => some (f x y :: r)
  | _ => none
def ev_i1 (f : Int32 → Value) : List Value → Option (List Value)
  | .int x :: r => some (f x :: r)
  | _ => none
def ev_l1 (f : Int64 → Value) : List Value → Option (List Value)
  | .long x :: r => some (f x :: r)
  | _ => none
theorem ev_ii_inv {f : Int32 → Int32 → Option Value} {st st' : List Value} (h : ev_ii f st = some st') : ∃ x y r v, st = .int y :: .int x :: r ∧ f x y = some v ∧ st' = v :: r := by
  unfold ev_ii at h
  split at h
  · split at h
    · cases h; exact ⟨_, _, _, _, rfl, by assumption, rfl⟩
    · cases h
  · cases h
theorem ev_ll_inv {f : Int64 → Int64 → Option Value} {st st' : List Value} (h : ev_ll f st = some st') : ∃ x y r v, st = .long y :: .long x :: r ∧ f x y = some v ∧ st' = v :: r := by
  unfold ev_ll at h
  split at h
  · split at h
    · cases h; exact ⟨_, _, _, _, rfl, by assumption, rfl⟩
    · cases h
  · cases h
theorem ev_li_inv {f : Int64 → Int32 → Value} {st st' : List Value} (h : ev_li f st = some st') : ∃ x y r, st = .int y :: .long x :: r ∧ st' = f x y :: r := by
  unfold ev_li at h
  split at h
  · cases h; exact ⟨_, _, _, rfl, rfl⟩
  · cases h
theorem ev_i1_inv {f : Int32 → Value} {st st' : List Value} (h : ev_i1 f st = some st') : ∃ x r, st = .int x :: r ∧ st' = f x :: r := by
  unfold ev_i1 at h
  split at h
  · cases h; exact ⟨_, _, rfl, rfl⟩
  · cases h
theorem ev_l1_inv {f : Int64 → Value} {st st' : List Value} (h : ev_l1 f st = some st') : ∃ x r, st = .long x :: r ∧ st' = f x :: r := by
  unfold ev_l1 at h
  split at h
  · cases h; exact ⟨_, _, rfl, rfl⟩
  · cases h
def ev_dup : List Value → Option (List Value)
  | v :: r => if v.category = 1 then some (v :: v :: r) else none
  | _ => none
def ev_pop : List Value → Option (List Value)
  | v :: r => if v.category = 1 then some r else none
  | _ => none
def ev_pop2 : List Value → Option (List Value)
  | v :: r => if v.category = 2 then some r else none
  | _ => none
def ev_dupx1 : List Value → Option (List Value)
  | v :: w :: r => if v.category = 1 ∧ w.category = 1 then some (v :: w :: v :: r) else none
  | _ => none
def ev_dup2 : List Value → Option (List Value)
  | v :: r => if v.category = 2 then some (v :: v :: r) else match r with
    | w :: r' => if v.category = 1 ∧ w.category = 1 then some (v :: w :: v :: w :: r') else none
    | _ => none
  | _ => none
def ev_dupx2 : List Value → Option (List Value)
  | v :: w :: x :: r => if v.category = 1 ∧ w.category = 1 ∧ x.category = 1 then some (v :: w :: x :: v :: r) else none
  | _ => none
def ev_dup2x1 : List Value → Option (List Value)
  | v :: w :: r => if v.category = 2 ∧ w.category = 1 then some (v :: w :: v :: r) else none
  | _ => none
/-- what an instruction does to the stack alone; kv: the constant that it loads -/
def ev_st (kv : Value) (i : Instr) (st : List Value) : Option (List Value) := match i with
  | .iconst n => some (.int (Int32.ofInt n) :: st)
  | .bipush n => some (.int (Int8.ofInt n).toInt32 :: st)
  | .sipush n => some (.int (Int16.ofInt n).toInt32 :: st)
  | .lconst n => some (.long (Int64.ofNat n.val) :: st)
  | .ldc _ => match kv with
    | .int v => some (.int v :: st)
    | _ => none
  | .ldc2_w _ => match kv with
    | .long v => some (.long v :: st)
    | _ => none
  | .aconst_null => some (.null :: st)
  | .iadd => ev_ii (fun x y => some (.int (x + y))) st
  | .isub => ev_ii (fun x y => some (.int (x - y))) st
  | .imul => ev_ii (fun x y => some (.int (x * y))) st
  | .iand => ev_ii (fun x y => some (.int (x &&& y))) st
  | .ior => ev_ii (fun x y => some (.int (x ||| y))) st
  | .ixor => ev_ii (fun x y => some (.int (x ^^^ y))) st
  | .idiv => ev_ii (fun x y => if y = 0 then none else some (.int (x / y))) st
  | .irem => ev_ii (fun x y => if y = 0 then none else some (.int (x - x / y * y))) st
  | .ishl => ev_ii (fun x y => some (.int (x <<< (y &&& 31)))) st
  | .ishr => ev_ii (fun x y => some (.int (x >>> (y &&& 31)))) st
  | .iushr => ev_ii (fun x y => some (.int (x.toUInt32 >>> (y.toUInt32 &&& Int32.toUInt32 31)).toInt32)) st
  | .ineg => ev_i1 (fun x => .int (-x)) st
  | .ladd => ev_ll (fun x y => some (.long (x + y))) st
  | .lsub => ev_ll (fun x y => some (.long (x - y))) st
  | .lmul => ev_ll (fun x y => some (.long (x * y))) st
  | .land => ev_ll (fun x y => some (.long (x &&& y))) st
  | .lor => ev_ll (fun x y => some (.long (x ||| y))) st
  | .lxor => ev_ll (fun x y => some (.long (x ^^^ y))) st
  | .ldiv => ev_ll (fun x y => if y = 0 then none else some (.long (x / y))) st
  | .lrem => ev_ll (fun x y => if y = 0 then none else some (.long (x - x / y * y))) st
  | .lcmp => ev_ll (fun x y => some (.int (lg_cmp x y))) st
  | .lneg => ev_l1 (fun x => .long (-x)) st
  | .lushr => ev_li (fun x y => .long (x.toUInt64 >>> (y.toInt64.toUInt64 &&& Int64.toUInt64 63)).toInt64) st
  | .lshl => ev_li (fun x y => .long (x <<< (y.toInt64 &&& 63))) st
  | .lshr => ev_li (fun x y => .long (x >>> (y.toInt64 &&& 63))) st
  | .i2l => ev_i1 (fun x => .long x.toInt64) st
  | .l2i => ev_l1 (fun x => .int x.toInt32) st
  | .i2b => ev_i1 (fun x => .int x.toInt8.toInt32) st
  | .i2s => ev_i1 (fun x => .int x.toInt16.toInt32) st
  | .i2c => ev_i1 (fun x => .int (x.toUInt32 % 65536).toInt32) st
  | .dup => ev_dup st
  | .pop => ev_pop st
  | .pop2 => ev_pop2 st
  | .dup_x1 => ev_dupx1 st
  | .dup_x2 => ev_dupx2 st
  | .dup2 => ev_dup2 st
  | .dup2_x1 => ev_dup2x1 st
  | _ => none
-- locals
def ev_kill (A : List Value) (i : Nat) : List Value := match i with
  | 0 => A
  | j + 1 => match A[j]? with
    | some (.long _) => A.set j ev_dead
    | some (.double _) => A.set j ev_dead
    | _ => A
def ev_s1 (A : List Value) (i : Nat) (v : Value) : List Value := (ev_kill A i).set i v
def ev_s2 (A : List Value) (i : Nat) (v : Value) : List Value := ((ev_kill A i).set i v).set (i + 1) ev_dead
def ev_ild (A : List Value) (i : Nat) (st : List Value) : Option (List Value × List Value) := match A[i]? with
  | some (.int x) => some (A, .int x :: st)
  | _ => none
def ev_lld (A : List Value) (i : Nat) (st : List Value) : Option (List Value × List Value) := match A[i]? with
  | some (.long x) => some (A, .long x :: st)
  | _ => none
def ev_ald (A : List Value) (i : Nat) (st : List Value) : Option (List Value × List Value) := match A[i]? with
  | some (.ref x) => some (A, .ref x :: st)
  | some .null => some (A, .null :: st)
  | _ => none
def ev_ist (A : List Value) (i : Nat) (st : List Value) : Option (List Value × List Value) := match st with
  | .int x :: r => if i < A.length then some (ev_s1 A i (.int x), r) else none
  | _ => none
def ev_lst (A : List Value) (i : Nat) (st : List Value) : Option (List Value × List Value) := match st with
  | .long x :: r => if i + 1 < A.length then some (ev_s2 A i (.long x), r) else none
  | _ => none
def ev_ast (A : List Value) (i : Nat) (st : List Value) : Option (List Value × List Value) := match st with
  | .ref x :: r => if i < A.length then some (ev_s1 A i (.ref x), r) else none
  | .null :: r => if i < A.length then some (ev_s1 A i .null, r) else none
  | _ => none
def ev_inc (A : List Value) (i : Nat) (n : Int) (st : List Value) : Option (List Value × List Value) := match A[i]? with
  | some (.int x) => some (ev_s1 A i (.int (x + Int32.ofInt n)), st)
  | _ => none
def ev_lc (i : Instr) (A st : List Value) : Option (List Value × List Value) := match i with
  | .iload k => ev_ild A k st
  | .iload_n k => ev_ild A k.val st
  | .lload k => ev_lld A k st
  | .lload_n k => ev_lld A k.val st
  | .aload k => ev_ald A k st
  | .aload_n k => ev_ald A k.val st
  | .istore k => ev_ist A k st
  | .istore_n k => ev_ist A k.val st
  | .lstore k => ev_lst A k st
  | .lstore_n k => ev_lst A k.val st
  | .astore k => ev_ast A k st
  | .astore_n k => ev_ast A k.val st
  | .iinc k n => ev_inc A k n st
  | _ => none
-- branches
def ev_sw : Instr → Bool
  | .lookupswitch _ _ => true
  | .tableswitch _ _ _ _ => true
  | _ => false
def ev_t (pc : Nat) (off : Int) : Nat := ((pc : Int) + off).toNat
def ev_c1 (c : ClassFile.Cond) (x : Int32) : Bool := match c with
  | .eq => decide (x = 0) | .ne => decide (¬ x = 0) | .lt => decide (x < 0) | .ge => decide (0 ≤ x) | .gt => decide (0 < x) | .le => decide (x ≤ 0)
def ev_c2 (c : ClassFile.Cond) (x y : Int32) : Bool := match c with
  | .eq => decide (x = y) | .ne => decide (¬ x = y) | .lt => decide (x < y) | .ge => decide (y ≤ x) | .gt => decide (y < x) | .le => decide (x ≤ y)
def ev_br (i : Instr) (pc nx : Nat) (st : List Value) : Option (Nat × List Value) := match i with
  | .ifCond c off => match st with
    | .int x :: r => if (pc : Int) + off < 0 then none else some (if ev_c1 c x then ev_t pc off else nx, r)
    | _ => none
  | .if_icmp c off => match st with
    | .int y :: .int x :: r => if (pc : Int) + off < 0 then none else some (if ev_c2 c x y then ev_t pc off else nx, r)
    | _ => none
  | .ifnull off => match st with
    | .ref _ :: r => some (nx, r)
    | .null :: r => if (pc : Int) + off < 0 then none else some (ev_t pc off, r)
    | _ => none
  | .ifnonnull off => match st with
    | .ref _ :: r => if (pc : Int) + off < 0 then none else some (ev_t pc off, r)
    | .null :: r => some (nx, r)
    | _ => none
  | .goto off => if (pc : Int) + off < 0 then none else some (ev_t pc off, st)
  | .lookupswitch d ps => match st with
    | .int x :: r => if (ps.toList.zip (ps.toList.drop 1)).all (fun (a, next) => a.1 < next.1) = true ∧ 0 ≤ (pc : Int) + Op.lookupswitch.offset ps.toList d x.toInt then some (ev_t pc (Op.lookupswitch.offset ps.toList d x.toInt), r) else none
    | _ => none
  | .tableswitch d lo hi offs => match st with
    | .int x :: r => if x.toInt < lo ∨ hi < x.toInt then (if (pc : Int) + d < 0 then none else some (ev_t pc d, r)) else match offs[(x.toInt - lo).toNat]? with
      | some off => if (pc : Int) + off < 0 then none else some (ev_t pc off, r)
      | none => none
    | _ => none
  | _ => none
