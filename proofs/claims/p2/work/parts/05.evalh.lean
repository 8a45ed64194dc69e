/-! The evaluator's heap and its run. X: the script (cell, length, ints), the String constants' cells, their byte arrays' cells, and back; a static of the JDK's that is only carried. A heap: next cell, slots made, the cells. -/
abbrev ev_X : Type := (Nat × Nat × (Nat → Int32)) × (Nat → Nat) × (Nat → Nat) × (Nat → Option Nat) × (Nat → Option Nat) × Value
def ev_set (h : ev_H) (o : Nat) (e : va_E) : ev_H := (h.1, h.2.1, va_up h.2.2 o (some e))
def ev_new (h : ev_H) (n : Nat) (e : va_E) : ev_H := (h.1 + 1, h.2.1 + n, va_up h.2.2 h.1 (some e))
def ev_get (X : ev_X) (a b : Nat) (st : List Value) (h : ev_H) : Option (List Value × ev_H) := match st with
  | .ref o :: r => match h.2.2 o with
    | some (.inr (ci, fs)) => if ci = a then (match fs[b]? with
      | some v => some (v :: r, h)
      | none => none) else none
    | some (.inl _) => none
    | none => if a = 90 then (match X.2.2.2.1 o with
      | some k => some ((if b = 0 then .ref (X.2.2.1 k) else .int 0) :: r, h)
      | none => none) else none
  | _ => none
def ev_put (a b : Nat) (st : List Value) (h : ev_H) : Option (List Value × ev_H) := match st with
  | v :: .ref o :: r => match h.2.2 o with
    | some (.inr (ci, fs)) => if ci = a ∧ b < fs.length ∧ narrow (pg_t a b) v = v ∧ fits (pg_t a b) v = true then some (r, ev_set h o (.inr (ci, fs.set b v))) else none
    | _ => none
  | _ => none
def ev_iald (X : ev_X) (st : List Value) (h : ev_H) : Option (List Value × ev_H) := match st with
  | .int j :: .ref o :: r => match h.2.2 o with
    | some (.inl (t, n, .inl f)) => if pg_ty[t]? = some .int ∧ ¬ (j < 0 ∨ n ≤ j.toNatClampNeg) then some (.int (f j.toNatClampNeg) :: r, h) else none
    | some _ => none
    | none => if o = X.1.1 ∧ ¬ (j < 0 ∨ X.1.2.1 ≤ j.toNatClampNeg) then some (.int (X.1.2.2 j.toNatClampNeg) :: r, h) else none
  | _ => none
def ev_bald (X : ev_X) (st : List Value) (h : ev_H) : Option (List Value × ev_H) := match st with
  | .int j :: .ref o :: r => match h.2.2 o with
    | some (.inl (t, n, .inl f)) => if pg_ty[t]? = some .byte ∧ ¬ (j < 0 ∨ n ≤ j.toNatClampNeg) then some (.int (f j.toNatClampNeg) :: r, h) else none
    | some _ => none
    | none => match X.2.2.2.2.1 o with
      | some k => if ¬ (j < 0 ∨ (pg_byt.getD k []).length ≤ j.toNatClampNeg) then some (.int ((pg_byt.getD k []).getD j.toNatClampNeg 0) :: r, h) else none
      | none => none
  | _ => none
def ev_aald (st : List Value) (h : ev_H) : Option (List Value × ev_H) := match st with
  | .int j :: .ref o :: r => match h.2.2 o with
    | some (.inl (t, n, .inr (.inr (.inr (.inr f))))) => match pg_ty[t]? with
      | some (.object _) => if ¬ (j < 0 ∨ n ≤ j.toNatClampNeg) then some (va_rf (f j.toNatClampNeg) :: r, h) else none
      | _ => none
    | _ => none
  | _ => none
def ev_iast (st : List Value) (h : ev_H) : Option (List Value × ev_H) := match st with
  | .int x :: .int j :: .ref o :: r => match h.2.2 o with
    | some (.inl (t, n, .inl f)) => if pg_ty[t]? = some .int ∧ ¬ (j < 0 ∨ n ≤ j.toNatClampNeg) then some (r, ev_set h o (.inl (t, n, .inl (upd f j.toNatClampNeg x)))) else none
    | _ => none
  | _ => none
def ev_bast (st : List Value) (h : ev_H) : Option (List Value × ev_H) := match st with
  | .int x :: .int j :: .ref o :: r => match h.2.2 o with
    | some (.inl (t, n, .inl f)) => if pg_ty[t]? = some .byte ∧ ¬ (j < 0 ∨ n ≤ j.toNatClampNeg) then some (r, ev_set h o (.inl (t, n, .inl (upd f j.toNatClampNeg (vp_nar .byte x))))) else none
    | _ => none
  | _ => none
def ev_aast (st : List Value) (h : ev_H) : Option (List Value × ev_H) := match st with
  | .ref v :: .int j :: .ref o :: r => match h.2.2 o with
    | some (.inl (t, n, .inr (.inr (.inr (.inr f))))) => match h.2.2 v with
      | some (.inr (ci, _)) => if pg_el[t]? = some ci ∧ ¬ (j < 0 ∨ n ≤ j.toNatClampNeg) then some (r, ev_set h o (.inl (t, n, .inr (.inr (.inr (.inr (va_up f j.toNatClampNeg (some v)))))))) else none
      | _ => none
    | _ => none
  | _ => none
def ev_alen (X : ev_X) (st : List Value) (h : ev_H) : Option (List Value × ev_H) := match st with
  | .ref o :: r => match h.2.2 o with
    | some (.inl (t, n, _)) => if t < pg_ty.length then some (.int (Int32.ofNat n) :: r, h) else none
    | some (.inr _) => none
    | none => if o = X.1.1 then some (.int (Int32.ofNat X.1.2.1) :: r, h) else match X.2.2.2.2.1 o with
      | some k => some (.int (Int32.ofNat (pg_byt.getD k []).length) :: r, h)
      | none => none
  | _ => none
def ev_newa (a : Nat) (at' : ArrayType) (st : List Value) (h : ev_H) : Option (List Value × ev_H) := match st with
  | .int n :: r => if pg_ty[a]? = some (Op.newarray.typeOf at') ∧ (Op.newarray.typeOf at' = .int ∨ Op.newarray.typeOf at' = .byte) ∧ ¬ n < 0 ∧ n.toNatClampNeg * componentBytes (Op.newarray.typeOf at') ≤ 536870912 then some (.ref h.1 :: r, ev_new h n.toNatClampNeg (.inl (a, n.toNatClampNeg, .inl (fun _ => 0)))) else none
  | _ => none
def ev_anew (a : Nat) (st : List Value) (h : ev_H) : Option (List Value × ev_H) := match st with
  | .int n :: r => match pg_ty[a]? with
    | some (.object _) => if ¬ n < 0 ∧ n.toNatClampNeg * 4 ≤ 536870912 then some (.ref h.1 :: r, ev_new h n.toNatClampNeg (.inl (a, n.toNatClampNeg, .inr (.inr (.inr (.inr (fun _ => none))))))) else none
    | _ => none
  | _ => none
def ev_newo (a : Nat) (st : List Value) (h : ev_H) : Option (List Value × ev_H) := match pg_cl[a]? with
  | some q => some (.ref h.1 :: st, ev_new h q.2.2 (.inr (a, pg_D.getD a [])))
  | none => none
def ev_oini (a : Nat) (st : List Value) (h : ev_H) : Option (List Value × ev_H) := match st with
  | .ref _ :: r => if a = pg_obj ∧ (r.map fun v => v.category).sum ≤ 8 then some (r, h) else none
  | _ => none
def ev_math (a : Nat) (st : List Value) (h : ev_H) : Option (List Value × ev_H) := match st with
  | .int y :: .int x :: r => if (r.map fun v => v.category).sum ≤ 8 then (if a = pg_max then some (.int (if x < y then y else x) :: r, h) else if a = pg_min then some (.int (if y < x then y else x) :: r, h) else none) else none
  | .long x :: r => if (r.map fun v => v.category).sum ≤ 8 then (if a = pg_abs then some (.long (if 0 < x then x else -x) :: r, h) else none) else none
  | _ => none
def ev_hp (X : ev_X) (i : Instr) (a b : Nat) (st : List Value) (h : ev_H) : Option (List Value × ev_H) := match i with
  | .getfield _ => ev_get X a b st h
  | .putfield _ => ev_put a b st h
  | .iaload => ev_iald X st h
  | .baload => ev_bald X st h
  | .aaload => ev_aald st h
  | .iastore => ev_iast st h
  | .bastore => ev_bast st h
  | .aastore => ev_aast st h
  | .arraylength => ev_alen X st h
  | .newarray t => ev_newa a t st h
  | .anewarray _ => ev_anew a st h
  | .new _ => ev_newo a st h
  | .getstatic _ => some ((if a = 0 then .int 1 else X.2.2.2.2.2) :: st, h)
  | .ldc _ => if b = 1 then some (.ref (X.2.1 a) :: st, h) else none
  | .invokespecial _ => ev_oini a st h
  | .invokestatic _ => ev_math a st h
  | _ => none
-- calls and ends
def ev_rcv (X : ev_X) (h : ev_H) (o ci : Nat) : Bool := match h.2.2 o with
  | some (.inr (c, _)) => c == ci
  | some (.inl _) => false
  | none => ci == 90 && (X.2.2.2.1 o).isSome
def ev_argI (k : Nat) (st : List Value) : Option (Nat × List Value × List Value) := match st.drop k with
  | .ref o :: r => if (st.take k).length = k ∧ (r.map fun v => v.category).sum ≤ 8 then some (o, (st.take k).reverse, r) else none
  | _ => none
def ev_argS (k : Nat) (st : List Value) : Option (List Value × List Value) := if (st.take k).length = k ∧ ((st.drop k).map fun v => v.category).sum ≤ 8 then some ((st.take k).reverse, st.drop k) else none
def ev_cal (X : ev_X) (i : Instr) (a : Nat) (st : List Value) (h : ev_H) : Option (List Value × List Value) := match i with
  | .invokevirtual _ => match ev_argI (pg_n a) st with
    | some (o, as, r) => if ev_rcv X h o (pg_c a) = true then some (.ref o :: as, r) else none
    | none => none
  | .invokespecial _ => if a = pg_obj then none else match ev_argI (pg_n a) st with
    | some (o, as, r) => some (.ref o :: as, r)
    | none => none
  | .invokestatic _ => if a ∈ pg_sp then none else ev_argS (pg_n a) st
  | _ => none
def ev_fl : List Value → List Value
  | [] => []
  | v :: t => if v.category = 2 then v :: ev_dead :: ev_fl t else v :: ev_fl t
def ev_ent (L : Nat) (as : List Value) : Option (List Value) := if (ev_fl as).length ≤ L then some (ev_fl as ++ List.replicate (L - (ev_fl as).length) ev_dead) else none
def ev_ret (M : Nat) (i : Instr) (st : List Value) : Option (Option Value) := match i with
  | .ireturn => match st with
    | [.int v] => match pg_r M with
      | some ty => if narrow ty (.int v) = .int v then some (some (.int v)) else none
      | none => none
    | _ => none
  | .lreturn => match st with
    | [.long v] => if pg_r M = some .long then some (some (.long v)) else none
    | _ => none
  | .areturn => match pg_r M with
    | some (.object _) => match st with
      | [.ref a] => some (some (.ref a))
      | [.null] => some (some .null)
      | _ => none
    | _ => none
  | .return_ => match st with
    | [] => if pg_r M = none then some none else none
    | _ => none
  | _ => none
def ev_one (X : ev_X) (i : Instr) (pc nx a b : Nat) (A st : List Value) (h : ev_H) : Option (Nat × List Value × List Value × ev_H) := match ev_st (if b = 0 then pg_kon.getD a .null else .null) i st with
  | some st' => some (nx, A, st', h)
  | none => match ev_lc i A st with
    | some (A', st') => some (nx, A', st', h)
    | none => match ev_br i pc nx st with
      | some (pc', st') => some (pc', A, st', h)
      | none => match ev_hp X i a b st h with
        | some (st', h') => some (nx, A, st', h')
        | none => none
def ev_run (X : ev_X) : Nat → Nat → Nat → List Value → List Value → ev_H → Option (Option Value × ev_H)
  | 0, _, _, _, _, _ => none
  | n + 1, M, pc, A, st, h => match pg_ops M pc with
    | none => none
    | some (i, nx, a, b, _) => match ev_ret M i st with
      | some r => some (r, h)
      | none => match ev_cal X i a st h with
        | some (as, r) => match ev_ent (pg_L a) as with
          | some A0 => match ev_run X n a 0 A0 [] h with
            | some (v, h1) => ev_run X n M nx A (v.toList ++ r) h1
            | none => none
          | none => none
        | none => match ev_one X i pc nx a b A st h with
          | some (pc', A', st', h') => ev_run X n M pc' A' st' h'
          | none => none
