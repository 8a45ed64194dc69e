/-! The tables against the Statement's words: a check that a program decides, class by class and method by method. -/
def pg_ws : List Cond := lw_tbl.filter goodWord
def pg_isN : Cond → Bool
  | .fieldLinkNest .. => true
  | .methodLinkNest .. => true
  | _ => false
theorem pg_ws_of {w : Nat} {c : Cond} (h : lw_tbl[w]? = some c) (hg : goodWord c = true) : c ∈ pg_ws := List.mem_filter.mpr ⟨List.mem_of_getElem? h, hg⟩
def ev_chkF (M : Nat) (idx a b w : Nat) : Bool := match pg_cl[a]? with
  | some q => decide (b < q.2.2) && (decide (lw_tbl[w]? = some (.fieldLink (pg_y M).cls idx (q.2.1 b).1 (q.2.1 b).2.1 (q.2.1 b).2.2.1)) || decide (lw_tbl[w]? = some (.fieldLinkNest (pg_y M).cls idx (q.2.1 b).1 (q.2.1 b).2.1 (q.2.1 b).2.2.1 "TermTable")))
  | none => false
def ev_chkP (M : Nat) (idx a b w : Nat) : Bool := match pg_cl[a]? with
  | some q => !(q.2.1 b).2.2.2 || (decide ((q.2.1 b).1 = (pg_y M).cls) && decide ((pg_y M).name = "<init>") && decide (lw_tbl[w]? = some (.fieldLink (pg_y M).cls idx (q.2.1 b).1 (q.2.1 b).2.1 (q.2.1 b).2.2.1)))
  | none => false
def ev_chkC (M : Nat) (a : Nat) : Bool := decide (a < 157) && decide (a ∉ pg_sp) && decide (pg_f a + 1 ≤ pg_f M) && decide (8 + (pg_L a + 11) + pg_w a ≤ pg_w M)
def ev_chkL (M idx a w : Nat) : Bool := decide (lw_tbl[w]? = some (.methodLink (pg_y M).cls idx (pg_y a)))
def ev_chkN (M idx a w : Nat) : Bool := decide (lw_tbl[w]? = some (.methodLinkNest (pg_y M).cls idx (pg_y a) "TermTable"))
def ev_chk2 (M : Nat) (i : Instr) (a b w : Nat) : Bool := match i with
  | .getfield idx => if a = 90 then decide (lw_tbl[w]? = some (.fieldLink (pg_y M).cls idx "java/lang/String" (if b = 0 then "value" else "coder") (if b = 0 then "[B" else "B"))) else ev_chkF M idx a b w
  | .putfield idx => ev_chkF M idx a b w && ev_chkP M idx a b w
  | .getstatic idx => if a = 0 then decide (lw_tbl[w]? = some (.fieldLink (pg_y M).cls idx "java/lang/String" "COMPACT_STRINGS" "Z")) else decide (lw_tbl[w]? = some (.fieldLink (pg_y M).cls idx "jdk/internal/util/Preconditions" "SIOOBE_FORMATTER" "Ljava/util/function/BiFunction;"))
  | .invokevirtual idx => ev_chkC M a && (ev_chkL M idx a w || ev_chkN M idx a w) && !pg_s a && decide ((pg_y a).name ≠ "<init>")
  | .invokespecial idx => if a = pg_obj then decide (1 ≤ pg_f M) && decide (20 ≤ pg_w M) && ev_chkL M idx a w else ev_chkC M a && ev_chkL M idx a w && !pg_s a && decide ((pg_y a).name = "<init>") && decide (pg_r a = none)
  | .invokestatic idx => if a ∈ pg_sp then decide (1 ≤ pg_f M) && decide (21 ≤ pg_w M) && ev_chkL M idx a w && decide (a ≠ pg_obj) else ev_chkC M a && (ev_chkL M idx a w || ev_chkN M idx a w) && pg_s a
  | .new idx => match pg_cl[a]? with
    | some q => decide (lw_tbl[w]? = some (.classLink (pg_y M).cls idx q.1))
    | none => false
  | .anewarray idx => decide (lw_tbl[w]? = some (.classLink (pg_y M).cls idx "TermTable$Term")) && decide (pg_ty[a]? = some (.object "TermTable$Term"))
  | .ldc idx => if b = 1 then decide (((pg_y M).cls, idx, a) ∈ pg_str) else match pg_kon.getD a .null with
    | .int v => decide (lw_tbl[w]? = some (.constant (pg_y M).cls idx v))
    | _ => false
  | .ldc2_w idx => match pg_kon.getD a .null with
    | .long v => decide (lw_tbl[w]? = some (.constantLong (pg_y M).cls idx v)) && decide (b = 0)
    | _ => false
  | _ => true
def ev_chk (M : Nat) (q : Nat × ev_R) : Bool := decide (decode (pg_b M) q.1 = .ok (q.2.1, q.2.2.1 - q.1)) && decide (q.1 ≤ q.2.2.1) && (ev_sw q.2.1 || decide (q.2.2.1 = q.1 + ev_len q.2.1)) && ev_chk2 M q.2.1 q.2.2.2.1 q.2.2.2.2.1 q.2.2.2.2.2
