/-! Rows and terms of the class, compared. (rows laid by wip/whole/tm1.py) -/
theorem Hx.min {X : ev_X} {M pc nx b w idx : Nat} {A r : List Value} {Q : Option Value → ev_H → Prop} {h : ev_H} {x y : Int32} (o : pg_ops M pc = some (.invokestatic idx, nx, 56, b, w)) (hs : Nat.ble (r.map fun v => v.category).sum 8 = true) (kk : Ex X M nx A (.int (if y < x then y else x) :: r) h Q) : Ex X M pc A (.int y :: .int x :: r) h Q :=
  Ex.hp o rfl rfl rfl rfl rfl (by simp only [ev_hp, ev_math]; rw [if_pos (Nat.le_of_ble_eq_true hs)]; rfl) kk
theorem nI_min {a b : Nat} (ha : a < 2 ^ 31) (hb : b < 2 ^ 31) : (if nI b < nI a then nI b else nI a) = nI (min a b) := by
  by_cases h : b < a
  · rw [if_pos ((nI_ltI hb ha).mpr h), Nat.min_eq_right (by omega)]
  · rw [if_neg (fun q => h ((nI_ltI hb ha).mp q)), Nat.min_eq_left (by omega)]
def cmpL (a b : Int64) : Int32 := if lg_cmp a b < 0 then -1 else if 0 < lg_cmp a b then 1 else 0
/-- the order of two rows of bytes, from i on -/
def ordI (l m : List Nat) : Nat → Nat → Int32
  | 0, _ => cmpL (nI l.length).toInt64 (nI m.length).toInt64
  | d + 1, i => if hb l i = hb m i then ordI l m d (i + 1) else if hb l i < hb m i then -1 else 1
def ordL (l m : List Nat) : Int32 := ordI l m (min l.length m.length) 0
set_option maxRecDepth 100000 in
set_option maxHeartbeats 2000000 in
theorem sx_cmp (X : ev_X) (a b : Int64) : Sx X m_Tab_compareNumbers 0 [.long a, ev_dead, .long b, ev_dead] [] (fun r => r = some (.int (cmpL a b))) := by
  refine Sx.go (fun _ => rfl) ?_
  refine Sx.go (fun _ => rfl) ?_
  refine Sx.go (fun _ => rfl) ?_
  refine Sx.go (fun _ => rfl) ?_
  refine Sx.ite (fun c1 => ?_) (fun c1 => ?_)
  · replace c1 : 0 ≤ (lg_cmp a b) := of_decide_eq_true c1
    show Sx X m_Tab_compareNumbers 10 [.long a, ev_dead, .long b, ev_dead] [] _
    refine Sx.go (fun _ => rfl) ?_
    refine Sx.go (fun _ => rfl) ?_
    refine Sx.go (fun _ => rfl) ?_
    refine Sx.go (fun _ => rfl) ?_
    refine Sx.ite (fun c2 => ?_) (fun c2 => ?_)
    · replace c2 : (lg_cmp a b) ≤ 0 := of_decide_eq_true c2
      show Sx X m_Tab_compareNumbers 20 [.long a, ev_dead, .long b, ev_dead] [] _
      refine Sx.go (fun _ => rfl) ?_
      exact Sx.ret rfl (ev_reti rfl) (by rw [cmpL, if_neg (Int32.not_lt.mpr c1), if_neg (Int32.not_lt.mpr c2)] <;> rfl)
    · replace c2 : ¬ (lg_cmp a b) ≤ 0 := of_decide_eq_false c2
      show Sx X m_Tab_compareNumbers 16 [.long a, ev_dead, .long b, ev_dead] [] _
      refine Sx.go (fun _ => rfl) ?_
      refine Sx.go (fun _ => rfl) ?_
      exact Sx.ret rfl (ev_reti rfl) (by rw [cmpL, if_neg (Int32.not_lt.mpr c1), if_pos (Int32.not_le.mp c2)] <;> rfl)
  · replace c1 : ¬ 0 ≤ (lg_cmp a b) := of_decide_eq_false c1
    show Sx X m_Tab_compareNumbers 6 [.long a, ev_dead, .long b, ev_dead] [] _
    refine Sx.go (fun _ => rfl) ?_
    refine Sx.go (fun _ => rfl) ?_
    exact Sx.ret rfl (ev_reti rfl) (by rw [cmpL, if_pos (Int32.not_le.mp c1)] <;> rfl)
set_option maxRecDepth 100000 in
set_option maxHeartbeats 2000000 in
theorem rl_or_l {X : ev_X} {c0 n z : Nat} {F : Nat → Option va_E} {k ka N j ja N1 : Nat} {l m : List Nat} (hN : N ≤ 1000) (hN1 : N1 ≤ 1000) (h : rowL c0 F k ka N l) (g : rowL c0 F j ja N1 m) {e : Nat} (he : e ≤ 1000) : ∀ (d i : Nat) (hm : i + d = e), Ex X m_Row_orderTo 14 [.ref (c0 + k), .ref (c0 + j), .int (nI e), .int (nI i)] [] (hp c0 n z F) (fun r h' => r = some (.int (ordI l m d i)) ∧ h' = hp c0 n z F) := by
  obtain ⟨f1, hF, -⟩ := id h
  obtain ⟨f2, gF, -⟩ := id g
  have hl := h.le
  have gl := g.le
  intro d
  induction d with
  | zero =>
    intro i hm
    refine Ex.nx rfl ?_
    refine Ex.nx rfl ?_
    refine Ex.nx rfl ?_
    refine Ex.ite (fun c1 => ?_) (fun c1 => ?_)
    · replace c1 : (nI e) ≤ (nI i) := of_decide_eq_true c1
      show Ex X m_Row_orderTo 57 [.ref (c0 + k), .ref (c0 + j), .int (nI e), .int (nI i)] [] (hp c0 n _ _) _
      refine Ex.nx rfl ?_
      refine Hx.get k rfl hF rfl ?_
      refine Ex.nx rfl ?_
      refine Ex.nx rfl ?_
      refine Hx.get j rfl gF rfl ?_
      refine Ex.nx rfl ?_
      refine Hx.calls rfl rfl rfl rfl (sx_cmp X ((nI l.length).toInt64) ((nI m.length).toInt64)) (fun v hv => ?_)
      subst hv
      show Ex X m_Row_orderTo 70 [.ref (c0 + k), .ref (c0 + j), .int (nI e), .int (nI i)] [.int (cmpL ((nI l.length).toInt64) ((nI m.length).toInt64))] (hp c0 n _ _) _
      exact Ex.ret rfl (ev_reti rfl) ⟨rfl, rfl⟩
    · replace c1 : ¬ (nI e) ≤ (nI i) := of_decide_eq_false c1
      exact absurd (show nI e ≤ nI i by rw [show i = e by omega]; exact Int32.le_refl _) c1
  | succ d ih =>
    intro i hm
    refine Ex.nx rfl ?_
    refine Ex.nx rfl ?_
    refine Ex.nx rfl ?_
    refine Ex.ite (fun c1 => ?_) (fun c1 => ?_)
    · replace c1 : (nI e) ≤ (nI i) := of_decide_eq_true c1
      exact absurd ((nI_leI (by omega) (by omega)).mp c1) (by omega)
    · replace c1 : ¬ (nI e) ≤ (nI i) := of_decide_eq_false c1
      show Ex X m_Row_orderTo 19 [.ref (c0 + k), .ref (c0 + j), .int (nI e), .int (nI i)] [] (hp c0 n _ _) _
      refine Ex.nx rfl ?_
      refine Ex.nx rfl ?_
      refine Hx.rowE h rfl rfl rfl rfl (rl_at h hN (i := i) (by omega)) ?_
      show Ex X m_Row_orderTo 24 [.ref (c0 + k), .ref (c0 + j), .int (nI e), .int (nI i)] [.int (hb l i)] (hp c0 n _ _) _
      refine Ex.nx rfl ?_
      refine Ex.nx rfl ?_
      refine Hx.rowE g rfl rfl rfl rfl (rl_at g hN1 (i := i) (by omega)) ?_
      show Ex X m_Row_orderTo 29 [.ref (c0 + k), .ref (c0 + j), .int (nI e), .int (nI i)] [.int (hb m i), .int (hb l i)] (hp c0 n _ _) _
      refine Ex.nx rfl ?_
      refine Ex.ite (fun c2 => ?_) (fun c2 => ?_)
      · replace c2 : (hb l i) = (hb m i) := of_decide_eq_true c2
        show Ex X m_Row_orderTo 51 [.ref (c0 + k), .ref (c0 + j), .int (nI e), .int (nI i)] [] (hp c0 n _ _) _
        refine Ex.nx rfl ?_
        show Ex X m_Row_orderTo 54 [.ref (c0 + k), .ref (c0 + j), .int (nI e), .int ((nI i) + 1)] [] (hp c0 n _ _) _
        refine Ex.nx rfl ?_
        show Ex X m_Row_orderTo 14 [.ref (c0 + k), .ref (c0 + j), .int (nI e), .int ((nI i) + 1)] [] (hp c0 n _ _) _
        rw [show nI i + 1 = nI (i + 1) from nI_1 i, show ordI l m (d + 1) i = ordI l m d (i + 1) from if_pos c2]
        exact ih (i + 1) (by omega)
      · replace c2 : ¬ (hb l i) = (hb m i) := of_decide_eq_false c2
        show Ex X m_Row_orderTo 32 [.ref (c0 + k), .ref (c0 + j), .int (nI e), .int (nI i)] [] (hp c0 n _ _) _
        refine Ex.nx rfl ?_
        refine Ex.nx rfl ?_
        refine Hx.rowE h rfl rfl rfl rfl (rl_at h hN (i := i) (by omega)) ?_
        show Ex X m_Row_orderTo 37 [.ref (c0 + k), .ref (c0 + j), .int (nI e), .int (nI i)] [.int (hb l i)] (hp c0 n _ _) _
        refine Ex.nx rfl ?_
        refine Ex.nx rfl ?_
        refine Hx.rowE g rfl rfl rfl rfl (rl_at g hN1 (i := i) (by omega)) ?_
        show Ex X m_Row_orderTo 42 [.ref (c0 + k), .ref (c0 + j), .int (nI e), .int (nI i)] [.int (hb m i), .int (hb l i)] (hp c0 n _ _) _
        refine Ex.nx rfl ?_
        refine Ex.ite (fun c3 => ?_) (fun c3 => ?_)
        · replace c3 : (hb m i) ≤ (hb l i) := of_decide_eq_true c3
          show Ex X m_Row_orderTo 49 [.ref (c0 + k), .ref (c0 + j), .int (nI e), .int (nI i)] [] (hp c0 n _ _) _
          refine Ex.nx rfl ?_
          exact Ex.ret rfl (ev_reti rfl) ⟨by rw [show ordI l m (d + 1) i = 1 from (if_neg c2).trans (if_neg (Int32.not_lt.mpr c3))]; rfl, rfl⟩
        · replace c3 : ¬ (hb m i) ≤ (hb l i) := of_decide_eq_false c3
          show Ex X m_Row_orderTo 45 [.ref (c0 + k), .ref (c0 + j), .int (nI e), .int (nI i)] [] (hp c0 n _ _) _
          refine Ex.nx rfl ?_
          refine Ex.nx rfl ?_
          exact Ex.ret rfl (ev_reti rfl) ⟨by rw [show ordI l m (d + 1) i = -1 from (if_neg c2).trans (if_pos (Int32.not_le.mp c3))]; rfl, rfl⟩
set_option maxRecDepth 100000 in
set_option maxHeartbeats 2000000 in
theorem rl_order {X : ev_X} {c0 n z : Nat} {F : Nat → Option va_E} {k ka N j ja N1 : Nat} {l m : List Nat} (hN : N ≤ 1000) (hN1 : N1 ≤ 1000) (h : rowL c0 F k ka N l) (g : rowL c0 F j ja N1 m) : Ex X m_Row_orderTo 0 [.ref (c0 + k), .ref (c0 + j), ev_dead, ev_dead] [] (hp c0 n z F) (fun r h' => r = some (.int (ordL l m)) ∧ h' = hp c0 n z F) := by
  obtain ⟨f1, hF, -⟩ := id h
  obtain ⟨f2, gF, -⟩ := id g
  have hl := h.le
  have gl := g.le
  refine Ex.nx rfl ?_
  refine Hx.get k rfl hF rfl ?_
  refine Ex.nx rfl ?_
  refine Hx.get j rfl gF rfl ?_
  refine Hx.min rfl rfl ?_
  refine Hx.top (y := nI (min l.length m.length)) (nI_min (by omega) (by omega)) ?_
  show Ex X m_Row_orderTo 11 [.ref (c0 + k), .ref (c0 + j), ev_dead, ev_dead] [.int (nI (min l.length m.length))] (hp c0 n _ _) _
  refine Ex.nx rfl ?_
  show Ex X m_Row_orderTo 12 [.ref (c0 + k), .ref (c0 + j), .int (nI (min l.length m.length)), ev_dead] [] (hp c0 n _ _) _
  refine Ex.nx rfl ?_
  refine Ex.nx rfl ?_
  show Ex X m_Row_orderTo 14 [.ref (c0 + k), .ref (c0 + j), .int (nI (min l.length m.length)), .int 0] [] (hp c0 n _ _) _
  show Ex X m_Row_orderTo 14 [.ref (c0 + k), .ref (c0 + j), .int (nI (min l.length m.length)), .int 0] [] (hp c0 n _ _) _
  exact rl_or_l hN hN1 h g (by omega) (min l.length m.length) 0 (by omega)
theorem cmpL_0 {a b : Int64} : cmpL a b = 0 ↔ a = b := by
  unfold cmpL
  constructor
  · intro h
    split at h
    · exact absurd h (by decide)
    · split at h
      · exact absurd h (by decide)
      · next h1 h2 =>
        rw [lgc_n, Int64.lt_iff_toInt_lt] at h1
        rw [lgc_p, Int64.lt_iff_toInt_lt] at h2
        exact Int64.toInt_inj.mp (by omega)
  · intro h
    rw [if_neg (by rw [lgc_n, h]; exact Int64.lt_irrefl), if_neg (by rw [lgc_p, h]; exact Int64.lt_irrefl)]
theorem ordI_hb {l m : List Nat} : ∀ (d i : Nat), ordI l m d i = 0 → ∀ x, i ≤ x → x < i + d → hb l x = hb m x := by
  intro d
  induction d with
  | zero => intro i _ x h1 h2; omega
  | succ d ih =>
    intro i h x h1 h2
    rw [ordI] at h
    split at h
    · next e =>
      by_cases q : x = i
      · rw [q]; exact e
      · exact ih (i + 1) h x (by omega) (by omega)
    · split at h <;> exact absurd h (by decide)
theorem ordI_rf {l : List Nat} : ∀ (d i : Nat), ordI l l d i = 0 := by
  intro d
  induction d with
  | zero => intro i; exact cmpL_0.mpr rfl
  | succ d ih => intro i; rw [ordI, if_pos rfl]; exact ih _
theorem ordL_eq {l m : List Nat} (h1 : ∀ i, l.getD i 0 < 256) (h2 : ∀ i, m.getD i 0 < 256) (hl : l.length = m.length) (h : ordL l m = 0) : l = m := by
  refine getD_ext0 hl (fun x hx => ?_)
  have e := ordI_hb _ _ h x (Nat.zero_le _) (by rw [← hl, Nat.min_self]; omega)
  rw [hb_lt hx, hb_lt (by omega)] at e
  exact (nI_eq (by have := h1 x; omega) (by have := h2 x; omega)).mp e
set_option maxRecDepth 100000 in
set_option maxHeartbeats 2000000 in
theorem rl_has {X : ev_X} {c0 n z : Nat} {F : Nat → Option va_E} {k ka N j ja N1 : Nat} {l m : List Nat} (hN : N ≤ 1000) (hN1 : N1 ≤ 1000) (h : rowL c0 F k ka N l) (g : rowL c0 F j ja N1 m) : Ex X m_Row_hasBytesOf 0 [.ref (c0 + k), .ref (c0 + j)] [] (hp c0 n z F) (fun r h' => r = some (.int (bi (decide (l = m)))) ∧ h' = hp c0 n z F) := by
  obtain ⟨f1, hF, -⟩ := id h
  obtain ⟨f2, gF, -⟩ := id g
  have hl := h.le
  have gl := g.le
  refine Ex.nx rfl ?_
  refine Hx.get k rfl hF rfl ?_
  refine Ex.nx rfl ?_
  refine Hx.get j rfl gF rfl ?_
  refine Ex.nx rfl ?_
  refine Ex.ite (fun c1 => ?_) (fun c1 => ?_)
  · replace c1 : ¬ (nI l.length) = (nI m.length) := of_decide_eq_true c1
    show Ex X m_Row_hasBytesOf 23 [.ref (c0 + k), .ref (c0 + j)] [] (hp c0 n _ _) _
    refine Ex.nx rfl ?_
    exact Ex.ret rfl rfl ⟨ret_0 (decide_eq_false (fun e => c1 (by rw [e]))), rfl⟩
  · replace c1 : (nI l.length) = (nI m.length) := Classical.not_not.mp (of_decide_eq_false c1)
    show Ex X m_Row_hasBytesOf 11 [.ref (c0 + k), .ref (c0 + j)] [] (hp c0 n _ _) _
    refine Ex.nx rfl ?_
    refine Ex.nx rfl ?_
    refine Hx.rowE h rfl rfl rfl rfl (rl_order hN hN1 h g) ?_
    show Ex X m_Row_hasBytesOf 16 [.ref (c0 + k), .ref (c0 + j)] [.int (ordL l m)] (hp c0 n _ _) _
    refine Ex.nx rfl ?_
    refine Ex.ite (fun c2 => ?_) (fun c2 => ?_)
    · replace c2 : ¬ (ordL l m) = 0 := of_decide_eq_true c2
      show Ex X m_Row_hasBytesOf 23 [.ref (c0 + k), .ref (c0 + j)] [] (hp c0 n _ _) _
      refine Ex.nx rfl ?_
      exact Ex.ret rfl rfl ⟨ret_0 (decide_eq_false (fun e => c2 (by rw [e]; exact ordI_rf _ _))), rfl⟩
    · replace c2 : (ordL l m) = 0 := Classical.not_not.mp (of_decide_eq_false c2)
      show Ex X m_Row_hasBytesOf 19 [.ref (c0 + k), .ref (c0 + j)] [] (hp c0 n _ _) _
      refine Ex.nx rfl ?_
      refine Ex.nx rfl ?_
      exact Ex.ret rfl rfl ⟨ret_1 (decide_eq_true (ordL_eq h.by g.by ((nI_eq (by omega) (by omega)).mp c1) c2)), rfl⟩
/-- a term's cells -/
def trm (c0 : Nat) (F : Nat → Option va_E) (k N1 N2 : Nat) (x : Tm) : Prop := F k = some (.inr (2, [.int x.1, .long x.2.1, .int (nI x.2.2.1), .ref (c0 + (k + 1)), .ref (c0 + (k + 3))])) ∧ rowL c0 F (k + 1) (k + 2) N1 x.2.2.2.1 ∧ rowL c0 F (k + 3) (k + 4) N2 x.2.2.2.2 ∧ N1 ≤ 1000 ∧ N2 ≤ 1000 ∧ x.2.2.1 ≤ 20
def dv : Nat → Int64 → Int64
  | 0, v => v
  | p + 1, v => dv p (v / 10)
def ml : Nat → Int64 → Int64
  | 0, v => v
  | p + 1, v => ml p (v * 10)
def wpt (x : Tm) : Int64 := dv x.2.2.1 x.2.1
def bln (x : Tm) : Int64 := ml (9 - x.2.2.1) (x.2.1 - ml x.2.2.1 (wpt x))
def rkT (x : Tm) : Int32 := if x.1 = 4 then 3 else x.1
def vlT (x y : Tm) : Int32 := if cmpL (wpt x) (wpt y) = 0 then (if cmpL (bln x) (bln y) = 0 then ordL x.2.2.2.1 y.2.2.2.1 else cmpL (bln x) (bln y)) else cmpL (wpt x) (wpt y)
def orT (x y : Tm) : Int32 := if cmpL (rkT x).toInt64 (rkT y).toInt64 = 0 then (if vlT x y = 0 then (if cmpL x.1.toInt64 y.1.toInt64 = 0 then ordL x.2.2.2.2 y.2.2.2.2 else cmpL x.1.toInt64 y.1.toInt64) else vlT x y) else cmpL (rkT x).toInt64 (rkT y).toInt64
def hls (x : Tm) : Bool := decide (rkT x = 3) || decide (x.1 = 5) || decide (x.1 = 8)
def str (x y : Tm) : Bool := decide (x.1 = 7) && !decide (y.1 < 3) && !decide (8 < y.1)
set_option maxRecDepth 100000 in
set_option maxHeartbeats 2000000 in
theorem tm_rank {X : ev_X} {c0 n z : Nat} {F : Nat → Option va_E} {k N1 N2 : Nat} {x : Tm} (h : trm c0 F k N1 N2 x) : Ex X m_Term_rank 0 [.ref (c0 + k)] [] (hp c0 n z F) (fun r h' => r = some (.int (rkT x)) ∧ h' = hp c0 n z F) := by
  refine Ex.nx rfl ?_
  refine Hx.get k rfl h.1 rfl ?_
  refine Ex.nx rfl ?_
  refine Ex.nx rfl ?_
  refine Ex.ite (fun c1 => ?_) (fun c1 => ?_)
  · replace c1 : ¬ x.1 = 4 := of_decide_eq_true c1
    show Ex X m_Term_rank 12 [.ref (c0 + k)] [] (hp c0 n _ _) _
    refine Ex.nx rfl ?_
    refine Hx.get k rfl h.1 rfl ?_
    exact Ex.ret rfl (ev_reti rfl) ⟨by rw [rkT, if_neg c1] <;> rfl, rfl⟩
  · replace c1 : x.1 = 4 := Classical.not_not.mp (of_decide_eq_false c1)
    show Ex X m_Term_rank 8 [.ref (c0 + k)] [] (hp c0 n _ _) _
    refine Ex.nx rfl ?_
    refine Ex.nx rfl ?_
    exact Ex.ret rfl (ev_reti rfl) ⟨by rw [rkT, if_pos c1] <;> rfl, rfl⟩
theorem lgc_rf (a : Int64) : lg_cmp a a = 0 := by
  unfold lg_cmp
  rw [if_neg (show ¬ a > a from Int64.lt_irrefl), if_pos rfl]
theorem tm_ext {x y : Tm} (h1 : x.1 = y.1) (h2 : x.2.1 = y.2.1) (h3 : x.2.2.1 = y.2.2.1) (h4 : x.2.2.2.1 = y.2.2.2.1) (h5 : x.2.2.2.2 = y.2.2.2.2) : x = y := by
  obtain ⟨a, b, c, d, e⟩ := x
  obtain ⟨a', b', c', d', e'⟩ := y
  simp only at h1 h2 h3 h4 h5
  rw [h1, h2, h3, h4, h5]
set_option maxRecDepth 100000 in
set_option maxHeartbeats 2000000 in
theorem tm_one {X : ev_X} {c0 n z : Nat} {F : Nat → Option va_E} {k N1 N2 : Nat} {x : Tm} (h : trm c0 F k N1 N2 x) {j N3 N4 : Nat} {y : Tm} (g : trm c0 F j N3 N4 y) : Ex X m_Term_isOneWith 0 [.ref (c0 + k), .ref (c0 + j)] [] (hp c0 n z F) (fun r h' => r = some (.int (bi (decide (x = y)))) ∧ h' = hp c0 n z F) := by
  refine Ex.nx rfl ?_
  refine Hx.get k rfl h.1 rfl ?_
  refine Ex.nx rfl ?_
  refine Hx.get j rfl g.1 rfl ?_
  refine Ex.nx rfl ?_
  refine Ex.ite (fun c1 => ?_) (fun c1 => ?_)
  · replace c1 : ¬ x.1 = y.1 := of_decide_eq_true c1
    show Ex X m_Term_isOneWith 66 [.ref (c0 + k), .ref (c0 + j)] [] (hp c0 n _ _) _
    refine Ex.nx rfl ?_
    exact Ex.ret rfl rfl ⟨ret_0 (decide_eq_false (fun e => c1 (by rw [e]))), rfl⟩
  · replace c1 : x.1 = y.1 := Classical.not_not.mp (of_decide_eq_false c1)
    show Ex X m_Term_isOneWith 11 [.ref (c0 + k), .ref (c0 + j)] [] (hp c0 n _ _) _
    refine Ex.nx rfl ?_
    refine Hx.get k rfl h.1 rfl ?_
    refine Ex.nx rfl ?_
    refine Hx.get j rfl g.1 rfl ?_
    refine Ex.nx rfl ?_
    refine Ex.nx rfl ?_
    refine Ex.ite (fun c2 => ?_) (fun c2 => ?_)
    · replace c2 : ¬ (lg_cmp x.2.1 y.2.1) = 0 := of_decide_eq_true c2
      show Ex X m_Term_isOneWith 66 [.ref (c0 + k), .ref (c0 + j)] [] (hp c0 n _ _) _
      refine Ex.nx rfl ?_
      exact Ex.ret rfl rfl ⟨ret_0 (decide_eq_false (fun e => c2 (by rw [e]; exact lgc_rf _))), rfl⟩
    · replace c2 : (lg_cmp x.2.1 y.2.1) = 0 := Classical.not_not.mp (of_decide_eq_false c2)
      show Ex X m_Term_isOneWith 23 [.ref (c0 + k), .ref (c0 + j)] [] (hp c0 n _ _) _
      refine Ex.nx rfl ?_
      refine Hx.get k rfl h.1 rfl ?_
      refine Ex.nx rfl ?_
      refine Hx.get j rfl g.1 rfl ?_
      refine Ex.nx rfl ?_
      refine Ex.ite (fun c3 => ?_) (fun c3 => ?_)
      · replace c3 : ¬ (nI x.2.2.1) = (nI y.2.2.1) := of_decide_eq_true c3
        show Ex X m_Term_isOneWith 66 [.ref (c0 + k), .ref (c0 + j)] [] (hp c0 n _ _) _
        refine Ex.nx rfl ?_
        exact Ex.ret rfl rfl ⟨ret_0 (decide_eq_false (fun e => c3 (by rw [e]))), rfl⟩
      · replace c3 : (nI x.2.2.1) = (nI y.2.2.1) := Classical.not_not.mp (of_decide_eq_false c3)
        show Ex X m_Term_isOneWith 34 [.ref (c0 + k), .ref (c0 + j)] [] (hp c0 n _ _) _
        refine Ex.nx rfl ?_
        refine Hx.get k rfl h.1 rfl ?_
        refine Ex.nx rfl ?_
        refine Hx.get j rfl g.1 rfl ?_
        refine Hx.rowE h.2.1 rfl rfl rfl rfl (rl_has h.2.2.2.1 g.2.2.2.1 h.2.1 g.2.1) ?_
        show Ex X m_Term_isOneWith 45 [.ref (c0 + k), .ref (c0 + j)] [.int (bi (decide (x.2.2.2.1 = y.2.2.2.1)))] (hp c0 n _ _) _
        refine Ex.nx rfl ?_
        refine Ex.ite (fun c4 => ?_) (fun c4 => ?_)
        · replace c4 : (decide (x.2.2.2.1 = y.2.2.2.1)) = false := bi_eqt c4
          show Ex X m_Term_isOneWith 66 [.ref (c0 + k), .ref (c0 + j)] [] (hp c0 n _ _) _
          refine Ex.nx rfl ?_
          exact Ex.ret rfl rfl ⟨ret_0 (decide_eq_false (fun e => (of_decide_eq_false c4) (by rw [e]))), rfl⟩
        · replace c4 : (decide (x.2.2.2.1 = y.2.2.2.1)) = true := bi_eqf c4
          show Ex X m_Term_isOneWith 48 [.ref (c0 + k), .ref (c0 + j)] [] (hp c0 n _ _) _
          refine Ex.nx rfl ?_
          refine Hx.get k rfl h.1 rfl ?_
          refine Ex.nx rfl ?_
          refine Hx.get j rfl g.1 rfl ?_
          refine Hx.rowE h.2.2.1 rfl rfl rfl rfl (rl_has h.2.2.2.2.1 g.2.2.2.2.1 h.2.2.1 g.2.2.1) ?_
          show Ex X m_Term_isOneWith 59 [.ref (c0 + k), .ref (c0 + j)] [.int (bi (decide (x.2.2.2.2 = y.2.2.2.2)))] (hp c0 n _ _) _
          refine Ex.nx rfl ?_
          refine Ex.ite (fun c5 => ?_) (fun c5 => ?_)
          · replace c5 : (decide (x.2.2.2.2 = y.2.2.2.2)) = false := bi_eqt c5
            show Ex X m_Term_isOneWith 66 [.ref (c0 + k), .ref (c0 + j)] [] (hp c0 n _ _) _
            refine Ex.nx rfl ?_
            exact Ex.ret rfl rfl ⟨ret_0 (decide_eq_false (fun e => (of_decide_eq_false c5) (by rw [e]))), rfl⟩
          · replace c5 : (decide (x.2.2.2.2 = y.2.2.2.2)) = true := bi_eqf c5
            show Ex X m_Term_isOneWith 62 [.ref (c0 + k), .ref (c0 + j)] [] (hp c0 n _ _) _
            refine Ex.nx rfl ?_
            refine Ex.nx rfl ?_
            exact Ex.ret rfl rfl ⟨ret_1 (decide_eq_true (tm_ext c1 (lgc0 c2) ((nI_eq (by have := h.2.2.2.2.2; omega) (by have := g.2.2.2.2.2; omega)).mp c3) (of_decide_eq_true c4) (of_decide_eq_true c5))), rfl⟩
set_option maxRecDepth 100000 in
set_option maxHeartbeats 2000000 in
theorem tm_bytes {X : ev_X} {c0 n z : Nat} {F : Nat → Option va_E} {k N1 N2 : Nat} {x : Tm} (h : trm c0 F k N1 N2 x) : Ex X m_Term_bytes 0 [.ref (c0 + k)] [] (hp c0 n z F) (fun r h' => r = some (.int (nI (x.2.2.2.1.length + x.2.2.2.2.length))) ∧ h' = hp c0 n z F) := by
  refine Ex.nx rfl ?_
  refine Hx.get k rfl h.1 rfl ?_
  refine Hx.rowE h.2.1 rfl rfl rfl rfl (rl_size h.2.1) ?_
  show Ex X m_Term_bytes 7 [.ref (c0 + k)] [.int (nI x.2.2.2.1.length)] (hp c0 n _ _) _
  refine Ex.nx rfl ?_
  refine Hx.get k rfl h.1 rfl ?_
  refine Hx.rowE h.2.2.1 rfl rfl rfl rfl (rl_size h.2.2.1) ?_
  show Ex X m_Term_bytes 14 [.ref (c0 + k)] [.int (nI x.2.2.2.2.length), .int (nI x.2.2.2.1.length)] (hp c0 n _ _) _
  refine Ex.nx rfl ?_
  exact Ex.ret rfl (ev_reti rfl) ⟨by rw [nI_add], rfl⟩
set_option maxRecDepth 100000 in
set_option maxHeartbeats 2000000 in
theorem tm_wp_l {X : ev_X} {c0 n z : Nat} {F : Nat → Option va_E} {k N1 N2 : Nat} {x : Tm} (h : trm c0 F k N1 N2 x) : ∀ (d i : Nat) (v : Int64) (hm : i + d = x.2.2.1), Ex X m_Term_wholePart 7 [.ref (c0 + k), .long v, ev_dead, .int (nI i)] [] (hp c0 n z F) (fun r h' => r = some (.long (dv d v)) ∧ h' = hp c0 n z F) := by
  have hp20 := h.2.2.2.2.2
  intro d
  induction d with
  | zero =>
    intro i v hm
    refine Ex.nx rfl ?_
    refine Ex.nx rfl ?_
    refine Hx.get k rfl h.1 rfl ?_
    refine Ex.nx rfl ?_
    refine Ex.ite (fun c1 => ?_) (fun c1 => ?_)
    · replace c1 : (nI x.2.2.1) ≤ (nI i) := of_decide_eq_true c1
      show Ex X m_Term_wholePart 27 [.ref (c0 + k), .long v, ev_dead, .int (nI i)] [] (hp c0 n _ _) _
      refine Ex.nx rfl ?_
      exact Ex.ret rfl rfl ⟨rfl, rfl⟩
    · replace c1 : ¬ (nI x.2.2.1) ≤ (nI i) := of_decide_eq_false c1
      exact absurd (show nI x.2.2.1 ≤ nI i by rw [show i = x.2.2.1 by omega]; exact Int32.le_refl _) c1
  | succ d ih =>
    intro i v hm
    refine Ex.nx rfl ?_
    refine Ex.nx rfl ?_
    refine Hx.get k rfl h.1 rfl ?_
    refine Ex.nx rfl ?_
    refine Ex.ite (fun c1 => ?_) (fun c1 => ?_)
    · replace c1 : (nI x.2.2.1) ≤ (nI i) := of_decide_eq_true c1
      exact absurd ((nI_leI (by omega) (by omega)).mp c1) (by omega)
    · replace c1 : ¬ (nI x.2.2.1) ≤ (nI i) := of_decide_eq_false c1
      show Ex X m_Term_wholePart 15 [.ref (c0 + k), .long v, ev_dead, .int (nI i)] [] (hp c0 n _ _) _
      refine Ex.nx rfl ?_
      refine Ex.nx rfl ?_
      refine Ex.nx rfl ?_
      refine Ex.nx rfl ?_
      show Ex X m_Term_wholePart 21 [.ref (c0 + k), .long (v / 10), ev_dead, .int (nI i)] [] (hp c0 n _ _) _
      refine Ex.nx rfl ?_
      show Ex X m_Term_wholePart 24 [.ref (c0 + k), .long (v / 10), ev_dead, .int ((nI i) + 1)] [] (hp c0 n _ _) _
      refine Ex.nx rfl ?_
      show Ex X m_Term_wholePart 7 [.ref (c0 + k), .long (v / 10), ev_dead, .int ((nI i) + 1)] [] (hp c0 n _ _) _
      rw [show nI i + 1 = nI (i + 1) from nI_1 i]
      exact ih (i + 1) _ (by omega)
set_option maxRecDepth 100000 in
set_option maxHeartbeats 2000000 in
theorem tm_wp {X : ev_X} {c0 n z : Nat} {F : Nat → Option va_E} {k N1 N2 : Nat} {x : Tm} (h : trm c0 F k N1 N2 x) : Ex X m_Term_wholePart 0 [.ref (c0 + k), ev_dead, ev_dead, ev_dead] [] (hp c0 n z F) (fun r h' => r = some (.long (wpt x)) ∧ h' = hp c0 n z F) := by
  refine Ex.nx rfl ?_
  refine Hx.get k rfl h.1 rfl ?_
  refine Ex.nx rfl ?_
  show Ex X m_Term_wholePart 5 [.ref (c0 + k), .long x.2.1, ev_dead, ev_dead] [] (hp c0 n _ _) _
  refine Ex.nx rfl ?_
  refine Ex.nx rfl ?_
  show Ex X m_Term_wholePart 7 [.ref (c0 + k), .long x.2.1, ev_dead, .int 0] [] (hp c0 n _ _) _
  show Ex X m_Term_wholePart 7 [.ref (c0 + k), .long x.2.1, ev_dead, .int 0] [] (hp c0 n _ _) _
  exact tm_wp_l h x.2.2.1 0 x.2.1 (by omega)
set_option maxRecDepth 100000 in
set_option maxHeartbeats 2000000 in
theorem tm_b2_l {X : ev_X} {c0 n z : Nat} {F : Nat → Option va_E} {k N1 N2 : Nat} {x : Tm} (h : trm c0 F k N1 N2 x) (bv : Int64) : ∀ (d i : Nat) (v : Int64) (hm : 9 ≤ i + d) (hd : d = 9 - i) (hi : i ≤ 100), Ex X m_Term_billionths 40 [.ref (c0 + k), .long bv, ev_dead, .long v, ev_dead, .int (nI i)] [] (hp c0 n z F) (fun r h' => r = some (.long (ml d v)) ∧ h' = hp c0 n z F) := by
  intro d
  induction d with
  | zero =>
    intro i v hm hd hi
    refine Ex.nx rfl ?_
    refine Ex.nx rfl ?_
    refine Ex.nx rfl ?_
    refine Ex.ite (fun c1 => ?_) (fun c1 => ?_)
    · replace c1 : 9 ≤ (nI i) := of_decide_eq_true c1
      show Ex X m_Term_billionths 59 [.ref (c0 + k), .long bv, ev_dead, .long v, ev_dead, .int (nI i)] [] (hp c0 n _ _) _
      refine Ex.nx rfl ?_
      exact Ex.ret rfl rfl ⟨rfl, rfl⟩
    · replace c1 : ¬ 9 ≤ (nI i) := of_decide_eq_false c1
      exact absurd (show (9 : Int32) ≤ nI i from (nI_leI (a := 9) (by decide) (by omega)).mpr (by omega)) c1
  | succ d ih =>
    intro i v hm hd hi
    refine Ex.nx rfl ?_
    refine Ex.nx rfl ?_
    refine Ex.nx rfl ?_
    refine Ex.ite (fun c1 => ?_) (fun c1 => ?_)
    · replace c1 : 9 ≤ (nI i) := of_decide_eq_true c1
      exact absurd ((nI_leI (a := 9) (by decide) (by omega)).mp c1) (by omega)
    · replace c1 : ¬ 9 ≤ (nI i) := of_decide_eq_false c1
      show Ex X m_Term_billionths 47 [.ref (c0 + k), .long bv, ev_dead, .long v, ev_dead, .int (nI i)] [] (hp c0 n _ _) _
      refine Ex.nx rfl ?_
      refine Ex.nx rfl ?_
      refine Ex.nx rfl ?_
      refine Ex.nx rfl ?_
      show Ex X m_Term_billionths 53 [.ref (c0 + k), .long bv, ev_dead, .long (v * 10), ev_dead, .int (nI i)] [] (hp c0 n _ _) _
      refine Ex.nx rfl ?_
      show Ex X m_Term_billionths 56 [.ref (c0 + k), .long bv, ev_dead, .long (v * 10), ev_dead, .int ((nI i) + 1)] [] (hp c0 n _ _) _
      refine Ex.nx rfl ?_
      show Ex X m_Term_billionths 40 [.ref (c0 + k), .long bv, ev_dead, .long (v * 10), ev_dead, .int ((nI i) + 1)] [] (hp c0 n _ _) _
      rw [show nI i + 1 = nI (i + 1) from nI_1 i]
      exact ih (i + 1) _ (by omega) (by omega) (by omega)
set_option maxRecDepth 100000 in
set_option maxHeartbeats 2000000 in
theorem tm_b1_l {X : ev_X} {c0 n z : Nat} {F : Nat → Option va_E} {k N1 N2 : Nat} {x : Tm} (h : trm c0 F k N1 N2 x) : ∀ (d i : Nat) (v : Int64) (hm : i + d = x.2.2.1), Ex X m_Term_billionths 7 [.ref (c0 + k), .long v, ev_dead, .int (nI i), ev_dead, ev_dead] [] (hp c0 n z F) (fun r h' => r = some (.long (ml (9 - x.2.2.1) (x.2.1 - ml d v))) ∧ h' = hp c0 n z F) := by
  have hp20 := h.2.2.2.2.2
  intro d
  induction d with
  | zero =>
    intro i v hm
    refine Ex.nx rfl ?_
    refine Ex.nx rfl ?_
    refine Hx.get k rfl h.1 rfl ?_
    refine Ex.nx rfl ?_
    refine Ex.ite (fun c1 => ?_) (fun c1 => ?_)
    · replace c1 : (nI x.2.2.1) ≤ (nI i) := of_decide_eq_true c1
      show Ex X m_Term_billionths 27 [.ref (c0 + k), .long v, ev_dead, .int (nI i), ev_dead, ev_dead] [] (hp c0 n _ _) _
      refine Ex.nx rfl ?_
      refine Hx.get k rfl h.1 rfl ?_
      refine Ex.nx rfl ?_
      refine Ex.nx rfl ?_
      refine Ex.nx rfl ?_
      show Ex X m_Term_billionths 34 [.ref (c0 + k), .long v, ev_dead, .long (x.2.1 - v), ev_dead, ev_dead] [] (hp c0 n _ _) _
      refine Ex.nx rfl ?_
      refine Hx.get k rfl h.1 rfl ?_
      refine Ex.nx rfl ?_
      show Ex X m_Term_billionths 40 [.ref (c0 + k), .long v, ev_dead, .long (x.2.1 - v), ev_dead, .int (nI x.2.2.1)] [] (hp c0 n _ _) _
      show Ex X m_Term_billionths 40 [.ref (c0 + k), .long v, ev_dead, .long (x.2.1 - v), ev_dead, .int (nI x.2.2.1)] [] (hp c0 n _ _) _
      exact tm_b2_l h _ (9 - x.2.2.1) x.2.2.1 _ (by omega) rfl (by omega)
    · replace c1 : ¬ (nI x.2.2.1) ≤ (nI i) := of_decide_eq_false c1
      exact absurd (show nI x.2.2.1 ≤ nI i by rw [show i = x.2.2.1 by omega]; exact Int32.le_refl _) c1
  | succ d ih =>
    intro i v hm
    refine Ex.nx rfl ?_
    refine Ex.nx rfl ?_
    refine Hx.get k rfl h.1 rfl ?_
    refine Ex.nx rfl ?_
    refine Ex.ite (fun c1 => ?_) (fun c1 => ?_)
    · replace c1 : (nI x.2.2.1) ≤ (nI i) := of_decide_eq_true c1
      exact absurd ((nI_leI (by omega) (by omega)).mp c1) (by omega)
    · replace c1 : ¬ (nI x.2.2.1) ≤ (nI i) := of_decide_eq_false c1
      show Ex X m_Term_billionths 15 [.ref (c0 + k), .long v, ev_dead, .int (nI i), ev_dead, ev_dead] [] (hp c0 n _ _) _
      refine Ex.nx rfl ?_
      refine Ex.nx rfl ?_
      refine Ex.nx rfl ?_
      refine Ex.nx rfl ?_
      show Ex X m_Term_billionths 21 [.ref (c0 + k), .long (v * 10), ev_dead, .int (nI i), ev_dead, ev_dead] [] (hp c0 n _ _) _
      refine Ex.nx rfl ?_
      show Ex X m_Term_billionths 24 [.ref (c0 + k), .long (v * 10), ev_dead, .int ((nI i) + 1), ev_dead, ev_dead] [] (hp c0 n _ _) _
      refine Ex.nx rfl ?_
      show Ex X m_Term_billionths 7 [.ref (c0 + k), .long (v * 10), ev_dead, .int ((nI i) + 1), ev_dead, ev_dead] [] (hp c0 n _ _) _
      rw [show nI i + 1 = nI (i + 1) from nI_1 i]
      exact ih (i + 1) _ (by omega)
set_option maxRecDepth 100000 in
set_option maxHeartbeats 2000000 in
theorem tm_bl {X : ev_X} {c0 n z : Nat} {F : Nat → Option va_E} {k N1 N2 : Nat} {x : Tm} (h : trm c0 F k N1 N2 x) : Ex X m_Term_billionths 0 [.ref (c0 + k), ev_dead, ev_dead, ev_dead, ev_dead, ev_dead] [] (hp c0 n z F) (fun r h' => r = some (.long (bln x)) ∧ h' = hp c0 n z F) := by
  refine Ex.nx rfl ?_
  refine Hx.call k rfl rfl h.1 rfl rfl (tm_wp h) ?_
  show Ex X m_Term_billionths 4 [.ref (c0 + k), ev_dead, ev_dead, ev_dead, ev_dead, ev_dead] [.long (wpt x)] (hp c0 n _ _) _
  refine Ex.nx rfl ?_
  show Ex X m_Term_billionths 5 [.ref (c0 + k), .long (wpt x), ev_dead, ev_dead, ev_dead, ev_dead] [] (hp c0 n _ _) _
  refine Ex.nx rfl ?_
  refine Ex.nx rfl ?_
  show Ex X m_Term_billionths 7 [.ref (c0 + k), .long (wpt x), ev_dead, .int 0, ev_dead, ev_dead] [] (hp c0 n _ _) _
  show Ex X m_Term_billionths 7 [.ref (c0 + k), .long (wpt x), ev_dead, .int 0, ev_dead, ev_dead] [] (hp c0 n _ _) _
  exact tm_b1_l h x.2.2.1 0 _ (by omega)
set_option maxRecDepth 100000 in
set_option maxHeartbeats 2000000 in
theorem tm_val {X : ev_X} {c0 n z : Nat} {F : Nat → Option va_E} {k N1 N2 : Nat} {x : Tm} (h : trm c0 F k N1 N2 x) {j N3 N4 : Nat} {y : Tm} (g : trm c0 F j N3 N4 y) : Ex X m_Term_valueTo 0 [.ref (c0 + k), .ref (c0 + j), ev_dead, ev_dead] [] (hp c0 n z F) (fun r h' => r = some (.int (vlT x y)) ∧ h' = hp c0 n z F) := by
  refine Ex.nx rfl ?_
  refine Hx.call k rfl rfl h.1 rfl rfl (tm_wp h) ?_
  show Ex X m_Term_valueTo 4 [.ref (c0 + k), .ref (c0 + j), ev_dead, ev_dead] [.long (wpt x)] (hp c0 n _ _) _
  refine Ex.nx rfl ?_
  refine Hx.call j rfl rfl g.1 rfl rfl (tm_wp g) ?_
  show Ex X m_Term_valueTo 8 [.ref (c0 + k), .ref (c0 + j), ev_dead, ev_dead] [.long (wpt y), .long (wpt x)] (hp c0 n _ _) _
  refine Hx.calls rfl rfl rfl rfl (sx_cmp X (wpt x) (wpt y)) (fun v hv => ?_)
  subst hv
  show Ex X m_Term_valueTo 11 [.ref (c0 + k), .ref (c0 + j), ev_dead, ev_dead] [.int (cmpL (wpt x) (wpt y))] (hp c0 n _ _) _
  refine Ex.nx rfl ?_
  show Ex X m_Term_valueTo 12 [.ref (c0 + k), .ref (c0 + j), .int (cmpL (wpt x) (wpt y)), ev_dead] [] (hp c0 n _ _) _
  refine Ex.nx rfl ?_
  refine Ex.nx rfl ?_
  refine Ex.ite (fun c1 => ?_) (fun c1 => ?_)
  · replace c1 : (cmpL (wpt x) (wpt y)) = 0 := of_decide_eq_true c1
    show Ex X m_Term_valueTo 18 [.ref (c0 + k), .ref (c0 + j), .int (cmpL (wpt x) (wpt y)), ev_dead] [] (hp c0 n _ _) _
    refine Ex.nx rfl ?_
    refine Hx.call k rfl rfl h.1 rfl rfl (tm_bl h) ?_
    show Ex X m_Term_valueTo 22 [.ref (c0 + k), .ref (c0 + j), .int (cmpL (wpt x) (wpt y)), ev_dead] [.long (bln x)] (hp c0 n _ _) _
    refine Ex.nx rfl ?_
    refine Hx.call j rfl rfl g.1 rfl rfl (tm_bl g) ?_
    show Ex X m_Term_valueTo 26 [.ref (c0 + k), .ref (c0 + j), .int (cmpL (wpt x) (wpt y)), ev_dead] [.long (bln y), .long (bln x)] (hp c0 n _ _) _
    refine Hx.calls rfl rfl rfl rfl (sx_cmp X (bln x) (bln y)) (fun v hv => ?_)
    subst hv
    show Ex X m_Term_valueTo 29 [.ref (c0 + k), .ref (c0 + j), .int (cmpL (wpt x) (wpt y)), ev_dead] [.int (cmpL (bln x) (bln y))] (hp c0 n _ _) _
    refine Ex.nx rfl ?_
    show Ex X m_Term_valueTo 30 [.ref (c0 + k), .ref (c0 + j), .int (cmpL (wpt x) (wpt y)), .int (cmpL (bln x) (bln y))] [] (hp c0 n _ _) _
    refine Ex.nx rfl ?_
    refine Ex.nx rfl ?_
    refine Ex.ite (fun c2 => ?_) (fun c2 => ?_)
    · replace c2 : (cmpL (bln x) (bln y)) = 0 := of_decide_eq_true c2
      show Ex X m_Term_valueTo 38 [.ref (c0 + k), .ref (c0 + j), .int (cmpL (wpt x) (wpt y)), .int (cmpL (bln x) (bln y))] [] (hp c0 n _ _) _
      refine Ex.nx rfl ?_
      refine Hx.get k rfl h.1 rfl ?_
      refine Ex.nx rfl ?_
      refine Hx.get j rfl g.1 rfl ?_
      refine Hx.rowE h.2.1 rfl rfl rfl rfl (rl_order h.2.2.2.1 g.2.2.2.1 h.2.1 g.2.1) ?_
      show Ex X m_Term_valueTo 49 [.ref (c0 + k), .ref (c0 + j), .int (cmpL (wpt x) (wpt y)), .int (cmpL (bln x) (bln y))] [.int (ordL x.2.2.2.1 y.2.2.2.1)] (hp c0 n _ _) _
      exact Ex.ret rfl (ev_reti rfl) ⟨by rw [vlT, if_pos c1, if_pos c2], rfl⟩
    · replace c2 : ¬ (cmpL (bln x) (bln y)) = 0 := of_decide_eq_false c2
      show Ex X m_Term_valueTo 34 [.ref (c0 + k), .ref (c0 + j), .int (cmpL (wpt x) (wpt y)), .int (cmpL (bln x) (bln y))] [] (hp c0 n _ _) _
      refine Ex.nx rfl ?_
      refine Ex.nx rfl ?_
      exact Ex.ret rfl (ev_reti rfl) ⟨by rw [vlT, if_pos c1, if_neg c2], rfl⟩
  · replace c1 : ¬ (cmpL (wpt x) (wpt y)) = 0 := of_decide_eq_false c1
    show Ex X m_Term_valueTo 16 [.ref (c0 + k), .ref (c0 + j), .int (cmpL (wpt x) (wpt y)), ev_dead] [] (hp c0 n _ _) _
    refine Ex.nx rfl ?_
    exact Ex.ret rfl (ev_reti rfl) ⟨by rw [vlT, if_neg c1], rfl⟩
set_option maxRecDepth 100000 in
set_option maxHeartbeats 2000000 in
theorem tm_ord {X : ev_X} {c0 n z : Nat} {F : Nat → Option va_E} {k N1 N2 : Nat} {x : Tm} (h : trm c0 F k N1 N2 x) {j N3 N4 : Nat} {y : Tm} (g : trm c0 F j N3 N4 y) : Ex X m_Term_orderTo 0 [.ref (c0 + k), .ref (c0 + j), ev_dead, ev_dead, ev_dead] [] (hp c0 n z F) (fun r h' => r = some (.int (orT x y)) ∧ h' = hp c0 n z F) := by
  refine Ex.nx rfl ?_
  refine Hx.call k rfl rfl h.1 rfl rfl (tm_rank h) ?_
  show Ex X m_Term_orderTo 4 [.ref (c0 + k), .ref (c0 + j), ev_dead, ev_dead, ev_dead] [.int (rkT x)] (hp c0 n _ _) _
  refine Ex.nx rfl ?_
  refine Ex.nx rfl ?_
  refine Hx.call j rfl rfl g.1 rfl rfl (tm_rank g) ?_
  show Ex X m_Term_orderTo 9 [.ref (c0 + k), .ref (c0 + j), ev_dead, ev_dead, ev_dead] [.int (rkT y), .long ((rkT x).toInt64)] (hp c0 n _ _) _
  refine Ex.nx rfl ?_
  refine Hx.calls rfl rfl rfl rfl (sx_cmp X ((rkT x).toInt64) ((rkT y).toInt64)) (fun v hv => ?_)
  subst hv
  show Ex X m_Term_orderTo 13 [.ref (c0 + k), .ref (c0 + j), ev_dead, ev_dead, ev_dead] [.int (cmpL ((rkT x).toInt64) ((rkT y).toInt64))] (hp c0 n _ _) _
  refine Ex.nx rfl ?_
  show Ex X m_Term_orderTo 14 [.ref (c0 + k), .ref (c0 + j), .int (cmpL ((rkT x).toInt64) ((rkT y).toInt64)), ev_dead, ev_dead] [] (hp c0 n _ _) _
  refine Ex.nx rfl ?_
  refine Ex.nx rfl ?_
  refine Ex.ite (fun c1 => ?_) (fun c1 => ?_)
  · replace c1 : (cmpL ((rkT x).toInt64) ((rkT y).toInt64)) = 0 := of_decide_eq_true c1
    show Ex X m_Term_orderTo 20 [.ref (c0 + k), .ref (c0 + j), .int (cmpL ((rkT x).toInt64) ((rkT y).toInt64)), ev_dead, ev_dead] [] (hp c0 n _ _) _
    refine Ex.nx rfl ?_
    refine Ex.nx rfl ?_
    refine Hx.call k rfl rfl h.1 rfl rfl (tm_val h g) ?_
    show Ex X m_Term_orderTo 25 [.ref (c0 + k), .ref (c0 + j), .int (cmpL ((rkT x).toInt64) ((rkT y).toInt64)), ev_dead, ev_dead] [.int (vlT x y)] (hp c0 n _ _) _
    refine Ex.nx rfl ?_
    show Ex X m_Term_orderTo 26 [.ref (c0 + k), .ref (c0 + j), .int (cmpL ((rkT x).toInt64) ((rkT y).toInt64)), .int (vlT x y), ev_dead] [] (hp c0 n _ _) _
    refine Ex.nx rfl ?_
    refine Ex.nx rfl ?_
    refine Ex.ite (fun c2 => ?_) (fun c2 => ?_)
    · replace c2 : (vlT x y) = 0 := of_decide_eq_true c2
      show Ex X m_Term_orderTo 32 [.ref (c0 + k), .ref (c0 + j), .int (cmpL ((rkT x).toInt64) ((rkT y).toInt64)), .int (vlT x y), ev_dead] [] (hp c0 n _ _) _
      refine Ex.nx rfl ?_
      refine Hx.get k rfl h.1 rfl ?_
      refine Ex.nx rfl ?_
      refine Ex.nx rfl ?_
      refine Hx.get j rfl g.1 rfl ?_
      refine Ex.nx rfl ?_
      refine Hx.calls rfl rfl rfl rfl (sx_cmp X x.1.toInt64 y.1.toInt64) (fun v hv => ?_)
      subst hv
      show Ex X m_Term_orderTo 45 [.ref (c0 + k), .ref (c0 + j), .int (cmpL ((rkT x).toInt64) ((rkT y).toInt64)), .int (vlT x y), ev_dead] [.int (cmpL x.1.toInt64 y.1.toInt64)] (hp c0 n _ _) _
      refine Ex.nx rfl ?_
      show Ex X m_Term_orderTo 47 [.ref (c0 + k), .ref (c0 + j), .int (cmpL ((rkT x).toInt64) ((rkT y).toInt64)), .int (vlT x y), .int (cmpL x.1.toInt64 y.1.toInt64)] [] (hp c0 n _ _) _
      refine Ex.nx rfl ?_
      refine Ex.nx rfl ?_
      refine Ex.ite (fun c3 => ?_) (fun c3 => ?_)
      · replace c3 : (cmpL x.1.toInt64 y.1.toInt64) = 0 := of_decide_eq_true c3
        show Ex X m_Term_orderTo 57 [.ref (c0 + k), .ref (c0 + j), .int (cmpL ((rkT x).toInt64) ((rkT y).toInt64)), .int (vlT x y), .int (cmpL x.1.toInt64 y.1.toInt64)] [] (hp c0 n _ _) _
        refine Ex.nx rfl ?_
        refine Hx.get k rfl h.1 rfl ?_
        refine Ex.nx rfl ?_
        refine Hx.get j rfl g.1 rfl ?_
        refine Hx.rowE h.2.2.1 rfl rfl rfl rfl (rl_order h.2.2.2.2.1 g.2.2.2.2.1 h.2.2.1 g.2.2.1) ?_
        show Ex X m_Term_orderTo 68 [.ref (c0 + k), .ref (c0 + j), .int (cmpL ((rkT x).toInt64) ((rkT y).toInt64)), .int (vlT x y), .int (cmpL x.1.toInt64 y.1.toInt64)] [.int (ordL x.2.2.2.2 y.2.2.2.2)] (hp c0 n _ _) _
        exact Ex.ret rfl (ev_reti rfl) ⟨by rw [orT, if_pos c1, if_pos c2, if_pos c3], rfl⟩
      · replace c3 : ¬ (cmpL x.1.toInt64 y.1.toInt64) = 0 := of_decide_eq_false c3
        show Ex X m_Term_orderTo 52 [.ref (c0 + k), .ref (c0 + j), .int (cmpL ((rkT x).toInt64) ((rkT y).toInt64)), .int (vlT x y), .int (cmpL x.1.toInt64 y.1.toInt64)] [] (hp c0 n _ _) _
        refine Ex.nx rfl ?_
        refine Ex.nx rfl ?_
        exact Ex.ret rfl (ev_reti rfl) ⟨by rw [orT, if_pos c1, if_pos c2, if_neg c3], rfl⟩
    · replace c2 : ¬ (vlT x y) = 0 := of_decide_eq_false c2
      show Ex X m_Term_orderTo 30 [.ref (c0 + k), .ref (c0 + j), .int (cmpL ((rkT x).toInt64) ((rkT y).toInt64)), .int (vlT x y), ev_dead] [] (hp c0 n _ _) _
      refine Ex.nx rfl ?_
      exact Ex.ret rfl (ev_reti rfl) ⟨by rw [orT, if_pos c1, if_neg c2], rfl⟩
  · replace c1 : ¬ (cmpL ((rkT x).toInt64) ((rkT y).toInt64)) = 0 := of_decide_eq_false c1
    show Ex X m_Term_orderTo 18 [.ref (c0 + k), .ref (c0 + j), .int (cmpL ((rkT x).toInt64) ((rkT y).toInt64)), ev_dead, ev_dead] [] (hp c0 n _ _) _
    refine Ex.nx rfl ?_
    exact Ex.ret rfl (ev_reti rfl) ⟨by rw [orT, if_neg c1], rfl⟩
set_option maxRecDepth 100000 in
set_option maxHeartbeats 2000000 in
theorem tm_less {X : ev_X} {c0 n z : Nat} {F : Nat → Option va_E} {k N1 N2 : Nat} {x : Tm} (h : trm c0 F k N1 N2 x) : Ex X m_Term_hasLess 0 [.ref (c0 + k)] [] (hp c0 n z F) (fun r h' => r = some (.int (bi (hls x))) ∧ h' = hp c0 n z F) := by
  refine Ex.nx rfl ?_
  refine Hx.call k rfl rfl h.1 rfl rfl (tm_rank h) ?_
  show Ex X m_Term_hasLess 4 [.ref (c0 + k)] [.int (rkT x)] (hp c0 n _ _) _
  refine Ex.nx rfl ?_
  refine Ex.nx rfl ?_
  refine Ex.ite (fun c1 => ?_) (fun c1 => ?_)
  · replace c1 : (rkT x) = 3 := of_decide_eq_true c1
    show Ex X m_Term_hasLess 25 [.ref (c0 + k)] [] (hp c0 n _ _) _
    refine Ex.nx rfl ?_
    refine Ex.nx rfl ?_
    exact Ex.ret rfl rfl ⟨ret_1 (by simp [hls, c1]), rfl⟩
  · replace c1 : ¬ (rkT x) = 3 := of_decide_eq_false c1
    show Ex X m_Term_hasLess 8 [.ref (c0 + k)] [] (hp c0 n _ _) _
    refine Ex.nx rfl ?_
    refine Hx.get k rfl h.1 rfl ?_
    refine Ex.nx rfl ?_
    refine Ex.nx rfl ?_
    refine Ex.ite (fun c2 => ?_) (fun c2 => ?_)
    · replace c2 : x.1 = 5 := of_decide_eq_true c2
      show Ex X m_Term_hasLess 25 [.ref (c0 + k)] [] (hp c0 n _ _) _
      refine Ex.nx rfl ?_
      refine Ex.nx rfl ?_
      exact Ex.ret rfl rfl ⟨ret_1 (by simp [hls, c1, c2]), rfl⟩
    · replace c2 : ¬ x.1 = 5 := of_decide_eq_false c2
      show Ex X m_Term_hasLess 16 [.ref (c0 + k)] [] (hp c0 n _ _) _
      refine Ex.nx rfl ?_
      refine Hx.get k rfl h.1 rfl ?_
      refine Ex.nx rfl ?_
      refine Ex.nx rfl ?_
      refine Ex.ite (fun c3 => ?_) (fun c3 => ?_)
      · replace c3 : ¬ x.1 = 8 := of_decide_eq_true c3
        show Ex X m_Term_hasLess 29 [.ref (c0 + k)] [] (hp c0 n _ _) _
        refine Ex.nx rfl ?_
        exact Ex.ret rfl rfl ⟨ret_0 (by simp [hls, c1, c2, c3]), rfl⟩
      · replace c3 : x.1 = 8 := Classical.not_not.mp (of_decide_eq_false c3)
        show Ex X m_Term_hasLess 25 [.ref (c0 + k)] [] (hp c0 n _ _) _
        refine Ex.nx rfl ?_
        refine Ex.nx rfl ?_
        exact Ex.ret rfl rfl ⟨ret_1 (by simp [hls, c1, c2, c3]), rfl⟩
set_option maxRecDepth 100000 in
set_option maxHeartbeats 2000000 in
theorem tm_str {X : ev_X} {c0 n z : Nat} {F : Nat → Option va_E} {k N1 N2 : Nat} {x : Tm} (h : trm c0 F k N1 N2 x) {j N3 N4 : Nat} {y : Tm} (g : trm c0 F j N3 N4 y) : Ex X m_Term_isStrangeTo 0 [.ref (c0 + k), .ref (c0 + j)] [] (hp c0 n z F) (fun r h' => r = some (.int (bi (str x y))) ∧ h' = hp c0 n z F) := by
  refine Ex.nx rfl ?_
  refine Hx.get k rfl h.1 rfl ?_
  refine Ex.nx rfl ?_
  refine Ex.nx rfl ?_
  refine Ex.ite (fun c1 => ?_) (fun c1 => ?_)
  · replace c1 : ¬ x.1 = 7 := of_decide_eq_true c1
    show Ex X m_Term_isStrangeTo 30 [.ref (c0 + k), .ref (c0 + j)] [] (hp c0 n _ _) _
    refine Ex.nx rfl ?_
    exact Ex.ret rfl rfl ⟨ret_0 (by simp [str, c1]), rfl⟩
  · replace c1 : x.1 = 7 := Classical.not_not.mp (of_decide_eq_false c1)
    show Ex X m_Term_isStrangeTo 9 [.ref (c0 + k), .ref (c0 + j)] [] (hp c0 n _ _) _
    refine Ex.nx rfl ?_
    refine Hx.get j rfl g.1 rfl ?_
    refine Ex.nx rfl ?_
    refine Ex.nx rfl ?_
    refine Ex.ite (fun c2 => ?_) (fun c2 => ?_)
    · replace c2 : y.1 < 3 := of_decide_eq_true c2
      show Ex X m_Term_isStrangeTo 30 [.ref (c0 + k), .ref (c0 + j)] [] (hp c0 n _ _) _
      refine Ex.nx rfl ?_
      exact Ex.ret rfl rfl ⟨ret_0 (by simp [str, c1, c2]), rfl⟩
    · replace c2 : ¬ y.1 < 3 := of_decide_eq_false c2
      show Ex X m_Term_isStrangeTo 17 [.ref (c0 + k), .ref (c0 + j)] [] (hp c0 n _ _) _
      refine Ex.nx rfl ?_
      refine Hx.get j rfl g.1 rfl ?_
      refine Ex.nx rfl ?_
      refine Ex.nx rfl ?_
      refine Ex.ite (fun c3 => ?_) (fun c3 => ?_)
      · replace c3 : 8 < y.1 := of_decide_eq_true c3
        show Ex X m_Term_isStrangeTo 30 [.ref (c0 + k), .ref (c0 + j)] [] (hp c0 n _ _) _
        refine Ex.nx rfl ?_
        exact Ex.ret rfl rfl ⟨ret_0 (by simp [str, c1, Int32.not_lt.mp c2, c3]), rfl⟩
      · replace c3 : ¬ 8 < y.1 := of_decide_eq_false c3
        show Ex X m_Term_isStrangeTo 26 [.ref (c0 + k), .ref (c0 + j)] [] (hp c0 n _ _) _
        refine Ex.nx rfl ?_
        refine Ex.nx rfl ?_
        exact Ex.ret rfl rfl ⟨ret_1 (by simp [str, c1, Int32.not_lt.mp c2, Int32.not_lt.mp c3]), rfl⟩
