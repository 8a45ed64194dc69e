/-! type, whole, decimal, read, find of the class on a fresh object. (rows laid by wip/whole/h3.py) -/
theorem va_et {α : Type} {f : Nat → α} {k : Nat} {e : α} (h : f k = e) : va_up f k e = f := by
  funext j
  by_cases q : j = k
  · subst q; rw [va_up_self, h]
  · rw [va_up_ne _ _ q]
theorem va_u2 {α : Type} {f : Nat → α} {i j : Nat} {a b c d : α} (h : i ≠ j) : va_up (va_up (va_up (va_up f i a) j b) i c) j d = va_up (va_up f i c) j d := by
  funext x
  by_cases q : x = j
  · subst q; rw [va_up_self, va_up_self]
  · by_cases q2 : x = i
    · subst q2; rw [va_up_ne _ _ q, va_up_self, va_up_ne _ _ q, va_up_self]
    · simp only [va_up_ne _ _ q, va_up_ne _ _ q2]
theorem nI_s1 (p : Nat) : nI (p + 1) - 1 = nI p := by rw [← nI_1]; exact Int32.add_sub_cancel _ _
theorem nI_m1 (p : Nat) : nI (p + 1) + (-1) = nI p := by rw [← nI_s1 p]; exact (Int32.sub_eq_add_neg _ _).symm
theorem lgc0 {a b : Int64} (h : lg_cmp a b = 0) : a = b := by
  unfold lg_cmp at h
  split at h
  · exact absurd h (by decide)
  · split at h
    · assumption
    · exact absurd h (by decide)
theorem lgc1 {a b : Int64} (h : ¬ lg_cmp a b = 0) : ¬ a = b := fun q => h (by unfold lg_cmp; rw [if_neg (by rw [q]; exact Int64.lt_irrefl), if_pos q])
/-- the byte of type at place i; the tape with m more bytes -/
def cb (v : Int64) (m : Nat) : Int32 := (v.toUInt64 >>> ((8 * nI m).toInt64.toUInt64 &&& Int64.toUInt64 63)).toInt64.toInt32 &&& 255
def tcf : Nat → Nat → (Nat → Int32) → Int64 → Nat → Int32
  | 0, _, f, _ => f
  | m + 1, s, f, v => tcf m (s + 1) (upd f s (vp_nar .byte (cb v m))) v
def few (v : Int64) : Bool := !decide (lg_cmp v (-999999999999999999) < 0) && !decide (0 < lg_cmp v 999999999999999999)
def lz : Nat → Int64 → Int64 × Nat
  | 0, v => (v, 0)
  | p + 1, v => if v - v / 10 * 10 = 0 then lz p (v / 10) else (v, p + 1)
set_option maxRecDepth 100000 in
set_option maxHeartbeats 1000000 in
theorem hx_type_l {X : ev_X} {c0 n z : Nat} (v : Int64) (N : Int32) : ∀ (m s : Nat) (f : Nat → Int32) (F : Nat → Option va_E) (h0 : F 0 = some (.inr (5, [.ref (c0 + 1), .ref (c0 + 3), .ref (c0 + 8), .ref (c0 + 9), .ref (c0 + 11)]))) (h1 : F 1 = some (.inr (1, [.ref (c0 + 2), .int (nI s)]))) (h2 : F 2 = some (.inl (0, 240, .inl f))) (hs : s + m ≤ 240), Ex X m_Tab_type 36 [.ref (c0 + 0), .long v, ev_dead, .int N, .int (nI m - 1)] [] (hp c0 n z F) (fun r h' => r = some (.int (nI (s + m))) ∧ h' = hp c0 n z (va_up (va_up F 2 (some (.inl (0, 240, .inl (tcf m s f v))))) 1 (some (.inr (1, [.ref (c0 + 2), .int (nI (s + m))]))))) := by
  intro m
  induction m with
  | zero =>
    intro s f F h0 h1 h2 hs
    show Ex X m_Tab_type 36 [.ref (c0 + 0), .long v, ev_dead, .int N, .int (-1)] [] (hp c0 n z F) _
    refine Ex.nx rfl ?_
    refine Ex.nx rfl ?_
    show Ex X m_Tab_type 66 [.ref (c0 + 0), .long v, ev_dead, .int N, .int (-1)] [] (hp c0 n _ _) _
    refine Ex.nx rfl ?_
    refine Hx.get 0 rfl h0 rfl ?_
    refine Hx.call 1 rfl rfl h1 rfl rfl (hx_size 1 h1) ?_
    show Ex X m_Tab_type 73 [.ref (c0 + 0), .long v, ev_dead, .int N, .int (-1)] [.int (nI s)] (hp c0 n _ _) _
    refine Ex.ret rfl (ev_reti rfl) ⟨rfl, ?_⟩
    show hp c0 n z F = hp c0 n z (va_up (va_up F 2 (some (.inl (0, 240, .inl f)))) 1 (some (.inr (1, [.ref (c0 + 2), .int (nI s)]))))
    rw [va_et h2, va_et h1]
  | succ m ih =>
    intro s f F h0 h1 h2 hs
    rw [nI_s1]
    refine Ex.nx rfl ?_
    refine Ex.nx rfl ?_
    refine Ex.ite (fun c1 => ?_) (fun c1 => ?_)
    · replace c1 : (nI m) < 0 := of_decide_eq_true c1
      exact absurd c1 (nI_pos (by omega))
    · replace c1 : ¬ (nI m) < 0 := of_decide_eq_false c1
      show Ex X m_Tab_type 41 [.ref (c0 + 0), .long v, ev_dead, .int N, .int (nI m)] [] (hp c0 n _ _) _
      refine Ex.nx rfl ?_
      refine Hx.get 0 rfl h0 rfl ?_
      refine Ex.nx rfl ?_
      refine Ex.nx rfl ?_
      refine Ex.nx rfl ?_
      refine Ex.nx rfl ?_
      refine Ex.nx rfl ?_
      refine Ex.nx rfl ?_
      refine Ex.nx rfl ?_
      refine Ex.nx rfl ?_
      refine Hx.call 1 rfl rfl h1 rfl rfl (hx_add 1 2 (l := s) (N := 240) (f := f) h1 h2 (by decide) (by omega) (by decide) ((((v.toUInt64 >>> ((8 * (nI m)).toInt64.toUInt64 &&& Int64.toUInt64 63)).toInt64).toInt32) &&& 255)) ?_
      show Ex X m_Tab_type 60 [.ref (c0 + 0), .long v, ev_dead, .int N, .int (nI m)] [] (hp c0 n _ _) _
      refine Ex.nx rfl ?_
      show Ex X m_Tab_type 63 [.ref (c0 + 0), .long v, ev_dead, .int N, .int ((nI m) + (-1))] [] (hp c0 n _ _) _
      refine Ex.nx rfl ?_
      show Ex X m_Tab_type 36 [.ref (c0 + 0), .long v, ev_dead, .int N, .int ((nI m) + (-1))] [] (hp c0 n _ _) _
      rw [show nI m + (-1) = nI m - 1 from (Int32.sub_eq_add_neg _ _).symm]
      refine (ih (s + 1) (upd f s (vp_nar .byte (cb v m))) (va_up (va_up F 2 (some (.inl (0, 240, .inl (upd f s (vp_nar .byte ((((v.toUInt64 >>> ((8 * (nI m)).toInt64.toUInt64 &&& Int64.toUInt64 63)).toInt64).toInt32) &&& 255))))))) 1 (some (.inr (1, [.ref (c0 + 2), .int (nI (s + 1))])))) h0 rfl rfl (by omega)).mono ?_
      rintro r h' ⟨rfl, rfl⟩
      exact ⟨by rw [show s + 1 + m = s + (m + 1) by omega], by rw [va_u2 (by decide), show s + 1 + m = s + (m + 1) by omega]; rfl⟩
theorem i32_81 {n : Int32} (h1 : ¬ n < 1) (h2 : n ≤ 8) : ∃ m : Nat, m ≤ 8 ∧ n = nI m := nI_of2 (M := 8) (n := 8) rfl (fun q => h1 (Int32.lt_trans q (by decide))) h2
theorem i32_82 {n : Int32} (h1 : ¬ n < 1) (h2 : n ≤ 8) : 0 + n ≤ 240 := by
  obtain ⟨m, hm, rfl⟩ := i32_81 h1 h2
  rw [show (0 : Int32) + nI m = nI (0 + m) from nI_add 0 m]
  exact nI_le (b := 240) (by omega) (by decide)
set_option maxRecDepth 100000 in
set_option maxHeartbeats 1000000 in
theorem p_type {X : ev_X} {c0 z : Nat} (v : Int64) (n : Int32) : Ex X m_Tab_type 0 [.ref (c0 + 0), .long v, ev_dead, .int n, ev_dead] [] (hp c0 26 z (fz c0)) (pOk c0 26 z (fz c0) (some (.int (if n < 1 then -1 else if n ≤ 8 then n else -1)))) := by
  refine Ex.nx rfl ?_
  refine Ex.nx rfl ?_
  refine Ex.nx rfl ?_
  refine Ex.ite (fun c1 => ?_) (fun c1 => ?_)
  · replace c1 : n < 1 := of_decide_eq_true c1
    show Ex X m_Tab_type 11 [.ref (c0 + 0), .long v, ev_dead, .int n, ev_dead] [] (hp c0 26 _ _) _
    refine Ex.nx rfl ?_
    exact Ex.ret rfl (ev_reti rfl) ⟨_, _, _, rfl, by omega, by omega, rsm.rf, by simp [c1]⟩
  · replace c1 : ¬ n < 1 := of_decide_eq_false c1
    show Ex X m_Tab_type 5 [.ref (c0 + 0), .long v, ev_dead, .int n, ev_dead] [] (hp c0 26 _ _) _
    refine Ex.nx rfl ?_
    refine Ex.nx rfl ?_
    refine Ex.nx rfl ?_
    refine Ex.ite (fun c2 => ?_) (fun c2 => ?_)
    · replace c2 : n ≤ 8 := of_decide_eq_true c2
      show Ex X m_Tab_type 13 [.ref (c0 + 0), .long v, ev_dead, .int n, ev_dead] [] (hp c0 26 _ _) _
      refine Ex.nx rfl ?_
      refine Hx.get 0 rfl rfl rfl ?_
      refine Hx.call 1 rfl rfl rfl rfl rfl (hx_size 1 rfl) ?_
      show Ex X m_Tab_type 20 [.ref (c0 + 0), .long v, ev_dead, .int n, ev_dead] [.int 0] (hp c0 26 _ _) _
      refine Ex.nx rfl ?_
      refine Ex.nx rfl ?_
      refine Ex.nx rfl ?_
      refine Ex.nx rfl ?_
      refine Ex.ite (fun c3 => ?_) (fun c3 => ?_)
      · replace c3 : (0 + n) ≤ 240 := of_decide_eq_true c3
        show Ex X m_Tab_type 31 [.ref (c0 + 0), .long v, ev_dead, .int n, ev_dead] [] (hp c0 26 _ _) _
        refine Ex.nx rfl ?_
        refine Ex.nx rfl ?_
        refine Ex.nx rfl ?_
        refine Ex.nx rfl ?_
        show Ex X m_Tab_type 36 [.ref (c0 + 0), .long v, ev_dead, .int n, .int (n - 1)] [] (hp c0 26 _ _) _
        show Ex X m_Tab_type 36 [.ref (c0 + 0), .long v, ev_dead, .int n, .int (n - 1)] [] (hp c0 26 _ _) _
        obtain ⟨m, hm, rfl⟩ := i32_81 c1 c2
        refine (hx_type_l v (nI m) m 0 _ _ rfl rfl rfl (by omega)).mono ?_
        rintro r h' ⟨rfl, rfl⟩
        exact ⟨_, _, _, rfl, by omega, by omega, (rsm.up (rsm.up rsm.rf (by decide)) (by decide)), by rw [if_neg c1, if_pos c2, Nat.zero_add]⟩
      · replace c3 : ¬ (0 + n) ≤ 240 := of_decide_eq_false c3
        exact absurd (i32_82 c1 c2) c3
    · replace c2 : ¬ n ≤ 8 := of_decide_eq_false c2
      show Ex X m_Tab_type 11 [.ref (c0 + 0), .long v, ev_dead, .int n, ev_dead] [] (hp c0 26 _ _) _
      refine Ex.nx rfl ?_
      exact Ex.ret rfl (ev_reti rfl) ⟨_, _, _, rfl, by omega, by omega, rsm.rf, by simp [c1, c2]⟩
set_option maxRecDepth 100000 in
set_option maxHeartbeats 1000000 in
theorem sx_few (X : ev_X) (v : Int64) : Sx X m_Tab_hasFewDigits 0 [.long v, ev_dead] [] (fun r => r = some (.int (bi (few v)))) := by
  refine Sx.go (fun _ => rfl) ?_
  refine Sx.go (fun _ => rfl) ?_
  refine Sx.go (fun _ => rfl) ?_
  refine Sx.go (fun _ => rfl) ?_
  refine Sx.ite (fun c1 => ?_) (fun c1 => ?_)
  · replace c1 : (lg_cmp v (-999999999999999999)) < 0 := of_decide_eq_true c1
    show Sx X m_Tab_hasFewDigits 20 [.long v, ev_dead] [] _
    refine Sx.go (fun _ => rfl) ?_
    refine Sx.ret rfl rfl ?_
    simp [few, bi, c1]
  · replace c1 : ¬ (lg_cmp v (-999999999999999999)) < 0 := of_decide_eq_false c1
    show Sx X m_Tab_hasFewDigits 8 [.long v, ev_dead] [] _
    refine Sx.go (fun _ => rfl) ?_
    refine Sx.go (fun _ => rfl) ?_
    refine Sx.go (fun _ => rfl) ?_
    refine Sx.go (fun _ => rfl) ?_
    refine Sx.ite (fun c2 => ?_) (fun c2 => ?_)
    · replace c2 : 0 < (lg_cmp v 999999999999999999) := of_decide_eq_true c2
      show Sx X m_Tab_hasFewDigits 20 [.long v, ev_dead] [] _
      refine Sx.go (fun _ => rfl) ?_
      refine Sx.ret rfl rfl ?_
      simp [few, bi, c1, c2]
    · replace c2 : ¬ 0 < (lg_cmp v 999999999999999999) := of_decide_eq_false c2
      show Sx X m_Tab_hasFewDigits 16 [.long v, ev_dead] [] _
      refine Sx.go (fun _ => rfl) ?_
      refine Sx.go (fun _ => rfl) ?_
      refine Sx.ret rfl rfl ?_
      simp [few, bi, c1, c2]
set_option maxRecDepth 100000 in
set_option maxHeartbeats 1000000 in
theorem p_whole {X : ev_X} {c0 z : Nat} (v : Int64) : Ex X m_Tab_whole 0 [.ref (c0 + 0), .long v, ev_dead] [] (hp c0 26 z (fz c0)) (pOk c0 26 z (fz c0) (some (.int (if few v = true then 1 else -1)))) := by
  refine Ex.nx rfl ?_
  refine Hx.calls rfl rfl rfl rfl (sx_few X v) (fun v hv => ?_)
  subst hv
  show Ex X m_Tab_whole 4 [.ref (c0 + 0), .long v, ev_dead] [.int (bi (few v))] (hp c0 26 _ _) _
  refine Ex.nx rfl ?_
  refine Ex.ite (fun c1 => ?_) (fun c1 => ?_)
  · replace c1 : (few v) = true := bi_net c1
    show Ex X m_Tab_whole 9 [.ref (c0 + 0), .long v, ev_dead] [] (hp c0 26 _ _) _
    refine Ex.nx rfl ?_
    refine Hx.get 0 rfl rfl rfl ?_
    refine Ex.nx rfl ?_
    refine Ex.nx rfl ?_
    refine Ex.nx rfl ?_
    refine Hx.call 3 rfl rfl rfl rfl rfl (hx_become 3 v 0 rfl rfl rfl) ?_
    show Ex X m_Tab_whole 19 [.ref (c0 + 0), .long v, ev_dead] [] (hp c0 26 _ _) _
    refine Ex.nx rfl ?_
    refine Hx.get 0 rfl rfl rfl ?_
    refine Ex.nx rfl ?_
    refine Hx.get 0 rfl rfl rfl ?_
    refine Hx.callX 9 rfl rfl rfl rfl rfl (hx_keep0 rfl rfl rfl rfl rfl) ?_
    rintro v h1 ⟨n1, z1, F1, rfl, e1, e2, e3, rfl⟩
    exact Ex.ret rfl (ev_reti rfl) ⟨n1, z1, F1, rfl, by omega, by omega, rsm.tr (rsm.up (rsm.up (rsm.up (rsm.up (rsm.up rsm.rf (by decide)) (by decide)) (by decide)) (by decide)) (by decide)) e3, by simp [c1]⟩
  · replace c1 : (few v) = false := bi_nef c1
    show Ex X m_Tab_whole 7 [.ref (c0 + 0), .long v, ev_dead] [] (hp c0 26 _ _) _
    refine Ex.nx rfl ?_
    exact Ex.ret rfl (ev_reti rfl) ⟨_, _, _, rfl, by omega, by omega, rsm.rf, by simp [c1]⟩
set_option maxRecDepth 100000 in
set_option maxHeartbeats 1000000 in
theorem hx_lz_l {X : ev_X} {c0 n z : Nat} {s : Int32} : ∀ (p : Nat) (v : Int64) (F : Nat → Option va_E) (h3 : F 3 = some (.inr (2, [.int s, .long v, .int (nI p), .ref (c0 + 4), .ref (c0 + 6)]))) (hp9 : p ≤ 1000), Ex X m_Term_leaveOffZeros 5 [.ref (c0 + 3), .int (nI p)] [] (hp c0 n z F) (fun r h' => r = none ∧ h' = hp c0 n z (va_up F 3 (some (.inr (2, [.int s, .long (lz p v).1, .int (nI (lz p v).2), .ref (c0 + 4), .ref (c0 + 6)]))))) := by
  intro p
  induction p with
  | zero =>
    intro v F h3 hp9
    refine Ex.nx rfl ?_
    refine Ex.nx rfl ?_
    show Ex X m_Term_leaveOffZeros 50 [.ref (c0 + 3), .int 0] [] (hp c0 n _ _) _
    exact Ex.ret rfl rfl ⟨rfl, congrArg _ (va_et h3).symm⟩
  | succ p ih =>
    intro v F h3 hp9
    refine Ex.nx rfl ?_
    refine Ex.nx rfl ?_
    refine Ex.ite (fun c1 => ?_) (fun c1 => ?_)
    · replace c1 : (nI (p + 1)) ≤ 0 := of_decide_eq_true c1
      exact absurd ((nI_leI (b := 0) (by omega) (by omega)).mp c1) (by omega)
    · replace c1 : ¬ (nI (p + 1)) ≤ 0 := of_decide_eq_false c1
      show Ex X m_Term_leaveOffZeros 9 [.ref (c0 + 3), .int (nI (p + 1))] [] (hp c0 n _ _) _
      refine Ex.nx rfl ?_
      refine Hx.get 3 rfl h3 rfl ?_
      refine Ex.nx rfl ?_
      refine Ex.nx rfl ?_
      refine Ex.nx rfl ?_
      refine Ex.nx rfl ?_
      refine Ex.nx rfl ?_
      refine Ex.ite (fun c2 => ?_) (fun c2 => ?_)
      · replace c2 : ¬ (lg_cmp (v - v / 10 * 10) 0) = 0 := of_decide_eq_true c2
        show Ex X m_Term_leaveOffZeros 50 [.ref (c0 + 3), .int (nI (p + 1))] [] (hp c0 n _ _) _
        refine Ex.ret rfl rfl ⟨rfl, ?_⟩
        rw [show lz (p + 1) v = (v, p + 1) from if_neg (lgc1 c2)]
        exact congrArg _ (va_et h3).symm
      · replace c2 : (lg_cmp (v - v / 10 * 10) 0) = 0 := Classical.not_not.mp (of_decide_eq_false c2)
        show Ex X m_Term_leaveOffZeros 22 [.ref (c0 + 3), .int (nI (p + 1))] [] (hp c0 n _ _) _
        refine Ex.nx rfl ?_
        refine Ex.nx rfl ?_
        refine Hx.get 3 rfl h3 rfl ?_
        refine Ex.nx rfl ?_
        refine Ex.nx rfl ?_
        refine Hx.put 3 rfl h3 rfl rfl rfl ?_
        refine Ex.nx rfl ?_
        refine Ex.nx rfl ?_
        refine Hx.get 3 rfl rfl rfl ?_
        refine Ex.nx rfl ?_
        refine Ex.nx rfl ?_
        refine Hx.top (y := nI p) (nI_s1 p) ?_
        refine Hx.put 3 rfl rfl rfl rfl rfl ?_
        refine Ex.nx rfl ?_
        show Ex X m_Term_leaveOffZeros 47 [.ref (c0 + 3), .int ((nI (p + 1)) + (-1))] [] (hp c0 n _ _) _
        refine Ex.nx rfl ?_
        show Ex X m_Term_leaveOffZeros 5 [.ref (c0 + 3), .int ((nI (p + 1)) + (-1))] [] (hp c0 n _ _) _
        rw [nI_m1]
        refine (ih _ _ rfl (by omega)).mono ?_
        rintro r h' ⟨rfl, rfl⟩
        exact ⟨rfl, by rw [va_uu, va_uu, show lz (p + 1) v = lz p (v / 10) from if_pos (lgc0 c2)]⟩
set_option maxRecDepth 100000 in
set_option maxHeartbeats 1000000 in
theorem hx_lz {X : ev_X} {c0 n z : Nat} {F : Nat → Option va_E} {s : Int32} (p : Nat) (v : Int64) (hp9 : p ≤ 1000) (h3 : F 3 = some (.inr (2, [.int s, .long v, .int (nI p), .ref (c0 + 4), .ref (c0 + 6)]))) : Ex X m_Term_leaveOffZeros 0 [.ref (c0 + 3), ev_dead] [] (hp c0 n z F) (fun r h' => r = none ∧ h' = hp c0 n z (va_up F 3 (some (.inr (2, [.int s, .long (lz p v).1, .int (nI (lz p v).2), .ref (c0 + 4), .ref (c0 + 6)]))))) := by
  refine Ex.nx rfl ?_
  refine Hx.get 3 rfl h3 rfl ?_
  refine Ex.nx rfl ?_
  show Ex X m_Term_leaveOffZeros 5 [.ref (c0 + 3), .int (nI p)] [] (hp c0 n _ _) _
  show Ex X m_Term_leaveOffZeros 5 [.ref (c0 + 3), .int (nI p)] [] (hp c0 n _ _) _
  exact hx_lz_l p v F h3 hp9
set_option maxRecDepth 100000 in
set_option maxHeartbeats 1000000 in
theorem p_decimal {X : ev_X} {c0 z : Nat} (v : Int64) (u : Int32) : Ex X m_Tab_decimal 0 [.ref (c0 + 0), .long v, ev_dead, .int u] [] (hp c0 26 z (fz c0)) (pOk c0 26 z (fz c0) (some (.int (if u < 0 then -1 else if 9 < u then -1 else if few v = true then 1 else -1)))) := by
  refine Ex.nx rfl ?_
  refine Ex.nx rfl ?_
  refine Ex.ite (fun c1 => ?_) (fun c1 => ?_)
  · replace c1 : u < 0 := of_decide_eq_true c1
    show Ex X m_Tab_decimal 17 [.ref (c0 + 0), .long v, ev_dead, .int u] [] (hp c0 26 _ _) _
    refine Ex.nx rfl ?_
    exact Ex.ret rfl (ev_reti rfl) ⟨_, _, _, rfl, by omega, by omega, rsm.rf, by rw [if_pos c1] <;> rfl⟩
  · replace c1 : ¬ u < 0 := of_decide_eq_false c1
    show Ex X m_Tab_decimal 4 [.ref (c0 + 0), .long v, ev_dead, .int u] [] (hp c0 26 _ _) _
    refine Ex.nx rfl ?_
    refine Ex.nx rfl ?_
    refine Ex.nx rfl ?_
    refine Ex.ite (fun c2 => ?_) (fun c2 => ?_)
    · replace c2 : 9 < u := of_decide_eq_true c2
      show Ex X m_Tab_decimal 17 [.ref (c0 + 0), .long v, ev_dead, .int u] [] (hp c0 26 _ _) _
      refine Ex.nx rfl ?_
      exact Ex.ret rfl (ev_reti rfl) ⟨_, _, _, rfl, by omega, by omega, rsm.rf, by rw [if_neg c1, if_pos c2] <;> rfl⟩
    · replace c2 : ¬ 9 < u := of_decide_eq_false c2
      show Ex X m_Tab_decimal 10 [.ref (c0 + 0), .long v, ev_dead, .int u] [] (hp c0 26 _ _) _
      refine Ex.nx rfl ?_
      refine Hx.calls rfl rfl rfl rfl (sx_few X v) (fun v hv => ?_)
      subst hv
      show Ex X m_Tab_decimal 14 [.ref (c0 + 0), .long v, ev_dead, .int u] [.int (bi (few v))] (hp c0 26 _ _) _
      refine Ex.nx rfl ?_
      refine Ex.ite (fun c3 => ?_) (fun c3 => ?_)
      · replace c3 : (few v) = true := bi_net c3
        show Ex X m_Tab_decimal 19 [.ref (c0 + 0), .long v, ev_dead, .int u] [] (hp c0 26 _ _) _
        obtain ⟨p, hp9, rfl⟩ := nI_of2 (M := 9) (n := 9) rfl c1 (Int32.not_lt.mp c2)
        refine Ex.nx rfl ?_
        refine Hx.get 0 rfl rfl rfl ?_
        refine Ex.nx rfl ?_
        refine Ex.nx rfl ?_
        refine Ex.nx rfl ?_
        refine Hx.call 3 rfl rfl rfl rfl rfl (hx_become 4 v (nI p) rfl rfl rfl) ?_
        show Ex X m_Tab_decimal 29 [.ref (c0 + 0), .long v, ev_dead, .int (nI p)] [] (hp c0 26 _ _) _
        refine Ex.nx rfl ?_
        refine Hx.get 0 rfl rfl rfl ?_
        refine Hx.call 3 rfl rfl rfl rfl rfl (hx_lz p v (by omega) rfl) ?_
        show Ex X m_Tab_decimal 36 [.ref (c0 + 0), .long v, ev_dead, .int (nI p)] [] (hp c0 26 _ _) _
        refine Ex.nx rfl ?_
        refine Hx.get 0 rfl rfl rfl ?_
        refine Ex.nx rfl ?_
        refine Hx.get 0 rfl rfl rfl ?_
        refine Hx.callX 9 rfl rfl rfl rfl rfl (hx_keep0 rfl rfl rfl rfl rfl) ?_
        rintro v h1 ⟨n1, z1, F1, rfl, e1, e2, e3, rfl⟩
        exact Ex.ret rfl (ev_reti rfl) ⟨n1, z1, F1, rfl, by omega, by omega, rsm.tr (rsm.up (rsm.up (rsm.up (rsm.up (rsm.up (rsm.up rsm.rf (by decide)) (by decide)) (by decide)) (by decide)) (by decide)) (by decide)) e3, by rw [if_neg c1, if_neg c2, if_pos c3] <;> rfl⟩
      · replace c3 : (few v) = false := bi_nef c3
        show Ex X m_Tab_decimal 17 [.ref (c0 + 0), .long v, ev_dead, .int u] [] (hp c0 26 _ _) _
        refine Ex.nx rfl ?_
        exact Ex.ret rfl (ev_reti rfl) ⟨_, _, _, rfl, by omega, by omega, rsm.rf, by rw [if_neg c1, if_neg c2, if_neg (by rw [c3]; decide)] <;> rfl⟩
set_option maxRecDepth 100000 in
set_option maxHeartbeats 1000000 in
theorem hx_fail {X : ev_X} {c0 n z : Nat} {F : Nat → Option va_E} (q p : Int32) {a b : Int32} (h8 : F 8 = some (.inr (0, [.ref (c0 + 3), .int a, .int b]))) : Ex X m_Reader_fail 0 [.ref (c0 + 8), .int q, .int p] [] (hp c0 n z F) (fun r h' => r = some (.int (-1)) ∧ h' = hp c0 n (z) (va_up (va_up F 8 (some (.inr (0, [.ref (c0 + 3), .int q, .int b])))) 8 (some (.inr (0, [.ref (c0 + 3), .int q, .int p]))))) := by
  refine Ex.nx rfl ?_
  refine Ex.nx rfl ?_
  refine Hx.put 8 rfl h8 rfl rfl rfl ?_
  refine Ex.nx rfl ?_
  refine Ex.nx rfl ?_
  refine Hx.put 8 rfl rfl rfl rfl rfl ?_
  refine Ex.nx rfl ?_
  exact Ex.ret rfl (ev_reti rfl) ⟨rfl, rfl⟩
set_option maxRecDepth 100000 in
set_option maxHeartbeats 1000000 in
theorem hx_readPlain0 {X : ev_X} {c0 n z : Nat} {F : Nat → Option va_E} {f : Nat → Int32} {a b : Int32} (h1 : F 1 = some (.inr (1, [.ref (c0 + 2), .int 0]))) (h2 : F 2 = some (.inl (0, 240, .inl f))) (h8 : F 8 = some (.inr (0, [.ref (c0 + 3), .int a, .int b]))) : Ex X m_Reader_readPlain 0 [.ref (c0 + 8), .ref (c0 + 1), ev_dead, ev_dead] [] (hp c0 n z F) (fun r h' => r = some (.int (-1)) ∧ h' = hp c0 n (z) (va_up (va_up F 8 (some (.inr (0, [.ref (c0 + 3), .int 1, .int b])))) 8 (some (.inr (0, [.ref (c0 + 3), .int 1, .int 0]))))) := by
  refine Ex.nx rfl ?_
  refine Ex.nx rfl ?_
  refine Hx.call 1 rfl rfl h1 rfl rfl (hx_at_ge 1 2 (l := 0) (i := 0) h1 h2 (by decide) (by decide) (by decide) (by decide)) ?_
  show Ex X m_Reader_readPlain 5 [.ref (c0 + 8), .ref (c0 + 1), ev_dead, ev_dead] [.int (-1)] (hp c0 n _ _) _
  refine Ex.nx rfl ?_
  show Ex X m_Reader_readPlain 6 [.ref (c0 + 8), .ref (c0 + 1), .int (-1), ev_dead] [] (hp c0 n _ _) _
  refine Ex.nx rfl ?_
  refine Ex.nx rfl ?_
  refine Ex.nx rfl ?_
  show Ex X m_Reader_readPlain 21 [.ref (c0 + 8), .ref (c0 + 1), .int (-1), ev_dead] [] (hp c0 n _ _) _
  refine Ex.nx rfl ?_
  refine Ex.nx rfl ?_
  refine Ex.nx rfl ?_
  show Ex X m_Reader_readPlain 36 [.ref (c0 + 8), .ref (c0 + 1), .int (-1), ev_dead] [] (hp c0 n _ _) _
  refine Ex.nx rfl ?_
  refine Hx.calls rfl rfl rfl rfl (sx_Reader_isSign X (-1)) (fun v hv => ?_)
  subst hv
  show Ex X m_Reader_readPlain 40 [.ref (c0 + 8), .ref (c0 + 1), .int (-1), ev_dead] [.int 0] (hp c0 n _ _) _
  refine Ex.nx rfl ?_
  show Ex X m_Reader_readPlain 43 [.ref (c0 + 8), .ref (c0 + 1), .int (-1), ev_dead] [] (hp c0 n _ _) _
  refine Ex.nx rfl ?_
  refine Hx.calls rfl rfl rfl rfl (sx_Reader_isDigit X (-1)) (fun v hv => ?_)
  subst hv
  show Ex X m_Reader_readPlain 47 [.ref (c0 + 8), .ref (c0 + 1), .int (-1), ev_dead] [.int 0] (hp c0 n _ _) _
  refine Ex.nx rfl ?_
  show Ex X m_Reader_readPlain 50 [.ref (c0 + 8), .ref (c0 + 1), .int (-1), ev_dead] [] (hp c0 n _ _) _
  refine Ex.nx rfl ?_
  refine Ex.nx rfl ?_
  refine Ex.nx rfl ?_
  show Ex X m_Reader_readPlain 56 [.ref (c0 + 8), .ref (c0 + 1), .int (-1), ev_dead] [] (hp c0 n _ _) _
  refine Ex.nx rfl ?_
  refine Ex.nx rfl ?_
  refine Ex.nx rfl ?_
  refine Hx.call 8 rfl rfl h8 rfl rfl (hx_fail 1 0 h8) ?_
  show Ex X m_Reader_readPlain 62 [.ref (c0 + 8), .ref (c0 + 1), .int (-1), ev_dead] [.int (-1)] (hp c0 n _ _) _
  exact Ex.ret rfl (ev_reti rfl) ⟨rfl, rfl⟩
set_option maxRecDepth 100000 in
set_option maxHeartbeats 1000000 in
theorem hx_readAny0 {X : ev_X} {c0 n z : Nat} {F : Nat → Option va_E} {f : Nat → Int32} {a b : Int32} (h1 : F 1 = some (.inr (1, [.ref (c0 + 2), .int 0]))) (h2 : F 2 = some (.inl (0, 240, .inl f))) (h8 : F 8 = some (.inr (0, [.ref (c0 + 3), .int a, .int b]))) : Ex X m_Reader_readAny 0 [.ref (c0 + 8), .ref (c0 + 1)] [] (hp c0 n z F) (fun r h' => r = some (.int (-1)) ∧ h' = hp c0 n (z) (va_up (va_up F 8 (some (.inr (0, [.ref (c0 + 3), .int 1, .int b])))) 8 (some (.inr (0, [.ref (c0 + 3), .int 1, .int 0]))))) := by
  refine Ex.nx rfl ?_
  refine Ex.nx rfl ?_
  refine Hx.call 1 rfl rfl h1 rfl rfl (hx_at_ge 1 2 (l := 0) (i := 0) h1 h2 (by decide) (by decide) (by decide) (by decide)) ?_
  show Ex X m_Reader_readAny 5 [.ref (c0 + 8), .ref (c0 + 1)] [.int (-1)] (hp c0 n _ _) _
  refine Ex.nx rfl ?_
  show Ex X m_Reader_readAny 74 [.ref (c0 + 8), .ref (c0 + 1)] [] (hp c0 n _ _) _
  refine Ex.nx rfl ?_
  refine Ex.nx rfl ?_
  refine Hx.call 8 rfl rfl h8 rfl rfl (hx_readPlain0 h1 h2 h8) ?_
  show Ex X m_Reader_readAny 79 [.ref (c0 + 8), .ref (c0 + 1)] [.int (-1)] (hp c0 n _ _) _
  exact Ex.ret rfl (ev_reti rfl) ⟨rfl, rfl⟩
set_option maxRecDepth 100000 in
set_option maxHeartbeats 1000000 in
theorem hx_readTerm0 {X : ev_X} {c0 n z : Nat} {F : Nat → Option va_E} {f : Nat → Int32} {a b s0 p0 lb lt : Int32} {v0 : Int64} (h1 : F 1 = some (.inr (1, [.ref (c0 + 2), .int 0]))) (h2 : F 2 = some (.inl (0, 240, .inl f))) (h3 : F 3 = some (.inr (2, [.int s0, .long v0, .int p0, .ref (c0 + 4), .ref (c0 + 6)]))) (h4 : F 4 = some (.inr (1, [.ref (c0 + 5), .int lb]))) (h6 : F 6 = some (.inr (1, [.ref (c0 + 7), .int lt]))) (h8 : F 8 = some (.inr (0, [.ref (c0 + 3), .int a, .int b]))) : Ex X m_Reader_readTerm 0 [.ref (c0 + 8), .ref (c0 + 1), ev_dead] [] (hp c0 n z F) (fun r h' => r = some (.int 1) ∧ h' = hp c0 n (z) (va_up (va_up (va_up (va_up (va_up (va_up (va_up (va_up (va_up F 3 (some (.inr (2, [.int 0, .long v0, .int p0, .ref (c0 + 4), .ref (c0 + 6)])))) 3 (some (.inr (2, [.int 0, .long 0, .int p0, .ref (c0 + 4), .ref (c0 + 6)])))) 3 (some (.inr (2, [.int 0, .long 0, .int 0, .ref (c0 + 4), .ref (c0 + 6)])))) 4 (some (.inr (1, [.ref (c0 + 5), .int 0])))) 6 (some (.inr (1, [.ref (c0 + 7), .int 0])))) 8 (some (.inr (0, [.ref (c0 + 3), .int 0, .int b])))) 8 (some (.inr (0, [.ref (c0 + 3), .int 0, .int 0])))) 8 (some (.inr (0, [.ref (c0 + 3), .int 1, .int 0])))) 8 (some (.inr (0, [.ref (c0 + 3), .int 1, .int 0]))))) := by
  refine Ex.nx rfl ?_
  refine Hx.get 8 rfl h8 rfl ?_
  refine Ex.nx rfl ?_
  refine Ex.nx rfl ?_
  refine Ex.nx rfl ?_
  refine Hx.call 3 rfl rfl h3 rfl rfl (hx_become 0 0 0 h3 h4 h6) ?_
  show Ex X m_Reader_readTerm 10 [.ref (c0 + 8), .ref (c0 + 1), ev_dead] [] (hp c0 n _ _) _
  refine Ex.nx rfl ?_
  refine Ex.nx rfl ?_
  refine Hx.put 8 rfl h8 rfl rfl rfl ?_
  refine Ex.nx rfl ?_
  refine Ex.nx rfl ?_
  refine Hx.call 1 rfl rfl h1 rfl rfl (hx_size 1 h1) ?_
  show Ex X m_Reader_readTerm 20 [.ref (c0 + 8), .ref (c0 + 1), ev_dead] [.int 0, .ref (c0 + 8)] (hp c0 n _ _) _
  refine Hx.put 8 rfl rfl rfl rfl rfl ?_
  refine Ex.nx rfl ?_
  refine Ex.nx rfl ?_
  refine Hx.call 8 rfl rfl rfl rfl rfl (hx_readAny0 h1 h2 rfl) ?_
  show Ex X m_Reader_readTerm 28 [.ref (c0 + 8), .ref (c0 + 1), ev_dead] [.int (-1)] (hp c0 n _ _) _
  refine Ex.nx rfl ?_
  show Ex X m_Reader_readTerm 29 [.ref (c0 + 8), .ref (c0 + 1), .int (-1)] [] (hp c0 n _ _) _
  refine Ex.nx rfl ?_
  refine Ex.nx rfl ?_
  refine Ex.nx rfl ?_
  show Ex X m_Reader_readTerm 52 [.ref (c0 + 8), .ref (c0 + 1), .int (-1)] [] (hp c0 n _ _) _
  refine Ex.nx rfl ?_
  refine Ex.nx rfl ?_
  refine Ex.nx rfl ?_
  show Ex X m_Reader_readTerm 73 [.ref (c0 + 8), .ref (c0 + 1), .int (-1)] [] (hp c0 n _ _) _
  refine Ex.nx rfl ?_
  refine Hx.get 8 rfl rfl rfl ?_
  exact Ex.ret rfl (ev_reti rfl) ⟨rfl, rfl⟩
set_option maxRecDepth 100000 in
set_option maxHeartbeats 1000000 in
theorem p_read {X : ev_X} {c0 z : Nat} : Ex X m_Tab_read 0 [.ref (c0 + 0), ev_dead] [] (hp c0 26 z (fz c0)) (pOk c0 26 z (fz c0) (some (.int (-101)))) := by
  refine Ex.nx rfl ?_
  refine Hx.get 0 rfl rfl rfl ?_
  refine Ex.nx rfl ?_
  refine Hx.get 0 rfl rfl rfl ?_
  refine Hx.call 8 rfl rfl rfl rfl rfl (hx_readTerm0 rfl rfl rfl rfl rfl rfl) ?_
  show Ex X m_Tab_read 11 [.ref (c0 + 0), ev_dead] [.int 1] (hp c0 26 _ _) _
  refine Ex.nx rfl ?_
  show Ex X m_Tab_read 12 [.ref (c0 + 0), .int 1] [] (hp c0 26 _ _) _
  refine Ex.nx rfl ?_
  refine Hx.get 0 rfl rfl rfl ?_
  refine Hx.call 1 rfl rfl rfl rfl rfl (hx_clear 1 rfl) ?_
  show Ex X m_Tab_read 19 [.ref (c0 + 0), .int 1] [] (hp c0 26 _ _) _
  refine Ex.nx rfl ?_
  refine Ex.nx rfl ?_
  show Ex X m_Tab_read 37 [.ref (c0 + 0), .int 1] [] (hp c0 26 _ _) _
  refine Ex.nx rfl ?_
  refine Ex.nx rfl ?_
  refine Ex.nx rfl ?_
  show Ex X m_Tab_read 41 [.ref (c0 + 0), .int 1] [.int (-101)] (hp c0 26 _ _) _
  exact Ex.ret rfl (ev_reti rfl) ⟨_, _, _, rfl, by omega, by omega, (rsm.up (rsm.up (rsm.up (rsm.up (rsm.up (rsm.up (rsm.up (rsm.up (rsm.up (rsm.up rsm.rf (by decide)) (by decide)) (by decide)) (by decide)) (by decide)) (by decide)) (by decide)) (by decide)) (by decide)) (by decide)), rfl⟩
set_option maxRecDepth 100000 in
set_option maxHeartbeats 1000000 in
theorem p_find {X : ev_X} {c0 z : Nat} : Ex X m_Tab_find 0 [.ref (c0 + 0), ev_dead] [] (hp c0 26 z (fz c0)) (pOk c0 26 z (fz c0) (some (.int (-101)))) := by
  refine Ex.nx rfl ?_
  refine Hx.get 0 rfl rfl rfl ?_
  refine Ex.nx rfl ?_
  refine Hx.get 0 rfl rfl rfl ?_
  refine Hx.call 8 rfl rfl rfl rfl rfl (hx_readTerm0 rfl rfl rfl rfl rfl rfl) ?_
  show Ex X m_Tab_find 11 [.ref (c0 + 0), ev_dead] [.int 1] (hp c0 26 _ _) _
  refine Ex.nx rfl ?_
  show Ex X m_Tab_find 12 [.ref (c0 + 0), .int 1] [] (hp c0 26 _ _) _
  refine Ex.nx rfl ?_
  refine Hx.get 0 rfl rfl rfl ?_
  refine Hx.call 1 rfl rfl rfl rfl rfl (hx_clear 1 rfl) ?_
  show Ex X m_Tab_find 19 [.ref (c0 + 0), .int 1] [] (hp c0 26 _ _) _
  refine Ex.nx rfl ?_
  refine Ex.nx rfl ?_
  show Ex X m_Tab_find 37 [.ref (c0 + 0), .int 1] [] (hp c0 26 _ _) _
  refine Ex.nx rfl ?_
  refine Ex.nx rfl ?_
  refine Ex.nx rfl ?_
  show Ex X m_Tab_find 41 [.ref (c0 + 0), .int 1] [.int (-101)] (hp c0 26 _ _) _
  exact Ex.ret rfl (ev_reti rfl) ⟨_, _, _, rfl, by omega, by omega, (rsm.up (rsm.up (rsm.up (rsm.up (rsm.up (rsm.up (rsm.up (rsm.up (rsm.up (rsm.up rsm.rf (by decide)) (by decide)) (by decide)) (by decide)) (by decide)) (by decide)) (by decide)) (by decide)) (by decide)) (by decide)), rfl⟩
