/-! The law at one call on a fresh object. (rows laid by wip/whole/law1.py) -/
theorem Rx.sald {X : ev_X} {c0 M pc nx a b w : Nat} {A r : List Value} {σ : Nat → Int32} {τ : Nat → Nat → Int32} {Q : Option Value → (Nat → Int32) → (Nat → Nat → Int32) → Prop} {j : Int32} (o : pg_ops M pc = some (.iaload, nx, a, b, w)) (hX : X.1.1 < c0) (hj : ¬ (j < 0 ∨ X.1.2.1 ≤ j.toNatClampNeg)) (k : Rx X c0 M nx A (.int (X.1.2.2 j.toNatClampNeg) :: r) σ τ Q) : Rx X c0 M pc A (.int j :: .ref X.1.1 :: r) σ τ Q := fun h hM => Hx.sald o (hM.2.2 _ hX) hj (k h hM)
theorem Hx.tsw {X : ev_X} {M pc nx a b w : Nat} {A r : List Value} {h : ev_H} {Q : Option Value → ev_H → Prop} {d lo hi : Int} {offs : Array Int} {x : Int32} (o : pg_ops M pc = some (.tableswitch d lo hi offs, nx, a, b, w)) (hx : x.toInt < lo ∨ hi < x.toInt) (hd : ¬ (pc : Int) + d < 0) (k : Ex X M (ev_t pc d) A r h Q) : Ex X M pc A (.int x :: r) h Q := by
  refine Ex.nx (pc' := ev_t pc d) (A' := A) (st' := r) (h' := h) ?_ k
  have e1 : ev_ret M (.tableswitch d lo hi offs) (.int x :: r) = none := rfl
  have e2 : ev_cal X (.tableswitch d lo hi offs) a (.int x :: r) h = none := rfl
  have e3 : ∀ kv, ev_st kv (.tableswitch d lo hi offs) (.int x :: r) = none := fun _ => rfl
  have e4 : ev_lc (.tableswitch d lo hi offs) A (.int x :: r) = none := rfl
  have e5 : ev_br (.tableswitch d lo hi offs) pc nx (.int x :: r) = some (ev_t pc d, r) := by
    simp only [ev_br]
    rw [if_pos hx, if_neg hd]
  unfold ev_nx
  simp only [o, e1, e2, ev_one, e3, e4, e5]
def LQ (c0 z : Nat) (r : Option Value) (h' : ev_H) : Prop := r = some (.int 1) ∧ h'.1 ≤ c0 + 100 ∧ h'.2.1 ≤ z + 2000
theorem law_RM {c0 n1 z1 : Nat} {F1 : Nat → Option va_E} (e3 : rsm (fz c0) F1) : RM c0 (hp c0 n1 z1 F1) s0 t0 := by
  refine ⟨hp_at.trans (e3 16 (by decide) (by decide)), fun k n hk => ?_, fun o ho => hp_lo ho⟩
  have hb := ra_in hk
  refine hp_at.trans ((e3 (ra k) (by omega) hb.2).trans ?_)
  unfold rsz at hk
  split at hk <;> first | (cases hk; rfl) | (cases hk)
theorem law_rx {X : ev_X} {c0 M pc n1 z1 z : Nat} {A st : List Value} {F1 : Nat → Option va_E} (e1 : n1 ≤ 26 + 10) (e2 : z1 ≤ z + 1000) (e3 : rsm (fz c0) F1) (k : Rx X c0 M pc A st s0 t0 (fun r _ _ => r = some (.int 1))) : Ex X M pc A st (hp c0 n1 z1 F1) (LQ c0 z) :=
  (k _ (law_RM e3)).mono (fun r h' ⟨_, _, _, hF, hr⟩ => ⟨hr, by rw [hF.1]; show c0 + n1 ≤ _; omega, by rw [hF.2.1]; show z1 ≤ _; omega⟩)
theorem noT0 (t : Int32) : noT s0 t := by
  unfold noT
  by_cases h : t ≤ 0
  · simp [h]
  · simp [Int32.not_le.mp h]
theorem rt0 : rt s0 t0 [] := ⟨rfl, by decide, by decide, fun i hi => by
  have : i = 0 := by simpa using hi
  subst this
  rfl, fun i hi => absurd hi (Nat.not_lt_zero i)⟩
theorem shw0 : shw s0 t0 [] := ⟨rfl, by decide, fun k hk => absurd hk (Nat.not_lt_zero k), fun k => by simp⟩
theorem wat0 (x : Int32) : wat [] x = -1 := by
  unfold wat
  split
  · rfl
  · next h => rw [if_pos (show nI ([] : List Nat).length ≤ x from Int32.not_lt.mp h)]
theorem sw17 (q : Int32) : (∃ j : Nat, j ≤ 16 ∧ q = nI j) ∨ (q.toInt < 0 ∨ 16 < q.toInt) := by
  by_cases h : q.toInt < 0 ∨ 16 < q.toInt
  · exact Or.inr h
  · refine Or.inl (nI_of2 (M := 16) (n := 16) rfl (fun z => h (Or.inl (by rw [Int32.lt_iff_toInt_lt] at z; exact z))) ?_)
    rw [Int32.le_iff_toInt_le]
    have e : (16 : Int32).toInt = 16 := rfl
    omega
theorem law_L {L : Nat} (h : L ≤ 4) (c : ¬ nI L - 4 < 0) : L = 4 := by
  have h5 : L = 0 ∨ L = 1 ∨ L = 2 ∨ L = 3 ∨ L = 4 := by omega
  rcases h5 with rfl | rfl | rfl | rfl | rfl
  · exact absurd (by decide) c
  · exact absurd (by decide) c
  · exact absurd (by decide) c
  · exact absurd (by decide) c
  · rfl
set_option maxRecDepth 100000 in
set_option maxHeartbeats 1000000 in
theorem law_te {X : ev_X} {c0 : Nat} {h : ev_H} {Q : Option Value → ev_H → Prop} (h0 : h.2.2 X.1.1 = none) (h4 : X.1.2.1 = 4) (hq : Q (some (.int 1)) h) : Ex X 157 608 [.ref X.1.1, .ref (c0 + 0), .ref (c0 + 16), .int 0] [] h Q := by
  refine Ex.nx rfl ?_
  show Ex X m_Law_law 611 [.ref X.1.1, .ref (c0 + 0), .ref (c0 + 16), .int 4] [] h Q
  refine Ex.nx rfl ?_
  refine Ex.nx rfl ?_
  refine Ex.nx rfl ?_
  refine Hx.slen rfl h0 ?_
  refine Hx.top (y := 4) (by rw [h4]; rfl) ?_
  refine Ex.nx rfl ?_
  refine Ex.nx rfl ?_
  show Ex X m_Law_law 23 [.ref X.1.1, .ref (c0 + 0), .ref (c0 + 16), .int 4] [.int 0, .int 4] h Q
  refine Ex.nx rfl ?_
  show Ex X m_Law_law 614 [.ref X.1.1, .ref (c0 + 0), .ref (c0 + 16), .int 4] [] h Q
  refine Ex.nx rfl ?_
  exact Ex.ret rfl rfl hq
theorem law_rt {X : ev_X} {c0 : Nat} {σ : Nat → Int32} {τ : Nat → Nat → Int32} (hX : X.1.1 < c0) (h4 : X.1.2.1 = 4) : Rx X c0 157 608 [.ref X.1.1, .ref (c0 + 0), .ref (c0 + 16), .int 0] [] σ τ (fun r _ _ => r = some (.int 1)) := fun h hM => law_te (hM.2.2 _ hX) h4 ⟨σ, τ, hM, RF.rf, rfl⟩
set_option maxRecDepth 100000 in
set_option maxHeartbeats 1000000 in
theorem law_c0 {X : ev_X} {c0 z : Nat} (hX : X.1.1 < c0) (h4 : X.1.2.1 = 4) : Ex X 157 116 [.ref X.1.1, .ref (c0 + 0), .ref (c0 + 16), .int 0] [] (hp c0 26 z (fz c0)) (LQ c0 z) := by
  refine Ex.nx rfl ?_
  refine Ex.nx rfl ?_
  refine Ex.nx rfl ?_
  refine Ex.nx rfl ?_
  refine Ex.nx rfl ?_
  show Ex X m_Law_law 121 [.ref X.1.1, .ref (c0 + 0), .ref (c0 + 16), .int 0] [.int 1, .ref X.1.1, .ref (c0 + 0)] (hp c0 26 _ _) _
  refine Hx.sald rfl (hp_lo hX) (by rw [h4]; decide) ?_
  refine Ex.nx rfl ?_
  refine Ex.nx rfl ?_
  refine Ex.nx rfl ?_
  refine Ex.nx rfl ?_
  refine Ex.nx rfl ?_
  refine Ex.nx rfl ?_
  refine Ex.nx rfl ?_
  show Ex X m_Law_law 130 [.ref X.1.1, .ref (c0 + 0), .ref (c0 + 16), .int 0] [.int 2, .ref X.1.1, .long (((X.1.2.2 1).toInt64) <<< ((32 : Int32).toInt64 &&& 63)), .ref (c0 + 0)] (hp c0 26 _ _) _
  refine Hx.sald rfl (hp_lo hX) (by rw [h4]; decide) ?_
  refine Ex.nx rfl ?_
  refine Ex.nx rfl ?_
  refine Ex.nx rfl ?_
  refine Ex.nx rfl ?_
  refine Ex.nx rfl ?_
  refine Ex.nx rfl ?_
  refine Ex.nx rfl ?_
  refine Ex.nx rfl ?_
  show Ex X m_Law_law 141 [.ref X.1.1, .ref (c0 + 0), .ref (c0 + 16), .int 0] [.int 3, .ref X.1.1, .long ((((X.1.2.2 1).toInt64) <<< ((32 : Int32).toInt64 &&& 63)) ||| (((X.1.2.2 2).toInt64) &&& 4294967295)), .ref (c0 + 0)] (hp c0 26 _ _) _
  refine Hx.sald rfl (hp_lo hX) (by rw [h4]; decide) ?_
  refine Hx.callX 0 rfl rfl rfl rfl rfl (p_type _ _) ?_
  rintro v h1 ⟨n1, z1, F1, rfl, e1, e2, e3, rfl⟩
  refine law_rx e1 e2 e3 ?_
  show Rx X c0 m_Law_law 145 [.ref X.1.1, .ref (c0 + 0), .ref (c0 + 16), .int 0] [.int (if X.1.2.2 3 < 1 then (-1 : Int32) else if X.1.2.2 3 ≤ 8 then X.1.2.2 3 else -1)] s0 t0 _
  refine Rx.go (fun _ => rfl) ?_
  refine Rx.go (fun _ => rfl) ?_
  refine Rx.go (fun _ => rfl) ?_
  refine Rx.go (fun _ => rfl) ?_
  refine Rx.go (fun _ => rfl) ?_
  refine Rx.sald rfl hX (by rw [h4]; decide) ?_
  refine Rx.go (fun _ => rfl) ?_
  refine Rx.go (fun _ => rfl) ?_
  refine Rx.go (fun _ => rfl) ?_
  refine Rx.go (fun _ => rfl) ?_
  refine Rx.go (fun _ => rfl) ?_
  refine Rx.go (fun _ => rfl) ?_
  refine Rx.go (fun _ => rfl) ?_
  refine Rx.sald rfl hX (by rw [h4]; decide) ?_
  refine Rx.go (fun _ => rfl) ?_
  refine Rx.go (fun _ => rfl) ?_
  refine Rx.go (fun _ => rfl) ?_
  refine Rx.go (fun _ => rfl) ?_
  refine Rx.go (fun _ => rfl) ?_
  refine Rx.go (fun _ => rfl) ?_
  refine Rx.go (fun _ => rfl) ?_
  refine Rx.go (fun _ => rfl) ?_
  refine Rx.sald rfl hX (by rw [h4]; decide) ?_
  refine Rx.call rfl rfl rfl rfl (rx_type0 X c0 _ _ rfl) ?_
  rintro z σ2 τ2 rfl
  show Rx X c0 m_Law_law 174 [.ref X.1.1, .ref (c0 + 0), .ref (c0 + 16), .int 0] [.int (if X.1.2.2 3 < 1 then (-1 : Int32) else if X.1.2.2 3 ≤ 8 then X.1.2.2 3 else -1), .int (if X.1.2.2 3 < 1 then (-1 : Int32) else if X.1.2.2 3 ≤ 8 then X.1.2.2 3 else -1)] σ2 τ2 _
  refine Rx.go (fun _ => rfl) ?_
  refine Rx.ite (fun c1 => ?_) (fun c1 => ?_)
  · replace c1 : (if X.1.2.2 3 < 1 then (-1 : Int32) else if X.1.2.2 3 ≤ 8 then X.1.2.2 3 else -1) = (if X.1.2.2 3 < 1 then (-1 : Int32) else if X.1.2.2 3 ≤ 8 then X.1.2.2 3 else -1) := of_decide_eq_true c1
    show Rx X c0 m_Law_law 608 [.ref X.1.1, .ref (c0 + 0), .ref (c0 + 16), .int 0] [] σ2 τ2 _
    show Rx X c0 m_Law_law 608 [.ref X.1.1, .ref (c0 + 0), .ref (c0 + 16), .int 0] [] σ2 τ2 _
    exact law_rt hX h4
  · replace c1 : ¬ (if X.1.2.2 3 < 1 then (-1 : Int32) else if X.1.2.2 3 ≤ 8 then X.1.2.2 3 else -1) = (if X.1.2.2 3 < 1 then (-1 : Int32) else if X.1.2.2 3 ≤ 8 then X.1.2.2 3 else -1) := of_decide_eq_false c1
    exact absurd rfl c1
set_option maxRecDepth 100000 in
set_option maxHeartbeats 1000000 in
theorem law_c1 {X : ev_X} {c0 z : Nat} (hX : X.1.1 < c0) (h4 : X.1.2.1 = 4) : Ex X 157 179 [.ref X.1.1, .ref (c0 + 0), .ref (c0 + 16), .int 0] [] (hp c0 26 z (fz c0)) (LQ c0 z) := by
  refine Ex.nx rfl ?_
  refine Hx.callX 0 rfl rfl rfl rfl rfl (p_read) ?_
  rintro v h1 ⟨n1, z1, F1, rfl, e1, e2, e3, rfl⟩
  refine law_rx e1 e2 e3 ?_
  show Rx X c0 m_Law_law 183 [.ref X.1.1, .ref (c0 + 0), .ref (c0 + 16), .int 0] [.int (-101)] s0 t0 _
  refine Rx.go (fun _ => rfl) ?_
  refine Rx.call rfl rfl rfl rfl (rx_read0 X c0) ?_
  rintro z σ2 τ2 rfl
  show Rx X c0 m_Law_law 187 [.ref X.1.1, .ref (c0 + 0), .ref (c0 + 16), .int 0] [.int (-101), .int (-101)] σ2 τ2 _
  refine Rx.go (fun _ => rfl) ?_
  show Rx X c0 m_Law_law 608 [.ref X.1.1, .ref (c0 + 0), .ref (c0 + 16), .int 0] [] σ2 τ2 _
  show Rx X c0 m_Law_law 608 [.ref X.1.1, .ref (c0 + 0), .ref (c0 + 16), .int 0] [] σ2 τ2 _
  exact law_rt hX h4
set_option maxRecDepth 100000 in
set_option maxHeartbeats 1000000 in
theorem law_c2 {X : ev_X} {c0 z : Nat} (hX : X.1.1 < c0) (h4 : X.1.2.1 = 4) : Ex X 157 192 [.ref X.1.1, .ref (c0 + 0), .ref (c0 + 16), .int 0] [] (hp c0 26 z (fz c0)) (LQ c0 z) := by
  refine Ex.nx rfl ?_
  refine Hx.callX 0 rfl rfl rfl rfl rfl (p_find) ?_
  rintro v h1 ⟨n1, z1, F1, rfl, e1, e2, e3, rfl⟩
  refine law_rx e1 e2 e3 ?_
  show Rx X c0 m_Law_law 196 [.ref X.1.1, .ref (c0 + 0), .ref (c0 + 16), .int 0] [.int (-101)] s0 t0 _
  refine Rx.go (fun _ => rfl) ?_
  refine Rx.call rfl rfl rfl rfl (rx_find0 X c0) ?_
  rintro z σ2 τ2 rfl
  show Rx X c0 m_Law_law 200 [.ref X.1.1, .ref (c0 + 0), .ref (c0 + 16), .int 0] [.int (-101), .int (-101)] σ2 τ2 _
  refine Rx.go (fun _ => rfl) ?_
  show Rx X c0 m_Law_law 608 [.ref X.1.1, .ref (c0 + 0), .ref (c0 + 16), .int 0] [] σ2 τ2 _
  show Rx X c0 m_Law_law 608 [.ref X.1.1, .ref (c0 + 0), .ref (c0 + 16), .int 0] [] σ2 τ2 _
  exact law_rt hX h4
set_option maxRecDepth 100000 in
set_option maxHeartbeats 1000000 in
theorem law_c3 {X : ev_X} {c0 z : Nat} (hX : X.1.1 < c0) (h4 : X.1.2.1 = 4) : Ex X 157 205 [.ref X.1.1, .ref (c0 + 0), .ref (c0 + 16), .int 0] [] (hp c0 26 z (fz c0)) (LQ c0 z) := by
  refine Ex.nx rfl ?_
  refine Hx.callX 0 rfl rfl rfl rfl rfl (p_place) ?_
  rintro v h1 ⟨n1, z1, F1, rfl, e1, e2, e3, rfl⟩
  refine law_rx e1 e2 e3 ?_
  show Rx X c0 m_Law_law 209 [.ref X.1.1, .ref (c0 + 0), .ref (c0 + 16), .int 0] [.int 0] s0 t0 _
  refine Rx.go (fun _ => rfl) ?_
  refine Rx.callE rfl rfl rfl rfl (rx_place X c0 s0 t0) ?_
  show Rx X c0 m_Law_law 213 [.ref X.1.1, .ref (c0 + 0), .ref (c0 + 16), .int 0] [.int 0, .int 0] s0 t0 _
  refine Rx.go (fun _ => rfl) ?_
  show Rx X c0 m_Law_law 608 [.ref X.1.1, .ref (c0 + 0), .ref (c0 + 16), .int 0] [] s0 t0 _
  show Rx X c0 m_Law_law 608 [.ref X.1.1, .ref (c0 + 0), .ref (c0 + 16), .int 0] [] s0 t0 _
  exact law_rt hX h4
set_option maxRecDepth 100000 in
set_option maxHeartbeats 1000000 in
theorem law_c4 {X : ev_X} {c0 z : Nat} (hX : X.1.1 < c0) (h4 : X.1.2.1 = 4) : Ex X 157 218 [.ref X.1.1, .ref (c0 + 0), .ref (c0 + 16), .int 0] [] (hp c0 26 z (fz c0)) (LQ c0 z) := by
  refine Ex.nx rfl ?_
  refine Ex.nx rfl ?_
  refine Ex.nx rfl ?_
  refine Ex.nx rfl ?_
  refine Ex.nx rfl ?_
  show Ex X m_Law_law 223 [.ref X.1.1, .ref (c0 + 0), .ref (c0 + 16), .int 0] [.int 1, .ref X.1.1, .ref (c0 + 0)] (hp c0 26 _ _) _
  refine Hx.sald rfl (hp_lo hX) (by rw [h4]; decide) ?_
  refine Ex.nx rfl ?_
  refine Ex.nx rfl ?_
  refine Ex.nx rfl ?_
  refine Ex.nx rfl ?_
  refine Ex.nx rfl ?_
  refine Ex.nx rfl ?_
  refine Ex.nx rfl ?_
  show Ex X m_Law_law 232 [.ref X.1.1, .ref (c0 + 0), .ref (c0 + 16), .int 0] [.int 2, .ref X.1.1, .long (((X.1.2.2 1).toInt64) <<< ((32 : Int32).toInt64 &&& 63)), .ref (c0 + 0)] (hp c0 26 _ _) _
  refine Hx.sald rfl (hp_lo hX) (by rw [h4]; decide) ?_
  refine Ex.nx rfl ?_
  refine Ex.nx rfl ?_
  refine Ex.nx rfl ?_
  refine Ex.nx rfl ?_
  refine Hx.callX 0 rfl rfl rfl rfl rfl (p_whole _) ?_
  rintro v h1 ⟨n1, z1, F1, rfl, e1, e2, e3, rfl⟩
  refine law_rx e1 e2 e3 ?_
  show Rx X c0 m_Law_law 242 [.ref X.1.1, .ref (c0 + 0), .ref (c0 + 16), .int 0] [.int (if few (((X.1.2.2 1).toInt64 <<< ((32 : Int32).toInt64 &&& 63)) ||| ((X.1.2.2 2).toInt64 &&& 4294967295)) = true then (1 : Int32) else -1)] s0 t0 _
  refine Rx.go (fun _ => rfl) ?_
  refine Rx.go (fun _ => rfl) ?_
  refine Rx.go (fun _ => rfl) ?_
  refine Rx.go (fun _ => rfl) ?_
  refine Rx.go (fun _ => rfl) ?_
  refine Rx.sald rfl hX (by rw [h4]; decide) ?_
  refine Rx.go (fun _ => rfl) ?_
  refine Rx.go (fun _ => rfl) ?_
  refine Rx.go (fun _ => rfl) ?_
  refine Rx.go (fun _ => rfl) ?_
  refine Rx.go (fun _ => rfl) ?_
  refine Rx.go (fun _ => rfl) ?_
  refine Rx.go (fun _ => rfl) ?_
  refine Rx.sald rfl hX (by rw [h4]; decide) ?_
  refine Rx.go (fun _ => rfl) ?_
  refine Rx.go (fun _ => rfl) ?_
  refine Rx.go (fun _ => rfl) ?_
  refine Rx.go (fun _ => rfl) ?_
  refine Rx.call rfl rfl rfl rfl (rx_whole0 X c0 _ rt0 rfl) ?_
  rintro z σ2 τ2 rfl
  show Rx X c0 m_Law_law 266 [.ref X.1.1, .ref (c0 + 0), .ref (c0 + 16), .int 0] [.int (if few (((X.1.2.2 1).toInt64 <<< ((32 : Int32).toInt64 &&& 63)) ||| ((X.1.2.2 2).toInt64 &&& 4294967295)) = true then (1 : Int32) else -1), .int (if few (((X.1.2.2 1).toInt64 <<< ((32 : Int32).toInt64 &&& 63)) ||| ((X.1.2.2 2).toInt64 &&& 4294967295)) = true then (1 : Int32) else -1)] σ2 τ2 _
  refine Rx.go (fun _ => rfl) ?_
  refine Rx.ite (fun c1 => ?_) (fun c1 => ?_)
  · replace c1 : (if few (((X.1.2.2 1).toInt64 <<< ((32 : Int32).toInt64 &&& 63)) ||| ((X.1.2.2 2).toInt64 &&& 4294967295)) = true then (1 : Int32) else -1) = (if few (((X.1.2.2 1).toInt64 <<< ((32 : Int32).toInt64 &&& 63)) ||| ((X.1.2.2 2).toInt64 &&& 4294967295)) = true then (1 : Int32) else -1) := of_decide_eq_true c1
    show Rx X c0 m_Law_law 608 [.ref X.1.1, .ref (c0 + 0), .ref (c0 + 16), .int 0] [] σ2 τ2 _
    show Rx X c0 m_Law_law 608 [.ref X.1.1, .ref (c0 + 0), .ref (c0 + 16), .int 0] [] σ2 τ2 _
    exact law_rt hX h4
  · replace c1 : ¬ (if few (((X.1.2.2 1).toInt64 <<< ((32 : Int32).toInt64 &&& 63)) ||| ((X.1.2.2 2).toInt64 &&& 4294967295)) = true then (1 : Int32) else -1) = (if few (((X.1.2.2 1).toInt64 <<< ((32 : Int32).toInt64 &&& 63)) ||| ((X.1.2.2 2).toInt64 &&& 4294967295)) = true then (1 : Int32) else -1) := of_decide_eq_false c1
    exact absurd rfl c1
set_option maxRecDepth 100000 in
set_option maxHeartbeats 1000000 in
theorem law_c5 {X : ev_X} {c0 z : Nat} (hX : X.1.1 < c0) (h4 : X.1.2.1 = 4) : Ex X 157 271 [.ref X.1.1, .ref (c0 + 0), .ref (c0 + 16), .int 0] [] (hp c0 26 z (fz c0)) (LQ c0 z) := by
  refine Ex.nx rfl ?_
  refine Ex.nx rfl ?_
  refine Ex.nx rfl ?_
  refine Ex.nx rfl ?_
  refine Ex.nx rfl ?_
  show Ex X m_Law_law 276 [.ref X.1.1, .ref (c0 + 0), .ref (c0 + 16), .int 0] [.int 1, .ref X.1.1, .ref (c0 + 0)] (hp c0 26 _ _) _
  refine Hx.sald rfl (hp_lo hX) (by rw [h4]; decide) ?_
  refine Ex.nx rfl ?_
  refine Ex.nx rfl ?_
  refine Ex.nx rfl ?_
  refine Ex.nx rfl ?_
  refine Ex.nx rfl ?_
  refine Ex.nx rfl ?_
  refine Ex.nx rfl ?_
  show Ex X m_Law_law 285 [.ref X.1.1, .ref (c0 + 0), .ref (c0 + 16), .int 0] [.int 2, .ref X.1.1, .long (((X.1.2.2 1).toInt64) <<< ((32 : Int32).toInt64 &&& 63)), .ref (c0 + 0)] (hp c0 26 _ _) _
  refine Hx.sald rfl (hp_lo hX) (by rw [h4]; decide) ?_
  refine Ex.nx rfl ?_
  refine Ex.nx rfl ?_
  refine Ex.nx rfl ?_
  refine Ex.nx rfl ?_
  refine Ex.nx rfl ?_
  refine Ex.nx rfl ?_
  refine Ex.nx rfl ?_
  refine Ex.nx rfl ?_
  show Ex X m_Law_law 296 [.ref X.1.1, .ref (c0 + 0), .ref (c0 + 16), .int 0] [.int 3, .ref X.1.1, .long ((((X.1.2.2 1).toInt64) <<< ((32 : Int32).toInt64 &&& 63)) ||| (((X.1.2.2 2).toInt64) &&& 4294967295)), .ref (c0 + 0)] (hp c0 26 _ _) _
  refine Hx.sald rfl (hp_lo hX) (by rw [h4]; decide) ?_
  refine Hx.callX 0 rfl rfl rfl rfl rfl (p_decimal _ _) ?_
  rintro v h1 ⟨n1, z1, F1, rfl, e1, e2, e3, rfl⟩
  refine law_rx e1 e2 e3 ?_
  show Rx X c0 m_Law_law 300 [.ref X.1.1, .ref (c0 + 0), .ref (c0 + 16), .int 0] [.int (if X.1.2.2 3 < 0 then (-1 : Int32) else if 9 < X.1.2.2 3 then -1 else if few (((X.1.2.2 1).toInt64 <<< ((32 : Int32).toInt64 &&& 63)) ||| ((X.1.2.2 2).toInt64 &&& 4294967295)) = true then 1 else -1)] s0 t0 _
  refine Rx.go (fun _ => rfl) ?_
  refine Rx.go (fun _ => rfl) ?_
  refine Rx.go (fun _ => rfl) ?_
  refine Rx.go (fun _ => rfl) ?_
  refine Rx.go (fun _ => rfl) ?_
  refine Rx.sald rfl hX (by rw [h4]; decide) ?_
  refine Rx.go (fun _ => rfl) ?_
  refine Rx.go (fun _ => rfl) ?_
  refine Rx.go (fun _ => rfl) ?_
  refine Rx.go (fun _ => rfl) ?_
  refine Rx.go (fun _ => rfl) ?_
  refine Rx.go (fun _ => rfl) ?_
  refine Rx.go (fun _ => rfl) ?_
  refine Rx.sald rfl hX (by rw [h4]; decide) ?_
  refine Rx.go (fun _ => rfl) ?_
  refine Rx.go (fun _ => rfl) ?_
  refine Rx.go (fun _ => rfl) ?_
  refine Rx.go (fun _ => rfl) ?_
  refine Rx.go (fun _ => rfl) ?_
  refine Rx.go (fun _ => rfl) ?_
  refine Rx.go (fun _ => rfl) ?_
  refine Rx.go (fun _ => rfl) ?_
  refine Rx.sald rfl hX (by rw [h4]; decide) ?_
  refine Rx.call rfl rfl rfl rfl (rx_decimal0 X c0 _ _ rt0 rfl) ?_
  rintro z σ2 τ2 rfl
  show Rx X c0 m_Law_law 329 [.ref X.1.1, .ref (c0 + 0), .ref (c0 + 16), .int 0] [.int (if X.1.2.2 3 < 0 then (-1 : Int32) else if 9 < X.1.2.2 3 then -1 else if few (((X.1.2.2 1).toInt64 <<< ((32 : Int32).toInt64 &&& 63)) ||| ((X.1.2.2 2).toInt64 &&& 4294967295)) = true then 1 else -1), .int (if X.1.2.2 3 < 0 then (-1 : Int32) else if 9 < X.1.2.2 3 then -1 else if few (((X.1.2.2 1).toInt64 <<< ((32 : Int32).toInt64 &&& 63)) ||| ((X.1.2.2 2).toInt64 &&& 4294967295)) = true then 1 else -1)] σ2 τ2 _
  refine Rx.go (fun _ => rfl) ?_
  refine Rx.ite (fun c1 => ?_) (fun c1 => ?_)
  · replace c1 : (if X.1.2.2 3 < 0 then (-1 : Int32) else if 9 < X.1.2.2 3 then -1 else if few (((X.1.2.2 1).toInt64 <<< ((32 : Int32).toInt64 &&& 63)) ||| ((X.1.2.2 2).toInt64 &&& 4294967295)) = true then 1 else -1) = (if X.1.2.2 3 < 0 then (-1 : Int32) else if 9 < X.1.2.2 3 then -1 else if few (((X.1.2.2 1).toInt64 <<< ((32 : Int32).toInt64 &&& 63)) ||| ((X.1.2.2 2).toInt64 &&& 4294967295)) = true then 1 else -1) := of_decide_eq_true c1
    show Rx X c0 m_Law_law 608 [.ref X.1.1, .ref (c0 + 0), .ref (c0 + 16), .int 0] [] σ2 τ2 _
    show Rx X c0 m_Law_law 608 [.ref X.1.1, .ref (c0 + 0), .ref (c0 + 16), .int 0] [] σ2 τ2 _
    exact law_rt hX h4
  · replace c1 : ¬ (if X.1.2.2 3 < 0 then (-1 : Int32) else if 9 < X.1.2.2 3 then -1 else if few (((X.1.2.2 1).toInt64 <<< ((32 : Int32).toInt64 &&& 63)) ||| ((X.1.2.2 2).toInt64 &&& 4294967295)) = true then 1 else -1) = (if X.1.2.2 3 < 0 then (-1 : Int32) else if 9 < X.1.2.2 3 then -1 else if few (((X.1.2.2 1).toInt64 <<< ((32 : Int32).toInt64 &&& 63)) ||| ((X.1.2.2 2).toInt64 &&& 4294967295)) = true then 1 else -1) := of_decide_eq_false c1
    exact absurd rfl c1
set_option maxRecDepth 100000 in
set_option maxHeartbeats 1000000 in
theorem law_c6 {X : ev_X} {c0 z : Nat} (hX : X.1.1 < c0) (h4 : X.1.2.1 = 4) : Ex X 157 334 [.ref X.1.1, .ref (c0 + 0), .ref (c0 + 16), .int 0] [] (hp c0 26 z (fz c0)) (LQ c0 z) := by
  refine Ex.nx rfl ?_
  refine Hx.callX 0 rfl rfl rfl rfl rfl (p_count) ?_
  rintro v h1 ⟨n1, z1, F1, rfl, e1, e2, e3, rfl⟩
  refine law_rx e1 e2 e3 ?_
  show Rx X c0 m_Law_law 338 [.ref X.1.1, .ref (c0 + 0), .ref (c0 + 16), .int 0] [.int 0] s0 t0 _
  refine Rx.go (fun _ => rfl) ?_
  refine Rx.callE rfl rfl rfl rfl (rx_count X c0 s0 t0) ?_
  show Rx X c0 m_Law_law 342 [.ref X.1.1, .ref (c0 + 0), .ref (c0 + 16), .int 0] [.int 0, .int 0] s0 t0 _
  refine Rx.go (fun _ => rfl) ?_
  show Rx X c0 m_Law_law 608 [.ref X.1.1, .ref (c0 + 0), .ref (c0 + 16), .int 0] [] s0 t0 _
  show Rx X c0 m_Law_law 608 [.ref X.1.1, .ref (c0 + 0), .ref (c0 + 16), .int 0] [] s0 t0 _
  exact law_rt hX h4
set_option maxRecDepth 100000 in
set_option maxHeartbeats 1000000 in
theorem law_c7 {X : ev_X} {c0 z : Nat} (hX : X.1.1 < c0) (h4 : X.1.2.1 = 4) : Ex X 157 347 [.ref X.1.1, .ref (c0 + 0), .ref (c0 + 16), .int 0] [] (hp c0 26 z (fz c0)) (LQ c0 z) := by
  refine Ex.nx rfl ?_
  refine Hx.callX 0 rfl rfl rfl rfl rfl (p_used) ?_
  rintro v h1 ⟨n1, z1, F1, rfl, e1, e2, e3, rfl⟩
  refine law_rx e1 e2 e3 ?_
  show Rx X c0 m_Law_law 351 [.ref X.1.1, .ref (c0 + 0), .ref (c0 + 16), .int 0] [.int 0] s0 t0 _
  refine Rx.go (fun _ => rfl) ?_
  refine Rx.callE rfl rfl rfl rfl (rx_used X c0 s0 t0) ?_
  show Rx X c0 m_Law_law 355 [.ref X.1.1, .ref (c0 + 0), .ref (c0 + 16), .int 0] [.int 0, .int 0] s0 t0 _
  refine Rx.go (fun _ => rfl) ?_
  show Rx X c0 m_Law_law 608 [.ref X.1.1, .ref (c0 + 0), .ref (c0 + 16), .int 0] [] s0 t0 _
  show Rx X c0 m_Law_law 608 [.ref X.1.1, .ref (c0 + 0), .ref (c0 + 16), .int 0] [] s0 t0 _
  exact law_rt hX h4
set_option maxRecDepth 100000 in
set_option maxHeartbeats 1000000 in
theorem law_c8 {X : ev_X} {c0 z : Nat} (hX : X.1.1 < c0) (h4 : X.1.2.1 = 4) : Ex X 157 360 [.ref X.1.1, .ref (c0 + 0), .ref (c0 + 16), .int 0] [] (hp c0 26 z (fz c0)) (LQ c0 z) := by
  refine Ex.nx rfl ?_
  refine Ex.nx rfl ?_
  refine Ex.nx rfl ?_
  refine Ex.nx rfl ?_
  refine Ex.nx rfl ?_
  show Ex X m_Law_law 365 [.ref X.1.1, .ref (c0 + 0), .ref (c0 + 16), .int 0] [.int 1, .ref X.1.1, .ref (c0 + 0)] (hp c0 26 _ _) _
  refine Hx.sald rfl (hp_lo hX) (by rw [h4]; decide) ?_
  refine Hx.callX 0 rfl rfl rfl rfl rfl (p_kind _) ?_
  rintro v h1 ⟨n1, z1, F1, rfl, e1, e2, e3, rfl⟩
  refine law_rx e1 e2 e3 ?_
  show Rx X c0 m_Law_law 369 [.ref X.1.1, .ref (c0 + 0), .ref (c0 + 16), .int 0] [.int (-1)] s0 t0 _
  refine Rx.go (fun _ => rfl) ?_
  refine Rx.go (fun _ => rfl) ?_
  refine Rx.go (fun _ => rfl) ?_
  refine Rx.go (fun _ => rfl) ?_
  refine Rx.go (fun _ => rfl) ?_
  refine Rx.sald rfl hX (by rw [h4]; decide) ?_
  refine Rx.callE rfl rfl rfl rfl (rx_kind_no X c0 s0 t0 _ (noT0 _)) ?_
  show Rx X c0 m_Law_law 378 [.ref X.1.1, .ref (c0 + 0), .ref (c0 + 16), .int 0] [.int (-1), .int (-1)] s0 t0 _
  refine Rx.go (fun _ => rfl) ?_
  show Rx X c0 m_Law_law 608 [.ref X.1.1, .ref (c0 + 0), .ref (c0 + 16), .int 0] [] s0 t0 _
  show Rx X c0 m_Law_law 608 [.ref X.1.1, .ref (c0 + 0), .ref (c0 + 16), .int 0] [] s0 t0 _
  exact law_rt hX h4
set_option maxRecDepth 100000 in
set_option maxHeartbeats 1000000 in
theorem law_c9 {X : ev_X} {c0 z : Nat} (hX : X.1.1 < c0) (h4 : X.1.2.1 = 4) : Ex X 157 383 [.ref X.1.1, .ref (c0 + 0), .ref (c0 + 16), .int 0] [] (hp c0 26 z (fz c0)) (LQ c0 z) := by
  refine Ex.nx rfl ?_
  refine Ex.nx rfl ?_
  refine Ex.nx rfl ?_
  refine Ex.nx rfl ?_
  refine Ex.nx rfl ?_
  show Ex X m_Law_law 388 [.ref X.1.1, .ref (c0 + 0), .ref (c0 + 16), .int 0] [.int 1, .ref X.1.1, .ref (c0 + 0)] (hp c0 26 _ _) _
  refine Hx.sald rfl (hp_lo hX) (by rw [h4]; decide) ?_
  refine Hx.callX 0 rfl rfl rfl rfl rfl (p_value _) ?_
  rintro v h1 ⟨n1, z1, F1, rfl, e1, e2, e3, rfl⟩
  refine law_rx e1 e2 e3 ?_
  show Rx X c0 m_Law_law 392 [.ref X.1.1, .ref (c0 + 0), .ref (c0 + 16), .int 0] [.long 0] s0 t0 _
  refine Rx.go (fun _ => rfl) ?_
  refine Rx.go (fun _ => rfl) ?_
  refine Rx.go (fun _ => rfl) ?_
  refine Rx.go (fun _ => rfl) ?_
  refine Rx.go (fun _ => rfl) ?_
  refine Rx.sald rfl hX (by rw [h4]; decide) ?_
  refine Rx.callE rfl rfl rfl rfl (rx_value_no X c0 s0 t0 _ (noT0 _)) ?_
  show Rx X c0 m_Law_law 401 [.ref X.1.1, .ref (c0 + 0), .ref (c0 + 16), .int 0] [.long 0, .long 0] s0 t0 _
  refine Rx.go (fun _ => rfl) ?_
  refine Rx.go (fun _ => rfl) ?_
  refine Rx.ite (fun c1 => ?_) (fun c1 => ?_)
  · replace c1 : (lg_cmp 0 0) = 0 := of_decide_eq_true c1
    show Rx X c0 m_Law_law 608 [.ref X.1.1, .ref (c0 + 0), .ref (c0 + 16), .int 0] [] s0 t0 _
    show Rx X c0 m_Law_law 608 [.ref X.1.1, .ref (c0 + 0), .ref (c0 + 16), .int 0] [] s0 t0 _
    exact law_rt hX h4
  · replace c1 : ¬ (lg_cmp 0 0) = 0 := of_decide_eq_false c1
    exact absurd rfl c1
set_option maxRecDepth 100000 in
set_option maxHeartbeats 1000000 in
theorem law_c10 {X : ev_X} {c0 z : Nat} (hX : X.1.1 < c0) (h4 : X.1.2.1 = 4) : Ex X 157 407 [.ref X.1.1, .ref (c0 + 0), .ref (c0 + 16), .int 0] [] (hp c0 26 z (fz c0)) (LQ c0 z) := by
  refine Ex.nx rfl ?_
  refine Ex.nx rfl ?_
  refine Ex.nx rfl ?_
  refine Ex.nx rfl ?_
  refine Ex.nx rfl ?_
  show Ex X m_Law_law 412 [.ref X.1.1, .ref (c0 + 0), .ref (c0 + 16), .int 0] [.int 1, .ref X.1.1, .ref (c0 + 0)] (hp c0 26 _ _) _
  refine Hx.sald rfl (hp_lo hX) (by rw [h4]; decide) ?_
  refine Hx.callX 0 rfl rfl rfl rfl rfl (p_scale _) ?_
  rintro v h1 ⟨n1, z1, F1, rfl, e1, e2, e3, rfl⟩
  refine law_rx e1 e2 e3 ?_
  show Rx X c0 m_Law_law 416 [.ref X.1.1, .ref (c0 + 0), .ref (c0 + 16), .int 0] [.int (-1)] s0 t0 _
  refine Rx.go (fun _ => rfl) ?_
  refine Rx.go (fun _ => rfl) ?_
  refine Rx.go (fun _ => rfl) ?_
  refine Rx.go (fun _ => rfl) ?_
  refine Rx.go (fun _ => rfl) ?_
  refine Rx.sald rfl hX (by rw [h4]; decide) ?_
  refine Rx.callE rfl rfl rfl rfl (rx_scale_no X c0 s0 t0 _ (noT0 _)) ?_
  show Rx X c0 m_Law_law 425 [.ref X.1.1, .ref (c0 + 0), .ref (c0 + 16), .int 0] [.int (-1), .int (-1)] s0 t0 _
  refine Rx.go (fun _ => rfl) ?_
  show Rx X c0 m_Law_law 608 [.ref X.1.1, .ref (c0 + 0), .ref (c0 + 16), .int 0] [] s0 t0 _
  show Rx X c0 m_Law_law 608 [.ref X.1.1, .ref (c0 + 0), .ref (c0 + 16), .int 0] [] s0 t0 _
  exact law_rt hX h4
set_option maxRecDepth 100000 in
set_option maxHeartbeats 1000000 in
theorem law_c11 {X : ev_X} {c0 z : Nat} (hX : X.1.1 < c0) (h4 : X.1.2.1 = 4) : Ex X 157 430 [.ref X.1.1, .ref (c0 + 0), .ref (c0 + 16), .int 0] [] (hp c0 26 z (fz c0)) (LQ c0 z) := by
  refine Ex.nx rfl ?_
  refine Ex.nx rfl ?_
  refine Ex.nx rfl ?_
  refine Ex.nx rfl ?_
  refine Ex.nx rfl ?_
  show Ex X m_Law_law 435 [.ref X.1.1, .ref (c0 + 0), .ref (c0 + 16), .int 0] [.int 1, .ref X.1.1, .ref (c0 + 0)] (hp c0 26 _ _) _
  refine Hx.sald rfl (hp_lo hX) (by rw [h4]; decide) ?_
  refine Hx.callX 0 rfl rfl rfl rfl rfl (p_write _) ?_
  rintro v h1 ⟨n1, z1, F1, rfl, e1, e2, e3, rfl⟩
  refine law_rx e1 e2 e3 ?_
  show Rx X c0 m_Law_law 439 [.ref X.1.1, .ref (c0 + 0), .ref (c0 + 16), .int 0] [.int (-1)] s0 t0 _
  refine Rx.go (fun _ => rfl) ?_
  refine Rx.go (fun _ => rfl) ?_
  refine Rx.go (fun _ => rfl) ?_
  refine Rx.go (fun _ => rfl) ?_
  refine Rx.go (fun _ => rfl) ?_
  refine Rx.sald rfl hX (by rw [h4]; decide) ?_
  refine Rx.callE rfl rfl rfl rfl (rx_write_no X c0 s0 t0 _ (noT0 _)) ?_
  show Rx X c0 m_Law_law 448 [.ref X.1.1, .ref (c0 + 0), .ref (c0 + 16), .int 0] [.int (-1), .int (-1)] s0 t0 _
  refine Rx.go (fun _ => rfl) ?_
  show Rx X c0 m_Law_law 608 [.ref X.1.1, .ref (c0 + 0), .ref (c0 + 16), .int 0] [] s0 t0 _
  show Rx X c0 m_Law_law 608 [.ref X.1.1, .ref (c0 + 0), .ref (c0 + 16), .int 0] [] s0 t0 _
  exact law_rt hX h4
set_option maxRecDepth 100000 in
set_option maxHeartbeats 1000000 in
theorem law_c12 {X : ev_X} {c0 z : Nat} (hX : X.1.1 < c0) (h4 : X.1.2.1 = 4) : Ex X 157 453 [.ref X.1.1, .ref (c0 + 0), .ref (c0 + 16), .int 0] [] (hp c0 26 z (fz c0)) (LQ c0 z) := by
  refine Ex.nx rfl ?_
  refine Ex.nx rfl ?_
  refine Ex.nx rfl ?_
  refine Ex.nx rfl ?_
  refine Ex.nx rfl ?_
  show Ex X m_Law_law 458 [.ref X.1.1, .ref (c0 + 0), .ref (c0 + 16), .int 0] [.int 1, .ref X.1.1, .ref (c0 + 0)] (hp c0 26 _ _) _
  refine Hx.sald rfl (hp_lo hX) (by rw [h4]; decide) ?_
  refine Hx.callX 0 rfl rfl rfl rfl rfl (p_written _) ?_
  rintro v h1 ⟨n1, z1, F1, rfl, e1, e2, e3, rfl⟩
  refine law_rx e1 e2 e3 ?_
  show Rx X c0 m_Law_law 462 [.ref X.1.1, .ref (c0 + 0), .ref (c0 + 16), .int 0] [.int (-1)] s0 t0 _
  refine Rx.go (fun _ => rfl) ?_
  refine Rx.go (fun _ => rfl) ?_
  refine Rx.go (fun _ => rfl) ?_
  refine Rx.go (fun _ => rfl) ?_
  refine Rx.go (fun _ => rfl) ?_
  refine Rx.sald rfl hX (by rw [h4]; decide) ?_
  refine Rx.callE rfl rfl rfl rfl (rx_written X c0 s0 t0 shw0 _) ?_
  refine Rx.top (y := -1) (wat0 _) ?_
  show Rx X c0 m_Law_law 471 [.ref X.1.1, .ref (c0 + 0), .ref (c0 + 16), .int 0] [.int (-1), .int (-1)] s0 t0 _
  refine Rx.go (fun _ => rfl) ?_
  show Rx X c0 m_Law_law 608 [.ref X.1.1, .ref (c0 + 0), .ref (c0 + 16), .int 0] [] s0 t0 _
  show Rx X c0 m_Law_law 608 [.ref X.1.1, .ref (c0 + 0), .ref (c0 + 16), .int 0] [] s0 t0 _
  exact law_rt hX h4
set_option maxRecDepth 100000 in
set_option maxHeartbeats 1000000 in
theorem law_c13 {X : ev_X} {c0 z : Nat} (hX : X.1.1 < c0) (h4 : X.1.2.1 = 4) : Ex X 157 476 [.ref X.1.1, .ref (c0 + 0), .ref (c0 + 16), .int 0] [] (hp c0 26 z (fz c0)) (LQ c0 z) := by
  refine Ex.nx rfl ?_
  refine Ex.nx rfl ?_
  refine Ex.nx rfl ?_
  refine Ex.nx rfl ?_
  refine Ex.nx rfl ?_
  show Ex X m_Law_law 481 [.ref X.1.1, .ref (c0 + 0), .ref (c0 + 16), .int 0] [.int 1, .ref X.1.1, .ref (c0 + 0)] (hp c0 26 _ _) _
  refine Hx.sald rfl (hp_lo hX) (by rw [h4]; decide) ?_
  refine Ex.nx rfl ?_
  refine Ex.nx rfl ?_
  refine Ex.nx rfl ?_
  refine Ex.nx rfl ?_
  show Ex X m_Law_law 486 [.ref X.1.1, .ref (c0 + 0), .ref (c0 + 16), .int 0] [.int 2, .ref X.1.1, .int (X.1.2.2 1), .ref (c0 + 0)] (hp c0 26 _ _) _
  refine Hx.sald rfl (hp_lo hX) (by rw [h4]; decide) ?_
  refine Hx.callX 0 rfl rfl rfl rfl rfl (p_part _ _) ?_
  rintro v h1 ⟨n1, z1, F1, rfl, e1, e2, e3, rfl⟩
  refine law_rx e1 e2 e3 ?_
  show Rx X c0 m_Law_law 490 [.ref X.1.1, .ref (c0 + 0), .ref (c0 + 16), .int 0] [.int (-1)] s0 t0 _
  refine Rx.go (fun _ => rfl) ?_
  refine Rx.go (fun _ => rfl) ?_
  refine Rx.go (fun _ => rfl) ?_
  refine Rx.go (fun _ => rfl) ?_
  refine Rx.go (fun _ => rfl) ?_
  refine Rx.sald rfl hX (by rw [h4]; decide) ?_
  refine Rx.go (fun _ => rfl) ?_
  refine Rx.go (fun _ => rfl) ?_
  refine Rx.go (fun _ => rfl) ?_
  refine Rx.go (fun _ => rfl) ?_
  refine Rx.sald rfl hX (by rw [h4]; decide) ?_
  refine Rx.callE rfl rfl rfl rfl (rx_part_no X c0 s0 t0 _ (noT0 _) _) ?_
  show Rx X c0 m_Law_law 504 [.ref X.1.1, .ref (c0 + 0), .ref (c0 + 16), .int 0] [.int (-1), .int (-1)] s0 t0 _
  refine Rx.go (fun _ => rfl) ?_
  show Rx X c0 m_Law_law 608 [.ref X.1.1, .ref (c0 + 0), .ref (c0 + 16), .int 0] [] s0 t0 _
  show Rx X c0 m_Law_law 608 [.ref X.1.1, .ref (c0 + 0), .ref (c0 + 16), .int 0] [] s0 t0 _
  exact law_rt hX h4
set_option maxRecDepth 100000 in
set_option maxHeartbeats 1000000 in
theorem law_c14 {X : ev_X} {c0 z : Nat} (hX : X.1.1 < c0) (h4 : X.1.2.1 = 4) : Ex X 157 509 [.ref X.1.1, .ref (c0 + 0), .ref (c0 + 16), .int 0] [] (hp c0 26 z (fz c0)) (LQ c0 z) := by
  refine Ex.nx rfl ?_
  refine Ex.nx rfl ?_
  refine Ex.nx rfl ?_
  refine Ex.nx rfl ?_
  refine Ex.nx rfl ?_
  show Ex X m_Law_law 514 [.ref X.1.1, .ref (c0 + 0), .ref (c0 + 16), .int 0] [.int 1, .ref X.1.1, .ref (c0 + 0)] (hp c0 26 _ _) _
  refine Hx.sald rfl (hp_lo hX) (by rw [h4]; decide) ?_
  refine Ex.nx rfl ?_
  refine Ex.nx rfl ?_
  refine Ex.nx rfl ?_
  refine Ex.nx rfl ?_
  show Ex X m_Law_law 519 [.ref X.1.1, .ref (c0 + 0), .ref (c0 + 16), .int 0] [.int 2, .ref X.1.1, .int (X.1.2.2 1), .ref (c0 + 0)] (hp c0 26 _ _) _
  refine Hx.sald rfl (hp_lo hX) (by rw [h4]; decide) ?_
  refine Hx.callX 0 rfl rfl rfl rfl rfl (p_order _ _) ?_
  rintro v h1 ⟨n1, z1, F1, rfl, e1, e2, e3, rfl⟩
  refine law_rx e1 e2 e3 ?_
  show Rx X c0 m_Law_law 523 [.ref X.1.1, .ref (c0 + 0), .ref (c0 + 16), .int 0] [.int 2] s0 t0 _
  refine Rx.go (fun _ => rfl) ?_
  refine Rx.go (fun _ => rfl) ?_
  refine Rx.go (fun _ => rfl) ?_
  refine Rx.go (fun _ => rfl) ?_
  refine Rx.go (fun _ => rfl) ?_
  refine Rx.sald rfl hX (by rw [h4]; decide) ?_
  refine Rx.go (fun _ => rfl) ?_
  refine Rx.go (fun _ => rfl) ?_
  refine Rx.go (fun _ => rfl) ?_
  refine Rx.go (fun _ => rfl) ?_
  refine Rx.sald rfl hX (by rw [h4]; decide) ?_
  refine Rx.callE rfl rfl rfl rfl (rx_order_noa X c0 s0 t0 _ _ (noT0 _)) ?_
  show Rx X c0 m_Law_law 537 [.ref X.1.1, .ref (c0 + 0), .ref (c0 + 16), .int 0] [.int 2, .int 2] s0 t0 _
  refine Rx.go (fun _ => rfl) ?_
  show Rx X c0 m_Law_law 608 [.ref X.1.1, .ref (c0 + 0), .ref (c0 + 16), .int 0] [] s0 t0 _
  show Rx X c0 m_Law_law 608 [.ref X.1.1, .ref (c0 + 0), .ref (c0 + 16), .int 0] [] s0 t0 _
  exact law_rt hX h4
set_option maxRecDepth 100000 in
set_option maxHeartbeats 1000000 in
theorem law_c15 {X : ev_X} {c0 z : Nat} (hX : X.1.1 < c0) (h4 : X.1.2.1 = 4) : Ex X 157 542 [.ref X.1.1, .ref (c0 + 0), .ref (c0 + 16), .int 0] [] (hp c0 26 z (fz c0)) (LQ c0 z) := by
  refine Ex.nx rfl ?_
  refine Ex.nx rfl ?_
  refine Ex.nx rfl ?_
  refine Ex.nx rfl ?_
  refine Ex.nx rfl ?_
  show Ex X m_Law_law 547 [.ref X.1.1, .ref (c0 + 0), .ref (c0 + 16), .int 0] [.int 1, .ref X.1.1, .ref (c0 + 0)] (hp c0 26 _ _) _
  refine Hx.sald rfl (hp_lo hX) (by rw [h4]; decide) ?_
  refine Ex.nx rfl ?_
  refine Ex.nx rfl ?_
  refine Ex.nx rfl ?_
  refine Ex.nx rfl ?_
  show Ex X m_Law_law 552 [.ref X.1.1, .ref (c0 + 0), .ref (c0 + 16), .int 0] [.int 2, .ref X.1.1, .int (X.1.2.2 1), .ref (c0 + 0)] (hp c0 26 _ _) _
  refine Hx.sald rfl (hp_lo hX) (by rw [h4]; decide) ?_
  refine Hx.callX 0 rfl rfl rfl rfl rfl (p_same _ _) ?_
  rintro v h1 ⟨n1, z1, F1, rfl, e1, e2, e3, rfl⟩
  refine law_rx e1 e2 e3 ?_
  show Rx X c0 m_Law_law 556 [.ref X.1.1, .ref (c0 + 0), .ref (c0 + 16), .int 0] [.int 2] s0 t0 _
  refine Rx.go (fun _ => rfl) ?_
  refine Rx.go (fun _ => rfl) ?_
  refine Rx.go (fun _ => rfl) ?_
  refine Rx.go (fun _ => rfl) ?_
  refine Rx.go (fun _ => rfl) ?_
  refine Rx.sald rfl hX (by rw [h4]; decide) ?_
  refine Rx.go (fun _ => rfl) ?_
  refine Rx.go (fun _ => rfl) ?_
  refine Rx.go (fun _ => rfl) ?_
  refine Rx.go (fun _ => rfl) ?_
  refine Rx.sald rfl hX (by rw [h4]; decide) ?_
  refine Rx.callE rfl rfl rfl rfl (rx_same_noa X c0 s0 t0 _ _ (noT0 _)) ?_
  show Rx X c0 m_Law_law 570 [.ref X.1.1, .ref (c0 + 0), .ref (c0 + 16), .int 0] [.int 2, .int 2] s0 t0 _
  refine Rx.go (fun _ => rfl) ?_
  show Rx X c0 m_Law_law 608 [.ref X.1.1, .ref (c0 + 0), .ref (c0 + 16), .int 0] [] s0 t0 _
  show Rx X c0 m_Law_law 608 [.ref X.1.1, .ref (c0 + 0), .ref (c0 + 16), .int 0] [] s0 t0 _
  exact law_rt hX h4
set_option maxRecDepth 100000 in
set_option maxHeartbeats 1000000 in
theorem law_c16 {X : ev_X} {c0 z : Nat} (hX : X.1.1 < c0) (h4 : X.1.2.1 = 4) : Ex X 157 575 [.ref X.1.1, .ref (c0 + 0), .ref (c0 + 16), .int 0] [] (hp c0 26 z (fz c0)) (LQ c0 z) := by
  refine Ex.nx rfl ?_
  refine Ex.nx rfl ?_
  refine Ex.nx rfl ?_
  refine Ex.nx rfl ?_
  refine Ex.nx rfl ?_
  show Ex X m_Law_law 580 [.ref X.1.1, .ref (c0 + 0), .ref (c0 + 16), .int 0] [.int 1, .ref X.1.1, .ref (c0 + 0)] (hp c0 26 _ _) _
  refine Hx.sald rfl (hp_lo hX) (by rw [h4]; decide) ?_
  refine Ex.nx rfl ?_
  refine Ex.nx rfl ?_
  refine Ex.nx rfl ?_
  refine Ex.nx rfl ?_
  show Ex X m_Law_law 585 [.ref X.1.1, .ref (c0 + 0), .ref (c0 + 16), .int 0] [.int 2, .ref X.1.1, .int (X.1.2.2 1), .ref (c0 + 0)] (hp c0 26 _ _) _
  refine Hx.sald rfl (hp_lo hX) (by rw [h4]; decide) ?_
  refine Hx.callX 0 rfl rfl rfl rfl rfl (p_less _ _) ?_
  rintro v h1 ⟨n1, z1, F1, rfl, e1, e2, e3, rfl⟩
  refine law_rx e1 e2 e3 ?_
  show Rx X c0 m_Law_law 589 [.ref X.1.1, .ref (c0 + 0), .ref (c0 + 16), .int 0] [.int 2] s0 t0 _
  refine Rx.go (fun _ => rfl) ?_
  refine Rx.go (fun _ => rfl) ?_
  refine Rx.go (fun _ => rfl) ?_
  refine Rx.go (fun _ => rfl) ?_
  refine Rx.go (fun _ => rfl) ?_
  refine Rx.sald rfl hX (by rw [h4]; decide) ?_
  refine Rx.go (fun _ => rfl) ?_
  refine Rx.go (fun _ => rfl) ?_
  refine Rx.go (fun _ => rfl) ?_
  refine Rx.go (fun _ => rfl) ?_
  refine Rx.sald rfl hX (by rw [h4]; decide) ?_
  refine Rx.callE rfl rfl rfl rfl (rx_less_noa X c0 s0 t0 _ _ (noT0 _)) ?_
  show Rx X c0 m_Law_law 603 [.ref X.1.1, .ref (c0 + 0), .ref (c0 + 16), .int 0] [.int 2, .int 2] s0 t0 _
  refine Rx.go (fun _ => rfl) ?_
  show Rx X c0 m_Law_law 608 [.ref X.1.1, .ref (c0 + 0), .ref (c0 + 16), .int 0] [] s0 t0 _
  show Rx X c0 m_Law_law 608 [.ref X.1.1, .ref (c0 + 0), .ref (c0 + 16), .int 0] [] s0 t0 _
  exact law_rt hX h4
set_option maxRecDepth 100000 in
set_option maxHeartbeats 1000000 in
theorem law_h {X : ev_X} {c0 z : Nat} (hX : X.1.1 < c0) (hL : X.1.2.1 ≤ 4) : Ex X 157 18 [.ref X.1.1, .ref (c0 + 0), .ref (c0 + 16), .int 0] [] (hp c0 26 z (fz c0)) (LQ c0 z) := by
  refine Ex.nx rfl ?_
  refine Ex.nx rfl ?_
  refine Hx.slen rfl (hp_lo hX) ?_
  refine Ex.nx rfl ?_
  refine Ex.nx rfl ?_
  refine Ex.nx rfl ?_
  refine Ex.ite (fun c1 => ?_) (fun c1 => ?_)
  · replace c1 : ((nI X.1.2.1) - 4) < 0 := of_decide_eq_true c1
    show Ex X m_Law_law 614 [.ref X.1.1, .ref (c0 + 0), .ref (c0 + 16), .int 0] [] (hp c0 26 _ _) _
    refine Ex.nx rfl ?_
    exact Ex.ret rfl rfl ⟨rfl, by show c0 + 26 ≤ _; omega, by show z ≤ _; omega⟩
  · replace c1 : ¬ ((nI X.1.2.1) - 4) < 0 := of_decide_eq_false c1
    have h4 := law_L hL c1
    show Ex X m_Law_law 26 [.ref X.1.1, .ref (c0 + 0), .ref (c0 + 16), .int 0] [] (hp c0 26 _ _) _
    refine Ex.nx rfl ?_
    refine Ex.nx rfl ?_
    refine Hx.sald rfl (hp_lo hX) (by rw [h4]; decide) ?_
    refine Ex.nx rfl ?_
    refine Ex.nx rfl ?_
    show Ex X m_Law_law 32 [.ref X.1.1, .ref (c0 + 0), .ref (c0 + 16), .int 0] [.int ((X.1.2.2 0) &&& 31)] (hp c0 26 _ _) _
    generalize X.1.2.2 0 &&& 31 = q
    rcases sw17 q with ⟨j, hj, rfl⟩ | h
    · match j, hj with
        | 0, _ =>
          refine Ex.nx rfl ?_
          exact law_c0 hX h4
        | 1, _ =>
          refine Ex.nx rfl ?_
          exact law_c1 hX h4
        | 2, _ =>
          refine Ex.nx rfl ?_
          exact law_c2 hX h4
        | 3, _ =>
          refine Ex.nx rfl ?_
          exact law_c3 hX h4
        | 4, _ =>
          refine Ex.nx rfl ?_
          exact law_c4 hX h4
        | 5, _ =>
          refine Ex.nx rfl ?_
          exact law_c5 hX h4
        | 6, _ =>
          refine Ex.nx rfl ?_
          exact law_c6 hX h4
        | 7, _ =>
          refine Ex.nx rfl ?_
          exact law_c7 hX h4
        | 8, _ =>
          refine Ex.nx rfl ?_
          exact law_c8 hX h4
        | 9, _ =>
          refine Ex.nx rfl ?_
          exact law_c9 hX h4
        | 10, _ =>
          refine Ex.nx rfl ?_
          exact law_c10 hX h4
        | 11, _ =>
          refine Ex.nx rfl ?_
          exact law_c11 hX h4
        | 12, _ =>
          refine Ex.nx rfl ?_
          exact law_c12 hX h4
        | 13, _ =>
          refine Ex.nx rfl ?_
          exact law_c13 hX h4
        | 14, _ =>
          refine Ex.nx rfl ?_
          exact law_c14 hX h4
        | 15, _ =>
          refine Ex.nx rfl ?_
          exact law_c15 hX h4
        | 16, _ =>
          refine Ex.nx rfl ?_
          exact law_c16 hX h4
        | n + 17, h => exact absurd h (by omega)
    · exact Hx.tsw rfl h (by decide) (law_te (c0 := c0) (hp_lo hX) h4 ⟨rfl, by show c0 + 26 ≤ _; omega, by show z ≤ _; omega⟩)
set_option maxRecDepth 100000 in
set_option maxHeartbeats 1000000 in
theorem ev_law1 : ev_Law := by
  intro X c0 hW hL
  have hX : X.1.1 < c0 := hW.1
  have key : Ex X 157 0 [.ref X.1.1, ev_dead, ev_dead, ev_dead] [] (hp c0 0 0 (fun _ => none)) (LQ c0 (0 + 5 + 2 + 240 + 5 + (4 + 64 + 60) + 3 + 3 + 2000 + 2 + 2 + 194 + 2 + 18 + 24 + 240 + 132000 + 2002 + 2002 + 2002 + 260 + 260 + 240 + 40)) := by
    refine Hx.newo rfl rfl ?_
    refine Ex.nx rfl ?_
    refine Hx.callp rfl rfl rfl rfl (hx_Tab rfl) ?_
    refine Ex.nx rfl ?_
    refine Hx.newo rfl rfl ?_
    refine Ex.nx rfl ?_
    refine Hx.callp rfl rfl rfl rfl (hx_Mod rfl) ?_
    refine Ex.nx rfl ?_
    refine Ex.nx rfl ?_
    refine Ex.nx rfl ?_
    refine Hx.eF (fz_eq c0) ?_
    exact law_h hX hL
  rw [hp_0]
  obtain ⟨n, r, h', e1, e2, e3, e4⟩ := key
  subst e2
  exact ⟨n, h', e1, by omega, by omega⟩
