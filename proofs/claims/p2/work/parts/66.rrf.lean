/-! The reference reads truths. (rows laid by wip/whole/rr6.py) -/
theorem Rx.strc {X : ev_X} {c0 M pc nx a b w idx k : Nat} {A st as r A0 : List Value} {v : Option Value} {σ : Nat → Int32} {τ : Nat → Nat → Int32} {Q : Option Value → (Nat → Int32) → (Nat → Nat → Int32) → Prop} (hS : XS X c0) (hk : k < 12) (o : pg_ops M pc = some (.invokevirtual idx, nx, a, b, w)) (ha : ev_argI (pg_n a) st = some (X.2.1 k, as, r)) (hc : pg_c a = 90) (he : ev_ent (pg_L a) (.ref (X.2.1 k) :: as) = some A0) (k1 : ∀ h, lo0 c0 h → Ex X a 0 A0 [] h (fun r h' => r = v ∧ h' = h)) (k2 : Rx X c0 M nx A (v.toList ++ r) σ τ Q) : Rx X c0 M pc A st σ τ Q := fun h hM => Hx.scl hS hk hM.2.2 o ha hc he (k1 h hM.2.2) (fun v' h1 ⟨e1, e2⟩ => by rw [e1, e2]; exact k2 h hM)
set_option maxRecDepth 100000 in
set_option maxHeartbeats 2000000 in
theorem rr_tr_e {X : ev_X} {c0 : Nat} (hX : XS X c0) {σ0 : Nat → Int32} {τ0 : Nat → Nat → Int32} {t : List Nat} {k : Nat} (hk : k < 12) (bv : Value) (jv : Value) {σ : Nat → Int32} {τ : Nat → Nat → Int32} (hS : RS σ0 τ0 t (wlen k) (wl k) 8 0 0 σ τ) : Rx X c0 m_Mod_readTruth 71 [.ref (c0 + 16), bv, .ref (X.2.1 k), jv] [] σ τ (rQ σ0 τ0 t ((if isW (hb t (wlen k)) = true then (false, wlen k, ()) else (true, wlen k, ())) : Bool × Nat × Unit) (fun q b σ' τ' => q = wlen k ∧ RS σ0 τ0 t (wlen k) (wl k) 8 0 0 σ' τ')) := by
  have hw := wlen_all k hk
  refine Rx.go (fun _ => rfl) ?_
  refine Rx.callE rfl rfl rfl rfl (rz_good hS.z) ?_
  show Rx X c0 m_Mod_readTruth 75 [.ref (c0 + 16), bv, .ref (X.2.1 k), jv] [.int 1] σ τ _
  refine Rx.go (fun _ => rfl) ?_
  show Rx X c0 m_Mod_readTruth 78 [.ref (c0 + 16), bv, .ref (X.2.1 k), jv] [] σ τ _
  refine Rx.go (fun _ => rfl) ?_
  refine Rx.callE rfl rfl rfl rfl (rz_here hS.z) ?_
  show Rx X c0 m_Mod_readTruth 82 [.ref (c0 + 16), bv, .ref (X.2.1 k), jv] [.int (hb t (wlen k))] σ τ _
  refine Rx.scallE rfl rfl rfl rfl (sx_Mod_isW X (hb t (wlen k))) ?_
  show Rx X c0 m_Mod_readTruth 85 [.ref (c0 + 16), bv, .ref (X.2.1 k), jv] [.int (bi (isW (hb t (wlen k))))] σ τ _
  refine Rx.go (fun _ => rfl) ?_
  refine Rx.ite (fun c1 => ?_) (fun c1 => ?_)
  · replace c1 : (isW (hb t (wlen k))) = false := bi_eqt c1
    show Rx X c0 m_Mod_readTruth 97 [.ref (c0 + 16), bv, .ref (X.2.1 k), jv] [] σ τ _
    exact Rx.ret rfl rfl (rQ_t (b := ()) (if_neg (by rw [c1]; decide)) ⟨rfl, hS⟩)
  · replace c1 : (isW (hb t (wlen k))) = true := bi_eqf c1
    show Rx X c0 m_Mod_readTruth 88 [.ref (c0 + 16), bv, .ref (X.2.1 k), jv] [] σ τ _
    refine Rx.go (fun _ => rfl) ?_
    refine Rx.go (fun _ => rfl) ?_
    refine Rx.go (fun _ => rfl) ?_
    refine Rx.get rfl rfl ?_
    refine Rx.top (y := nI (wlen k)) hS.f16 ?_
    refine Rx.callP rfl rfl rfl rfl (rs_fl (wn := (wlen k)) hS (by decide) rfl) ?_
    intro σ17 τ17 hS17
    show Rx X c0 m_Mod_readTruth 97 [.ref (c0 + 16), bv, .ref (X.2.1 k), jv] [] σ17 τ17 _
    exact Rx.ret rfl rfl (rQ_f (b := ()) (if_pos c1) hS17 (by rw [wl_len]; omega) (by omega))
set_option maxRecDepth 100000 in
set_option maxHeartbeats 2000000 in
theorem rr_tr_l {X : ev_X} {c0 : Nat} (hX : XS X c0) {σ0 : Nat → Int32} {τ0 : Nat → Nat → Int32} {t : List Nat} {k : Nat} (hk : k < 12) (bv : Value) : ∀ (m j : Nat) (σ : Nat → Int32) (τ : Nat → Nat → Int32) (hm : j + m = wlen k) (hS : RS σ0 τ0 t j ((wl k).take j) 8 0 0 σ τ), Rx X c0 m_Mod_readTruth 20 [.ref (c0 + 16), bv, .ref (X.2.1 k), .int (nI j)] [] σ τ (rQ σ0 τ0 t ((match sTl t k m j with | some x => (false, x, ()) | none => if isW (hb t (wlen k)) = true then (false, wlen k, ()) else (true, wlen k, ())) : Bool × Nat × Unit) (fun q b σ' τ' => q = wlen k ∧ RS σ0 τ0 t (wlen k) (wl k) 8 0 0 σ' τ')) := by
  have hw := wlen_all k hk
  intro m
  induction m with
  | zero =>
    intro j σ τ hm hS
    refine Rx.go (fun _ => rfl) ?_
    refine Rx.go (fun _ => rfl) ?_
    refine Rx.strc hX hk rfl rfl rfl rfl (fun h hl => hs_length hX hl hk) ?_
    show Rx X c0 m_Mod_readTruth 25 [.ref (c0 + 16), bv, .ref (X.2.1 k), .int (nI j)] [.int (nI (wlen k)), .int (nI j)] σ τ _
    refine Rx.go (fun _ => rfl) ?_
    refine Rx.ite (fun c1 => ?_) (fun c1 => ?_)
    · replace c1 : (nI (wlen k)) ≤ (nI j) := of_decide_eq_true c1
      show Rx X c0 m_Mod_readTruth 71 [.ref (c0 + 16), bv, .ref (X.2.1 k), .int (nI j)] [] σ τ _
      show Rx X c0 m_Mod_readTruth 71 [.ref (c0 + 16), bv, .ref (X.2.1 k), .int (nI j)] [] σ τ _
      have e : j = wlen k := by omega
      subst e
      rw [show (wl k).take (wlen k) = wl k by rw [← wl_len, List.take_length]] at hS
      exact rr_tr_e hX hk bv _ hS
    · replace c1 : ¬ (nI (wlen k)) ≤ (nI j) := of_decide_eq_false c1
      exact absurd (show nI (wlen k) ≤ nI j by rw [show j = wlen k by omega]; exact Int32.le_refl _) c1
  | succ m ih =>
    intro j σ τ hm hS
    have hl := hS.z.tl
    refine Rx.go (fun _ => rfl) ?_
    refine Rx.go (fun _ => rfl) ?_
    refine Rx.strc hX hk rfl rfl rfl rfl (fun h hl => hs_length hX hl hk) ?_
    show Rx X c0 m_Mod_readTruth 25 [.ref (c0 + 16), bv, .ref (X.2.1 k), .int (nI j)] [.int (nI (wlen k)), .int (nI j)] σ τ _
    refine Rx.go (fun _ => rfl) ?_
    refine Rx.ite (fun c1 => ?_) (fun c1 => ?_)
    · replace c1 : (nI (wlen k)) ≤ (nI j) := of_decide_eq_true c1
      exact absurd ((nI_leI (by omega) (by omega)).mp c1) (by omega)
    · replace c1 : ¬ (nI (wlen k)) ≤ (nI j) := of_decide_eq_false c1
      show Rx X c0 m_Mod_readTruth 28 [.ref (c0 + 16), bv, .ref (X.2.1 k), .int (nI j)] [] σ τ _
      refine Rx.go (fun _ => rfl) ?_
      refine Rx.callE rfl rfl rfl rfl (rz_good hS.z) ?_
      show Rx X c0 m_Mod_readTruth 32 [.ref (c0 + 16), bv, .ref (X.2.1 k), .int (nI j)] [.int 1] σ τ _
      refine Rx.go (fun _ => rfl) ?_
      show Rx X c0 m_Mod_readTruth 35 [.ref (c0 + 16), bv, .ref (X.2.1 k), .int (nI j)] [] σ τ _
      refine Rx.go (fun _ => rfl) ?_
      refine Rx.go (fun _ => rfl) ?_
      refine Rx.callE rfl rfl rfl rfl (rz_here hS.z) ?_
      show Rx X c0 m_Mod_readTruth 40 [.ref (c0 + 16), bv, .ref (X.2.1 k), .int (nI j)] [.int (hb t j), .ref (c0 + 16)] σ τ _
      refine Rx.go (fun _ => rfl) ?_
      refine Rx.go (fun _ => rfl) ?_
      refine Rx.strc hX hk rfl rfl rfl rfl (fun h hl => hs_char hX hl hk (j := j) (by omega)) ?_
      show Rx X c0 m_Mod_readTruth 45 [.ref (c0 + 16), bv, .ref (X.2.1 k), .int (nI j)] [.int (nI (wch k j)), .int (hb t j), .ref (c0 + 16)] σ τ _
      refine Rx.go (fun _ => rfl) ?_
      refine Rx.ite (fun c2 => ?_) (fun c2 => ?_)
      · replace c2 : ¬ (hb t j) = (nI (wch k j)) := of_decide_eq_true c2
        show Rx X c0 m_Mod_readTruth 52 [.ref (c0 + 16), bv, .ref (X.2.1 k), .int (nI j)] [.ref (c0 + 16)] σ τ _
        refine Rx.go (fun _ => rfl) ?_
        refine Rx.callP rfl rfl rfl rfl (rs_ov_f false hS (fun h => Bool.false_ne_true h.2)) ?_
        intro σ18 τ18 hS18
        show Rx X c0 m_Mod_readTruth 56 [.ref (c0 + 16), bv, .ref (X.2.1 k), .int (nI j)] [] σ18 τ18 _
        refine Rx.go (fun _ => rfl) ?_
        refine Rx.go (fun _ => rfl) ?_
        refine Rx.go (fun _ => rfl) ?_
        refine Rx.strc hX hk rfl rfl rfl rfl (fun h hl => hs_char hX hl hk (j := j) (by omega)) ?_
        show Rx X c0 m_Mod_readTruth 62 [.ref (c0 + 16), bv, .ref (X.2.1 k), .int (nI j)] [.int (nI (wch k j)), .ref (c0 + 16)] σ18 τ18 _
        refine Rx.callP rfl rfl rfl rfl (rg_put _ hS18 (by simp only [List.length_take, wl_len]; omega)) ?_
        intro σ19 τ19 hS19
        show Rx X c0 m_Mod_readTruth 65 [.ref (c0 + 16), bv, .ref (X.2.1 k), .int (nI j)] [] σ19 τ19 _
        refine Rx.go (fun _ => rfl) ?_
        show Rx X c0 m_Mod_readTruth 68 [.ref (c0 + 16), bv, .ref (X.2.1 k), .int ((nI j) + 1)] [] σ19 τ19 _
        refine Rx.go (fun _ => rfl) ?_
        refine Rx.go (fun _ => rfl) ?_
        refine Rx.go (fun _ => rfl) ?_
        refine Rx.strc hX hk rfl rfl rfl rfl (fun h hl => hs_length hX hl hk) ?_
        show Rx X c0 m_Mod_readTruth 25 [.ref (c0 + 16), bv, .ref (X.2.1 k), .int ((nI j) + 1)] [.int (nI (wlen k)), .int ((nI j) + 1)] σ19 τ19 _
        refine Rx.go (fun _ => rfl) ?_
        refine Rx.ite (fun c3 => ?_) (fun c3 => ?_)
        · replace c3 : (nI (wlen k)) ≤ ((nI j) + 1) := of_decide_eq_true c3
          skip
          show Rx X c0 m_Mod_readTruth 71 [.ref (c0 + 16), bv, .ref (X.2.1 k), .int ((nI j) + 1)] [] σ19 τ19 _
          refine Rx.go (fun _ => rfl) ?_
          refine Rx.callE rfl rfl rfl rfl (rg_good hS19) ?_
          show Rx X c0 m_Mod_readTruth 75 [.ref (c0 + 16), bv, .ref (X.2.1 k), .int ((nI j) + 1)] [.int 0] σ19 τ19 _
          refine Rx.go (fun _ => rfl) ?_
          show Rx X c0 m_Mod_readTruth 97 [.ref (c0 + 16), bv, .ref (X.2.1 k), .int ((nI j) + 1)] [] σ19 τ19 _
          exact Rx.ret rfl rfl (rQ_f (q := j) (b := ()) (by rw [show sTl t k (m + 1) j = some j from if_neg c2]) hS19 (by simp only [List.length_take, wl_len]; omega) (by omega))
        · replace c3 : ¬ (nI (wlen k)) ≤ ((nI j) + 1) := of_decide_eq_false c3
          show Rx X c0 m_Mod_readTruth 28 [.ref (c0 + 16), bv, .ref (X.2.1 k), .int ((nI j) + 1)] [] σ19 τ19 _
          refine Rx.go (fun _ => rfl) ?_
          refine Rx.callE rfl rfl rfl rfl (rg_good hS19) ?_
          show Rx X c0 m_Mod_readTruth 32 [.ref (c0 + 16), bv, .ref (X.2.1 k), .int ((nI j) + 1)] [.int 0] σ19 τ19 _
          refine Rx.go (fun _ => rfl) ?_
          show Rx X c0 m_Mod_readTruth 71 [.ref (c0 + 16), bv, .ref (X.2.1 k), .int ((nI j) + 1)] [] σ19 τ19 _
          refine Rx.go (fun _ => rfl) ?_
          refine Rx.callE rfl rfl rfl rfl (rg_good hS19) ?_
          show Rx X c0 m_Mod_readTruth 75 [.ref (c0 + 16), bv, .ref (X.2.1 k), .int ((nI j) + 1)] [.int 0] σ19 τ19 _
          refine Rx.go (fun _ => rfl) ?_
          show Rx X c0 m_Mod_readTruth 97 [.ref (c0 + 16), bv, .ref (X.2.1 k), .int ((nI j) + 1)] [] σ19 τ19 _
          exact Rx.ret rfl rfl (rQ_f (q := j) (b := ()) (by rw [show sTl t k (m + 1) j = some j from if_neg c2]) hS19 (by simp only [List.length_take, wl_len]; omega) (by omega))
      · replace c2 : (hb t j) = (nI (wch k j)) := Classical.not_not.mp (of_decide_eq_false c2)
        show Rx X c0 m_Mod_readTruth 48 [.ref (c0 + 16), bv, .ref (X.2.1 k), .int (nI j)] [.ref (c0 + 16)] σ τ _
        refine Rx.go (fun _ => rfl) ?_
        refine Rx.go (fun _ => rfl) ?_
        refine Rx.callP rfl rfl rfl rfl (rs_ov_t hS (hb_in (by rw [c2]; exact nI_nm1 (by have := (wch_all k hk j (by omega)).2; omega)))) ?_
        intro σ20 τ20 hS20
        show Rx X c0 m_Mod_readTruth 56 [.ref (c0 + 16), bv, .ref (X.2.1 k), .int (nI j)] [] σ20 τ20 _
        refine Rx.go (fun _ => rfl) ?_
        refine Rx.go (fun _ => rfl) ?_
        refine Rx.go (fun _ => rfl) ?_
        refine Rx.strc hX hk rfl rfl rfl rfl (fun h hl => hs_char hX hl hk (j := j) (by omega)) ?_
        show Rx X c0 m_Mod_readTruth 62 [.ref (c0 + 16), bv, .ref (X.2.1 k), .int (nI j)] [.int (nI (wch k j)), .ref (c0 + 16)] σ20 τ20 _
        refine Rx.callP rfl rfl rfl rfl (rs_put (wch k j) hS20 (by simp only [List.length_take, wl_len]; omega)) ?_
        intro σ21 τ21 hS21
        show Rx X c0 m_Mod_readTruth 65 [.ref (c0 + 16), bv, .ref (X.2.1 k), .int (nI j)] [] σ21 τ21 _
        refine Rx.go (fun _ => rfl) ?_
        show Rx X c0 m_Mod_readTruth 68 [.ref (c0 + 16), bv, .ref (X.2.1 k), .int ((nI j) + 1)] [] σ21 τ21 _
        refine Rx.go (fun _ => rfl) ?_
        show Rx X c0 m_Mod_readTruth 20 [.ref (c0 + 16), bv, .ref (X.2.1 k), .int ((nI j) + 1)] [] σ21 τ21 _
        have e := take_s (m := wl k) (i := j) (by rw [wl_len]; omega)
        rw [wl_get (by omega)] at e
        rw [e] at hS21
        rw [show nI j + 1 = nI (j + 1) from nI_1 j, show sTl t k (m + 1) j = sTl t k m (j + 1) from if_pos c2]
        exact ih (j + 1) _ _ (by omega) hS21
set_option maxRecDepth 100000 in
set_option maxHeartbeats 2000000 in
theorem rr_truth0 {X : ev_X} {c0 : Nat} (hX : XS X c0) {σ0 : Nat → Int32} {τ0 : Nat → Nat → Int32} {t : List Nat} {σ : Nat → Int32} {τ : Nat → Nat → Int32} (hS : RZ σ0 τ0 t 0 σ τ) : Rx X c0 m_Mod_readTruth 0 [.ref (c0 + 16), .int 1, ev_dead, ev_dead] [] σ τ (rQ σ0 τ0 t ((match sTl t 0 (wlen 0) 0 with | some x => (false, x, ()) | none => if isW (hb t (wlen 0)) = true then (false, wlen 0, ()) else (true, wlen 0, ())) : Bool × Nat × Unit) (fun q b σ' τ' => q = wlen 0 ∧ RS σ0 τ0 t (wlen 0) (wl 0) 8 0 0 σ' τ')) := by
  refine Rx.go (fun _ => rfl) ?_
  refine Rx.go (fun _ => rfl) ?_
  refine Rx.callP rfl rfl rfl rfl (rz_begin 8 hS) ?_
  intro σ22 τ22 hS22
  show Rx X c0 m_Mod_readTruth 6 [.ref (c0 + 16), .int 1, ev_dead, ev_dead] [] σ22 τ22 _
  refine Rx.go (fun _ => rfl) ?_
  refine Rx.go (fun _ => rfl) ?_
  show Rx X c0 m_Mod_readTruth 10 [.ref (c0 + 16), .int 1, ev_dead, ev_dead] [] σ22 τ22 _
  refine Rx.go (fun _ => rfl) ?_
  refine Rx.go (fun _ => rfl) ?_
  refine Rx.go (fun _ => rfl) ?_
  show Rx X c0 m_Mod_readTruth 18 [.ref (c0 + 16), .int 1, .ref (X.2.1 0), ev_dead] [] σ22 τ22 _
  refine Rx.go (fun _ => rfl) ?_
  refine Rx.go (fun _ => rfl) ?_
  show Rx X c0 m_Mod_readTruth 20 [.ref (c0 + 16), .int 1, .ref (X.2.1 0), .int 0] [] σ22 τ22 _
  show Rx X c0 m_Mod_readTruth 20 [.ref (c0 + 16), .int 1, .ref (X.2.1 0), .int 0] [] σ22 τ22 _
  exact rr_tr_l hX (k := 0) (by decide) _ (wlen 0) 0 _ _ (by decide) hS22
set_option maxRecDepth 100000 in
set_option maxHeartbeats 2000000 in
theorem rr_truth1 {X : ev_X} {c0 : Nat} (hX : XS X c0) {σ0 : Nat → Int32} {τ0 : Nat → Nat → Int32} {t : List Nat} {σ : Nat → Int32} {τ : Nat → Nat → Int32} (hS : RZ σ0 τ0 t 0 σ τ) : Rx X c0 m_Mod_readTruth 0 [.ref (c0 + 16), .int 0, ev_dead, ev_dead] [] σ τ (rQ σ0 τ0 t ((match sTl t 1 (wlen 1) 0 with | some x => (false, x, ()) | none => if isW (hb t (wlen 1)) = true then (false, wlen 1, ()) else (true, wlen 1, ())) : Bool × Nat × Unit) (fun q b σ' τ' => q = wlen 1 ∧ RS σ0 τ0 t (wlen 1) (wl 1) 8 0 0 σ' τ')) := by
  refine Rx.go (fun _ => rfl) ?_
  refine Rx.go (fun _ => rfl) ?_
  refine Rx.callP rfl rfl rfl rfl (rz_begin 8 hS) ?_
  intro σ23 τ23 hS23
  show Rx X c0 m_Mod_readTruth 6 [.ref (c0 + 16), .int 0, ev_dead, ev_dead] [] σ23 τ23 _
  refine Rx.go (fun _ => rfl) ?_
  refine Rx.go (fun _ => rfl) ?_
  show Rx X c0 m_Mod_readTruth 15 [.ref (c0 + 16), .int 0, ev_dead, ev_dead] [] σ23 τ23 _
  refine Rx.go (fun _ => rfl) ?_
  refine Rx.go (fun _ => rfl) ?_
  show Rx X c0 m_Mod_readTruth 18 [.ref (c0 + 16), .int 0, .ref (X.2.1 1), ev_dead] [] σ23 τ23 _
  refine Rx.go (fun _ => rfl) ?_
  refine Rx.go (fun _ => rfl) ?_
  show Rx X c0 m_Mod_readTruth 20 [.ref (c0 + 16), .int 0, .ref (X.2.1 1), .int 0] [] σ23 τ23 _
  show Rx X c0 m_Mod_readTruth 20 [.ref (c0 + 16), .int 0, .ref (X.2.1 1), .int 0] [] σ23 τ23 _
  exact rr_tr_l hX (k := 1) (by decide) _ (wlen 1) 0 _ _ (by decide) hS23
