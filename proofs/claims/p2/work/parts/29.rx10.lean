/-! value of the reference. (rows laid by wip/whole/rx11.py) -/
def vgo (bh : Int32) : List Nat → Int64 → Int32 → Int64
  | [], v, _ => v
  | b :: l, v, lf => if lf = 0 then v else if b = 46 then vgo bh l v bh else if isD (nI b) = true then vgo bh l (10 * v + (nI b).toInt64 - 48) (lf + (-1)) else vgo bh l v lf
theorem vg_0 {bh : Int32} {l : List Nat} {v : Int64} {lf : Int32} (h : lf = 0) : vgo bh l v lf = v := by
  cases l with
  | nil => rfl
  | cons b l => exact if_pos h
theorem vg_s {bh : Int32} {l : List Nat} {k : Nat} {v : Int64} {lf : Int32} (hk : k < l.length) (h : ¬ lf = 0) : vgo bh (l.drop k) v lf = if l.getD k 0 = 46 then vgo bh (l.drop (k + 1)) v bh else if isD (nI (l.getD k 0)) = true then vgo bh (l.drop (k + 1)) (10 * v + (nI (l.getD k 0)).toInt64 - 48) (lf + (-1)) else vgo bh (l.drop (k + 1)) v lf := by
  rw [drop_getD hk]; exact if_neg h
def vlu (bh : Int32) (l : List Nat) : Int64 := if l.getD 0 0 = 45 then - vgo bh l 0 (-1) else vgo bh l 0 (-1)
theorem vg_e {bh : Int32} {l : List Nat} {k : Nat} {v : Int64} {lf : Int32} (h : k = l.length) : vgo bh (l.drop k) v lf = v := by rw [List.drop_eq_nil_of_le (by omega)]; rfl
set_option maxRecDepth 100000 in
set_option maxHeartbeats 1000000 in
theorem rx_value_l (X : ev_X) (c0 : Nat) (σ : Nat → Int32) (τ : Nat → Nat → Int32) {ts : RT} (hR : rt σ τ ts) {i : Nat} (hi : i < ts.length) {sc : Nat} : ∀ (m : Nat) (k : Nat) (v : Int64) (lf : Int32) (u : Value) (hk : k ≤ (bys ts i).length) (hm : (bys ts i).length + 1 ≤ k + m) (hv : vgo (nI sc) ((bys ts i).drop k) v lf = vgo (nI sc) (bys ts i) 0 (-1)), Rx X c0 m_Mod_value 62 [.ref (c0 + 16), .int (nI (i + 1)), .int (nI sc), .long v, ev_dead, .int lf, .int (nI k), u] [] σ τ (fun r σ' τ' => r = some (.long (vlu (nI sc) (bys ts i))) ∧ σ' = σ ∧ τ' = τ) := by
  intro m
  induction m with
  | zero => intro k v lf u hk hm hv; exact absurd hm (by omega)
  | succ m ih =>
    intro k v lf u hk hm hv
    refine Rx.go (fun _ => rfl) ?_
    refine Rx.go (fun _ => rfl) ?_
    refine Rx.go (fun _ => rfl) ?_
    refine Rx.callE rfl rfl rfl rfl (rx_lenOf X c0 _ _ hR hi) ?_
    show Rx X c0 m_Mod_value 69 [.ref (c0 + 16), .int (nI (i + 1)), .int (nI sc), .long v, ev_dead, .int lf, .int (nI k), u] [.int (nI (bys ts i).length), .int (nI k)] σ τ _
    refine Rx.go (fun _ => rfl) ?_
    refine Rx.ite (fun c1 => ?_) (fun c1 => ?_)
    · replace c1 : (nI (bys ts i).length) ≤ (nI k) := of_decide_eq_true c1
      show Rx X c0 m_Mod_value 130 [.ref (c0 + 16), .int (nI (i + 1)), .int (nI sc), .long v, ev_dead, .int lf, .int (nI k), u] [] σ τ _
      refine Rx.go (fun _ => rfl) ?_
      refine Rx.go (fun _ => rfl) ?_
      refine Rx.go (fun _ => rfl) ?_
      refine Rx.callE rfl rfl rfl rfl (rx_byteAt X c0 _ _ hR hi (j := 0) (by decide)) ?_
      show Rx X c0 m_Mod_value 136 [.ref (c0 + 16), .int (nI (i + 1)), .int (nI sc), .long v, ev_dead, .int lf, .int (nI k), u] [.int (nI ((bys ts i).getD 0 0))] σ τ _
      refine Rx.go (fun _ => rfl) ?_
      refine Rx.go (fun _ => rfl) ?_
      refine Rx.ite (fun c2 => ?_) (fun c2 => ?_)
      · replace c2 : ¬ (nI ((bys ts i).getD 0 0)) = 45 := of_decide_eq_true c2
        show Rx X c0 m_Mod_value 146 [.ref (c0 + 16), .int (nI (i + 1)), .int (nI sc), .long v, ev_dead, .int lf, .int (nI k), u] [] σ τ _
        refine Rx.go (fun _ => rfl) ?_
        show Rx X c0 m_Mod_value 147 [.ref (c0 + 16), .int (nI (i + 1)), .int (nI sc), .long v, ev_dead, .int lf, .int (nI k), u] [.long v] σ τ _
        exact Rx.ret rfl rfl ⟨by rw [vlu, ← hv, if_neg (bt_n (n := 45) rfl c2), (vg_e (isd_ge hR hi hk c1))], rfl, rfl⟩
      · replace c2 : (nI ((bys ts i).getD 0 0)) = 45 := Classical.not_not.mp (of_decide_eq_false c2)
        show Rx X c0 m_Mod_value 141 [.ref (c0 + 16), .int (nI (i + 1)), .int (nI sc), .long v, ev_dead, .int lf, .int (nI k), u] [] σ τ _
        refine Rx.go (fun _ => rfl) ?_
        refine Rx.go (fun _ => rfl) ?_
        refine Rx.go (fun _ => rfl) ?_
        show Rx X c0 m_Mod_value 147 [.ref (c0 + 16), .int (nI (i + 1)), .int (nI sc), .long v, ev_dead, .int lf, .int (nI k), u] [.long (-v)] σ τ _
        exact Rx.ret rfl rfl ⟨by rw [vlu, ← hv, if_pos (bt_e hR hi (n := 45) rfl (by decide) c2), (vg_e (isd_ge hR hi hk c1))], rfl, rfl⟩
    · replace c1 : ¬ (nI (bys ts i).length) ≤ (nI k) := of_decide_eq_false c1
      have hlt := isd_lt hR hi hk c1
      show Rx X c0 m_Mod_value 72 [.ref (c0 + 16), .int (nI (i + 1)), .int (nI sc), .long v, ev_dead, .int lf, .int (nI k), u] [] σ τ _
      refine Rx.go (fun _ => rfl) ?_
      refine Rx.go (fun _ => rfl) ?_
      refine Rx.ite (fun c3 => ?_) (fun c3 => ?_)
      · replace c3 : lf = 0 := of_decide_eq_true c3
        show Rx X c0 m_Mod_value 130 [.ref (c0 + 16), .int (nI (i + 1)), .int (nI sc), .long v, ev_dead, .int lf, .int (nI k), u] [] σ τ _
        refine Rx.go (fun _ => rfl) ?_
        refine Rx.go (fun _ => rfl) ?_
        refine Rx.go (fun _ => rfl) ?_
        refine Rx.callE rfl rfl rfl rfl (rx_byteAt X c0 _ _ hR hi (j := 0) (by decide)) ?_
        show Rx X c0 m_Mod_value 136 [.ref (c0 + 16), .int (nI (i + 1)), .int (nI sc), .long v, ev_dead, .int lf, .int (nI k), u] [.int (nI ((bys ts i).getD 0 0))] σ τ _
        refine Rx.go (fun _ => rfl) ?_
        refine Rx.go (fun _ => rfl) ?_
        refine Rx.ite (fun c4 => ?_) (fun c4 => ?_)
        · replace c4 : ¬ (nI ((bys ts i).getD 0 0)) = 45 := of_decide_eq_true c4
          show Rx X c0 m_Mod_value 146 [.ref (c0 + 16), .int (nI (i + 1)), .int (nI sc), .long v, ev_dead, .int lf, .int (nI k), u] [] σ τ _
          refine Rx.go (fun _ => rfl) ?_
          show Rx X c0 m_Mod_value 147 [.ref (c0 + 16), .int (nI (i + 1)), .int (nI sc), .long v, ev_dead, .int lf, .int (nI k), u] [.long v] σ τ _
          exact Rx.ret rfl rfl ⟨by rw [vlu, ← hv, if_neg (bt_n (n := 45) rfl c4), (vg_0 c3)], rfl, rfl⟩
        · replace c4 : (nI ((bys ts i).getD 0 0)) = 45 := Classical.not_not.mp (of_decide_eq_false c4)
          show Rx X c0 m_Mod_value 141 [.ref (c0 + 16), .int (nI (i + 1)), .int (nI sc), .long v, ev_dead, .int lf, .int (nI k), u] [] σ τ _
          refine Rx.go (fun _ => rfl) ?_
          refine Rx.go (fun _ => rfl) ?_
          refine Rx.go (fun _ => rfl) ?_
          show Rx X c0 m_Mod_value 147 [.ref (c0 + 16), .int (nI (i + 1)), .int (nI sc), .long v, ev_dead, .int lf, .int (nI k), u] [.long (-v)] σ τ _
          exact Rx.ret rfl rfl ⟨by rw [vlu, ← hv, if_pos (bt_e hR hi (n := 45) rfl (by decide) c4), (vg_0 c3)], rfl, rfl⟩
      · replace c3 : ¬ lf = 0 := of_decide_eq_false c3
        show Rx X c0 m_Mod_value 77 [.ref (c0 + 16), .int (nI (i + 1)), .int (nI sc), .long v, ev_dead, .int lf, .int (nI k), u] [] σ τ _
        refine Rx.go (fun _ => rfl) ?_
        refine Rx.go (fun _ => rfl) ?_
        refine Rx.go (fun _ => rfl) ?_
        refine Rx.callE rfl rfl rfl rfl (rx_byteAt X c0 _ _ hR hi (j := k) (by have := (rt_ok hR hi).2.2.1; omega)) ?_
        show Rx X c0 m_Mod_value 84 [.ref (c0 + 16), .int (nI (i + 1)), .int (nI sc), .long v, ev_dead, .int lf, .int (nI k), u] [.int (nI ((bys ts i).getD k 0))] σ τ _
        refine Rx.go (fun _ => rfl) ?_
        show Rx X c0 m_Mod_value 86 [.ref (c0 + 16), .int (nI (i + 1)), .int (nI sc), .long v, ev_dead, .int lf, .int (nI k), .int (nI ((bys ts i).getD k 0))] [] σ τ _
        refine Rx.go (fun _ => rfl) ?_
        refine Rx.go (fun _ => rfl) ?_
        refine Rx.go (fun _ => rfl) ?_
        refine Rx.ite (fun c5 => ?_) (fun c5 => ?_)
        · replace c5 : ¬ (nI ((bys ts i).getD k 0)) = 46 := of_decide_eq_true c5
          show Rx X c0 m_Mod_value 96 [.ref (c0 + 16), .int (nI (i + 1)), .int (nI sc), .long v, ev_dead, .int lf, .int (nI k), .int (nI ((bys ts i).getD k 0))] [] σ τ _
          refine Rx.go (fun _ => rfl) ?_
          refine Rx.scallE rfl rfl rfl rfl (sx_Mod_isDigit X _) ?_
          show Rx X c0 m_Mod_value 101 [.ref (c0 + 16), .int (nI (i + 1)), .int (nI sc), .long v, ev_dead, .int lf, .int (nI k), .int (nI ((bys ts i).getD k 0))] [.int (bi (isD (nI ((bys ts i).getD k 0))))] σ τ _
          refine Rx.go (fun _ => rfl) ?_
          refine Rx.ite (fun c6 => ?_) (fun c6 => ?_)
          · replace c6 : (isD (nI ((bys ts i).getD k 0))) = true := bi_net c6
            show Rx X c0 m_Mod_value 107 [.ref (c0 + 16), .int (nI (i + 1)), .int (nI sc), .long v, ev_dead, .int lf, .int (nI k), .int (nI ((bys ts i).getD k 0))] [] σ τ _
            refine Rx.go (fun _ => rfl) ?_
            refine Rx.go (fun _ => rfl) ?_
            refine Rx.go (fun _ => rfl) ?_
            refine Rx.go (fun _ => rfl) ?_
            refine Rx.go (fun _ => rfl) ?_
            refine Rx.go (fun _ => rfl) ?_
            refine Rx.go (fun _ => rfl) ?_
            refine Rx.go (fun _ => rfl) ?_
            refine Rx.go (fun _ => rfl) ?_
            show Rx X c0 m_Mod_value 121 [.ref (c0 + 16), .int (nI (i + 1)), .int (nI sc), .long (((10 * v) + ((nI ((bys ts i).getD k 0)).toInt64)) - 48), ev_dead, .int lf, .int (nI k), .int (nI ((bys ts i).getD k 0))] [] σ τ _
            refine Rx.go (fun _ => rfl) ?_
            show Rx X c0 m_Mod_value 124 [.ref (c0 + 16), .int (nI (i + 1)), .int (nI sc), .long (((10 * v) + ((nI ((bys ts i).getD k 0)).toInt64)) - 48), ev_dead, .int (lf + (-1)), .int (nI k), .int (nI ((bys ts i).getD k 0))] [] σ τ _
            refine Rx.go (fun _ => rfl) ?_
            show Rx X c0 m_Mod_value 127 [.ref (c0 + 16), .int (nI (i + 1)), .int (nI sc), .long (((10 * v) + ((nI ((bys ts i).getD k 0)).toInt64)) - 48), ev_dead, .int (lf + (-1)), .int ((nI k) + 1), .int (nI ((bys ts i).getD k 0))] [] σ τ _
            refine Rx.go (fun _ => rfl) ?_
            show Rx X c0 m_Mod_value 62 [.ref (c0 + 16), .int (nI (i + 1)), .int (nI sc), .long (((10 * v) + ((nI ((bys ts i).getD k 0)).toInt64)) - 48), ev_dead, .int (lf + (-1)), .int ((nI k) + 1), .int (nI ((bys ts i).getD k 0))] [] σ τ _
            rw [nI_1 k]
            exact ih (k + 1) _ _ _ hlt (by omega) (by rw [← hv, vg_s hlt c3, if_neg (bt_n (n := 46) rfl c5), if_pos c6])
          · replace c6 : (isD (nI ((bys ts i).getD k 0))) = false := bi_nef c6
            show Rx X c0 m_Mod_value 104 [.ref (c0 + 16), .int (nI (i + 1)), .int (nI sc), .long v, ev_dead, .int lf, .int (nI k), .int (nI ((bys ts i).getD k 0))] [] σ τ _
            refine Rx.go (fun _ => rfl) ?_
            refine Rx.go (fun _ => rfl) ?_
            show Rx X c0 m_Mod_value 127 [.ref (c0 + 16), .int (nI (i + 1)), .int (nI sc), .long v, ev_dead, .int lf, .int ((nI k) + 1), .int (nI ((bys ts i).getD k 0))] [] σ τ _
            refine Rx.go (fun _ => rfl) ?_
            show Rx X c0 m_Mod_value 62 [.ref (c0 + 16), .int (nI (i + 1)), .int (nI sc), .long v, ev_dead, .int lf, .int ((nI k) + 1), .int (nI ((bys ts i).getD k 0))] [] σ τ _
            rw [nI_1 k]
            exact ih (k + 1) _ _ _ hlt (by omega) (by rw [← hv, vg_s hlt c3, if_neg (bt_n (n := 46) rfl c5), if_neg (by rw [c6]; exact Bool.false_ne_true)])
        · replace c5 : (nI ((bys ts i).getD k 0)) = 46 := Classical.not_not.mp (of_decide_eq_false c5)
          show Rx X c0 m_Mod_value 93 [.ref (c0 + 16), .int (nI (i + 1)), .int (nI sc), .long v, ev_dead, .int lf, .int (nI k), .int (nI ((bys ts i).getD k 0))] [] σ τ _
          refine Rx.go (fun _ => rfl) ?_
          refine Rx.go (fun _ => rfl) ?_
          show Rx X c0 m_Mod_value 96 [.ref (c0 + 16), .int (nI (i + 1)), .int (nI sc), .long v, ev_dead, .int (nI sc), .int (nI k), .int (nI ((bys ts i).getD k 0))] [] σ τ _
          refine Rx.go (fun _ => rfl) ?_
          refine Rx.scallE rfl rfl rfl rfl (sx_Mod_isDigit X _) ?_
          show Rx X c0 m_Mod_value 101 [.ref (c0 + 16), .int (nI (i + 1)), .int (nI sc), .long v, ev_dead, .int (nI sc), .int (nI k), .int (nI ((bys ts i).getD k 0))] [.int (bi (isD (nI ((bys ts i).getD k 0))))] σ τ _
          refine Rx.go (fun _ => rfl) ?_
          refine Rx.ite (fun c7 => ?_) (fun c7 => ?_)
          · replace c7 : (isD (nI ((bys ts i).getD k 0))) = true := bi_net c7
            show Rx X c0 m_Mod_value 107 [.ref (c0 + 16), .int (nI (i + 1)), .int (nI sc), .long v, ev_dead, .int (nI sc), .int (nI k), .int (nI ((bys ts i).getD k 0))] [] σ τ _
            refine Rx.go (fun _ => rfl) ?_
            refine Rx.go (fun _ => rfl) ?_
            refine Rx.go (fun _ => rfl) ?_
            refine Rx.go (fun _ => rfl) ?_
            refine Rx.go (fun _ => rfl) ?_
            refine Rx.go (fun _ => rfl) ?_
            refine Rx.go (fun _ => rfl) ?_
            refine Rx.go (fun _ => rfl) ?_
            refine Rx.go (fun _ => rfl) ?_
            show Rx X c0 m_Mod_value 121 [.ref (c0 + 16), .int (nI (i + 1)), .int (nI sc), .long (((10 * v) + ((nI ((bys ts i).getD k 0)).toInt64)) - 48), ev_dead, .int (nI sc), .int (nI k), .int (nI ((bys ts i).getD k 0))] [] σ τ _
            refine Rx.go (fun _ => rfl) ?_
            show Rx X c0 m_Mod_value 124 [.ref (c0 + 16), .int (nI (i + 1)), .int (nI sc), .long (((10 * v) + ((nI ((bys ts i).getD k 0)).toInt64)) - 48), ev_dead, .int ((nI sc) + (-1)), .int (nI k), .int (nI ((bys ts i).getD k 0))] [] σ τ _
            refine Rx.go (fun _ => rfl) ?_
            show Rx X c0 m_Mod_value 127 [.ref (c0 + 16), .int (nI (i + 1)), .int (nI sc), .long (((10 * v) + ((nI ((bys ts i).getD k 0)).toInt64)) - 48), ev_dead, .int ((nI sc) + (-1)), .int ((nI k) + 1), .int (nI ((bys ts i).getD k 0))] [] σ τ _
            refine Rx.go (fun _ => rfl) ?_
            show Rx X c0 m_Mod_value 62 [.ref (c0 + 16), .int (nI (i + 1)), .int (nI sc), .long (((10 * v) + ((nI ((bys ts i).getD k 0)).toInt64)) - 48), ev_dead, .int ((nI sc) + (-1)), .int ((nI k) + 1), .int (nI ((bys ts i).getD k 0))] [] σ τ _
            exact absurd c7 (by rw [c5]; decide)
          · replace c7 : (isD (nI ((bys ts i).getD k 0))) = false := bi_nef c7
            show Rx X c0 m_Mod_value 104 [.ref (c0 + 16), .int (nI (i + 1)), .int (nI sc), .long v, ev_dead, .int (nI sc), .int (nI k), .int (nI ((bys ts i).getD k 0))] [] σ τ _
            refine Rx.go (fun _ => rfl) ?_
            refine Rx.go (fun _ => rfl) ?_
            show Rx X c0 m_Mod_value 127 [.ref (c0 + 16), .int (nI (i + 1)), .int (nI sc), .long v, ev_dead, .int (nI sc), .int ((nI k) + 1), .int (nI ((bys ts i).getD k 0))] [] σ τ _
            refine Rx.go (fun _ => rfl) ?_
            show Rx X c0 m_Mod_value 62 [.ref (c0 + 16), .int (nI (i + 1)), .int (nI sc), .long v, ev_dead, .int (nI sc), .int ((nI k) + 1), .int (nI ((bys ts i).getD k 0))] [] σ τ _
            rw [nI_1 k]
            exact ih (k + 1) _ _ _ hlt (by omega) (by rw [← hv, vg_s hlt c3, if_pos (bt_e hR hi (n := 46) rfl (by decide) c5)])
set_option maxRecDepth 100000 in
set_option maxHeartbeats 1000000 in
theorem rx_value_n (X : ev_X) (c0 : Nat) (σ : Nat → Int32) (τ : Nat → Nat → Int32) {ts : RT} (hR : rt σ τ ts) {i : Nat} (hi : i < ts.length) {sc : Nat} (hn : knd ts i = 3 ∨ knd ts i = 4) (hsc : Rx X c0 m_Mod_scale 0 [.ref (c0 + 16), .int (nI (i + 1)), ev_dead, ev_dead] [] σ τ (fun r σ' τ' => r = some (.int (nI sc)) ∧ σ' = σ ∧ τ' = τ)) : Rx X c0 m_Mod_value 0 [.ref (c0 + 16), .int (nI (i + 1)), ev_dead, ev_dead, ev_dead, ev_dead, ev_dead, ev_dead] [] σ τ (fun r σ' τ' => r = some (.long (vlu (nI sc) (bys ts i))) ∧ σ' = σ ∧ τ' = τ) := by
  refine Rx.go (fun _ => rfl) ?_
  refine Rx.go (fun _ => rfl) ?_
  refine Rx.callE rfl rfl rfl rfl (rx_isT X c0 _ _ hR hi) ?_
  show Rx X c0 m_Mod_value 5 [.ref (c0 + 16), .int (nI (i + 1)), ev_dead, ev_dead, ev_dead, ev_dead, ev_dead, ev_dead] [.int 1] σ τ _
  refine Rx.go (fun _ => rfl) ?_
  show Rx X c0 m_Mod_value 10 [.ref (c0 + 16), .int (nI (i + 1)), ev_dead, ev_dead, ev_dead, ev_dead, ev_dead, ev_dead] [] σ τ _
  refine Rx.go (fun _ => rfl) ?_
  refine Rx.get rfl rfl ?_
  refine Rx.go (fun _ => rfl) ?_
  refine Rx.aldE (v := nI (knd ts i)) 5 rfl rfl (nI_ix (N := 2002) (n := i + 1) (by have := hR.2.1; omega) (by decide)) (rt_k hR hi) ?_
  refine Rx.go (fun _ => rfl) ?_
  refine Rx.go (fun _ => rfl) ?_
  refine Rx.ite (fun c1 => ?_) (fun c1 => ?_)
  · replace c1 : ¬ (nI (knd ts i)) = 8 := of_decide_eq_true c1
    show Rx X c0 m_Mod_value 38 [.ref (c0 + 16), .int (nI (i + 1)), ev_dead, ev_dead, ev_dead, ev_dead, ev_dead, ev_dead] [] σ τ _
    refine Rx.go (fun _ => rfl) ?_
    refine Rx.go (fun _ => rfl) ?_
    refine Rx.callE rfl rfl rfl rfl (rx_isNum X c0 _ _ hR hi) ?_
    show Rx X c0 m_Mod_value 43 [.ref (c0 + 16), .int (nI (i + 1)), ev_dead, ev_dead, ev_dead, ev_dead, ev_dead, ev_dead] [.int (bi (decide (knd ts i = 3) || decide (knd ts i = 4)))] σ τ _
    refine Rx.go (fun _ => rfl) ?_
    refine Rx.ite (fun c2 => ?_) (fun c2 => ?_)
    · replace c2 : (decide (knd ts i = 3) || decide (knd ts i = 4)) = true := bi_net c2
      show Rx X c0 m_Mod_value 48 [.ref (c0 + 16), .int (nI (i + 1)), ev_dead, ev_dead, ev_dead, ev_dead, ev_dead, ev_dead] [] σ τ _
      refine Rx.go (fun _ => rfl) ?_
      refine Rx.go (fun _ => rfl) ?_
      refine Rx.callE rfl rfl rfl rfl hsc ?_
      show Rx X c0 m_Mod_value 53 [.ref (c0 + 16), .int (nI (i + 1)), ev_dead, ev_dead, ev_dead, ev_dead, ev_dead, ev_dead] [.int (nI sc)] σ τ _
      refine Rx.go (fun _ => rfl) ?_
      show Rx X c0 m_Mod_value 54 [.ref (c0 + 16), .int (nI (i + 1)), .int (nI sc), ev_dead, ev_dead, ev_dead, ev_dead, ev_dead] [] σ τ _
      refine Rx.go (fun _ => rfl) ?_
      refine Rx.go (fun _ => rfl) ?_
      show Rx X c0 m_Mod_value 56 [.ref (c0 + 16), .int (nI (i + 1)), .int (nI sc), .long 0, ev_dead, ev_dead, ev_dead, ev_dead] [] σ τ _
      refine Rx.go (fun _ => rfl) ?_
      refine Rx.go (fun _ => rfl) ?_
      show Rx X c0 m_Mod_value 59 [.ref (c0 + 16), .int (nI (i + 1)), .int (nI sc), .long 0, ev_dead, .int (-1), ev_dead, ev_dead] [] σ τ _
      refine Rx.go (fun _ => rfl) ?_
      refine Rx.go (fun _ => rfl) ?_
      show Rx X c0 m_Mod_value 62 [.ref (c0 + 16), .int (nI (i + 1)), .int (nI sc), .long 0, ev_dead, .int (-1), .int 0, ev_dead] [] σ τ _
      show Rx X c0 m_Mod_value 62 [.ref (c0 + 16), .int (nI (i + 1)), .int (nI sc), .long 0, ev_dead, .int (-1), .int 0, ev_dead] [] σ τ _
      exact rx_value_l X c0 σ τ hR hi ((bys ts i).length + 1) 0 0 (-1) _ (Nat.zero_le _) (by omega) rfl
    · replace c2 : (decide (knd ts i = 3) || decide (knd ts i = 4)) = false := bi_nef c2
      show Rx X c0 m_Mod_value 46 [.ref (c0 + 16), .int (nI (i + 1)), ev_dead, ev_dead, ev_dead, ev_dead, ev_dead, ev_dead] [] σ τ _
      refine Rx.go (fun _ => rfl) ?_
      show Rx X c0 m_Mod_value 47 [.ref (c0 + 16), .int (nI (i + 1)), ev_dead, ev_dead, ev_dead, ev_dead, ev_dead, ev_dead] [.long 0] σ τ _
      exact absurd hn (num_f c2)
  · replace c1 : (nI (knd ts i)) = 8 := Classical.not_not.mp (of_decide_eq_false c1)
    show Rx X c0 m_Mod_value 21 [.ref (c0 + 16), .int (nI (i + 1)), ev_dead, ev_dead, ev_dead, ev_dead, ev_dead, ev_dead] [] σ τ _
    refine Rx.go (fun _ => rfl) ?_
    refine Rx.go (fun _ => rfl) ?_
    refine Rx.go (fun _ => rfl) ?_
    refine Rx.callE rfl rfl rfl rfl (rx_byteAt X c0 _ _ hR hi (j := 0) (by decide)) ?_
    show Rx X c0 m_Mod_value 27 [.ref (c0 + 16), .int (nI (i + 1)), ev_dead, ev_dead, ev_dead, ev_dead, ev_dead, ev_dead] [.int (nI ((bys ts i).getD 0 0))] σ τ _
    refine Rx.go (fun _ => rfl) ?_
    refine Rx.go (fun _ => rfl) ?_
    refine Rx.ite (fun c3 => ?_) (fun c3 => ?_)
    · replace c3 : ¬ (nI ((bys ts i).getD 0 0)) = 116 := of_decide_eq_true c3
      show Rx X c0 m_Mod_value 36 [.ref (c0 + 16), .int (nI (i + 1)), ev_dead, ev_dead, ev_dead, ev_dead, ev_dead, ev_dead] [] σ τ _
      refine Rx.go (fun _ => rfl) ?_
      show Rx X c0 m_Mod_value 37 [.ref (c0 + 16), .int (nI (i + 1)), ev_dead, ev_dead, ev_dead, ev_dead, ev_dead, ev_dead] [.long 0] σ τ _
      exact absurd (kn_e hR hi (n := 8) rfl (by decide) c1) (by omega)
    · replace c3 : (nI ((bys ts i).getD 0 0)) = 116 := Classical.not_not.mp (of_decide_eq_false c3)
      show Rx X c0 m_Mod_value 32 [.ref (c0 + 16), .int (nI (i + 1)), ev_dead, ev_dead, ev_dead, ev_dead, ev_dead, ev_dead] [] σ τ _
      refine Rx.go (fun _ => rfl) ?_
      refine Rx.go (fun _ => rfl) ?_
      show Rx X c0 m_Mod_value 37 [.ref (c0 + 16), .int (nI (i + 1)), ev_dead, ev_dead, ev_dead, ev_dead, ev_dead, ev_dead] [.long 1] σ τ _
      exact absurd (kn_e hR hi (n := 8) rfl (by decide) c1) (by omega)
set_option maxRecDepth 100000 in
set_option maxHeartbeats 1000000 in
theorem rx_value_t (X : ev_X) (c0 : Nat) (σ : Nat → Int32) (τ : Nat → Nat → Int32) {ts : RT} (hR : rt σ τ ts) {i : Nat} (hi : i < ts.length) (h8 : knd ts i = 8) : Rx X c0 m_Mod_value 0 [.ref (c0 + 16), .int (nI (i + 1)), ev_dead, ev_dead, ev_dead, ev_dead, ev_dead, ev_dead] [] σ τ (fun r σ' τ' => r = some (.long (if (bys ts i).getD 0 0 = 116 then 1 else 0)) ∧ σ' = σ ∧ τ' = τ) := by
  refine Rx.go (fun _ => rfl) ?_
  refine Rx.go (fun _ => rfl) ?_
  refine Rx.callE rfl rfl rfl rfl (rx_isT X c0 _ _ hR hi) ?_
  show Rx X c0 m_Mod_value 5 [.ref (c0 + 16), .int (nI (i + 1)), ev_dead, ev_dead, ev_dead, ev_dead, ev_dead, ev_dead] [.int 1] σ τ _
  refine Rx.go (fun _ => rfl) ?_
  show Rx X c0 m_Mod_value 10 [.ref (c0 + 16), .int (nI (i + 1)), ev_dead, ev_dead, ev_dead, ev_dead, ev_dead, ev_dead] [] σ τ _
  refine Rx.go (fun _ => rfl) ?_
  refine Rx.get rfl rfl ?_
  refine Rx.go (fun _ => rfl) ?_
  refine Rx.aldE (v := nI (knd ts i)) 5 rfl rfl (nI_ix (N := 2002) (n := i + 1) (by have := hR.2.1; omega) (by decide)) (rt_k hR hi) ?_
  refine Rx.go (fun _ => rfl) ?_
  refine Rx.go (fun _ => rfl) ?_
  refine Rx.ite (fun c1 => ?_) (fun c1 => ?_)
  · replace c1 : ¬ (nI (knd ts i)) = 8 := of_decide_eq_true c1
    show Rx X c0 m_Mod_value 38 [.ref (c0 + 16), .int (nI (i + 1)), ev_dead, ev_dead, ev_dead, ev_dead, ev_dead, ev_dead] [] σ τ _
    show Rx X c0 m_Mod_value 38 [.ref (c0 + 16), .int (nI (i + 1)), ev_dead, ev_dead, ev_dead, ev_dead, ev_dead, ev_dead] [] σ τ _
    exact absurd h8 (kn_n (n := 8) rfl c1)
  · replace c1 : (nI (knd ts i)) = 8 := Classical.not_not.mp (of_decide_eq_false c1)
    show Rx X c0 m_Mod_value 21 [.ref (c0 + 16), .int (nI (i + 1)), ev_dead, ev_dead, ev_dead, ev_dead, ev_dead, ev_dead] [] σ τ _
    refine Rx.go (fun _ => rfl) ?_
    refine Rx.go (fun _ => rfl) ?_
    refine Rx.go (fun _ => rfl) ?_
    refine Rx.callE rfl rfl rfl rfl (rx_byteAt X c0 _ _ hR hi (j := 0) (by decide)) ?_
    show Rx X c0 m_Mod_value 27 [.ref (c0 + 16), .int (nI (i + 1)), ev_dead, ev_dead, ev_dead, ev_dead, ev_dead, ev_dead] [.int (nI ((bys ts i).getD 0 0))] σ τ _
    refine Rx.go (fun _ => rfl) ?_
    refine Rx.go (fun _ => rfl) ?_
    refine Rx.ite (fun c2 => ?_) (fun c2 => ?_)
    · replace c2 : ¬ (nI ((bys ts i).getD 0 0)) = 116 := of_decide_eq_true c2
      show Rx X c0 m_Mod_value 36 [.ref (c0 + 16), .int (nI (i + 1)), ev_dead, ev_dead, ev_dead, ev_dead, ev_dead, ev_dead] [] σ τ _
      refine Rx.go (fun _ => rfl) ?_
      show Rx X c0 m_Mod_value 37 [.ref (c0 + 16), .int (nI (i + 1)), ev_dead, ev_dead, ev_dead, ev_dead, ev_dead, ev_dead] [.long 0] σ τ _
      exact Rx.ret rfl rfl ⟨by rw [if_neg (bt_n (n := 116) rfl c2)], rfl, rfl⟩
    · replace c2 : (nI ((bys ts i).getD 0 0)) = 116 := Classical.not_not.mp (of_decide_eq_false c2)
      show Rx X c0 m_Mod_value 32 [.ref (c0 + 16), .int (nI (i + 1)), ev_dead, ev_dead, ev_dead, ev_dead, ev_dead, ev_dead] [] σ τ _
      refine Rx.go (fun _ => rfl) ?_
      refine Rx.go (fun _ => rfl) ?_
      show Rx X c0 m_Mod_value 37 [.ref (c0 + 16), .int (nI (i + 1)), ev_dead, ev_dead, ev_dead, ev_dead, ev_dead, ev_dead] [.long 1] σ τ _
      exact Rx.ret rfl rfl ⟨by rw [if_pos (bt_e hR hi (n := 116) rfl (by decide) c2)], rfl, rfl⟩
set_option maxRecDepth 100000 in
set_option maxHeartbeats 1000000 in
theorem rx_value_0 (X : ev_X) (c0 : Nat) (σ : Nat → Int32) (τ : Nat → Nat → Int32) {ts : RT} (hR : rt σ τ ts) {i : Nat} (hi : i < ts.length) (h8 : knd ts i ≠ 8) (hn : ¬ (knd ts i = 3 ∨ knd ts i = 4)) : Rx X c0 m_Mod_value 0 [.ref (c0 + 16), .int (nI (i + 1)), ev_dead, ev_dead, ev_dead, ev_dead, ev_dead, ev_dead] [] σ τ (fun r σ' τ' => r = some (.long 0) ∧ σ' = σ ∧ τ' = τ) := by
  refine Rx.go (fun _ => rfl) ?_
  refine Rx.go (fun _ => rfl) ?_
  refine Rx.callE rfl rfl rfl rfl (rx_isT X c0 _ _ hR hi) ?_
  show Rx X c0 m_Mod_value 5 [.ref (c0 + 16), .int (nI (i + 1)), ev_dead, ev_dead, ev_dead, ev_dead, ev_dead, ev_dead] [.int 1] σ τ _
  refine Rx.go (fun _ => rfl) ?_
  show Rx X c0 m_Mod_value 10 [.ref (c0 + 16), .int (nI (i + 1)), ev_dead, ev_dead, ev_dead, ev_dead, ev_dead, ev_dead] [] σ τ _
  refine Rx.go (fun _ => rfl) ?_
  refine Rx.get rfl rfl ?_
  refine Rx.go (fun _ => rfl) ?_
  refine Rx.aldE (v := nI (knd ts i)) 5 rfl rfl (nI_ix (N := 2002) (n := i + 1) (by have := hR.2.1; omega) (by decide)) (rt_k hR hi) ?_
  refine Rx.go (fun _ => rfl) ?_
  refine Rx.go (fun _ => rfl) ?_
  refine Rx.ite (fun c1 => ?_) (fun c1 => ?_)
  · replace c1 : ¬ (nI (knd ts i)) = 8 := of_decide_eq_true c1
    show Rx X c0 m_Mod_value 38 [.ref (c0 + 16), .int (nI (i + 1)), ev_dead, ev_dead, ev_dead, ev_dead, ev_dead, ev_dead] [] σ τ _
    refine Rx.go (fun _ => rfl) ?_
    refine Rx.go (fun _ => rfl) ?_
    refine Rx.callE rfl rfl rfl rfl (rx_isNum X c0 _ _ hR hi) ?_
    show Rx X c0 m_Mod_value 43 [.ref (c0 + 16), .int (nI (i + 1)), ev_dead, ev_dead, ev_dead, ev_dead, ev_dead, ev_dead] [.int (bi (decide (knd ts i = 3) || decide (knd ts i = 4)))] σ τ _
    refine Rx.go (fun _ => rfl) ?_
    refine Rx.ite (fun c2 => ?_) (fun c2 => ?_)
    · replace c2 : (decide (knd ts i = 3) || decide (knd ts i = 4)) = true := bi_net c2
      show Rx X c0 m_Mod_value 48 [.ref (c0 + 16), .int (nI (i + 1)), ev_dead, ev_dead, ev_dead, ev_dead, ev_dead, ev_dead] [] σ τ _
      show Rx X c0 m_Mod_value 48 [.ref (c0 + 16), .int (nI (i + 1)), ev_dead, ev_dead, ev_dead, ev_dead, ev_dead, ev_dead] [] σ τ _
      exact absurd (num_t c2) hn
    · replace c2 : (decide (knd ts i = 3) || decide (knd ts i = 4)) = false := bi_nef c2
      show Rx X c0 m_Mod_value 46 [.ref (c0 + 16), .int (nI (i + 1)), ev_dead, ev_dead, ev_dead, ev_dead, ev_dead, ev_dead] [] σ τ _
      refine Rx.go (fun _ => rfl) ?_
      show Rx X c0 m_Mod_value 47 [.ref (c0 + 16), .int (nI (i + 1)), ev_dead, ev_dead, ev_dead, ev_dead, ev_dead, ev_dead] [.long 0] σ τ _
      exact Rx.ret rfl rfl ⟨rfl, rfl, rfl⟩
  · replace c1 : (nI (knd ts i)) = 8 := Classical.not_not.mp (of_decide_eq_false c1)
    show Rx X c0 m_Mod_value 21 [.ref (c0 + 16), .int (nI (i + 1)), ev_dead, ev_dead, ev_dead, ev_dead, ev_dead, ev_dead] [] σ τ _
    refine Rx.go (fun _ => rfl) ?_
    refine Rx.go (fun _ => rfl) ?_
    refine Rx.go (fun _ => rfl) ?_
    refine Rx.callE rfl rfl rfl rfl (rx_byteAt X c0 _ _ hR hi (j := 0) (by decide)) ?_
    show Rx X c0 m_Mod_value 27 [.ref (c0 + 16), .int (nI (i + 1)), ev_dead, ev_dead, ev_dead, ev_dead, ev_dead, ev_dead] [.int (nI ((bys ts i).getD 0 0))] σ τ _
    refine Rx.go (fun _ => rfl) ?_
    refine Rx.go (fun _ => rfl) ?_
    refine Rx.ite (fun c3 => ?_) (fun c3 => ?_)
    · replace c3 : ¬ (nI ((bys ts i).getD 0 0)) = 116 := of_decide_eq_true c3
      show Rx X c0 m_Mod_value 36 [.ref (c0 + 16), .int (nI (i + 1)), ev_dead, ev_dead, ev_dead, ev_dead, ev_dead, ev_dead] [] σ τ _
      refine Rx.go (fun _ => rfl) ?_
      show Rx X c0 m_Mod_value 37 [.ref (c0 + 16), .int (nI (i + 1)), ev_dead, ev_dead, ev_dead, ev_dead, ev_dead, ev_dead] [.long 0] σ τ _
      exact absurd (kn_e hR hi (n := 8) rfl (by decide) c1) h8
    · replace c3 : (nI ((bys ts i).getD 0 0)) = 116 := Classical.not_not.mp (of_decide_eq_false c3)
      show Rx X c0 m_Mod_value 32 [.ref (c0 + 16), .int (nI (i + 1)), ev_dead, ev_dead, ev_dead, ev_dead, ev_dead, ev_dead] [] σ τ _
      refine Rx.go (fun _ => rfl) ?_
      refine Rx.go (fun _ => rfl) ?_
      show Rx X c0 m_Mod_value 37 [.ref (c0 + 16), .int (nI (i + 1)), ev_dead, ev_dead, ev_dead, ev_dead, ev_dead, ev_dead] [.long 1] σ τ _
      exact absurd (kn_e hR hi (n := 8) rfl (by decide) c1) h8
