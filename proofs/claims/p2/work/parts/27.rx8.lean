/-! order, same, less of the reference. (rows laid by wip/whole/rx9.py) -/
abbrev rnk (k : Nat) : Nat := if k = 4 then 3 else k
/-- term i's bytes are those of a term whose body is B; T: what stands behind the text -/
def twf (ts : RT) (i : Nat) (B T : List Nat) : Prop := (1 ≤ knd ts i ∧ knd ts i ≤ 8) ∧ (knd ts i = 1 → seg (bys ts i) (bys ts i).length 2 B) ∧ (knd ts i = 2 → 1 ≤ (bys ts i).length ∧ seg (bys ts i) ((bys ts i).length - 1) 1 B) ∧ (5 ≤ knd ts i → knd ts i ≤ 7 → 1 ≤ (bys ts i).length ∧ quo ts i ≤ (bys ts i).length ∧ seg (bys ts i) (quo ts i) 1 B ∧ seg (bys ts i) ((bys ts i).length - (if knd ts i = 7 then 1 else 0)) (quo ts i + 1) T)
def ordv (ka kb : Nat) (la lb Ba Bb Ta Tb : List Nat) : Int32 := if rnk ka = rnk kb then (if ka = 3 ∨ ka = 4 then (if onum la lb = 0 then sgn (nI ka - nI kb) else onum la lb) else if ka = 8 then (if la.getD 0 0 = 102 then -1 else 1) else if ka = 1 ∨ ka = 2 then lexc Ba Bb else if lexc Ba Bb = 0 then lexc Ta Tb else lexc Ba Bb) else sgn (nI (rnk ka) - nI (rnk kb))
theorem rk_e {σ : Nat → Int32} {τ : Nat → Nat → Int32} {ts : RT} (hR : rt σ τ ts) {ia ib : Nat} (hia : ia < ts.length) (hib : ib < ts.length) (c : nI (rnk (knd ts ia)) = nI (rnk (knd ts ib))) : rnk (knd ts ia) = rnk (knd ts ib) := (nI_eq (by have := (rt_ok hR hia).2.1; unfold rnk; split <;> omega) (by have := (rt_ok hR hib).2.1; unfold rnk; split <;> omega)).mp c
theorem rk_same {a b : Nat} (h : rnk a = rnk b) (hn : ¬ (a = 3 ∨ a = 4)) : a = b := by
  unfold rnk at h; split at h <;> split at h <;> omega
theorem num_t {a : Nat} (c : (decide (a = 3) || decide (a = 4)) = true) : a = 3 ∨ a = 4 := by simpa using c
theorem num_f {a : Nat} (c : (decide (a = 3) || decide (a = 4)) = false) : ¬ (a = 3 ∨ a = 4) := by simpa using c
theorem ix_ne {a b : Nat} (c : ¬ nI (a + 1) = nI (b + 1)) : a ≠ b := fun q => c (by rw [q])
theorem ix_eq {σ : Nat → Int32} {τ : Nat → Nat → Int32} {ts : RT} (hR : rt σ τ ts) {a b : Nat} (ha : a < ts.length) (hb : b < ts.length) (c : nI (a + 1) = nI (b + 1)) : a = b := by
  have := (nI_eq (by have := hR.2.1; omega) (by have := hR.2.1; omega)).mp c; omega
section ORD
variable {σ : Nat → Int32} {τ : Nat → Nat → Int32} {ts : RT} {ia ib : Nat} {Ba Bb Ta Tb : List Nat} {ka kb : Nat} {la lb : List Nat}
theorem ov_r (h : rnk ka ≠ rnk kb) : ordv ka kb la lb Ba Bb Ta Tb = sgn (nI (rnk ka) - nI (rnk kb)) := if_neg h
theorem ov_n0 (h : rnk ka = rnk kb) (hn : ka = 3 ∨ ka = 4) (h0 : onum la lb = 0) : ordv ka kb la lb Ba Bb Ta Tb = sgn (nI ka - nI kb) := by rw [ordv, if_pos h, if_pos hn, if_pos h0]
theorem ov_n1 (h : rnk ka = rnk kb) (hn : ka = 3 ∨ ka = 4) (h0 : ¬ onum la lb = 0) : ordv ka kb la lb Ba Bb Ta Tb = onum la lb := by rw [ordv, if_pos h, if_pos hn, if_neg h0]
theorem ov_t (h : rnk ka = rnk kb) (hn : ¬ (ka = 3 ∨ ka = 4)) (h8 : ka = 8) (b : Prop) [Decidable b] (hb : b ↔ la.getD 0 0 = 102) : ordv ka kb la lb Ba Bb Ta Tb = if b then -1 else 1 := by
  rw [ordv, if_pos h, if_neg hn, if_pos h8]; by_cases q : b
  · rw [if_pos q, if_pos (hb.mp q)]
  · rw [if_neg q, if_neg (fun z => q (hb.mpr z))]
theorem ov_b (h : rnk ka = rnk kb) (h1 : ka = 1 ∨ ka = 2) : ordv ka kb la lb Ba Bb Ta Tb = lexc Ba Bb := by rw [ordv, if_pos h, if_neg (by omega), if_neg (by omega), if_pos h1]
theorem ov_x1 (h : rnk ka = rnk kb) (h1 : 5 ≤ ka ∧ ka ≤ 7) (h0 : ¬ lexc Ba Bb = 0) : ordv ka kb la lb Ba Bb Ta Tb = lexc Ba Bb := by rw [ordv, if_pos h, if_neg (by omega), if_neg (by omega), if_neg (by omega), if_neg h0]
theorem ov_x0 (h : rnk ka = rnk kb) (h1 : 5 ≤ ka ∧ ka ≤ 7) (h0 : lexc Ba Bb = 0) : ordv ka kb la lb Ba Bb Ta Tb = lexc Ta Tb := by rw [ordv, if_pos h, if_neg (by omega), if_neg (by omega), if_neg (by omega), if_pos h0]
end ORD
theorem ln1 {n : Nat} (h : 1 ≤ n) : nI n - 1 = nI (n - 1) := pk_sub (b := 1) h
theorem ln0 (n : Nat) : nI n - 0 = nI (n - 0) := by rw [Int32.sub_zero]; rfl
set_option maxRecDepth 100000 in
set_option maxHeartbeats 1000000 in
theorem rx_order (X : ev_X) (c0 : Nat) (σ : Nat → Int32) (τ : Nat → Nat → Int32) {ts : RT} (hR : rt σ τ ts) {ia ib : Nat} (hia : ia < ts.length) (hib : ib < ts.length) {Ba Bb Ta Tb : List Nat} (hA : twf ts ia Ba Ta) (hB : twf ts ib Bb Tb) : Rx X c0 m_Mod_order 0 [.ref (c0 + 16), .int (nI (ia + 1)), .int (nI (ib + 1)), ev_dead, ev_dead] [] σ τ (fun r σ' τ' => r = some (.int (if ia = ib then 0 else ordv (knd ts ia) (knd ts ib) (bys ts ia) (bys ts ib) Ba Bb Ta Tb)) ∧ σ' = σ ∧ τ' = τ) := by
  refine Rx.go (fun _ => rfl) ?_
  refine Rx.go (fun _ => rfl) ?_
  refine Rx.callE rfl rfl rfl rfl (rx_isT X c0 _ _ hR hia) ?_
  show Rx X c0 m_Mod_order 5 [.ref (c0 + 16), .int (nI (ia + 1)), .int (nI (ib + 1)), ev_dead, ev_dead] [.int 1] σ τ _
  refine Rx.go (fun _ => rfl) ?_
  show Rx X c0 m_Mod_order 8 [.ref (c0 + 16), .int (nI (ia + 1)), .int (nI (ib + 1)), ev_dead, ev_dead] [] σ τ _
  refine Rx.go (fun _ => rfl) ?_
  refine Rx.go (fun _ => rfl) ?_
  refine Rx.callE rfl rfl rfl rfl (rx_isT X c0 _ _ hR hib) ?_
  show Rx X c0 m_Mod_order 13 [.ref (c0 + 16), .int (nI (ia + 1)), .int (nI (ib + 1)), ev_dead, ev_dead] [.int 1] σ τ _
  refine Rx.go (fun _ => rfl) ?_
  show Rx X c0 m_Mod_order 18 [.ref (c0 + 16), .int (nI (ia + 1)), .int (nI (ib + 1)), ev_dead, ev_dead] [] σ τ _
  refine Rx.go (fun _ => rfl) ?_
  refine Rx.go (fun _ => rfl) ?_
  refine Rx.go (fun _ => rfl) ?_
  refine Rx.ite (fun c1 => ?_) (fun c1 => ?_)
  · replace c1 : ¬ (nI (ia + 1)) = (nI (ib + 1)) := of_decide_eq_true c1
    show Rx X c0 m_Mod_order 25 [.ref (c0 + 16), .int (nI (ia + 1)), .int (nI (ib + 1)), ev_dead, ev_dead] [] σ τ _
    refine Rx.go (fun _ => rfl) ?_
    refine Rx.go (fun _ => rfl) ?_
    refine Rx.callE rfl rfl rfl rfl (rx_rnk X c0 _ _ hR hia) ?_
    show Rx X c0 m_Mod_order 30 [.ref (c0 + 16), .int (nI (ia + 1)), .int (nI (ib + 1)), ev_dead, ev_dead] [.int (nI (rnk (knd ts ia)))] σ τ _
    refine Rx.go (fun _ => rfl) ?_
    refine Rx.go (fun _ => rfl) ?_
    refine Rx.callE rfl rfl rfl rfl (rx_rnk X c0 _ _ hR hib) ?_
    show Rx X c0 m_Mod_order 35 [.ref (c0 + 16), .int (nI (ia + 1)), .int (nI (ib + 1)), ev_dead, ev_dead] [.int (nI (rnk (knd ts ib))), .int (nI (rnk (knd ts ia)))] σ τ _
    refine Rx.go (fun _ => rfl) ?_
    refine Rx.ite (fun c2 => ?_) (fun c2 => ?_)
    · replace c2 : (nI (rnk (knd ts ia))) = (nI (rnk (knd ts ib))) := of_decide_eq_true c2
      show Rx X c0 m_Mod_order 53 [.ref (c0 + 16), .int (nI (ia + 1)), .int (nI (ib + 1)), ev_dead, ev_dead] [] σ τ _
      refine Rx.go (fun _ => rfl) ?_
      refine Rx.go (fun _ => rfl) ?_
      refine Rx.callE rfl rfl rfl rfl (rx_isNum X c0 _ _ hR hia) ?_
      show Rx X c0 m_Mod_order 58 [.ref (c0 + 16), .int (nI (ia + 1)), .int (nI (ib + 1)), ev_dead, ev_dead] [.int (bi (decide (knd ts ia = 3) || decide (knd ts ia = 4)))] σ τ _
      refine Rx.go (fun _ => rfl) ?_
      refine Rx.ite (fun c3 => ?_) (fun c3 => ?_)
      · replace c3 : (decide (knd ts ia = 3) || decide (knd ts ia = 4)) = false := bi_eqt c3
        have hkk := rk_same (rk_e hR hia hib c2) (num_f c3)
        show Rx X c0 m_Mod_order 93 [.ref (c0 + 16), .int (nI (ia + 1)), .int (nI (ib + 1)), ev_dead, ev_dead] [] σ τ _
        refine Rx.go (fun _ => rfl) ?_
        refine Rx.get rfl rfl ?_
        refine Rx.go (fun _ => rfl) ?_
        refine Rx.aldE (v := nI (knd ts ia)) 5 rfl rfl (nI_ix (N := 2002) (n := ia + 1) (by have := hR.2.1; omega) (by decide)) (rt_k hR hia) ?_
        refine Rx.go (fun _ => rfl) ?_
        refine Rx.go (fun _ => rfl) ?_
        refine Rx.ite (fun c4 => ?_) (fun c4 => ?_)
        · replace c4 : ¬ (nI (knd ts ia)) = 8 := of_decide_eq_true c4
          show Rx X c0 m_Mod_order 121 [.ref (c0 + 16), .int (nI (ia + 1)), .int (nI (ib + 1)), ev_dead, ev_dead] [] σ τ _
          refine Rx.go (fun _ => rfl) ?_
          refine Rx.get rfl rfl ?_
          refine Rx.go (fun _ => rfl) ?_
          refine Rx.aldE (v := nI (knd ts ia)) 5 rfl rfl (nI_ix (N := 2002) (n := ia + 1) (by have := hR.2.1; omega) (by decide)) (rt_k hR hia) ?_
          refine Rx.go (fun _ => rfl) ?_
          refine Rx.go (fun _ => rfl) ?_
          refine Rx.ite (fun c5 => ?_) (fun c5 => ?_)
          · replace c5 : ¬ (nI (knd ts ia)) = 1 := of_decide_eq_true c5
            show Rx X c0 m_Mod_order 150 [.ref (c0 + 16), .int (nI (ia + 1)), .int (nI (ib + 1)), ev_dead, ev_dead] [] σ τ _
            refine Rx.go (fun _ => rfl) ?_
            refine Rx.get rfl rfl ?_
            refine Rx.go (fun _ => rfl) ?_
            refine Rx.aldE (v := nI (knd ts ia)) 5 rfl rfl (nI_ix (N := 2002) (n := ia + 1) (by have := hR.2.1; omega) (by decide)) (rt_k hR hia) ?_
            refine Rx.go (fun _ => rfl) ?_
            refine Rx.go (fun _ => rfl) ?_
            refine Rx.ite (fun c6 => ?_) (fun c6 => ?_)
            · replace c6 : ¬ (nI (knd ts ia)) = 2 := of_decide_eq_true c6
              have h57 : 5 ≤ knd ts ia ∧ knd ts ia ≤ 7 := by
                have z3 := hA.1
                have z4 := num_f c3
                have z8 := kn_n (n := 8) rfl c4
                have z1 := kn_n (n := 1) rfl c5
                have z2 := kn_n (n := 2) rfl c6
                omega
              have hA4 := hA.2.2.2 h57.1 h57.2
              have hB4 := hB.2.2.2 (by omega) (by omega)
              show Rx X c0 m_Mod_order 183 [.ref (c0 + 16), .int (nI (ia + 1)), .int (nI (ib + 1)), ev_dead, ev_dead] [] σ τ _
              refine Rx.go (fun _ => rfl) ?_
              refine Rx.go (fun _ => rfl) ?_
              refine Rx.go (fun _ => rfl) ?_
              refine Rx.go (fun _ => rfl) ?_
              refine Rx.get rfl rfl ?_
              refine Rx.go (fun _ => rfl) ?_
              refine Rx.aldE (v := nI (quo ts ia)) 6 rfl rfl (nI_ix (N := 2002) (n := ia + 1) (by have := hR.2.1; omega) (by decide)) (rt_q hR hia) ?_
              refine Rx.go (fun _ => rfl) ?_
              refine Rx.go (fun _ => rfl) ?_
              refine Rx.go (fun _ => rfl) ?_
              refine Rx.get rfl rfl ?_
              refine Rx.go (fun _ => rfl) ?_
              refine Rx.aldE (v := nI (quo ts ib)) 6 rfl rfl (nI_ix (N := 2002) (n := ib + 1) (by have := hR.2.1; omega) (by decide)) (rt_q hR hib) ?_
              refine Rx.callE rfl rfl rfl rfl (rx_orderRows X c0 _ _ hR hia hib hA4.2.1 hB4.2.1 (fa := 1) (fb := 1) hA4.2.2.1 hB4.2.2.1) ?_
              show Rx X c0 m_Mod_order 203 [.ref (c0 + 16), .int (nI (ia + 1)), .int (nI (ib + 1)), ev_dead, ev_dead] [.int (lexc Ba Bb)] σ τ _
              refine Rx.go (fun _ => rfl) ?_
              show Rx X c0 m_Mod_order 204 [.ref (c0 + 16), .int (nI (ia + 1)), .int (nI (ib + 1)), .int (lexc Ba Bb), ev_dead] [] σ τ _
              refine Rx.go (fun _ => rfl) ?_
              refine Rx.go (fun _ => rfl) ?_
              refine Rx.ite (fun c7 => ?_) (fun c7 => ?_)
              · replace c7 : (lexc Ba Bb) = 0 := of_decide_eq_true c7
                show Rx X c0 m_Mod_order 210 [.ref (c0 + 16), .int (nI (ia + 1)), .int (nI (ib + 1)), .int (lexc Ba Bb), ev_dead] [] σ τ _
                refine Rx.go (fun _ => rfl) ?_
                refine Rx.get rfl rfl ?_
                refine Rx.go (fun _ => rfl) ?_
                refine Rx.aldE (v := nI (knd ts ia)) 5 rfl rfl (nI_ix (N := 2002) (n := ia + 1) (by have := hR.2.1; omega) (by decide)) (rt_k hR hia) ?_
                refine Rx.go (fun _ => rfl) ?_
                refine Rx.go (fun _ => rfl) ?_
                refine Rx.ite (fun c8 => ?_) (fun c8 => ?_)
                · replace c8 : ¬ (nI (knd ts ia)) = 7 := of_decide_eq_true c8
                  have h7 := kn_n (n := 7) rfl c8
                  rw [if_neg h7] at hA4
                  rw [if_neg (by omega)] at hB4
                  show Rx X c0 m_Mod_order 225 [.ref (c0 + 16), .int (nI (ia + 1)), .int (nI (ib + 1)), .int (lexc Ba Bb), ev_dead] [] σ τ _
                  refine Rx.go (fun _ => rfl) ?_
                  refine Rx.go (fun _ => rfl) ?_
                  show Rx X c0 m_Mod_order 228 [.ref (c0 + 16), .int (nI (ia + 1)), .int (nI (ib + 1)), .int (lexc Ba Bb), .int 0] [] σ τ _
                  refine Rx.go (fun _ => rfl) ?_
                  refine Rx.go (fun _ => rfl) ?_
                  refine Rx.go (fun _ => rfl) ?_
                  refine Rx.get rfl rfl ?_
                  refine Rx.go (fun _ => rfl) ?_
                  refine Rx.aldE (v := nI (quo ts ia)) 6 rfl rfl (nI_ix (N := 2002) (n := ia + 1) (by have := hR.2.1; omega) (by decide)) (rt_q hR hia) ?_
                  refine Rx.go (fun _ => rfl) ?_
                  refine Rx.go (fun _ => rfl) ?_
                  refine Rx.top (y := nI (quo ts ia + 1)) (nI_1 _) ?_
                  refine Rx.go (fun _ => rfl) ?_
                  refine Rx.go (fun _ => rfl) ?_
                  refine Rx.callE rfl rfl rfl rfl (rx_lenOf X c0 _ _ hR hia) ?_
                  show Rx X c0 m_Mod_order 243 [.ref (c0 + 16), .int (nI (ia + 1)), .int (nI (ib + 1)), .int (lexc Ba Bb), .int 0] [.int (nI (bys ts ia).length), .int (nI (quo ts ia + 1)), .int (nI (ia + 1)), .ref (c0 + 16)] σ τ _
                  refine Rx.go (fun _ => rfl) ?_
                  refine Rx.go (fun _ => rfl) ?_
                  refine Rx.top (y := nI ((bys ts ia).length - 0)) (ln0 _) ?_
                  refine Rx.go (fun _ => rfl) ?_
                  refine Rx.go (fun _ => rfl) ?_
                  refine Rx.get rfl rfl ?_
                  refine Rx.go (fun _ => rfl) ?_
                  refine Rx.aldE (v := nI (quo ts ib)) 6 rfl rfl (nI_ix (N := 2002) (n := ib + 1) (by have := hR.2.1; omega) (by decide)) (rt_q hR hib) ?_
                  refine Rx.go (fun _ => rfl) ?_
                  refine Rx.go (fun _ => rfl) ?_
                  refine Rx.top (y := nI (quo ts ib + 1)) (nI_1 _) ?_
                  refine Rx.go (fun _ => rfl) ?_
                  refine Rx.go (fun _ => rfl) ?_
                  refine Rx.callE rfl rfl rfl rfl (rx_lenOf X c0 _ _ hR hib) ?_
                  show Rx X c0 m_Mod_order 260 [.ref (c0 + 16), .int (nI (ia + 1)), .int (nI (ib + 1)), .int (lexc Ba Bb), .int 0] [.int (nI (bys ts ib).length), .int (nI (quo ts ib + 1)), .int (nI (ib + 1)), .int (nI ((bys ts ia).length - 0)), .int (nI (quo ts ia + 1)), .int (nI (ia + 1)), .ref (c0 + 16)] σ τ _
                  refine Rx.go (fun _ => rfl) ?_
                  refine Rx.go (fun _ => rfl) ?_
                  refine Rx.top (y := nI ((bys ts ib).length - 0)) (ln0 _) ?_
                  refine Rx.callE rfl rfl rfl rfl (rx_orderRows X c0 _ _ hR hia hib (Nat.sub_le _ _) (Nat.sub_le _ _) hA4.2.2.2 hB4.2.2.2) ?_
                  show Rx X c0 m_Mod_order 266 [.ref (c0 + 16), .int (nI (ia + 1)), .int (nI (ib + 1)), .int (lexc Ba Bb), .int 0] [.int (lexc Ta Tb)] σ τ _
                  show Rx X c0 m_Mod_order 266 [.ref (c0 + 16), .int (nI (ia + 1)), .int (nI (ib + 1)), .int (lexc Ba Bb), .int 0] [.int (lexc Ta Tb)] σ τ _
                  exact Rx.ret rfl (ev_reti rfl) ⟨by rw [if_neg (ix_ne c1), ov_x0 (rk_e hR hia hib c2) h57 c7], rfl, rfl⟩
                · replace c8 : (nI (knd ts ia)) = 7 := Classical.not_not.mp (of_decide_eq_false c8)
                  have h7 := kn_e hR hia (n := 7) rfl (by decide) c8
                  rw [if_pos h7] at hA4
                  rw [if_pos (by omega)] at hB4
                  show Rx X c0 m_Mod_order 221 [.ref (c0 + 16), .int (nI (ia + 1)), .int (nI (ib + 1)), .int (lexc Ba Bb), ev_dead] [] σ τ _
                  refine Rx.go (fun _ => rfl) ?_
                  refine Rx.go (fun _ => rfl) ?_
                  refine Rx.go (fun _ => rfl) ?_
                  show Rx X c0 m_Mod_order 228 [.ref (c0 + 16), .int (nI (ia + 1)), .int (nI (ib + 1)), .int (lexc Ba Bb), .int 1] [] σ τ _
                  refine Rx.go (fun _ => rfl) ?_
                  refine Rx.go (fun _ => rfl) ?_
                  refine Rx.go (fun _ => rfl) ?_
                  refine Rx.get rfl rfl ?_
                  refine Rx.go (fun _ => rfl) ?_
                  refine Rx.aldE (v := nI (quo ts ia)) 6 rfl rfl (nI_ix (N := 2002) (n := ia + 1) (by have := hR.2.1; omega) (by decide)) (rt_q hR hia) ?_
                  refine Rx.go (fun _ => rfl) ?_
                  refine Rx.go (fun _ => rfl) ?_
                  refine Rx.top (y := nI (quo ts ia + 1)) (nI_1 _) ?_
                  refine Rx.go (fun _ => rfl) ?_
                  refine Rx.go (fun _ => rfl) ?_
                  refine Rx.callE rfl rfl rfl rfl (rx_lenOf X c0 _ _ hR hia) ?_
                  show Rx X c0 m_Mod_order 243 [.ref (c0 + 16), .int (nI (ia + 1)), .int (nI (ib + 1)), .int (lexc Ba Bb), .int 1] [.int (nI (bys ts ia).length), .int (nI (quo ts ia + 1)), .int (nI (ia + 1)), .ref (c0 + 16)] σ τ _
                  refine Rx.go (fun _ => rfl) ?_
                  refine Rx.go (fun _ => rfl) ?_
                  refine Rx.top (y := nI ((bys ts ia).length - 1)) (ln1 hA4.1) ?_
                  refine Rx.go (fun _ => rfl) ?_
                  refine Rx.go (fun _ => rfl) ?_
                  refine Rx.get rfl rfl ?_
                  refine Rx.go (fun _ => rfl) ?_
                  refine Rx.aldE (v := nI (quo ts ib)) 6 rfl rfl (nI_ix (N := 2002) (n := ib + 1) (by have := hR.2.1; omega) (by decide)) (rt_q hR hib) ?_
                  refine Rx.go (fun _ => rfl) ?_
                  refine Rx.go (fun _ => rfl) ?_
                  refine Rx.top (y := nI (quo ts ib + 1)) (nI_1 _) ?_
                  refine Rx.go (fun _ => rfl) ?_
                  refine Rx.go (fun _ => rfl) ?_
                  refine Rx.callE rfl rfl rfl rfl (rx_lenOf X c0 _ _ hR hib) ?_
                  show Rx X c0 m_Mod_order 260 [.ref (c0 + 16), .int (nI (ia + 1)), .int (nI (ib + 1)), .int (lexc Ba Bb), .int 1] [.int (nI (bys ts ib).length), .int (nI (quo ts ib + 1)), .int (nI (ib + 1)), .int (nI ((bys ts ia).length - 1)), .int (nI (quo ts ia + 1)), .int (nI (ia + 1)), .ref (c0 + 16)] σ τ _
                  refine Rx.go (fun _ => rfl) ?_
                  refine Rx.go (fun _ => rfl) ?_
                  refine Rx.top (y := nI ((bys ts ib).length - 1)) (ln1 hB4.1) ?_
                  refine Rx.callE rfl rfl rfl rfl (rx_orderRows X c0 _ _ hR hia hib (Nat.sub_le _ _) (Nat.sub_le _ _) hA4.2.2.2 hB4.2.2.2) ?_
                  show Rx X c0 m_Mod_order 266 [.ref (c0 + 16), .int (nI (ia + 1)), .int (nI (ib + 1)), .int (lexc Ba Bb), .int 1] [.int (lexc Ta Tb)] σ τ _
                  show Rx X c0 m_Mod_order 266 [.ref (c0 + 16), .int (nI (ia + 1)), .int (nI (ib + 1)), .int (lexc Ba Bb), .int 1] [.int (lexc Ta Tb)] σ τ _
                  exact Rx.ret rfl (ev_reti rfl) ⟨by rw [if_neg (ix_ne c1), ov_x0 (rk_e hR hia hib c2) h57 c7], rfl, rfl⟩
              · replace c7 : ¬ (lexc Ba Bb) = 0 := of_decide_eq_false c7
                show Rx X c0 m_Mod_order 208 [.ref (c0 + 16), .int (nI (ia + 1)), .int (nI (ib + 1)), .int (lexc Ba Bb), ev_dead] [] σ τ _
                refine Rx.go (fun _ => rfl) ?_
                show Rx X c0 m_Mod_order 209 [.ref (c0 + 16), .int (nI (ia + 1)), .int (nI (ib + 1)), .int (lexc Ba Bb), ev_dead] [.int (lexc Ba Bb)] σ τ _
                exact Rx.ret rfl (ev_reti rfl) ⟨by rw [if_neg (ix_ne c1), ov_x1 (rk_e hR hia hib c2) h57 c7], rfl, rfl⟩
            · replace c6 : (nI (knd ts ia)) = 2 := Classical.not_not.mp (of_decide_eq_false c6)
              have h2 := kn_e hR hia (n := 2) rfl (by decide) c6
              have h2b := hB.2.2.1 (hkk.symm.trans h2)
              have h2a := hA.2.2.1 h2
              show Rx X c0 m_Mod_order 160 [.ref (c0 + 16), .int (nI (ia + 1)), .int (nI (ib + 1)), ev_dead, ev_dead] [] σ τ _
              refine Rx.go (fun _ => rfl) ?_
              refine Rx.go (fun _ => rfl) ?_
              refine Rx.go (fun _ => rfl) ?_
              refine Rx.go (fun _ => rfl) ?_
              refine Rx.go (fun _ => rfl) ?_
              refine Rx.callE rfl rfl rfl rfl (rx_lenOf X c0 _ _ hR hia) ?_
              show Rx X c0 m_Mod_order 168 [.ref (c0 + 16), .int (nI (ia + 1)), .int (nI (ib + 1)), ev_dead, ev_dead] [.int (nI (bys ts ia).length), .int 1, .int (nI (ia + 1)), .ref (c0 + 16)] σ τ _
              refine Rx.go (fun _ => rfl) ?_
              refine Rx.go (fun _ => rfl) ?_
              refine Rx.top (y := nI ((bys ts ia).length - 1)) (ln1 h2a.1) ?_
              refine Rx.go (fun _ => rfl) ?_
              refine Rx.go (fun _ => rfl) ?_
              refine Rx.go (fun _ => rfl) ?_
              refine Rx.go (fun _ => rfl) ?_
              refine Rx.callE rfl rfl rfl rfl (rx_lenOf X c0 _ _ hR hib) ?_
              show Rx X c0 m_Mod_order 177 [.ref (c0 + 16), .int (nI (ia + 1)), .int (nI (ib + 1)), ev_dead, ev_dead] [.int (nI (bys ts ib).length), .int 1, .int (nI (ib + 1)), .int (nI ((bys ts ia).length - 1)), .int 1, .int (nI (ia + 1)), .ref (c0 + 16)] σ τ _
              refine Rx.go (fun _ => rfl) ?_
              refine Rx.go (fun _ => rfl) ?_
              refine Rx.top (y := nI ((bys ts ib).length - 1)) (ln1 h2b.1) ?_
              refine Rx.callE rfl rfl rfl rfl (rx_orderRows X c0 _ _ hR hia hib (Nat.sub_le _ 1) (Nat.sub_le _ 1) (fa := 1) (fb := 1) (hA.2.2.1 h2).2 (hB.2.2.1 (hkk.symm.trans h2)).2) ?_
              show Rx X c0 m_Mod_order 182 [.ref (c0 + 16), .int (nI (ia + 1)), .int (nI (ib + 1)), ev_dead, ev_dead] [.int (lexc Ba Bb)] σ τ _
              show Rx X c0 m_Mod_order 182 [.ref (c0 + 16), .int (nI (ia + 1)), .int (nI (ib + 1)), ev_dead, ev_dead] [.int (lexc Ba Bb)] σ τ _
              exact Rx.ret rfl (ev_reti rfl) ⟨by rw [if_neg (ix_ne c1), ov_b (rk_e hR hia hib c2) (Or.inr h2)], rfl, rfl⟩
          · replace c5 : (nI (knd ts ia)) = 1 := Classical.not_not.mp (of_decide_eq_false c5)
            have h1 := kn_e hR hia (n := 1) rfl (by decide) c5
            show Rx X c0 m_Mod_order 131 [.ref (c0 + 16), .int (nI (ia + 1)), .int (nI (ib + 1)), ev_dead, ev_dead] [] σ τ _
            refine Rx.go (fun _ => rfl) ?_
            refine Rx.go (fun _ => rfl) ?_
            refine Rx.go (fun _ => rfl) ?_
            refine Rx.go (fun _ => rfl) ?_
            refine Rx.go (fun _ => rfl) ?_
            refine Rx.callE rfl rfl rfl rfl (rx_lenOf X c0 _ _ hR hia) ?_
            show Rx X c0 m_Mod_order 139 [.ref (c0 + 16), .int (nI (ia + 1)), .int (nI (ib + 1)), ev_dead, ev_dead] [.int (nI (bys ts ia).length), .int 2, .int (nI (ia + 1)), .ref (c0 + 16)] σ τ _
            refine Rx.go (fun _ => rfl) ?_
            refine Rx.go (fun _ => rfl) ?_
            refine Rx.go (fun _ => rfl) ?_
            refine Rx.go (fun _ => rfl) ?_
            refine Rx.callE rfl rfl rfl rfl (rx_lenOf X c0 _ _ hR hib) ?_
            show Rx X c0 m_Mod_order 146 [.ref (c0 + 16), .int (nI (ia + 1)), .int (nI (ib + 1)), ev_dead, ev_dead] [.int (nI (bys ts ib).length), .int 2, .int (nI (ib + 1)), .int (nI (bys ts ia).length), .int 2, .int (nI (ia + 1)), .ref (c0 + 16)] σ τ _
            refine Rx.callE rfl rfl rfl rfl (rx_orderRows X c0 _ _ hR hia hib (Nat.le_refl _) (Nat.le_refl _) (fa := 2) (fb := 2) (hA.2.1 h1) (hB.2.1 (hkk.symm.trans h1))) ?_
            show Rx X c0 m_Mod_order 149 [.ref (c0 + 16), .int (nI (ia + 1)), .int (nI (ib + 1)), ev_dead, ev_dead] [.int (lexc Ba Bb)] σ τ _
            show Rx X c0 m_Mod_order 149 [.ref (c0 + 16), .int (nI (ia + 1)), .int (nI (ib + 1)), ev_dead, ev_dead] [.int (lexc Ba Bb)] σ τ _
            exact Rx.ret rfl (ev_reti rfl) ⟨by rw [if_neg (ix_ne c1), ov_b (rk_e hR hia hib c2) (Or.inl h1)], rfl, rfl⟩
        · replace c4 : (nI (knd ts ia)) = 8 := Classical.not_not.mp (of_decide_eq_false c4)
          show Rx X c0 m_Mod_order 104 [.ref (c0 + 16), .int (nI (ia + 1)), .int (nI (ib + 1)), ev_dead, ev_dead] [] σ τ _
          refine Rx.go (fun _ => rfl) ?_
          refine Rx.go (fun _ => rfl) ?_
          refine Rx.go (fun _ => rfl) ?_
          refine Rx.callE rfl rfl rfl rfl (rx_byteAt X c0 _ _ hR hia (j := 0) (by decide)) ?_
          show Rx X c0 m_Mod_order 110 [.ref (c0 + 16), .int (nI (ia + 1)), .int (nI (ib + 1)), ev_dead, ev_dead] [.int (nI ((bys ts ia).getD 0 0))] σ τ _
          refine Rx.go (fun _ => rfl) ?_
          refine Rx.go (fun _ => rfl) ?_
          refine Rx.ite (fun c9 => ?_) (fun c9 => ?_)
          · replace c9 : ¬ (nI ((bys ts ia).getD 0 0)) = 102 := of_decide_eq_true c9
            show Rx X c0 m_Mod_order 119 [.ref (c0 + 16), .int (nI (ia + 1)), .int (nI (ib + 1)), ev_dead, ev_dead] [] σ τ _
            refine Rx.go (fun _ => rfl) ?_
            show Rx X c0 m_Mod_order 120 [.ref (c0 + 16), .int (nI (ia + 1)), .int (nI (ib + 1)), ev_dead, ev_dead] [.int 1] σ τ _
            exact Rx.ret rfl (ev_reti rfl) ⟨by rw [if_neg (ix_ne c1), ov_t (rk_e hR hia hib c2) (num_f c3) (kn_e hR hia (n := 8) rfl (by decide) c4) False ⟨fun q => q.elim, fun q => (bt_n (n := 102) rfl c9 q)⟩, if_neg id], rfl, rfl⟩
          · replace c9 : (nI ((bys ts ia).getD 0 0)) = 102 := Classical.not_not.mp (of_decide_eq_false c9)
            show Rx X c0 m_Mod_order 115 [.ref (c0 + 16), .int (nI (ia + 1)), .int (nI (ib + 1)), ev_dead, ev_dead] [] σ τ _
            refine Rx.go (fun _ => rfl) ?_
            refine Rx.go (fun _ => rfl) ?_
            show Rx X c0 m_Mod_order 120 [.ref (c0 + 16), .int (nI (ia + 1)), .int (nI (ib + 1)), ev_dead, ev_dead] [.int (-1)] σ τ _
            exact Rx.ret rfl (ev_reti rfl) ⟨by rw [if_neg (ix_ne c1), ov_t (rk_e hR hia hib c2) (num_f c3) (kn_e hR hia (n := 8) rfl (by decide) c4) True ⟨fun _ => bt_e hR hia (n := 102) rfl (by decide) c9, fun _ => trivial⟩, if_pos trivial], rfl, rfl⟩
      · replace c3 : (decide (knd ts ia = 3) || decide (knd ts ia = 4)) = true := bi_eqf c3
        show Rx X c0 m_Mod_order 61 [.ref (c0 + 16), .int (nI (ia + 1)), .int (nI (ib + 1)), ev_dead, ev_dead] [] σ τ _
        refine Rx.go (fun _ => rfl) ?_
        refine Rx.go (fun _ => rfl) ?_
        refine Rx.go (fun _ => rfl) ?_
        refine Rx.callE rfl rfl rfl rfl (rx_orderNumbers X c0 _ _ hR hia hib) ?_
        show Rx X c0 m_Mod_order 67 [.ref (c0 + 16), .int (nI (ia + 1)), .int (nI (ib + 1)), ev_dead, ev_dead] [.int (onum (bys ts ia) (bys ts ib))] σ τ _
        refine Rx.go (fun _ => rfl) ?_
        show Rx X c0 m_Mod_order 68 [.ref (c0 + 16), .int (nI (ia + 1)), .int (nI (ib + 1)), .int (onum (bys ts ia) (bys ts ib)), ev_dead] [] σ τ _
        refine Rx.go (fun _ => rfl) ?_
        refine Rx.go (fun _ => rfl) ?_
        refine Rx.ite (fun c10 => ?_) (fun c10 => ?_)
        · replace c10 : (onum (bys ts ia) (bys ts ib)) = 0 := of_decide_eq_true c10
          show Rx X c0 m_Mod_order 76 [.ref (c0 + 16), .int (nI (ia + 1)), .int (nI (ib + 1)), .int (onum (bys ts ia) (bys ts ib)), ev_dead] [] σ τ _
          refine Rx.go (fun _ => rfl) ?_
          refine Rx.get rfl rfl ?_
          refine Rx.go (fun _ => rfl) ?_
          refine Rx.aldE (v := nI (knd ts ia)) 5 rfl rfl (nI_ix (N := 2002) (n := ia + 1) (by have := hR.2.1; omega) (by decide)) (rt_k hR hia) ?_
          refine Rx.go (fun _ => rfl) ?_
          refine Rx.get rfl rfl ?_
          refine Rx.go (fun _ => rfl) ?_
          refine Rx.aldE (v := nI (knd ts ib)) 5 rfl rfl (nI_ix (N := 2002) (n := ib + 1) (by have := hR.2.1; omega) (by decide)) (rt_k hR hib) ?_
          refine Rx.go (fun _ => rfl) ?_
          refine Rx.scallE rfl rfl rfl rfl (sx_Mod_sign X _) ?_
          show Rx X c0 m_Mod_order 92 [.ref (c0 + 16), .int (nI (ia + 1)), .int (nI (ib + 1)), .int (onum (bys ts ia) (bys ts ib)), ev_dead] [.int (sgn ((nI (knd ts ia)) - (nI (knd ts ib))))] σ τ _
          show Rx X c0 m_Mod_order 92 [.ref (c0 + 16), .int (nI (ia + 1)), .int (nI (ib + 1)), .int (onum (bys ts ia) (bys ts ib)), ev_dead] [.int (sgn ((nI (knd ts ia)) - (nI (knd ts ib))))] σ τ _
          exact Rx.ret rfl (ev_reti rfl) ⟨by rw [if_neg (ix_ne c1), ov_n0 (rk_e hR hia hib c2) (num_t c3) c10], rfl, rfl⟩
        · replace c10 : ¬ (onum (bys ts ia) (bys ts ib)) = 0 := of_decide_eq_false c10
          show Rx X c0 m_Mod_order 72 [.ref (c0 + 16), .int (nI (ia + 1)), .int (nI (ib + 1)), .int (onum (bys ts ia) (bys ts ib)), ev_dead] [] σ τ _
          refine Rx.go (fun _ => rfl) ?_
          refine Rx.go (fun _ => rfl) ?_
          show Rx X c0 m_Mod_order 92 [.ref (c0 + 16), .int (nI (ia + 1)), .int (nI (ib + 1)), .int (onum (bys ts ia) (bys ts ib)), ev_dead] [.int (onum (bys ts ia) (bys ts ib))] σ τ _
          exact Rx.ret rfl (ev_reti rfl) ⟨by rw [if_neg (ix_ne c1), ov_n1 (rk_e hR hia hib c2) (num_t c3) c10], rfl, rfl⟩
    · replace c2 : ¬ (nI (rnk (knd ts ia))) = (nI (rnk (knd ts ib))) := of_decide_eq_false c2
      show Rx X c0 m_Mod_order 38 [.ref (c0 + 16), .int (nI (ia + 1)), .int (nI (ib + 1)), ev_dead, ev_dead] [] σ τ _
      refine Rx.go (fun _ => rfl) ?_
      refine Rx.go (fun _ => rfl) ?_
      refine Rx.callE rfl rfl rfl rfl (rx_rnk X c0 _ _ hR hia) ?_
      show Rx X c0 m_Mod_order 43 [.ref (c0 + 16), .int (nI (ia + 1)), .int (nI (ib + 1)), ev_dead, ev_dead] [.int (nI (rnk (knd ts ia)))] σ τ _
      refine Rx.go (fun _ => rfl) ?_
      refine Rx.go (fun _ => rfl) ?_
      refine Rx.callE rfl rfl rfl rfl (rx_rnk X c0 _ _ hR hib) ?_
      show Rx X c0 m_Mod_order 48 [.ref (c0 + 16), .int (nI (ia + 1)), .int (nI (ib + 1)), ev_dead, ev_dead] [.int (nI (rnk (knd ts ib))), .int (nI (rnk (knd ts ia)))] σ τ _
      refine Rx.go (fun _ => rfl) ?_
      refine Rx.scallE rfl rfl rfl rfl (sx_Mod_sign X _) ?_
      show Rx X c0 m_Mod_order 52 [.ref (c0 + 16), .int (nI (ia + 1)), .int (nI (ib + 1)), ev_dead, ev_dead] [.int (sgn ((nI (rnk (knd ts ia))) - (nI (rnk (knd ts ib)))))] σ τ _
      show Rx X c0 m_Mod_order 52 [.ref (c0 + 16), .int (nI (ia + 1)), .int (nI (ib + 1)), ev_dead, ev_dead] [.int (sgn ((nI (rnk (knd ts ia))) - (nI (rnk (knd ts ib)))))] σ τ _
      exact Rx.ret rfl (ev_reti rfl) ⟨by rw [if_neg (ix_ne c1), ov_r (fun z => c2 (by rw [z]))], rfl, rfl⟩
  · replace c1 : (nI (ia + 1)) = (nI (ib + 1)) := Classical.not_not.mp (of_decide_eq_false c1)
    show Rx X c0 m_Mod_order 23 [.ref (c0 + 16), .int (nI (ia + 1)), .int (nI (ib + 1)), ev_dead, ev_dead] [] σ τ _
    refine Rx.go (fun _ => rfl) ?_
    show Rx X c0 m_Mod_order 24 [.ref (c0 + 16), .int (nI (ia + 1)), .int (nI (ib + 1)), ev_dead, ev_dead] [.int 0] σ τ _
    exact Rx.ret rfl (ev_reti rfl) ⟨by rw [if_pos (ix_eq hR hia hib c1)], rfl, rfl⟩
