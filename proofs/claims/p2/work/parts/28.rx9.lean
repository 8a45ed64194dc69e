/-! same, less of the reference. (rows laid by wip/whole/rx10.py) -/
def nmb (k : Nat) : Prop := k = 3 ∨ k = 4
theorem lit_t {σ : Nat → Int32} {τ : Nat → Nat → Int32} {ts : RT} (hR : rt σ τ ts) {i : Nat} (hi : i < ts.length) (c : decide (2 < nI (knd ts i)) = true) : 2 < knd ts i := by
  have := of_decide_eq_true c
  rwa [show (2 : Int32) = nI 2 from rfl, nI_ltI (by decide) (by have := (rt_ok hR hi).2.1; omega)] at this
theorem lit_f {σ : Nat → Int32} {τ : Nat → Nat → Int32} {ts : RT} (hR : rt σ τ ts) {i : Nat} (hi : i < ts.length) (c : decide (2 < nI (knd ts i)) = false) : ¬ 2 < knd ts i := by
  have := of_decide_eq_false c
  rwa [show (2 : Int32) = nI 2 from rfl, nI_ltI (by decide) (by have := (rt_ok hR hi).2.1; omega)] at this
def samv (ka kb : Nat) (la lb : List Nat) : Int32 := if (ka = 3 ∨ ka = 4) ∧ (kb = 3 ∨ kb = 4) then (if onum la lb = 0 then 1 else 0) else if (ka = 7 ∨ kb = 7) ∧ 2 < ka ∧ 2 < kb then 2 else 0
def lesv (ka kb : Nat) (la lb : List Nat) (o : Int32) : Int32 := if (ka = 3 ∨ ka = 4) ∧ (kb = 3 ∨ kb = 4) then (if 0 ≤ onum la lb then 0 else 1) else if ka = kb ∧ (ka = 5 ∨ ka = 8) then (if 0 ≤ o then 0 else 1) else 2
theorem kk_e {σ : Nat → Int32} {τ : Nat → Nat → Int32} {ts : RT} (hR : rt σ τ ts) {ia ib : Nat} (hia : ia < ts.length) (hib : ib < ts.length) (c : nI (knd ts ia) = nI (knd ts ib)) : knd ts ia = knd ts ib := (nI_eq (by have := (rt_ok hR hia).2.1; omega) (by have := (rt_ok hR hib).2.1; omega)).mp c
set_option maxRecDepth 100000 in
set_option maxHeartbeats 1000000 in
theorem rx_same (X : ev_X) (c0 : Nat) (σ : Nat → Int32) (τ : Nat → Nat → Int32) {ts : RT} (hR : rt σ τ ts) {ia ib : Nat} (hia : ia < ts.length) (hib : ib < ts.length) : Rx X c0 m_Mod_same 0 [.ref (c0 + 16), .int (nI (ia + 1)), .int (nI (ib + 1)), ev_dead] [] σ τ (fun r σ' τ' => r = some (.int (if ia = ib then 1 else samv (knd ts ia) (knd ts ib) (bys ts ia) (bys ts ib))) ∧ σ' = σ ∧ τ' = τ) := by
  refine Rx.go (fun _ => rfl) ?_
  refine Rx.go (fun _ => rfl) ?_
  refine Rx.callE rfl rfl rfl rfl (rx_isT X c0 _ _ hR hia) ?_
  show Rx X c0 m_Mod_same 5 [.ref (c0 + 16), .int (nI (ia + 1)), .int (nI (ib + 1)), ev_dead] [.int 1] σ τ _
  refine Rx.go (fun _ => rfl) ?_
  show Rx X c0 m_Mod_same 8 [.ref (c0 + 16), .int (nI (ia + 1)), .int (nI (ib + 1)), ev_dead] [] σ τ _
  refine Rx.go (fun _ => rfl) ?_
  refine Rx.go (fun _ => rfl) ?_
  refine Rx.callE rfl rfl rfl rfl (rx_isT X c0 _ _ hR hib) ?_
  show Rx X c0 m_Mod_same 13 [.ref (c0 + 16), .int (nI (ia + 1)), .int (nI (ib + 1)), ev_dead] [.int 1] σ τ _
  refine Rx.go (fun _ => rfl) ?_
  show Rx X c0 m_Mod_same 18 [.ref (c0 + 16), .int (nI (ia + 1)), .int (nI (ib + 1)), ev_dead] [] σ τ _
  refine Rx.go (fun _ => rfl) ?_
  refine Rx.go (fun _ => rfl) ?_
  refine Rx.go (fun _ => rfl) ?_
  refine Rx.ite (fun c1 => ?_) (fun c1 => ?_)
  · replace c1 : ¬ (nI (ia + 1)) = (nI (ib + 1)) := of_decide_eq_true c1
    show Rx X c0 m_Mod_same 25 [.ref (c0 + 16), .int (nI (ia + 1)), .int (nI (ib + 1)), ev_dead] [] σ τ _
    refine Rx.go (fun _ => rfl) ?_
    refine Rx.go (fun _ => rfl) ?_
    refine Rx.callE rfl rfl rfl rfl (rx_isNum X c0 _ _ hR hia) ?_
    show Rx X c0 m_Mod_same 30 [.ref (c0 + 16), .int (nI (ia + 1)), .int (nI (ib + 1)), ev_dead] [.int (bi (decide (knd ts ia = 3) || decide (knd ts ia = 4)))] σ τ _
    refine Rx.go (fun _ => rfl) ?_
    refine Rx.ite (fun c2 => ?_) (fun c2 => ?_)
    · replace c2 : (decide (knd ts ia = 3) || decide (knd ts ia = 4)) = false := bi_eqt c2
      show Rx X c0 m_Mod_same 56 [.ref (c0 + 16), .int (nI (ia + 1)), .int (nI (ib + 1)), ev_dead] [] σ τ _
      refine Rx.go (fun _ => rfl) ?_
      refine Rx.get rfl rfl ?_
      refine Rx.go (fun _ => rfl) ?_
      refine Rx.aldE (v := nI (knd ts ia)) 5 rfl rfl (nI_ix (N := 2002) (n := ia + 1) (by have := hR.2.1; omega) (by decide)) (rt_k hR hia) ?_
      refine Rx.go (fun _ => rfl) ?_
      refine Rx.go (fun _ => rfl) ?_
      refine Rx.ite (fun c3 => ?_) (fun c3 => ?_)
      · replace c3 : (nI (knd ts ia)) = 7 := of_decide_eq_true c3
        show Rx X c0 m_Mod_same 78 [.ref (c0 + 16), .int (nI (ia + 1)), .int (nI (ib + 1)), ev_dead] [] σ τ _
        refine Rx.go (fun _ => rfl) ?_
        refine Rx.go (fun _ => rfl) ?_
        refine Rx.go (fun _ => rfl) ?_
        show Rx X c0 m_Mod_same 84 [.ref (c0 + 16), .int (nI (ia + 1)), .int (nI (ib + 1)), .int 1] [] σ τ _
        refine Rx.go (fun _ => rfl) ?_
        refine Rx.go (fun _ => rfl) ?_
        show Rx X c0 m_Mod_same 88 [.ref (c0 + 16), .int (nI (ia + 1)), .int (nI (ib + 1)), .int 1] [] σ τ _
        refine Rx.go (fun _ => rfl) ?_
        refine Rx.get rfl rfl ?_
        refine Rx.go (fun _ => rfl) ?_
        refine Rx.aldE (v := nI (knd ts ia)) 5 rfl rfl (nI_ix (N := 2002) (n := ia + 1) (by have := hR.2.1; omega) (by decide)) (rt_k hR hia) ?_
        refine Rx.scallE rfl rfl rfl rfl (sx_Mod_isLiteral X _) ?_
        show Rx X c0 m_Mod_same 97 [.ref (c0 + 16), .int (nI (ia + 1)), .int (nI (ib + 1)), .int 1] [.int (bi (decide (2 < nI (knd ts ia))))] σ τ _
        refine Rx.go (fun _ => rfl) ?_
        refine Rx.ite (fun c4 => ?_) (fun c4 => ?_)
        · replace c4 : (decide (2 < nI (knd ts ia))) = false := bi_eqt c4
          show Rx X c0 m_Mod_same 116 [.ref (c0 + 16), .int (nI (ia + 1)), .int (nI (ib + 1)), .int 1] [] σ τ _
          refine Rx.go (fun _ => rfl) ?_
          show Rx X c0 m_Mod_same 117 [.ref (c0 + 16), .int (nI (ia + 1)), .int (nI (ib + 1)), .int 1] [.int 0] σ τ _
          exact Rx.ret rfl (ev_reti rfl) ⟨by rw [if_neg (ix_ne c1), samv, if_neg (fun z => num_f c2 z.1), if_neg (fun z => lit_f hR hia c4 z.2.1)], rfl, rfl⟩
        · replace c4 : (decide (2 < nI (knd ts ia))) = true := bi_eqf c4
          show Rx X c0 m_Mod_same 100 [.ref (c0 + 16), .int (nI (ia + 1)), .int (nI (ib + 1)), .int 1] [] σ τ _
          refine Rx.go (fun _ => rfl) ?_
          refine Rx.get rfl rfl ?_
          refine Rx.go (fun _ => rfl) ?_
          refine Rx.aldE (v := nI (knd ts ib)) 5 rfl rfl (nI_ix (N := 2002) (n := ib + 1) (by have := hR.2.1; omega) (by decide)) (rt_k hR hib) ?_
          refine Rx.scallE rfl rfl rfl rfl (sx_Mod_isLiteral X _) ?_
          show Rx X c0 m_Mod_same 109 [.ref (c0 + 16), .int (nI (ia + 1)), .int (nI (ib + 1)), .int 1] [.int (bi (decide (2 < nI (knd ts ib))))] σ τ _
          refine Rx.go (fun _ => rfl) ?_
          refine Rx.ite (fun c5 => ?_) (fun c5 => ?_)
          · replace c5 : (decide (2 < nI (knd ts ib))) = false := bi_eqt c5
            show Rx X c0 m_Mod_same 116 [.ref (c0 + 16), .int (nI (ia + 1)), .int (nI (ib + 1)), .int 1] [] σ τ _
            refine Rx.go (fun _ => rfl) ?_
            show Rx X c0 m_Mod_same 117 [.ref (c0 + 16), .int (nI (ia + 1)), .int (nI (ib + 1)), .int 1] [.int 0] σ τ _
            exact Rx.ret rfl (ev_reti rfl) ⟨by rw [if_neg (ix_ne c1), samv, if_neg (fun z => num_f c2 z.1), if_neg (fun z => lit_f hR hib c5 z.2.2)], rfl, rfl⟩
          · replace c5 : (decide (2 < nI (knd ts ib))) = true := bi_eqf c5
            show Rx X c0 m_Mod_same 112 [.ref (c0 + 16), .int (nI (ia + 1)), .int (nI (ib + 1)), .int 1] [] σ τ _
            refine Rx.go (fun _ => rfl) ?_
            refine Rx.go (fun _ => rfl) ?_
            show Rx X c0 m_Mod_same 117 [.ref (c0 + 16), .int (nI (ia + 1)), .int (nI (ib + 1)), .int 1] [.int 2] σ τ _
            exact Rx.ret rfl (ev_reti rfl) ⟨by rw [if_neg (ix_ne c1), samv, if_neg (fun z => num_f c2 z.1), if_pos ⟨Or.inl (kn_e hR hia (n := 7) rfl (by decide) c3), lit_t hR hia c4, lit_t hR hib c5⟩], rfl, rfl⟩
      · replace c3 : ¬ (nI (knd ts ia)) = 7 := of_decide_eq_false c3
        show Rx X c0 m_Mod_same 67 [.ref (c0 + 16), .int (nI (ia + 1)), .int (nI (ib + 1)), ev_dead] [] σ τ _
        refine Rx.go (fun _ => rfl) ?_
        refine Rx.get rfl rfl ?_
        refine Rx.go (fun _ => rfl) ?_
        refine Rx.aldE (v := nI (knd ts ib)) 5 rfl rfl (nI_ix (N := 2002) (n := ib + 1) (by have := hR.2.1; omega) (by decide)) (rt_k hR hib) ?_
        refine Rx.go (fun _ => rfl) ?_
        refine Rx.go (fun _ => rfl) ?_
        refine Rx.ite (fun c6 => ?_) (fun c6 => ?_)
        · replace c6 : ¬ (nI (knd ts ib)) = 7 := of_decide_eq_true c6
          show Rx X c0 m_Mod_same 82 [.ref (c0 + 16), .int (nI (ia + 1)), .int (nI (ib + 1)), ev_dead] [] σ τ _
          refine Rx.go (fun _ => rfl) ?_
          refine Rx.go (fun _ => rfl) ?_
          show Rx X c0 m_Mod_same 84 [.ref (c0 + 16), .int (nI (ia + 1)), .int (nI (ib + 1)), .int 0] [] σ τ _
          refine Rx.go (fun _ => rfl) ?_
          refine Rx.go (fun _ => rfl) ?_
          show Rx X c0 m_Mod_same 116 [.ref (c0 + 16), .int (nI (ia + 1)), .int (nI (ib + 1)), .int 0] [] σ τ _
          refine Rx.go (fun _ => rfl) ?_
          show Rx X c0 m_Mod_same 117 [.ref (c0 + 16), .int (nI (ia + 1)), .int (nI (ib + 1)), .int 0] [.int 0] σ τ _
          exact Rx.ret rfl (ev_reti rfl) ⟨by rw [if_neg (ix_ne c1), samv, if_neg (fun z => num_f c2 z.1), if_neg (fun z => z.1.elim (kn_n (n := 7) rfl c3) (kn_n (n := 7) rfl c6))], rfl, rfl⟩
        · replace c6 : (nI (knd ts ib)) = 7 := Classical.not_not.mp (of_decide_eq_false c6)
          show Rx X c0 m_Mod_same 78 [.ref (c0 + 16), .int (nI (ia + 1)), .int (nI (ib + 1)), ev_dead] [] σ τ _
          refine Rx.go (fun _ => rfl) ?_
          refine Rx.go (fun _ => rfl) ?_
          refine Rx.go (fun _ => rfl) ?_
          show Rx X c0 m_Mod_same 84 [.ref (c0 + 16), .int (nI (ia + 1)), .int (nI (ib + 1)), .int 1] [] σ τ _
          refine Rx.go (fun _ => rfl) ?_
          refine Rx.go (fun _ => rfl) ?_
          show Rx X c0 m_Mod_same 88 [.ref (c0 + 16), .int (nI (ia + 1)), .int (nI (ib + 1)), .int 1] [] σ τ _
          refine Rx.go (fun _ => rfl) ?_
          refine Rx.get rfl rfl ?_
          refine Rx.go (fun _ => rfl) ?_
          refine Rx.aldE (v := nI (knd ts ia)) 5 rfl rfl (nI_ix (N := 2002) (n := ia + 1) (by have := hR.2.1; omega) (by decide)) (rt_k hR hia) ?_
          refine Rx.scallE rfl rfl rfl rfl (sx_Mod_isLiteral X _) ?_
          show Rx X c0 m_Mod_same 97 [.ref (c0 + 16), .int (nI (ia + 1)), .int (nI (ib + 1)), .int 1] [.int (bi (decide (2 < nI (knd ts ia))))] σ τ _
          refine Rx.go (fun _ => rfl) ?_
          refine Rx.ite (fun c7 => ?_) (fun c7 => ?_)
          · replace c7 : (decide (2 < nI (knd ts ia))) = false := bi_eqt c7
            show Rx X c0 m_Mod_same 116 [.ref (c0 + 16), .int (nI (ia + 1)), .int (nI (ib + 1)), .int 1] [] σ τ _
            refine Rx.go (fun _ => rfl) ?_
            show Rx X c0 m_Mod_same 117 [.ref (c0 + 16), .int (nI (ia + 1)), .int (nI (ib + 1)), .int 1] [.int 0] σ τ _
            exact Rx.ret rfl (ev_reti rfl) ⟨by rw [if_neg (ix_ne c1), samv, if_neg (fun z => num_f c2 z.1), if_neg (fun z => lit_f hR hia c7 z.2.1)], rfl, rfl⟩
          · replace c7 : (decide (2 < nI (knd ts ia))) = true := bi_eqf c7
            show Rx X c0 m_Mod_same 100 [.ref (c0 + 16), .int (nI (ia + 1)), .int (nI (ib + 1)), .int 1] [] σ τ _
            refine Rx.go (fun _ => rfl) ?_
            refine Rx.get rfl rfl ?_
            refine Rx.go (fun _ => rfl) ?_
            refine Rx.aldE (v := nI (knd ts ib)) 5 rfl rfl (nI_ix (N := 2002) (n := ib + 1) (by have := hR.2.1; omega) (by decide)) (rt_k hR hib) ?_
            refine Rx.scallE rfl rfl rfl rfl (sx_Mod_isLiteral X _) ?_
            show Rx X c0 m_Mod_same 109 [.ref (c0 + 16), .int (nI (ia + 1)), .int (nI (ib + 1)), .int 1] [.int (bi (decide (2 < nI (knd ts ib))))] σ τ _
            refine Rx.go (fun _ => rfl) ?_
            refine Rx.ite (fun c8 => ?_) (fun c8 => ?_)
            · replace c8 : (decide (2 < nI (knd ts ib))) = false := bi_eqt c8
              show Rx X c0 m_Mod_same 116 [.ref (c0 + 16), .int (nI (ia + 1)), .int (nI (ib + 1)), .int 1] [] σ τ _
              refine Rx.go (fun _ => rfl) ?_
              show Rx X c0 m_Mod_same 117 [.ref (c0 + 16), .int (nI (ia + 1)), .int (nI (ib + 1)), .int 1] [.int 0] σ τ _
              exact Rx.ret rfl (ev_reti rfl) ⟨by rw [if_neg (ix_ne c1), samv, if_neg (fun z => num_f c2 z.1), if_neg (fun z => lit_f hR hib c8 z.2.2)], rfl, rfl⟩
            · replace c8 : (decide (2 < nI (knd ts ib))) = true := bi_eqf c8
              show Rx X c0 m_Mod_same 112 [.ref (c0 + 16), .int (nI (ia + 1)), .int (nI (ib + 1)), .int 1] [] σ τ _
              refine Rx.go (fun _ => rfl) ?_
              refine Rx.go (fun _ => rfl) ?_
              show Rx X c0 m_Mod_same 117 [.ref (c0 + 16), .int (nI (ia + 1)), .int (nI (ib + 1)), .int 1] [.int 2] σ τ _
              exact Rx.ret rfl (ev_reti rfl) ⟨by rw [if_neg (ix_ne c1), samv, if_neg (fun z => num_f c2 z.1), if_pos ⟨Or.inr (kn_e hR hib (n := 7) rfl (by decide) c6), lit_t hR hia c7, lit_t hR hib c8⟩], rfl, rfl⟩
    · replace c2 : (decide (knd ts ia = 3) || decide (knd ts ia = 4)) = true := bi_eqf c2
      show Rx X c0 m_Mod_same 33 [.ref (c0 + 16), .int (nI (ia + 1)), .int (nI (ib + 1)), ev_dead] [] σ τ _
      refine Rx.go (fun _ => rfl) ?_
      refine Rx.go (fun _ => rfl) ?_
      refine Rx.callE rfl rfl rfl rfl (rx_isNum X c0 _ _ hR hib) ?_
      show Rx X c0 m_Mod_same 38 [.ref (c0 + 16), .int (nI (ia + 1)), .int (nI (ib + 1)), ev_dead] [.int (bi (decide (knd ts ib = 3) || decide (knd ts ib = 4)))] σ τ _
      refine Rx.go (fun _ => rfl) ?_
      refine Rx.ite (fun c9 => ?_) (fun c9 => ?_)
      · replace c9 : (decide (knd ts ib = 3) || decide (knd ts ib = 4)) = false := bi_eqt c9
        show Rx X c0 m_Mod_same 56 [.ref (c0 + 16), .int (nI (ia + 1)), .int (nI (ib + 1)), ev_dead] [] σ τ _
        refine Rx.go (fun _ => rfl) ?_
        refine Rx.get rfl rfl ?_
        refine Rx.go (fun _ => rfl) ?_
        refine Rx.aldE (v := nI (knd ts ia)) 5 rfl rfl (nI_ix (N := 2002) (n := ia + 1) (by have := hR.2.1; omega) (by decide)) (rt_k hR hia) ?_
        refine Rx.go (fun _ => rfl) ?_
        refine Rx.go (fun _ => rfl) ?_
        refine Rx.ite (fun c10 => ?_) (fun c10 => ?_)
        · replace c10 : (nI (knd ts ia)) = 7 := of_decide_eq_true c10
          show Rx X c0 m_Mod_same 78 [.ref (c0 + 16), .int (nI (ia + 1)), .int (nI (ib + 1)), ev_dead] [] σ τ _
          refine Rx.go (fun _ => rfl) ?_
          refine Rx.go (fun _ => rfl) ?_
          refine Rx.go (fun _ => rfl) ?_
          show Rx X c0 m_Mod_same 84 [.ref (c0 + 16), .int (nI (ia + 1)), .int (nI (ib + 1)), .int 1] [] σ τ _
          refine Rx.go (fun _ => rfl) ?_
          refine Rx.go (fun _ => rfl) ?_
          show Rx X c0 m_Mod_same 88 [.ref (c0 + 16), .int (nI (ia + 1)), .int (nI (ib + 1)), .int 1] [] σ τ _
          refine Rx.go (fun _ => rfl) ?_
          refine Rx.get rfl rfl ?_
          refine Rx.go (fun _ => rfl) ?_
          refine Rx.aldE (v := nI (knd ts ia)) 5 rfl rfl (nI_ix (N := 2002) (n := ia + 1) (by have := hR.2.1; omega) (by decide)) (rt_k hR hia) ?_
          refine Rx.scallE rfl rfl rfl rfl (sx_Mod_isLiteral X _) ?_
          show Rx X c0 m_Mod_same 97 [.ref (c0 + 16), .int (nI (ia + 1)), .int (nI (ib + 1)), .int 1] [.int (bi (decide (2 < nI (knd ts ia))))] σ τ _
          refine Rx.go (fun _ => rfl) ?_
          refine Rx.ite (fun c11 => ?_) (fun c11 => ?_)
          · replace c11 : (decide (2 < nI (knd ts ia))) = false := bi_eqt c11
            show Rx X c0 m_Mod_same 116 [.ref (c0 + 16), .int (nI (ia + 1)), .int (nI (ib + 1)), .int 1] [] σ τ _
            refine Rx.go (fun _ => rfl) ?_
            show Rx X c0 m_Mod_same 117 [.ref (c0 + 16), .int (nI (ia + 1)), .int (nI (ib + 1)), .int 1] [.int 0] σ τ _
            exact Rx.ret rfl (ev_reti rfl) ⟨by rw [if_neg (ix_ne c1), samv, if_neg (fun z => num_f c9 z.2), if_neg (fun z => lit_f hR hia c11 z.2.1)], rfl, rfl⟩
          · replace c11 : (decide (2 < nI (knd ts ia))) = true := bi_eqf c11
            show Rx X c0 m_Mod_same 100 [.ref (c0 + 16), .int (nI (ia + 1)), .int (nI (ib + 1)), .int 1] [] σ τ _
            refine Rx.go (fun _ => rfl) ?_
            refine Rx.get rfl rfl ?_
            refine Rx.go (fun _ => rfl) ?_
            refine Rx.aldE (v := nI (knd ts ib)) 5 rfl rfl (nI_ix (N := 2002) (n := ib + 1) (by have := hR.2.1; omega) (by decide)) (rt_k hR hib) ?_
            refine Rx.scallE rfl rfl rfl rfl (sx_Mod_isLiteral X _) ?_
            show Rx X c0 m_Mod_same 109 [.ref (c0 + 16), .int (nI (ia + 1)), .int (nI (ib + 1)), .int 1] [.int (bi (decide (2 < nI (knd ts ib))))] σ τ _
            refine Rx.go (fun _ => rfl) ?_
            refine Rx.ite (fun c12 => ?_) (fun c12 => ?_)
            · replace c12 : (decide (2 < nI (knd ts ib))) = false := bi_eqt c12
              show Rx X c0 m_Mod_same 116 [.ref (c0 + 16), .int (nI (ia + 1)), .int (nI (ib + 1)), .int 1] [] σ τ _
              refine Rx.go (fun _ => rfl) ?_
              show Rx X c0 m_Mod_same 117 [.ref (c0 + 16), .int (nI (ia + 1)), .int (nI (ib + 1)), .int 1] [.int 0] σ τ _
              exact Rx.ret rfl (ev_reti rfl) ⟨by rw [if_neg (ix_ne c1), samv, if_neg (fun z => num_f c9 z.2), if_neg (fun z => lit_f hR hib c12 z.2.2)], rfl, rfl⟩
            · replace c12 : (decide (2 < nI (knd ts ib))) = true := bi_eqf c12
              show Rx X c0 m_Mod_same 112 [.ref (c0 + 16), .int (nI (ia + 1)), .int (nI (ib + 1)), .int 1] [] σ τ _
              refine Rx.go (fun _ => rfl) ?_
              refine Rx.go (fun _ => rfl) ?_
              show Rx X c0 m_Mod_same 117 [.ref (c0 + 16), .int (nI (ia + 1)), .int (nI (ib + 1)), .int 1] [.int 2] σ τ _
              exact Rx.ret rfl (ev_reti rfl) ⟨by rw [if_neg (ix_ne c1), samv, if_neg (fun z => num_f c9 z.2), if_pos ⟨Or.inl (kn_e hR hia (n := 7) rfl (by decide) c10), lit_t hR hia c11, lit_t hR hib c12⟩], rfl, rfl⟩
        · replace c10 : ¬ (nI (knd ts ia)) = 7 := of_decide_eq_false c10
          show Rx X c0 m_Mod_same 67 [.ref (c0 + 16), .int (nI (ia + 1)), .int (nI (ib + 1)), ev_dead] [] σ τ _
          refine Rx.go (fun _ => rfl) ?_
          refine Rx.get rfl rfl ?_
          refine Rx.go (fun _ => rfl) ?_
          refine Rx.aldE (v := nI (knd ts ib)) 5 rfl rfl (nI_ix (N := 2002) (n := ib + 1) (by have := hR.2.1; omega) (by decide)) (rt_k hR hib) ?_
          refine Rx.go (fun _ => rfl) ?_
          refine Rx.go (fun _ => rfl) ?_
          refine Rx.ite (fun c13 => ?_) (fun c13 => ?_)
          · replace c13 : ¬ (nI (knd ts ib)) = 7 := of_decide_eq_true c13
            show Rx X c0 m_Mod_same 82 [.ref (c0 + 16), .int (nI (ia + 1)), .int (nI (ib + 1)), ev_dead] [] σ τ _
            refine Rx.go (fun _ => rfl) ?_
            refine Rx.go (fun _ => rfl) ?_
            show Rx X c0 m_Mod_same 84 [.ref (c0 + 16), .int (nI (ia + 1)), .int (nI (ib + 1)), .int 0] [] σ τ _
            refine Rx.go (fun _ => rfl) ?_
            refine Rx.go (fun _ => rfl) ?_
            show Rx X c0 m_Mod_same 116 [.ref (c0 + 16), .int (nI (ia + 1)), .int (nI (ib + 1)), .int 0] [] σ τ _
            refine Rx.go (fun _ => rfl) ?_
            show Rx X c0 m_Mod_same 117 [.ref (c0 + 16), .int (nI (ia + 1)), .int (nI (ib + 1)), .int 0] [.int 0] σ τ _
            exact Rx.ret rfl (ev_reti rfl) ⟨by rw [if_neg (ix_ne c1), samv, if_neg (fun z => num_f c9 z.2), if_neg (fun z => z.1.elim (kn_n (n := 7) rfl c10) (kn_n (n := 7) rfl c13))], rfl, rfl⟩
          · replace c13 : (nI (knd ts ib)) = 7 := Classical.not_not.mp (of_decide_eq_false c13)
            show Rx X c0 m_Mod_same 78 [.ref (c0 + 16), .int (nI (ia + 1)), .int (nI (ib + 1)), ev_dead] [] σ τ _
            refine Rx.go (fun _ => rfl) ?_
            refine Rx.go (fun _ => rfl) ?_
            refine Rx.go (fun _ => rfl) ?_
            show Rx X c0 m_Mod_same 84 [.ref (c0 + 16), .int (nI (ia + 1)), .int (nI (ib + 1)), .int 1] [] σ τ _
            refine Rx.go (fun _ => rfl) ?_
            refine Rx.go (fun _ => rfl) ?_
            show Rx X c0 m_Mod_same 88 [.ref (c0 + 16), .int (nI (ia + 1)), .int (nI (ib + 1)), .int 1] [] σ τ _
            refine Rx.go (fun _ => rfl) ?_
            refine Rx.get rfl rfl ?_
            refine Rx.go (fun _ => rfl) ?_
            refine Rx.aldE (v := nI (knd ts ia)) 5 rfl rfl (nI_ix (N := 2002) (n := ia + 1) (by have := hR.2.1; omega) (by decide)) (rt_k hR hia) ?_
            refine Rx.scallE rfl rfl rfl rfl (sx_Mod_isLiteral X _) ?_
            show Rx X c0 m_Mod_same 97 [.ref (c0 + 16), .int (nI (ia + 1)), .int (nI (ib + 1)), .int 1] [.int (bi (decide (2 < nI (knd ts ia))))] σ τ _
            refine Rx.go (fun _ => rfl) ?_
            refine Rx.ite (fun c14 => ?_) (fun c14 => ?_)
            · replace c14 : (decide (2 < nI (knd ts ia))) = false := bi_eqt c14
              show Rx X c0 m_Mod_same 116 [.ref (c0 + 16), .int (nI (ia + 1)), .int (nI (ib + 1)), .int 1] [] σ τ _
              refine Rx.go (fun _ => rfl) ?_
              show Rx X c0 m_Mod_same 117 [.ref (c0 + 16), .int (nI (ia + 1)), .int (nI (ib + 1)), .int 1] [.int 0] σ τ _
              exact Rx.ret rfl (ev_reti rfl) ⟨by rw [if_neg (ix_ne c1), samv, if_neg (fun z => num_f c9 z.2), if_neg (fun z => lit_f hR hia c14 z.2.1)], rfl, rfl⟩
            · replace c14 : (decide (2 < nI (knd ts ia))) = true := bi_eqf c14
              show Rx X c0 m_Mod_same 100 [.ref (c0 + 16), .int (nI (ia + 1)), .int (nI (ib + 1)), .int 1] [] σ τ _
              refine Rx.go (fun _ => rfl) ?_
              refine Rx.get rfl rfl ?_
              refine Rx.go (fun _ => rfl) ?_
              refine Rx.aldE (v := nI (knd ts ib)) 5 rfl rfl (nI_ix (N := 2002) (n := ib + 1) (by have := hR.2.1; omega) (by decide)) (rt_k hR hib) ?_
              refine Rx.scallE rfl rfl rfl rfl (sx_Mod_isLiteral X _) ?_
              show Rx X c0 m_Mod_same 109 [.ref (c0 + 16), .int (nI (ia + 1)), .int (nI (ib + 1)), .int 1] [.int (bi (decide (2 < nI (knd ts ib))))] σ τ _
              refine Rx.go (fun _ => rfl) ?_
              refine Rx.ite (fun c15 => ?_) (fun c15 => ?_)
              · replace c15 : (decide (2 < nI (knd ts ib))) = false := bi_eqt c15
                show Rx X c0 m_Mod_same 116 [.ref (c0 + 16), .int (nI (ia + 1)), .int (nI (ib + 1)), .int 1] [] σ τ _
                refine Rx.go (fun _ => rfl) ?_
                show Rx X c0 m_Mod_same 117 [.ref (c0 + 16), .int (nI (ia + 1)), .int (nI (ib + 1)), .int 1] [.int 0] σ τ _
                exact Rx.ret rfl (ev_reti rfl) ⟨by rw [if_neg (ix_ne c1), samv, if_neg (fun z => num_f c9 z.2), if_neg (fun z => lit_f hR hib c15 z.2.2)], rfl, rfl⟩
              · replace c15 : (decide (2 < nI (knd ts ib))) = true := bi_eqf c15
                show Rx X c0 m_Mod_same 112 [.ref (c0 + 16), .int (nI (ia + 1)), .int (nI (ib + 1)), .int 1] [] σ τ _
                refine Rx.go (fun _ => rfl) ?_
                refine Rx.go (fun _ => rfl) ?_
                show Rx X c0 m_Mod_same 117 [.ref (c0 + 16), .int (nI (ia + 1)), .int (nI (ib + 1)), .int 1] [.int 2] σ τ _
                exact Rx.ret rfl (ev_reti rfl) ⟨by rw [if_neg (ix_ne c1), samv, if_neg (fun z => num_f c9 z.2), if_pos ⟨Or.inr (kn_e hR hib (n := 7) rfl (by decide) c13), lit_t hR hia c14, lit_t hR hib c15⟩], rfl, rfl⟩
      · replace c9 : (decide (knd ts ib = 3) || decide (knd ts ib = 4)) = true := bi_eqf c9
        show Rx X c0 m_Mod_same 41 [.ref (c0 + 16), .int (nI (ia + 1)), .int (nI (ib + 1)), ev_dead] [] σ τ _
        refine Rx.go (fun _ => rfl) ?_
        refine Rx.go (fun _ => rfl) ?_
        refine Rx.go (fun _ => rfl) ?_
        refine Rx.callE rfl rfl rfl rfl (rx_orderNumbers X c0 _ _ hR hia hib) ?_
        show Rx X c0 m_Mod_same 47 [.ref (c0 + 16), .int (nI (ia + 1)), .int (nI (ib + 1)), ev_dead] [.int (onum (bys ts ia) (bys ts ib))] σ τ _
        refine Rx.go (fun _ => rfl) ?_
        refine Rx.ite (fun c16 => ?_) (fun c16 => ?_)
        · replace c16 : ¬ (onum (bys ts ia) (bys ts ib)) = 0 := of_decide_eq_true c16
          show Rx X c0 m_Mod_same 54 [.ref (c0 + 16), .int (nI (ia + 1)), .int (nI (ib + 1)), ev_dead] [] σ τ _
          refine Rx.go (fun _ => rfl) ?_
          show Rx X c0 m_Mod_same 55 [.ref (c0 + 16), .int (nI (ia + 1)), .int (nI (ib + 1)), ev_dead] [.int 0] σ τ _
          exact Rx.ret rfl (ev_reti rfl) ⟨by rw [if_neg (ix_ne c1), samv, if_pos ⟨num_t c2, num_t c9⟩, if_neg c16], rfl, rfl⟩
        · replace c16 : (onum (bys ts ia) (bys ts ib)) = 0 := Classical.not_not.mp (of_decide_eq_false c16)
          show Rx X c0 m_Mod_same 50 [.ref (c0 + 16), .int (nI (ia + 1)), .int (nI (ib + 1)), ev_dead] [] σ τ _
          refine Rx.go (fun _ => rfl) ?_
          refine Rx.go (fun _ => rfl) ?_
          show Rx X c0 m_Mod_same 55 [.ref (c0 + 16), .int (nI (ia + 1)), .int (nI (ib + 1)), ev_dead] [.int 1] σ τ _
          exact Rx.ret rfl (ev_reti rfl) ⟨by rw [if_neg (ix_ne c1), samv, if_pos ⟨num_t c2, num_t c9⟩, if_pos c16], rfl, rfl⟩
  · replace c1 : (nI (ia + 1)) = (nI (ib + 1)) := Classical.not_not.mp (of_decide_eq_false c1)
    show Rx X c0 m_Mod_same 23 [.ref (c0 + 16), .int (nI (ia + 1)), .int (nI (ib + 1)), ev_dead] [] σ τ _
    refine Rx.go (fun _ => rfl) ?_
    show Rx X c0 m_Mod_same 24 [.ref (c0 + 16), .int (nI (ia + 1)), .int (nI (ib + 1)), ev_dead] [.int 1] σ τ _
    exact Rx.ret rfl (ev_reti rfl) ⟨by rw [if_pos (ix_eq hR hia hib c1)], rfl, rfl⟩
set_option maxRecDepth 100000 in
set_option maxHeartbeats 1000000 in
theorem rx_less (X : ev_X) (c0 : Nat) (σ : Nat → Int32) (τ : Nat → Nat → Int32) {ts : RT} (hR : rt σ τ ts) {ia ib : Nat} (hia : ia < ts.length) (hib : ib < ts.length) {Ba Bb Ta Tb : List Nat} (hA : twf ts ia Ba Ta) (hB : twf ts ib Bb Tb) : Rx X c0 m_Mod_less 0 [.ref (c0 + 16), .int (nI (ia + 1)), .int (nI (ib + 1)), ev_dead] [] σ τ (fun r σ' τ' => r = some (.int (lesv (knd ts ia) (knd ts ib) (bys ts ia) (bys ts ib) (if ia = ib then 0 else ordv (knd ts ia) (knd ts ib) (bys ts ia) (bys ts ib) Ba Bb Ta Tb))) ∧ σ' = σ ∧ τ' = τ) := by
  refine Rx.go (fun _ => rfl) ?_
  refine Rx.go (fun _ => rfl) ?_
  refine Rx.callE rfl rfl rfl rfl (rx_isT X c0 _ _ hR hia) ?_
  show Rx X c0 m_Mod_less 5 [.ref (c0 + 16), .int (nI (ia + 1)), .int (nI (ib + 1)), ev_dead] [.int 1] σ τ _
  refine Rx.go (fun _ => rfl) ?_
  show Rx X c0 m_Mod_less 8 [.ref (c0 + 16), .int (nI (ia + 1)), .int (nI (ib + 1)), ev_dead] [] σ τ _
  refine Rx.go (fun _ => rfl) ?_
  refine Rx.go (fun _ => rfl) ?_
  refine Rx.callE rfl rfl rfl rfl (rx_isT X c0 _ _ hR hib) ?_
  show Rx X c0 m_Mod_less 13 [.ref (c0 + 16), .int (nI (ia + 1)), .int (nI (ib + 1)), ev_dead] [.int 1] σ τ _
  refine Rx.go (fun _ => rfl) ?_
  show Rx X c0 m_Mod_less 18 [.ref (c0 + 16), .int (nI (ia + 1)), .int (nI (ib + 1)), ev_dead] [] σ τ _
  refine Rx.go (fun _ => rfl) ?_
  refine Rx.go (fun _ => rfl) ?_
  refine Rx.callE rfl rfl rfl rfl (rx_isNum X c0 _ _ hR hia) ?_
  show Rx X c0 m_Mod_less 23 [.ref (c0 + 16), .int (nI (ia + 1)), .int (nI (ib + 1)), ev_dead] [.int (bi (decide (knd ts ia = 3) || decide (knd ts ia = 4)))] σ τ _
  refine Rx.go (fun _ => rfl) ?_
  refine Rx.ite (fun c1 => ?_) (fun c1 => ?_)
  · replace c1 : (decide (knd ts ia = 3) || decide (knd ts ia = 4)) = false := bi_eqt c1
    show Rx X c0 m_Mod_less 34 [.ref (c0 + 16), .int (nI (ia + 1)), .int (nI (ib + 1)), ev_dead] [] σ τ _
    refine Rx.go (fun _ => rfl) ?_
    refine Rx.get rfl rfl ?_
    refine Rx.go (fun _ => rfl) ?_
    refine Rx.aldE (v := nI (knd ts ia)) 5 rfl rfl (nI_ix (N := 2002) (n := ia + 1) (by have := hR.2.1; omega) (by decide)) (rt_k hR hia) ?_
    refine Rx.go (fun _ => rfl) ?_
    refine Rx.get rfl rfl ?_
    refine Rx.go (fun _ => rfl) ?_
    refine Rx.aldE (v := nI (knd ts ib)) 5 rfl rfl (nI_ix (N := 2002) (n := ib + 1) (by have := hR.2.1; omega) (by decide)) (rt_k hR hib) ?_
    refine Rx.go (fun _ => rfl) ?_
    refine Rx.ite (fun c2 => ?_) (fun c2 => ?_)
    · replace c2 : ¬ (nI (knd ts ia)) = (nI (knd ts ib)) := of_decide_eq_true c2
      show Rx X c0 m_Mod_less 74 [.ref (c0 + 16), .int (nI (ia + 1)), .int (nI (ib + 1)), ev_dead] [] σ τ _
      refine Rx.go (fun _ => rfl) ?_
      refine Rx.go (fun _ => rfl) ?_
      show Rx X c0 m_Mod_less 76 [.ref (c0 + 16), .int (nI (ia + 1)), .int (nI (ib + 1)), .int 0] [] σ τ _
      refine Rx.go (fun _ => rfl) ?_
      refine Rx.go (fun _ => rfl) ?_
      show Rx X c0 m_Mod_less 80 [.ref (c0 + 16), .int (nI (ia + 1)), .int (nI (ib + 1)), .int 0] [] σ τ _
      refine Rx.go (fun _ => rfl) ?_
      show Rx X c0 m_Mod_less 81 [.ref (c0 + 16), .int (nI (ia + 1)), .int (nI (ib + 1)), .int 0] [.int 2] σ τ _
      exact Rx.ret rfl (ev_reti rfl) ⟨by rw [lesv, if_neg (fun z => num_f c1 z.1), if_neg (fun z => c2 (by rw [z.1]))], rfl, rfl⟩
    · replace c2 : (nI (knd ts ia)) = (nI (knd ts ib)) := Classical.not_not.mp (of_decide_eq_false c2)
      show Rx X c0 m_Mod_less 49 [.ref (c0 + 16), .int (nI (ia + 1)), .int (nI (ib + 1)), ev_dead] [] σ τ _
      refine Rx.go (fun _ => rfl) ?_
      refine Rx.get rfl rfl ?_
      refine Rx.go (fun _ => rfl) ?_
      refine Rx.aldE (v := nI (knd ts ia)) 5 rfl rfl (nI_ix (N := 2002) (n := ia + 1) (by have := hR.2.1; omega) (by decide)) (rt_k hR hia) ?_
      refine Rx.go (fun _ => rfl) ?_
      refine Rx.go (fun _ => rfl) ?_
      refine Rx.ite (fun c3 => ?_) (fun c3 => ?_)
      · replace c3 : (nI (knd ts ia)) = 5 := of_decide_eq_true c3
        show Rx X c0 m_Mod_less 70 [.ref (c0 + 16), .int (nI (ia + 1)), .int (nI (ib + 1)), ev_dead] [] σ τ _
        refine Rx.go (fun _ => rfl) ?_
        refine Rx.go (fun _ => rfl) ?_
        refine Rx.go (fun _ => rfl) ?_
        show Rx X c0 m_Mod_less 76 [.ref (c0 + 16), .int (nI (ia + 1)), .int (nI (ib + 1)), .int 1] [] σ τ _
        refine Rx.go (fun _ => rfl) ?_
        refine Rx.go (fun _ => rfl) ?_
        show Rx X c0 m_Mod_less 82 [.ref (c0 + 16), .int (nI (ia + 1)), .int (nI (ib + 1)), .int 1] [] σ τ _
        refine Rx.go (fun _ => rfl) ?_
        refine Rx.go (fun _ => rfl) ?_
        refine Rx.callE rfl rfl rfl rfl (rx_isNum X c0 _ _ hR hia) ?_
        show Rx X c0 m_Mod_less 87 [.ref (c0 + 16), .int (nI (ia + 1)), .int (nI (ib + 1)), .int 1] [.int (bi (decide (knd ts ia = 3) || decide (knd ts ia = 4)))] σ τ _
        refine Rx.go (fun _ => rfl) ?_
        refine Rx.ite (fun c4 => ?_) (fun c4 => ?_)
        · replace c4 : (decide (knd ts ia = 3) || decide (knd ts ia = 4)) = false := bi_eqt c4
          show Rx X c0 m_Mod_less 107 [.ref (c0 + 16), .int (nI (ia + 1)), .int (nI (ib + 1)), .int 1] [] σ τ _
          refine Rx.go (fun _ => rfl) ?_
          refine Rx.go (fun _ => rfl) ?_
          refine Rx.go (fun _ => rfl) ?_
          refine Rx.callE rfl rfl rfl rfl (rx_order X c0 _ _ hR hia hib hA hB) ?_
          show Rx X c0 m_Mod_less 113 [.ref (c0 + 16), .int (nI (ia + 1)), .int (nI (ib + 1)), .int 1] [.int (if ia = ib then 0 else ordv (knd ts ia) (knd ts ib) (bys ts ia) (bys ts ib) Ba Bb Ta Tb)] σ τ _
          refine Rx.go (fun _ => rfl) ?_
          refine Rx.ite (fun c5 => ?_) (fun c5 => ?_)
          · replace c5 : 0 ≤ (if ia = ib then 0 else ordv (knd ts ia) (knd ts ib) (bys ts ia) (bys ts ib) Ba Bb Ta Tb) := of_decide_eq_true c5
            show Rx X c0 m_Mod_less 120 [.ref (c0 + 16), .int (nI (ia + 1)), .int (nI (ib + 1)), .int 1] [] σ τ _
            refine Rx.go (fun _ => rfl) ?_
            show Rx X c0 m_Mod_less 121 [.ref (c0 + 16), .int (nI (ia + 1)), .int (nI (ib + 1)), .int 1] [.int 0] σ τ _
            exact Rx.ret rfl (ev_reti rfl) ⟨by rw [lesv, if_neg (fun z => num_f c1 z.1), if_pos ⟨kk_e hR hia hib c2, Or.inl (kn_e hR hia (n := 5) rfl (by decide) c3)⟩, if_pos c5], rfl, rfl⟩
          · replace c5 : ¬ 0 ≤ (if ia = ib then 0 else ordv (knd ts ia) (knd ts ib) (bys ts ia) (bys ts ib) Ba Bb Ta Tb) := of_decide_eq_false c5
            show Rx X c0 m_Mod_less 116 [.ref (c0 + 16), .int (nI (ia + 1)), .int (nI (ib + 1)), .int 1] [] σ τ _
            refine Rx.go (fun _ => rfl) ?_
            refine Rx.go (fun _ => rfl) ?_
            show Rx X c0 m_Mod_less 121 [.ref (c0 + 16), .int (nI (ia + 1)), .int (nI (ib + 1)), .int 1] [.int 1] σ τ _
            exact Rx.ret rfl (ev_reti rfl) ⟨by rw [lesv, if_neg (fun z => num_f c1 z.1), if_pos ⟨kk_e hR hia hib c2, Or.inl (kn_e hR hia (n := 5) rfl (by decide) c3)⟩, if_neg c5], rfl, rfl⟩
        · replace c4 : (decide (knd ts ia = 3) || decide (knd ts ia = 4)) = true := bi_eqf c4
          exact Bool.noConfusion (c1.symm.trans c4)
      · replace c3 : ¬ (nI (knd ts ia)) = 5 := of_decide_eq_false c3
        show Rx X c0 m_Mod_less 59 [.ref (c0 + 16), .int (nI (ia + 1)), .int (nI (ib + 1)), ev_dead] [] σ τ _
        refine Rx.go (fun _ => rfl) ?_
        refine Rx.get rfl rfl ?_
        refine Rx.go (fun _ => rfl) ?_
        refine Rx.aldE (v := nI (knd ts ia)) 5 rfl rfl (nI_ix (N := 2002) (n := ia + 1) (by have := hR.2.1; omega) (by decide)) (rt_k hR hia) ?_
        refine Rx.go (fun _ => rfl) ?_
        refine Rx.go (fun _ => rfl) ?_
        refine Rx.ite (fun c6 => ?_) (fun c6 => ?_)
        · replace c6 : ¬ (nI (knd ts ia)) = 8 := of_decide_eq_true c6
          show Rx X c0 m_Mod_less 74 [.ref (c0 + 16), .int (nI (ia + 1)), .int (nI (ib + 1)), ev_dead] [] σ τ _
          refine Rx.go (fun _ => rfl) ?_
          refine Rx.go (fun _ => rfl) ?_
          show Rx X c0 m_Mod_less 76 [.ref (c0 + 16), .int (nI (ia + 1)), .int (nI (ib + 1)), .int 0] [] σ τ _
          refine Rx.go (fun _ => rfl) ?_
          refine Rx.go (fun _ => rfl) ?_
          show Rx X c0 m_Mod_less 80 [.ref (c0 + 16), .int (nI (ia + 1)), .int (nI (ib + 1)), .int 0] [] σ τ _
          refine Rx.go (fun _ => rfl) ?_
          show Rx X c0 m_Mod_less 81 [.ref (c0 + 16), .int (nI (ia + 1)), .int (nI (ib + 1)), .int 0] [.int 2] σ τ _
          exact Rx.ret rfl (ev_reti rfl) ⟨by rw [lesv, if_neg (fun z => num_f c1 z.1), if_neg (fun z => z.2.elim (kn_n (n := 5) rfl c3) (kn_n (n := 8) rfl c6))], rfl, rfl⟩
        · replace c6 : (nI (knd ts ia)) = 8 := Classical.not_not.mp (of_decide_eq_false c6)
          show Rx X c0 m_Mod_less 70 [.ref (c0 + 16), .int (nI (ia + 1)), .int (nI (ib + 1)), ev_dead] [] σ τ _
          refine Rx.go (fun _ => rfl) ?_
          refine Rx.go (fun _ => rfl) ?_
          refine Rx.go (fun _ => rfl) ?_
          show Rx X c0 m_Mod_less 76 [.ref (c0 + 16), .int (nI (ia + 1)), .int (nI (ib + 1)), .int 1] [] σ τ _
          refine Rx.go (fun _ => rfl) ?_
          refine Rx.go (fun _ => rfl) ?_
          show Rx X c0 m_Mod_less 82 [.ref (c0 + 16), .int (nI (ia + 1)), .int (nI (ib + 1)), .int 1] [] σ τ _
          refine Rx.go (fun _ => rfl) ?_
          refine Rx.go (fun _ => rfl) ?_
          refine Rx.callE rfl rfl rfl rfl (rx_isNum X c0 _ _ hR hia) ?_
          show Rx X c0 m_Mod_less 87 [.ref (c0 + 16), .int (nI (ia + 1)), .int (nI (ib + 1)), .int 1] [.int (bi (decide (knd ts ia = 3) || decide (knd ts ia = 4)))] σ τ _
          refine Rx.go (fun _ => rfl) ?_
          refine Rx.ite (fun c7 => ?_) (fun c7 => ?_)
          · replace c7 : (decide (knd ts ia = 3) || decide (knd ts ia = 4)) = false := bi_eqt c7
            show Rx X c0 m_Mod_less 107 [.ref (c0 + 16), .int (nI (ia + 1)), .int (nI (ib + 1)), .int 1] [] σ τ _
            refine Rx.go (fun _ => rfl) ?_
            refine Rx.go (fun _ => rfl) ?_
            refine Rx.go (fun _ => rfl) ?_
            refine Rx.callE rfl rfl rfl rfl (rx_order X c0 _ _ hR hia hib hA hB) ?_
            show Rx X c0 m_Mod_less 113 [.ref (c0 + 16), .int (nI (ia + 1)), .int (nI (ib + 1)), .int 1] [.int (if ia = ib then 0 else ordv (knd ts ia) (knd ts ib) (bys ts ia) (bys ts ib) Ba Bb Ta Tb)] σ τ _
            refine Rx.go (fun _ => rfl) ?_
            refine Rx.ite (fun c8 => ?_) (fun c8 => ?_)
            · replace c8 : 0 ≤ (if ia = ib then 0 else ordv (knd ts ia) (knd ts ib) (bys ts ia) (bys ts ib) Ba Bb Ta Tb) := of_decide_eq_true c8
              show Rx X c0 m_Mod_less 120 [.ref (c0 + 16), .int (nI (ia + 1)), .int (nI (ib + 1)), .int 1] [] σ τ _
              refine Rx.go (fun _ => rfl) ?_
              show Rx X c0 m_Mod_less 121 [.ref (c0 + 16), .int (nI (ia + 1)), .int (nI (ib + 1)), .int 1] [.int 0] σ τ _
              exact Rx.ret rfl (ev_reti rfl) ⟨by rw [lesv, if_neg (fun z => num_f c1 z.1), if_pos ⟨kk_e hR hia hib c2, Or.inr (kn_e hR hia (n := 8) rfl (by decide) c6)⟩, if_pos c8], rfl, rfl⟩
            · replace c8 : ¬ 0 ≤ (if ia = ib then 0 else ordv (knd ts ia) (knd ts ib) (bys ts ia) (bys ts ib) Ba Bb Ta Tb) := of_decide_eq_false c8
              show Rx X c0 m_Mod_less 116 [.ref (c0 + 16), .int (nI (ia + 1)), .int (nI (ib + 1)), .int 1] [] σ τ _
              refine Rx.go (fun _ => rfl) ?_
              refine Rx.go (fun _ => rfl) ?_
              show Rx X c0 m_Mod_less 121 [.ref (c0 + 16), .int (nI (ia + 1)), .int (nI (ib + 1)), .int 1] [.int 1] σ τ _
              exact Rx.ret rfl (ev_reti rfl) ⟨by rw [lesv, if_neg (fun z => num_f c1 z.1), if_pos ⟨kk_e hR hia hib c2, Or.inr (kn_e hR hia (n := 8) rfl (by decide) c6)⟩, if_neg c8], rfl, rfl⟩
          · replace c7 : (decide (knd ts ia = 3) || decide (knd ts ia = 4)) = true := bi_eqf c7
            exact Bool.noConfusion (c1.symm.trans c7)
  · replace c1 : (decide (knd ts ia = 3) || decide (knd ts ia = 4)) = true := bi_eqf c1
    show Rx X c0 m_Mod_less 26 [.ref (c0 + 16), .int (nI (ia + 1)), .int (nI (ib + 1)), ev_dead] [] σ τ _
    refine Rx.go (fun _ => rfl) ?_
    refine Rx.go (fun _ => rfl) ?_
    refine Rx.callE rfl rfl rfl rfl (rx_isNum X c0 _ _ hR hib) ?_
    show Rx X c0 m_Mod_less 31 [.ref (c0 + 16), .int (nI (ia + 1)), .int (nI (ib + 1)), ev_dead] [.int (bi (decide (knd ts ib = 3) || decide (knd ts ib = 4)))] σ τ _
    refine Rx.go (fun _ => rfl) ?_
    refine Rx.ite (fun c9 => ?_) (fun c9 => ?_)
    · replace c9 : (decide (knd ts ib = 3) || decide (knd ts ib = 4)) = true := bi_net c9
      show Rx X c0 m_Mod_less 70 [.ref (c0 + 16), .int (nI (ia + 1)), .int (nI (ib + 1)), ev_dead] [] σ τ _
      refine Rx.go (fun _ => rfl) ?_
      refine Rx.go (fun _ => rfl) ?_
      refine Rx.go (fun _ => rfl) ?_
      show Rx X c0 m_Mod_less 76 [.ref (c0 + 16), .int (nI (ia + 1)), .int (nI (ib + 1)), .int 1] [] σ τ _
      refine Rx.go (fun _ => rfl) ?_
      refine Rx.go (fun _ => rfl) ?_
      show Rx X c0 m_Mod_less 82 [.ref (c0 + 16), .int (nI (ia + 1)), .int (nI (ib + 1)), .int 1] [] σ τ _
      refine Rx.go (fun _ => rfl) ?_
      refine Rx.go (fun _ => rfl) ?_
      refine Rx.callE rfl rfl rfl rfl (rx_isNum X c0 _ _ hR hia) ?_
      show Rx X c0 m_Mod_less 87 [.ref (c0 + 16), .int (nI (ia + 1)), .int (nI (ib + 1)), .int 1] [.int (bi (decide (knd ts ia = 3) || decide (knd ts ia = 4)))] σ τ _
      refine Rx.go (fun _ => rfl) ?_
      refine Rx.ite (fun c10 => ?_) (fun c10 => ?_)
      · replace c10 : (decide (knd ts ia = 3) || decide (knd ts ia = 4)) = false := bi_eqt c10
        exact Bool.noConfusion (c1.symm.trans c10)
      · replace c10 : (decide (knd ts ia = 3) || decide (knd ts ia = 4)) = true := bi_eqf c10
        show Rx X c0 m_Mod_less 90 [.ref (c0 + 16), .int (nI (ia + 1)), .int (nI (ib + 1)), .int 1] [] σ τ _
        refine Rx.go (fun _ => rfl) ?_
        refine Rx.go (fun _ => rfl) ?_
        refine Rx.go (fun _ => rfl) ?_
        refine Rx.callE rfl rfl rfl rfl (rx_orderNumbers X c0 _ _ hR hia hib) ?_
        show Rx X c0 m_Mod_less 96 [.ref (c0 + 16), .int (nI (ia + 1)), .int (nI (ib + 1)), .int 1] [.int (onum (bys ts ia) (bys ts ib))] σ τ _
        refine Rx.go (fun _ => rfl) ?_
        refine Rx.ite (fun c11 => ?_) (fun c11 => ?_)
        · replace c11 : 0 ≤ (onum (bys ts ia) (bys ts ib)) := of_decide_eq_true c11
          show Rx X c0 m_Mod_less 103 [.ref (c0 + 16), .int (nI (ia + 1)), .int (nI (ib + 1)), .int 1] [] σ τ _
          refine Rx.go (fun _ => rfl) ?_
          refine Rx.go (fun _ => rfl) ?_
          show Rx X c0 m_Mod_less 121 [.ref (c0 + 16), .int (nI (ia + 1)), .int (nI (ib + 1)), .int 1] [.int 0] σ τ _
          exact Rx.ret rfl (ev_reti rfl) ⟨by rw [lesv, if_pos ⟨num_t c1, num_t c9⟩, if_pos c11], rfl, rfl⟩
        · replace c11 : ¬ 0 ≤ (onum (bys ts ia) (bys ts ib)) := of_decide_eq_false c11
          show Rx X c0 m_Mod_less 99 [.ref (c0 + 16), .int (nI (ia + 1)), .int (nI (ib + 1)), .int 1] [] σ τ _
          refine Rx.go (fun _ => rfl) ?_
          refine Rx.go (fun _ => rfl) ?_
          show Rx X c0 m_Mod_less 121 [.ref (c0 + 16), .int (nI (ia + 1)), .int (nI (ib + 1)), .int 1] [.int 1] σ τ _
          exact Rx.ret rfl (ev_reti rfl) ⟨by rw [lesv, if_pos ⟨num_t c1, num_t c9⟩, if_neg c11], rfl, rfl⟩
    · replace c9 : (decide (knd ts ib = 3) || decide (knd ts ib = 4)) = false := bi_nef c9
      show Rx X c0 m_Mod_less 34 [.ref (c0 + 16), .int (nI (ia + 1)), .int (nI (ib + 1)), ev_dead] [] σ τ _
      refine Rx.go (fun _ => rfl) ?_
      refine Rx.get rfl rfl ?_
      refine Rx.go (fun _ => rfl) ?_
      refine Rx.aldE (v := nI (knd ts ia)) 5 rfl rfl (nI_ix (N := 2002) (n := ia + 1) (by have := hR.2.1; omega) (by decide)) (rt_k hR hia) ?_
      refine Rx.go (fun _ => rfl) ?_
      refine Rx.get rfl rfl ?_
      refine Rx.go (fun _ => rfl) ?_
      refine Rx.aldE (v := nI (knd ts ib)) 5 rfl rfl (nI_ix (N := 2002) (n := ib + 1) (by have := hR.2.1; omega) (by decide)) (rt_k hR hib) ?_
      refine Rx.go (fun _ => rfl) ?_
      refine Rx.ite (fun c12 => ?_) (fun c12 => ?_)
      · replace c12 : ¬ (nI (knd ts ia)) = (nI (knd ts ib)) := of_decide_eq_true c12
        show Rx X c0 m_Mod_less 74 [.ref (c0 + 16), .int (nI (ia + 1)), .int (nI (ib + 1)), ev_dead] [] σ τ _
        refine Rx.go (fun _ => rfl) ?_
        refine Rx.go (fun _ => rfl) ?_
        show Rx X c0 m_Mod_less 76 [.ref (c0 + 16), .int (nI (ia + 1)), .int (nI (ib + 1)), .int 0] [] σ τ _
        refine Rx.go (fun _ => rfl) ?_
        refine Rx.go (fun _ => rfl) ?_
        show Rx X c0 m_Mod_less 80 [.ref (c0 + 16), .int (nI (ia + 1)), .int (nI (ib + 1)), .int 0] [] σ τ _
        refine Rx.go (fun _ => rfl) ?_
        show Rx X c0 m_Mod_less 81 [.ref (c0 + 16), .int (nI (ia + 1)), .int (nI (ib + 1)), .int 0] [.int 2] σ τ _
        exact Rx.ret rfl (ev_reti rfl) ⟨by rw [lesv, if_neg (fun z => num_f c9 z.2), if_neg (fun z => c12 (by rw [z.1]))], rfl, rfl⟩
      · replace c12 : (nI (knd ts ia)) = (nI (knd ts ib)) := Classical.not_not.mp (of_decide_eq_false c12)
        show Rx X c0 m_Mod_less 49 [.ref (c0 + 16), .int (nI (ia + 1)), .int (nI (ib + 1)), ev_dead] [] σ τ _
        refine Rx.go (fun _ => rfl) ?_
        refine Rx.get rfl rfl ?_
        refine Rx.go (fun _ => rfl) ?_
        refine Rx.aldE (v := nI (knd ts ia)) 5 rfl rfl (nI_ix (N := 2002) (n := ia + 1) (by have := hR.2.1; omega) (by decide)) (rt_k hR hia) ?_
        refine Rx.go (fun _ => rfl) ?_
        refine Rx.go (fun _ => rfl) ?_
        refine Rx.ite (fun c13 => ?_) (fun c13 => ?_)
        · replace c13 : (nI (knd ts ia)) = 5 := of_decide_eq_true c13
          show Rx X c0 m_Mod_less 70 [.ref (c0 + 16), .int (nI (ia + 1)), .int (nI (ib + 1)), ev_dead] [] σ τ _
          refine Rx.go (fun _ => rfl) ?_
          refine Rx.go (fun _ => rfl) ?_
          refine Rx.go (fun _ => rfl) ?_
          show Rx X c0 m_Mod_less 76 [.ref (c0 + 16), .int (nI (ia + 1)), .int (nI (ib + 1)), .int 1] [] σ τ _
          refine Rx.go (fun _ => rfl) ?_
          refine Rx.go (fun _ => rfl) ?_
          show Rx X c0 m_Mod_less 82 [.ref (c0 + 16), .int (nI (ia + 1)), .int (nI (ib + 1)), .int 1] [] σ τ _
          refine Rx.go (fun _ => rfl) ?_
          refine Rx.go (fun _ => rfl) ?_
          refine Rx.callE rfl rfl rfl rfl (rx_isNum X c0 _ _ hR hia) ?_
          show Rx X c0 m_Mod_less 87 [.ref (c0 + 16), .int (nI (ia + 1)), .int (nI (ib + 1)), .int 1] [.int (bi (decide (knd ts ia = 3) || decide (knd ts ia = 4)))] σ τ _
          refine Rx.go (fun _ => rfl) ?_
          refine Rx.ite (fun c14 => ?_) (fun c14 => ?_)
          · replace c14 : (decide (knd ts ia = 3) || decide (knd ts ia = 4)) = false := bi_eqt c14
            exact Bool.noConfusion (c1.symm.trans c14)
          · replace c14 : (decide (knd ts ia = 3) || decide (knd ts ia = 4)) = true := bi_eqf c14
            show Rx X c0 m_Mod_less 90 [.ref (c0 + 16), .int (nI (ia + 1)), .int (nI (ib + 1)), .int 1] [] σ τ _
            refine Rx.go (fun _ => rfl) ?_
            refine Rx.go (fun _ => rfl) ?_
            refine Rx.go (fun _ => rfl) ?_
            refine Rx.callE rfl rfl rfl rfl (rx_orderNumbers X c0 _ _ hR hia hib) ?_
            show Rx X c0 m_Mod_less 96 [.ref (c0 + 16), .int (nI (ia + 1)), .int (nI (ib + 1)), .int 1] [.int (onum (bys ts ia) (bys ts ib))] σ τ _
            refine Rx.go (fun _ => rfl) ?_
            refine Rx.ite (fun c15 => ?_) (fun c15 => ?_)
            · replace c15 : 0 ≤ (onum (bys ts ia) (bys ts ib)) := of_decide_eq_true c15
              show Rx X c0 m_Mod_less 103 [.ref (c0 + 16), .int (nI (ia + 1)), .int (nI (ib + 1)), .int 1] [] σ τ _
              refine Rx.go (fun _ => rfl) ?_
              refine Rx.go (fun _ => rfl) ?_
              show Rx X c0 m_Mod_less 121 [.ref (c0 + 16), .int (nI (ia + 1)), .int (nI (ib + 1)), .int 1] [.int 0] σ τ _
              exact absurd (num_t c14) (by have z1 := kn_e hR hia (n := 5) rfl (by decide) c13; have z2 := kk_e hR hia hib c12; omega)
            · replace c15 : ¬ 0 ≤ (onum (bys ts ia) (bys ts ib)) := of_decide_eq_false c15
              show Rx X c0 m_Mod_less 99 [.ref (c0 + 16), .int (nI (ia + 1)), .int (nI (ib + 1)), .int 1] [] σ τ _
              refine Rx.go (fun _ => rfl) ?_
              refine Rx.go (fun _ => rfl) ?_
              show Rx X c0 m_Mod_less 121 [.ref (c0 + 16), .int (nI (ia + 1)), .int (nI (ib + 1)), .int 1] [.int 1] σ τ _
              exact absurd (num_t c14) (by have z1 := kn_e hR hia (n := 5) rfl (by decide) c13; have z2 := kk_e hR hia hib c12; omega)
        · replace c13 : ¬ (nI (knd ts ia)) = 5 := of_decide_eq_false c13
          show Rx X c0 m_Mod_less 59 [.ref (c0 + 16), .int (nI (ia + 1)), .int (nI (ib + 1)), ev_dead] [] σ τ _
          refine Rx.go (fun _ => rfl) ?_
          refine Rx.get rfl rfl ?_
          refine Rx.go (fun _ => rfl) ?_
          refine Rx.aldE (v := nI (knd ts ia)) 5 rfl rfl (nI_ix (N := 2002) (n := ia + 1) (by have := hR.2.1; omega) (by decide)) (rt_k hR hia) ?_
          refine Rx.go (fun _ => rfl) ?_
          refine Rx.go (fun _ => rfl) ?_
          refine Rx.ite (fun c16 => ?_) (fun c16 => ?_)
          · replace c16 : ¬ (nI (knd ts ia)) = 8 := of_decide_eq_true c16
            show Rx X c0 m_Mod_less 74 [.ref (c0 + 16), .int (nI (ia + 1)), .int (nI (ib + 1)), ev_dead] [] σ τ _
            refine Rx.go (fun _ => rfl) ?_
            refine Rx.go (fun _ => rfl) ?_
            show Rx X c0 m_Mod_less 76 [.ref (c0 + 16), .int (nI (ia + 1)), .int (nI (ib + 1)), .int 0] [] σ τ _
            refine Rx.go (fun _ => rfl) ?_
            refine Rx.go (fun _ => rfl) ?_
            show Rx X c0 m_Mod_less 80 [.ref (c0 + 16), .int (nI (ia + 1)), .int (nI (ib + 1)), .int 0] [] σ τ _
            refine Rx.go (fun _ => rfl) ?_
            show Rx X c0 m_Mod_less 81 [.ref (c0 + 16), .int (nI (ia + 1)), .int (nI (ib + 1)), .int 0] [.int 2] σ τ _
            exact Rx.ret rfl (ev_reti rfl) ⟨by rw [lesv, if_neg (fun z => num_f c9 z.2), if_neg (fun z => z.2.elim (kn_n (n := 5) rfl c13) (kn_n (n := 8) rfl c16))], rfl, rfl⟩
          · replace c16 : (nI (knd ts ia)) = 8 := Classical.not_not.mp (of_decide_eq_false c16)
            show Rx X c0 m_Mod_less 70 [.ref (c0 + 16), .int (nI (ia + 1)), .int (nI (ib + 1)), ev_dead] [] σ τ _
            refine Rx.go (fun _ => rfl) ?_
            refine Rx.go (fun _ => rfl) ?_
            refine Rx.go (fun _ => rfl) ?_
            show Rx X c0 m_Mod_less 76 [.ref (c0 + 16), .int (nI (ia + 1)), .int (nI (ib + 1)), .int 1] [] σ τ _
            refine Rx.go (fun _ => rfl) ?_
            refine Rx.go (fun _ => rfl) ?_
            show Rx X c0 m_Mod_less 82 [.ref (c0 + 16), .int (nI (ia + 1)), .int (nI (ib + 1)), .int 1] [] σ τ _
            refine Rx.go (fun _ => rfl) ?_
            refine Rx.go (fun _ => rfl) ?_
            refine Rx.callE rfl rfl rfl rfl (rx_isNum X c0 _ _ hR hia) ?_
            show Rx X c0 m_Mod_less 87 [.ref (c0 + 16), .int (nI (ia + 1)), .int (nI (ib + 1)), .int 1] [.int (bi (decide (knd ts ia = 3) || decide (knd ts ia = 4)))] σ τ _
            refine Rx.go (fun _ => rfl) ?_
            refine Rx.ite (fun c17 => ?_) (fun c17 => ?_)
            · replace c17 : (decide (knd ts ia = 3) || decide (knd ts ia = 4)) = false := bi_eqt c17
              exact Bool.noConfusion (c1.symm.trans c17)
            · replace c17 : (decide (knd ts ia = 3) || decide (knd ts ia = 4)) = true := bi_eqf c17
              show Rx X c0 m_Mod_less 90 [.ref (c0 + 16), .int (nI (ia + 1)), .int (nI (ib + 1)), .int 1] [] σ τ _
              refine Rx.go (fun _ => rfl) ?_
              refine Rx.go (fun _ => rfl) ?_
              refine Rx.go (fun _ => rfl) ?_
              refine Rx.callE rfl rfl rfl rfl (rx_orderNumbers X c0 _ _ hR hia hib) ?_
              show Rx X c0 m_Mod_less 96 [.ref (c0 + 16), .int (nI (ia + 1)), .int (nI (ib + 1)), .int 1] [.int (onum (bys ts ia) (bys ts ib))] σ τ _
              refine Rx.go (fun _ => rfl) ?_
              refine Rx.ite (fun c18 => ?_) (fun c18 => ?_)
              · replace c18 : 0 ≤ (onum (bys ts ia) (bys ts ib)) := of_decide_eq_true c18
                show Rx X c0 m_Mod_less 103 [.ref (c0 + 16), .int (nI (ia + 1)), .int (nI (ib + 1)), .int 1] [] σ τ _
                refine Rx.go (fun _ => rfl) ?_
                refine Rx.go (fun _ => rfl) ?_
                show Rx X c0 m_Mod_less 121 [.ref (c0 + 16), .int (nI (ia + 1)), .int (nI (ib + 1)), .int 1] [.int 0] σ τ _
                exact absurd (num_t c17) (by have z1 := kn_e hR hia (n := 8) rfl (by decide) c16; have z2 := kk_e hR hia hib c12; omega)
              · replace c18 : ¬ 0 ≤ (onum (bys ts ia) (bys ts ib)) := of_decide_eq_false c18
                show Rx X c0 m_Mod_less 99 [.ref (c0 + 16), .int (nI (ia + 1)), .int (nI (ib + 1)), .int 1] [] σ τ _
                refine Rx.go (fun _ => rfl) ?_
                refine Rx.go (fun _ => rfl) ?_
                show Rx X c0 m_Mod_less 121 [.ref (c0 + 16), .int (nI (ia + 1)), .int (nI (ib + 1)), .int 1] [.int 1] σ τ _
                exact absurd (num_t c17) (by have z1 := kn_e hR hia (n := 8) rfl (by decide) c16; have z2 := kk_e hR hia hib c12; omega)
set_option maxRecDepth 100000 in
set_option maxHeartbeats 1000000 in
theorem rx_order_noa (X : ev_X) (c0 : Nat) (σ : Nat → Int32) (τ : Nat → Nat → Int32) (t1 t2 : Int32) (hb : noT σ t1) : Rx X c0 m_Mod_order 0 [.ref (c0 + 16), .int t1, .int t2, ev_dead, ev_dead] [] σ τ (fun r σ' τ' => r = some (.int 2) ∧ σ' = σ ∧ τ' = τ) := by
  refine Rx.go (fun _ => rfl) ?_
  refine Rx.go (fun _ => rfl) ?_
  refine Rx.callE rfl rfl rfl rfl (rx_noT X c0 _ _ _ hb) ?_
  show Rx X c0 m_Mod_order 5 [.ref (c0 + 16), .int t1, .int t2, ev_dead, ev_dead] [.int 0] σ τ _
  refine Rx.go (fun _ => rfl) ?_
  show Rx X c0 m_Mod_order 16 [.ref (c0 + 16), .int t1, .int t2, ev_dead, ev_dead] [] σ τ _
  refine Rx.go (fun _ => rfl) ?_
  show Rx X c0 m_Mod_order 17 [.ref (c0 + 16), .int t1, .int t2, ev_dead, ev_dead] [.int 2] σ τ _
  exact Rx.ret rfl (ev_reti rfl) ⟨rfl, rfl, rfl⟩
set_option maxRecDepth 100000 in
set_option maxHeartbeats 1000000 in
theorem rx_order_nob (X : ev_X) (c0 : Nat) (σ : Nat → Int32) (τ : Nat → Nat → Int32) {ts : RT} (hR : rt σ τ ts) {i : Nat} (hi : i < ts.length) (t2 : Int32) (hb : noT σ t2) : Rx X c0 m_Mod_order 0 [.ref (c0 + 16), .int (nI (i + 1)), .int t2, ev_dead, ev_dead] [] σ τ (fun r σ' τ' => r = some (.int 2) ∧ σ' = σ ∧ τ' = τ) := by
  refine Rx.go (fun _ => rfl) ?_
  refine Rx.go (fun _ => rfl) ?_
  refine Rx.callE rfl rfl rfl rfl (rx_isT X c0 _ _ hR hi) ?_
  show Rx X c0 m_Mod_order 5 [.ref (c0 + 16), .int (nI (i + 1)), .int t2, ev_dead, ev_dead] [.int 1] σ τ _
  refine Rx.go (fun _ => rfl) ?_
  show Rx X c0 m_Mod_order 8 [.ref (c0 + 16), .int (nI (i + 1)), .int t2, ev_dead, ev_dead] [] σ τ _
  refine Rx.go (fun _ => rfl) ?_
  refine Rx.go (fun _ => rfl) ?_
  refine Rx.callE rfl rfl rfl rfl (rx_noT X c0 _ _ _ hb) ?_
  show Rx X c0 m_Mod_order 13 [.ref (c0 + 16), .int (nI (i + 1)), .int t2, ev_dead, ev_dead] [.int 0] σ τ _
  refine Rx.go (fun _ => rfl) ?_
  show Rx X c0 m_Mod_order 16 [.ref (c0 + 16), .int (nI (i + 1)), .int t2, ev_dead, ev_dead] [] σ τ _
  refine Rx.go (fun _ => rfl) ?_
  show Rx X c0 m_Mod_order 17 [.ref (c0 + 16), .int (nI (i + 1)), .int t2, ev_dead, ev_dead] [.int 2] σ τ _
  exact Rx.ret rfl (ev_reti rfl) ⟨rfl, rfl, rfl⟩
set_option maxRecDepth 100000 in
set_option maxHeartbeats 1000000 in
theorem rx_same_noa (X : ev_X) (c0 : Nat) (σ : Nat → Int32) (τ : Nat → Nat → Int32) (t1 t2 : Int32) (hb : noT σ t1) : Rx X c0 m_Mod_same 0 [.ref (c0 + 16), .int t1, .int t2, ev_dead] [] σ τ (fun r σ' τ' => r = some (.int 2) ∧ σ' = σ ∧ τ' = τ) := by
  refine Rx.go (fun _ => rfl) ?_
  refine Rx.go (fun _ => rfl) ?_
  refine Rx.callE rfl rfl rfl rfl (rx_noT X c0 _ _ _ hb) ?_
  show Rx X c0 m_Mod_same 5 [.ref (c0 + 16), .int t1, .int t2, ev_dead] [.int 0] σ τ _
  refine Rx.go (fun _ => rfl) ?_
  show Rx X c0 m_Mod_same 16 [.ref (c0 + 16), .int t1, .int t2, ev_dead] [] σ τ _
  refine Rx.go (fun _ => rfl) ?_
  show Rx X c0 m_Mod_same 17 [.ref (c0 + 16), .int t1, .int t2, ev_dead] [.int 2] σ τ _
  exact Rx.ret rfl (ev_reti rfl) ⟨rfl, rfl, rfl⟩
set_option maxRecDepth 100000 in
set_option maxHeartbeats 1000000 in
theorem rx_same_nob (X : ev_X) (c0 : Nat) (σ : Nat → Int32) (τ : Nat → Nat → Int32) {ts : RT} (hR : rt σ τ ts) {i : Nat} (hi : i < ts.length) (t2 : Int32) (hb : noT σ t2) : Rx X c0 m_Mod_same 0 [.ref (c0 + 16), .int (nI (i + 1)), .int t2, ev_dead] [] σ τ (fun r σ' τ' => r = some (.int 2) ∧ σ' = σ ∧ τ' = τ) := by
  refine Rx.go (fun _ => rfl) ?_
  refine Rx.go (fun _ => rfl) ?_
  refine Rx.callE rfl rfl rfl rfl (rx_isT X c0 _ _ hR hi) ?_
  show Rx X c0 m_Mod_same 5 [.ref (c0 + 16), .int (nI (i + 1)), .int t2, ev_dead] [.int 1] σ τ _
  refine Rx.go (fun _ => rfl) ?_
  show Rx X c0 m_Mod_same 8 [.ref (c0 + 16), .int (nI (i + 1)), .int t2, ev_dead] [] σ τ _
  refine Rx.go (fun _ => rfl) ?_
  refine Rx.go (fun _ => rfl) ?_
  refine Rx.callE rfl rfl rfl rfl (rx_noT X c0 _ _ _ hb) ?_
  show Rx X c0 m_Mod_same 13 [.ref (c0 + 16), .int (nI (i + 1)), .int t2, ev_dead] [.int 0] σ τ _
  refine Rx.go (fun _ => rfl) ?_
  show Rx X c0 m_Mod_same 16 [.ref (c0 + 16), .int (nI (i + 1)), .int t2, ev_dead] [] σ τ _
  refine Rx.go (fun _ => rfl) ?_
  show Rx X c0 m_Mod_same 17 [.ref (c0 + 16), .int (nI (i + 1)), .int t2, ev_dead] [.int 2] σ τ _
  exact Rx.ret rfl (ev_reti rfl) ⟨rfl, rfl, rfl⟩
set_option maxRecDepth 100000 in
set_option maxHeartbeats 1000000 in
theorem rx_less_noa (X : ev_X) (c0 : Nat) (σ : Nat → Int32) (τ : Nat → Nat → Int32) (t1 t2 : Int32) (hb : noT σ t1) : Rx X c0 m_Mod_less 0 [.ref (c0 + 16), .int t1, .int t2, ev_dead] [] σ τ (fun r σ' τ' => r = some (.int 2) ∧ σ' = σ ∧ τ' = τ) := by
  refine Rx.go (fun _ => rfl) ?_
  refine Rx.go (fun _ => rfl) ?_
  refine Rx.callE rfl rfl rfl rfl (rx_noT X c0 _ _ _ hb) ?_
  show Rx X c0 m_Mod_less 5 [.ref (c0 + 16), .int t1, .int t2, ev_dead] [.int 0] σ τ _
  refine Rx.go (fun _ => rfl) ?_
  show Rx X c0 m_Mod_less 16 [.ref (c0 + 16), .int t1, .int t2, ev_dead] [] σ τ _
  refine Rx.go (fun _ => rfl) ?_
  show Rx X c0 m_Mod_less 17 [.ref (c0 + 16), .int t1, .int t2, ev_dead] [.int 2] σ τ _
  exact Rx.ret rfl (ev_reti rfl) ⟨rfl, rfl, rfl⟩
set_option maxRecDepth 100000 in
set_option maxHeartbeats 1000000 in
theorem rx_less_nob (X : ev_X) (c0 : Nat) (σ : Nat → Int32) (τ : Nat → Nat → Int32) {ts : RT} (hR : rt σ τ ts) {i : Nat} (hi : i < ts.length) (t2 : Int32) (hb : noT σ t2) : Rx X c0 m_Mod_less 0 [.ref (c0 + 16), .int (nI (i + 1)), .int t2, ev_dead] [] σ τ (fun r σ' τ' => r = some (.int 2) ∧ σ' = σ ∧ τ' = τ) := by
  refine Rx.go (fun _ => rfl) ?_
  refine Rx.go (fun _ => rfl) ?_
  refine Rx.callE rfl rfl rfl rfl (rx_isT X c0 _ _ hR hi) ?_
  show Rx X c0 m_Mod_less 5 [.ref (c0 + 16), .int (nI (i + 1)), .int t2, ev_dead] [.int 1] σ τ _
  refine Rx.go (fun _ => rfl) ?_
  show Rx X c0 m_Mod_less 8 [.ref (c0 + 16), .int (nI (i + 1)), .int t2, ev_dead] [] σ τ _
  refine Rx.go (fun _ => rfl) ?_
  refine Rx.go (fun _ => rfl) ?_
  refine Rx.callE rfl rfl rfl rfl (rx_noT X c0 _ _ _ hb) ?_
  show Rx X c0 m_Mod_less 13 [.ref (c0 + 16), .int (nI (i + 1)), .int t2, ev_dead] [.int 0] σ τ _
  refine Rx.go (fun _ => rfl) ?_
  show Rx X c0 m_Mod_less 16 [.ref (c0 + 16), .int (nI (i + 1)), .int t2, ev_dead] [] σ τ _
  refine Rx.go (fun _ => rfl) ?_
  show Rx X c0 m_Mod_less 17 [.ref (c0 + 16), .int (nI (i + 1)), .int t2, ev_dead] [.int 2] σ τ _
  exact Rx.ret rfl (ev_reti rfl) ⟨rfl, rfl, rfl⟩
