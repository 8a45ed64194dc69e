/-! The reference reads a term. (rows laid by wip/whole/rr15.py) -/
/-- a term is read up to q -/
def roO (t : List Nat) (q : Nat) (d : List Nat) (kd qq db : Nat) : Prop := (hb t 0 = 95 ∧ ∃ b, sBk t = (true, q, b) ∧ d = [95, 58] ++ b ∧ kd = 1 ∧ qq = 0 ∧ db = b.length) ∨ (hb t 0 = 60 ∧ ∃ b, sNa t 0 = (true, q, b) ∧ d = [60] ++ b ++ [62] ∧ kd = 2 ∧ qq = 0 ∧ db = b.length) ∨ (hb t 0 = 34 ∧ txO t q d kd qq db) ∨ (prO t q d kd ∧ qq = 0 ∧ db = 0)
def roF (t : List Nat) (w : Nat) : Prop := (hb t 0 = 95 ∧ ∃ b, sBk t = (false, w, b)) ∨ (hb t 0 = 60 ∧ ∃ b, sNa t 0 = (false, w, b)) ∨ (hb t 0 = 34 ∧ txF t w) ∨ (¬ hb t 0 = 95 ∧ ¬ hb t 0 = 60 ∧ ¬ hb t 0 = 34 ∧ prF t w)
set_option maxRecDepth 100000 in
set_option maxHeartbeats 2000000 in
theorem rr_alone {X : ev_X} {c0 : Nat} {σ0 : Nat → Int32} {τ0 : Nat → Nat → Int32} {t : List Nat} {σ : Nat → Int32} {τ : Nat → Nat → Int32} (hS : RZ σ0 τ0 t 0 σ τ) : Rx X c0 m_Mod_readAlone 0 [.ref (c0 + 16)] [] σ τ (rQ σ0 τ0 t (sNa t 0) (fun q b σ' τ' => RS σ0 τ0 t q ([60] ++ b ++ [62]) 2 0 b.length σ' τ')) := by
  refine Rx.go (fun _ => rfl) ?_
  refine Rx.go (fun _ => rfl) ?_
  refine Rx.callP rfl rfl rfl rfl (rz_begin 2 hS) ?_
  intro σ17 τ17 hS17
  show Rx X c0 m_Mod_readAlone 5 [.ref (c0 + 16)] [] σ17 τ17 _
  refine Rx.go (fun _ => rfl) ?_
  refine Rx.call rfl rfl rfl rfl (rr_name (d0 := []) (by decide) (by decide) hS17) ?_
  rintro v σ1 τ1 ⟨rfl, hq⟩
  refine Rx.ret rfl rfl ⟨rfl, ?_⟩
  split at hq
  · next e => rw [if_pos e]; rw [Nat.zero_add] at hq; exact hq
  · next e => rw [if_neg e]; exact hq
set_option maxRecDepth 100000 in
set_option maxHeartbeats 2000000 in
theorem rr_one {X : ev_X} {c0 : Nat} {σ0 : Nat → Int32} {τ0 : Nat → Nat → Int32} {t : List Nat} {D : List Nat} {k qq db : Nat} {σ : Nat → Int32} {τ : Nat → Nat → Int32} (hX : XS X c0) (hD : D.length ≤ 250) (hS : RS σ0 τ0 t 0 D k qq db σ τ) : Rx X c0 m_Mod_readOne 0 [.ref (c0 + 16), ev_dead] [] σ τ (rdE σ0 τ0 t (roO t) (roF t)) := by
  refine Rx.go (fun _ => rfl) ?_
  refine Rx.callE rfl rfl rfl rfl (rz_here hS.z) ?_
  show Rx X c0 m_Mod_readOne 4 [.ref (c0 + 16), ev_dead] [.int (hb t 0)] σ τ _
  refine Rx.go (fun _ => rfl) ?_
  show Rx X c0 m_Mod_readOne 5 [.ref (c0 + 16), .int (hb t 0)] [] σ τ _
  refine Rx.go (fun _ => rfl) ?_
  refine Rx.go (fun _ => rfl) ?_
  refine Rx.go (fun _ => rfl) ?_
  refine Rx.ite (fun c1 => ?_) (fun c1 => ?_)
  · replace c1 : ¬ (hb t 0) = 95 := of_decide_eq_true c1
    show Rx X c0 m_Mod_readOne 18 [.ref (c0 + 16), .int (hb t 0)] [] σ τ _
    refine Rx.go (fun _ => rfl) ?_
    refine Rx.go (fun _ => rfl) ?_
    refine Rx.go (fun _ => rfl) ?_
    refine Rx.ite (fun c2 => ?_) (fun c2 => ?_)
    · replace c2 : ¬ (hb t 0) = 60 := of_decide_eq_true c2
      show Rx X c0 m_Mod_readOne 31 [.ref (c0 + 16), .int (hb t 0)] [] σ τ _
      refine Rx.go (fun _ => rfl) ?_
      refine Rx.go (fun _ => rfl) ?_
      refine Rx.go (fun _ => rfl) ?_
      refine Rx.ite (fun c3 => ?_) (fun c3 => ?_)
      · replace c3 : ¬ (hb t 0) = 34 := of_decide_eq_true c3
        show Rx X c0 m_Mod_readOne 44 [.ref (c0 + 16), .int (hb t 0)] [] σ τ _
        refine Rx.go (fun _ => rfl) ?_
        refine Rx.go (fun _ => rfl) ?_
        refine Rx.go (fun _ => rfl) ?_
        refine Rx.ite (fun c4 => ?_) (fun c4 => ?_)
        · replace c4 : (hb t 0) = 43 := of_decide_eq_true c4
          show Rx X c0 m_Mod_readOne 69 [.ref (c0 + 16), .int (hb t 0)] [] σ τ _
          refine Rx.go (fun _ => rfl) ?_
          have hB : nuB t := Or.inl c4
          refine Rx.call rfl rfl rfl rfl (rr_number hD hS) ?_
          rintro v σ18 τ18 ⟨rfl, hq18⟩
          obtain ⟨w, m, j, hn, hG, hm, hj⟩ | ⟨q, ds, bf, L, hO, ht, h18, (⟨h9, hG⟩ | ⟨h9, g, hg, hR⟩)⟩ := hq18
          · exact Rx.go (fun _ => rfl) (Rx.ret rfl rfl (rdE_f (Or.inr (Or.inr (Or.inr ⟨c1, c2, c3, (Or.inr (Or.inl ⟨hB, Or.inl hn⟩))⟩))) hG hm (by omega)))
          · exact Rx.go (fun _ => rfl) (Rx.ret rfl rfl (rdE_f (Or.inr (Or.inr (Or.inr ⟨c1, c2, c3, (Or.inr (Or.inl ⟨hB, Or.inr ⟨rfl, q, ds, bf, L, hO, ht, h18, h9⟩⟩))⟩))) hG (Nat.zero_le _) (by omega)))
          · exact Rx.go (fun _ => rfl) (Rx.ret rfl rfl (rdE_t (Or.inr (Or.inr (Or.inr ⟨(Or.inr ⟨hB, ds, bf, L, g, hO, ht, h18, h9, hg, rfl, rfl⟩), rfl, rfl⟩))) hR))
        · replace c4 : ¬ (hb t 0) = 43 := of_decide_eq_false c4
          show Rx X c0 m_Mod_readOne 50 [.ref (c0 + 16), .int (hb t 0)] [] σ τ _
          refine Rx.go (fun _ => rfl) ?_
          refine Rx.go (fun _ => rfl) ?_
          refine Rx.go (fun _ => rfl) ?_
          refine Rx.ite (fun c5 => ?_) (fun c5 => ?_)
          · replace c5 : (hb t 0) = 45 := of_decide_eq_true c5
            show Rx X c0 m_Mod_readOne 69 [.ref (c0 + 16), .int (hb t 0)] [] σ τ _
            refine Rx.go (fun _ => rfl) ?_
            have hB : nuB t := Or.inr (Or.inl c5)
            refine Rx.call rfl rfl rfl rfl (rr_number hD hS) ?_
            rintro v σ19 τ19 ⟨rfl, hq19⟩
            obtain ⟨w, m, j, hn, hG, hm, hj⟩ | ⟨q, ds, bf, L, hO, ht, h18, (⟨h9, hG⟩ | ⟨h9, g, hg, hR⟩)⟩ := hq19
            · exact Rx.go (fun _ => rfl) (Rx.ret rfl rfl (rdE_f (Or.inr (Or.inr (Or.inr ⟨c1, c2, c3, (Or.inr (Or.inl ⟨hB, Or.inl hn⟩))⟩))) hG hm (by omega)))
            · exact Rx.go (fun _ => rfl) (Rx.ret rfl rfl (rdE_f (Or.inr (Or.inr (Or.inr ⟨c1, c2, c3, (Or.inr (Or.inl ⟨hB, Or.inr ⟨rfl, q, ds, bf, L, hO, ht, h18, h9⟩⟩))⟩))) hG (Nat.zero_le _) (by omega)))
            · exact Rx.go (fun _ => rfl) (Rx.ret rfl rfl (rdE_t (Or.inr (Or.inr (Or.inr ⟨(Or.inr ⟨hB, ds, bf, L, g, hO, ht, h18, h9, hg, rfl, rfl⟩), rfl, rfl⟩))) hR))
          · replace c5 : ¬ (hb t 0) = 45 := of_decide_eq_false c5
            show Rx X c0 m_Mod_readOne 56 [.ref (c0 + 16), .int (hb t 0)] [] σ τ _
            refine Rx.go (fun _ => rfl) ?_
            refine Rx.go (fun _ => rfl) ?_
            refine Rx.go (fun _ => rfl) ?_
            refine Rx.ite (fun c6 => ?_) (fun c6 => ?_)
            · replace c6 : (hb t 0) = 46 := of_decide_eq_true c6
              show Rx X c0 m_Mod_readOne 69 [.ref (c0 + 16), .int (hb t 0)] [] σ τ _
              refine Rx.go (fun _ => rfl) ?_
              have hB : nuB t := Or.inr (Or.inr (Or.inl c6))
              refine Rx.call rfl rfl rfl rfl (rr_number hD hS) ?_
              rintro v σ20 τ20 ⟨rfl, hq20⟩
              obtain ⟨w, m, j, hn, hG, hm, hj⟩ | ⟨q, ds, bf, L, hO, ht, h18, (⟨h9, hG⟩ | ⟨h9, g, hg, hR⟩)⟩ := hq20
              · exact Rx.go (fun _ => rfl) (Rx.ret rfl rfl (rdE_f (Or.inr (Or.inr (Or.inr ⟨c1, c2, c3, (Or.inr (Or.inl ⟨hB, Or.inl hn⟩))⟩))) hG hm (by omega)))
              · exact Rx.go (fun _ => rfl) (Rx.ret rfl rfl (rdE_f (Or.inr (Or.inr (Or.inr ⟨c1, c2, c3, (Or.inr (Or.inl ⟨hB, Or.inr ⟨rfl, q, ds, bf, L, hO, ht, h18, h9⟩⟩))⟩))) hG (Nat.zero_le _) (by omega)))
              · exact Rx.go (fun _ => rfl) (Rx.ret rfl rfl (rdE_t (Or.inr (Or.inr (Or.inr ⟨(Or.inr ⟨hB, ds, bf, L, g, hO, ht, h18, h9, hg, rfl, rfl⟩), rfl, rfl⟩))) hR))
            · replace c6 : ¬ (hb t 0) = 46 := of_decide_eq_false c6
              show Rx X c0 m_Mod_readOne 62 [.ref (c0 + 16), .int (hb t 0)] [] σ τ _
              refine Rx.go (fun _ => rfl) ?_
              refine Rx.scallE rfl rfl rfl rfl (sx_Mod_isDigit X (hb t 0)) ?_
              show Rx X c0 m_Mod_readOne 66 [.ref (c0 + 16), .int (hb t 0)] [.int (bi (isD (hb t 0)))] σ τ _
              refine Rx.go (fun _ => rfl) ?_
              refine Rx.ite (fun c7 => ?_) (fun c7 => ?_)
              · replace c7 : (isD (hb t 0)) = false := bi_eqt c7
                show Rx X c0 m_Mod_readOne 76 [.ref (c0 + 16), .int (hb t 0)] [] σ τ _
                refine Rx.go (fun _ => rfl) ?_
                refine Rx.go (fun _ => rfl) ?_
                refine Rx.go (fun _ => rfl) ?_
                refine Rx.ite (fun c8 => ?_) (fun c8 => ?_)
                · replace c8 : (hb t 0) = 116 := of_decide_eq_true c8
                  show Rx X c0 m_Mod_readOne 88 [.ref (c0 + 16), .int (hb t 0)] [] σ τ _
                  refine Rx.go (fun _ => rfl) ?_
                  refine Rx.go (fun _ => rfl) ?_
                  refine Rx.go (fun _ => rfl) ?_
                  refine Rx.go (fun _ => rfl) ?_
                  refine Rx.ite (fun c9 => ?_) (fun c9 => ?_)
                  · replace c9 : ¬ (hb t 0) = 116 := of_decide_eq_true c9
                    exact absurd c8 c9
                  · replace c9 : (hb t 0) = 116 := Classical.not_not.mp (of_decide_eq_false c9)
                    show Rx X c0 m_Mod_readOne 95 [.ref (c0 + 16), .int (hb t 0)] [.ref (c0 + 16)] σ τ _
                    refine Rx.go (fun _ => rfl) ?_
                    refine Rx.go (fun _ => rfl) ?_
                    refine Rx.call rfl rfl rfl rfl (rr_truth0 hX hS.z) ?_
                    rintro v σ21 τ21 ⟨rfl, hq21⟩
                    replace hq21 : if (trO t 0).1 = true then (trO t 0).2.1 = wlen 0 ∧ RS σ0 τ0 t (wlen 0) (wl 0) 8 0 0 σ21 τ21 else ∃ m j, RG σ0 τ0 t (trO t 0).2.1 m j σ21 τ21 ∧ m ≤ 250 ∧ j ≤ 20 := hq21
                    generalize hT21 : trO t 0 = T at hq21
                    obtain ⟨b, w, u⟩ := T
                    cases b
                    · rw [if_neg Bool.false_ne_true] at hq21
                      obtain ⟨m, j, hG, hm, hj⟩ := hq21
                      exact Rx.go (fun _ => rfl) (Rx.ret rfl rfl (rdE_f (Or.inr (Or.inr (Or.inr ⟨c1, c2, c3, (Or.inl ⟨0, Or.inl ⟨rfl, c8⟩, hT21⟩)⟩))) hG hm (by omega)))
                    · rw [if_pos rfl] at hq21
                      obtain ⟨e, hO⟩ := hq21
                      dsimp only at e
                      subst e
                      exact Rx.go (fun _ => rfl) (Rx.ret rfl rfl (rdE_t (Or.inr (Or.inr (Or.inr ⟨(Or.inl ⟨0, Or.inl ⟨rfl, c8⟩, hT21, rfl, rfl, rfl⟩), rfl, rfl⟩))) hO))
                · replace c8 : ¬ (hb t 0) = 116 := of_decide_eq_false c8
                  show Rx X c0 m_Mod_readOne 82 [.ref (c0 + 16), .int (hb t 0)] [] σ τ _
                  refine Rx.go (fun _ => rfl) ?_
                  refine Rx.go (fun _ => rfl) ?_
                  refine Rx.go (fun _ => rfl) ?_
                  refine Rx.ite (fun c10 => ?_) (fun c10 => ?_)
                  · replace c10 : ¬ (hb t 0) = 102 := of_decide_eq_true c10
                    show Rx X c0 m_Mod_readOne 106 [.ref (c0 + 16), .int (hb t 0)] [] σ τ _
                    refine Rx.go (fun _ => rfl) ?_
                    refine Rx.go (fun _ => rfl) ?_
                    refine Rx.go (fun _ => rfl) ?_
                    refine Rx.get rfl rfl ?_
                    refine Rx.top (y := nI 0) hS.f16 ?_
                    refine Rx.callP rfl rfl rfl rfl (rs_fl (wn := 0) hS (by decide) rfl) ?_
                    intro σ22 τ22 hS22
                    exact Rx.ret rfl rfl (rdE_f (Or.inr (Or.inr (Or.inr ⟨c1, c2, c3, Or.inr (Or.inr ⟨rfl, c8, c10, fun h => h.elim c4 (fun h => h.elim c5 (fun h => h.elim c6 (fun h => Bool.noConfusion (c7.symm.trans h))))⟩)⟩))) hS22 hD (by omega))
                  · replace c10 : (hb t 0) = 102 := Classical.not_not.mp (of_decide_eq_false c10)
                    show Rx X c0 m_Mod_readOne 88 [.ref (c0 + 16), .int (hb t 0)] [] σ τ _
                    refine Rx.go (fun _ => rfl) ?_
                    refine Rx.go (fun _ => rfl) ?_
                    refine Rx.go (fun _ => rfl) ?_
                    refine Rx.go (fun _ => rfl) ?_
                    refine Rx.ite (fun c11 => ?_) (fun c11 => ?_)
                    · replace c11 : ¬ (hb t 0) = 116 := of_decide_eq_true c11
                      show Rx X c0 m_Mod_readOne 99 [.ref (c0 + 16), .int (hb t 0)] [.ref (c0 + 16)] σ τ _
                      refine Rx.go (fun _ => rfl) ?_
                      refine Rx.call rfl rfl rfl rfl (rr_truth1 hX hS.z) ?_
                      rintro v σ23 τ23 ⟨rfl, hq23⟩
                      replace hq23 : if (trO t 1).1 = true then (trO t 1).2.1 = wlen 1 ∧ RS σ0 τ0 t (wlen 1) (wl 1) 8 0 0 σ23 τ23 else ∃ m j, RG σ0 τ0 t (trO t 1).2.1 m j σ23 τ23 ∧ m ≤ 250 ∧ j ≤ 20 := hq23
                      generalize hT23 : trO t 1 = T at hq23
                      obtain ⟨b, w, u⟩ := T
                      cases b
                      · rw [if_neg Bool.false_ne_true] at hq23
                        obtain ⟨m, j, hG, hm, hj⟩ := hq23
                        exact Rx.go (fun _ => rfl) (Rx.ret rfl rfl (rdE_f (Or.inr (Or.inr (Or.inr ⟨c1, c2, c3, (Or.inl ⟨1, Or.inr ⟨rfl, c10⟩, hT23⟩)⟩))) hG hm (by omega)))
                      · rw [if_pos rfl] at hq23
                        obtain ⟨e, hO⟩ := hq23
                        dsimp only at e
                        subst e
                        exact Rx.go (fun _ => rfl) (Rx.ret rfl rfl (rdE_t (Or.inr (Or.inr (Or.inr ⟨(Or.inl ⟨1, Or.inr ⟨rfl, c10⟩, hT23, rfl, rfl, rfl⟩), rfl, rfl⟩))) hO))
                    · replace c11 : (hb t 0) = 116 := Classical.not_not.mp (of_decide_eq_false c11)
                      exact absurd c11 c8
              · replace c7 : (isD (hb t 0)) = true := bi_eqf c7
                show Rx X c0 m_Mod_readOne 69 [.ref (c0 + 16), .int (hb t 0)] [] σ τ _
                refine Rx.go (fun _ => rfl) ?_
                have hB : nuB t := Or.inr (Or.inr (Or.inr c7))
                refine Rx.call rfl rfl rfl rfl (rr_number hD hS) ?_
                rintro v σ24 τ24 ⟨rfl, hq24⟩
                obtain ⟨w, m, j, hn, hG, hm, hj⟩ | ⟨q, ds, bf, L, hO, ht, h18, (⟨h9, hG⟩ | ⟨h9, g, hg, hR⟩)⟩ := hq24
                · exact Rx.go (fun _ => rfl) (Rx.ret rfl rfl (rdE_f (Or.inr (Or.inr (Or.inr ⟨c1, c2, c3, (Or.inr (Or.inl ⟨hB, Or.inl hn⟩))⟩))) hG hm (by omega)))
                · exact Rx.go (fun _ => rfl) (Rx.ret rfl rfl (rdE_f (Or.inr (Or.inr (Or.inr ⟨c1, c2, c3, (Or.inr (Or.inl ⟨hB, Or.inr ⟨rfl, q, ds, bf, L, hO, ht, h18, h9⟩⟩))⟩))) hG (Nat.zero_le _) (by omega)))
                · exact Rx.go (fun _ => rfl) (Rx.ret rfl rfl (rdE_t (Or.inr (Or.inr (Or.inr ⟨(Or.inr ⟨hB, ds, bf, L, g, hO, ht, h18, h9, hg, rfl, rfl⟩), rfl, rfl⟩))) hR))
      · replace c3 : (hb t 0) = 34 := Classical.not_not.mp (of_decide_eq_false c3)
        show Rx X c0 m_Mod_readOne 37 [.ref (c0 + 16), .int (hb t 0)] [] σ τ _
        refine Rx.go (fun _ => rfl) ?_
        refine Rx.call rfl rfl rfl rfl (rr_text hX (hb_in (q := 0) (by rw [c3]; decide)) hS.z) ?_
        intro v σ1 τ1 hT
        obtain ⟨rfl, -⟩ := id hT
        exact Rx.go (fun _ => rfl) (Rx.ret rfl rfl (hT.im (fun _ _ _ _ _ h => Or.inr (Or.inr (Or.inl ⟨c3, h⟩))) (fun _ h => Or.inr (Or.inr (Or.inl ⟨c3, h⟩)))))
    · replace c2 : (hb t 0) = 60 := Classical.not_not.mp (of_decide_eq_false c2)
      show Rx X c0 m_Mod_readOne 24 [.ref (c0 + 16), .int (hb t 0)] [] σ τ _
      refine Rx.go (fun _ => rfl) ?_
      refine Rx.call rfl rfl rfl rfl (rr_alone hS.z) ?_
      rintro v σ25 τ25 ⟨rfl, hq25⟩
      generalize hN : sNa t 0 = T at hq25
      obtain ⟨g, q2, b⟩ := T
      cases g
      · rw [if_neg Bool.false_ne_true] at hq25
        obtain ⟨mm, jj, hG, hmm, hjj⟩ := hq25
        exact Rx.go (fun _ => rfl) (Rx.ret rfl rfl (rdE_f (Or.inr (Or.inl ⟨c2, b, hN⟩)) hG hmm hjj))
      · rw [if_pos rfl] at hq25
        exact Rx.go (fun _ => rfl) (Rx.ret rfl rfl (rdE_t (Or.inr (Or.inl ⟨c2, b, hN, rfl, rfl, rfl, rfl⟩)) hq25))
  · replace c1 : (hb t 0) = 95 := Classical.not_not.mp (of_decide_eq_false c1)
    show Rx X c0 m_Mod_readOne 11 [.ref (c0 + 16), .int (hb t 0)] [] σ τ _
    refine Rx.go (fun _ => rfl) ?_
    refine Rx.call rfl rfl rfl rfl (rr_blank (hb_in (q := 0) (by rw [c1]; decide)) hS.z) ?_
    rintro v σ26 τ26 ⟨rfl, hq26⟩
    generalize hN : sBk t = T at hq26
    obtain ⟨g, q2, b⟩ := T
    cases g
    · rw [if_neg Bool.false_ne_true] at hq26
      obtain ⟨mm, jj, hG, hmm, hjj⟩ := hq26
      exact Rx.go (fun _ => rfl) (Rx.ret rfl rfl (rdE_f (Or.inl ⟨c1, b, hN⟩) hG hmm hjj))
    · rw [if_pos rfl] at hq26
      exact Rx.go (fun _ => rfl) (Rx.ret rfl rfl (rdE_t (Or.inl ⟨c1, b, hN, rfl, rfl, rfl, rfl⟩) hq26))
