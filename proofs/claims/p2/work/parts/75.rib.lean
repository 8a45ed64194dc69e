/-! The reference reads a truth or a number inside a text. (rows laid by wip/whole/rr11.py) -/
/-- a truth of the word k -/
def trO (l : List Nat) (k : Nat) : Bool × Nat × Unit := match sTl l k (wlen k) 0 with | some x => (false, x, ()) | none => if isW (hb l (wlen k)) = true then (false, wlen k, ()) else (true, wlen k, ())
/-- the first item says: a number -/
def nuB (l : List Nat) : Prop := hb l 0 = 43 ∨ hb l 0 = 45 ∨ hb l 0 = 46 ∨ isD (hb l 0) = true
/-- a truth or number is read up to q: kind kd, written d -/
def prO (l : List Nat) (q : Nat) (d : List Nat) (kd : Nat) : Prop := (∃ k, ((k = 0 ∧ hb l 0 = 116) ∨ (k = 1 ∧ hb l 0 = 102)) ∧ trO l k = (true, q, ()) ∧ q = wlen k ∧ d = wl k ∧ kd = 8) ∨ (nuB l ∧ ∃ ds bf L g, nrO l q ds bf ∧ trail ds (bW ds bf) L ∧ ds.length ≤ 18 ∧ L - bW ds bf ≤ 9 ∧ lead ds (bW ds bf) g ∧ d = wN (decide (hb l 0 = 45)) bf.isSome ds g (bW ds bf) L ∧ kd = (if bf.isSome = true then 4 else 3))
/-- a fault at w -/
def prF (l : List Nat) (w : Nat) : Prop := (∃ k, ((k = 0 ∧ hb l 0 = 116) ∨ (k = 1 ∧ hb l 0 = 102)) ∧ trO l k = (false, w, ())) ∨ (nuB l ∧ (nrF l w ∨ (w = 0 ∧ ∃ q ds bf L, nrO l q ds bf ∧ trail ds (bW ds bf) L ∧ ds.length ≤ 18 ∧ 9 < L - bW ds bf))) ∨ (w = 0 ∧ ¬ hb l 0 = 116 ∧ ¬ hb l 0 = 102 ∧ ¬ nuB l)
theorem prO_len {l d : List Nat} {q kd : Nat} (h : prO l q d kd) : d.length ≤ 60 := by
  obtain ⟨k, hk, -, -, rfl, -⟩ | ⟨-, ds, bf, L, g, -, -, h18, -, -, rfl, -⟩ := h
  · obtain ⟨rfl, -⟩ | ⟨rfl, -⟩ := hk
    · rw [wl_len]; decide
    · rw [wl_len]; decide
  · exact wN_len h18
set_option maxRecDepth 100000 in
set_option maxHeartbeats 2000000 in
theorem ri_C {X : ev_X} {c0 : Nat} {σ0 : Nat → Int32} {τ0 : Nat → Nat → Int32} {t : List Nat} {D : List Nat} {k qq db : Nat} {Q : Option Value → (Nat → Int32) → (Nat → Nat → Int32) → Prop} (hX : XS X c0) (hD : D.length ≤ 250) (kk pv ev lv : Int32) (v6 v7 v8 : Value) {σ : Nat → Int32} {τ : Nat → Nat → Int32} (hS : RS σ0 τ0 t 0 D k qq db σ τ) (hK : ∀ {q kd : Nat} {d : List Nat} {σ' : Nat → Int32} {τ' : Nat → Nat → Int32}, prO t q d kd → RS σ0 τ0 t q d kd 0 0 σ' τ' → Rx X c0 m_Mod_readInside 174 [.ref (c0 + 16), .int 0, .int kk, .int pv, .int ev, .int lv, .int (hb t 0), v7, v8] [] σ' τ' Q) (hF : ∀ {w m j : Nat} {σ' : Nat → Int32} {τ' : Nat → Nat → Int32}, prF t w → RG σ0 τ0 t w m j σ' τ' → m ≤ 250 → Rx X c0 m_Mod_readInside 174 [.ref (c0 + 16), .int 0, .int kk, .int pv, .int ev, .int lv, .int (hb t 0), v7, v8] [] σ' τ' Q) : Rx X c0 m_Mod_readInside 92 [.ref (c0 + 16), .int 0, .int kk, .int pv, .int ev, .int lv, v6, v7, v8] [] σ τ Q := by
  refine Rx.go (fun _ => rfl) ?_
  refine Rx.callE rfl rfl rfl rfl (rz_here hS.z) ?_
  show Rx X c0 m_Mod_readInside 96 [.ref (c0 + 16), .int 0, .int kk, .int pv, .int ev, .int lv, v6, v7, v8] [.int (hb t 0)] σ τ _
  refine Rx.go (fun _ => rfl) ?_
  show Rx X c0 m_Mod_readInside 98 [.ref (c0 + 16), .int 0, .int kk, .int pv, .int ev, .int lv, .int (hb t 0), v7, v8] [] σ τ _
  refine Rx.go (fun _ => rfl) ?_
  refine Rx.go (fun _ => rfl) ?_
  refine Rx.go (fun _ => rfl) ?_
  refine Rx.ite (fun c1 => ?_) (fun c1 => ?_)
  · replace c1 : (hb t 0) = 116 := of_decide_eq_true c1
    show Rx X c0 m_Mod_readInside 112 [.ref (c0 + 16), .int 0, .int kk, .int pv, .int ev, .int lv, .int (hb t 0), v7, v8] [] σ τ _
    refine Rx.go (fun _ => rfl) ?_
    refine Rx.go (fun _ => rfl) ?_
    refine Rx.go (fun _ => rfl) ?_
    refine Rx.go (fun _ => rfl) ?_
    refine Rx.ite (fun c2 => ?_) (fun c2 => ?_)
    · replace c2 : ¬ (hb t 0) = 116 := of_decide_eq_true c2
      exact absurd c1 c2
    · replace c2 : (hb t 0) = 116 := Classical.not_not.mp (of_decide_eq_false c2)
      show Rx X c0 m_Mod_readInside 120 [.ref (c0 + 16), .int 0, .int kk, .int pv, .int ev, .int lv, .int (hb t 0), v7, v8] [.ref (c0 + 16)] σ τ _
      refine Rx.go (fun _ => rfl) ?_
      refine Rx.go (fun _ => rfl) ?_
      refine Rx.call rfl rfl rfl rfl (rr_truth0 hX hS.z) ?_
      rintro v σ17 τ17 ⟨rfl, hq17⟩
      replace hq17 : if (trO t 0).1 = true then (trO t 0).2.1 = wlen 0 ∧ RS σ0 τ0 t (wlen 0) (wl 0) 8 0 0 σ17 τ17 else ∃ m j, RG σ0 τ0 t (trO t 0).2.1 m j σ17 τ17 ∧ m ≤ 250 ∧ j ≤ 20 := hq17
      generalize hT17 : trO t 0 = T at hq17
      obtain ⟨b, w, u⟩ := T
      cases b
      · rw [if_neg Bool.false_ne_true] at hq17
        obtain ⟨m, j, hG, hm, hj⟩ := hq17
        exact Rx.go (fun _ => rfl) (hF (Or.inl ⟨0, Or.inl ⟨rfl, c1⟩, hT17⟩) hG hm)
      · rw [if_pos rfl] at hq17
        obtain ⟨e, hO⟩ := hq17
        dsimp only at e
        subst e
        exact Rx.go (fun _ => rfl) (hK (Or.inl ⟨0, Or.inl ⟨rfl, c1⟩, hT17, rfl, rfl, rfl⟩) hO)
  · replace c1 : ¬ (hb t 0) = 116 := of_decide_eq_false c1
    show Rx X c0 m_Mod_readInside 105 [.ref (c0 + 16), .int 0, .int kk, .int pv, .int ev, .int lv, .int (hb t 0), v7, v8] [] σ τ _
    refine Rx.go (fun _ => rfl) ?_
    refine Rx.go (fun _ => rfl) ?_
    refine Rx.go (fun _ => rfl) ?_
    refine Rx.ite (fun c3 => ?_) (fun c3 => ?_)
    · replace c3 : ¬ (hb t 0) = 102 := of_decide_eq_true c3
      show Rx X c0 m_Mod_readInside 131 [.ref (c0 + 16), .int 0, .int kk, .int pv, .int ev, .int lv, .int (hb t 0), v7, v8] [] σ τ _
      refine Rx.go (fun _ => rfl) ?_
      refine Rx.go (fun _ => rfl) ?_
      refine Rx.go (fun _ => rfl) ?_
      refine Rx.ite (fun c4 => ?_) (fun c4 => ?_)
      · replace c4 : (hb t 0) = 43 := of_decide_eq_true c4
        show Rx X c0 m_Mod_readInside 160 [.ref (c0 + 16), .int 0, .int kk, .int pv, .int ev, .int lv, .int (hb t 0), v7, v8] [] σ τ _
        refine Rx.go (fun _ => rfl) ?_
        have hB : nuB t := Or.inl c4
        refine Rx.call rfl rfl rfl rfl (rr_number hD hS) ?_
        rintro v σ18 τ18 ⟨rfl, hq18⟩
        obtain ⟨w, m, j, hn, hG, hm, hj⟩ | ⟨q, ds, bf, L, hO, ht, h18, (⟨h9, hG⟩ | ⟨h9, g, hg, hR⟩)⟩ := hq18
        · exact Rx.go (fun _ => rfl) (hF (Or.inr (Or.inl ⟨hB, Or.inl hn⟩)) hG hm)
        · exact Rx.go (fun _ => rfl) (hF (Or.inr (Or.inl ⟨hB, Or.inr ⟨rfl, q, ds, bf, L, hO, ht, h18, h9⟩⟩)) hG (Nat.zero_le _))
        · exact Rx.go (fun _ => rfl) (hK (Or.inr ⟨hB, ds, bf, L, g, hO, ht, h18, h9, hg, rfl, rfl⟩) hR)
      · replace c4 : ¬ (hb t 0) = 43 := of_decide_eq_false c4
        show Rx X c0 m_Mod_readInside 138 [.ref (c0 + 16), .int 0, .int kk, .int pv, .int ev, .int lv, .int (hb t 0), v7, v8] [] σ τ _
        refine Rx.go (fun _ => rfl) ?_
        refine Rx.go (fun _ => rfl) ?_
        refine Rx.go (fun _ => rfl) ?_
        refine Rx.ite (fun c5 => ?_) (fun c5 => ?_)
        · replace c5 : (hb t 0) = 45 := of_decide_eq_true c5
          show Rx X c0 m_Mod_readInside 160 [.ref (c0 + 16), .int 0, .int kk, .int pv, .int ev, .int lv, .int (hb t 0), v7, v8] [] σ τ _
          refine Rx.go (fun _ => rfl) ?_
          have hB : nuB t := Or.inr (Or.inl c5)
          refine Rx.call rfl rfl rfl rfl (rr_number hD hS) ?_
          rintro v σ19 τ19 ⟨rfl, hq19⟩
          obtain ⟨w, m, j, hn, hG, hm, hj⟩ | ⟨q, ds, bf, L, hO, ht, h18, (⟨h9, hG⟩ | ⟨h9, g, hg, hR⟩)⟩ := hq19
          · exact Rx.go (fun _ => rfl) (hF (Or.inr (Or.inl ⟨hB, Or.inl hn⟩)) hG hm)
          · exact Rx.go (fun _ => rfl) (hF (Or.inr (Or.inl ⟨hB, Or.inr ⟨rfl, q, ds, bf, L, hO, ht, h18, h9⟩⟩)) hG (Nat.zero_le _))
          · exact Rx.go (fun _ => rfl) (hK (Or.inr ⟨hB, ds, bf, L, g, hO, ht, h18, h9, hg, rfl, rfl⟩) hR)
        · replace c5 : ¬ (hb t 0) = 45 := of_decide_eq_false c5
          show Rx X c0 m_Mod_readInside 145 [.ref (c0 + 16), .int 0, .int kk, .int pv, .int ev, .int lv, .int (hb t 0), v7, v8] [] σ τ _
          refine Rx.go (fun _ => rfl) ?_
          refine Rx.go (fun _ => rfl) ?_
          refine Rx.go (fun _ => rfl) ?_
          refine Rx.ite (fun c6 => ?_) (fun c6 => ?_)
          · replace c6 : (hb t 0) = 46 := of_decide_eq_true c6
            show Rx X c0 m_Mod_readInside 160 [.ref (c0 + 16), .int 0, .int kk, .int pv, .int ev, .int lv, .int (hb t 0), v7, v8] [] σ τ _
            refine Rx.go (fun _ => rfl) ?_
            have hB : nuB t := Or.inr (Or.inr (Or.inl c6))
            refine Rx.call rfl rfl rfl rfl (rr_number hD hS) ?_
            rintro v σ20 τ20 ⟨rfl, hq20⟩
            obtain ⟨w, m, j, hn, hG, hm, hj⟩ | ⟨q, ds, bf, L, hO, ht, h18, (⟨h9, hG⟩ | ⟨h9, g, hg, hR⟩)⟩ := hq20
            · exact Rx.go (fun _ => rfl) (hF (Or.inr (Or.inl ⟨hB, Or.inl hn⟩)) hG hm)
            · exact Rx.go (fun _ => rfl) (hF (Or.inr (Or.inl ⟨hB, Or.inr ⟨rfl, q, ds, bf, L, hO, ht, h18, h9⟩⟩)) hG (Nat.zero_le _))
            · exact Rx.go (fun _ => rfl) (hK (Or.inr ⟨hB, ds, bf, L, g, hO, ht, h18, h9, hg, rfl, rfl⟩) hR)
          · replace c6 : ¬ (hb t 0) = 46 := of_decide_eq_false c6
            show Rx X c0 m_Mod_readInside 152 [.ref (c0 + 16), .int 0, .int kk, .int pv, .int ev, .int lv, .int (hb t 0), v7, v8] [] σ τ _
            refine Rx.go (fun _ => rfl) ?_
            refine Rx.scallE rfl rfl rfl rfl (sx_Mod_isDigit X (hb t 0)) ?_
            show Rx X c0 m_Mod_readInside 157 [.ref (c0 + 16), .int 0, .int kk, .int pv, .int ev, .int lv, .int (hb t 0), v7, v8] [.int (bi (isD (hb t 0)))] σ τ _
            refine Rx.go (fun _ => rfl) ?_
            refine Rx.ite (fun c7 => ?_) (fun c7 => ?_)
            · replace c7 : (isD (hb t 0)) = false := bi_eqt c7
              show Rx X c0 m_Mod_readInside 167 [.ref (c0 + 16), .int 0, .int kk, .int pv, .int ev, .int lv, .int (hb t 0), v7, v8] [] σ τ _
              refine Rx.go (fun _ => rfl) ?_
              refine Rx.go (fun _ => rfl) ?_
              refine Rx.go (fun _ => rfl) ?_
              refine Rx.callP rfl rfl rfl rfl (rs_fl (wn := 0) hS (by decide) rfl) ?_
              intro σ21 τ21 hS21
              exact hF (Or.inr (Or.inr ⟨rfl, c1, c3, fun h => h.elim c4 (fun h => h.elim c5 (fun h => h.elim c6 (fun h => Bool.noConfusion (c7.symm.trans h))))⟩)) hS21 hD
            · replace c7 : (isD (hb t 0)) = true := bi_eqf c7
              show Rx X c0 m_Mod_readInside 160 [.ref (c0 + 16), .int 0, .int kk, .int pv, .int ev, .int lv, .int (hb t 0), v7, v8] [] σ τ _
              refine Rx.go (fun _ => rfl) ?_
              have hB : nuB t := Or.inr (Or.inr (Or.inr c7))
              refine Rx.call rfl rfl rfl rfl (rr_number hD hS) ?_
              rintro v σ22 τ22 ⟨rfl, hq22⟩
              obtain ⟨w, m, j, hn, hG, hm, hj⟩ | ⟨q, ds, bf, L, hO, ht, h18, (⟨h9, hG⟩ | ⟨h9, g, hg, hR⟩)⟩ := hq22
              · exact Rx.go (fun _ => rfl) (hF (Or.inr (Or.inl ⟨hB, Or.inl hn⟩)) hG hm)
              · exact Rx.go (fun _ => rfl) (hF (Or.inr (Or.inl ⟨hB, Or.inr ⟨rfl, q, ds, bf, L, hO, ht, h18, h9⟩⟩)) hG (Nat.zero_le _))
              · exact Rx.go (fun _ => rfl) (hK (Or.inr ⟨hB, ds, bf, L, g, hO, ht, h18, h9, hg, rfl, rfl⟩) hR)
    · replace c3 : (hb t 0) = 102 := Classical.not_not.mp (of_decide_eq_false c3)
      show Rx X c0 m_Mod_readInside 112 [.ref (c0 + 16), .int 0, .int kk, .int pv, .int ev, .int lv, .int (hb t 0), v7, v8] [] σ τ _
      refine Rx.go (fun _ => rfl) ?_
      refine Rx.go (fun _ => rfl) ?_
      refine Rx.go (fun _ => rfl) ?_
      refine Rx.go (fun _ => rfl) ?_
      refine Rx.ite (fun c8 => ?_) (fun c8 => ?_)
      · replace c8 : ¬ (hb t 0) = 116 := of_decide_eq_true c8
        show Rx X c0 m_Mod_readInside 124 [.ref (c0 + 16), .int 0, .int kk, .int pv, .int ev, .int lv, .int (hb t 0), v7, v8] [.ref (c0 + 16)] σ τ _
        refine Rx.go (fun _ => rfl) ?_
        refine Rx.call rfl rfl rfl rfl (rr_truth1 hX hS.z) ?_
        rintro v σ23 τ23 ⟨rfl, hq23⟩
        replace hq23 : if (trO t 1).1 = true then (trO t 1).2.1 = wlen 1 ∧ RS σ0 τ0 t (wlen 1) (wl 1) 8 0 0 σ23 τ23 else ∃ m j, RG σ0 τ0 t (trO t 1).2.1 m j σ23 τ23 ∧ m ≤ 250 ∧ j ≤ 20 := hq23
        generalize hT23 : trO t 1 = T at hq23
        obtain ⟨b, w, u⟩ := T
        cases b
        · rw [if_neg Bool.false_ne_true] at hq23
          obtain ⟨m, j, hG, hm, hj⟩ := hq23
          exact Rx.go (fun _ => rfl) (hF (Or.inl ⟨1, Or.inr ⟨rfl, c3⟩, hT23⟩) hG hm)
        · rw [if_pos rfl] at hq23
          obtain ⟨e, hO⟩ := hq23
          dsimp only at e
          subst e
          exact Rx.go (fun _ => rfl) (hK (Or.inl ⟨1, Or.inr ⟨rfl, c3⟩, hT23, rfl, rfl, rfl⟩) hO)
      · replace c8 : (hb t 0) = 116 := Classical.not_not.mp (of_decide_eq_false c8)
        exact absurd c8 c1
