section
/-! The reference reads a truth or a number inside a text. (rows laid by wip/whole/rr11.py) -/
/-- a truth of the word k -/
def trO (l : List Nat) (k : Nat) : Bool × Nat × Unit := match sTl l k (wlen k) 0 with | some x => (false, x, ()) | none => if isW (hb l (wlen k)) = true then (false, wlen k, ()) else (true, wlen k, ())
/-- the first item says: a number -/
def nuB (l : List Nat) : Prop := hb l 0 = 43 ∨ hb l 0 = 45 ∨ hb l 0 = 46 ∨ isD (hb l 0) = true
/-- a truth or number is read up to q: kind kd, written d -/
def prO (l : List Nat) (q : Nat) (d : List Nat) (kd : Nat) : Prop := (∃ k, ((k = 0 ∧ hb l 0 = 116) ∨ (k = 1 ∧ hb l 0 = 102)) ∧ trO l k = (true, q, ()) ∧ q = wlen k ∧ d = wl k ∧ kd = 8) ∨ (nuB l ∧ ∃ ds bf L g, nrO l q ds bf ∧ trail ds (bW ds bf) L ∧ ds.length ≤ 18 ∧ L - bW ds bf ≤ 9 ∧ lead ds (bW ds bf) g ∧ d = wN (decide (hb l 0 = 45)) bf.isSome ds g (bW ds bf) L ∧ kd = (if bf.isSome = true then 4 else 3))
/-- a fault at w -/
def prF (l : List Nat) (w : Nat) : Prop := (∃ k, ((k = 0 ∧ hb l 0 = 116) ∨ (k = 1 ∧ hb l 0 = 102)) ∧ trO l k = (false, w, ())) ∨ (nuB l ∧ (nrF l w ∨ (w = 0 ∧ ∃ q ds bf L, nrO l q ds bf ∧ trail ds (bW ds bf) L ∧ ds.length ≤ 18 ∧ 9 < L - bW ds bf))) ∨ (w = 0 ∧ ¬ hb l 0 = 116 ∧ ¬ hb l 0 = 102 ∧ ¬ nuB l)
theorem prO_len {l d : List Nat} {q kd : Nat} (h : prO l q d kd) : d.length ≤ 60 := by
  obtain ⟨k, hk, -, -, rfl, -⟩ | ⟨-, ds, bf, L, g, -, -, h18, -, -, rfl, -⟩ := h
  · obtain ⟨rfl, -⟩ | ⟨rfl, -⟩ := hk
    · rw [wl_len]; decide
    · rw [wl_len]; decide
  · exact wN_len h18
set_option maxRecDepth 100000 in
set_option maxHeartbeats 2000000 in
theorem ri_C {X : ev_X} {c0 : Nat} {σ0 : Nat → Int32} {τ0 : Nat → Nat → Int32} {t : List Nat} {D : List Nat} {k qq db : Nat} {Q : Option Value → (Nat → Int32) → (Nat → Nat → Int32) → Prop} (hX : XS X c0) (hD : D.length ≤ 250) (kk pv ev lv : Int32) (v6 v7 v8 : Value) {σ : Nat → Int32} {τ : Nat → Nat → Int32} (hS : RS σ0 τ0 t 0 D k qq db σ τ) (hK : ∀ {q kd : Nat} {d : List Nat} {σ' : Nat → Int32} {τ' : Nat → Nat → Int32}, prO t q d kd → RS σ0 τ0 t q d kd 0 0 σ' τ' → Rx X c0 m_Mod_readInside 174 [.ref (c0 + 16), .int 0, .int kk, .int pv, .int ev, .int lv, .int (hb t 0), v7, v8] [] σ' τ' Q) (hF : ∀ {w m j : Nat} {σ' : Nat → Int32} {τ' : Nat → Nat → Int32}, prF t w → RG σ0 τ0 t w m j σ' τ' → m ≤ 250 → Rx X c0 m_Mod_readInside 174 [.ref (c0 + 16), .int 0, .int kk, .int pv, .int ev, .int lv, .int (hb t 0), v7, v8] [] σ' τ' Q) : Rx X c0 m_Mod_readInside 92 [.ref (c0 + 16), .int 0, .int kk, .int pv, .int ev, .int lv, v6, v7, v8] [] σ τ Q := by
  refine Rx.go (fun _ => rfl) ?_
  refine Rx.callE rfl rfl rfl rfl (rz_here hS.z) ?_
  show Rx X c0 m_Mod_readInside 96 [.ref (c0 + 16), .int 0, .int kk, .int pv, .int ev, .int lv, v6, v7, v8] [.int (hb t 0)] σ τ _
  refine Rx.go (fun _ => rfl) ?_
  show Rx X c0 m_Mod_readInside 98 [.ref (c0 + 16), .int 0, .int kk, .int pv, .int ev, .int lv, .int (hb t 0), v7, v8] [] σ τ _
  refine Rx.go (fun _ => rfl) ?_
  refine Rx.go (fun _ => rfl) ?_
  refine Rx.go (fun _ => rfl) ?_
  refine Rx.ite (fun c1 => ?_) (fun c1 => ?_)
  · replace c1 : (hb t 0) = 116 := of_decide_eq_true c1
    show Rx X c0 m_Mod_readInside 112 [.ref (c0 + 16), .int 0, .int kk, .int pv, .int ev, .int lv, .int (hb t 0), v7, v8] [] σ τ _
    refine Rx.go (fun _ => rfl) ?_
    refine Rx.go (fun _ => rfl) ?_
    refine Rx.go (fun _ => rfl) ?_
    refine Rx.go (fun _ => rfl) ?_
    refine Rx.ite (fun c2 => ?_) (fun c2 => ?_)
    · replace c2 : ¬ (hb t 0) = 116 := of_decide_eq_true c2
      exact absurd c1 c2
    · replace c2 : (hb t 0) = 116 := Classical.not_not.mp (of_decide_eq_false c2)
      show Rx X c0 m_Mod_readInside 120 [.ref (c0 + 16), .int 0, .int kk, .int pv, .int ev, .int lv, .int (hb t 0), v7, v8] [.ref (c0 + 16)] σ τ _
      refine Rx.go (fun _ => rfl) ?_
      refine Rx.go (fun _ => rfl) ?_
      refine Rx.call rfl rfl rfl rfl (rr_truth0 hX hS.z) ?_
      rintro v σ17 τ17 ⟨rfl, hq17⟩
      replace hq17 : if (trO t 0).1 = true then (trO t 0).2.1 = wlen 0 ∧ RS σ0 τ0 t (wlen 0) (wl 0) 8 0 0 σ17 τ17 else ∃ m j, RG σ0 τ0 t (trO t 0).2.1 m j σ17 τ17 ∧ m ≤ 250 ∧ j ≤ 20 := hq17
      generalize hT17 : trO t 0 = T at hq17
      obtain ⟨b, w, u⟩ := T
      cases b
      · rw [if_neg Bool.false_ne_true] at hq17
        obtain ⟨m, j, hG, hm, hj⟩ := hq17
        exact Rx.go (fun _ => rfl) (hF (Or.inl ⟨0, Or.inl ⟨rfl, c1⟩, hT17⟩) hG hm)
      · rw [if_pos rfl] at hq17
        obtain ⟨e, hO⟩ := hq17
        dsimp only at e
        subst e
        exact Rx.go (fun _ => rfl) (hK (Or.inl ⟨0, Or.inl ⟨rfl, c1⟩, hT17, rfl, rfl, rfl⟩) hO)
  · replace c1 : ¬ (hb t 0) = 116 := of_decide_eq_false c1
    show Rx X c0 m_Mod_readInside 105 [.ref (c0 + 16), .int 0, .int kk, .int pv, .int ev, .int lv, .int (hb t 0), v7, v8] [] σ τ _
    refine Rx.go (fun _ => rfl) ?_
    refine Rx.go (fun _ => rfl) ?_
    refine Rx.go (fun _ => rfl) ?_
    refine Rx.ite (fun c3 => ?_) (fun c3 => ?_)
    · replace c3 : ¬ (hb t 0) = 102 := of_decide_eq_true c3
      show Rx X c0 m_Mod_readInside 131 [.ref (c0 + 16), .int 0, .int kk, .int pv, .int ev, .int lv, .int (hb t 0), v7, v8] [] σ τ _
      refine Rx.go (fun _ => rfl) ?_
      refine Rx.go (fun _ => rfl) ?_
      refine Rx.go (fun _ => rfl) ?_
      refine Rx.ite (fun c4 => ?_) (fun c4 => ?_)
      · replace c4 : (hb t 0) = 43 := of_decide_eq_true c4
        show Rx X c0 m_Mod_readInside 160 [.ref (c0 + 16), .int 0, .int kk, .int pv, .int ev, .int lv, .int (hb t 0), v7, v8] [] σ τ _
        refine Rx.go (fun _ => rfl) ?_
        have hB : nuB t := Or.inl c4
        refine Rx.call rfl rfl rfl rfl (rr_number hD hS) ?_
        rintro v σ18 τ18 ⟨rfl, hq18⟩
        obtain ⟨w, m, j, hn, hG, hm, hj⟩ | ⟨q, ds, bf, L, hO, ht, h18, (⟨h9, hG⟩ | ⟨h9, g, hg, hR⟩)⟩ := hq18
        · exact Rx.go (fun _ => rfl) (hF (Or.inr (Or.inl ⟨hB, Or.inl hn⟩)) hG hm)
        · exact Rx.go (fun _ => rfl) (hF (Or.inr (Or.inl ⟨hB, Or.inr ⟨rfl, q, ds, bf, L, hO, ht, h18, h9⟩⟩)) hG (Nat.zero_le _))
        · exact Rx.go (fun _ => rfl) (hK (Or.inr ⟨hB, ds, bf, L, g, hO, ht, h18, h9, hg, rfl, rfl⟩) hR)
      · replace c4 : ¬ (hb t 0) = 43 := of_decide_eq_false c4
        show Rx X c0 m_Mod_readInside 138 [.ref (c0 + 16), .int 0, .int kk, .int pv, .int ev, .int lv, .int (hb t 0), v7, v8] [] σ τ _
        refine Rx.go (fun _ => rfl) ?_
        refine Rx.go (fun _ => rfl) ?_
        refine Rx.go (fun _ => rfl) ?_
        refine Rx.ite (fun c5 => ?_) (fun c5 => ?_)
        · replace c5 : (hb t 0) = 45 := of_decide_eq_true c5
          show Rx X c0 m_Mod_readInside 160 [.ref (c0 + 16), .int 0, .int kk, .int pv, .int ev, .int lv, .int (hb t 0), v7, v8] [] σ τ _
          refine Rx.go (fun _ => rfl) ?_
          have hB : nuB t := Or.inr (Or.inl c5)
          refine Rx.call rfl rfl rfl rfl (rr_number hD hS) ?_
          rintro v σ19 τ19 ⟨rfl, hq19⟩
          obtain ⟨w, m, j, hn, hG, hm, hj⟩ | ⟨q, ds, bf, L, hO, ht, h18, (⟨h9, hG⟩ | ⟨h9, g, hg, hR⟩)⟩ := hq19
          · exact Rx.go (fun _ => rfl) (hF (Or.inr (Or.inl ⟨hB, Or.inl hn⟩)) hG hm)
          · exact Rx.go (fun _ => rfl) (hF (Or.inr (Or.inl ⟨hB, Or.inr ⟨rfl, q, ds, bf, L, hO, ht, h18, h9⟩⟩)) hG (Nat.zero_le _))
          · exact Rx.go (fun _ => rfl) (hK (Or.inr ⟨hB, ds, bf, L, g, hO, ht, h18, h9, hg, rfl, rfl⟩) hR)
        · replace c5 : ¬ (hb t 0) = 45 := of_decide_eq_false c5
          show Rx X c0 m_Mod_readInside 145 [.ref (c0 + 16), .int 0, .int kk, .int pv, .int ev, .int lv, .int (hb t 0), v7, v8] [] σ τ _
          refine Rx.go (fun _ => rfl) ?_
          refine Rx.go (fun _ => rfl) ?_
          refine Rx.go (fun _ => rfl) ?_
          refine Rx.ite (fun c6 => ?_) (fun c6 => ?_)
          · replace c6 : (hb t 0) = 46 := of_decide_eq_true c6
            show Rx X c0 m_Mod_readInside 160 [.ref (c0 + 16), .int 0, .int kk, .int pv, .int ev, .int lv, .int (hb t 0), v7, v8] [] σ τ _
            refine Rx.go (fun _ => rfl) ?_
            have hB : nuB t := Or.inr (Or.inr (Or.inl c6))
            refine Rx.call rfl rfl rfl rfl (rr_number hD hS) ?_
            rintro v σ20 τ20 ⟨rfl, hq20⟩
            obtain ⟨w, m, j, hn, hG, hm, hj⟩ | ⟨q, ds, bf, L, hO, ht, h18, (⟨h9, hG⟩ | ⟨h9, g, hg, hR⟩)⟩ := hq20
            · exact Rx.go (fun _ => rfl) (hF (Or.inr (Or.inl ⟨hB, Or.inl hn⟩)) hG hm)
            · exact Rx.go (fun _ => rfl) (hF (Or.inr (Or.inl ⟨hB, Or.inr ⟨rfl, q, ds, bf, L, hO, ht, h18, h9⟩⟩)) hG (Nat.zero_le _))
            · exact Rx.go (fun _ => rfl) (hK (Or.inr ⟨hB, ds, bf, L, g, hO, ht, h18, h9, hg, rfl, rfl⟩) hR)
          · replace c6 : ¬ (hb t 0) = 46 := of_decide_eq_false c6
            show Rx X c0 m_Mod_readInside 152 [.ref (c0 + 16), .int 0, .int kk, .int pv, .int ev, .int lv, .int (hb t 0), v7, v8] [] σ τ _
            refine Rx.go (fun _ => rfl) ?_
            refine Rx.scallE rfl rfl rfl rfl (sx_Mod_isDigit X (hb t 0)) ?_
            show Rx X c0 m_Mod_readInside 157 [.ref (c0 + 16), .int 0, .int kk, .int pv, .int ev, .int lv, .int (hb t 0), v7, v8] [.int (bi (isD (hb t 0)))] σ τ _
            refine Rx.go (fun _ => rfl) ?_
            refine Rx.ite (fun c7 => ?_) (fun c7 => ?_)
            · replace c7 : (isD (hb t 0)) = false := bi_eqt c7
              show Rx X c0 m_Mod_readInside 167 [.ref (c0 + 16), .int 0, .int kk, .int pv, .int ev, .int lv, .int (hb t 0), v7, v8] [] σ τ _
              refine Rx.go (fun _ => rfl) ?_
              refine Rx.go (fun _ => rfl) ?_
              refine Rx.go (fun _ => rfl) ?_
              refine Rx.callP rfl rfl rfl rfl (rs_fl (wn := 0) hS (by decide) rfl) ?_
              intro σ21 τ21 hS21
              exact hF (Or.inr (Or.inr ⟨rfl, c1, c3, fun h => h.elim c4 (fun h => h.elim c5 (fun h => h.elim c6 (fun h => Bool.noConfusion (c7.symm.trans h))))⟩)) hS21 hD
            · replace c7 : (isD (hb t 0)) = true := bi_eqf c7
              show Rx X c0 m_Mod_readInside 160 [.ref (c0 + 16), .int 0, .int kk, .int pv, .int ev, .int lv, .int (hb t 0), v7, v8] [] σ τ _
              refine Rx.go (fun _ => rfl) ?_
              have hB : nuB t := Or.inr (Or.inr (Or.inr c7))
              refine Rx.call rfl rfl rfl rfl (rr_number hD hS) ?_
              rintro v σ22 τ22 ⟨rfl, hq22⟩
              obtain ⟨w, m, j, hn, hG, hm, hj⟩ | ⟨q, ds, bf, L, hO, ht, h18, (⟨h9, hG⟩ | ⟨h9, g, hg, hR⟩)⟩ := hq22
              · exact Rx.go (fun _ => rfl) (hF (Or.inr (Or.inl ⟨hB, Or.inl hn⟩)) hG hm)
              · exact Rx.go (fun _ => rfl) (hF (Or.inr (Or.inl ⟨hB, Or.inr ⟨rfl, q, ds, bf, L, hO, ht, h18, h9⟩⟩)) hG (Nat.zero_le _))
              · exact Rx.go (fun _ => rfl) (hK (Or.inr ⟨hB, ds, bf, L, g, hO, ht, h18, h9, hg, rfl, rfl⟩) hR)
    · replace c3 : (hb t 0) = 102 := Classical.not_not.mp (of_decide_eq_false c3)
      show Rx X c0 m_Mod_readInside 112 [.ref (c0 + 16), .int 0, .int kk, .int pv, .int ev, .int lv, .int (hb t 0), v7, v8] [] σ τ _
      refine Rx.go (fun _ => rfl) ?_
      refine Rx.go (fun _ => rfl) ?_
      refine Rx.go (fun _ => rfl) ?_
      refine Rx.go (fun _ => rfl) ?_
      refine Rx.ite (fun c8 => ?_) (fun c8 => ?_)
      · replace c8 : ¬ (hb t 0) = 116 := of_decide_eq_true c8
        show Rx X c0 m_Mod_readInside 124 [.ref (c0 + 16), .int 0, .int kk, .int pv, .int ev, .int lv, .int (hb t 0), v7, v8] [.ref (c0 + 16)] σ τ _
        refine Rx.go (fun _ => rfl) ?_
        refine Rx.call rfl rfl rfl rfl (rr_truth1 hX hS.z) ?_
        rintro v σ23 τ23 ⟨rfl, hq23⟩
        replace hq23 : if (trO t 1).1 = true then (trO t 1).2.1 = wlen 1 ∧ RS σ0 τ0 t (wlen 1) (wl 1) 8 0 0 σ23 τ23 else ∃ m j, RG σ0 τ0 t (trO t 1).2.1 m j σ23 τ23 ∧ m ≤ 250 ∧ j ≤ 20 := hq23
        generalize hT23 : trO t 1 = T at hq23
        obtain ⟨b, w, u⟩ := T
        cases b
        · rw [if_neg Bool.false_ne_true] at hq23
          obtain ⟨m, j, hG, hm, hj⟩ := hq23
          exact Rx.go (fun _ => rfl) (hF (Or.inl ⟨1, Or.inr ⟨rfl, c3⟩, hT23⟩) hG hm)
        · rw [if_pos rfl] at hq23
          obtain ⟨e, hO⟩ := hq23
          dsimp only at e
          subst e
          exact Rx.go (fun _ => rfl) (hK (Or.inl ⟨1, Or.inr ⟨rfl, c3⟩, hT23, rfl, rfl, rfl⟩) hO)
      · replace c8 : (hb t 0) = 116 := Classical.not_not.mp (of_decide_eq_false c8)
        exact absurd c8 c1
end
section
/-! The reference reads inside a text. (rows laid by wip/whole/rr12.py) -/
theorem va_id {α : Type} {τ : Nat → α} {i : Nat} : va_up τ i (τ i) = τ := funext (fun j => by
  by_cases h : j = i
  · subst h; rw [va_up_self]
  · rw [va_up_ne _ _ h])
theorem Rx.vid {X : ev_X} {c0 M pc i : Nat} {A st : List Value} {σ : Nat → Int32} {τ : Nat → Nat → Int32} {Q : Option Value → (Nat → Int32) → (Nat → Nat → Int32) → Prop} (h : Rx X c0 M pc A st σ (va_up τ i (τ i)) Q) : Rx X c0 M pc A st σ τ Q := by
  rw [va_id] at h; exact h
theorem RS.f11 {σ0 σ : Nat → Int32} {τ0 τ : Nat → Nat → Int32} {t d : List Nat} {p k q db : Nat} (h : RS σ0 τ0 t p d k q db σ τ) : σ 11 = nI k := h.2.2.2.2.1
/-- readInside's end: the raw items are a truth or number of kind kk, or a fault at 0 -/
def inP (σ0 : Nat → Int32) (τ0 : Nat → Nat → Int32) (t : List Nat) (p : Nat) (raw : List Nat) (kk : Nat) (r : Option Value) (σ' : Nat → Int32) (τ' : Nat → Nat → Int32) : Prop := r = none ∧ ∃ f, (∃ d, prO raw raw.length d kk ∧ RS σ0 (va_up τ0 20 f) t p d kk 0 0 σ' τ') ∨ (((∃ w, prF raw w) ∨ (∃ q d kd, prO raw q d kd ∧ ¬ (q = raw.length ∧ kd = kk))) ∧ ∃ m, RG σ0 (va_up τ0 20 f) t 0 m 0 σ' τ' ∧ m ≤ 250)
set_option maxRecDepth 100000 in
set_option maxHeartbeats 2000000 in
theorem ri_T1 {X : ev_X} {c0 : Nat} {Q : Option Value → (Nat → Int32) → (Nat → Nat → Int32) → Prop} {σ : Nat → Int32} {τ : Nat → Nat → Int32} {t : List Nat} (hl : t.length ≤ 240) (kk pv : Int32) (v5 v6 v8 : Value) (h20 : ∀ j, j < t.length → τ 20 j = nI (t.getD j 0)) (hQ : ∀ g : Nat → Int32, (∀ j, j < t.length → g j = nI (t.getD j 0)) → Q none (upd (upd (upd σ 18 0) 16 pv) 17 (nI t.length)) (va_up τ 0 g)) : Rx X c0 m_Mod_readInside 205 [.ref (c0 + 16), .int 0, .int kk, .int pv, .int (nI t.length), v5, v6, .int 1, v8] [] σ τ Q := by
  refine Rx.go (fun _ => rfl) ?_
  refine Rx.go (fun _ => rfl) ?_
  refine Rx.put rfl (by decide) rfl rfl ?_
  refine Rx.go (fun _ => rfl) ?_
  refine Rx.go (fun _ => rfl) ?_
  show Rx X c0 m_Mod_readInside 213 [.ref (c0 + 16), .int 0, .int kk, .int pv, .int (nI t.length), v5, v6, .int 1, .int 0] [] (upd σ 18 0) τ _
  show Rx X c0 m_Mod_readInside 213 [.ref (c0 + 16), .int 0, .int kk, .int pv, .int (nI t.length), v5, v6, .int 1, .int 0] [] (upd σ 18 0) τ _
  refine Rx.vid (i := 0) (ri_D hl pv kk 1 v5 v6 h20 (fun g hg => ?_) t.length 0 (τ 0) (by omega) (fun j hj => absurd hj (Nat.not_lt_zero _)))
  refine Rx.go (fun _ => rfl) ?_
  refine Rx.go (fun _ => rfl) ?_
  refine Rx.put rfl (by decide) rfl rfl ?_
  refine Rx.go (fun _ => rfl) ?_
  refine Rx.go (fun _ => rfl) ?_
  refine Rx.put rfl (by decide) rfl rfl ?_
  refine Rx.go (fun _ => rfl) ?_
  refine Rx.go (fun _ => rfl) ?_
  show Rx X c0 m_Mod_readInside 263 [.ref (c0 + 16), .int 0, .int kk, .int pv, .int (nI t.length), v5, v6, .int 1, .int (nI t.length)] [] (upd (upd (upd σ 18 0) 16 pv) 17 (nI t.length)) (va_up τ 0 g) _
  exact Rx.ret rfl rfl (hQ g hg)
set_option maxRecDepth 100000 in
set_option maxHeartbeats 2000000 in
theorem ri_T0 {X : ev_X} {c0 : Nat} {Q : Option Value → (Nat → Int32) → (Nat → Nat → Int32) → Prop} {σ : Nat → Int32} {τ : Nat → Nat → Int32} {t : List Nat} (hl : t.length ≤ 240) (kk pv : Int32) (v5 v6 v8 : Value) (h20 : ∀ j, j < t.length → τ 20 j = nI (t.getD j 0)) (hQ : ∀ g : Nat → Int32, (∀ j, j < t.length → g j = nI (t.getD j 0)) → Q none (rfail (upd (upd (upd σ 18 0) 16 pv) 17 (nI t.length)) 7 0) (va_up τ 0 g)) : Rx X c0 m_Mod_readInside 205 [.ref (c0 + 16), .int 0, .int kk, .int pv, .int (nI t.length), v5, v6, .int 0, v8] [] σ τ Q := by
  refine Rx.go (fun _ => rfl) ?_
  refine Rx.go (fun _ => rfl) ?_
  refine Rx.put rfl (by decide) rfl rfl ?_
  refine Rx.go (fun _ => rfl) ?_
  refine Rx.go (fun _ => rfl) ?_
  show Rx X c0 m_Mod_readInside 213 [.ref (c0 + 16), .int 0, .int kk, .int pv, .int (nI t.length), v5, v6, .int 0, .int 0] [] (upd σ 18 0) τ _
  show Rx X c0 m_Mod_readInside 213 [.ref (c0 + 16), .int 0, .int kk, .int pv, .int (nI t.length), v5, v6, .int 0, .int 0] [] (upd σ 18 0) τ _
  refine Rx.vid (i := 0) (ri_D hl pv kk 0 v5 v6 h20 (fun g hg => ?_) t.length 0 (τ 0) (by omega) (fun j hj => absurd hj (Nat.not_lt_zero _)))
  refine Rx.go (fun _ => rfl) ?_
  refine Rx.go (fun _ => rfl) ?_
  refine Rx.put rfl (by decide) rfl rfl ?_
  refine Rx.go (fun _ => rfl) ?_
  refine Rx.go (fun _ => rfl) ?_
  refine Rx.put rfl (by decide) rfl rfl ?_
  refine Rx.go (fun _ => rfl) ?_
  refine Rx.go (fun _ => rfl) ?_
  show Rx X c0 m_Mod_readInside 256 [.ref (c0 + 16), .int 0, .int kk, .int pv, .int (nI t.length), v5, v6, .int 0, .int (nI t.length)] [] (upd (upd (upd σ 18 0) 16 pv) 17 (nI t.length)) (va_up τ 0 g) _
  refine Rx.go (fun _ => rfl) ?_
  refine Rx.go (fun _ => rfl) ?_
  refine Rx.go (fun _ => rfl) ?_
  refine Rx.callE rfl rfl rfl rfl (rx_fail X c0 _ _ 7 0) ?_
  show Rx X c0 m_Mod_readInside 263 [.ref (c0 + 16), .int 0, .int kk, .int pv, .int (nI t.length), v5, v6, .int 0, .int (nI t.length)] [] (rfail (upd (upd (upd σ 18 0) 16 pv) 17 (nI t.length)) 7 0) (va_up τ 0 g) _
  exact Rx.ret rfl rfl (hQ g hg)
theorem prO_kd {l d : List Nat} {q kd : Nat} (h : prO l q d kd) : kd ≤ 8 := by
  obtain ⟨k, -, -, -, -, rfl⟩ | ⟨-, ds, bf, L, g, -, -, -, -, -, -, rfl⟩ := h
  · exact Nat.le_refl _
  · split <;> decide
set_option maxRecDepth 100000 in
set_option maxHeartbeats 2000000 in
theorem rr_inside {X : ev_X} {c0 : Nat} {σ0 : Nat → Int32} {τ0 : Nat → Nat → Int32} {t : List Nat} {D raw : List Nat} {p k qq db kk : Nat} {σ : Nat → Int32} {τ : Nat → Nat → Int32} (hX : XS X c0) (hD : D.length ≤ 250) (hq : qq = raw.length + 1) (hr : raw.length + 1 ≤ D.length) (hraw : ∀ j, j < raw.length → D.getD (j + 1) 0 = raw.getD j 0) (hrl : raw.length ≤ 240) (hby : ∀ j, raw.getD j 0 < 256) (hkk : kk < 16) (hS : RS σ0 τ0 t p D k qq db σ τ) : Rx X c0 m_Mod_readInside 0 [.ref (c0 + 16), .int 0, .int (nI kk), ev_dead, ev_dead, ev_dead, ev_dead, ev_dead, ev_dead] [] σ τ (inP σ0 τ0 t p raw kk) := by
  have hl := hS.z.tl
  refine Rx.go (fun _ => rfl) ?_
  refine Rx.get rfl rfl ?_
  refine Rx.top (y := nI p) hS.f16 ?_
  refine Rx.go (fun _ => rfl) ?_
  show Rx X c0 m_Mod_readInside 5 [.ref (c0 + 16), .int 0, .int (nI kk), .int (nI p), ev_dead, ev_dead, ev_dead, ev_dead, ev_dead] [] σ τ _
  refine Rx.go (fun _ => rfl) ?_
  refine Rx.get rfl rfl ?_
  refine Rx.top (y := nI t.length) hS.f17 ?_
  refine Rx.go (fun _ => rfl) ?_
  show Rx X c0 m_Mod_readInside 11 [.ref (c0 + 16), .int 0, .int (nI kk), .int (nI p), .int (nI t.length), ev_dead, ev_dead, ev_dead, ev_dead] [] σ τ _
  refine Rx.go (fun _ => rfl) ?_
  refine Rx.go (fun _ => rfl) ?_
  show Rx X c0 m_Mod_readInside 14 [.ref (c0 + 16), .int 0, .int (nI kk), .int (nI p), .int (nI t.length), .int 0, ev_dead, ev_dead, ev_dead] [] σ τ _
  show Rx X c0 m_Mod_readInside 14 [.ref (c0 + 16), .int 0, .int (nI kk), .int (nI p), .int (nI t.length), .int 0, ev_dead, ev_dead, ev_dead] [] σ τ _
  refine Rx.vid (i := 20) (ri_A hl (nI p) (nI kk) _ _ _ hS.1.2.2.1 (fun f hf => ?_) t.length 0 (τ 20) (by omega) (fun j hj => absurd hj (Nat.not_lt_zero _)))
  refine Rx.go (fun _ => rfl) ?_
  refine Rx.get rfl rfl ?_
  refine Rx.top (y := nI qq) hS.f12 ?_
  refine Rx.go (fun _ => rfl) ?_
  refine Rx.go (fun _ => rfl) ?_
  refine Rx.top (y := nI raw.length) (by rw [hq]; exact nI_s1 _) ?_
  refine Rx.go (fun _ => rfl) ?_
  show Rx X c0 m_Mod_readInside 49 [.ref (c0 + 16), .int 0, .int (nI kk), .int (nI p), .int (nI t.length), .int (nI raw.length), ev_dead, ev_dead, ev_dead] [] σ (va_up τ 20 f) _
  refine Rx.go (fun _ => rfl) ?_
  refine Rx.go (fun _ => rfl) ?_
  show Rx X c0 m_Mod_readInside 52 [.ref (c0 + 16), .int 0, .int (nI kk), .int (nI p), .int (nI t.length), .int (nI raw.length), .int 0, ev_dead, ev_dead] [] σ (va_up τ 20 f) _
  show Rx X c0 m_Mod_readInside 52 [.ref (c0 + 16), .int 0, .int (nI kk), .int (nI p), .int (nI t.length), .int (nI raw.length), .int 0, ev_dead, ev_dead] [] σ (va_up τ 20 f) _
  refine Rx.vid (i := 0) (ri_B hrl (nI p) (nI t.length) (nI kk) _ _ (fun j hj => by rw [va_up_ne _ _ (by decide), hS.f9 (by omega), hraw j hj]) (fun g hg => ?_) raw.length 0 (va_up τ 20 f 0) (by omega) (fun j hj => absurd hj (Nat.not_lt_zero _)))
  refine Rx.go (fun _ => rfl) ?_
  refine Rx.go (fun _ => rfl) ?_
  refine Rx.put rfl (by decide) rfl rfl ?_
  refine Rx.go (fun _ => rfl) ?_
  refine Rx.go (fun _ => rfl) ?_
  refine Rx.put rfl (by decide) rfl rfl ?_
  show Rx X c0 m_Mod_readInside 92 [.ref (c0 + 16), .int 0, .int (nI kk), .int (nI p), .int (nI t.length), .int (nI raw.length), .int (nI raw.length), ev_dead, ev_dead] [] (upd (upd σ 16 0) 17 (nI raw.length)) (va_up (va_up τ 20 f) 0 g) _
  refine ri_C (t := raw) hX hD (nI kk) (nI p) (nI t.length) (nI raw.length) _ _ _ (hS.go_in (f := f) hg hrl hby) (fun {q kd d σ' τ'} hO hR => ?_) (fun {w m j σ' τ'} hF hG hm => ?_)
  · have h20 : ∀ j, j < t.length → τ' 20 j = nI (t.getD j 0) := fun j hj => by rw [hR.1.2.1.2.2.2.2.2, va_up_self]; exact hf j hj
    refine Rx.go (fun _ => rfl) ?_
    refine Rx.callE rfl rfl rfl rfl (rz_good hR.z) ?_
    show Rx X c0 m_Mod_readInside 178 [.ref (c0 + 16), .int 0, .int (nI kk), .int (nI p), .int (nI t.length), .int (nI raw.length), .int (hb raw 0), ev_dead, ev_dead] [.int 1] σ' τ' _
    refine Rx.go (fun _ => rfl) ?_
    show Rx X c0 m_Mod_readInside 181 [.ref (c0 + 16), .int 0, .int (nI kk), .int (nI p), .int (nI t.length), .int (nI raw.length), .int (hb raw 0), ev_dead, ev_dead] [] σ' τ' _
    refine Rx.go (fun _ => rfl) ?_
    refine Rx.get rfl rfl ?_
    refine Rx.top (y := nI q) hR.f16 ?_
    refine Rx.go (fun _ => rfl) ?_
    refine Rx.go (fun _ => rfl) ?_
    refine Rx.ite (fun c1 => ?_) (fun c1 => ?_)
    · replace c1 : ¬ (nI q) = (nI raw.length) := of_decide_eq_true c1
      show Rx X c0 m_Mod_readInside 202 [.ref (c0 + 16), .int 0, .int (nI kk), .int (nI p), .int (nI t.length), .int (nI raw.length), .int (hb raw 0), ev_dead, ev_dead] [] σ' τ' _
      refine Rx.go (fun _ => rfl) ?_
      refine Rx.go (fun _ => rfl) ?_
      show Rx X c0 m_Mod_readInside 205 [.ref (c0 + 16), .int 0, .int (nI kk), .int (nI p), .int (nI t.length), .int (nI raw.length), .int (hb raw 0), .int 0, ev_dead] [] σ' τ' _
      show Rx X c0 m_Mod_readInside 205 [.ref (c0 + 16), .int 0, .int (nI kk), .int (nI p), .int (nI t.length), .int (nI raw.length), .int (hb raw 0), .int 0, ev_dead] [] σ' τ' _
      exact ri_T0 hl _ _ _ _ _ h20 (fun g2 hg2 => ⟨rfl, f, Or.inr ⟨Or.inr ⟨_, d, _, hO, fun e => c1 (by rw [e.1])⟩, _, (hR.go_out hg2 hl hS.z.by hS.pl).g (by decide) rfl, by have := prO_len hO; omega⟩⟩)
    · replace c1 : (nI q) = (nI raw.length) := Classical.not_not.mp (of_decide_eq_false c1)
      show Rx X c0 m_Mod_readInside 190 [.ref (c0 + 16), .int 0, .int (nI kk), .int (nI p), .int (nI t.length), .int (nI raw.length), .int (hb raw 0), ev_dead, ev_dead] [] σ' τ' _
      refine Rx.go (fun _ => rfl) ?_
      refine Rx.get rfl rfl ?_
      refine Rx.top (y := nI kd) hR.f11 ?_
      refine Rx.go (fun _ => rfl) ?_
      refine Rx.go (fun _ => rfl) ?_
      refine Rx.ite (fun c2 => ?_) (fun c2 => ?_)
      · replace c2 : ¬ (nI kd) = (nI kk) := of_decide_eq_true c2
        show Rx X c0 m_Mod_readInside 202 [.ref (c0 + 16), .int 0, .int (nI kk), .int (nI p), .int (nI t.length), .int (nI raw.length), .int (hb raw 0), ev_dead, ev_dead] [] σ' τ' _
        refine Rx.go (fun _ => rfl) ?_
        refine Rx.go (fun _ => rfl) ?_
        show Rx X c0 m_Mod_readInside 205 [.ref (c0 + 16), .int 0, .int (nI kk), .int (nI p), .int (nI t.length), .int (nI raw.length), .int (hb raw 0), .int 0, ev_dead] [] σ' τ' _
        show Rx X c0 m_Mod_readInside 205 [.ref (c0 + 16), .int 0, .int (nI kk), .int (nI p), .int (nI t.length), .int (nI raw.length), .int (hb raw 0), .int 0, ev_dead] [] σ' τ' _
        exact ri_T0 hl _ _ _ _ _ h20 (fun g2 hg2 => ⟨rfl, f, Or.inr ⟨Or.inr ⟨_, d, _, hO, fun e => c2 (by rw [e.2])⟩, _, (hR.go_out hg2 hl hS.z.by hS.pl).g (by decide) rfl, by have := prO_len hO; omega⟩⟩)
      · replace c2 : (nI kd) = (nI kk) := Classical.not_not.mp (of_decide_eq_false c2)
        show Rx X c0 m_Mod_readInside 198 [.ref (c0 + 16), .int 0, .int (nI kk), .int (nI p), .int (nI t.length), .int (nI raw.length), .int (hb raw 0), ev_dead, ev_dead] [] σ' τ' _
        refine Rx.go (fun _ => rfl) ?_
        refine Rx.go (fun _ => rfl) ?_
        refine Rx.go (fun _ => rfl) ?_
        show Rx X c0 m_Mod_readInside 205 [.ref (c0 + 16), .int 0, .int (nI kk), .int (nI p), .int (nI t.length), .int (nI raw.length), .int (hb raw 0), .int 1, ev_dead] [] σ' τ' _
        show Rx X c0 m_Mod_readInside 205 [.ref (c0 + 16), .int 0, .int (nI kk), .int (nI p), .int (nI t.length), .int (nI raw.length), .int (hb raw 0), .int 1, ev_dead] [] σ' τ' _
        exact ri_T1 hl _ _ _ _ _ h20 (fun g2 hg2 => ⟨rfl, f, Or.inl ⟨d, by rw [← (nI_eq (by have := hR.pl; omega) (by omega)).mp c1, ← (nI_eq (by have := prO_kd hO; omega) (by omega)).mp c2]; exact hO, (nI_eq (by have := prO_kd hO; omega) (by omega)).mp c2 ▸ hR.go_out hg2 hl hS.z.by hS.pl⟩⟩)
  · have h20 : ∀ j, j < t.length → τ' 20 j = nI (t.getD j 0) := fun j hj => by rw [hG.1.2.1.2.2.2.2.2, va_up_self]; exact hf j hj
    refine Rx.go (fun _ => rfl) ?_
    refine Rx.callE rfl rfl rfl rfl (rg_good hG) ?_
    show Rx X c0 m_Mod_readInside 178 [.ref (c0 + 16), .int 0, .int (nI kk), .int (nI p), .int (nI t.length), .int (nI raw.length), .int (hb raw 0), ev_dead, ev_dead] [.int 0] σ' τ' _
    refine Rx.go (fun _ => rfl) ?_
    show Rx X c0 m_Mod_readInside 202 [.ref (c0 + 16), .int 0, .int (nI kk), .int (nI p), .int (nI t.length), .int (nI raw.length), .int (hb raw 0), ev_dead, ev_dead] [] σ' τ' _
    refine Rx.go (fun _ => rfl) ?_
    refine Rx.go (fun _ => rfl) ?_
    show Rx X c0 m_Mod_readInside 205 [.ref (c0 + 16), .int 0, .int (nI kk), .int (nI p), .int (nI t.length), .int (nI raw.length), .int (hb raw 0), .int 0, ev_dead] [] σ' τ' _
    show Rx X c0 m_Mod_readInside 205 [.ref (c0 + 16), .int 0, .int (nI kk), .int (nI p), .int (nI t.length), .int (nI raw.length), .int (hb raw 0), .int 0, ev_dead] [] σ' τ' _
    exact ri_T0 hl _ _ _ _ _ h20 (fun g2 hg2 => ⟨rfl, f, Or.inr ⟨Or.inl ⟨_, hF⟩, _, hG.go_out hg2 hl hS.z.by hS.pl, hm⟩⟩)
end
section
/-! The reference reads a type. (rows laid by wip/whole/rr13.py) -/
theorem nI_4 (n : Nat) : nI n + 4 = nI (n + 4) := by
  rw [← nI_1 (n + 3), ← nI_1 (n + 2), ← nI_1 (n + 1), ← nI_1 n, Int32.add_assoc, Int32.add_assoc, Int32.add_assoc]; rfl
theorem sNm_by (t : List Nat) (ht : ∀ i, t.getD i 0 < 256) : ∀ (m q : Nat) (acc : List Nat), (∀ i, acc.getD i 0 < 256) → ∀ i, (sNm t m q acc).2.2.getD i 0 < 256 := by
  intro m
  induction m with
  | zero => intro q acc h; exact h
  | succ m ih =>
    intro q acc h
    rw [sNm]
    repeat' split
    all_goals first | exact h | exact ih _ _ (snoc_by h (ht _))
theorem sNa_by {t : List Nat} (ht : ∀ i, t.getD i 0 < 256) (q : Nat) : ∀ i, (sNa t q).2.2.getD i 0 < 256 := by
  unfold sNa
  split
  · exact sNm_by t ht _ _ _ nil_by
  · exact nil_by
theorem gd_app {a b : List Nat} {i : Nat} (h : i < a.length) : (a ++ b).getD i 0 = a.getD i 0 := by
  rw [List.getD_eq_getElem?_getD, List.getElem?_append_left h, ← List.getD_eq_getElem?_getD]
/-- the draft is cut -/
theorem RS.cut {σ0 σ : Nat → Int32} {τ0 τ : Nat → Nat → Int32} {t d e : List Nat} {p k q db n : Nat} (h : RS σ0 τ0 t p (d ++ e) k q db σ τ) (hn : n = d.length) : RS σ0 τ0 t p d k q db (upd σ 10 (nI n)) τ := by
  obtain ⟨h1, h2, h3, ⟨h4, h5⟩, h6, h7, h8⟩ := h
  subst hn
  exact ⟨h1.upd (by omega), ⟨h2.1, h2.2⟩, h3, ⟨rfl, fun j hj => by rw [h5 j (by rw [List.length_append]; omega), gd_app hj]⟩, h6, h7, h8⟩
/-- the kind that a type's name says -/
def tyk (b : List Nat) : Option Nat := if b = wl 3 then some 3 else if b = wl 4 then some 4 else if b = wl 5 then some 8 else none
def tyO (t : List Nat) (q1 : Nat) (raw : List Nat) (db1 : Nat) (q : Nat) (d : List Nat) (kd qq db : Nat) : Prop := hb t (q1 + 1) = 94 ∧ ∃ b, sNa t (q1 + 1 + 1) = (true, q, b) ∧ ((b = wl 2 ∧ d = [34] ++ raw ++ [34] ∧ kd = 5 ∧ qq = raw.length + 1 ∧ db = db1) ∨ (b ≠ wl 2 ∧ tyk b = some kd ∧ prO raw raw.length d kd ∧ qq = 0 ∧ db = 0) ∨ (b ≠ wl 2 ∧ tyk b = none ∧ d = [34] ++ raw ++ [34] ++ [94] ++ [94] ++ [60] ++ b ++ [62] ∧ kd = 7 ∧ qq = raw.length + 1 ∧ db = db1 + b.length))
def tyF (t : List Nat) (q1 : Nat) (raw : List Nat) (w : Nat) : Prop := (¬ hb t (q1 + 1) = 94 ∧ w = q1 + 1) ∨ (hb t (q1 + 1) = 94 ∧ ∃ b, sNa t (q1 + 1 + 1) = (false, w, b)) ∨ (hb t (q1 + 1) = 94 ∧ w = 0 ∧ ∃ q b kk, sNa t (q1 + 1 + 1) = (true, q, b) ∧ b ≠ wl 2 ∧ tyk b = some kk ∧ ((∃ w, prF raw w) ∨ (∃ q d kd, prO raw q d kd ∧ ¬ (q = raw.length ∧ kd = kk))))
/-- readType's end -/
def tyP (σ0 : Nat → Int32) (τ0 : Nat → Nat → Int32) (t : List Nat) (q1 : Nat) (raw : List Nat) (db1 : Nat) (r : Option Value) (σ' : Nat → Int32) (τ' : Nat → Nat → Int32) : Prop := r = none ∧ ∃ f, (∃ q d kd qq db, tyO t q1 raw db1 q d kd qq db ∧ RS σ0 (va_up τ0 20 f) t q d kd qq db σ' τ') ∨ (∃ w m j, tyF t q1 raw w ∧ RG σ0 (va_up τ0 20 f) t w m j σ' τ' ∧ m ≤ 250 ∧ j ≤ 20)
set_option maxRecDepth 100000 in
set_option maxHeartbeats 2000000 in
theorem rr_type {X : ev_X} {c0 : Nat} {σ0 : Nat → Int32} {τ0 : Nat → Nat → Int32} {t : List Nat} {D0 raw : List Nat} {q db : Nat} {σ : Nat → Int32} {τ : Nat → Nat → Int32} (hX : XS X c0) (h0 : D0 = [34] ++ raw ++ [34]) (hrl : raw.length ≤ 128) (hby : ∀ j, raw.getD j 0 < 256) (hdb : db ≤ 64) (h94 : hb t q = 94) (hS : RS σ0 τ0 t q D0 5 (raw.length + 1) db σ τ) : Rx X c0 m_Mod_readType 0 [.ref (c0 + 16), .int 0, ev_dead] [] σ τ (tyP σ0 τ0 t q raw db) := by
  have hl := hS.z.tl
  have hlt := hb_in (t := t) (q := q) (by rw [h94]; decide)
  have hD0 : D0.length = raw.length + 2 := by rw [h0]; simp only [List.length_append, List.length_cons, List.length_nil]; omega
  have hraw : ∀ j, j < raw.length → D0.getD (j + 1) 0 = raw.getD j 0 := fun j hj => by rw [h0, List.append_assoc]; exact gd_app hj
  refine Rx.go (fun _ => rfl) ?_
  refine Rx.go (fun _ => rfl) ?_
  refine Rx.put rfl (by decide) rfl rfl ?_
  have hS17 := hS.k1 (x := 7)
  refine Rx.go (fun _ => rfl) ?_
  refine Rx.go (fun _ => rfl) ?_
  refine Rx.get rfl rfl ?_
  refine Rx.top (y := nI q) hS17.f16 ?_
  refine Rx.go (fun _ => rfl) ?_
  refine Rx.go (fun _ => rfl) ?_
  refine Rx.top (y := nI (q + 1)) (nI_1 _) ?_
  refine Rx.put rfl (by decide) rfl rfl ?_
  have hS18 := hS17.at1 hlt
  refine Rx.go (fun _ => rfl) ?_
  refine Rx.go (fun _ => rfl) ?_
  refine Rx.callE rfl rfl rfl rfl (rz_here hS18.z) ?_
  show Rx X c0 m_Mod_readType 21 [.ref (c0 + 16), .int 0, ev_dead] [.int (hb t (q + 1)), .ref (c0 + 16)] (upd (upd σ 11 (nI 7)) 16 (nI (q + 1))) τ _
  refine Rx.go (fun _ => rfl) ?_
  refine Rx.go (fun _ => rfl) ?_
  refine Rx.ite (fun c1 => ?_) (fun c1 => ?_)
  · replace c1 : ¬ (hb t (q + 1)) = 94 := of_decide_eq_true c1
    show Rx X c0 m_Mod_readType 30 [.ref (c0 + 16), .int 0, ev_dead] [.ref (c0 + 16)] (upd (upd σ 11 (nI 7)) 16 (nI (q + 1))) τ _
    refine Rx.go (fun _ => rfl) ?_
    refine Rx.callP rfl rfl rfl rfl (rs_ov_f false hS18 (fun h => Bool.false_ne_true h.2)) ?_
    intro σ19 τ19 hS19
    show Rx X c0 m_Mod_readType 34 [.ref (c0 + 16), .int 0, ev_dead] [] σ19 τ19 _
    refine Rx.go (fun _ => rfl) ?_
    refine Rx.go (fun _ => rfl) ?_
    refine Rx.callP rfl rfl rfl rfl (rg_put _ hS19 (by first | omega | (simp only [List.length_append, List.length_cons, List.length_nil]; omega))) ?_
    intro σ20 τ20 hS20
    show Rx X c0 m_Mod_readType 40 [.ref (c0 + 16), .int 0, ev_dead] [] σ20 τ20 _
    refine Rx.go (fun _ => rfl) ?_
    refine Rx.go (fun _ => rfl) ?_
    refine Rx.callP rfl rfl rfl rfl (rg_put _ hS20 (by first | omega | (simp only [List.length_append, List.length_cons, List.length_nil]; omega))) ?_
    intro σ21 τ21 hS21
    show Rx X c0 m_Mod_readType 46 [.ref (c0 + 16), .int 0, ev_dead] [] σ21 τ21 _
    refine Rx.go (fun _ => rfl) ?_
    refine Rx.callE rfl rfl rfl rfl (rg_good hS21) ?_
    show Rx X c0 m_Mod_readType 50 [.ref (c0 + 16), .int 0, ev_dead] [.int 0] σ21 τ21 _
    refine Rx.go (fun _ => rfl) ?_
    show Rx X c0 m_Mod_readType 57 [.ref (c0 + 16), .int 0, ev_dead] [] σ21 τ21 _
    refine Rx.go (fun _ => rfl) ?_
    refine Rx.callE rfl rfl rfl rfl (rg_good hS21) ?_
    show Rx X c0 m_Mod_readType 61 [.ref (c0 + 16), .int 0, ev_dead] [.int 0] σ21 τ21 _
    refine Rx.go (fun _ => rfl) ?_
    show Rx X c0 m_Mod_readType 64 [.ref (c0 + 16), .int 0, ev_dead] [] σ21 τ21 _
    exact Rx.ret rfl rfl ⟨rfl, τ0 20, Or.inr ⟨_, _, _, (Or.inl ⟨c1, rfl⟩), by rw [va_id]; exact hS21, by omega, by omega⟩⟩
  · replace c1 : (hb t (q + 1)) = 94 := Classical.not_not.mp (of_decide_eq_false c1)
    show Rx X c0 m_Mod_readType 26 [.ref (c0 + 16), .int 0, ev_dead] [.ref (c0 + 16)] (upd (upd σ 11 (nI 7)) 16 (nI (q + 1))) τ _
    refine Rx.go (fun _ => rfl) ?_
    refine Rx.go (fun _ => rfl) ?_
    refine Rx.callP rfl rfl rfl rfl (rs_ov_t hS18 (hb_in (by rw [c1]; decide))) ?_
    intro σ22 τ22 hS22
    show Rx X c0 m_Mod_readType 34 [.ref (c0 + 16), .int 0, ev_dead] [] σ22 τ22 _
    refine Rx.go (fun _ => rfl) ?_
    refine Rx.go (fun _ => rfl) ?_
    refine Rx.callP rfl rfl rfl rfl (rs_put 94 hS22 (by first | omega | (simp only [List.length_append, List.length_cons, List.length_nil]; omega))) ?_
    intro σ23 τ23 hS23
    show Rx X c0 m_Mod_readType 40 [.ref (c0 + 16), .int 0, ev_dead] [] σ23 τ23 _
    refine Rx.go (fun _ => rfl) ?_
    refine Rx.go (fun _ => rfl) ?_
    refine Rx.callP rfl rfl rfl rfl (rs_put 94 hS23 (by first | omega | (simp only [List.length_append, List.length_cons, List.length_nil]; omega))) ?_
    intro σ24 τ24 hS24
    show Rx X c0 m_Mod_readType 46 [.ref (c0 + 16), .int 0, ev_dead] [] σ24 τ24 _
    refine Rx.go (fun _ => rfl) ?_
    refine Rx.callE rfl rfl rfl rfl (rz_good hS24.z) ?_
    show Rx X c0 m_Mod_readType 50 [.ref (c0 + 16), .int 0, ev_dead] [.int 1] σ24 τ24 _
    refine Rx.go (fun _ => rfl) ?_
    show Rx X c0 m_Mod_readType 53 [.ref (c0 + 16), .int 0, ev_dead] [] σ24 τ24 _
    refine Rx.go (fun _ => rfl) ?_
    refine Rx.call rfl rfl rfl rfl (rr_name (d0 := D0 ++ [94] ++ [94]) (by simp only [List.length_append, List.length_cons, List.length_nil]; omega) (by omega) hS24) ?_
    rintro v σ25 τ25 ⟨rfl, hq25⟩
    have hbb := sNa_by hS24.z.by (q + 1 + 1)
    have hbl := sNa_l t (q + 1 + 1)
    generalize hN : sNa t (q + 1 + 1) = T at hq25 hbb hbl
    obtain ⟨g, q2, b⟩ := T
    dsimp only at hbb hbl
    cases g
    · rw [if_neg Bool.false_ne_true] at hq25
      obtain ⟨mm, jj, hS25, hmm, hjj⟩ := hq25
      show Rx X c0 m_Mod_readType 57 [.ref (c0 + 16), .int 0, ev_dead] [] σ25 τ25 _
      refine Rx.go (fun _ => rfl) ?_
      refine Rx.callE rfl rfl rfl rfl (rg_good hS25) ?_
      show Rx X c0 m_Mod_readType 61 [.ref (c0 + 16), .int 0, ev_dead] [.int 0] σ25 τ25 _
      refine Rx.go (fun _ => rfl) ?_
      show Rx X c0 m_Mod_readType 64 [.ref (c0 + 16), .int 0, ev_dead] [] σ25 τ25 _
      exact Rx.ret rfl rfl ⟨rfl, τ0 20, Or.inr ⟨_, _, _, (Or.inr (Or.inl ⟨c1, b, hN⟩)), by rw [va_id]; exact hS25, by omega, by omega⟩⟩
    rw [if_pos rfl] at hq25
    dsimp only at hq25
    show Rx X c0 m_Mod_readType 57 [.ref (c0 + 16), .int 0, ev_dead] [] σ25 τ25 _
    refine Rx.go (fun _ => rfl) ?_
    refine Rx.callE rfl rfl rfl rfl (rz_good hq25.z) ?_
    show Rx X c0 m_Mod_readType 61 [.ref (c0 + 16), .int 0, ev_dead] [.int 1] σ25 τ25 _
    refine Rx.go (fun _ => rfl) ?_
    show Rx X c0 m_Mod_readType 65 [.ref (c0 + 16), .int 0, ev_dead] [] σ25 τ25 _
    refine Rx.go (fun _ => rfl) ?_
    refine Rx.get rfl rfl ?_
    refine Rx.top (y := nI (raw.length + 1)) hq25.f12 ?_
    refine Rx.go (fun _ => rfl) ?_
    refine Rx.go (fun _ => rfl) ?_
    refine Rx.top (y := nI (D0 ++ [94] ++ [94] ++ [60]).length) ((nI_4 _).trans (congrArg nI (by simp only [List.length_append, List.length_cons, List.length_nil]; omega))) ?_
    refine Rx.go (fun _ => rfl) ?_
    show Rx X c0 m_Mod_readType 72 [.ref (c0 + 16), .int 0, .int (nI (D0 ++ [94] ++ [94] ++ [60]).length)] [] σ25 τ25 _
    refine Rx.go (fun _ => rfl) ?_
    refine Rx.go (fun _ => rfl) ?_
    refine Rx.go (fun _ => rfl) ?_
    refine Rx.callE rfl rfl rfl rfl (rr_wa hX (k := 2) (by decide) (E := D0 ++ [94] ++ [94] ++ [60]) (b := b) (by simp only [List.length_append, List.length_cons, List.length_nil]; omega) hbb hq25) ?_
    show Rx X c0 m_Mod_readType 79 [.ref (c0 + 16), .int 0, .int (nI (D0 ++ [94] ++ [94] ++ [60]).length)] [.int (bi (decide (b = wl 2)))] σ25 τ25 _
    refine Rx.go (fun _ => rfl) ?_
    refine Rx.ite (fun c2 => ?_) (fun c2 => ?_)
    · replace c2 : (decide (b = wl 2)) = false := bi_eqt c2
      show Rx X c0 m_Mod_readType 110 [.ref (c0 + 16), .int 0, .int (nI (D0 ++ [94] ++ [94] ++ [60]).length)] [] σ25 τ25 _
      refine Rx.go (fun _ => rfl) ?_
      refine Rx.go (fun _ => rfl) ?_
      refine Rx.go (fun _ => rfl) ?_
      refine Rx.callE rfl rfl rfl rfl (rr_wa hX (k := 3) (by decide) (E := D0 ++ [94] ++ [94] ++ [60]) (b := b) (by simp only [List.length_append, List.length_cons, List.length_nil]; omega) hbb hq25) ?_
      show Rx X c0 m_Mod_readType 117 [.ref (c0 + 16), .int 0, .int (nI (D0 ++ [94] ++ [94] ++ [60]).length)] [.int (bi (decide (b = wl 3)))] σ25 τ25 _
      refine Rx.go (fun _ => rfl) ?_
      refine Rx.ite (fun c3 => ?_) (fun c3 => ?_)
      · replace c3 : (decide (b = wl 3)) = false := bi_eqt c3
        show Rx X c0 m_Mod_readType 129 [.ref (c0 + 16), .int 0, .int (nI (D0 ++ [94] ++ [94] ++ [60]).length)] [] σ25 τ25 _
        refine Rx.go (fun _ => rfl) ?_
        refine Rx.go (fun _ => rfl) ?_
        refine Rx.go (fun _ => rfl) ?_
        refine Rx.callE rfl rfl rfl rfl (rr_wa hX (k := 4) (by decide) (E := D0 ++ [94] ++ [94] ++ [60]) (b := b) (by simp only [List.length_append, List.length_cons, List.length_nil]; omega) hbb hq25) ?_
        show Rx X c0 m_Mod_readType 136 [.ref (c0 + 16), .int 0, .int (nI (D0 ++ [94] ++ [94] ++ [60]).length)] [.int (bi (decide (b = wl 4)))] σ25 τ25 _
        refine Rx.go (fun _ => rfl) ?_
        refine Rx.ite (fun c4 => ?_) (fun c4 => ?_)
        · replace c4 : (decide (b = wl 4)) = false := bi_eqt c4
          show Rx X c0 m_Mod_readType 148 [.ref (c0 + 16), .int 0, .int (nI (D0 ++ [94] ++ [94] ++ [60]).length)] [] σ25 τ25 _
          refine Rx.go (fun _ => rfl) ?_
          refine Rx.go (fun _ => rfl) ?_
          refine Rx.go (fun _ => rfl) ?_
          refine Rx.callE rfl rfl rfl rfl (rr_wa hX (k := 5) (by decide) (E := D0 ++ [94] ++ [94] ++ [60]) (b := b) (by simp only [List.length_append, List.length_cons, List.length_nil]; omega) hbb hq25) ?_
          show Rx X c0 m_Mod_readType 155 [.ref (c0 + 16), .int 0, .int (nI (D0 ++ [94] ++ [94] ++ [60]).length)] [.int (bi (decide (b = wl 5)))] σ25 τ25 _
          refine Rx.go (fun _ => rfl) ?_
          refine Rx.ite (fun c5 => ?_) (fun c5 => ?_)
          · replace c5 : (decide (b = wl 5)) = false := bi_eqt c5
            show Rx X c0 m_Mod_readType 165 [.ref (c0 + 16), .int 0, .int (nI (D0 ++ [94] ++ [94] ++ [60]).length)] [] σ25 τ25 _
            exact Rx.ret rfl rfl ⟨rfl, τ0 20, Or.inl ⟨_, _, _, _, _, ⟨c1, b, hN, Or.inr (Or.inr ⟨(of_decide_eq_false c2), (by unfold tyk; rw [if_neg (of_decide_eq_false c3)]; rw [if_neg (of_decide_eq_false c4)]; rw [if_neg (of_decide_eq_false c5)]), by rw [← h0], rfl, rfl, rfl⟩)⟩, by rw [va_id]; exact hq25⟩⟩
          · replace c5 : (decide (b = wl 5)) = true := bi_eqf c5
            show Rx X c0 m_Mod_readType 158 [.ref (c0 + 16), .int 0, .int (nI (D0 ++ [94] ++ [94] ++ [60]).length)] [] σ25 τ25 _
            refine Rx.go (fun _ => rfl) ?_
            refine Rx.go (fun _ => rfl) ?_
            refine Rx.go (fun _ => rfl) ?_
            refine Rx.call rfl rfl rfl rfl (rr_inside (raw := raw) (kk := 8) hX (by simp only [List.length_append, List.length_cons, List.length_nil]; omega) rfl (by simp only [List.length_append, List.length_cons, List.length_nil]; omega) (fun j hj => by rw [List.append_assoc, List.append_assoc, List.append_assoc, List.append_assoc, gd_app (by omega)]; exact hraw j hj) (by omega) hby (by decide) hq25) ?_
            rintro v σ26 τ26 ⟨rfl, f, (⟨d, hO, hR⟩ | ⟨hNo, m, hG, hm⟩)⟩
            · show Rx X c0 m_Mod_readType 165 [.ref (c0 + 16), .int 0, .int (nI (D0 ++ [94] ++ [94] ++ [60]).length)] [] σ26 τ26 _
              exact Rx.ret rfl rfl ⟨rfl, f, Or.inl ⟨_, _, _, _, _, ⟨c1, b, hN, Or.inr (Or.inl ⟨(of_decide_eq_false c2), (by unfold tyk; rw [if_neg (of_decide_eq_false c3)]; rw [if_neg (of_decide_eq_false c4)]; rw [if_pos (of_decide_eq_true c5)]), hO, rfl, rfl⟩)⟩, hR⟩⟩
            · show Rx X c0 m_Mod_readType 165 [.ref (c0 + 16), .int 0, .int (nI (D0 ++ [94] ++ [94] ++ [60]).length)] [] σ26 τ26 _
              exact Rx.ret rfl rfl ⟨rfl, f, Or.inr ⟨_, _, _, Or.inr (Or.inr ⟨c1, rfl, q2, b, 8, hN, (of_decide_eq_false c2), (by unfold tyk; rw [if_neg (of_decide_eq_false c3)]; rw [if_neg (of_decide_eq_false c4)]; rw [if_pos (of_decide_eq_true c5)]), hNo⟩), hG, hm, by omega⟩⟩
        · replace c4 : (decide (b = wl 4)) = true := bi_eqf c4
          show Rx X c0 m_Mod_readType 139 [.ref (c0 + 16), .int 0, .int (nI (D0 ++ [94] ++ [94] ++ [60]).length)] [] σ25 τ25 _
          refine Rx.go (fun _ => rfl) ?_
          refine Rx.go (fun _ => rfl) ?_
          refine Rx.go (fun _ => rfl) ?_
          refine Rx.call rfl rfl rfl rfl (rr_inside (raw := raw) (kk := 4) hX (by simp only [List.length_append, List.length_cons, List.length_nil]; omega) rfl (by simp only [List.length_append, List.length_cons, List.length_nil]; omega) (fun j hj => by rw [List.append_assoc, List.append_assoc, List.append_assoc, List.append_assoc, gd_app (by omega)]; exact hraw j hj) (by omega) hby (by decide) hq25) ?_
          rintro v σ27 τ27 ⟨rfl, f, (⟨d, hO, hR⟩ | ⟨hNo, m, hG, hm⟩)⟩
          · show Rx X c0 m_Mod_readType 145 [.ref (c0 + 16), .int 0, .int (nI (D0 ++ [94] ++ [94] ++ [60]).length)] [] σ27 τ27 _
            refine Rx.go (fun _ => rfl) ?_
            exact Rx.ret rfl rfl ⟨rfl, f, Or.inl ⟨_, _, _, _, _, ⟨c1, b, hN, Or.inr (Or.inl ⟨(of_decide_eq_false c2), (by unfold tyk; rw [if_neg (of_decide_eq_false c3)]; rw [if_pos (of_decide_eq_true c4)]), hO, rfl, rfl⟩)⟩, hR⟩⟩
          · show Rx X c0 m_Mod_readType 145 [.ref (c0 + 16), .int 0, .int (nI (D0 ++ [94] ++ [94] ++ [60]).length)] [] σ27 τ27 _
            refine Rx.go (fun _ => rfl) ?_
            exact Rx.ret rfl rfl ⟨rfl, f, Or.inr ⟨_, _, _, Or.inr (Or.inr ⟨c1, rfl, q2, b, 4, hN, (of_decide_eq_false c2), (by unfold tyk; rw [if_neg (of_decide_eq_false c3)]; rw [if_pos (of_decide_eq_true c4)]), hNo⟩), hG, hm, by omega⟩⟩
      · replace c3 : (decide (b = wl 3)) = true := bi_eqf c3
        show Rx X c0 m_Mod_readType 120 [.ref (c0 + 16), .int 0, .int (nI (D0 ++ [94] ++ [94] ++ [60]).length)] [] σ25 τ25 _
        refine Rx.go (fun _ => rfl) ?_
        refine Rx.go (fun _ => rfl) ?_
        refine Rx.go (fun _ => rfl) ?_
        refine Rx.call rfl rfl rfl rfl (rr_inside (raw := raw) (kk := 3) hX (by simp only [List.length_append, List.length_cons, List.length_nil]; omega) rfl (by simp only [List.length_append, List.length_cons, List.length_nil]; omega) (fun j hj => by rw [List.append_assoc, List.append_assoc, List.append_assoc, List.append_assoc, gd_app (by omega)]; exact hraw j hj) (by omega) hby (by decide) hq25) ?_
        rintro v σ28 τ28 ⟨rfl, f, (⟨d, hO, hR⟩ | ⟨hNo, m, hG, hm⟩)⟩
        · show Rx X c0 m_Mod_readType 126 [.ref (c0 + 16), .int 0, .int (nI (D0 ++ [94] ++ [94] ++ [60]).length)] [] σ28 τ28 _
          refine Rx.go (fun _ => rfl) ?_
          exact Rx.ret rfl rfl ⟨rfl, f, Or.inl ⟨_, _, _, _, _, ⟨c1, b, hN, Or.inr (Or.inl ⟨(of_decide_eq_false c2), (by unfold tyk; rw [if_pos (of_decide_eq_true c3)]), hO, rfl, rfl⟩)⟩, hR⟩⟩
        · show Rx X c0 m_Mod_readType 126 [.ref (c0 + 16), .int 0, .int (nI (D0 ++ [94] ++ [94] ++ [60]).length)] [] σ28 τ28 _
          refine Rx.go (fun _ => rfl) ?_
          exact Rx.ret rfl rfl ⟨rfl, f, Or.inr ⟨_, _, _, Or.inr (Or.inr ⟨c1, rfl, q2, b, 3, hN, (of_decide_eq_false c2), (by unfold tyk; rw [if_pos (of_decide_eq_true c3)]), hNo⟩), hG, hm, by omega⟩⟩
    · replace c2 : (decide (b = wl 2)) = true := bi_eqf c2
      show Rx X c0 m_Mod_readType 82 [.ref (c0 + 16), .int 0, .int (nI (D0 ++ [94] ++ [94] ++ [60]).length)] [] σ25 τ25 _
      refine Rx.go (fun _ => rfl) ?_
      refine Rx.go (fun _ => rfl) ?_
      refine Rx.put rfl (by decide) rfl rfl ?_
      have hS29 := hq25.k1 (x := 5)
      refine Rx.go (fun _ => rfl) ?_
      refine Rx.go (fun _ => rfl) ?_
      refine Rx.get rfl rfl ?_
      refine Rx.top (y := nI (db + b.length)) hS29.f13 ?_
      refine Rx.go (fun _ => rfl) ?_
      refine Rx.go (fun _ => rfl) ?_
      refine Rx.top (y := nI db) (by rw [of_decide_eq_true c2]; exact pk_sub (b := 4) (show 4 ≤ db + (wl 2).length by rw [wl_len]; exact Nat.le_add_left _ _)) ?_
      refine Rx.put rfl (by decide) rfl rfl ?_
      have hS30 := hS29.db1 (x := db)
      refine Rx.go (fun _ => rfl) ?_
      refine Rx.go (fun _ => rfl) ?_
      refine Rx.get rfl rfl ?_
      refine Rx.top (y := nI (raw.length + 1)) hS30.f12 ?_
      refine Rx.go (fun _ => rfl) ?_
      refine Rx.go (fun _ => rfl) ?_
      refine Rx.top (y := nI (raw.length + 1 + 1)) (nI_1 _) ?_
      refine Rx.put rfl (by decide) rfl rfl ?_
      have hS31 := RS.cut (n := raw.length + 1 + 1) (d := D0) (e := [94] ++ [94] ++ [60] ++ b ++ [62]) (by rw [← List.append_assoc, ← List.append_assoc, ← List.append_assoc, ← List.append_assoc]; exact hS30) (by omega)
      refine Rx.go (fun _ => rfl) ?_
      exact Rx.ret rfl rfl ⟨rfl, τ0 20, Or.inl ⟨_, _, _, _, _, ⟨c1, b, hN, Or.inl ⟨(of_decide_eq_true c2), rfl, rfl, rfl, rfl⟩⟩, by rw [va_id]; exact h0 ▸ hS31⟩⟩
end
section
/-! The reference reads a text. (rows laid by wip/whole/rr14.py) -/
theorem by_mem {l : List Nat} : (∀ i, l.getD i 0 < 256) ↔ ∀ x, x ∈ l → x < 256 := by
  constructor
  · intro h x hx
    obtain ⟨i, hi⟩ := List.mem_iff_getElem?.mp hx
    have := h i
    rw [List.getD_eq_getElem?_getD, hi] at this
    exact this
  · intro h i
    rw [List.getD_eq_getElem?_getD]
    cases e : l[i]? with
    | none => exact (by decide : (0 : Nat) < 256)
    | some x => exact h x (List.mem_iff_getElem?.mpr ⟨i, e⟩)
theorem esW_by (b : Nat) (hb : b < 256) : ∀ x, x ∈ esW b → x < 256 := by
  unfold esW
  split
  · decide
  split
  · decide
  split
  · decide
  split
  · decide
  split
  · decide
  · intro x hx
    rw [List.mem_singleton] at hx; omega
theorem fm_by {l : List Nat} (h : ∀ i, l.getD i 0 < 256) : ∀ i, (l.flatMap esW).getD i 0 < 256 := by
  refine by_mem.mpr (fun x hx => ?_)
  obtain ⟨b, hb, hx⟩ := List.mem_flatMap.mp hx
  exact esW_by b (by_mem.mp h b hb) x hx
/-- a reader's end, over what is read (O) and what is a fault (F); outer may be another -/
def rdE (σ0 : Nat → Int32) (τ0 : Nat → Nat → Int32) (t : List Nat) (O : Nat → List Nat → Nat → Nat → Nat → Prop) (F : Nat → Prop) (r : Option Value) (σ' : Nat → Int32) (τ' : Nat → Nat → Int32) : Prop := r = none ∧ ∃ f, (∃ q d kd qq db, O q d kd qq db ∧ RS σ0 (va_up τ0 20 f) t q d kd qq db σ' τ') ∨ (∃ w m j, F w ∧ RG σ0 (va_up τ0 20 f) t w m j σ' τ' ∧ m ≤ 250 ∧ j ≤ 20)
theorem rdE_t {σ0 σ' : Nat → Int32} {τ0 τ' : Nat → Nat → Int32} {t d : List Nat} {O : Nat → List Nat → Nat → Nat → Nat → Prop} {F : Nat → Prop} {q kd qq db : Nat} (h : O q d kd qq db) (hR : RS σ0 τ0 t q d kd qq db σ' τ') : rdE σ0 τ0 t O F none σ' τ' := ⟨rfl, τ0 20, Or.inl ⟨q, d, kd, qq, db, h, by rw [va_id]; exact hR⟩⟩
theorem rdE_f {σ0 σ' : Nat → Int32} {τ0 τ' : Nat → Nat → Int32} {t : List Nat} {O : Nat → List Nat → Nat → Nat → Nat → Prop} {F : Nat → Prop} {w m j : Nat} (h : F w) (hR : RG σ0 τ0 t w m j σ' τ') (hm : m ≤ 250) (hj : j ≤ 20) : rdE σ0 τ0 t O F none σ' τ' := ⟨rfl, τ0 20, Or.inr ⟨w, m, j, h, by rw [va_id]; exact hR, hm, hj⟩⟩
theorem rdE.im {σ0 σ' : Nat → Int32} {τ0 τ' : Nat → Nat → Int32} {t : List Nat} {O O' : Nat → List Nat → Nat → Nat → Nat → Prop} {F F' : Nat → Prop} {r : Option Value} (h : rdE σ0 τ0 t O F r σ' τ') (hO : ∀ q d kd qq db, O q d kd qq db → O' q d kd qq db) (hF : ∀ w, F w → F' w) : rdE σ0 τ0 t O' F' r σ' τ' := by
  obtain ⟨e, f, (⟨q, d, kd, qq, db, h1, h2⟩ | ⟨w, m, j, h1, h2⟩)⟩ := h
  · exact ⟨e, f, Or.inl ⟨q, d, kd, qq, db, hO _ _ _ _ _ h1, h2⟩⟩
  · exact ⟨e, f, Or.inr ⟨w, m, j, hF _ h1, h2⟩⟩
/-- behind a text's quote -/
def t2O (t : List Nat) (q1 : Nat) (raw : List Nat) (ac : Nat) (q : Nat) (d : List Nat) (kd qq db : Nat) : Prop := (hb t q1 = 64 ∧ ∃ b, sT t (t.length - (q1 + 1)) (q1 + 1) 0 true [] = (true, q, b) ∧ d = [34] ++ raw ++ [34] ++ [64] ++ b ∧ kd = 6 ∧ qq = raw.length + 1 ∧ db = ac + b.length) ∨ (hb t q1 = 94 ∧ tyO t q1 raw ac q d kd qq db) ∨ (¬ hb t q1 = 64 ∧ ¬ hb t q1 = 94 ∧ q = q1 ∧ d = [34] ++ raw ++ [34] ∧ kd = 5 ∧ qq = raw.length + 1 ∧ db = ac)
def t2F (t : List Nat) (q1 : Nat) (raw : List Nat) (w : Nat) : Prop := (hb t q1 = 64 ∧ ∃ b, sT t (t.length - (q1 + 1)) (q1 + 1) 0 true [] = (false, w, b)) ∨ (hb t q1 = 94 ∧ tyF t q1 raw w)
def txO (t : List Nat) (q : Nat) (d : List Nat) (kd qq db : Nat) : Prop := ∃ q1 acc, sI t t.length 1 [] = (true, q1, acc) ∧ t2O t q1 (acc.flatMap esW) acc.length q d kd qq db
def txF (t : List Nat) (w : Nat) : Prop := (∃ acc, sI t t.length 1 [] = (false, w, acc)) ∨ ∃ q1 acc, sI t t.length 1 [] = (true, q1, acc) ∧ t2F t q1 (acc.flatMap esW) w
set_option maxRecDepth 100000 in
set_option maxHeartbeats 2000000 in
theorem rr_t95 {X : ev_X} {c0 : Nat} {σ0 : Nat → Int32} {τ0 : Nat → Nat → Int32} {t : List Nat} {raw : List Nat} {q ac : Nat} {σ : Nat → Int32} {τ : Nat → Nat → Int32} (hX : XS X c0) (hrl : raw.length ≤ 128) (hby : ∀ j, raw.getD j 0 < 256) (hac : ac ≤ 64) (h34 : hb t q = 34) (hS : RS σ0 τ0 t q ([34] ++ raw) 5 0 ac σ τ) : Rx X c0 m_Mod_readText 95 [.ref (c0 + 16), .int 0] [] σ τ (rdE σ0 τ0 t (t2O t (q + 1) raw ac) (t2F t (q + 1) raw)) := by
  have hl := hS.z.tl
  have hlt := hb_in (t := t) (q := q) (by rw [h34]; decide)
  refine Rx.go (fun _ => rfl) ?_
  refine Rx.callE rfl rfl rfl rfl (rz_good hS.z) ?_
  show Rx X c0 m_Mod_readText 99 [.ref (c0 + 16), .int 0] [.int 1] σ τ _
  refine Rx.go (fun _ => rfl) ?_
  show Rx X c0 m_Mod_readText 103 [.ref (c0 + 16), .int 0] [] σ τ _
  refine Rx.go (fun _ => rfl) ?_
  refine Rx.go (fun _ => rfl) ?_
  refine Rx.get rfl rfl ?_
  refine Rx.top (y := nI q) hS.f16 ?_
  refine Rx.go (fun _ => rfl) ?_
  refine Rx.go (fun _ => rfl) ?_
  refine Rx.top (y := nI (q + 1)) (nI_1 _) ?_
  refine Rx.put rfl (by decide) rfl rfl ?_
  have hS17 := hS.at1 hlt
  refine Rx.go (fun _ => rfl) ?_
  refine Rx.go (fun _ => rfl) ?_
  refine Rx.get rfl rfl ?_
  refine Rx.top (y := nI (([34] ++ raw).length)) hS17.f10 ?_
  refine Rx.top (y := nI (raw.length + 1)) (congrArg nI (by simp only [List.length_append, List.length_cons, List.length_nil]; omega)) ?_
  refine Rx.put rfl (by decide) rfl rfl ?_
  have hS18 := hS17.q1 (x := (raw.length + 1))
  refine Rx.go (fun _ => rfl) ?_
  refine Rx.go (fun _ => rfl) ?_
  refine Rx.callP rfl rfl rfl rfl (rs_put 34 hS18 (by first | omega | (simp only [List.length_append, List.length_cons, List.length_nil]; omega))) ?_
  intro σ19 τ19 hS19
  show Rx X c0 m_Mod_readText 127 [.ref (c0 + 16), .int 0] [] σ19 τ19 _
  refine Rx.go (fun _ => rfl) ?_
  refine Rx.callE rfl rfl rfl rfl (rz_here hS19.z) ?_
  show Rx X c0 m_Mod_readText 131 [.ref (c0 + 16), .int 0] [.int (hb t (q + 1))] σ19 τ19 _
  refine Rx.go (fun _ => rfl) ?_
  refine Rx.go (fun _ => rfl) ?_
  refine Rx.ite (fun c1 => ?_) (fun c1 => ?_)
  · replace c1 : ¬ (hb t (q + 1)) = 64 := of_decide_eq_true c1
    show Rx X c0 m_Mod_readText 143 [.ref (c0 + 16), .int 0] [] σ19 τ19 _
    refine Rx.go (fun _ => rfl) ?_
    refine Rx.callE rfl rfl rfl rfl (rz_here hS19.z) ?_
    show Rx X c0 m_Mod_readText 147 [.ref (c0 + 16), .int 0] [.int (hb t (q + 1))] σ19 τ19 _
    refine Rx.go (fun _ => rfl) ?_
    refine Rx.go (fun _ => rfl) ?_
    refine Rx.ite (fun c2 => ?_) (fun c2 => ?_)
    · replace c2 : ¬ (hb t (q + 1)) = 94 := of_decide_eq_true c2
      show Rx X c0 m_Mod_readText 157 [.ref (c0 + 16), .int 0] [] σ19 τ19 _
      exact Rx.ret rfl rfl (rdE_t (Or.inr (Or.inr ⟨c1, c2, rfl, rfl, rfl, rfl, rfl⟩)) hS19)
    · replace c2 : (hb t (q + 1)) = 94 := Classical.not_not.mp (of_decide_eq_false c2)
      show Rx X c0 m_Mod_readText 152 [.ref (c0 + 16), .int 0] [] σ19 τ19 _
      refine Rx.go (fun _ => rfl) ?_
      refine Rx.go (fun _ => rfl) ?_
      refine Rx.call rfl rfl rfl rfl (rr_type (raw := raw) hX rfl hrl hby hac c2 hS19) ?_
      intro v σ20 τ20 hT
      obtain ⟨rfl, -⟩ := id hT
      exact Rx.ret rfl rfl (rdE.im (O := tyO t (q + 1) raw ac) (F := tyF t (q + 1) raw) hT (fun _ _ _ _ _ h => Or.inr (Or.inl ⟨c2, h⟩)) (fun _ h => Or.inr ⟨c2, h⟩))
  · replace c1 : (hb t (q + 1)) = 64 := Classical.not_not.mp (of_decide_eq_false c1)
    show Rx X c0 m_Mod_readText 136 [.ref (c0 + 16), .int 0] [] σ19 τ19 _
    refine Rx.go (fun _ => rfl) ?_
    refine Rx.call rfl rfl rfl rfl (rr_tag (by simp only [List.length_append, List.length_cons, List.length_nil]; omega) (by omega) (hb_in (by rw [c1]; decide)) hS19) ?_
    rintro v σ21 τ21 ⟨rfl, hq21⟩
    generalize hN : sT t (t.length - (q + 1 + 1)) (q + 1 + 1) 0 true [] = T at hq21
    obtain ⟨g, q2, b⟩ := T
    cases g
    · rw [if_neg Bool.false_ne_true] at hq21
      obtain ⟨mm, jj, hG, hmm, hjj⟩ := hq21
      exact Rx.go (fun _ => rfl) (Rx.ret rfl rfl (rdE_f (Or.inl ⟨c1, b, hN⟩) hG hmm hjj))
    · rw [if_pos rfl] at hq21
      exact Rx.go (fun _ => rfl) (Rx.ret rfl rfl (rdE_t (Or.inl ⟨c1, b, hN, rfl, rfl, rfl, rfl⟩) hq21))
set_option maxRecDepth 100000 in
set_option maxHeartbeats 2000000 in
theorem rr_text {X : ev_X} {c0 : Nat} {σ0 : Nat → Int32} {τ0 : Nat → Nat → Int32} {t : List Nat} {σ : Nat → Int32} {τ : Nat → Nat → Int32} (hX : XS X c0) (h0 : 0 < t.length) (hS : RZ σ0 τ0 t 0 σ τ) : Rx X c0 m_Mod_readText 0 [.ref (c0 + 16), ev_dead] [] σ τ (rdE σ0 τ0 t (txO t) (txF t)) := by
  have hl := hS.tl
  refine Rx.go (fun _ => rfl) ?_
  refine Rx.get rfl rfl ?_
  refine Rx.top (y := 0) hS.2.1.1 ?_
  refine Rx.go (fun _ => rfl) ?_
  show Rx X c0 m_Mod_readText 5 [.ref (c0 + 16), .int 0] [] σ τ _
  refine Rx.go (fun _ => rfl) ?_
  refine Rx.go (fun _ => rfl) ?_
  refine Rx.callP rfl rfl rfl rfl (rz_begin 5 hS) ?_
  intro σ22 τ22 hS22
  show Rx X c0 m_Mod_readText 10 [.ref (c0 + 16), .int 0] [] σ22 τ22 _
  refine Rx.go (fun _ => rfl) ?_
  refine Rx.go (fun _ => rfl) ?_
  refine Rx.get rfl rfl ?_
  refine Rx.top (y := nI 0) hS22.f16 ?_
  refine Rx.go (fun _ => rfl) ?_
  refine Rx.go (fun _ => rfl) ?_
  refine Rx.top (y := nI (0 + 1)) (nI_1 0) ?_
  refine Rx.put rfl (by decide) rfl rfl ?_
  have hS23 := hS22.at1 h0
  refine Rx.go (fun _ => rfl) ?_
  refine Rx.go (fun _ => rfl) ?_
  refine Rx.callP rfl rfl rfl rfl (rs_put 34 hS23 (by first | omega | (simp only [List.length_append, List.length_cons, List.length_nil]; omega))) ?_
  intro σ24 τ24 hS24
  show Rx X c0 m_Mod_readText 26 [.ref (c0 + 16), .int 0] [] σ24 τ24 _
  show Rx X c0 m_Mod_readText 26 [.ref (c0 + 16), .int 0] [] σ24 τ24 _
  have hby := sI_by t hS.by t.length 1 [] nil_by
  refine rr_it_l (t := t) (o0 := sI t t.length 1 []) 0 ?_ ?_ t.length 1 [] _ _ (by omega) h0 (by decide) rfl hS24
  · intro q acc σ1 τ1 e ha h34 h1
    rw [← e] at hby
    have hR := rr_t95 (raw := acc.flatMap esW) hX (by have := fm_len acc; omega) (fm_by hby) ha h34 h1
    exact hR.mono (fun r σ' τ' h => h.im (fun _ _ _ _ _ h => ⟨_, acc, e.symm, h⟩) (fun _ h => Or.inr ⟨_, acc, e.symm, h⟩))
  · intro w m j acc σ1 τ1 e hG hm hj
    exact rdE_f (Or.inl ⟨acc, e.symm⟩) hG hm hj
end
section
/-! The reference reads a term. (rows laid by wip/whole/rr15.py) -/
/-- a term is read up to q -/
def roO (t : List Nat) (q : Nat) (d : List Nat) (kd qq db : Nat) : Prop := (hb t 0 = 95 ∧ ∃ b, sBk t = (true, q, b) ∧ d = [95, 58] ++ b ∧ kd = 1 ∧ qq = 0 ∧ db = b.length) ∨ (hb t 0 = 60 ∧ ∃ b, sNa t 0 = (true, q, b) ∧ d = [60] ++ b ++ [62] ∧ kd = 2 ∧ qq = 0 ∧ db = b.length) ∨ (hb t 0 = 34 ∧ txO t q d kd qq db) ∨ (prO t q d kd ∧ qq = 0 ∧ db = 0)
def roF (t : List Nat) (w : Nat) : Prop := (hb t 0 = 95 ∧ ∃ b, sBk t = (false, w, b)) ∨ (hb t 0 = 60 ∧ ∃ b, sNa t 0 = (false, w, b)) ∨ (hb t 0 = 34 ∧ txF t w) ∨ (¬ hb t 0 = 95 ∧ ¬ hb t 0 = 60 ∧ ¬ hb t 0 = 34 ∧ prF t w)
set_option maxRecDepth 100000 in
set_option maxHeartbeats 2000000 in
theorem rr_alone {X : ev_X} {c0 : Nat} {σ0 : Nat → Int32} {τ0 : Nat → Nat → Int32} {t : List Nat} {σ : Nat → Int32} {τ : Nat → Nat → Int32} (hS : RZ σ0 τ0 t 0 σ τ) : Rx X c0 m_Mod_readAlone 0 [.ref (c0 + 16)] [] σ τ (rQ σ0 τ0 t (sNa t 0) (fun q b σ' τ' => RS σ0 τ0 t q ([60] ++ b ++ [62]) 2 0 b.length σ' τ')) := by
  refine Rx.go (fun _ => rfl) ?_
  refine Rx.go (fun _ => rfl) ?_
  refine Rx.callP rfl rfl rfl rfl (rz_begin 2 hS) ?_
  intro σ17 τ17 hS17
  show Rx X c0 m_Mod_readAlone 5 [.ref (c0 + 16)] [] σ17 τ17 _
  refine Rx.go (fun _ => rfl) ?_
  refine Rx.call rfl rfl rfl rfl (rr_name (d0 := []) (by decide) (by decide) hS17) ?_
  rintro v σ1 τ1 ⟨rfl, hq⟩
  refine Rx.ret rfl rfl ⟨rfl, ?_⟩
  split at hq
  · next e => rw [if_pos e]; rw [Nat.zero_add] at hq; exact hq
  · next e => rw [if_neg e]; exact hq
set_option maxRecDepth 100000 in
set_option maxHeartbeats 2000000 in
theorem rr_one {X : ev_X} {c0 : Nat} {σ0 : Nat → Int32} {τ0 : Nat → Nat → Int32} {t : List Nat} {D : List Nat} {k qq db : Nat} {σ : Nat → Int32} {τ : Nat → Nat → Int32} (hX : XS X c0) (hD : D.length ≤ 250) (hS : RS σ0 τ0 t 0 D k qq db σ τ) : Rx X c0 m_Mod_readOne 0 [.ref (c0 + 16), ev_dead] [] σ τ (rdE σ0 τ0 t (roO t) (roF t)) := by
  refine Rx.go (fun _ => rfl) ?_
  refine Rx.callE rfl rfl rfl rfl (rz_here hS.z) ?_
  show Rx X c0 m_Mod_readOne 4 [.ref (c0 + 16), ev_dead] [.int (hb t 0)] σ τ _
  refine Rx.go (fun _ => rfl) ?_
  show Rx X c0 m_Mod_readOne 5 [.ref (c0 + 16), .int (hb t 0)] [] σ τ _
  refine Rx.go (fun _ => rfl) ?_
  refine Rx.go (fun _ => rfl) ?_
  refine Rx.go (fun _ => rfl) ?_
  refine Rx.ite (fun c1 => ?_) (fun c1 => ?_)
  · replace c1 : ¬ (hb t 0) = 95 := of_decide_eq_true c1
    show Rx X c0 m_Mod_readOne 18 [.ref (c0 + 16), .int (hb t 0)] [] σ τ _
    refine Rx.go (fun _ => rfl) ?_
    refine Rx.go (fun _ => rfl) ?_
    refine Rx.go (fun _ => rfl) ?_
    refine Rx.ite (fun c2 => ?_) (fun c2 => ?_)
    · replace c2 : ¬ (hb t 0) = 60 := of_decide_eq_true c2
      show Rx X c0 m_Mod_readOne 31 [.ref (c0 + 16), .int (hb t 0)] [] σ τ _
      refine Rx.go (fun _ => rfl) ?_
      refine Rx.go (fun _ => rfl) ?_
      refine Rx.go (fun _ => rfl) ?_
      refine Rx.ite (fun c3 => ?_) (fun c3 => ?_)
      · replace c3 : ¬ (hb t 0) = 34 := of_decide_eq_true c3
        show Rx X c0 m_Mod_readOne 44 [.ref (c0 + 16), .int (hb t 0)] [] σ τ _
        refine Rx.go (fun _ => rfl) ?_
        refine Rx.go (fun _ => rfl) ?_
        refine Rx.go (fun _ => rfl) ?_
        refine Rx.ite (fun c4 => ?_) (fun c4 => ?_)
        · replace c4 : (hb t 0) = 43 := of_decide_eq_true c4
          show Rx X c0 m_Mod_readOne 69 [.ref (c0 + 16), .int (hb t 0)] [] σ τ _
          refine Rx.go (fun _ => rfl) ?_
          have hB : nuB t := Or.inl c4
          refine Rx.call rfl rfl rfl rfl (rr_number hD hS) ?_
          rintro v σ18 τ18 ⟨rfl, hq18⟩
          obtain ⟨w, m, j, hn, hG, hm, hj⟩ | ⟨q, ds, bf, L, hO, ht, h18, (⟨h9, hG⟩ | ⟨h9, g, hg, hR⟩)⟩ := hq18
          · exact Rx.go (fun _ => rfl) (Rx.ret rfl rfl (rdE_f (Or.inr (Or.inr (Or.inr ⟨c1, c2, c3, (Or.inr (Or.inl ⟨hB, Or.inl hn⟩))⟩))) hG hm (by omega)))
          · exact Rx.go (fun _ => rfl) (Rx.ret rfl rfl (rdE_f (Or.inr (Or.inr (Or.inr ⟨c1, c2, c3, (Or.inr (Or.inl ⟨hB, Or.inr ⟨rfl, q, ds, bf, L, hO, ht, h18, h9⟩⟩))⟩))) hG (Nat.zero_le _) (by omega)))
          · exact Rx.go (fun _ => rfl) (Rx.ret rfl rfl (rdE_t (Or.inr (Or.inr (Or.inr ⟨(Or.inr ⟨hB, ds, bf, L, g, hO, ht, h18, h9, hg, rfl, rfl⟩), rfl, rfl⟩))) hR))
        · replace c4 : ¬ (hb t 0) = 43 := of_decide_eq_false c4
          show Rx X c0 m_Mod_readOne 50 [.ref (c0 + 16), .int (hb t 0)] [] σ τ _
          refine Rx.go (fun _ => rfl) ?_
          refine Rx.go (fun _ => rfl) ?_
          refine Rx.go (fun _ => rfl) ?_
          refine Rx.ite (fun c5 => ?_) (fun c5 => ?_)
          · replace c5 : (hb t 0) = 45 := of_decide_eq_true c5
            show Rx X c0 m_Mod_readOne 69 [.ref (c0 + 16), .int (hb t 0)] [] σ τ _
            refine Rx.go (fun _ => rfl) ?_
            have hB : nuB t := Or.inr (Or.inl c5)
            refine Rx.call rfl rfl rfl rfl (rr_number hD hS) ?_
            rintro v σ19 τ19 ⟨rfl, hq19⟩
            obtain ⟨w, m, j, hn, hG, hm, hj⟩ | ⟨q, ds, bf, L, hO, ht, h18, (⟨h9, hG⟩ | ⟨h9, g, hg, hR⟩)⟩ := hq19
            · exact Rx.go (fun _ => rfl) (Rx.ret rfl rfl (rdE_f (Or.inr (Or.inr (Or.inr ⟨c1, c2, c3, (Or.inr (Or.inl ⟨hB, Or.inl hn⟩))⟩))) hG hm (by omega)))
            · exact Rx.go (fun _ => rfl) (Rx.ret rfl rfl (rdE_f (Or.inr (Or.inr (Or.inr ⟨c1, c2, c3, (Or.inr (Or.inl ⟨hB, Or.inr ⟨rfl, q, ds, bf, L, hO, ht, h18, h9⟩⟩))⟩))) hG (Nat.zero_le _) (by omega)))
            · exact Rx.go (fun _ => rfl) (Rx.ret rfl rfl (rdE_t (Or.inr (Or.inr (Or.inr ⟨(Or.inr ⟨hB, ds, bf, L, g, hO, ht, h18, h9, hg, rfl, rfl⟩), rfl, rfl⟩))) hR))
          · replace c5 : ¬ (hb t 0) = 45 := of_decide_eq_false c5
            show Rx X c0 m_Mod_readOne 56 [.ref (c0 + 16), .int (hb t 0)] [] σ τ _
            refine Rx.go (fun _ => rfl) ?_
            refine Rx.go (fun _ => rfl) ?_
            refine Rx.go (fun _ => rfl) ?_
            refine Rx.ite (fun c6 => ?_) (fun c6 => ?_)
            · replace c6 : (hb t 0) = 46 := of_decide_eq_true c6
              show Rx X c0 m_Mod_readOne 69 [.ref (c0 + 16), .int (hb t 0)] [] σ τ _
              refine Rx.go (fun _ => rfl) ?_
              have hB : nuB t := Or.inr (Or.inr (Or.inl c6))
              refine Rx.call rfl rfl rfl rfl (rr_number hD hS) ?_
              rintro v σ20 τ20 ⟨rfl, hq20⟩
              obtain ⟨w, m, j, hn, hG, hm, hj⟩ | ⟨q, ds, bf, L, hO, ht, h18, (⟨h9, hG⟩ | ⟨h9, g, hg, hR⟩)⟩ := hq20
              · exact Rx.go (fun _ => rfl) (Rx.ret rfl rfl (rdE_f (Or.inr (Or.inr (Or.inr ⟨c1, c2, c3, (Or.inr (Or.inl ⟨hB, Or.inl hn⟩))⟩))) hG hm (by omega)))
              · exact Rx.go (fun _ => rfl) (Rx.ret rfl rfl (rdE_f (Or.inr (Or.inr (Or.inr ⟨c1, c2, c3, (Or.inr (Or.inl ⟨hB, Or.inr ⟨rfl, q, ds, bf, L, hO, ht, h18, h9⟩⟩))⟩))) hG (Nat.zero_le _) (by omega)))
              · exact Rx.go (fun _ => rfl) (Rx.ret rfl rfl (rdE_t (Or.inr (Or.inr (Or.inr ⟨(Or.inr ⟨hB, ds, bf, L, g, hO, ht, h18, h9, hg, rfl, rfl⟩), rfl, rfl⟩))) hR))
            · replace c6 : ¬ (hb t 0) = 46 := of_decide_eq_false c6
              show Rx X c0 m_Mod_readOne 62 [.ref (c0 + 16), .int (hb t 0)] [] σ τ _
              refine Rx.go (fun _ => rfl) ?_
              refine Rx.scallE rfl rfl rfl rfl (sx_Mod_isDigit X (hb t 0)) ?_
              show Rx X c0 m_Mod_readOne 66 [.ref (c0 + 16), .int (hb t 0)] [.int (bi (isD (hb t 0)))] σ τ _
              refine Rx.go (fun _ => rfl) ?_
              refine Rx.ite (fun c7 => ?_) (fun c7 => ?_)
              · replace c7 : (isD (hb t 0)) = false := bi_eqt c7
                show Rx X c0 m_Mod_readOne 76 [.ref (c0 + 16), .int (hb t 0)] [] σ τ _
                refine Rx.go (fun _ => rfl) ?_
                refine Rx.go (fun _ => rfl) ?_
                refine Rx.go (fun _ => rfl) ?_
                refine Rx.ite (fun c8 => ?_) (fun c8 => ?_)
                · replace c8 : (hb t 0) = 116 := of_decide_eq_true c8
                  show Rx X c0 m_Mod_readOne 88 [.ref (c0 + 16), .int (hb t 0)] [] σ τ _
                  refine Rx.go (fun _ => rfl) ?_
                  refine Rx.go (fun _ => rfl) ?_
                  refine Rx.go (fun _ => rfl) ?_
                  refine Rx.go (fun _ => rfl) ?_
                  refine Rx.ite (fun c9 => ?_) (fun c9 => ?_)
                  · replace c9 : ¬ (hb t 0) = 116 := of_decide_eq_true c9
                    exact absurd c8 c9
                  · replace c9 : (hb t 0) = 116 := Classical.not_not.mp (of_decide_eq_false c9)
                    show Rx X c0 m_Mod_readOne 95 [.ref (c0 + 16), .int (hb t 0)] [.ref (c0 + 16)] σ τ _
                    refine Rx.go (fun _ => rfl) ?_
                    refine Rx.go (fun _ => rfl) ?_
                    refine Rx.call rfl rfl rfl rfl (rr_truth0 hX hS.z) ?_
                    rintro v σ21 τ21 ⟨rfl, hq21⟩
                    replace hq21 : if (trO t 0).1 = true then (trO t 0).2.1 = wlen 0 ∧ RS σ0 τ0 t (wlen 0) (wl 0) 8 0 0 σ21 τ21 else ∃ m j, RG σ0 τ0 t (trO t 0).2.1 m j σ21 τ21 ∧ m ≤ 250 ∧ j ≤ 20 := hq21
                    generalize hT21 : trO t 0 = T at hq21
                    obtain ⟨b, w, u⟩ := T
                    cases b
                    · rw [if_neg Bool.false_ne_true] at hq21
                      obtain ⟨m, j, hG, hm, hj⟩ := hq21
                      exact Rx.go (fun _ => rfl) (Rx.ret rfl rfl (rdE_f (Or.inr (Or.inr (Or.inr ⟨c1, c2, c3, (Or.inl ⟨0, Or.inl ⟨rfl, c8⟩, hT21⟩)⟩))) hG hm (by omega)))
                    · rw [if_pos rfl] at hq21
                      obtain ⟨e, hO⟩ := hq21
                      dsimp only at e
                      subst e
                      exact Rx.go (fun _ => rfl) (Rx.ret rfl rfl (rdE_t (Or.inr (Or.inr (Or.inr ⟨(Or.inl ⟨0, Or.inl ⟨rfl, c8⟩, hT21, rfl, rfl, rfl⟩), rfl, rfl⟩))) hO))
                · replace c8 : ¬ (hb t 0) = 116 := of_decide_eq_false c8
                  show Rx X c0 m_Mod_readOne 82 [.ref (c0 + 16), .int (hb t 0)] [] σ τ _
                  refine Rx.go (fun _ => rfl) ?_
                  refine Rx.go (fun _ => rfl) ?_
                  refine Rx.go (fun _ => rfl) ?_
                  refine Rx.ite (fun c10 => ?_) (fun c10 => ?_)
                  · replace c10 : ¬ (hb t 0) = 102 := of_decide_eq_true c10
                    show Rx X c0 m_Mod_readOne 106 [.ref (c0 + 16), .int (hb t 0)] [] σ τ _
                    refine Rx.go (fun _ => rfl) ?_
                    refine Rx.go (fun _ => rfl) ?_
                    refine Rx.go (fun _ => rfl) ?_
                    refine Rx.get rfl rfl ?_
                    refine Rx.top (y := nI 0) hS.f16 ?_
                    refine Rx.callP rfl rfl rfl rfl (rs_fl (wn := 0) hS (by decide) rfl) ?_
                    intro σ22 τ22 hS22
                    exact Rx.ret rfl rfl (rdE_f (Or.inr (Or.inr (Or.inr ⟨c1, c2, c3, Or.inr (Or.inr ⟨rfl, c8, c10, fun h => h.elim c4 (fun h => h.elim c5 (fun h => h.elim c6 (fun h => Bool.noConfusion (c7.symm.trans h))))⟩)⟩))) hS22 hD (by omega))
                  · replace c10 : (hb t 0) = 102 := Classical.not_not.mp (of_decide_eq_false c10)
                    show Rx X c0 m_Mod_readOne 88 [.ref (c0 + 16), .int (hb t 0)] [] σ τ _
                    refine Rx.go (fun _ => rfl) ?_
                    refine Rx.go (fun _ => rfl) ?_
                    refine Rx.go (fun _ => rfl) ?_
                    refine Rx.go (fun _ => rfl) ?_
                    refine Rx.ite (fun c11 => ?_) (fun c11 => ?_)
                    · replace c11 : ¬ (hb t 0) = 116 := of_decide_eq_true c11
                      show Rx X c0 m_Mod_readOne 99 [.ref (c0 + 16), .int (hb t 0)] [.ref (c0 + 16)] σ τ _
                      refine Rx.go (fun _ => rfl) ?_
                      refine Rx.call rfl rfl rfl rfl (rr_truth1 hX hS.z) ?_
                      rintro v σ23 τ23 ⟨rfl, hq23⟩
                      replace hq23 : if (trO t 1).1 = true then (trO t 1).2.1 = wlen 1 ∧ RS σ0 τ0 t (wlen 1) (wl 1) 8 0 0 σ23 τ23 else ∃ m j, RG σ0 τ0 t (trO t 1).2.1 m j σ23 τ23 ∧ m ≤ 250 ∧ j ≤ 20 := hq23
                      generalize hT23 : trO t 1 = T at hq23
                      obtain ⟨b, w, u⟩ := T
                      cases b
                      · rw [if_neg Bool.false_ne_true] at hq23
                        obtain ⟨m, j, hG, hm, hj⟩ := hq23
                        exact Rx.go (fun _ => rfl) (Rx.ret rfl rfl (rdE_f (Or.inr (Or.inr (Or.inr ⟨c1, c2, c3, (Or.inl ⟨1, Or.inr ⟨rfl, c10⟩, hT23⟩)⟩))) hG hm (by omega)))
                      · rw [if_pos rfl] at hq23
                        obtain ⟨e, hO⟩ := hq23
                        dsimp only at e
                        subst e
                        exact Rx.go (fun _ => rfl) (Rx.ret rfl rfl (rdE_t (Or.inr (Or.inr (Or.inr ⟨(Or.inl ⟨1, Or.inr ⟨rfl, c10⟩, hT23, rfl, rfl, rfl⟩), rfl, rfl⟩))) hO))
                    · replace c11 : (hb t 0) = 116 := Classical.not_not.mp (of_decide_eq_false c11)
                      exact absurd c11 c8
              · replace c7 : (isD (hb t 0)) = true := bi_eqf c7
                show Rx X c0 m_Mod_readOne 69 [.ref (c0 + 16), .int (hb t 0)] [] σ τ _
                refine Rx.go (fun _ => rfl) ?_
                have hB : nuB t := Or.inr (Or.inr (Or.inr c7))
                refine Rx.call rfl rfl rfl rfl (rr_number hD hS) ?_
                rintro v σ24 τ24 ⟨rfl, hq24⟩
                obtain ⟨w, m, j, hn, hG, hm, hj⟩ | ⟨q, ds, bf, L, hO, ht, h18, (⟨h9, hG⟩ | ⟨h9, g, hg, hR⟩)⟩ := hq24
                · exact Rx.go (fun _ => rfl) (Rx.ret rfl rfl (rdE_f (Or.inr (Or.inr (Or.inr ⟨c1, c2, c3, (Or.inr (Or.inl ⟨hB, Or.inl hn⟩))⟩))) hG hm (by omega)))
                · exact Rx.go (fun _ => rfl) (Rx.ret rfl rfl (rdE_f (Or.inr (Or.inr (Or.inr ⟨c1, c2, c3, (Or.inr (Or.inl ⟨hB, Or.inr ⟨rfl, q, ds, bf, L, hO, ht, h18, h9⟩⟩))⟩))) hG (Nat.zero_le _) (by omega)))
                · exact Rx.go (fun _ => rfl) (Rx.ret rfl rfl (rdE_t (Or.inr (Or.inr (Or.inr ⟨(Or.inr ⟨hB, ds, bf, L, g, hO, ht, h18, h9, hg, rfl, rfl⟩), rfl, rfl⟩))) hR))
      · replace c3 : (hb t 0) = 34 := Classical.not_not.mp (of_decide_eq_false c3)
        show Rx X c0 m_Mod_readOne 37 [.ref (c0 + 16), .int (hb t 0)] [] σ τ _
        refine Rx.go (fun _ => rfl) ?_
        refine Rx.call rfl rfl rfl rfl (rr_text hX (hb_in (q := 0) (by rw [c3]; decide)) hS.z) ?_
        intro v σ1 τ1 hT
        obtain ⟨rfl, -⟩ := id hT
        exact Rx.go (fun _ => rfl) (Rx.ret rfl rfl (hT.im (fun _ _ _ _ _ h => Or.inr (Or.inr (Or.inl ⟨c3, h⟩))) (fun _ h => Or.inr (Or.inr (Or.inl ⟨c3, h⟩)))))
    · replace c2 : (hb t 0) = 60 := Classical.not_not.mp (of_decide_eq_false c2)
      show Rx X c0 m_Mod_readOne 24 [.ref (c0 + 16), .int (hb t 0)] [] σ τ _
      refine Rx.go (fun _ => rfl) ?_
      refine Rx.call rfl rfl rfl rfl (rr_alone hS.z) ?_
      rintro v σ25 τ25 ⟨rfl, hq25⟩
      generalize hN : sNa t 0 = T at hq25
      obtain ⟨g, q2, b⟩ := T
      cases g
      · rw [if_neg Bool.false_ne_true] at hq25
        obtain ⟨mm, jj, hG, hmm, hjj⟩ := hq25
        exact Rx.go (fun _ => rfl) (Rx.ret rfl rfl (rdE_f (Or.inr (Or.inl ⟨c2, b, hN⟩)) hG hmm hjj))
      · rw [if_pos rfl] at hq25
        exact Rx.go (fun _ => rfl) (Rx.ret rfl rfl (rdE_t (Or.inr (Or.inl ⟨c2, b, hN, rfl, rfl, rfl, rfl⟩)) hq25))
  · replace c1 : (hb t 0) = 95 := Classical.not_not.mp (of_decide_eq_false c1)
    show Rx X c0 m_Mod_readOne 11 [.ref (c0 + 16), .int (hb t 0)] [] σ τ _
    refine Rx.go (fun _ => rfl) ?_
    refine Rx.call rfl rfl rfl rfl (rr_blank (hb_in (q := 0) (by rw [c1]; decide)) hS.z) ?_
    rintro v σ26 τ26 ⟨rfl, hq26⟩
    generalize hN : sBk t = T at hq26
    obtain ⟨g, q2, b⟩ := T
    cases g
    · rw [if_neg Bool.false_ne_true] at hq26
      obtain ⟨mm, jj, hG, hmm, hjj⟩ := hq26
      exact Rx.go (fun _ => rfl) (Rx.ret rfl rfl (rdE_f (Or.inl ⟨c1, b, hN⟩) hG hmm hjj))
    · rw [if_pos rfl] at hq26
      exact Rx.go (fun _ => rfl) (Rx.ret rfl rfl (rdE_t (Or.inl ⟨c1, b, hN, rfl, rfl, rfl, rfl⟩) hq26))
end
section
/-! The reference reads its tape. (rows laid by wip/whole/rr16.py) -/
theorem nI_any (x : Int32) : ∃ n, x = nI n := ⟨x.toBitVec.toNat, Int32.toBitVec_inj.mp (by simp [nI])⟩
/-- the reference between two calls: its table, its tape, the sum of items, the place, what is shown -/
def RC (ts : RT) (t : List Nat) (u pl : Nat) (sh : List Nat) (σ : Nat → Int32) (τ : Nat → Nat → Int32) : Prop := rt σ τ ts ∧ (σ 1 = nI t.length ∧ t.length ≤ 240 ∧ (∀ j, j < t.length → τ 0 j = nI (t.getD j 0)) ∧ ∀ j, t.getD j 0 < 256) ∧ (σ 8 = nI u ∧ u ≤ 40000) ∧ shw σ τ sh ∧ σ 2 = nI pl ∧ ∃ m, σ 10 = nI m ∧ m ≤ 250
theorem RC.rs {ts : RT} {t sh : List Nat} {u pl : Nat} {σ : Nat → Int32} {τ : Nat → Nat → Int32} (h : RC ts t u pl sh σ τ) : ∃ D k qq db, D.length ≤ 250 ∧ RS σ τ t 0 D k qq db (upd (upd (upd σ 16 0) 17 (nI t.length)) 18 0) τ := by
  obtain ⟨-, ⟨h1, h2, h3, h4⟩, -, -, -, m, h10, hm⟩ := h
  obtain ⟨k, hk⟩ := nI_any (σ 11)
  obtain ⟨q, hq⟩ := nI_any (σ 12)
  obtain ⟨db, hdb⟩ := nI_any (σ 13)
  have hf : ∀ j, ∃ n, τ 9 j = nI n := fun j => nI_any _
  obtain ⟨g, hg⟩ := Classical.axiomOfChoice hf
  refine ⟨(List.range m).map g, k, q, db, by simp; omega, ⟨⟨rfl, rfl, rfl, rfl, rfl⟩, ⟨rfl, rfl, rfl, rfl, rfl, rfl⟩, h3, h2, h4, rfl⟩, ⟨rfl, Nat.zero_le _⟩, rfl, ⟨?_, fun j hj => ?_⟩, hk, hq, hdb⟩
  · rw [List.length_map, List.length_range]; exact h10
  · rw [List.length_map, List.length_range] at hj
    rw [hg j, List.getD_eq_getElem?_getD, List.getElem?_map, List.getElem?_range hj]; rfl
/-- readAll's end -/
def raP (σ : Nat → Int32) (τ : Nat → Nat → Int32) (t : List Nat) (r : Option Value) (σ' : Nat → Int32) (τ' : Nat → Nat → Int32) : Prop := ∃ f σ1, (r = some (.int 1) ∧ ∃ d kd qq db, roO t t.length d kd qq db ∧ RS σ (va_up τ 20 f) t t.length d kd qq db σ1 τ' ∧ σ' = upd (upd σ1 2 (nI t.length)) 1 0) ∨ (r = some (.int 0) ∧ ∃ w m j, (roF t w ∨ ∃ d kd qq db, roO t w d kd qq db ∧ w < t.length) ∧ RG σ (va_up τ 20 f) t w m j σ1 τ' ∧ m ≤ 250 ∧ j ≤ 20 ∧ σ' = upd (upd σ1 2 (nI w)) 1 0)
theorem roO_len {t d : List Nat} {q kd qq db : Nat} (h : roO t q d kd qq db) : d.length ≤ 250 ∧ kd < 16 ∧ qq ≤ 260 ∧ db ≤ 1000 := by
  obtain ⟨-, b, e, rfl, rfl, rfl, rfl⟩ | ⟨-, b, e, rfl, rfl, rfl, rfl⟩ | ⟨-, q1, acc, e1, h2⟩ | ⟨h, rfl, rfl⟩ := h
  · have := sBk_l t; rw [e] at this; simp only [List.length_append, List.length_cons, List.length_nil] at this ⊢; omega
  · have := sNa_l t 0; rw [e] at this; simp only [List.length_append, List.length_cons, List.length_nil] at this ⊢; omega
  · have hl := sI_l t t.length 1 [] (by decide)
    rw [e1] at hl
    have hr := fm_len acc
    dsimp only at hl
    obtain ⟨-, b, e, rfl, rfl, rfl, rfl⟩ | ⟨-, -, b, e, h3⟩ | ⟨-, -, -, rfl, rfl, rfl, rfl⟩ := h2
    · have := sT_l t (t.length - (q1 + 1)) (q1 + 1) 0 true [] (by decide); rw [e] at this; simp only [List.length_append, List.length_cons, List.length_nil] at this ⊢; omega
    · have := sNa_l t (q1 + 1 + 1); rw [e] at this
      obtain ⟨-, rfl, rfl, rfl, rfl⟩ | ⟨-, -, h4, rfl, rfl⟩ | ⟨-, -, rfl, rfl, rfl, rfl⟩ := h3
      · simp only [List.length_append, List.length_cons, List.length_nil] at this ⊢; omega
      · have := prO_len h4; have := prO_kd h4; omega
      · simp only [List.length_append, List.length_cons, List.length_nil] at this ⊢; omega
    · simp only [List.length_append, List.length_cons, List.length_nil]; omega
  · have := prO_len h; have := prO_kd h; omega
set_option maxRecDepth 100000 in
set_option maxHeartbeats 2000000 in
theorem rr_all {X : ev_X} {c0 : Nat} {ts : RT} {t sh : List Nat} {u pl : Nat} {σ : Nat → Int32} {τ : Nat → Nat → Int32} (hX : XS X c0) (hC : RC ts t u pl sh σ τ) : Rx X c0 m_Mod_readAll 0 [.ref (c0 + 16)] [] σ τ (raP σ τ t) := by
  have hl := hC.2.1.2.1
  refine Rx.go (fun _ => rfl) ?_
  refine Rx.go (fun _ => rfl) ?_
  refine Rx.put rfl (by decide) rfl rfl ?_
  refine Rx.go (fun _ => rfl) ?_
  refine Rx.go (fun _ => rfl) ?_
  refine Rx.get rfl rfl ?_
  refine Rx.top (y := nI t.length) hC.2.1.1 ?_
  refine Rx.put rfl (by decide) rfl rfl ?_
  refine Rx.go (fun _ => rfl) ?_
  refine Rx.go (fun _ => rfl) ?_
  refine Rx.put rfl (by decide) rfl rfl ?_
  refine Rx.go (fun _ => rfl) ?_
  obtain ⟨D, k, qq, db, hD, hS⟩ := hC.rs
  refine Rx.call rfl rfl rfl rfl (rr_one hX hD hS) ?_
  rintro v σ1 τ1 ⟨rfl, f, (⟨q, d, kd, qq2, db2, hO, hR⟩ | ⟨wn, m, j, hF, hG, hm, hj⟩)⟩
  · show Rx X c0 m_Mod_readAll 22 [.ref (c0 + 16)] [] σ1 τ1 _
    refine Rx.go (fun _ => rfl) ?_
    refine Rx.callE rfl rfl rfl rfl (rz_good hR.z) ?_
    show Rx X c0 m_Mod_readAll 26 [.ref (c0 + 16)] [.int 1] σ1 τ1 _
    refine Rx.go (fun _ => rfl) ?_
    show Rx X c0 m_Mod_readAll 29 [.ref (c0 + 16)] [] σ1 τ1 _
    refine Rx.go (fun _ => rfl) ?_
    refine Rx.get rfl rfl ?_
    refine Rx.top (y := nI q) hR.f16 ?_
    refine Rx.go (fun _ => rfl) ?_
    refine Rx.get rfl rfl ?_
    refine Rx.top (y := nI t.length) hR.f17 ?_
    refine Rx.go (fun _ => rfl) ?_
    refine Rx.ite (fun c1 => ?_) (fun c1 => ?_)
    · replace c1 : (nI t.length) ≤ (nI q) := of_decide_eq_true c1
      show Rx X c0 m_Mod_readAll 50 [.ref (c0 + 16)] [] σ1 τ1 _
      refine Rx.go (fun _ => rfl) ?_
      refine Rx.go (fun _ => rfl) ?_
      refine Rx.callE rfl rfl rfl rfl (rz_good hR.z) ?_
      show Rx X c0 m_Mod_readAll 55 [.ref (c0 + 16)] [.int 1, .ref (c0 + 16)] σ1 τ1 _
      refine Rx.go (fun _ => rfl) ?_
      show Rx X c0 m_Mod_readAll 58 [.ref (c0 + 16)] [.ref (c0 + 16)] σ1 τ1 _
      refine Rx.go (fun _ => rfl) ?_
      refine Rx.get rfl rfl ?_
      refine Rx.top (y := nI t.length) (hR.1.1.1.trans hC.2.1.1) ?_
      refine Rx.go (fun _ => rfl) ?_
      refine Rx.put rfl (by decide) rfl rfl ?_
      refine Rx.go (fun _ => rfl) ?_
      refine Rx.go (fun _ => rfl) ?_
      refine Rx.put rfl (by decide) rfl rfl ?_
      refine Rx.go (fun _ => rfl) ?_
      refine Rx.callE rfl rfl rfl rfl (rx_isGood X c0 _ _) ?_
      refine Rx.top (y := 1) (bi_t (decide_eq_true (show (upd (upd σ1 2 (nI t.length)) 1 0) 18 = 0 from hR.2.2.1))) ?_
      show Rx X c0 m_Mod_readAll 81 [.ref (c0 + 16)] [.int 1] (upd (upd σ1 2 (nI t.length)) 1 0) τ1 _
      show Rx X c0 m_Mod_readAll 81 [.ref (c0 + 16)] [.int 1] (upd (upd σ1 2 (nI t.length)) 1 0) τ1 _
      have e : q = t.length := by have := (nI_leI (by omega) (by have := hR.pl; omega)).mp c1; have := hR.pl; omega
      subst e
      exact Rx.ret rfl rfl ⟨f, _, Or.inl ⟨rfl, d, kd, qq2, db2, hO, hR, rfl⟩⟩
    · replace c1 : ¬ (nI t.length) ≤ (nI q) := of_decide_eq_false c1
      show Rx X c0 m_Mod_readAll 40 [.ref (c0 + 16)] [] σ1 τ1 _
      refine Rx.go (fun _ => rfl) ?_
      refine Rx.go (fun _ => rfl) ?_
      refine Rx.go (fun _ => rfl) ?_
      refine Rx.get rfl rfl ?_
      refine Rx.top (y := nI q) hR.f16 ?_
      refine Rx.callP rfl rfl rfl rfl (rs_fl (wn := q) hR (by decide) rfl) ?_
      intro σ17 τ17 hS17
      show Rx X c0 m_Mod_readAll 50 [.ref (c0 + 16)] [] σ17 τ17 _
      refine Rx.go (fun _ => rfl) ?_
      refine Rx.go (fun _ => rfl) ?_
      refine Rx.callE rfl rfl rfl rfl (rg_good hS17) ?_
      show Rx X c0 m_Mod_readAll 55 [.ref (c0 + 16)] [.int 0, .ref (c0 + 16)] σ17 τ17 _
      refine Rx.go (fun _ => rfl) ?_
      show Rx X c0 m_Mod_readAll 65 [.ref (c0 + 16)] [.ref (c0 + 16)] σ17 τ17 _
      refine Rx.go (fun _ => rfl) ?_
      refine Rx.get rfl rfl ?_
      refine Rx.top (y := nI q) hS17.2.2.2.1 ?_
      refine Rx.put rfl (by decide) rfl rfl ?_
      refine Rx.go (fun _ => rfl) ?_
      refine Rx.go (fun _ => rfl) ?_
      refine Rx.put rfl (by decide) rfl rfl ?_
      refine Rx.go (fun _ => rfl) ?_
      refine Rx.callE rfl rfl rfl rfl (rx_isGood X c0 _ _) ?_
      refine Rx.top (y := 0) (bi_f (decide_eq_false (show ¬ (upd (upd σ17 2 (nI q)) 1 0) 18 = 0 from hS17.2.2.1))) ?_
      show Rx X c0 m_Mod_readAll 81 [.ref (c0 + 16)] [.int 0] (upd (upd σ17 2 (nI q)) 1 0) τ17 _
      show Rx X c0 m_Mod_readAll 81 [.ref (c0 + 16)] [.int 0] (upd (upd σ17 2 (nI q)) 1 0) τ17 _
      exact Rx.ret rfl rfl ⟨f, _, Or.inr ⟨rfl, _, _, _, Or.inr ⟨d, kd, qq2, db2, hO, Nat.lt_of_not_le (fun e => c1 ((nI_leI (by omega) (by have := hR.pl; omega)).mpr e))⟩, hS17, (roO_len hO).1, by omega, rfl⟩⟩
  · show Rx X c0 m_Mod_readAll 22 [.ref (c0 + 16)] [] σ1 τ1 _
    refine Rx.go (fun _ => rfl) ?_
    refine Rx.callE rfl rfl rfl rfl (rg_good hG) ?_
    show Rx X c0 m_Mod_readAll 26 [.ref (c0 + 16)] [.int 0] σ1 τ1 _
    refine Rx.go (fun _ => rfl) ?_
    show Rx X c0 m_Mod_readAll 50 [.ref (c0 + 16)] [] σ1 τ1 _
    refine Rx.go (fun _ => rfl) ?_
    refine Rx.go (fun _ => rfl) ?_
    refine Rx.callE rfl rfl rfl rfl (rg_good hG) ?_
    show Rx X c0 m_Mod_readAll 55 [.ref (c0 + 16)] [.int 0, .ref (c0 + 16)] σ1 τ1 _
    refine Rx.go (fun _ => rfl) ?_
    show Rx X c0 m_Mod_readAll 65 [.ref (c0 + 16)] [.ref (c0 + 16)] σ1 τ1 _
    refine Rx.go (fun _ => rfl) ?_
    refine Rx.get rfl rfl ?_
    refine Rx.top (y := nI wn) hG.2.2.2.1 ?_
    refine Rx.put rfl (by decide) rfl rfl ?_
    refine Rx.go (fun _ => rfl) ?_
    refine Rx.go (fun _ => rfl) ?_
    refine Rx.put rfl (by decide) rfl rfl ?_
    refine Rx.go (fun _ => rfl) ?_
    refine Rx.callE rfl rfl rfl rfl (rx_isGood X c0 _ _) ?_
    refine Rx.top (y := 0) (bi_f (decide_eq_false (show ¬ (upd (upd σ1 2 (nI wn)) 1 0) 18 = 0 from hG.2.2.1))) ?_
    show Rx X c0 m_Mod_readAll 81 [.ref (c0 + 16)] [.int 0] (upd (upd σ1 2 (nI wn)) 1 0) τ1 _
    show Rx X c0 m_Mod_readAll 81 [.ref (c0 + 16)] [.int 0] (upd (upd σ1 2 (nI wn)) 1 0) τ1 _
    exact Rx.ret rfl rfl ⟨f, _, Or.inr ⟨rfl, _, _, _, Or.inl hF, hG, hm, hj, rfl⟩⟩
end
section
/-! What the reference reads are bytes. (rows laid by wip/whole/rr17.py) -/
theorem one_by {b : Nat} (h : b < 256) : ∀ x, x ∈ [b] → x < 256 := fun x hx => by rw [List.mem_singleton] at hx; omega
theorem wN_by {bel dec : Bool} {ds : List Nat} {g W L : Nat} (h : ∀ x, x ∈ ds → x < 256) : ∀ x, x ∈ wN bel dec ds g W L → x < 256 := by
  have h1 : ∀ x a b, x ∈ (ds.drop a).take b → x < 256 := fun x a b hx => h x (List.mem_of_mem_drop (List.mem_of_mem_take hx))
  intro x hx
  unfold wN wS wZ wD at hx
  simp only [List.mem_append] at hx
  obtain hx | hx | hx | hx := hx
  · split at hx <;> simp at hx; omega
  · split at hx <;> simp at hx; omega
  · exact h1 _ _ _ hx
  · split at hx
    · simp only [List.mem_append] at hx
      obtain (hx | hx) | hx := hx
      · exact one_by (by decide) x hx
      · split at hx
        · exact one_by (by decide) x hx
        · exact absurd hx (List.not_mem_nil)
      · exact h1 _ _ _ hx
    · simp at hx
theorem nrO_by {l ds : List Nat} {q : Nat} {bf : Option Nat} (hl : ∀ i, l.getD i 0 < 256) (h : nrO l q ds bf) : ∀ i, ds.getD i 0 < 256 := by
  have h0 := rD_by l hl (l.length - sgn0 l) (sgn0 l) [] nil_by
  obtain ⟨-, e, -⟩ | ⟨q1, ds1, -, e, -, -, e2⟩ := h
  · rw [show rD l (l.length - sgn0 l) (sgn0 l) [] = _ from e] at h0; exact h0
  · rw [show rD l (l.length - sgn0 l) (sgn0 l) [] = _ from e] at h0
    have h1 := rD_by l hl (l.length - (q1 + 1)) (q1 + 1) ds1 h0
    rw [e2] at h1; exact h1
theorem wl_by : ∀ k, k < 12 → ∀ x, x ∈ wl k → x < 256 := by decide
theorem prO_by {l d : List Nat} {q kd : Nat} (hl : ∀ i, l.getD i 0 < 256) (h : prO l q d kd) : ∀ x, x ∈ d → x < 256 := by
  obtain ⟨k, hk, -, -, rfl, -⟩ | ⟨-, ds, bf, L, g, h1, -, h18, -, -, rfl, -⟩ := h
  · exact wl_by k (by omega)
  · exact wN_by (by_mem.mp (nrO_by hl h1))
theorem app_by {a b : List Nat} (ha : ∀ x, x ∈ a → x < 256) (hb : ∀ x, x ∈ b → x < 256) : ∀ x, x ∈ a ++ b → x < 256 := fun x hx => (List.mem_append.mp hx).elim (ha x) (hb x)
theorem sB_by (t : List Nat) (ht : ∀ i, t.getD i 0 < 256) : ∀ (m q : Nat) (acc : List Nat), (∀ i, acc.getD i 0 < 256) → ∀ i, (sB t m q acc).2.2.getD i 0 < 256 := by
  intro m
  induction m with
  | zero => intro q acc h; exact h
  | succ m ih =>
    intro q acc h
    rw [sB]
    repeat' split
    all_goals first | exact h | exact ih _ _ (snoc_by h (ht _))
theorem sBk_by {t : List Nat} (ht : ∀ i, t.getD i 0 < 256) : ∀ i, (sBk t).2.2.getD i 0 < 256 := by
  unfold sBk bkF
  repeat' split
  all_goals first | exact nil_by | exact sB_by t ht _ _ _ nil_by
theorem smlN_by {b : Nat} (h : b < 256) : smlN b < 256 := by
  unfold smlN
  repeat' split
  all_goals omega
theorem sT_by (t : List Nat) (ht : ∀ i, t.getD i 0 < 256) : ∀ (m q run : Nat) (fs : Bool) (acc : List Nat), (∀ i, acc.getD i 0 < 256) → ∀ i, (sT t m q run fs acc).2.2.getD i 0 < 256 := by
  intro m
  induction m with
  | zero =>
    intro q run fs acc h
    unfold sT
    repeat' split
    all_goals exact h
  | succ m ih =>
    intro q run fs acc h
    rw [sT]
    repeat' split
    all_goals first | exact h | exact ih _ _ _ _ (snoc_by h (ht _)) | exact ih _ _ _ _ (snoc_by h (smlN_by (ht _)))
theorem roO_by {t d : List Nat} {q kd qq db : Nat} (ht : ∀ i, t.getD i 0 < 256) (h : roO t q d kd qq db) : ∀ x, x ∈ d → x < 256 := by
  obtain ⟨-, b, e, rfl, -⟩ | ⟨-, b, e, rfl, -⟩ | ⟨-, q1, acc, e1, h2⟩ | ⟨h, -⟩ := h
  · have h1 := sBk_by ht; rw [e] at h1
    exact app_by (by decide) (by_mem.mp h1)
  · have h1 := sNa_by ht 0; rw [e] at h1
    exact app_by (app_by (by decide) (by_mem.mp h1)) (by decide)
  · have ha := sI_by t ht t.length 1 [] nil_by
    rw [e1] at ha
    have hr := by_mem.mp (fm_by ha)
    have h0 : ∀ x, x ∈ [34] ++ acc.flatMap esW ++ [34] → x < 256 := app_by (app_by (by decide) hr) (by decide)
    obtain ⟨-, b, e, rfl, -⟩ | ⟨-, -, b, e, h3⟩ | ⟨-, -, -, rfl, -⟩ := h2
    · have h1 := sT_by t ht (t.length - (q1 + 1)) (q1 + 1) 0 true [] nil_by; rw [e] at h1
      exact app_by (app_by h0 (by decide)) (by_mem.mp h1)
    · have h1 := sNa_by ht (q1 + 1 + 1); rw [e] at h1
      obtain ⟨-, rfl, -⟩ | ⟨-, -, h4, -⟩ | ⟨-, -, rfl, -⟩ := h3
      · exact h0
      · exact prO_by (fm_by ha) h4
      · exact app_by (app_by (app_by (app_by (app_by h0 (by decide)) (by decide)) (by decide)) (by_mem.mp h1)) (by decide)
    · exact h0
  · exact prO_by ht h
end
section
/-! The reference reads and finds. (rows laid by wip/whole/rr18.py) -/
section RCS
variable {ts ts' : RT} {t sh d : List Nat} {u pl : Nat} {σ σ1 σ' : Nat → Int32} {τ τ1 τ' : Nat → Nat → Int32} {f : Nat → Int32}
/-- behind a reading: the tape is empty, the place is w -/
theorem RC.ra {w m : Nat} (h : RC ts t u pl sh σ τ) (hF : rsF σ (va_up τ 20 f) t σ1 τ1) (hm : m ≤ 250) (h10 : σ1 10 = nI m) : RC ts [] u w sh (upd (upd σ1 2 (nI w)) 1 0) τ1 := by
  obtain ⟨h1, h2, ⟨h3, h3'⟩, ⟨h4, h5, h6, h7⟩, -⟩ := h
  obtain ⟨⟨a1, a2, a3, a4, a5⟩, ⟨b1, b2, b3, b4, b5, b6⟩, -⟩ := hF
  refine ⟨rt_same h1 (a3 : σ1 7 = σ 7) (b1.trans (va_up_ne _ _ (by decide))) (b2.trans (va_up_ne _ _ (by decide))) (b3.trans (va_up_ne _ _ (by decide))) (b4.trans (va_up_ne _ _ (by decide))), ⟨rfl, by decide, fun j hj => absurd hj (Nat.not_lt_zero _), nil_by⟩, ⟨a4.trans h3, h3'⟩, ⟨a5.trans h4, h5, fun k hk => ?_, h7⟩, rfl, m, h10, hm⟩
  rw [b5.trans (va_up_ne _ _ (by decide))]; exact h6 k hk
/-- what makeDraft answers, and the table behind it -/
def mdR (ts : RT) (dk : Nat) (d : List Nat) (q u db : Nat) (r : Option Value) (ts' : RT) (u' : Nat) : Prop := (∃ j : Nat, 0 < j ∧ fdP ts dk d j ∧ r = some (.int (nI j)) ∧ ts' = ts ∧ u' = u) ∨ (fdP ts dk d 0 ∧ (ts.length = 2000 ∨ 40000 < u + db) ∧ r = some (.int (-3)) ∧ ts' = ts ∧ u' = u) ∨ (fdP ts dk d 0 ∧ ts.length < 2000 ∧ u + db ≤ 40000 ∧ r = some (.int (nI (ts.length + 1))) ∧ ts' = ts ++ [(dk, d, q)] ∧ u' = u + db)
theorem RC.md {dk q db : Nat} {r : Option Value} (h : RC ts t u pl sh σ τ) (hM : mdP ts dk d q u db σ τ r σ' τ') : ∃ ts' u', RC ts' t u' pl sh σ' τ' ∧ mdR ts dk d q u db r ts' u' := by
  obtain ⟨j, h1, h2, h3, rfl, rfl⟩ | ⟨h1, h2, h3, rfl, rfl⟩ | ⟨h1, h2, h3, h4, rfl, h6, h7⟩ := hM
  · exact ⟨ts, u, h, Or.inl ⟨j, h1, h2, h3, rfl, rfl⟩⟩
  · exact ⟨ts, u, h, Or.inr (Or.inl ⟨h1, h2, h3, rfl, rfl⟩)⟩
  · obtain ⟨-, ⟨a1, a2, a3, a4⟩, -, ⟨c1, c2, c3, c4⟩, e1, m, e2, e3⟩ := h
    refine ⟨_, u + db, ⟨h6, ⟨a1, a2, fun j hj => ?_, a4⟩, ⟨rfl, h3⟩, ⟨c1, c2, fun k hk => ?_, c4⟩, e1, m, e2, e3⟩, Or.inr (Or.inr ⟨h1, h2, h3, h4, rfl, rfl⟩)⟩
    · rw [h7 0 (by decide) (by decide) (by decide) (by decide)]; exact a3 j hj
    · rw [h7 14 (by decide) (by decide) (by decide) (by decide)]; exact c3 k hk
end RCS
/-- a reading's fault at w -/
def raF (t : List Nat) (w : Nat) : Prop := roF t w ∨ ∃ d kd qq db, roO t w d kd qq db ∧ w < t.length
/-- read's end -/
def reP (ts : RT) (t : List Nat) (u : Nat) (sh : List Nat) (r : Option Value) (σ' : Nat → Int32) (τ' : Nat → Nat → Int32) : Prop := ∃ ts' u' pl', RC ts' [] u' pl' sh σ' τ' ∧ ((∃ d kd qq db, roO t t.length d kd qq db ∧ pl' = t.length ∧ mdR ts kd d qq u db r ts' u') ∨ (∃ x, raF t pl' ∧ r = some (.int x) ∧ ts' = ts ∧ u' = u))
/-- find's end -/
def rfP (ts : RT) (t : List Nat) (u : Nat) (sh : List Nat) (r : Option Value) (σ' : Nat → Int32) (τ' : Nat → Nat → Int32) : Prop := ∃ pl', RC ts [] u pl' sh σ' τ' ∧ ((∃ d kd qq db j, roO t t.length d kd qq db ∧ pl' = t.length ∧ fdP ts kd d j ∧ r = some (.int (if 0 < j then nI j else -2))) ∨ (∃ x, raF t pl' ∧ r = some (.int x)))
set_option maxRecDepth 100000 in
set_option maxHeartbeats 2000000 in
theorem rr_read {X : ev_X} {c0 : Nat} {ts : RT} {t sh : List Nat} {u pl : Nat} {σ : Nat → Int32} {τ : Nat → Nat → Int32} (hX : XS X c0) (hroom : off ts ts.length + 260 ≤ 132000) (hC : RC ts t u pl sh σ τ) : Rx X c0 m_Mod_read 0 [.ref (c0 + 16)] [] σ τ (reP ts t u sh) := by
  refine Rx.go (fun _ => rfl) ?_
  refine Rx.call rfl rfl rfl rfl (rr_all hX hC) ?_
  rintro v σ1 τ1 ⟨f, σ2, (⟨rfl, d, kd, qq, db, hO, hR, rfl⟩ | ⟨rfl, wn, m, j, hF, hG, hm, hj, rfl⟩)⟩
  · show Rx X c0 m_Mod_read 4 [.ref (c0 + 16)] [.int 1] (upd (upd σ2 2 (nI t.length)) 1 0) τ1 _
    have hC1 := hC.ra (w := t.length) hR.1 (roO_len hO).1 hR.f10
    have hD : drf (upd (upd σ2 2 (nI t.length)) 1 0) τ1 d := ⟨hR.f10, by have := (roO_len hO).1; omega, hR.2.2.2.1.2, by_mem.mpr (roO_by hC.2.1.2.2.2 hO)⟩
    refine Rx.go (fun _ => rfl) ?_
    show Rx X c0 m_Mod_read 7 [.ref (c0 + 16)] [] (upd (upd σ2 2 (nI t.length)) 1 0) τ1 _
    refine Rx.go (fun _ => rfl) ?_
    refine Rx.call rfl rfl rfl rfl (rx_makeDraft X c0 _ _ hC1.1 hD (show _ from hR.f11) (roO_len hO).2.1 (q := qq) (show _ from hR.f12) (roO_len hO).2.2.1 (u := u) hC1.2.2.1.1 hC1.2.2.1.2 (db := db) (show _ from hR.f13) (roO_len hO).2.2.2 (by have := (roO_len hO).1; omega)) ?_
    intro v σ3 τ3 hM
    exact Rx.go (fun _ => rfl) (mdP_ret (ts := ts) (dk := kd) (q := qq) (u := u) (db := db) (d := d) rfl rfl hM (fun hM => by
      obtain ⟨ts2, u2, h1, h2⟩ := hC1.md hM
      exact ⟨ts2, u2, _, h1, Or.inl ⟨d, kd, qq, db, hO, rfl, h2⟩⟩))
  · show Rx X c0 m_Mod_read 4 [.ref (c0 + 16)] [.int 0] (upd (upd σ2 2 (nI wn)) 1 0) τ1 _
    have hC1 := hC.ra (w := wn) hG.1 hm hG.2.2.2.2
    refine Rx.go (fun _ => rfl) ?_
    show Rx X c0 m_Mod_read 14 [.ref (c0 + 16)] [] (upd (upd σ2 2 (nI wn)) 1 0) τ1 _
    refine Rx.go (fun _ => rfl) ?_
    refine Rx.go (fun _ => rfl) ?_
    refine Rx.get rfl rfl ?_
    refine Rx.go (fun _ => rfl) ?_
    show Rx X c0 m_Mod_read 21 [.ref (c0 + 16)] [.int ((-100) - ((upd (upd σ2 2 (nI wn)) 1 0) 18))] (upd (upd σ2 2 (nI wn)) 1 0) τ1 _
    exact Rx.ret rfl (ev_reti rfl) ⟨ts, u, wn, hC1, Or.inr ⟨_, hF, rfl, rfl, rfl⟩⟩
set_option maxRecDepth 100000 in
set_option maxHeartbeats 2000000 in
theorem rr_find {X : ev_X} {c0 : Nat} {ts : RT} {t sh : List Nat} {u pl : Nat} {σ : Nat → Int32} {τ : Nat → Nat → Int32} (hX : XS X c0) (hC : RC ts t u pl sh σ τ) : Rx X c0 m_Mod_find 0 [.ref (c0 + 16), ev_dead] [] σ τ (rfP ts t u sh) := by
  refine Rx.go (fun _ => rfl) ?_
  refine Rx.call rfl rfl rfl rfl (rr_all hX hC) ?_
  rintro v σ1 τ1 ⟨f, σ2, (⟨rfl, d, kd, qq, db, hO, hR, rfl⟩ | ⟨rfl, wn, m, j, hF, hG, hm, hj, rfl⟩)⟩
  · show Rx X c0 m_Mod_find 4 [.ref (c0 + 16), ev_dead] [.int 1] (upd (upd σ2 2 (nI t.length)) 1 0) τ1 _
    have hC1 := hC.ra (w := t.length) hR.1 (roO_len hO).1 hR.f10
    have hD : drf (upd (upd σ2 2 (nI t.length)) 1 0) τ1 d := ⟨hR.f10, by have := (roO_len hO).1; omega, hR.2.2.2.1.2, by_mem.mpr (roO_by hC.2.1.2.2.2 hO)⟩
    refine Rx.go (fun _ => rfl) ?_
    show Rx X c0 m_Mod_find 15 [.ref (c0 + 16), ev_dead] [] (upd (upd σ2 2 (nI t.length)) 1 0) τ1 _
    refine Rx.go (fun _ => rfl) ?_
    refine Rx.call rfl rfl rfl rfl (rx_findDraft X c0 _ _ hC1.1 hD (show _ from hR.f11) (roO_len hO).2.1) ?_
    rintro v σ3 τ3 ⟨j, hj, rfl, e2, e3⟩
    rw [e2, e3]
    have hjl : j ≤ 2000 := by have := hC1.1.2.1; rcases hj with ⟨⟨-, h, -⟩, -⟩ | ⟨h, -⟩ <;> omega
    show Rx X c0 m_Mod_find 19 [.ref (c0 + 16), ev_dead] [.int (nI j)] (upd (upd σ2 2 (nI t.length)) 1 0) τ1 _
    refine Rx.go (fun _ => rfl) ?_
    show Rx X c0 m_Mod_find 20 [.ref (c0 + 16), .int (nI j)] [] (upd (upd σ2 2 (nI t.length)) 1 0) τ1 _
    refine Rx.go (fun _ => rfl) ?_
    refine Rx.go (fun _ => rfl) ?_
    refine Rx.ite (fun c1 => ?_) (fun c1 => ?_)
    · replace c1 : (nI j) ≤ 0 := of_decide_eq_true c1
      show Rx X c0 m_Mod_find 28 [.ref (c0 + 16), .int (nI j)] [] (upd (upd σ2 2 (nI t.length)) 1 0) τ1 _
      refine Rx.go (fun _ => rfl) ?_
      show Rx X c0 m_Mod_find 30 [.ref (c0 + 16), .int (nI j)] [.int (-2)] (upd (upd σ2 2 (nI t.length)) 1 0) τ1 _
      exact Rx.ret rfl (ev_reti rfl) ⟨t.length, hC1, Or.inl ⟨d, kd, qq, db, j, hO, rfl, hj, by rw [if_neg (fun e => absurd ((nI_leI (b := 0) (by omega) (by decide)).mp c1) (by omega))]⟩⟩
    · replace c1 : ¬ (nI j) ≤ 0 := of_decide_eq_false c1
      show Rx X c0 m_Mod_find 24 [.ref (c0 + 16), .int (nI j)] [] (upd (upd σ2 2 (nI t.length)) 1 0) τ1 _
      refine Rx.go (fun _ => rfl) ?_
      refine Rx.go (fun _ => rfl) ?_
      show Rx X c0 m_Mod_find 30 [.ref (c0 + 16), .int (nI j)] [.int (nI j)] (upd (upd σ2 2 (nI t.length)) 1 0) τ1 _
      exact Rx.ret rfl (ev_reti rfl) ⟨t.length, hC1, Or.inl ⟨d, kd, qq, db, j, hO, rfl, hj, by rw [if_pos (Nat.pos_of_ne_zero (fun e => c1 (by rw [e]; decide)))]⟩⟩
  · show Rx X c0 m_Mod_find 4 [.ref (c0 + 16), ev_dead] [.int 0] (upd (upd σ2 2 (nI wn)) 1 0) τ1 _
    have hC1 := hC.ra (w := wn) hG.1 hm hG.2.2.2.2
    refine Rx.go (fun _ => rfl) ?_
    show Rx X c0 m_Mod_find 7 [.ref (c0 + 16), ev_dead] [] (upd (upd σ2 2 (nI wn)) 1 0) τ1 _
    refine Rx.go (fun _ => rfl) ?_
    refine Rx.go (fun _ => rfl) ?_
    refine Rx.get rfl rfl ?_
    refine Rx.go (fun _ => rfl) ?_
    show Rx X c0 m_Mod_find 14 [.ref (c0 + 16), ev_dead] [.int ((-100) - ((upd (upd σ2 2 (nI wn)) 1 0) 18))] (upd (upd σ2 2 (nI wn)) 1 0) τ1 _
    exact Rx.ret rfl (ev_reti rfl) ⟨wn, hC1, Or.inr ⟨_, hF, rfl⟩⟩
end
section
/-! A byte of a long: the two sides take the same. -/
theorem bvx (x : BitVec 64) (s : Nat) (hs : s ≤ 56) : (x.sshiftRight s &&& 255#64).setWidth 32 = (x >>> s).setWidth 32 &&& 255#32 := by
  apply BitVec.eq_of_getLsbD_eq
  intro i hi
  have e1 : (255#64).getLsbD i = decide (i < 8) := by
    have : ∀ i, i < 32 → (255#64).getLsbD i = decide (i < 8) := by decide
    exact this i hi
  have e2 : (255#32).getLsbD i = decide (i < 8) := by
    have : ∀ i, i < 32 → (255#32).getLsbD i = decide (i < 8) := by decide
    exact this i hi
  rw [BitVec.getLsbD_setWidth, BitVec.getLsbD_and, BitVec.getLsbD_and, e1, e2, BitVec.getLsbD_setWidth, BitVec.getLsbD_sshiftRight, BitVec.getLsbD_ushiftRight]
  by_cases h8 : i < 8
  · have h1 : ¬ 64 ≤ i := by omega
    have h2 : s + i < 64 := by omega
    simp [h8, hi, h1, h2]
  · simp [h8]
theorem rb_bv (v : Int64) : ∀ m, m < 8 → (rb v m).toBitVec = (v.toBitVec.sshiftRight (8 * m) &&& 255#64).setWidth 32 := by
  intro m hm
  have h : m = 0 ∨ m = 1 ∨ m = 2 ∨ m = 3 ∨ m = 4 ∨ m = 5 ∨ m = 6 ∨ m = 7 := by omega
  rw [← BitVec.signExtend_eq_setWidth_of_le _ (by decide)]
  rcases h with rfl | rfl | rfl | rfl | rfl | rfl | rfl | rfl <;> rfl
theorem cb_bv (v : Int64) : ∀ m, m < 8 → (cb v m).toBitVec = ((v.toBitVec >>> (8 * m)).setWidth 32 &&& 255#32) := by
  intro m hm
  have h : m = 0 ∨ m = 1 ∨ m = 2 ∨ m = 3 ∨ m = 4 ∨ m = 5 ∨ m = 6 ∨ m = 7 := by omega
  rw [← BitVec.signExtend_eq_setWidth_of_le _ (by decide)]
  rcases h with rfl | rfl | rfl | rfl | rfl | rfl | rfl | rfl <;> rfl
theorem rb_cb (v : Int64) {m : Nat} (hm : m < 8) : rb v m = cb v m := Int32.toBitVec_inj.mp (by rw [rb_bv v m hm, cb_bv v m hm, bvx _ _ (by omega)])
theorem trf_get (v : Int64) : ∀ (m s : Nat) (f : Nat → Int32) (t : List Nat) (hm : m ≤ 8) (hs : s = t.length) (hf : ∀ j, j < t.length → f j = nI (t.getD j 0)), ∀ j, j < (t ++ byl v m).length → trf m s f v j = nI ((t ++ byl v m).getD j 0) := by
  intro m
  induction m with
  | zero =>
    intro s f t hm hs hf j hj
    rw [byl, List.append_nil] at hj ⊢
    exact hf j hj
  | succ m ih =>
    intro s f t hm hs hf j hj
    rw [byl, show t ++ (cbN v m :: byl v m) = t ++ [cbN v m] ++ byl v m by simp] at hj ⊢
    rw [trf]
    refine ih (s + 1) _ (t ++ [cbN v m]) (by omega) (by simp [hs]) (fun k hk => ?_) j hj
    rw [List.length_append, List.length_cons, List.length_nil] at hk
    rw [getD_snoc hk]
    subst hs
    split
    · next q => rw [pk_un (by omega)]; exact hf k q
    · next q => rw [show k = t.length by omega, pk_us, rb_cb v (by omega), cb_N]
theorem byl_by (v : Int64) : ∀ m x, x ∈ byl v m → x < 256 := by
  intro m
  induction m with
  | zero => intro x hx; exact absurd hx List.not_mem_nil
  | succ m ih =>
    intro x hx
    rw [byl, List.mem_cons] at hx
    obtain rfl | hx := hx
    · exact cbN_lt v m
    · exact ih x hx
end
section
/-! The reference's calls over its whole state. (rows laid by wip/whole/rr19.py) -/
/-- an answer, the state behind it -/
def rC (ts : RT) (t : List Nat) (u pl : Nat) (sh : List Nat) (x : Value) (r : Option Value) (σ' : Nat → Int32) (τ' : Nat → Nat → Int32) : Prop := r = some x ∧ RC ts t u pl sh σ' τ'
section RCT
variable {ts : RT} {t sh : List Nat} {u pl : Nat} {σ σ1 σ' : Nat → Int32} {τ τ1 τ' : Nat → Nat → Int32}
theorem RC.tape {t' : List Nat} {g : Nat → Int32} (h : RC ts t u pl sh σ τ) (hl : t'.length ≤ 240) (hg : ∀ j, j < t'.length → g j = nI (t'.getD j 0)) (hb : ∀ j, t'.getD j 0 < 256) : RC ts t' u pl sh (upd σ 1 (nI t'.length)) (va_up τ 0 g) := by
  obtain ⟨h1, h2, ⟨h3, h3'⟩, ⟨h4, h5, h6, h7⟩, h8, m, h9, h10⟩ := h
  refine ⟨rt_same h1 rfl rfl rfl rfl rfl, ⟨rfl, hl, fun j hj => ?_, hb⟩, ⟨h3, h3'⟩, ⟨h4, h5, h6, h7⟩, h8, m, h9, h10⟩
  rw [va_up_self]; exact hg j hj
/-- what number answers, and the table behind it -/
def nmR (ts : RT) (u : Nat) (v : Int64) (dec : Bool) (W : Nat) (r : Option Value) (ts' : RT) (u' : Nat) : Prop := if few v = true then (∃ a : Nat, a < 10 ^ 18 ∧ (v = lN a ∨ v = -lN a) ∧ ∃ L g, trail (dgl 18 a) W L ∧ lead (dgl 18 a) W g ∧ L - W ≤ 9 ∧ mdR ts (if dec = true then 4 else 3) (wN (decide (v < 0)) dec (dgl 18 a) g W L) 0 u 0 r ts' u') else (r = some (.int (-1)) ∧ ts' = ts ∧ u' = u)
theorem RC.nm {v : Int64} {dec : Bool} {W : Nat} {r : Option Value} (h : RC ts t u pl sh σ τ) (hN : nmP ts u v dec W σ τ r σ' τ') : ∃ ts' u', RC ts' t u' pl sh σ' τ' ∧ nmR ts u v dec W r ts' u' := by
  unfold nmP at hN
  unfold nmR
  split at hN
  · next hf =>
    obtain ⟨a, ha, hv, L, g, σ1, τ1, h1, h2, h3, h4, -, h6, h7, h8, hM⟩ := hN
    have hC : RC ts t u pl sh σ1 τ1 := by
      obtain ⟨a1, ⟨b1, b2, b3, b4⟩, ⟨c1, c2⟩, ⟨d1, d2, d3, d4⟩, e1, -⟩ := h
      refine ⟨rt_same a1 (h4 7 (by decide) (by decide) (by decide) (by decide) (by decide) (by decide) (by decide)) (h8 3 (by decide) (by decide)) (h8 4 (by decide) (by decide)) (h8 5 (by decide) (by decide)) (h8 6 (by decide) (by decide)), ⟨(h4 1 (by decide) (by decide) (by decide) (by decide) (by decide) (by decide) (by decide)).trans b1, b2, fun j hj => ?_, b4⟩, ⟨(h4 8 (by decide) (by decide) (by decide) (by decide) (by decide) (by decide) (by decide)).trans c1, c2⟩, ⟨(h4 15 (by decide) (by decide) (by decide) (by decide) (by decide) (by decide) (by decide)).trans d1, d2, fun k hk => ?_, d4⟩, (h4 2 (by decide) (by decide) (by decide) (by decide) (by decide) (by decide) (by decide)).trans e1, _, h6, h7⟩
      · rw [h8 0 (by decide) (by decide)]; exact b3 j hj
      · rw [h8 14 (by decide) (by decide)]; exact d3 k hk
    obtain ⟨ts2, u2, g1, g2⟩ := hC.md hM
    exact ⟨ts2, u2, g1, by rw [if_pos hf]; exact ⟨a, ha, hv, L, g, h1, h2, h3, g2⟩⟩
  · next hf =>
    obtain ⟨e1, rfl, rfl⟩ := hN
    exact ⟨ts, u, h, by rw [if_neg hf]; exact ⟨e1, rfl, rfl⟩⟩
end RCT
theorem rc_whole {X : ev_X} {c0 : Nat} {ts : RT} {t sh : List Nat} {u pl : Nat} {σ : Nat → Int32} {τ : Nat → Nat → Int32} (hroom : off ts ts.length + 260 ≤ 132000) (hC : RC ts t u pl sh σ τ) (v : Int64) : Rx X c0 m_Mod_whole 0 [.ref (c0 + 16), .long v, ev_dead] [] σ τ (fun r σ' τ' => ∃ ts' u', RC ts' t u' pl sh σ' τ' ∧ nmR ts u v false 18 r ts' u') :=
  (rx_whole X c0 v hC.1 hC.2.2.1.1 hC.2.2.1.2 hroom).mono (fun r σ' τ' h => hC.nm h)
theorem rc_decimal {X : ev_X} {c0 : Nat} {ts : RT} {t sh : List Nat} {u pl : Nat} {σ : Nat → Int32} {τ : Nat → Nat → Int32} (hroom : off ts ts.length + 260 ≤ 132000) (hC : RC ts t u pl sh σ τ) (v : Int64) (b : Int32) : Rx X c0 m_Mod_decimal 0 [.ref (c0 + 16), .long v, ev_dead, .int b] [] σ τ (fun r σ' τ' => if b < 0 then rC ts t u pl sh (.int (-1)) r σ' τ' else if 9 < b then rC ts t u pl sh (.int (-1)) r σ' τ' else ∃ ts' u', RC ts' t u' pl sh σ' τ' ∧ nmR ts u v true (18 - b.toNatClampNeg) r ts' u') := by
  refine (rx_decimal X c0 v b hC.1 hC.2.2.1.1 hC.2.2.1.2 hroom).mono (fun r σ' τ' h => ?_)
  split at h
  · next c => rw [if_pos c]; obtain ⟨e, rfl, rfl⟩ := h; exact ⟨e, hC⟩
  · next c =>
    rw [if_neg c]
    split at h
    · next c => rw [if_pos c]; obtain ⟨e, rfl, rfl⟩ := h; exact ⟨e, hC⟩
    · next c => rw [if_neg c]; exact hC.nm h
theorem rc_written {X : ev_X} {c0 : Nat} {ts : RT} {t sh : List Nat} {u pl : Nat} {σ : Nat → Int32} {τ : Nat → Nat → Int32} (hC : RC ts t u pl sh σ τ) (x : Int32) : Rx X c0 m_Mod_written 0 [.ref (c0 + 16), .int x] [] σ τ (rC ts t u pl sh (.int (wat sh x))) :=
  (rx_written X c0 σ τ hC.2.2.2.1 x).mono (fun r σ' τ' ⟨e1, e2, e3⟩ => ⟨e1, by rw [e2, e3]; exact hC⟩)
theorem rc_write {X : ev_X} {c0 : Nat} {ts : RT} {t sh : List Nat} {u pl : Nat} {σ : Nat → Int32} {τ : Nat → Nat → Int32} (hC : RC ts t u pl sh σ τ) {i : Nat} (hi : i < ts.length) : Rx X c0 m_Mod_write 0 [.ref (c0 + 16), .int (nI (i + 1)), ev_dead] [] σ τ (rC ts t u pl (bys ts i) (.int (nI (bys ts i).length))) := by
  refine (rx_write X c0 σ τ hC.1 hi).mono (fun r σ' τ' ⟨e1, e2, e3, e4⟩ => ⟨e1, ?_⟩)
  obtain ⟨a1, ⟨b1, b2, b3, b4⟩, ⟨c1, c2⟩, -, d1, m, g1, g2⟩ := hC
  subst e2
  refine ⟨rt_same a1 rfl (e3 3 (by decide)) (e3 4 (by decide)) (e3 5 (by decide)) (e3 6 (by decide)), ⟨b1, b2, fun j hj => ?_, b4⟩, ⟨c1, c2⟩, e4, d1, m, g1, g2⟩
  rw [e3 0 (by decide)]; exact b3 j hj
theorem rc_place {X : ev_X} {c0 : Nat} {ts : RT} {t sh : List Nat} {u pl : Nat} {σ : Nat → Int32} {τ : Nat → Nat → Int32} (hC : RC ts t u pl sh σ τ) : Rx X c0 m_Mod_place 0 [.ref (c0 + 16)] [] σ τ (rC ts t u pl sh (.int (nI pl))) := by
  refine Rx.go (fun _ => rfl) ?_
  refine Rx.get rfl rfl ?_
  refine Rx.top (y := nI pl) hC.2.2.2.2.1 ?_
  exact Rx.ret rfl (ev_reti rfl) ⟨rfl, hC⟩
theorem rc_count {X : ev_X} {c0 : Nat} {ts : RT} {t sh : List Nat} {u pl : Nat} {σ : Nat → Int32} {τ : Nat → Nat → Int32} (hC : RC ts t u pl sh σ τ) : Rx X c0 m_Mod_count 0 [.ref (c0 + 16)] [] σ τ (rC ts t u pl sh (.int (nI ts.length))) := by
  refine Rx.go (fun _ => rfl) ?_
  refine Rx.get rfl rfl ?_
  refine Rx.top (y := nI ts.length) hC.1.1 ?_
  exact Rx.ret rfl (ev_reti rfl) ⟨rfl, hC⟩
theorem rc_used {X : ev_X} {c0 : Nat} {ts : RT} {t sh : List Nat} {u pl : Nat} {σ : Nat → Int32} {τ : Nat → Nat → Int32} (hC : RC ts t u pl sh σ τ) : Rx X c0 m_Mod_used 0 [.ref (c0 + 16)] [] σ τ (rC ts t u pl sh (.int (nI u))) := by
  refine Rx.go (fun _ => rfl) ?_
  refine Rx.get rfl rfl ?_
  refine Rx.top (y := nI u) hC.2.2.1.1 ?_
  exact Rx.ret rfl (ev_reti rfl) ⟨rfl, hC⟩
set_option maxRecDepth 100000 in
set_option maxHeartbeats 2000000 in
theorem rc_type {X : ev_X} {c0 : Nat} {ts : RT} {t sh : List Nat} {u pl : Nat} {σ : Nat → Int32} {τ : Nat → Nat → Int32} (hC : RC ts t u pl sh σ τ) (v : Int64) (b : Int32) : Rx X c0 m_Mod_type 0 [.ref (c0 + 16), .long v, ev_dead, .int b, ev_dead] [] σ τ (if b < 1 then rC ts t u pl sh (.int (-1)) else if b ≤ 8 then (if nI t.length + b ≤ 240 then rC ts (t ++ byl v b.toNatClampNeg) u pl sh (.int (nI (t ++ byl v b.toNatClampNeg).length)) else rC ts t u pl sh (.int (-3))) else rC ts t u pl sh (.int (-1))) := by
  refine Rx.go (fun _ => rfl) ?_
  refine Rx.go (fun _ => rfl) ?_
  refine Rx.go (fun _ => rfl) ?_
  refine Rx.ite (fun c1 => ?_) (fun c1 => ?_)
  · replace c1 : b < 1 := of_decide_eq_true c1
    show Rx X c0 m_Mod_type 11 [.ref (c0 + 16), .long v, ev_dead, .int b, ev_dead] [] σ τ _
    refine Rx.go (fun _ => rfl) ?_
    show Rx X c0 m_Mod_type 12 [.ref (c0 + 16), .long v, ev_dead, .int b, ev_dead] [.int (-1)] σ τ _
    exact Rx.ret rfl (ev_reti rfl) (by rw [if_pos c1]; exact ⟨rfl, hC⟩)
  · replace c1 : ¬ b < 1 := of_decide_eq_false c1
    show Rx X c0 m_Mod_type 5 [.ref (c0 + 16), .long v, ev_dead, .int b, ev_dead] [] σ τ _
    refine Rx.go (fun _ => rfl) ?_
    refine Rx.go (fun _ => rfl) ?_
    refine Rx.go (fun _ => rfl) ?_
    refine Rx.ite (fun c2 => ?_) (fun c2 => ?_)
    · replace c2 : b ≤ 8 := of_decide_eq_true c2
      show Rx X c0 m_Mod_type 13 [.ref (c0 + 16), .long v, ev_dead, .int b, ev_dead] [] σ τ _
      refine Rx.go (fun _ => rfl) ?_
      refine Rx.get rfl rfl ?_
      refine Rx.top (y := nI t.length) hC.2.1.1 ?_
      refine Rx.go (fun _ => rfl) ?_
      refine Rx.go (fun _ => rfl) ?_
      refine Rx.go (fun _ => rfl) ?_
      refine Rx.go (fun _ => rfl) ?_
      refine Rx.ite (fun c3 => ?_) (fun c3 => ?_)
      · replace c3 : ((nI t.length) + b) ≤ 240 := of_decide_eq_true c3
        show Rx X c0 m_Mod_type 28 [.ref (c0 + 16), .long v, ev_dead, .int b, ev_dead] [] σ τ _
        refine Rx.go (fun _ => rfl) ?_
        refine Rx.go (fun _ => rfl) ?_
        refine Rx.go (fun _ => rfl) ?_
        refine Rx.go (fun _ => rfl) ?_
        show Rx X c0 m_Mod_type 33 [.ref (c0 + 16), .long v, ev_dead, .int b, .int (b - 1)] [] σ τ _
        show Rx X c0 m_Mod_type 33 [.ref (c0 + 16), .long v, ev_dead, .int b, .int (b - 1)] [] σ τ _
        obtain ⟨m, hm, rfl⟩ := i32_81 c1 c2
        have hl := hC.2.1.2.1
        have hs : t.length + m ≤ 240 := by
          have h3 := c3
          rw [show nI t.length + nI m = nI (t.length + m) from nI_add _ _] at h3
          exact (nI_leI (b := 240) (by omega) (by decide)).mp h3
        refine (rx_type_l X c0 v (nI m) m t.length σ τ hC.2.1.1 hs).mono ?_
        rintro r σ' τ' ⟨rfl, rfl, rfl⟩
        rw [if_neg c1, if_pos c2, if_pos c3, nI_clamp (by omega)]
        have e : t.length + m = (t ++ byl v m).length := by rw [List.length_append, byl_len]
        rw [e]
        exact ⟨rfl, hC.tape (by omega) (trf_get v m t.length (τ 0) t hm rfl hC.2.1.2.2.1) (by_mem.mpr (app_by (by_mem.mp hC.2.1.2.2.2) (byl_by v m)))⟩
      · replace c3 : ¬ ((nI t.length) + b) ≤ 240 := of_decide_eq_false c3
        show Rx X c0 m_Mod_type 25 [.ref (c0 + 16), .long v, ev_dead, .int b, ev_dead] [] σ τ _
        refine Rx.go (fun _ => rfl) ?_
        show Rx X c0 m_Mod_type 27 [.ref (c0 + 16), .long v, ev_dead, .int b, ev_dead] [.int (-3)] σ τ _
        exact Rx.ret rfl (ev_reti rfl) (by rw [if_neg c1, if_pos c2, if_neg c3]; exact ⟨rfl, hC⟩)
    · replace c2 : ¬ b ≤ 8 := of_decide_eq_false c2
      show Rx X c0 m_Mod_type 11 [.ref (c0 + 16), .long v, ev_dead, .int b, ev_dead] [] σ τ _
      refine Rx.go (fun _ => rfl) ?_
      show Rx X c0 m_Mod_type 12 [.ref (c0 + 16), .long v, ev_dead, .int b, ev_dead] [.int (-1)] σ τ _
      exact Rx.ret rfl (ev_reti rfl) (by rw [if_neg c1, if_neg c2]; exact ⟨rfl, hC⟩)
end
section
/-! part of the reference: its loops. (rows laid by wip/whole/rr20.py) -/
theorem WS.rt {σ0 σ : Nat → Int32} {τ0 τ : Nat → Nat → Int32} {d : List Nat} {ts : RT} (hR : rt σ0 τ0 ts) (h : WS σ0 τ0 d σ τ) : rt σ τ ts := rt_same hR (h.1 7 (by decide)) (h.2.1 3 (by decide)) (h.2.1 4 (by decide)) (h.2.1 5 (by decide)) (h.2.1 6 (by decide))
theorem dr_s {l d : List Nat} {k : Nat} (hk : k < l.length) : (d ++ [l.getD k 0]) ++ l.drop (k + 1) = d ++ l.drop k := by
  rw [List.drop_eq_getElem_cons hk, List.append_assoc, List.getD_eq_getElem?_getD, List.getElem?_eq_getElem hk]; rfl
theorem tk_s {l : List Nat} {k : Nat} (hk : k < l.length) : l.take k ++ [l.getD k 0] = l.take (k + 1) := by
  rw [List.take_succ, List.getD_eq_getElem?_getD, List.getElem?_eq_getElem hk]; rfl
set_option maxRecDepth 100000 in
set_option maxHeartbeats 2000000 in
theorem pt_157 {X : ev_X} {c0 : Nat} {Q : Option Value → (Nat → Int32) → (Nat → Nat → Int32) → Prop} {σ0 : Nat → Int32} {τ0 : Nat → Nat → Int32} {ts : RT} (hR : rt σ0 τ0 ts) {i : Nat} (hi : i < ts.length) (wv qv : Int32) : ∀ (m k : Nat) (d : List Nat) (σ : Nat → Int32) (τ : Nat → Nat → Int32) (hm : k + m = (bys ts i).length) (hd : d.length + m ≤ 259) (hW : WS σ0 τ0 d σ τ) (hK : ∀ (σ' : Nat → Int32) (τ' : Nat → Nat → Int32), WS σ0 τ0 (d ++ (bys ts i).drop k) σ' τ' → Rx X c0 m_Mod_part 184 [.ref (c0 + 16), .int (nI (i + 1)), .int wv, .int qv, .int (nI (bys ts i).length)] [] σ' τ' Q), Rx X c0 m_Mod_part 157 [.ref (c0 + 16), .int (nI (i + 1)), .int wv, .int qv, .int (nI k)] [] σ τ Q := by
  intro m
  induction m with
  | zero =>
    intro k d σ τ hm hd hW hK
    have h260 := (rt_ok hR hi).2.2.1
    refine Rx.go (fun _ => rfl) ?_
    refine Rx.go (fun _ => rfl) ?_
    refine Rx.go (fun _ => rfl) ?_
    refine Rx.callE rfl rfl rfl rfl (rx_lenOf X c0 _ _ (WS.rt hR hW) hi) ?_
    show Rx X c0 m_Mod_part 164 [.ref (c0 + 16), .int (nI (i + 1)), .int wv, .int qv, .int (nI k)] [.int (nI (bys ts i).length), .int (nI k)] σ τ _
    refine Rx.go (fun _ => rfl) ?_
    refine Rx.ite (fun c1 => ?_) (fun c1 => ?_)
    · replace c1 : (nI (bys ts i).length) ≤ (nI k) := of_decide_eq_true c1
      show Rx X c0 m_Mod_part 184 [.ref (c0 + 16), .int (nI (i + 1)), .int wv, .int qv, .int (nI k)] [] σ τ _
      show Rx X c0 m_Mod_part 184 [.ref (c0 + 16), .int (nI (i + 1)), .int wv, .int qv, .int (nI k)] [] σ τ _
      have e : k = (bys ts i).length := by omega
      subst e
      rw [List.drop_length, List.append_nil] at hK
      exact hK _ _ hW
    · replace c1 : ¬ (nI (bys ts i).length) ≤ (nI k) := of_decide_eq_false c1
      exact absurd (show nI (bys ts i).length ≤ nI k by rw [show k = (bys ts i).length by omega]; exact Int32.le_refl _) c1
  | succ m ih =>
    intro k d σ τ hm hd hW hK
    have h260 := (rt_ok hR hi).2.2.1
    refine Rx.go (fun _ => rfl) ?_
    refine Rx.go (fun _ => rfl) ?_
    refine Rx.go (fun _ => rfl) ?_
    refine Rx.callE rfl rfl rfl rfl (rx_lenOf X c0 _ _ (WS.rt hR hW) hi) ?_
    show Rx X c0 m_Mod_part 164 [.ref (c0 + 16), .int (nI (i + 1)), .int wv, .int qv, .int (nI k)] [.int (nI (bys ts i).length), .int (nI k)] σ τ _
    refine Rx.go (fun _ => rfl) ?_
    refine Rx.ite (fun c1 => ?_) (fun c1 => ?_)
    · replace c1 : (nI (bys ts i).length) ≤ (nI k) := of_decide_eq_true c1
      exact absurd ((nI_leI (by omega) (by omega)).mp c1) (by omega)
    · replace c1 : ¬ (nI (bys ts i).length) ≤ (nI k) := of_decide_eq_false c1
      show Rx X c0 m_Mod_part 167 [.ref (c0 + 16), .int (nI (i + 1)), .int wv, .int qv, .int (nI k)] [] σ τ _
      refine Rx.go (fun _ => rfl) ?_
      refine Rx.go (fun _ => rfl) ?_
      refine Rx.go (fun _ => rfl) ?_
      refine Rx.go (fun _ => rfl) ?_
      refine Rx.callE rfl rfl rfl rfl (rx_byteAt X c0 _ _ (WS.rt hR hW) hi (j := k) (by omega)) ?_
      show Rx X c0 m_Mod_part 175 [.ref (c0 + 16), .int (nI (i + 1)), .int wv, .int qv, .int (nI k)] [.int (nI ((bys ts i).getD k 0)), .ref (c0 + 16)] σ τ _
      refine Rx.callP rfl rfl rfl rfl (ws_put ((bys ts i).getD k 0) hW (by omega) ((rt_ok hR hi).1 k)) ?_
      intro σ1 τ1 hW1
      show Rx X c0 m_Mod_part 178 [.ref (c0 + 16), .int (nI (i + 1)), .int wv, .int qv, .int (nI k)] [] σ1 τ1 _
      refine Rx.go (fun _ => rfl) ?_
      show Rx X c0 m_Mod_part 181 [.ref (c0 + 16), .int (nI (i + 1)), .int wv, .int qv, .int ((nI k) + 1)] [] σ1 τ1 _
      refine Rx.go (fun _ => rfl) ?_
      show Rx X c0 m_Mod_part 157 [.ref (c0 + 16), .int (nI (i + 1)), .int wv, .int qv, .int ((nI k) + 1)] [] σ1 τ1 _
      rw [show nI k + 1 = nI (k + 1) from nI_1 k]
      exact ih (k + 1) (d ++ [(bys ts i).getD k 0]) _ _ (by omega) (by simp only [List.length_append, List.length_cons, List.length_nil]; omega) hW1 (by rw [dr_s (by omega)]; exact hK)
set_option maxRecDepth 100000 in
set_option maxHeartbeats 2000000 in
theorem pt_221 {X : ev_X} {c0 : Nat} {Q : Option Value → (Nat → Int32) → (Nat → Nat → Int32) → Prop} {σ0 : Nat → Int32} {τ0 : Nat → Nat → Int32} {ts : RT} (hR : rt σ0 τ0 ts) {i : Nat} (hi : i < ts.length) (wv qv : Int32) : ∀ (m k : Nat) (d : List Nat) (σ : Nat → Int32) (τ : Nat → Nat → Int32) (hm : k + m = (bys ts i).length) (hd : d.length + m ≤ 259) (hW : WS σ0 τ0 d σ τ) (hK : ∀ (σ' : Nat → Int32) (τ' : Nat → Nat → Int32), WS σ0 τ0 (d ++ (bys ts i).drop k) σ' τ' → Rx X c0 m_Mod_part 248 [.ref (c0 + 16), .int (nI (i + 1)), .int wv, .int qv, .int (nI (bys ts i).length)] [] σ' τ' Q), Rx X c0 m_Mod_part 221 [.ref (c0 + 16), .int (nI (i + 1)), .int wv, .int qv, .int (nI k)] [] σ τ Q := by
  intro m
  induction m with
  | zero =>
    intro k d σ τ hm hd hW hK
    have h260 := (rt_ok hR hi).2.2.1
    refine Rx.go (fun _ => rfl) ?_
    refine Rx.go (fun _ => rfl) ?_
    refine Rx.go (fun _ => rfl) ?_
    refine Rx.callE rfl rfl rfl rfl (rx_lenOf X c0 _ _ (WS.rt hR hW) hi) ?_
    show Rx X c0 m_Mod_part 228 [.ref (c0 + 16), .int (nI (i + 1)), .int wv, .int qv, .int (nI k)] [.int (nI (bys ts i).length), .int (nI k)] σ τ _
    refine Rx.go (fun _ => rfl) ?_
    refine Rx.ite (fun c1 => ?_) (fun c1 => ?_)
    · replace c1 : (nI (bys ts i).length) ≤ (nI k) := of_decide_eq_true c1
      show Rx X c0 m_Mod_part 248 [.ref (c0 + 16), .int (nI (i + 1)), .int wv, .int qv, .int (nI k)] [] σ τ _
      show Rx X c0 m_Mod_part 248 [.ref (c0 + 16), .int (nI (i + 1)), .int wv, .int qv, .int (nI k)] [] σ τ _
      have e : k = (bys ts i).length := by omega
      subst e
      rw [List.drop_length, List.append_nil] at hK
      exact hK _ _ hW
    · replace c1 : ¬ (nI (bys ts i).length) ≤ (nI k) := of_decide_eq_false c1
      exact absurd (show nI (bys ts i).length ≤ nI k by rw [show k = (bys ts i).length by omega]; exact Int32.le_refl _) c1
  | succ m ih =>
    intro k d σ τ hm hd hW hK
    have h260 := (rt_ok hR hi).2.2.1
    refine Rx.go (fun _ => rfl) ?_
    refine Rx.go (fun _ => rfl) ?_
    refine Rx.go (fun _ => rfl) ?_
    refine Rx.callE rfl rfl rfl rfl (rx_lenOf X c0 _ _ (WS.rt hR hW) hi) ?_
    show Rx X c0 m_Mod_part 228 [.ref (c0 + 16), .int (nI (i + 1)), .int wv, .int qv, .int (nI k)] [.int (nI (bys ts i).length), .int (nI k)] σ τ _
    refine Rx.go (fun _ => rfl) ?_
    refine Rx.ite (fun c1 => ?_) (fun c1 => ?_)
    · replace c1 : (nI (bys ts i).length) ≤ (nI k) := of_decide_eq_true c1
      exact absurd ((nI_leI (by omega) (by omega)).mp c1) (by omega)
    · replace c1 : ¬ (nI (bys ts i).length) ≤ (nI k) := of_decide_eq_false c1
      show Rx X c0 m_Mod_part 231 [.ref (c0 + 16), .int (nI (i + 1)), .int wv, .int qv, .int (nI k)] [] σ τ _
      refine Rx.go (fun _ => rfl) ?_
      refine Rx.go (fun _ => rfl) ?_
      refine Rx.go (fun _ => rfl) ?_
      refine Rx.go (fun _ => rfl) ?_
      refine Rx.callE rfl rfl rfl rfl (rx_byteAt X c0 _ _ (WS.rt hR hW) hi (j := k) (by omega)) ?_
      show Rx X c0 m_Mod_part 239 [.ref (c0 + 16), .int (nI (i + 1)), .int wv, .int qv, .int (nI k)] [.int (nI ((bys ts i).getD k 0)), .ref (c0 + 16)] σ τ _
      refine Rx.callP rfl rfl rfl rfl (ws_put ((bys ts i).getD k 0) hW (by omega) ((rt_ok hR hi).1 k)) ?_
      intro σ2 τ2 hW2
      show Rx X c0 m_Mod_part 242 [.ref (c0 + 16), .int (nI (i + 1)), .int wv, .int qv, .int (nI k)] [] σ2 τ2 _
      refine Rx.go (fun _ => rfl) ?_
      show Rx X c0 m_Mod_part 245 [.ref (c0 + 16), .int (nI (i + 1)), .int wv, .int qv, .int ((nI k) + 1)] [] σ2 τ2 _
      refine Rx.go (fun _ => rfl) ?_
      show Rx X c0 m_Mod_part 221 [.ref (c0 + 16), .int (nI (i + 1)), .int wv, .int qv, .int ((nI k) + 1)] [] σ2 τ2 _
      rw [show nI k + 1 = nI (k + 1) from nI_1 k]
      exact ih (k + 1) (d ++ [(bys ts i).getD k 0]) _ _ (by omega) (by simp only [List.length_append, List.length_cons, List.length_nil]; omega) hW2 (by rw [dr_s (by omega)]; exact hK)
set_option maxRecDepth 100000 in
set_option maxHeartbeats 2000000 in
theorem pt_94 {X : ev_X} {c0 : Nat} {Q : Option Value → (Nat → Int32) → (Nat → Nat → Int32) → Prop} {σ0 : Nat → Int32} {τ0 : Nat → Nat → Int32} {ts : RT} (hR : rt σ0 τ0 ts) {i : Nat} (hi : i < ts.length) (wv : Int32) {q : Nat} (hq : q + 1 ≤ (bys ts i).length) (hK : ∀ (σ' : Nat → Int32) (τ' : Nat → Nat → Int32), WS σ0 τ0 ((bys ts i).take (q + 1)) σ' τ' → Rx X c0 m_Mod_part 117 [.ref (c0 + 16), .int (nI (i + 1)), .int wv, .int (nI q), .int (nI (q + 1))] [] σ' τ' Q) : ∀ (m k : Nat) (σ : Nat → Int32) (τ : Nat → Nat → Int32) (hm : k + m = q + 1) (hW : WS σ0 τ0 ((bys ts i).take k) σ τ), Rx X c0 m_Mod_part 94 [.ref (c0 + 16), .int (nI (i + 1)), .int wv, .int (nI q), .int (nI k)] [] σ τ Q := by
  intro m
  induction m with
  | zero =>
    intro k σ τ hm hW
    have h260 := (rt_ok hR hi).2.2.1
    refine Rx.go (fun _ => rfl) ?_
    refine Rx.go (fun _ => rfl) ?_
    refine Rx.go (fun _ => rfl) ?_
    refine Rx.ite (fun c1 => ?_) (fun c1 => ?_)
    · replace c1 : (nI q) < (nI k) := of_decide_eq_true c1
      show Rx X c0 m_Mod_part 117 [.ref (c0 + 16), .int (nI (i + 1)), .int wv, .int (nI q), .int (nI k)] [] σ τ _
      show Rx X c0 m_Mod_part 117 [.ref (c0 + 16), .int (nI (i + 1)), .int wv, .int (nI q), .int (nI k)] [] σ τ _
      have e : k = q + 1 := by omega
      subst e
      exact hK _ _ hW
    · replace c1 : ¬ (nI q) < (nI k) := of_decide_eq_false c1
      exact absurd ((nI_ltI (by omega) (by omega)).mpr (show q < k by omega)) c1
  | succ m ih =>
    intro k σ τ hm hW
    have h260 := (rt_ok hR hi).2.2.1
    refine Rx.go (fun _ => rfl) ?_
    refine Rx.go (fun _ => rfl) ?_
    refine Rx.go (fun _ => rfl) ?_
    refine Rx.ite (fun c1 => ?_) (fun c1 => ?_)
    · replace c1 : (nI q) < (nI k) := of_decide_eq_true c1
      exact absurd ((nI_ltI (by omega) (by omega)).mp c1) (by omega)
    · replace c1 : ¬ (nI q) < (nI k) := of_decide_eq_false c1
      show Rx X c0 m_Mod_part 100 [.ref (c0 + 16), .int (nI (i + 1)), .int wv, .int (nI q), .int (nI k)] [] σ τ _
      refine Rx.go (fun _ => rfl) ?_
      refine Rx.go (fun _ => rfl) ?_
      refine Rx.go (fun _ => rfl) ?_
      refine Rx.go (fun _ => rfl) ?_
      refine Rx.callE rfl rfl rfl rfl (rx_byteAt X c0 _ _ (WS.rt hR hW) hi (j := k) (by omega)) ?_
      show Rx X c0 m_Mod_part 108 [.ref (c0 + 16), .int (nI (i + 1)), .int wv, .int (nI q), .int (nI k)] [.int (nI ((bys ts i).getD k 0)), .ref (c0 + 16)] σ τ _
      refine Rx.callP rfl rfl rfl rfl (ws_put ((bys ts i).getD k 0) hW (by rw [List.length_take]; omega) ((rt_ok hR hi).1 k)) ?_
      intro σ3 τ3 hW3
      show Rx X c0 m_Mod_part 111 [.ref (c0 + 16), .int (nI (i + 1)), .int wv, .int (nI q), .int (nI k)] [] σ3 τ3 _
      refine Rx.go (fun _ => rfl) ?_
      show Rx X c0 m_Mod_part 114 [.ref (c0 + 16), .int (nI (i + 1)), .int wv, .int (nI q), .int ((nI k) + 1)] [] σ3 τ3 _
      refine Rx.go (fun _ => rfl) ?_
      show Rx X c0 m_Mod_part 94 [.ref (c0 + 16), .int (nI (i + 1)), .int wv, .int (nI q), .int ((nI k) + 1)] [] σ3 τ3 _
      rw [show nI k + 1 = nI (k + 1) from nI_1 k]
      exact ih (k + 1) _ _ (by omega) (by rw [← tk_s (by omega)]; exact hW3)
end
section
/-! part of the reference: to its end. (rows laid by wip/whole/rr21.py) -/
theorem RC.dr {ts : RT} {t sh d : List Nat} {u pl : Nat} {σ σ2 : Nat → Int32} {τ τ2 : Nat → Nat → Int32} (h : RC ts t u pl sh σ τ) (h4 : ∀ k, k ≠ 10 → k ≠ 11 → k ≠ 12 → k ≠ 13 → σ2 k = σ k) (h8 : ∀ k, k ≠ 9 → τ2 k = τ k) (hd : σ2 10 = nI d.length) (hl : d.length ≤ 250) : RC ts t u pl sh σ2 τ2 := by
  obtain ⟨a1, ⟨b1, b2, b3, b4⟩, ⟨c1, c2⟩, ⟨d1, d2, d3, d4⟩, e1, -⟩ := h
  refine ⟨rt_same a1 (h4 7 (by decide) (by decide) (by decide) (by decide)) (h8 3 (by decide)) (h8 4 (by decide)) (h8 5 (by decide)) (h8 6 (by decide)), ⟨(h4 1 (by decide) (by decide) (by decide) (by decide)).trans b1, b2, fun j hj => ?_, b4⟩, ⟨(h4 8 (by decide) (by decide) (by decide) (by decide)).trans c1, c2⟩, ⟨(h4 15 (by decide) (by decide) (by decide) (by decide)).trans d1, d2, fun k hk => ?_, d4⟩, (h4 2 (by decide) (by decide) (by decide) (by decide)).trans e1, _, hd, hl⟩
  · rw [h8 0 (by decide)]; exact b3 j hj
  · rw [h8 14 (by decide)]; exact d3 k hk
/-- the draft is made, from 258 -/
theorem pt_end {X : ev_X} {c0 : Nat} {ts : RT} {t sh : List Nat} {u pl : Nat} {σ : Nat → Int32} {τ : Nat → Nat → Int32} {σ2 : Nat → Int32} {τ2 : Nat → Nat → Int32} {d : List Nat} {dk q db : Nat} {A : List Value} {v1 v2 v3 v4 : Value} (hA : A = [.ref (c0 + 16), v1, v2, v3, v4]) (hroom : off ts ts.length + 260 ≤ 132000) (hC : RC ts t u pl sh σ τ) (h4 : ∀ k, k ≠ 10 → k ≠ 11 → k ≠ 12 → k ≠ 13 → σ2 k = σ k) (h8 : ∀ k, k ≠ 9 → τ2 k = τ k) (hd : drf σ2 τ2 d) (hl : d.length ≤ 250) (h11 : σ2 11 = nI dk) (hdk : dk < 16) (h12 : σ2 12 = nI q) (hq : q ≤ 260) (h13 : σ2 13 = nI db) (hdb : db ≤ 1000) : Rx X c0 m_Mod_part 258 A [] σ2 τ2 (fun r σ' τ' => ∃ ts' u', RC ts' t u' pl sh σ' τ' ∧ mdR ts dk d q u db r ts' u') := by
  subst hA
  have hC1 := hC.dr h4 h8 hd.1 hl
  refine Rx.go (fun _ => rfl) ?_
  refine Rx.call rfl rfl rfl rfl (rx_makeDraft X c0 _ _ hC1.1 hd h11 hdk h12 hq (u := u) hC1.2.2.1.1 hC1.2.2.1.2 h13 hdb (by omega)) ?_
  intro v σ3 τ3 hM
  exact mdP_ret (ts := ts) (dk := dk) (q := q) (u := u) (db := db) (d := d) rfl rfl hM (fun hM => hC1.md hM)
theorem rbg_o {σ : Nat → Int32} {b : Int32} {k : Nat} (h1 : k ≠ 10) (h2 : k ≠ 11) (h3 : k ≠ 12) (h4 : k ≠ 13) : rbg σ b k = σ k := by rw [rbg, pk_un h4, pk_un h3, pk_un h1, pk_un h2]
theorem itl_le : ∀ l : List Nat, itl l ≤ l.length := by
  intro l
  induction l using itl.induct <;> simp_all [itl] <;> omega
set_option maxRecDepth 100000 in
set_option maxHeartbeats 2000000 in
theorem pt_w0 {X : ev_X} {c0 : Nat} {ts : RT} {t sh : List Nat} {u pl : Nat} {σ : Nat → Int32} {τ : Nat → Nat → Int32} {i q : Nat} (hroom : off ts ts.length + 260 ≤ 132000) (hC : RC ts t u pl sh σ τ) (hi : i < ts.length) (hq : q + 1 ≤ (bys ts i).length) (hl : (bys ts i).length ≤ 250) (v4 : Value) : Rx X c0 m_Mod_part 86 [.ref (c0 + 16), .int (nI (i + 1)), .int 0, .int (nI q), v4] [] σ τ (fun r σ' τ' => ∃ ts' u', RC ts' t u' pl sh σ' τ' ∧ mdR ts 5 ((bys ts i).take (q + 1)) q u (itl (((bys ts i).take q).drop 1)) r ts' u') := by
  refine Rx.go (fun _ => rfl) ?_
  refine Rx.go (fun _ => rfl) ?_
  refine Rx.callE rfl rfl rfl rfl (rx_begin X c0 _ _ 5) ?_
  show Rx X c0 m_Mod_part 91 [.ref (c0 + 16), .int (nI (i + 1)), .int 0, .int (nI q), v4] [] (rbg σ 5) τ _
  refine Rx.go (fun _ => rfl) ?_
  refine Rx.go (fun _ => rfl) ?_
  show Rx X c0 m_Mod_part 94 [.ref (c0 + 16), .int (nI (i + 1)), .int 0, .int (nI q), .int 0] [] (rbg σ 5) τ _
  show Rx X c0 m_Mod_part 94 [.ref (c0 + 16), .int (nI (i + 1)), .int 0, .int (nI q), .int 0] [] (rbg σ 5) τ _
  refine pt_94 (σ0 := rbg σ 5) (τ0 := τ) (rt_same hC.1 rfl rfl rfl rfl rfl) hi 0 hq (fun σ' τ' hW => ?_) (q + 1) 0 _ _ (by omega) (ws_0 rfl)
  have h4 : ∀ k, k ≠ 10 → k ≠ 11 → k ≠ 12 → k ≠ 13 → σ' k = σ k := fun k k1 k2 k3 k4 => (hW.1 k k1).trans (rbg_o k1 k2 k3 k4)
  have h8 := hW.2.1
  refine Rx.go (fun _ => rfl) ?_
  refine Rx.go (fun _ => rfl) ?_
  refine Rx.put rfl (by decide) rfl rfl ?_
  refine Rx.go (fun _ => rfl) ?_
  refine Rx.go (fun _ => rfl) ?_
  refine Rx.go (fun _ => rfl) ?_
  refine Rx.go (fun _ => rfl) ?_
  refine Rx.go (fun _ => rfl) ?_
  refine Rx.callE rfl rfl rfl rfl (rx_items X c0 (upd σ' 12 (nI q)) τ' (rt_same (σ' := upd σ' 12 (nI q)) hC.1 (h4 7 (by decide) (by decide) (by decide) (by decide)) (h8 3 (by decide)) (h8 4 (by decide)) (h8 5 (by decide)) (h8 6 (by decide))) hi (f := 1) (e := q) (by omega) (by omega)) ?_
  show Rx X c0 m_Mod_part 130 [.ref (c0 + 16), .int (nI (i + 1)), .int 0, .int (nI q), .int (nI (q + 1))] [.int (nI (itl (((bys ts i).take q).drop 1))), .ref (c0 + 16)] (upd σ' 12 (nI q)) τ' _
  refine Rx.put rfl (by decide) rfl rfl ?_
  refine Rx.go (fun _ => rfl) ?_
  show Rx X c0 m_Mod_part 258 [.ref (c0 + 16), .int (nI (i + 1)), .int 0, .int (nI q), .int (nI (q + 1))] [] (upd (upd σ' 12 (nI q)) 13 (nI (itl (((bys ts i).take q).drop 1)))) τ' _
  have hlt : ((bys ts i).take (q + 1)).length ≤ 250 := by rw [List.length_take]; omega
  exact pt_end rfl hroom hC (fun k k1 k2 k3 k4 => by rw [pk_un k4, pk_un k3]; exact h4 k k1 k2 k3 k4) h8 ⟨hW.2.2.1, hW.2.2.2.1, hW.2.2.2.2.1, hW.2.2.2.2.2⟩ hlt (dk := 5) (hW.1 11 (by decide)) (by decide) (q := q) rfl (by omega) (db := itl (((bys ts i).take q).drop 1)) rfl (by have := itl_le (((bys ts i).take q).drop 1); rw [List.length_drop, List.length_take] at this; omega)
end
section
/-! part of the reference: the language, the type. (rows laid by wip/whole/rr22.py) -/
theorem WS.up {σ0 σ : Nat → Int32} {τ0 τ : Nat → Nat → Int32} {d : List Nat} {j : Nat} {x : Int32} (h : WS σ0 τ0 d σ τ) (hj : j ≠ 10) : WS (upd σ0 j x) τ0 d (upd σ j x) τ := by
  obtain ⟨h1, h2, h3, h4, h5, h6⟩ := h
  refine ⟨fun k hk => ?_, h2, by rw [pk_un (Ne.symm hj)]; exact h3, h4, h5, h6⟩
  by_cases q : k = j
  · subst q; rw [pk_us, pk_us]
  · rw [pk_un q, pk_un q]; exact h1 k hk
set_option maxRecDepth 100000 in
set_option maxHeartbeats 2000000 in
theorem pt_w1 {X : ev_X} {c0 : Nat} {ts : RT} {t sh : List Nat} {u pl : Nat} {σ : Nat → Int32} {τ : Nat → Nat → Int32} {i q : Nat} (hroom : off ts ts.length + 260 ≤ 132000) (hC : RC ts t u pl sh σ τ) (hi : i < ts.length) (hq : q + 2 ≤ (bys ts i).length) (hl : (bys ts i).length ≤ 250) (v4 : Value) : Rx X c0 m_Mod_part 141 [.ref (c0 + 16), .int (nI (i + 1)), .int 1, .int (nI q), v4] [] σ τ (fun r σ' τ' => ∃ ts' u', RC ts' t u' pl sh σ' τ' ∧ mdR ts 5 ([34] ++ (bys ts i).drop (q + 2) ++ [34]) (((bys ts i).drop (q + 2)).length + 1) u ((bys ts i).drop (q + 2)).length r ts' u') := by
  refine Rx.go (fun _ => rfl) ?_
  refine Rx.go (fun _ => rfl) ?_
  refine Rx.callE rfl rfl rfl rfl (rx_begin X c0 _ _ 5) ?_
  show Rx X c0 m_Mod_part 146 [.ref (c0 + 16), .int (nI (i + 1)), .int 1, .int (nI q), v4] [] (rbg σ 5) τ _
  refine Rx.go (fun _ => rfl) ?_
  refine Rx.go (fun _ => rfl) ?_
  refine Rx.callP rfl rfl rfl rfl (ws_put 34 (ws_0 rfl) (by decide) (by decide)) ?_
  intro σ101 τ101 hW101
  show Rx X c0 m_Mod_part 152 [.ref (c0 + 16), .int (nI (i + 1)), .int 1, .int (nI q), v4] [] σ101 τ101 _
  refine Rx.go (fun _ => rfl) ?_
  refine Rx.go (fun _ => rfl) ?_
  refine Rx.go (fun _ => rfl) ?_
  refine Rx.top (y := nI (q + 2)) (nI_add q 2) ?_
  refine Rx.go (fun _ => rfl) ?_
  show Rx X c0 m_Mod_part 157 [.ref (c0 + 16), .int (nI (i + 1)), .int 1, .int (nI q), .int (nI (q + 2))] [] σ101 τ101 _
  show Rx X c0 m_Mod_part 157 [.ref (c0 + 16), .int (nI (i + 1)), .int 1, .int (nI q), .int (nI (q + 2))] [] σ101 τ101 _
  refine pt_157 (σ0 := rbg σ 5) (τ0 := τ) (rt_same hC.1 rfl rfl rfl rfl rfl) hi 1 (nI q) ((bys ts i).length - (q + 2)) (q + 2) [34] _ _ (by omega) (by simp only [List.length_cons, List.length_nil]; omega) hW101 (fun σ' τ' hW => ?_)
  have h4 : ∀ k, k ≠ 10 → k ≠ 11 → k ≠ 12 → k ≠ 13 → σ' k = σ k := fun k k1 k2 k3 k4 => (hW.1 k k1).trans (rbg_o k1 k2 k3 k4)
  have h8 := hW.2.1
  have hdl : ((bys ts i).drop (q + 2)).length + (q + 2) = (bys ts i).length := by rw [List.length_drop]; omega
  refine Rx.go (fun _ => rfl) ?_
  refine Rx.go (fun _ => rfl) ?_
  refine Rx.get rfl rfl ?_
  refine Rx.top (y := nI (((bys ts i).drop (q + 2)).length + 1)) (hW.2.2.1.trans (congrArg nI (by simp only [List.length_append, List.length_cons, List.length_nil]; omega))) ?_
  refine Rx.go (fun _ => rfl) ?_
  refine Rx.go (fun _ => rfl) ?_
  refine Rx.top (y := nI ((bys ts i).drop (q + 2)).length) (nI_s1 _) ?_
  refine Rx.put rfl (by decide) rfl rfl ?_
  refine Rx.go (fun _ => rfl) ?_
  refine Rx.go (fun _ => rfl) ?_
  refine Rx.get rfl rfl ?_
  refine Rx.top (y := nI (((bys ts i).drop (q + 2)).length + 1)) (hW.2.2.1.trans (congrArg nI (by simp only [List.length_append, List.length_cons, List.length_nil]; omega))) ?_
  refine Rx.put rfl (by decide) rfl rfl ?_
  refine Rx.go (fun _ => rfl) ?_
  refine Rx.go (fun _ => rfl) ?_
  refine Rx.callP rfl rfl rfl rfl (ws_put 34 ((hW.up (j := 13) (x := nI ((bys ts i).drop (q + 2)).length) (by decide)).up (j := 12) (x := nI (((bys ts i).drop (q + 2)).length + 1)) (by decide)) (by simp only [List.length_append, List.length_cons, List.length_nil]; omega) (by decide)) ?_
  intro σ102 τ102 hW102
  show Rx X c0 m_Mod_part 208 [.ref (c0 + 16), .int (nI (i + 1)), .int 1, .int (nI q), .int (nI (bys ts i).length)] [] σ102 τ102 _
  refine Rx.go (fun _ => rfl) ?_
  show Rx X c0 m_Mod_part 258 [.ref (c0 + 16), .int (nI (i + 1)), .int 1, .int (nI q), .int (nI (bys ts i).length)] [] σ102 τ102 _
  exact pt_end rfl hroom hC (fun k k1 k2 k3 k4 => by rw [hW102.1 k k1, pk_un k3, pk_un k4]; exact rbg_o k1 k2 k3 k4) hW102.2.1 hW102.2.2 (by simp only [List.length_append, List.length_cons, List.length_nil]; omega) (dk := 5) (hW102.1 11 (by decide)) (by decide) (q := ((bys ts i).drop (q + 2)).length + 1) (hW102.1 12 (by decide)) (by omega) (db := ((bys ts i).drop (q + 2)).length) (hW102.1 13 (by decide)) (by omega)
set_option maxRecDepth 100000 in
set_option maxHeartbeats 2000000 in
theorem pt_w2 {X : ev_X} {c0 : Nat} {ts : RT} {t sh : List Nat} {u pl : Nat} {σ : Nat → Int32} {τ : Nat → Nat → Int32} {i q : Nat} (hroom : off ts ts.length + 260 ≤ 132000) (hC : RC ts t u pl sh σ τ) (hi : i < ts.length) (hq : q + 5 ≤ (bys ts i).length) (hl : (bys ts i).length ≤ 250) (v4 : Value) : Rx X c0 m_Mod_part 211 [.ref (c0 + 16), .int (nI (i + 1)), .int 2, .int (nI q), v4] [] σ τ (fun r σ' τ' => ∃ ts' u', RC ts' t u' pl sh σ' τ' ∧ mdR ts 2 ((bys ts i).drop (q + 3)) 0 u (((bys ts i).drop (q + 3)).length - 2) r ts' u') := by
  refine Rx.go (fun _ => rfl) ?_
  refine Rx.go (fun _ => rfl) ?_
  refine Rx.callE rfl rfl rfl rfl (rx_begin X c0 _ _ 2) ?_
  show Rx X c0 m_Mod_part 216 [.ref (c0 + 16), .int (nI (i + 1)), .int 2, .int (nI q), v4] [] (rbg σ 2) τ _
  refine Rx.go (fun _ => rfl) ?_
  refine Rx.go (fun _ => rfl) ?_
  refine Rx.go (fun _ => rfl) ?_
  refine Rx.top (y := nI (q + 3)) (nI_add q 3) ?_
  refine Rx.go (fun _ => rfl) ?_
  show Rx X c0 m_Mod_part 221 [.ref (c0 + 16), .int (nI (i + 1)), .int 2, .int (nI q), .int (nI (q + 3))] [] (rbg σ 2) τ _
  show Rx X c0 m_Mod_part 221 [.ref (c0 + 16), .int (nI (i + 1)), .int 2, .int (nI q), .int (nI (q + 3))] [] (rbg σ 2) τ _
  refine pt_221 (σ0 := rbg σ 2) (τ0 := τ) (rt_same hC.1 rfl rfl rfl rfl rfl) hi 2 (nI q) ((bys ts i).length - (q + 3)) (q + 3) [] _ _ (by omega) (by simp only [List.length_cons, List.length_nil]; omega) (ws_0 rfl) (fun σ' τ' hW => ?_)
  have h4 : ∀ k, k ≠ 10 → k ≠ 11 → k ≠ 12 → k ≠ 13 → σ' k = σ k := fun k k1 k2 k3 k4 => (hW.1 k k1).trans (rbg_o k1 k2 k3 k4)
  have h8 := hW.2.1
  have hdl : ((bys ts i).drop (q + 3)).length + (q + 3) = (bys ts i).length := by rw [List.length_drop]; omega
  refine Rx.go (fun _ => rfl) ?_
  refine Rx.go (fun _ => rfl) ?_
  refine Rx.get rfl rfl ?_
  refine Rx.top (y := nI ((bys ts i).drop (q + 3)).length) hW.2.2.1 ?_
  refine Rx.go (fun _ => rfl) ?_
  refine Rx.go (fun _ => rfl) ?_
  refine Rx.top (y := nI (((bys ts i).drop (q + 3)).length - 2)) (pk_sub (b := 2) (by omega)) ?_
  refine Rx.put rfl (by decide) rfl rfl ?_
  show Rx X c0 m_Mod_part 258 [.ref (c0 + 16), .int (nI (i + 1)), .int 2, .int (nI q), .int (nI (bys ts i).length)] [] (upd σ' 13 (nI (((bys ts i).drop (q + 3)).length - 2))) τ' _
  exact pt_end rfl hroom hC (fun k k1 k2 k3 k4 => by rw [pk_un k4]; exact h4 k k1 k2 k3 k4) h8 ⟨hW.2.2.1, hW.2.2.2.1, hW.2.2.2.2.1, hW.2.2.2.2.2⟩ (d := (bys ts i).drop (q + 3)) (by omega) (dk := 2) (hW.1 11 (by decide)) (by decide) (q := 0) (hW.1 12 (by decide)) (by decide) (db := ((bys ts i).drop (q + 3)).length - 2) rfl (by omega)
end
section
/-! part of the reference. (rows laid by wip/whole/rr23.py) -/
/-- part's answer, and the table behind it -/
def ptR (ts : RT) (i u : Nat) (w : Int32) (r : Option Value) (ts' : RT) (u' : Nat) : Prop := (w = 0 ∧ 5 ≤ knd ts i ∧ knd ts i ≤ 7 ∧ mdR ts 5 ((bys ts i).take (quo ts i + 1)) (quo ts i) u (itl (((bys ts i).take (quo ts i)).drop 1)) r ts' u') ∨ (w = 1 ∧ knd ts i = 6 ∧ mdR ts 5 ([34] ++ (bys ts i).drop (quo ts i + 2) ++ [34]) (((bys ts i).drop (quo ts i + 2)).length + 1) u ((bys ts i).drop (quo ts i + 2)).length r ts' u') ∨ (w = 2 ∧ knd ts i = 7 ∧ mdR ts 2 ((bys ts i).drop (quo ts i + 3)) 0 u (((bys ts i).drop (quo ts i + 3)).length - 2) r ts' u') ∨ (¬ (5 ≤ knd ts i ∧ knd ts i ≤ 7 ∧ (w = 0 ∨ (w = 1 ∧ knd ts i = 6) ∨ (w = 2 ∧ knd ts i = 7))) ∧ r = some (.int (-2)) ∧ ts' = ts ∧ u' = u)
theorem i32_02 {w : Int32} (h1 : ¬ w < 0) (h2 : ¬ 2 < w) : w = 0 ∨ w = 1 ∨ w = 2 := by
  obtain ⟨m, hm, rfl⟩ := nI_of2 (M := 2) (n := 2) rfl h1 (Int32.not_lt.mp h2)
  have h : m = 0 ∨ m = 1 ∨ m = 2 := by omega
  rcases h with rfl | rfl | rfl
  · exact Or.inl rfl
  · exact Or.inr (Or.inl rfl)
  · exact Or.inr (Or.inr rfl)
set_option maxRecDepth 100000 in
set_option maxHeartbeats 2000000 in
theorem rc_part {X : ev_X} {c0 : Nat} {ts : RT} {t sh : List Nat} {u pl : Nat} {σ : Nat → Int32} {τ : Nat → Nat → Int32} {i : Nat} (hroom : off ts ts.length + 260 ≤ 132000) (hC : RC ts t u pl sh σ τ) (hi : i < ts.length) (hq : 5 ≤ knd ts i → knd ts i ≤ 7 → quo ts i + 1 ≤ (bys ts i).length ∧ (knd ts i = 6 → quo ts i + 2 ≤ (bys ts i).length) ∧ (knd ts i = 7 → quo ts i + 5 ≤ (bys ts i).length)) (hl : (bys ts i).length ≤ 250) (w : Int32) : Rx X c0 m_Mod_part 0 [.ref (c0 + 16), .int (nI (i + 1)), .int w, ev_dead, ev_dead] [] σ τ (fun r σ' τ' => ∃ ts' u', RC ts' t u' pl sh σ' τ' ∧ ptR ts i u w r ts' u') := by
  have hk16 := (rt_ok hC.1 hi).2.1
  refine Rx.go (fun _ => rfl) ?_
  refine Rx.go (fun _ => rfl) ?_
  refine Rx.callE rfl rfl rfl rfl (rx_isT X c0 σ τ hC.1 hi) ?_
  show Rx X c0 m_Mod_part 5 [.ref (c0 + 16), .int (nI (i + 1)), .int w, ev_dead, ev_dead] [.int 1] σ τ _
  refine Rx.go (fun _ => rfl) ?_
  show Rx X c0 m_Mod_part 10 [.ref (c0 + 16), .int (nI (i + 1)), .int w, ev_dead, ev_dead] [] σ τ _
  refine Rx.go (fun _ => rfl) ?_
  refine Rx.get rfl rfl ?_
  refine Rx.go (fun _ => rfl) ?_
  refine Rx.aldE (v := nI (quo ts i)) 6 rfl rfl (nI_ix (N := 2002) (n := i + 1) (by have := hC.1.2.1; omega) (by decide)) (rt_q hC.1 hi) ?_
  refine Rx.go (fun _ => rfl) ?_
  show Rx X c0 m_Mod_part 17 [.ref (c0 + 16), .int (nI (i + 1)), .int w, .int (nI (quo ts i)), ev_dead] [] σ τ _
  refine Rx.go (fun _ => rfl) ?_
  refine Rx.get rfl rfl ?_
  refine Rx.go (fun _ => rfl) ?_
  refine Rx.aldE (v := nI (knd ts i)) 5 rfl rfl (nI_ix (N := 2002) (n := i + 1) (by have := hC.1.2.1; omega) (by decide)) (rt_k hC.1 hi) ?_
  refine Rx.go (fun _ => rfl) ?_
  refine Rx.go (fun _ => rfl) ?_
  refine Rx.ite (fun c1 => ?_) (fun c1 => ?_)
  · replace c1 : (nI (knd ts i)) < 5 := of_decide_eq_true c1
    have n5 : knd ts i < 5 := (nI_ltI (b := 5) (by omega) (by decide)).mp c1
    show Rx X c0 m_Mod_part 79 [.ref (c0 + 16), .int (nI (i + 1)), .int w, .int (nI (quo ts i)), ev_dead] [] σ τ _
    refine Rx.go (fun _ => rfl) ?_
    show Rx X c0 m_Mod_part 81 [.ref (c0 + 16), .int (nI (i + 1)), .int w, .int (nI (quo ts i)), ev_dead] [.int (-2)] σ τ _
    exact Rx.ret rfl (ev_reti rfl) ⟨ts, u, hC, Or.inr (Or.inr (Or.inr ⟨fun ⟨a, b, h⟩ => by
      rcases h with h | ⟨h, h'⟩ | ⟨h, h'⟩ <;> first | omega | (subst h; first | omega), rfl, rfl, rfl⟩))⟩
  · replace c1 : ¬ (nI (knd ts i)) < 5 := of_decide_eq_false c1
    have n5 : ¬ knd ts i < 5 := fun e => c1 ((nI_ltI (b := 5) (by omega) (by decide)).mpr e)
    show Rx X c0 m_Mod_part 27 [.ref (c0 + 16), .int (nI (i + 1)), .int w, .int (nI (quo ts i)), ev_dead] [] σ τ _
    refine Rx.go (fun _ => rfl) ?_
    refine Rx.get rfl rfl ?_
    refine Rx.go (fun _ => rfl) ?_
    refine Rx.aldE (v := nI (knd ts i)) 5 rfl rfl (nI_ix (N := 2002) (n := i + 1) (by have := hC.1.2.1; omega) (by decide)) (rt_k hC.1 hi) ?_
    refine Rx.go (fun _ => rfl) ?_
    refine Rx.go (fun _ => rfl) ?_
    refine Rx.ite (fun c2 => ?_) (fun c2 => ?_)
    · replace c2 : 7 < (nI (knd ts i)) := of_decide_eq_true c2
      have n7 : 7 < knd ts i := (nI_ltI (a := 7) (by decide) (by omega)).mp c2
      show Rx X c0 m_Mod_part 79 [.ref (c0 + 16), .int (nI (i + 1)), .int w, .int (nI (quo ts i)), ev_dead] [] σ τ _
      refine Rx.go (fun _ => rfl) ?_
      show Rx X c0 m_Mod_part 81 [.ref (c0 + 16), .int (nI (i + 1)), .int w, .int (nI (quo ts i)), ev_dead] [.int (-2)] σ τ _
      exact Rx.ret rfl (ev_reti rfl) ⟨ts, u, hC, Or.inr (Or.inr (Or.inr ⟨fun ⟨a, b, h⟩ => by
        rcases h with h | ⟨h, h'⟩ | ⟨h, h'⟩ <;> first | omega | (subst h; first | omega), rfl, rfl, rfl⟩))⟩
    · replace c2 : ¬ 7 < (nI (knd ts i)) := of_decide_eq_false c2
      have n7 : ¬ 7 < knd ts i := fun e => c2 ((nI_ltI (a := 7) (by decide) (by omega)).mpr e)
      show Rx X c0 m_Mod_part 38 [.ref (c0 + 16), .int (nI (i + 1)), .int w, .int (nI (quo ts i)), ev_dead] [] σ τ _
      refine Rx.go (fun _ => rfl) ?_
      refine Rx.go (fun _ => rfl) ?_
      refine Rx.ite (fun c3 => ?_) (fun c3 => ?_)
      · replace c3 : w < 0 := of_decide_eq_true c3
        show Rx X c0 m_Mod_part 79 [.ref (c0 + 16), .int (nI (i + 1)), .int w, .int (nI (quo ts i)), ev_dead] [] σ τ _
        refine Rx.go (fun _ => rfl) ?_
        show Rx X c0 m_Mod_part 81 [.ref (c0 + 16), .int (nI (i + 1)), .int w, .int (nI (quo ts i)), ev_dead] [.int (-2)] σ τ _
        exact Rx.ret rfl (ev_reti rfl) ⟨ts, u, hC, Or.inr (Or.inr (Or.inr ⟨fun ⟨a, b, h⟩ => by
          rcases h with h | ⟨h, h'⟩ | ⟨h, h'⟩ <;> first | omega | (subst h; first | omega | (exact absurd c3 (by decide))), rfl, rfl, rfl⟩))⟩
      · replace c3 : ¬ w < 0 := of_decide_eq_false c3
        show Rx X c0 m_Mod_part 42 [.ref (c0 + 16), .int (nI (i + 1)), .int w, .int (nI (quo ts i)), ev_dead] [] σ τ _
        refine Rx.go (fun _ => rfl) ?_
        refine Rx.go (fun _ => rfl) ?_
        refine Rx.go (fun _ => rfl) ?_
        refine Rx.ite (fun c4 => ?_) (fun c4 => ?_)
        · replace c4 : 2 < w := of_decide_eq_true c4
          show Rx X c0 m_Mod_part 79 [.ref (c0 + 16), .int (nI (i + 1)), .int w, .int (nI (quo ts i)), ev_dead] [] σ τ _
          refine Rx.go (fun _ => rfl) ?_
          show Rx X c0 m_Mod_part 81 [.ref (c0 + 16), .int (nI (i + 1)), .int w, .int (nI (quo ts i)), ev_dead] [.int (-2)] σ τ _
          exact Rx.ret rfl (ev_reti rfl) ⟨ts, u, hC, Or.inr (Or.inr (Or.inr ⟨fun ⟨a, b, h⟩ => by
            rcases h with h | ⟨h, h'⟩ | ⟨h, h'⟩ <;> first | omega | (subst h; first | omega | (exact absurd c3 (by decide)) | (exact absurd c4 (by decide))), rfl, rfl, rfl⟩))⟩
        · replace c4 : ¬ 2 < w := of_decide_eq_false c4
          show Rx X c0 m_Mod_part 47 [.ref (c0 + 16), .int (nI (i + 1)), .int w, .int (nI (quo ts i)), ev_dead] [] σ τ _
          refine Rx.go (fun _ => rfl) ?_
          refine Rx.go (fun _ => rfl) ?_
          refine Rx.go (fun _ => rfl) ?_
          refine Rx.ite (fun c5 => ?_) (fun c5 => ?_)
          · replace c5 : ¬ w = 1 := of_decide_eq_true c5
            show Rx X c0 m_Mod_part 63 [.ref (c0 + 16), .int (nI (i + 1)), .int w, .int (nI (quo ts i)), ev_dead] [] σ τ _
            refine Rx.go (fun _ => rfl) ?_
            refine Rx.go (fun _ => rfl) ?_
            refine Rx.go (fun _ => rfl) ?_
            refine Rx.ite (fun c6 => ?_) (fun c6 => ?_)
            · replace c6 : ¬ w = 2 := of_decide_eq_true c6
              show Rx X c0 m_Mod_part 82 [.ref (c0 + 16), .int (nI (i + 1)), .int w, .int (nI (quo ts i)), ev_dead] [] σ τ _
              show Rx X c0 m_Mod_part 82 [.ref (c0 + 16), .int (nI (i + 1)), .int w, .int (nI (quo ts i)), ev_dead] [] σ τ _
              have hm := i32_02 c3 c4
              have e : w = 0 := hm.elim id (fun h => h.elim (fun h => absurd h c5) (fun h => absurd h c6))
              subst e
              refine Rx.go (fun _ => rfl) ?_
              refine Rx.go (fun _ => rfl) ?_
              exact (pt_w0 hroom hC hi (hq (by omega) (by omega)).1 hl _).mono (fun r σ' τ' ⟨ts', u', h1, h2⟩ => ⟨ts', u', h1, Or.inl ⟨rfl, by omega, by omega, h2⟩⟩)
            · replace c6 : w = 2 := Classical.not_not.mp (of_decide_eq_false c6)
              show Rx X c0 m_Mod_part 68 [.ref (c0 + 16), .int (nI (i + 1)), .int w, .int (nI (quo ts i)), ev_dead] [] σ τ _
              refine Rx.go (fun _ => rfl) ?_
              refine Rx.get rfl rfl ?_
              refine Rx.go (fun _ => rfl) ?_
              refine Rx.aldE (v := nI (knd ts i)) 5 rfl rfl (nI_ix (N := 2002) (n := i + 1) (by have := hC.1.2.1; omega) (by decide)) (rt_k hC.1 hi) ?_
              refine Rx.go (fun _ => rfl) ?_
              refine Rx.go (fun _ => rfl) ?_
              refine Rx.ite (fun c7 => ?_) (fun c7 => ?_)
              · replace c7 : (nI (knd ts i)) = 7 := of_decide_eq_true c7
                have nk7 : knd ts i = 7 := (nI_eq (b := 7) (by omega) (by decide)).mp c7
                show Rx X c0 m_Mod_part 82 [.ref (c0 + 16), .int (nI (i + 1)), .int w, .int (nI (quo ts i)), ev_dead] [] σ τ _
                show Rx X c0 m_Mod_part 82 [.ref (c0 + 16), .int (nI (i + 1)), .int w, .int (nI (quo ts i)), ev_dead] [] σ τ _
                have e := c6
                subst e
                refine Rx.go (fun _ => rfl) ?_
                refine Rx.go (fun _ => rfl) ?_
                refine Rx.go (fun _ => rfl) ?_
                refine Rx.go (fun _ => rfl) ?_
                refine Rx.go (fun _ => rfl) ?_
                exact (pt_w2 hroom hC hi ((hq (by omega) (by omega)).2.2 nk7) hl _).mono (fun r σ' τ' ⟨ts', u', h1, h2⟩ => ⟨ts', u', h1, Or.inr (Or.inr (Or.inl ⟨rfl, nk7, h2⟩))⟩)
              · replace c7 : ¬ (nI (knd ts i)) = 7 := of_decide_eq_false c7
                have nn7 : ¬ knd ts i = 7 := fun e => c7 (by rw [e]; rfl)
                show Rx X c0 m_Mod_part 79 [.ref (c0 + 16), .int (nI (i + 1)), .int w, .int (nI (quo ts i)), ev_dead] [] σ τ _
                refine Rx.go (fun _ => rfl) ?_
                show Rx X c0 m_Mod_part 81 [.ref (c0 + 16), .int (nI (i + 1)), .int w, .int (nI (quo ts i)), ev_dead] [.int (-2)] σ τ _
                exact Rx.ret rfl (ev_reti rfl) ⟨ts, u, hC, Or.inr (Or.inr (Or.inr ⟨fun ⟨a, b, h⟩ => by
                  rcases h with h | ⟨h, h'⟩ | ⟨h, h'⟩ <;> first | omega | (subst h; first | omega | (exact absurd c3 (by decide)) | (exact absurd c4 (by decide)) | (exact absurd c5 (by decide)) | (exact absurd c6 (by decide))), rfl, rfl, rfl⟩))⟩
          · replace c5 : w = 1 := Classical.not_not.mp (of_decide_eq_false c5)
            show Rx X c0 m_Mod_part 52 [.ref (c0 + 16), .int (nI (i + 1)), .int w, .int (nI (quo ts i)), ev_dead] [] σ τ _
            refine Rx.go (fun _ => rfl) ?_
            refine Rx.get rfl rfl ?_
            refine Rx.go (fun _ => rfl) ?_
            refine Rx.aldE (v := nI (knd ts i)) 5 rfl rfl (nI_ix (N := 2002) (n := i + 1) (by have := hC.1.2.1; omega) (by decide)) (rt_k hC.1 hi) ?_
            refine Rx.go (fun _ => rfl) ?_
            refine Rx.go (fun _ => rfl) ?_
            refine Rx.ite (fun c8 => ?_) (fun c8 => ?_)
            · replace c8 : ¬ (nI (knd ts i)) = 6 := of_decide_eq_true c8
              have nn6 : ¬ knd ts i = 6 := fun e => c8 (by rw [e]; rfl)
              show Rx X c0 m_Mod_part 79 [.ref (c0 + 16), .int (nI (i + 1)), .int w, .int (nI (quo ts i)), ev_dead] [] σ τ _
              refine Rx.go (fun _ => rfl) ?_
              show Rx X c0 m_Mod_part 81 [.ref (c0 + 16), .int (nI (i + 1)), .int w, .int (nI (quo ts i)), ev_dead] [.int (-2)] σ τ _
              exact Rx.ret rfl (ev_reti rfl) ⟨ts, u, hC, Or.inr (Or.inr (Or.inr ⟨fun ⟨a, b, h⟩ => by
                rcases h with h | ⟨h, h'⟩ | ⟨h, h'⟩ <;> first | omega | (subst h; first | omega | (exact absurd c3 (by decide)) | (exact absurd c4 (by decide)) | (exact absurd c5 (by decide))), rfl, rfl, rfl⟩))⟩
            · replace c8 : (nI (knd ts i)) = 6 := Classical.not_not.mp (of_decide_eq_false c8)
              have nk6 : knd ts i = 6 := (nI_eq (b := 6) (by omega) (by decide)).mp c8
              show Rx X c0 m_Mod_part 63 [.ref (c0 + 16), .int (nI (i + 1)), .int w, .int (nI (quo ts i)), ev_dead] [] σ τ _
              refine Rx.go (fun _ => rfl) ?_
              refine Rx.go (fun _ => rfl) ?_
              refine Rx.go (fun _ => rfl) ?_
              refine Rx.ite (fun c9 => ?_) (fun c9 => ?_)
              · replace c9 : ¬ w = 2 := of_decide_eq_true c9
                show Rx X c0 m_Mod_part 82 [.ref (c0 + 16), .int (nI (i + 1)), .int w, .int (nI (quo ts i)), ev_dead] [] σ τ _
                show Rx X c0 m_Mod_part 82 [.ref (c0 + 16), .int (nI (i + 1)), .int w, .int (nI (quo ts i)), ev_dead] [] σ τ _
                have e := c5
                subst e
                refine Rx.go (fun _ => rfl) ?_
                refine Rx.go (fun _ => rfl) ?_
                refine Rx.go (fun _ => rfl) ?_
                refine Rx.go (fun _ => rfl) ?_
                refine Rx.go (fun _ => rfl) ?_
                exact (pt_w1 hroom hC hi ((hq (by omega) (by omega)).2.1 nk6) hl _).mono (fun r σ' τ' ⟨ts', u', h1, h2⟩ => ⟨ts', u', h1, Or.inr (Or.inl ⟨rfl, nk6, h2⟩)⟩)
              · replace c9 : w = 2 := Classical.not_not.mp (of_decide_eq_false c9)
                show Rx X c0 m_Mod_part 68 [.ref (c0 + 16), .int (nI (i + 1)), .int w, .int (nI (quo ts i)), ev_dead] [] σ τ _
                refine Rx.go (fun _ => rfl) ?_
                refine Rx.get rfl rfl ?_
                refine Rx.go (fun _ => rfl) ?_
                refine Rx.aldE (v := nI (knd ts i)) 5 rfl rfl (nI_ix (N := 2002) (n := i + 1) (by have := hC.1.2.1; omega) (by decide)) (rt_k hC.1 hi) ?_
                refine Rx.go (fun _ => rfl) ?_
                refine Rx.go (fun _ => rfl) ?_
                refine Rx.ite (fun c10 => ?_) (fun c10 => ?_)
                · replace c10 : (nI (knd ts i)) = 7 := of_decide_eq_true c10
                  have nk7 : knd ts i = 7 := (nI_eq (b := 7) (by omega) (by decide)).mp c10
                  show Rx X c0 m_Mod_part 82 [.ref (c0 + 16), .int (nI (i + 1)), .int w, .int (nI (quo ts i)), ev_dead] [] σ τ _
                  show Rx X c0 m_Mod_part 82 [.ref (c0 + 16), .int (nI (i + 1)), .int w, .int (nI (quo ts i)), ev_dead] [] σ τ _
                  exact absurd (c5.symm.trans c9) (by decide)
                · replace c10 : ¬ (nI (knd ts i)) = 7 := of_decide_eq_false c10
                  have nn7 : ¬ knd ts i = 7 := fun e => c10 (by rw [e]; rfl)
                  show Rx X c0 m_Mod_part 79 [.ref (c0 + 16), .int (nI (i + 1)), .int w, .int (nI (quo ts i)), ev_dead] [] σ τ _
                  refine Rx.go (fun _ => rfl) ?_
                  show Rx X c0 m_Mod_part 81 [.ref (c0 + 16), .int (nI (i + 1)), .int w, .int (nI (quo ts i)), ev_dead] [.int (-2)] σ τ _
                  exact Rx.ret rfl (ev_reti rfl) ⟨ts, u, hC, Or.inr (Or.inr (Or.inr ⟨fun ⟨a, b, h⟩ => by
                    rcases h with h | ⟨h, h'⟩ | ⟨h, h'⟩ <;> first | omega | (subst h; first | omega | (exact absurd c3 (by decide)) | (exact absurd c4 (by decide)) | (exact absurd c5 (by decide)) | (exact absurd c9 (by decide))), rfl, rfl, rfl⟩))⟩
end
section
/-! A call of the reference that changes nothing. -/
theorem RC.id {X : ev_X} {c0 M pc : Nat} {A st : List Value} {ts : RT} {t sh : List Nat} {u pl : Nat} {σ : Nat → Int32} {τ : Nat → Nat → Int32} {x : Value} (hC : RC ts t u pl sh σ τ) (h : Rx X c0 M pc A st σ τ (fun r σ' τ' => r = some x ∧ σ' = σ ∧ τ' = τ)) : Rx X c0 M pc A st σ τ (rC ts t u pl sh x) := h.mono (fun r σ' τ' ⟨e1, e2, e3⟩ => ⟨e1, by rw [e2, e3]; exact hC⟩)
/-- a number is a term's, or no term's -/
theorem RC.num {ts : RT} {t sh : List Nat} {u pl : Nat} {σ : Nat → Int32} {τ : Nat → Nat → Int32} (hC : RC ts t u pl sh σ τ) (x : Int32) : noT σ x ∨ ∃ i, i < ts.length ∧ x = nI (i + 1) := by
  by_cases h : (!decide (x ≤ 0) && !decide (σ 7 < x)) = false
  · exact Or.inl h
  · have h1 : (!decide (x ≤ 0) && !decide (σ 7 < x)) = true := by
      cases e : (!decide (x ≤ 0) && !decide (σ 7 < x))
      · exact absurd e h
      · rfl
    rw [Bool.and_eq_true, Bool.not_eq_true', Bool.not_eq_true', decide_eq_false_iff_not, decide_eq_false_iff_not, hC.1.1] at h1
    have hl := hC.1.2.1
    obtain ⟨m, hm, rfl⟩ := nI_of2 (M := nI ts.length) (n := ts.length) (nI_toInt (by omega)) (fun q => h1.1 (Int32.le_of_lt q)) (Int32.not_lt.mp h1.2)
    refine Or.inr ⟨m - 1, ?_, ?_⟩
    · have : m ≠ 0 := fun e => h1.1 (by rw [e]; decide)
      omega
    · have : m ≠ 0 := fun e => h1.1 (by rw [e]; decide)
      rw [show m - 1 + 1 = m by omega]
end
section
/-! A number's digits, both ways: tdl and nbl against the list of digits. -/
theorem ofD_nil : ofD [] = 0 := rfl
theorem digs_l {a b : List Nat} (h : digs (a ++ b)) : digs a := fun x hx => h x (List.mem_append_left _ hx)
theorem digs_r {a b : List Nat} (h : digs (a ++ b)) : digs b := fun x hx => h x (List.mem_append_right _ hx)
theorem digs_a {a b : List Nat} (h : digs a) (h' : digs b) : digs (a ++ b) := fun x hx => (List.mem_append.mp hx).elim (h x) (h' x)
theorem snoc_ex {e : List Nat} (h : e ≠ []) : ∃ e' d, e = e' ++ [d] := ⟨e.dropLast, e.getLast h, (List.dropLast_concat_getLast h).symm⟩
theorem ofD_pos : ∀ (n : Nat) (e : List Nat), e.length = n → digs e → e ≠ [] → e.getD 0 0 ≠ 48 → 0 < ofD e := by
  intro n
  induction n with
  | zero => intro e hn _ hne; exact absurd (List.length_eq_zero_iff.mp hn) hne
  | succ n ih =>
    intro e hn hd hne h0
    obtain ⟨e', d, rfl⟩ := snoc_ex hne
    rw [ofD_s]
    have hdd := hd d (by simp)
    by_cases hz : e' = []
    · subst hz
      simp only [List.nil_append, List.getD_cons_zero] at h0
      omega
    · have hp : 0 < e'.length := List.length_pos_iff.mpr hz
      have := ih e' (by simpa using hn) (digs_l hd) hz (by rw [gd_app hp] at h0; exact h0)
      omega
theorem tdl_0 (m i ep : Nat) (h : ep ≤ i) : tdl m i 0 ep = [] := by
  cases m with
  | zero => rfl
  | succ m => rw [tdl, if_neg (by omega)]
theorem tdl_e : ∀ (m i : Nat) (e : List Nat) (ep : Nat), digs e → e.length ≤ m → ep ≤ i + e.length → (i + e.length ≤ ep ∨ e.getD 0 0 ≠ 48) → tdl m i (ofD e) ep = e.reverse := by
  intro m
  induction m with
  | zero =>
    intro i e ep hd hl h1 h2
    have : e = [] := List.length_eq_zero_iff.mp (by omega)
    subst this; rfl
  | succ m ih =>
    intro i e ep hd hl h1 h2
    by_cases hz : e = []
    · subst hz
      rw [ofD_nil, tdl_0 _ _ _ (by simpa using h1)]; rfl
    · have hc : 0 < ofD e ∨ i < ep := by
        by_cases hi : i < ep
        · exact Or.inr hi
        · refine Or.inl (ofD_pos _ e rfl hd hz ?_)
          have hp : 0 < e.length := List.length_pos_iff.mpr hz
          rcases h2 with h2 | h2
          · omega
          · exact h2
      obtain ⟨e', d, rfl⟩ := snoc_ex hz
      have hdd := hd d (by simp)
      rw [tdl, if_pos hc, ofD_s, List.reverse_append, List.reverse_cons, List.reverse_nil, List.nil_append, List.singleton_append]
      rw [show (ofD e' * 10 + (d - 48)) % 10 = d - 48 by omega, show (ofD e' * 10 + (d - 48)) / 10 = ofD e' by omega, show 48 + (d - 48) = d by omega]
      congr 1
      simp only [List.length_append, List.length_cons, List.length_nil] at hl h1 h2
      by_cases hz' : e' = []
      · subst hz'
        rw [ofD_nil, tdl_0 _ _ _ (by simpa using h1)]; rfl
      · have hp : 0 < e'.length := List.length_pos_iff.mpr hz'
        refine ih (i + 1) e' ep (digs_l hd) (by omega) (by omega) ?_
        rcases h2 with h2 | h2
        · exact Or.inl (by omega)
        · exact Or.inr (by rw [gd_app hp] at h2; exact h2)
theorem rev_get {e : List Nat} {k : Nat} (h : k < e.length) : e.reverse.getD k 0 = e.getD (e.length - 1 - k) 0 := by
  rw [List.getD_eq_getElem?_getD, List.getElem?_reverse h, ← List.getD_eq_getElem?_getD]
/-- below the dot: the last k digits -/
theorem nbl_lo {e : List Nat} {p : Nat} : ∀ k, k ≤ e.length → k < p ∨ p = 0 → nbl e.reverse p k = e.drop (e.length - k) := by
  intro k
  induction k with
  | zero => intro h1 h2; rw [nbl, Nat.sub_zero, List.drop_length]
  | succ k ih =>
    intro h1 h2
    rw [nbl, if_neg (by omega), List.nil_append, ih (by omega) (by omega), rev_get (by omega), drop_getD (k := e.length - (k + 1)) (by omega)]
    rw [show e.length - 1 - k = e.length - (k + 1) by omega, show e.length - (k + 1) + 1 = e.length - k by omega]; rfl
theorem nbl_p {e : List Nat} {p : Nat} (h0 : 0 < p) (hp : p ≤ e.length) : nbl e.reverse p p = [46] ++ e.drop (e.length - p) := by
  obtain ⟨k, rfl⟩ : ∃ k, p = k + 1 := ⟨p - 1, by omega⟩
  rw [nbl, if_pos rfl, nbl_lo k (by omega) (by omega), rev_get (by omega), drop_getD (k := e.length - (k + 1)) (by omega)]
  rw [show e.length - 1 - k = e.length - (k + 1) by omega, show e.length - (k + 1) + 1 = e.length - k by omega]; rfl
theorem nbl_hi {e : List Nat} {p : Nat} (h0 : 0 < p) : ∀ j, p + j ≤ e.length → nbl e.reverse p (p + j) = (e.drop (e.length - (p + j))).take j ++ ([46] ++ e.drop (e.length - p)) := by
  intro j
  induction j with
  | zero => intro h; rw [Nat.add_zero, nbl_p h0 h, List.take_zero]; rfl
  | succ j ih =>
    intro h
    rw [show p + (j + 1) = (p + j) + 1 by omega, nbl, if_neg (by omega), List.nil_append, ih (by omega), rev_get (by omega), drop_getD (k := e.length - (p + j + 1)) (by omega), List.take_succ_cons]
    rw [show e.length - 1 - (p + j) = e.length - (p + j + 1) by omega, show e.length - (p + j + 1) + 1 = e.length - (p + j) by omega]; rfl
/-- all of it -/
theorem nbl_all {e : List Nat} {p : Nat} (hp : p < e.length) : nbl e.reverse p e.length = e.take (e.length - p) ++ ((if p = 0 then [] else [46]) ++ e.drop (e.length - p)) := by
  by_cases h0 : p = 0
  · subst h0
    rw [nbl_lo e.length (Nat.le_refl _) (Or.inr rfl), Nat.sub_self, List.drop_zero, if_pos rfl, Nat.sub_zero, List.take_length, List.drop_length, List.append_nil, List.append_nil]
  · have h := nbl_hi (e := e) (p := p) (by omega) (e.length - p) (by omega)
    rw [show p + (e.length - p) = e.length by omega, Nat.sub_self, List.drop_zero] at h
    rw [h, if_neg h0]
end
section
/-! What the two sides write of a number is the same. -/
theorem neg_lN {r : Nat} (hr : r < 10 ^ 18) : (-lN r).toInt = -(r : Int) := by
  rw [Int64.toInt_neg, lN_big (by omega), Int.bmod_eq_of_le] <;> omega
theorem sg_p {r : Nat} (hr : r < 10 ^ 18) : 0 ≤ lg_cmp (lN r) 0 := by
  rw [lgc_ge, Int64.le_iff_toInt_le, lN_big (by omega)]
  exact Int.natCast_nonneg r
theorem sg_n {r : Nat} (hr : r < 10 ^ 18) : 0 ≤ lg_cmp (-lN r) 0 ↔ r = 0 := by
  rw [lgc_ge, Int64.le_iff_toInt_le, neg_lN hr, Int64.toInt_zero]
  omega
theorem ofD_z : ∀ (z y : List Nat), (∀ x, x ∈ z → x = 48) → ofD (z ++ y) = ofD y := by
  intro z
  induction z with
  | nil => intro y _; rfl
  | cons a z ih =>
    intro y h
    have h1 := ih y (fun x hx => h x (List.mem_cons_of_mem _ hx))
    have h2 := h a List.mem_cons_self
    subst h2
    rw [← h1]; rfl
theorem ofD_e {e : List Nat} {d : Nat} (hd : 48 ≤ d) (h : d ≠ 48) : 0 < ofD (e ++ [d]) := by rw [ofD_s]; omega
/-- the digits that are written -/
def eD (ds : List Nat) (g W L : Nat) : List Nat := wZ g W ++ (ds.drop g).take (L - g)
theorem seg_digs {ds : List Nat} (hd : digs ds) (a b : Nat) : digs ((ds.drop a).take b) := fun x hx => hd x (List.mem_of_mem_drop (List.mem_of_mem_take hx))
section EDR
variable {ds : List Nat} {g W L : Nat}
theorem eD_digs (hd : digs ds) : digs (eD ds g W L) := by
  unfold eD wZ
  refine digs_a ?_ (seg_digs hd _ _)
  split
  · intro x hx; rw [List.mem_singleton] at hx; omega
  · intro x hx; exact absurd hx List.not_mem_nil
theorem wZ_len : (wZ g W).length = if g = W then 1 else 0 := by unfold wZ; split <;> rfl
theorem eD_len (hg : lead ds W g) (ht : trail ds W L) : (eD ds g W L).length = (if g = W then 1 else 0) + (L - g) := by
  unfold eD
  have h1 := hg.1
  have h2 := ht.1
  have h3 := ht.2.1
  rw [List.length_append, wZ_len, List.length_take, List.length_drop]
  omega
theorem eD_of (hg : lead ds W g) (ht : trail ds W L) : ofD (eD ds g W L) = ofD (ds.take L) := by
  have h1 := hg.1
  have h2 := ht.1
  have h3 := ht.2.1
  have e1 : ds.take L = ds.take g ++ (ds.drop g).take (L - g) := by
    rw [← List.take_append_drop g (ds.take L), List.take_take, Nat.min_eq_left (by omega), List.drop_take]
  rw [e1, eD, ofD_z, ofD_z]
  · intro x hx
    obtain ⟨j, hj⟩ := List.mem_iff_getElem?.mp hx
    have hjl : j < g := by
      have := (List.getElem?_eq_some_iff.mp hj).1
      rw [List.length_take] at this; omega
    rw [List.getElem?_take, if_pos hjl] at hj
    have := hg.2.1 j hjl
    rw [List.getD_eq_getElem?_getD, hj] at this
    exact this
  · intro x hx
    unfold wZ at hx
    split at hx
    · rwa [List.mem_singleton] at hx
    · exact absurd hx List.not_mem_nil
theorem eD_0 (hW : W ≤ ds.length) (hg : lead ds W g) (ht : trail ds W L) (h : g < W) : (eD ds g W L).getD 0 0 ≠ 48 := by
  have h2 := ht.1
  have h3 := ht.2.1
  unfold eD wZ
  rw [if_neg (by omega), List.nil_append, List.getD_eq_getElem?_getD, List.getElem?_take, if_pos (by omega), List.getElem?_drop, Nat.add_zero, ← List.getD_eq_getElem?_getD]
  exact hg.2.2.elim (fun e => absurd e (by omega)) id
theorem eD_tdl (hd : digs ds) (h18 : ds.length ≤ 18) (hW : W ≤ ds.length) (hg : lead ds W g) (ht : trail ds W L) (h9 : L - W ≤ 9) : tdl 18 0 (ofD (ds.take L)) (L - W + 1) = (eD ds g W L).reverse := by
  have h1 := hg.1
  have h2 := ht.1
  have h3 := ht.2.1
  have hl := eD_len hg ht
  rw [← eD_of hg ht]
  by_cases h : g = W
  · rw [if_pos h] at hl
    exact tdl_e 18 0 _ _ (eD_digs hd) (by omega) (by omega) (Or.inl (by omega))
  · rw [if_neg h] at hl
    exact tdl_e 18 0 _ _ (eD_digs hd) (by omega) (by omega) (Or.inr (eD_0 hW hg ht (by omega)))
theorem eD_pos (hd : digs ds) (hW : W ≤ ds.length) (hg : lead ds W g) (ht : trail ds W L) : 0 < ofD (ds.take L) ↔ (g < W ∨ W < L) := by
  have h1 := hg.1
  have h2 := ht.1
  have h3 := ht.2.1
  have hl := eD_len hg ht
  rw [← eD_of hg ht]
  constructor
  · intro h
    by_cases hc : g < W ∨ W < L
    · exact hc
    · have e1 : g = W := by omega
      have e2 : L = W := by omega
      subst e1
      subst e2
      rw [eD, Nat.sub_self, List.take_zero, List.append_nil, wZ, if_pos rfl] at h
      exact absurd h (by decide)
  · rintro (h | h)
    · refine ofD_pos _ _ rfl (eD_digs hd) (fun e => ?_) (eD_0 hW hg ht h)
      rw [e, List.length_nil, if_neg (by omega)] at hl
      omega
    · have hn : ds.getD (L - 1) 0 ≠ 48 := ht.2.2.2.elim (fun e => absurd e (by omega)) id
      have hm : 48 ≤ ds.getD (L - 1) 0 := by
        rw [List.getD_eq_getElem?_getD, List.getElem?_eq_getElem (show L - 1 < ds.length by omega)]
        exact (hd _ (List.getElem_mem _)).1
      have e : (ds.drop g).take (L - g) = (ds.drop g).take (L - 1 - g) ++ [ds.getD (L - 1) 0] := by
        rw [show L - g = (L - 1 - g) + 1 by omega, List.take_succ, List.getElem?_drop, show g + (L - 1 - g) = L - 1 by omega, List.getD_eq_getElem?_getD, List.getElem?_eq_getElem (show L - 1 < ds.length by omega)]; rfl
      rw [eD, e, ← List.append_assoc]
      exact ofD_e hm hn
end EDR
end
section
/-! nuW is wN. -/
section NUW
variable {ds : List Nat} {g W L : Nat}
theorem eD_kp (hg : lead ds W g) (ht : trail ds W L) : (eD ds g W L).length - (L - W) = (wZ g W).length + (W - g) := by
  have h1 := hg.1
  have h2 := ht.1
  rw [eD_len hg ht, wZ_len]
  omega
theorem eD_take (hg : lead ds W g) (ht : trail ds W L) : (eD ds g W L).take ((eD ds g W L).length - (L - W)) = wZ g W ++ (ds.drop g).take (W - g) := by
  have h1 := hg.1
  have h2 := ht.1
  rw [eD_kp hg ht, eD, List.take_length_add_append, List.take_take, Nat.min_eq_left (by omega)]
theorem eD_drop (hg : lead ds W g) (ht : trail ds W L) : (eD ds g W L).drop ((eD ds g W L).length - (L - W)) = (ds.drop W).take (L - W) := by
  have h1 := hg.1
  have h2 := ht.1
  rw [eD_kp hg ht, eD, List.drop_length_add_append, List.drop_take, List.drop_drop, show g + (W - g) = W by omega, show L - g - (W - g) = L - W by omega]
theorem wl_7 : wl 7 = [46, 48] := by decide
theorem wN_nuW {bel dec : Bool} (hd : digs ds) (h18 : ds.length ≤ 18) (hW : W ≤ ds.length) (hg : lead ds W g) (ht : trail ds W L) (h9 : L - W ≤ 9) (hdec : dec = false → L = W) {x : Tm} (hx1 : x.1 = if dec = true then 4 else 3) (hx2 : x.2.1 = if bel = true then -lN (ofD (ds.take L)) else lN (ofD (ds.take L))) (hx3 : x.2.2.1 = L - W) : nuW x (ofD (ds.take L)) = wN bel dec ds g W L := by
  have h1 := hg.1
  have h2 := ht.1
  have h3 := ht.2.1
  have hl := eD_len hg ht
  have hr : ofD (ds.take L) < 10 ^ 18 := Nat.lt_of_lt_of_le (ofD_lt (fun x hx => hd x (List.mem_of_mem_take hx))) (pow18 (by rw [List.length_take]; omega))
  have hs : (if 0 ≤ lg_cmp x.2.1 0 then ([] : List Nat) else [45]) = wS bel g W L := by
    have hp := eD_pos hd hW hg ht
    rw [hx2]
    unfold wS
    cases bel
    · rw [if_neg Bool.false_ne_true, if_pos (sg_p hr), if_neg (by simp)]
    · rw [if_pos rfl]
      by_cases h : g < W ∨ W < L
      · rw [if_neg (fun h' => by have := (sg_n hr).mp h'; have := hp.mpr h; omega), if_pos (by simpa using h)]
      · rw [if_pos ((sg_n hr).mpr (by have := fun q => h (hp.mp q); omega)), if_neg (by simpa using h)]
  have hp : L - W < (eD ds g W L).length := by rw [hl]; split <;> omega
  unfold nuW wN
  rw [hs, hx3, eD_tdl hd h18 hW hg ht h9, List.length_reverse, nbl_all hp, eD_take hg ht, eD_drop hg ht, hx1]
  cases dec
  · have e := hdec rfl
    subst e
    rw [Nat.sub_self, if_pos rfl, List.take_zero, if_neg (by simp), if_neg Bool.false_ne_true]
    simp
  · rw [if_pos rfl, if_pos rfl]
    unfold wD
    by_cases e : L = W
    · subst e
      rw [Nat.sub_self, if_pos rfl, if_pos rfl, List.take_zero, if_pos ⟨rfl, rfl⟩, wl_7]
      simp
    · rw [if_neg (show ¬ L - W = 0 by omega), if_neg e, if_neg (fun h => by have := h.2; omega)]
      simp
end NUW
end
