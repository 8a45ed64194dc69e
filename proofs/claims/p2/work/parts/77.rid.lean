/-! The reference reads a type. (rows laid by wip/whole/rr13.py) -/
theorem nI_4 (n : Nat) : nI n + 4 = nI (n + 4) := by
  rw [← nI_1 (n + 3), ← nI_1 (n + 2), ← nI_1 (n + 1), ← nI_1 n, Int32.add_assoc, Int32.add_assoc, Int32.add_assoc]; rfl
theorem sNm_by (t : List Nat) (ht : ∀ i, t.getD i 0 < 256) : ∀ (m q : Nat) (acc : List Nat), (∀ i, acc.getD i 0 < 256) → ∀ i, (sNm t m q acc).2.2.getD i 0 < 256 := by
  intro m
  induction m with
  | zero => intro q acc h; exact h
  | succ m ih =>
    intro q acc h
    rw [sNm]
    repeat' split
    all_goals first | exact h | exact ih _ _ (snoc_by h (ht _))
theorem sNa_by {t : List Nat} (ht : ∀ i, t.getD i 0 < 256) (q : Nat) : ∀ i, (sNa t q).2.2.getD i 0 < 256 := by
  unfold sNa
  split
  · exact sNm_by t ht _ _ _ nil_by
  · exact nil_by
theorem gd_app {a b : List Nat} {i : Nat} (h : i < a.length) : (a ++ b).getD i 0 = a.getD i 0 := by
  rw [List.getD_eq_getElem?_getD, List.getElem?_append_left h, ← List.getD_eq_getElem?_getD]
/-- the draft is cut -/
theorem RS.cut {σ0 σ : Nat → Int32} {τ0 τ : Nat → Nat → Int32} {t d e : List Nat} {p k q db n : Nat} (h : RS σ0 τ0 t p (d ++ e) k q db σ τ) (hn : n = d.length) : RS σ0 τ0 t p d k q db (upd σ 10 (nI n)) τ := by
  obtain ⟨h1, h2, h3, ⟨h4, h5⟩, h6, h7, h8⟩ := h
  subst hn
  exact ⟨h1.upd (by omega), ⟨h2.1, h2.2⟩, h3, ⟨rfl, fun j hj => by rw [h5 j (by rw [List.length_append]; omega), gd_app hj]⟩, h6, h7, h8⟩
/-- the kind that a type's name says -/
def tyk (b : List Nat) : Option Nat := if b = wl 3 then some 3 else if b = wl 4 then some 4 else if b = wl 5 then some 8 else none
def tyO (t : List Nat) (q1 : Nat) (raw : List Nat) (db1 : Nat) (q : Nat) (d : List Nat) (kd qq db : Nat) : Prop := hb t (q1 + 1) = 94 ∧ ∃ b, sNa t (q1 + 1 + 1) = (true, q, b) ∧ ((b = wl 2 ∧ d = [34] ++ raw ++ [34] ∧ kd = 5 ∧ qq = raw.length + 1 ∧ db = db1) ∨ (b ≠ wl 2 ∧ tyk b = some kd ∧ prO raw raw.length d kd ∧ qq = 0 ∧ db = 0) ∨ (b ≠ wl 2 ∧ tyk b = none ∧ d = [34] ++ raw ++ [34] ++ [94] ++ [94] ++ [60] ++ b ++ [62] ∧ kd = 7 ∧ qq = raw.length + 1 ∧ db = db1 + b.length))
def tyF (t : List Nat) (q1 : Nat) (raw : List Nat) (w : Nat) : Prop := (¬ hb t (q1 + 1) = 94 ∧ w = q1 + 1) ∨ (hb t (q1 + 1) = 94 ∧ ∃ b, sNa t (q1 + 1 + 1) = (false, w, b)) ∨ (hb t (q1 + 1) = 94 ∧ w = 0 ∧ ∃ q b kk, sNa t (q1 + 1 + 1) = (true, q, b) ∧ b ≠ wl 2 ∧ tyk b = some kk ∧ ((∃ w, prF raw w) ∨ (∃ q d kd, prO raw q d kd ∧ ¬ (q = raw.length ∧ kd = kk))))
/-- readType's end -/
def tyP (σ0 : Nat → Int32) (τ0 : Nat → Nat → Int32) (t : List Nat) (q1 : Nat) (raw : List Nat) (db1 : Nat) (r : Option Value) (σ' : Nat → Int32) (τ' : Nat → Nat → Int32) : Prop := r = none ∧ ∃ f, (∃ q d kd qq db, tyO t q1 raw db1 q d kd qq db ∧ RS σ0 (va_up τ0 20 f) t q d kd qq db σ' τ') ∨ (∃ w m j, tyF t q1 raw w ∧ RG σ0 (va_up τ0 20 f) t w m j σ' τ' ∧ m ≤ 250 ∧ j ≤ 20)
set_option maxRecDepth 100000 in
set_option maxHeartbeats 2000000 in
theorem rr_type {X : ev_X} {c0 : Nat} {σ0 : Nat → Int32} {τ0 : Nat → Nat → Int32} {t : List Nat} {D0 raw : List Nat} {q db : Nat} {σ : Nat → Int32} {τ : Nat → Nat → Int32} (hX : XS X c0) (h0 : D0 = [34] ++ raw ++ [34]) (hrl : raw.length ≤ 128) (hby : ∀ j, raw.getD j 0 < 256) (hdb : db ≤ 64) (h94 : hb t q = 94) (hS : RS σ0 τ0 t q D0 5 (raw.length + 1) db σ τ) : Rx X c0 m_Mod_readType 0 [.ref (c0 + 16), .int 0, ev_dead] [] σ τ (tyP σ0 τ0 t q raw db) := by
  have hl := hS.z.tl
  have hlt := hb_in (t := t) (q := q) (by rw [h94]; decide)
  have hD0 : D0.length = raw.length + 2 := by rw [h0]; simp only [List.length_append, List.length_cons, List.length_nil]; omega
  have hraw : ∀ j, j < raw.length → D0.getD (j + 1) 0 = raw.getD j 0 := fun j hj => by rw [h0, List.append_assoc]; exact gd_app hj
  refine Rx.go (fun _ => rfl) ?_
  refine Rx.go (fun _ => rfl) ?_
  refine Rx.put rfl (by decide) rfl rfl ?_
  have hS17 := hS.k1 (x := 7)
  refine Rx.go (fun _ => rfl) ?_
  refine Rx.go (fun _ => rfl) ?_
  refine Rx.get rfl rfl ?_
  refine Rx.top (y := nI q) hS17.f16 ?_
  refine Rx.go (fun _ => rfl) ?_
  refine Rx.go (fun _ => rfl) ?_
  refine Rx.top (y := nI (q + 1)) (nI_1 _) ?_
  refine Rx.put rfl (by decide) rfl rfl ?_
  have hS18 := hS17.at1 hlt
  refine Rx.go (fun _ => rfl) ?_
  refine Rx.go (fun _ => rfl) ?_
  refine Rx.callE rfl rfl rfl rfl (rz_here hS18.z) ?_
  show Rx X c0 m_Mod_readType 21 [.ref (c0 + 16), .int 0, ev_dead] [.int (hb t (q + 1)), .ref (c0 + 16)] (upd (upd σ 11 (nI 7)) 16 (nI (q + 1))) τ _
  refine Rx.go (fun _ => rfl) ?_
  refine Rx.go (fun _ => rfl) ?_
  refine Rx.ite (fun c1 => ?_) (fun c1 => ?_)
  · replace c1 : ¬ (hb t (q + 1)) = 94 := of_decide_eq_true c1
    show Rx X c0 m_Mod_readType 30 [.ref (c0 + 16), .int 0, ev_dead] [.ref (c0 + 16)] (upd (upd σ 11 (nI 7)) 16 (nI (q + 1))) τ _
    refine Rx.go (fun _ => rfl) ?_
    refine Rx.callP rfl rfl rfl rfl (rs_ov_f false hS18 (fun h => Bool.false_ne_true h.2)) ?_
    intro σ19 τ19 hS19
    show Rx X c0 m_Mod_readType 34 [.ref (c0 + 16), .int 0, ev_dead] [] σ19 τ19 _
    refine Rx.go (fun _ => rfl) ?_
    refine Rx.go (fun _ => rfl) ?_
    refine Rx.callP rfl rfl rfl rfl (rg_put _ hS19 (by first | omega | (simp only [List.length_append, List.length_cons, List.length_nil]; omega))) ?_
    intro σ20 τ20 hS20
    show Rx X c0 m_Mod_readType 40 [.ref (c0 + 16), .int 0, ev_dead] [] σ20 τ20 _
    refine Rx.go (fun _ => rfl) ?_
    refine Rx.go (fun _ => rfl) ?_
    refine Rx.callP rfl rfl rfl rfl (rg_put _ hS20 (by first | omega | (simp only [List.length_append, List.length_cons, List.length_nil]; omega))) ?_
    intro σ21 τ21 hS21
    show Rx X c0 m_Mod_readType 46 [.ref (c0 + 16), .int 0, ev_dead] [] σ21 τ21 _
    refine Rx.go (fun _ => rfl) ?_
    refine Rx.callE rfl rfl rfl rfl (rg_good hS21) ?_
    show Rx X c0 m_Mod_readType 50 [.ref (c0 + 16), .int 0, ev_dead] [.int 0] σ21 τ21 _
    refine Rx.go (fun _ => rfl) ?_
    show Rx X c0 m_Mod_readType 57 [.ref (c0 + 16), .int 0, ev_dead] [] σ21 τ21 _
    refine Rx.go (fun _ => rfl) ?_
    refine Rx.callE rfl rfl rfl rfl (rg_good hS21) ?_
    show Rx X c0 m_Mod_readType 61 [.ref (c0 + 16), .int 0, ev_dead] [.int 0] σ21 τ21 _
    refine Rx.go (fun _ => rfl) ?_
    show Rx X c0 m_Mod_readType 64 [.ref (c0 + 16), .int 0, ev_dead] [] σ21 τ21 _
    exact Rx.ret rfl rfl ⟨rfl, τ0 20, Or.inr ⟨_, _, _, (Or.inl ⟨c1, rfl⟩), by rw [va_id]; exact hS21, by omega, by omega⟩⟩
  · replace c1 : (hb t (q + 1)) = 94 := Classical.not_not.mp (of_decide_eq_false c1)
    show Rx X c0 m_Mod_readType 26 [.ref (c0 + 16), .int 0, ev_dead] [.ref (c0 + 16)] (upd (upd σ 11 (nI 7)) 16 (nI (q + 1))) τ _
    refine Rx.go (fun _ => rfl) ?_
    refine Rx.go (fun _ => rfl) ?_
    refine Rx.callP rfl rfl rfl rfl (rs_ov_t hS18 (hb_in (by rw [c1]; decide))) ?_
    intro σ22 τ22 hS22
    show Rx X c0 m_Mod_readType 34 [.ref (c0 + 16), .int 0, ev_dead] [] σ22 τ22 _
    refine Rx.go (fun _ => rfl) ?_
    refine Rx.go (fun _ => rfl) ?_
    refine Rx.callP rfl rfl rfl rfl (rs_put 94 hS22 (by first | omega | (simp only [List.length_append, List.length_cons, List.length_nil]; omega))) ?_
    intro σ23 τ23 hS23
    show Rx X c0 m_Mod_readType 40 [.ref (c0 + 16), .int 0, ev_dead] [] σ23 τ23 _
    refine Rx.go (fun _ => rfl) ?_
    refine Rx.go (fun _ => rfl) ?_
    refine Rx.callP rfl rfl rfl rfl (rs_put 94 hS23 (by first | omega | (simp only [List.length_append, List.length_cons, List.length_nil]; omega))) ?_
    intro σ24 τ24 hS24
    show Rx X c0 m_Mod_readType 46 [.ref (c0 + 16), .int 0, ev_dead] [] σ24 τ24 _
    refine Rx.go (fun _ => rfl) ?_
    refine Rx.callE rfl rfl rfl rfl (rz_good hS24.z) ?_
    show Rx X c0 m_Mod_readType 50 [.ref (c0 + 16), .int 0, ev_dead] [.int 1] σ24 τ24 _
    refine Rx.go (fun _ => rfl) ?_
    show Rx X c0 m_Mod_readType 53 [.ref (c0 + 16), .int 0, ev_dead] [] σ24 τ24 _
    refine Rx.go (fun _ => rfl) ?_
    refine Rx.call rfl rfl rfl rfl (rr_name (d0 := D0 ++ [94] ++ [94]) (by simp only [List.length_append, List.length_cons, List.length_nil]; omega) (by omega) hS24) ?_
    rintro v σ25 τ25 ⟨rfl, hq25⟩
    have hbb := sNa_by hS24.z.by (q + 1 + 1)
    have hbl := sNa_l t (q + 1 + 1)
    generalize hN : sNa t (q + 1 + 1) = T at hq25 hbb hbl
    obtain ⟨g, q2, b⟩ := T
    dsimp only at hbb hbl
    cases g
    · rw [if_neg Bool.false_ne_true] at hq25
      obtain ⟨mm, jj, hS25, hmm, hjj⟩ := hq25
      show Rx X c0 m_Mod_readType 57 [.ref (c0 + 16), .int 0, ev_dead] [] σ25 τ25 _
      refine Rx.go (fun _ => rfl) ?_
      refine Rx.callE rfl rfl rfl rfl (rg_good hS25) ?_
      show Rx X c0 m_Mod_readType 61 [.ref (c0 + 16), .int 0, ev_dead] [.int 0] σ25 τ25 _
      refine Rx.go (fun _ => rfl) ?_
      show Rx X c0 m_Mod_readType 64 [.ref (c0 + 16), .int 0, ev_dead] [] σ25 τ25 _
      exact Rx.ret rfl rfl ⟨rfl, τ0 20, Or.inr ⟨_, _, _, (Or.inr (Or.inl ⟨c1, b, hN⟩)), by rw [va_id]; exact hS25, by omega, by omega⟩⟩
    rw [if_pos rfl] at hq25
    dsimp only at hq25
    show Rx X c0 m_Mod_readType 57 [.ref (c0 + 16), .int 0, ev_dead] [] σ25 τ25 _
    refine Rx.go (fun _ => rfl) ?_
    refine Rx.callE rfl rfl rfl rfl (rz_good hq25.z) ?_
    show Rx X c0 m_Mod_readType 61 [.ref (c0 + 16), .int 0, ev_dead] [.int 1] σ25 τ25 _
    refine Rx.go (fun _ => rfl) ?_
    show Rx X c0 m_Mod_readType 65 [.ref (c0 + 16), .int 0, ev_dead] [] σ25 τ25 _
    refine Rx.go (fun _ => rfl) ?_
    refine Rx.get rfl rfl ?_
    refine Rx.top (y := nI (raw.length + 1)) hq25.f12 ?_
    refine Rx.go (fun _ => rfl) ?_
    refine Rx.go (fun _ => rfl) ?_
    refine Rx.top (y := nI (D0 ++ [94] ++ [94] ++ [60]).length) ((nI_4 _).trans (congrArg nI (by simp only [List.length_append, List.length_cons, List.length_nil]; omega))) ?_
    refine Rx.go (fun _ => rfl) ?_
    show Rx X c0 m_Mod_readType 72 [.ref (c0 + 16), .int 0, .int (nI (D0 ++ [94] ++ [94] ++ [60]).length)] [] σ25 τ25 _
    refine Rx.go (fun _ => rfl) ?_
    refine Rx.go (fun _ => rfl) ?_
    refine Rx.go (fun _ => rfl) ?_
    refine Rx.callE rfl rfl rfl rfl (rr_wa hX (k := 2) (by decide) (E := D0 ++ [94] ++ [94] ++ [60]) (b := b) (by simp only [List.length_append, List.length_cons, List.length_nil]; omega) hbb hq25) ?_
    show Rx X c0 m_Mod_readType 79 [.ref (c0 + 16), .int 0, .int (nI (D0 ++ [94] ++ [94] ++ [60]).length)] [.int (bi (decide (b = wl 2)))] σ25 τ25 _
    refine Rx.go (fun _ => rfl) ?_
    refine Rx.ite (fun c2 => ?_) (fun c2 => ?_)
    · replace c2 : (decide (b = wl 2)) = false := bi_eqt c2
      show Rx X c0 m_Mod_readType 110 [.ref (c0 + 16), .int 0, .int (nI (D0 ++ [94] ++ [94] ++ [60]).length)] [] σ25 τ25 _
      refine Rx.go (fun _ => rfl) ?_
      refine Rx.go (fun _ => rfl) ?_
      refine Rx.go (fun _ => rfl) ?_
      refine Rx.callE rfl rfl rfl rfl (rr_wa hX (k := 3) (by decide) (E := D0 ++ [94] ++ [94] ++ [60]) (b := b) (by simp only [List.length_append, List.length_cons, List.length_nil]; omega) hbb hq25) ?_
      show Rx X c0 m_Mod_readType 117 [.ref (c0 + 16), .int 0, .int (nI (D0 ++ [94] ++ [94] ++ [60]).length)] [.int (bi (decide (b = wl 3)))] σ25 τ25 _
      refine Rx.go (fun _ => rfl) ?_
      refine Rx.ite (fun c3 => ?_) (fun c3 => ?_)
      · replace c3 : (decide (b = wl 3)) = false := bi_eqt c3
        show Rx X c0 m_Mod_readType 129 [.ref (c0 + 16), .int 0, .int (nI (D0 ++ [94] ++ [94] ++ [60]).length)] [] σ25 τ25 _
        refine Rx.go (fun _ => rfl) ?_
        refine Rx.go (fun _ => rfl) ?_
        refine Rx.go (fun _ => rfl) ?_
        refine Rx.callE rfl rfl rfl rfl (rr_wa hX (k := 4) (by decide) (E := D0 ++ [94] ++ [94] ++ [60]) (b := b) (by simp only [List.length_append, List.length_cons, List.length_nil]; omega) hbb hq25) ?_
        show Rx X c0 m_Mod_readType 136 [.ref (c0 + 16), .int 0, .int (nI (D0 ++ [94] ++ [94] ++ [60]).length)] [.int (bi (decide (b = wl 4)))] σ25 τ25 _
        refine Rx.go (fun _ => rfl) ?_
        refine Rx.ite (fun c4 => ?_) (fun c4 => ?_)
        · replace c4 : (decide (b = wl 4)) = false := bi_eqt c4
          show Rx X c0 m_Mod_readType 148 [.ref (c0 + 16), .int 0, .int (nI (D0 ++ [94] ++ [94] ++ [60]).length)] [] σ25 τ25 _
          refine Rx.go (fun _ => rfl) ?_
          refine Rx.go (fun _ => rfl) ?_
          refine Rx.go (fun _ => rfl) ?_
          refine Rx.callE rfl rfl rfl rfl (rr_wa hX (k := 5) (by decide) (E := D0 ++ [94] ++ [94] ++ [60]) (b := b) (by simp only [List.length_append, List.length_cons, List.length_nil]; omega) hbb hq25) ?_
          show Rx X c0 m_Mod_readType 155 [.ref (c0 + 16), .int 0, .int (nI (D0 ++ [94] ++ [94] ++ [60]).length)] [.int (bi (decide (b = wl 5)))] σ25 τ25 _
          refine Rx.go (fun _ => rfl) ?_
          refine Rx.ite (fun c5 => ?_) (fun c5 => ?_)
          · replace c5 : (decide (b = wl 5)) = false := bi_eqt c5
            show Rx X c0 m_Mod_readType 165 [.ref (c0 + 16), .int 0, .int (nI (D0 ++ [94] ++ [94] ++ [60]).length)] [] σ25 τ25 _
            exact Rx.ret rfl rfl ⟨rfl, τ0 20, Or.inl ⟨_, _, _, _, _, ⟨c1, b, hN, Or.inr (Or.inr ⟨(of_decide_eq_false c2), (by unfold tyk; rw [if_neg (of_decide_eq_false c3)]; rw [if_neg (of_decide_eq_false c4)]; rw [if_neg (of_decide_eq_false c5)]), by rw [← h0], rfl, rfl, rfl⟩)⟩, by rw [va_id]; exact hq25⟩⟩
          · replace c5 : (decide (b = wl 5)) = true := bi_eqf c5
            show Rx X c0 m_Mod_readType 158 [.ref (c0 + 16), .int 0, .int (nI (D0 ++ [94] ++ [94] ++ [60]).length)] [] σ25 τ25 _
            refine Rx.go (fun _ => rfl) ?_
            refine Rx.go (fun _ => rfl) ?_
            refine Rx.go (fun _ => rfl) ?_
            refine Rx.call rfl rfl rfl rfl (rr_inside (raw := raw) (kk := 8) hX (by simp only [List.length_append, List.length_cons, List.length_nil]; omega) rfl (by simp only [List.length_append, List.length_cons, List.length_nil]; omega) (fun j hj => by rw [List.append_assoc, List.append_assoc, List.append_assoc, List.append_assoc, gd_app (by omega)]; exact hraw j hj) (by omega) hby (by decide) hq25) ?_
            rintro v σ26 τ26 ⟨rfl, f, (⟨d, hO, hR⟩ | ⟨hNo, m, hG, hm⟩)⟩
            · show Rx X c0 m_Mod_readType 165 [.ref (c0 + 16), .int 0, .int (nI (D0 ++ [94] ++ [94] ++ [60]).length)] [] σ26 τ26 _
              exact Rx.ret rfl rfl ⟨rfl, f, Or.inl ⟨_, _, _, _, _, ⟨c1, b, hN, Or.inr (Or.inl ⟨(of_decide_eq_false c2), (by unfold tyk; rw [if_neg (of_decide_eq_false c3)]; rw [if_neg (of_decide_eq_false c4)]; rw [if_pos (of_decide_eq_true c5)]), hO, rfl, rfl⟩)⟩, hR⟩⟩
            · show Rx X c0 m_Mod_readType 165 [.ref (c0 + 16), .int 0, .int (nI (D0 ++ [94] ++ [94] ++ [60]).length)] [] σ26 τ26 _
              exact Rx.ret rfl rfl ⟨rfl, f, Or.inr ⟨_, _, _, Or.inr (Or.inr ⟨c1, rfl, q2, b, 8, hN, (of_decide_eq_false c2), (by unfold tyk; rw [if_neg (of_decide_eq_false c3)]; rw [if_neg (of_decide_eq_false c4)]; rw [if_pos (of_decide_eq_true c5)]), hNo⟩), hG, hm, by omega⟩⟩
        · replace c4 : (decide (b = wl 4)) = true := bi_eqf c4
          show Rx X c0 m_Mod_readType 139 [.ref (c0 + 16), .int 0, .int (nI (D0 ++ [94] ++ [94] ++ [60]).length)] [] σ25 τ25 _
          refine Rx.go (fun _ => rfl) ?_
          refine Rx.go (fun _ => rfl) ?_
          refine Rx.go (fun _ => rfl) ?_
          refine Rx.call rfl rfl rfl rfl (rr_inside (raw := raw) (kk := 4) hX (by simp only [List.length_append, List.length_cons, List.length_nil]; omega) rfl (by simp only [List.length_append, List.length_cons, List.length_nil]; omega) (fun j hj => by rw [List.append_assoc, List.append_assoc, List.append_assoc, List.append_assoc, gd_app (by omega)]; exact hraw j hj) (by omega) hby (by decide) hq25) ?_
          rintro v σ27 τ27 ⟨rfl, f, (⟨d, hO, hR⟩ | ⟨hNo, m, hG, hm⟩)⟩
          · show Rx X c0 m_Mod_readType 145 [.ref (c0 + 16), .int 0, .int (nI (D0 ++ [94] ++ [94] ++ [60]).length)] [] σ27 τ27 _
            refine Rx.go (fun _ => rfl) ?_
            exact Rx.ret rfl rfl ⟨rfl, f, Or.inl ⟨_, _, _, _, _, ⟨c1, b, hN, Or.inr (Or.inl ⟨(of_decide_eq_false c2), (by unfold tyk; rw [if_neg (of_decide_eq_false c3)]; rw [if_pos (of_decide_eq_true c4)]), hO, rfl, rfl⟩)⟩, hR⟩⟩
          · show Rx X c0 m_Mod_readType 145 [.ref (c0 + 16), .int 0, .int (nI (D0 ++ [94] ++ [94] ++ [60]).length)] [] σ27 τ27 _
            refine Rx.go (fun _ => rfl) ?_
            exact Rx.ret rfl rfl ⟨rfl, f, Or.inr ⟨_, _, _, Or.inr (Or.inr ⟨c1, rfl, q2, b, 4, hN, (of_decide_eq_false c2), (by unfold tyk; rw [if_neg (of_decide_eq_false c3)]; rw [if_pos (of_decide_eq_true c4)]), hNo⟩), hG, hm, by omega⟩⟩
      · replace c3 : (decide (b = wl 3)) = true := bi_eqf c3
        show Rx X c0 m_Mod_readType 120 [.ref (c0 + 16), .int 0, .int (nI (D0 ++ [94] ++ [94] ++ [60]).length)] [] σ25 τ25 _
        refine Rx.go (fun _ => rfl) ?_
        refine Rx.go (fun _ => rfl) ?_
        refine Rx.go (fun _ => rfl) ?_
        refine Rx.call rfl rfl rfl rfl (rr_inside (raw := raw) (kk := 3) hX (by simp only [List.length_append, List.length_cons, List.length_nil]; omega) rfl (by simp only [List.length_append, List.length_cons, List.length_nil]; omega) (fun j hj => by rw [List.append_assoc, List.append_assoc, List.append_assoc, List.append_assoc, gd_app (by omega)]; exact hraw j hj) (by omega) hby (by decide) hq25) ?_
        rintro v σ28 τ28 ⟨rfl, f, (⟨d, hO, hR⟩ | ⟨hNo, m, hG, hm⟩)⟩
        · show Rx X c0 m_Mod_readType 126 [.ref (c0 + 16), .int 0, .int (nI (D0 ++ [94] ++ [94] ++ [60]).length)] [] σ28 τ28 _
          refine Rx.go (fun _ => rfl) ?_
          exact Rx.ret rfl rfl ⟨rfl, f, Or.inl ⟨_, _, _, _, _, ⟨c1, b, hN, Or.inr (Or.inl ⟨(of_decide_eq_false c2), (by unfold tyk; rw [if_pos (of_decide_eq_true c3)]), hO, rfl, rfl⟩)⟩, hR⟩⟩
        · show Rx X c0 m_Mod_readType 126 [.ref (c0 + 16), .int 0, .int (nI (D0 ++ [94] ++ [94] ++ [60]).length)] [] σ28 τ28 _
          refine Rx.go (fun _ => rfl) ?_
          exact Rx.ret rfl rfl ⟨rfl, f, Or.inr ⟨_, _, _, Or.inr (Or.inr ⟨c1, rfl, q2, b, 3, hN, (of_decide_eq_false c2), (by unfold tyk; rw [if_pos (of_decide_eq_true c3)]), hNo⟩), hG, hm, by omega⟩⟩
    · replace c2 : (decide (b = wl 2)) = true := bi_eqf c2
      show Rx X c0 m_Mod_readType 82 [.ref (c0 + 16), .int 0, .int (nI (D0 ++ [94] ++ [94] ++ [60]).length)] [] σ25 τ25 _
      refine Rx.go (fun _ => rfl) ?_
      refine Rx.go (fun _ => rfl) ?_
      refine Rx.put rfl (by decide) rfl rfl ?_
      have hS29 := hq25.k1 (x := 5)
      refine Rx.go (fun _ => rfl) ?_
      refine Rx.go (fun _ => rfl) ?_
      refine Rx.get rfl rfl ?_
      refine Rx.top (y := nI (db + b.length)) hS29.f13 ?_
      refine Rx.go (fun _ => rfl) ?_
      refine Rx.go (fun _ => rfl) ?_
      refine Rx.top (y := nI db) (by rw [of_decide_eq_true c2]; exact pk_sub (b := 4) (show 4 ≤ db + (wl 2).length by rw [wl_len]; exact Nat.le_add_left _ _)) ?_
      refine Rx.put rfl (by decide) rfl rfl ?_
      have hS30 := hS29.db1 (x := db)
      refine Rx.go (fun _ => rfl) ?_
      refine Rx.go (fun _ => rfl) ?_
      refine Rx.get rfl rfl ?_
      refine Rx.top (y := nI (raw.length + 1)) hS30.f12 ?_
      refine Rx.go (fun _ => rfl) ?_
      refine Rx.go (fun _ => rfl) ?_
      refine Rx.top (y := nI (raw.length + 1 + 1)) (nI_1 _) ?_
      refine Rx.put rfl (by decide) rfl rfl ?_
      have hS31 := RS.cut (n := raw.length + 1 + 1) (d := D0) (e := [94] ++ [94] ++ [60] ++ b ++ [62]) (by rw [← List.append_assoc, ← List.append_assoc, ← List.append_assoc, ← List.append_assoc]; exact hS30) (by omega)
      refine Rx.go (fun _ => rfl) ?_
      exact Rx.ret rfl rfl ⟨rfl, τ0 20, Or.inl ⟨_, _, _, _, _, ⟨c1, b, hN, Or.inl ⟨(of_decide_eq_true c2), rfl, rfl, rfl, rfl⟩⟩, by rw [va_id]; exact h0 ▸ hS31⟩⟩
