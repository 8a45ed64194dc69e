/-! The class reads texts; words. (rows laid by wip/whole/cr5.py) -/
def mp {α β : Type} (o : Bool × Nat × α) (f : α → β) : Bool × Nat × β := (o.1, o.2.1, f o.2.2)
theorem rP_map {α β : Type} {c0 n z : Nat} {F0 : Nat → Option va_E} {t : List Nat} {o : Bool × Nat × α} {o' : Bool × Nat × β} {G : α → (Nat → Option va_E) → Prop} {G' : β → (Nat → Option va_E) → Prop} {v : Option Value} {h : ev_H} (f : α → β) (e : o' = mp o f) (hh : ∀ a F1, G a F1 → G' (f a) F1) (hq : rP c0 n z F0 t o G v h) : rP c0 n z F0 t o' G' v h := by
  subst e
  unfold rP at hq ⊢
  split at hq
  · next e => rw [if_pos (show (mp o f).1 = true from e)]; exact ⟨hq.1, hq.2.choose, hq.2.choose_spec.1, hh _ _ hq.2.choose_spec.2⟩
  · next e => rw [if_neg (show ¬ (mp o f).1 = true from e)]; exact hq
/-- a text, with its tag or type: sort, items, tail -/
def sTx2 (t : List Nat) (q : Nat) (bd : List Nat) : Bool × Nat × Int32 × List Nat × List Nat := if hb t q = 64 then mp (sT t (t.length - (q + 1)) (q + 1) 0 true []) (fun b => (6, bd, b)) else if hb t q = 94 then (if hb t (q + 1) = 94 then mp (sNa t (q + 2)) (fun b => (7, bd, b)) else (false, q + 1, 0, [], [])) else (true, q, 5, bd, [])
def sTx (t : List Nat) : Bool × Nat × Int32 × List Nat × List Nat := if (sI t t.length 1 []).1 = true then sTx2 t (sI t t.length 1 []).2.1 (sI t t.length 1 []).2.2 else (false, (sI t t.length 1 []).2.1, 0, [], [])
set_option maxRecDepth 100000 in
set_option maxHeartbeats 2000000 in
theorem cr_tx2 {X : ev_X} {c0 n z : Nat} {F0 : Nat → Option va_E} {t : List Nat} {p fp : Int32} {nu : Int64} {bd : List Nat} {F : Nat → Option va_E} {q : Nat} (hq : q ≤ 240) (hC : CR c0 F0 t 5 nu p bd ([]) 0 fp F) : Ex X m_Reader_readText 21 [.ref (c0 + 8), .ref (c0 + 1), .int (nI q)] [] (hp c0 n z F) (rP c0 n z F0 t (sTx2 t q bd) (fun x F1 => CR c0 F0 t x.1 nu p x.2.1 x.2.2 0 fp F1)) := by
  have hl := hC.rt.le
  refine Ex.nx rfl ?_
  refine Ex.nx rfl ?_
  refine CR.at (i := q) (A0 := []) hC (Or.inl ⟨rfl, rfl⟩) (by omega) rfl rfl rfl ?_
  show Ex X m_Reader_readText 26 [.ref (c0 + 8), .ref (c0 + 1), .int (nI q)] [.int (hb t q)] (hp c0 n _ _) _
  by_cases e1 : (hb t q) = 64
  · refine Hx.top (y := 64) e1 ?_
    refine Ex.nx rfl ?_
    show Ex X m_Reader_readText 52 [.ref (c0 + 8), .ref (c0 + 1), .int (nI q)] [] (hp c0 n _ _) _
    refine Ex.nx rfl ?_
    refine Hx.get 8 rfl hC.r8 rfl ?_
    refine Ex.nx rfl ?_
    refine CR.ps hC rfl ?_
    intro F1 hC1
    show Ex X m_Reader_readText 61 [.ref (c0 + 8), .ref (c0 + 1), .int (nI q)] [] (hp c0 n _ _) _
    refine Ex.nx rfl ?_
    refine Ex.nx rfl ?_
    refine Ex.nx rfl ?_
    refine Ex.nx rfl ?_
    refine Ex.nx rfl ?_
    refine Hx.top (y := nI (q + 1)) (nI_1 q) ?_
    have h64 := hb_in (t := t) (q := q) (by rw [e1]; decide)
    refine CR.rd hC1 rfl rfl rfl rfl (cr_tag (q := q + 1) (by omega) hC1) ?_
    intro v h1 hq
    exact rP_ret rfl rfl (rP_map (fun b => (6, bd, b)) (if_pos e1) (fun a F1 h => h) hq)
  by_cases e2 : (hb t q) = 94
  · refine Hx.top (y := 94) e2 ?_
    refine Ex.nx rfl ?_
    show Ex X m_Reader_readText 70 [.ref (c0 + 8), .ref (c0 + 1), .int (nI q)] [] (hp c0 n _ _) _
    refine Ex.nx rfl ?_
    refine Hx.get 8 rfl hC.r8 rfl ?_
    refine Ex.nx rfl ?_
    refine CR.ps hC rfl ?_
    intro F2 hC2
    show Ex X m_Reader_readText 79 [.ref (c0 + 8), .ref (c0 + 1), .int (nI q)] [] (hp c0 n _ _) _
    refine Ex.nx rfl ?_
    refine Ex.nx rfl ?_
    refine Ex.nx rfl ?_
    refine Ex.nx rfl ?_
    refine Hx.top (y := nI (q + 1)) (nI_1 q) ?_
    refine CR.at (i := (q + 1)) (A0 := []) hC2 (Or.inl ⟨rfl, rfl⟩) (by omega) rfl rfl rfl ?_
    show Ex X m_Reader_readText 86 [.ref (c0 + 8), .ref (c0 + 1), .int (nI q)] [.int (hb t (q + 1))] (hp c0 n _ _) _
    refine Ex.nx rfl ?_
    refine Ex.nx rfl ?_
    refine Ex.ite (fun c3 => ?_) (fun c3 => ?_)
    · replace c3 : ¬ (hb t (q + 1)) = 94 := of_decide_eq_true c3
      show Ex X m_Reader_readText 109 [.ref (c0 + 8), .ref (c0 + 1), .int (nI q)] [] (hp c0 n _ _) _
      refine Ex.nx rfl ?_
      refine Ex.nx rfl ?_
      refine Ex.nx rfl ?_
      refine Ex.nx rfl ?_
      refine Ex.nx rfl ?_
      refine Hx.top (y := nI (q + 1)) (nI_1 q) ?_
      refine CR.rd hC2 rfl rfl rfl rfl (cr_lacking (i := (q + 1)) hC2 (Or.inl ⟨rfl, rfl⟩) (by omega)) ?_
      rintro v h1 ⟨rfl, F3, rfl, hC3⟩
      show Ex X m_Reader_readText 117 [.ref (c0 + 8), .ref (c0 + 1), .int (nI q)] [.int (-1)] (hp c0 n _ _) _
      exact Ex.ret rfl (ev_reti rfl) (rP_f (q := q + 1) (b := (0, [], [])) ((if_neg e1).trans ((if_pos e2).trans (if_neg c3))) ⟨_, _, _, _, _, _, lk_ne, hC3⟩)
    · replace c3 : (hb t (q + 1)) = 94 := Classical.not_not.mp (of_decide_eq_false c3)
      show Ex X m_Reader_readText 91 [.ref (c0 + 8), .ref (c0 + 1), .int (nI q)] [] (hp c0 n _ _) _
      refine Ex.nx rfl ?_
      refine Ex.nx rfl ?_
      refine Ex.nx rfl ?_
      refine Ex.nx rfl ?_
      refine Ex.nx rfl ?_
      refine Hx.top (y := nI (q + 2)) (nI_add q 2) ?_
      refine Ex.nx rfl ?_
      refine Hx.get 8 rfl hC2.r8 rfl ?_
      refine Hx.get 3 rfl hC2.r3 rfl ?_
      refine CR.rd hC2 rfl rfl rfl rfl (cr_name6 (q := q + 2) (by omega) hC2) ?_
      intro v h1 hq
      refine Ex.nx rfl ?_
      exact rP_ret rfl rfl (rP_map (fun b => (7, bd, b)) ((if_neg e1).trans ((if_pos e2).trans (if_pos c3))) (fun a F1 h => h) hq)
  refine Hx.lsw (off := 92) rfl rfl ((lv_osw e1 rfl).trans ((lv_osw e2 rfl).trans rfl)) (by decide) ?_
  show Ex X m_Reader_readText 118 [.ref (c0 + 8), .ref (c0 + 1), .int (nI q)] [] (hp c0 n _ _) _
  refine Ex.nx rfl ?_
  exact Ex.ret rfl (ev_reti rfl) (rP_t (b := (5, bd, [])) ((if_neg e1).trans (if_neg e2)) hC)
set_option maxRecDepth 100000 in
set_option maxHeartbeats 2000000 in
theorem cr_text {X : ev_X} {c0 n z : Nat} {F0 : Nat → Option va_E} {t : List Nat} {s p fp : Int32} {nu : Int64} {F : Nat → Option va_E} (h0 : 1 ≤ t.length) (hC : CR c0 F0 t s nu p ([]) ([]) 0 fp F) : Ex X m_Reader_readText 0 [.ref (c0 + 8), .ref (c0 + 1), ev_dead] [] (hp c0 n z F) (rP c0 n z F0 t (sTx t) (fun x F1 => CR c0 F0 t x.1 nu p x.2.1 x.2.2 0 fp F1)) := by
  have hl := hC.rt.le
  refine Ex.nx rfl ?_
  refine Hx.get 8 rfl hC.r8 rfl ?_
  refine Ex.nx rfl ?_
  refine CR.ps hC rfl ?_
  intro F4 hC4
  show Ex X m_Reader_readText 8 [.ref (c0 + 8), .ref (c0 + 1), ev_dead] [] (hp c0 n _ _) _
  refine Ex.nx rfl ?_
  refine Ex.nx rfl ?_
  have hle := sI_le t t.length 1 [] h0
  unfold sTx
  refine CR.rd hC4 rfl rfl rfl rfl (cr_items h0 hC4) ?_
  generalize sI t t.length 1 [] = o at hle ⊢
  obtain ⟨b5, y5, d5⟩ := o
  dsimp only at hle
  cases b5
  · rintro v h1 ⟨rfl, F5, rfl, hE⟩
    show Ex X m_Reader_readText 13 [.ref (c0 + 8), .ref (c0 + 1), ev_dead] [.int (-1)] (hp c0 n _ _) _
    refine Ex.nx rfl ?_
    show Ex X m_Reader_readText 14 [.ref (c0 + 8), .ref (c0 + 1), .int (-1)] [] (hp c0 n _ _) _
    refine Ex.nx rfl ?_
    refine Ex.nx rfl ?_
    refine Ex.nx rfl ?_
    show Ex X m_Reader_readText 19 [.ref (c0 + 8), .ref (c0 + 1), .int (-1)] [] (hp c0 n _ _) _
    refine Ex.nx rfl ?_
    exact Ex.ret rfl (ev_reti rfl) (rP_f (b := (0, [], [])) rfl hE)
  rintro v h1 ⟨rfl, F5, rfl, hC5⟩
  dsimp only at hC5
  show Ex X m_Reader_readText 13 [.ref (c0 + 8), .ref (c0 + 1), ev_dead] [.int (nI y5)] (hp c0 n _ _) _
  refine Ex.nx rfl ?_
  show Ex X m_Reader_readText 14 [.ref (c0 + 8), .ref (c0 + 1), .int (nI y5)] [] (hp c0 n _ _) _
  refine Ex.nx rfl ?_
  refine Ex.nx rfl ?_
  refine Ex.nx rfl ?_
  refine Ex.ite (fun c1 => ?_) (fun c1 => ?_)
  · replace c1 : ¬ (nI y5) = (-1) := of_decide_eq_true c1
    show Ex X m_Reader_readText 21 [.ref (c0 + 8), .ref (c0 + 1), .int (nI y5)] [] (hp c0 n _ _) _
    show Ex X m_Reader_readText 21 [.ref (c0 + 8), .ref (c0 + 1), .int (nI y5)] [] (hp c0 n _ _) _
    have hl := hC.rt.le
    exact cr_tx2 (by omega) hC5
  · replace c1 : (nI y5) = (-1) := Classical.not_not.mp (of_decide_eq_false c1)
    exact absurd c1 (nI_nm1 (by omega))
abbrev Tm : Type := Int32 × Int64 × Nat × List Nat × List Nat
def sA (t : List Nat) : Bool × Nat × Tm := if hb t 0 = 34 then mp (sTx t) (fun x => (x.1, 0, 0, x.2.1, x.2.2)) else if hb t 0 = 60 then mp (sNa t 0) (fun b => (2, 0, 0, b, [])) else if hb t 0 = 95 then mp (sBk t) (fun b => (1, 0, 0, b, [])) else mp (sP t) (fun x => (x.1, x.2.1, x.2.2, [], []))
set_option maxRecDepth 100000 in
set_option maxHeartbeats 2000000 in
theorem cr_any {X : ev_X} {c0 n z : Nat} (hS : XS X c0) {F0 : Nat → Option va_E} {t : List Nat} {fp : Int32} {F : Nat → Option va_E} (hC : CR c0 F0 t 0 0 0 ([]) ([]) 0 fp F) : Ex X m_Reader_readAny 0 [.ref (c0 + 8), .ref (c0 + 1)] [] (hp c0 n z F) (rP c0 n z F0 t (sA t) (fun x F1 => CR c0 F0 t x.1 x.2.1 (nI x.2.2.1) x.2.2.2.1 x.2.2.2.2 0 fp F1)) := by
  refine Ex.nx rfl ?_
  refine Ex.nx rfl ?_
  refine CR.at (i := 0) (A0 := []) hC (Or.inl ⟨rfl, rfl⟩) (by omega) rfl rfl rfl ?_
  show Ex X m_Reader_readAny 5 [.ref (c0 + 8), .ref (c0 + 1)] [.int (hb t 0)] (hp c0 n _ _) _
  by_cases e1 : (hb t 0) = 34
  · refine Hx.top (y := 34) e1 ?_
    refine Ex.nx rfl ?_
    show Ex X m_Reader_readAny 68 [.ref (c0 + 8), .ref (c0 + 1)] [] (hp c0 n _ _) _
    refine Ex.nx rfl ?_
    refine Ex.nx rfl ?_
    refine CR.rd hC rfl rfl rfl rfl (cr_text (by have := hb_in (t := t) (q := 0) (by rw [e1]; decide); omega) hC) ?_
    intro v h1 hq
    exact rP_ret rfl rfl (rP_map (fun x : Int32 × List Nat × List Nat => (x.1, 0, 0, x.2.1, x.2.2)) (if_pos e1) (fun a F1 h => h) hq)
  by_cases e2 : (hb t 0) = 60
  · refine Hx.top (y := 60) e2 ?_
    refine Ex.nx rfl ?_
    show Ex X m_Reader_readAny 46 [.ref (c0 + 8), .ref (c0 + 1)] [] (hp c0 n _ _) _
    refine Ex.nx rfl ?_
    refine Hx.get 8 rfl hC.r8 rfl ?_
    refine Ex.nx rfl ?_
    refine CR.ps hC rfl ?_
    intro F6 hC6
    show Ex X m_Reader_readAny 54 [.ref (c0 + 8), .ref (c0 + 1)] [] (hp c0 n _ _) _
    refine Ex.nx rfl ?_
    refine Ex.nx rfl ?_
    refine Ex.nx rfl ?_
    refine Ex.nx rfl ?_
    refine Hx.get 8 rfl hC6.r8 rfl ?_
    refine Hx.get 3 rfl hC6.r3 rfl ?_
    refine CR.rd hC6 rfl rfl rfl rfl (cr_name4 (q := 0) (by decide) hC6) ?_
    intro v h1 hq
    exact rP_ret rfl rfl (rP_map (fun b => (2, 0, 0, b, [])) ((if_neg e1).trans (if_pos e2)) (fun a F1 h => h) hq)
  by_cases e3 : (hb t 0) = 95
  · refine Hx.top (y := 95) e3 ?_
    refine Ex.nx rfl ?_
    show Ex X m_Reader_readAny 40 [.ref (c0 + 8), .ref (c0 + 1)] [] (hp c0 n _ _) _
    refine Ex.nx rfl ?_
    refine Ex.nx rfl ?_
    refine CR.rd hC rfl rfl rfl rfl (cr_blank hC) ?_
    intro v h1 hq
    exact rP_ret rfl rfl (rP_map (fun b => (1, 0, 0, b, [])) ((if_neg e1).trans ((if_neg e2).trans (if_pos e3))) (fun a F1 h => h) hq)
  refine Hx.lsw (off := 69) rfl rfl ((lv_osw e1 rfl).trans ((lv_osw e2 rfl).trans ((lv_osw e3 rfl).trans rfl))) (by decide) ?_
  show Ex X m_Reader_readAny 74 [.ref (c0 + 8), .ref (c0 + 1)] [] (hp c0 n _ _) _
  refine Ex.nx rfl ?_
  refine Ex.nx rfl ?_
  refine CR.rd hC rfl rfl rfl rfl (cr_plain hS hC (Or.inl ⟨rfl, rfl⟩)) ?_
  intro v h1 hq
  exact rP_ret rfl rfl (rP_map (fun x : Int32 × Int64 × Nat => (x.1, x.2.1, x.2.2, [], [])) ((if_neg e1).trans ((if_neg e2).trans (if_neg e3))) (fun a F1 h => h) hq)
def wl (k : Nat) : List Nat := (List.range (wlen k)).map (wch k)
theorem wl_len (k : Nat) : (wl k).length = wlen k := by simp [wl]
theorem wl_get {k i : Nat} (h : i < wlen k) : (wl k).getD i 0 = wch k i := by simp [wl, List.getD_eq_getElem?_getD, h]
theorem wl_t {k : Nat} (hk : k < 12) {l : List Nat} (hb1 : ∀ i, l.getD i 0 < 256) (hl : l.length = wlen k) (h : ∀ i, i < wlen k → hb l i = nI (wch k i)) : l = wl k := by
  refine getD_ext0 (by rw [hl, wl_len]) (fun j hj => ?_)
  rw [wl_get (by omega)]
  have e := h j (by omega)
  rw [hb_lt hj] at e
  exact (nI_eq (by have := hb1 j; omega) (by have := (wch_all k hk j (by omega)).2; omega)).mp e
theorem wl_f {k i : Nat} {l : List Nat} (e : l = wl k) (hi : i < wlen k) : hb l i = nI (wch k i) := by
  rw [e, hb_lt (by rw [wl_len]; exact hi), wl_get hi]
set_option maxRecDepth 100000 in
set_option maxHeartbeats 2000000 in
theorem rl_sp_l {X : ev_X} {c0 n z : Nat} (hS : XS X c0) {k : Nat} (hk : k < 12) {F : Nat → Option va_E} {j0 ja N : Nat} {l : List Nat} (hN : N ≤ 1000) (h : rowL c0 F j0 ja N l) (hl : l.length = wlen k) : ∀ (m j : Nat) (hm : j + m = wlen k) (hp1 : ∀ i, i < j → hb l i = nI (wch k i)), Ex X m_Row_spells 15 [.ref (c0 + j0), .ref (X.2.1 k), .int (nI j)] [] (hp c0 n z F) (fun r h' => r = some (.int (bi (decide (l = wl k)))) ∧ h' = hp c0 n z F) := by
  have hw := wlen_all k hk
  intro m
  induction m with
  | zero =>
    intro j hm hp1
    refine Ex.nx rfl ?_
    refine Ex.nx rfl ?_
    refine Hx.scl hS hk lo_hp rfl rfl rfl rfl (hs_length hS lo_hp hk) ?_
    rintro v h1 ⟨rfl, rfl⟩
    show Ex X m_Row_spells 20 [.ref (c0 + j0), .ref (X.2.1 k), .int (nI j)] [.int (nI (wlen k)), .int (nI j)] (hp c0 n _ _) _
    refine Ex.nx rfl ?_
    refine Ex.ite (fun c1 => ?_) (fun c1 => ?_)
    · replace c1 : (nI (wlen k)) ≤ (nI j) := of_decide_eq_true c1
      show Ex X m_Row_spells 44 [.ref (c0 + j0), .ref (X.2.1 k), .int (nI j)] [] (hp c0 n _ _) _
      refine Ex.nx rfl ?_
      exact Ex.ret rfl rfl ⟨ret_1 (decide_eq_true (wl_t hk h.by hl (fun i hi => hp1 i (by omega)))), rfl⟩
    · replace c1 : ¬ (nI (wlen k)) ≤ (nI j) := of_decide_eq_false c1
      exact absurd (show nI (wlen k) ≤ nI j by rw [show j = wlen k by omega]; exact Int32.le_refl _) c1
  | succ m ih =>
    intro j hm hp1
    refine Ex.nx rfl ?_
    refine Ex.nx rfl ?_
    refine Hx.scl hS hk lo_hp rfl rfl rfl rfl (hs_length hS lo_hp hk) ?_
    rintro v h1 ⟨rfl, rfl⟩
    show Ex X m_Row_spells 20 [.ref (c0 + j0), .ref (X.2.1 k), .int (nI j)] [.int (nI (wlen k)), .int (nI j)] (hp c0 n _ _) _
    refine Ex.nx rfl ?_
    refine Ex.ite (fun c1 => ?_) (fun c1 => ?_)
    · replace c1 : (nI (wlen k)) ≤ (nI j) := of_decide_eq_true c1
      exact absurd ((nI_leI (by omega) (by omega)).mp c1) (by omega)
    · replace c1 : ¬ (nI (wlen k)) ≤ (nI j) := of_decide_eq_false c1
      show Ex X m_Row_spells 23 [.ref (c0 + j0), .ref (X.2.1 k), .int (nI j)] [] (hp c0 n _ _) _
      refine Ex.nx rfl ?_
      refine Ex.nx rfl ?_
      refine Hx.rowE h rfl rfl rfl rfl (rl_at h hN (i := j) (by omega)) ?_
      show Ex X m_Row_spells 28 [.ref (c0 + j0), .ref (X.2.1 k), .int (nI j)] [.int (hb l j)] (hp c0 n _ _) _
      refine Ex.nx rfl ?_
      refine Ex.nx rfl ?_
      refine Hx.scl hS hk lo_hp rfl rfl rfl rfl (hs_char hS lo_hp hk (j := j) (by omega)) ?_
      rintro v h1 ⟨rfl, rfl⟩
      show Ex X m_Row_spells 33 [.ref (c0 + j0), .ref (X.2.1 k), .int (nI j)] [.int (nI (wch k j)), .int (hb l j)] (hp c0 n _ _) _
      refine Ex.nx rfl ?_
      refine Ex.ite (fun c2 => ?_) (fun c2 => ?_)
      · replace c2 : (hb l j) = (nI (wch k j)) := of_decide_eq_true c2
        show Ex X m_Row_spells 38 [.ref (c0 + j0), .ref (X.2.1 k), .int (nI j)] [] (hp c0 n _ _) _
        refine Ex.nx rfl ?_
        show Ex X m_Row_spells 41 [.ref (c0 + j0), .ref (X.2.1 k), .int ((nI j) + 1)] [] (hp c0 n _ _) _
        refine Ex.nx rfl ?_
        show Ex X m_Row_spells 15 [.ref (c0 + j0), .ref (X.2.1 k), .int ((nI j) + 1)] [] (hp c0 n _ _) _
        rw [show nI j + 1 = nI (j + 1) from nI_1 j]
        exact ih (j + 1) (by omega) (fun i hi => by
          by_cases q : i < j
          · exact hp1 i q
          · rw [show i = j by omega]; exact c2)
      · replace c2 : ¬ (hb l j) = (nI (wch k j)) := of_decide_eq_false c2
        show Ex X m_Row_spells 36 [.ref (c0 + j0), .ref (X.2.1 k), .int (nI j)] [] (hp c0 n _ _) _
        refine Ex.nx rfl ?_
        exact Ex.ret rfl rfl ⟨ret_0 (decide_eq_false (fun e => c2 (wl_f e (by omega)))), rfl⟩
set_option maxRecDepth 100000 in
set_option maxHeartbeats 2000000 in
theorem rl_spells {X : ev_X} {c0 n z : Nat} (hS : XS X c0) {k : Nat} (hk : k < 12) {F : Nat → Option va_E} {j0 ja N : Nat} {l : List Nat} (hN : N ≤ 1000) (h : rowL c0 F j0 ja N l) : Ex X m_Row_spells 0 [.ref (c0 + j0), .ref (X.2.1 k), ev_dead] [] (hp c0 n z F) (fun r h' => r = some (.int (bi (decide (l = wl k)))) ∧ h' = hp c0 n z F) := by
  have hw := wlen_all k hk
  obtain ⟨f, hF, -⟩ := id h
  refine Ex.nx rfl ?_
  refine Hx.get j0 rfl hF rfl ?_
  refine Ex.nx rfl ?_
  refine Hx.scl hS hk lo_hp rfl rfl rfl rfl (hs_length hS lo_hp hk) ?_
  rintro v h1 ⟨rfl, rfl⟩
  show Ex X m_Row_spells 8 [.ref (c0 + j0), .ref (X.2.1 k), ev_dead] [.int (nI (wlen k)), .int (nI l.length)] (hp c0 n _ _) _
  refine Ex.nx rfl ?_
  refine Ex.ite (fun c1 => ?_) (fun c1 => ?_)
  · replace c1 : (nI l.length) = (nI (wlen k)) := of_decide_eq_true c1
    show Ex X m_Row_spells 13 [.ref (c0 + j0), .ref (X.2.1 k), ev_dead] [] (hp c0 n _ _) _
    refine Ex.nx rfl ?_
    refine Ex.nx rfl ?_
    show Ex X m_Row_spells 15 [.ref (c0 + j0), .ref (X.2.1 k), .int 0] [] (hp c0 n _ _) _
    show Ex X m_Row_spells 15 [.ref (c0 + j0), .ref (X.2.1 k), .int 0] [] (hp c0 n _ _) _
    exact rl_sp_l hS hk hN h ((nI_eq (by have := h.le; omega) (by omega)).mp c1) (wlen k) 0 (by omega) (fun i hi => absurd hi (Nat.not_lt_zero i))
  · replace c1 : ¬ (nI l.length) = (nI (wlen k)) := of_decide_eq_false c1
    show Ex X m_Row_spells 11 [.ref (c0 + j0), .ref (X.2.1 k), ev_dead] [] (hp c0 n _ _) _
    refine Ex.nx rfl ?_
    exact Ex.ret rfl rfl ⟨ret_0 (decide_eq_false (fun e => c1 (by rw [e, wl_len]))), rfl⟩
def snm (tl : List Nat) : Int32 := if tl = wl 3 then 3 else if tl = wl 4 then 4 else if tl = wl 5 then 8 else 7
set_option maxRecDepth 100000 in
set_option maxHeartbeats 2000000 in
theorem hx_sortNamed {X : ev_X} {c0 n z : Nat} (hS : XS X c0) {F : Nat → Option va_E} {tl : List Nat} (h : rowL c0 F 6 7 60 tl) : Ex X m_Reader_sortNamed 0 [.ref (c0 + 6)] [] (hp c0 n z F) (fun r h' => r = some (.int (snm tl)) ∧ h' = hp c0 n z F) := by
  refine Ex.nx rfl ?_
  refine Ex.nx rfl ?_
  refine Hx.rowE h rfl rfl rfl rfl (rl_spells hS (k := 3) (by decide) (by decide) h) ?_
  show Ex X m_Reader_sortNamed 6 [.ref (c0 + 6)] [.int (bi (decide (tl = wl 3)))] (hp c0 n _ _) _
  refine Ex.nx rfl ?_
  refine Ex.ite (fun c1 => ?_) (fun c1 => ?_)
  · replace c1 : (decide (tl = wl 3)) = false := bi_eqt c1
    show Ex X m_Reader_sortNamed 11 [.ref (c0 + 6)] [] (hp c0 n _ _) _
    refine Ex.nx rfl ?_
    refine Ex.nx rfl ?_
    refine Hx.rowE h rfl rfl rfl rfl (rl_spells hS (k := 4) (by decide) (by decide) h) ?_
    show Ex X m_Reader_sortNamed 17 [.ref (c0 + 6)] [.int (bi (decide (tl = wl 4)))] (hp c0 n _ _) _
    refine Ex.nx rfl ?_
    refine Ex.ite (fun c2 => ?_) (fun c2 => ?_)
    · replace c2 : (decide (tl = wl 4)) = false := bi_eqt c2
      show Ex X m_Reader_sortNamed 22 [.ref (c0 + 6)] [] (hp c0 n _ _) _
      refine Ex.nx rfl ?_
      refine Ex.nx rfl ?_
      refine Hx.rowE h rfl rfl rfl rfl (rl_spells hS (k := 5) (by decide) (by decide) h) ?_
      show Ex X m_Reader_sortNamed 28 [.ref (c0 + 6)] [.int (bi (decide (tl = wl 5)))] (hp c0 n _ _) _
      refine Ex.nx rfl ?_
      refine Ex.ite (fun c3 => ?_) (fun c3 => ?_)
      · replace c3 : (decide (tl = wl 5)) = false := bi_eqt c3
        show Ex X m_Reader_sortNamed 36 [.ref (c0 + 6)] [] (hp c0 n _ _) _
        refine Ex.nx rfl ?_
        exact Ex.ret rfl (ev_reti rfl) ⟨by rw [snm, if_neg (of_decide_eq_false c1), if_neg (of_decide_eq_false c2), if_neg (of_decide_eq_false c3)]; rfl, rfl⟩
      · replace c3 : (decide (tl = wl 5)) = true := bi_eqf c3
        show Ex X m_Reader_sortNamed 31 [.ref (c0 + 6)] [] (hp c0 n _ _) _
        refine Ex.nx rfl ?_
        refine Ex.nx rfl ?_
        exact Ex.ret rfl (ev_reti rfl) ⟨by rw [snm, if_neg (of_decide_eq_false c1), if_neg (of_decide_eq_false c2), if_pos (of_decide_eq_true c3)]; rfl, rfl⟩
    · replace c2 : (decide (tl = wl 4)) = true := bi_eqf c2
      show Ex X m_Reader_sortNamed 20 [.ref (c0 + 6)] [] (hp c0 n _ _) _
      refine Ex.nx rfl ?_
      exact Ex.ret rfl (ev_reti rfl) ⟨by rw [snm, if_neg (of_decide_eq_false c1), if_pos (of_decide_eq_true c2)]; rfl, rfl⟩
  · replace c1 : (decide (tl = wl 3)) = true := bi_eqf c1
    show Ex X m_Reader_sortNamed 9 [.ref (c0 + 6)] [] (hp c0 n _ _) _
    refine Ex.nx rfl ?_
    exact Ex.ret rfl (ev_reti rfl) ⟨by rw [snm, if_pos (of_decide_eq_true c1)]; rfl, rfl⟩
