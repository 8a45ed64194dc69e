/-! The class settles a type; its last steps. (rows laid by wip/whole/cr6.py) -/
/-- what a typed text is: of four types no kind of their own -/
def sSe (b tl : List Nat) (q : Nat) : Bool × Nat × Tm := if tl = wl 2 then (true, q, 5, 0, 0, b, []) else if snm tl = 7 then (true, q, 7, 0, 0, b, tl) else if (sP b).1 = true ∧ (sP b).2.1 = b.length ∧ (sP b).2.2.1 = snm tl then (true, q, (sP b).2.2.1, (sP b).2.2.2.1, (sP b).2.2.2.2, [], []) else (false, 0, 0, 0, 0, [], [])
set_option maxRecDepth 100000 in
set_option maxHeartbeats 2000000 in
theorem cr_settle {X : ev_X} {c0 n z : Nat} (hS : XS X c0) {F0 : Nat → Option va_E} {t : List Nat} {fp : Int32} {bd tl : List Nat} {F : Nat → Option va_E} {q : Nat} (hq : q ≤ 1000) (hC : CR c0 F0 t 7 0 0 bd tl 0 fp F) : Ex X m_Reader_settleType 0 [.ref (c0 + 8), .int (nI q), ev_dead, ev_dead] [] (hp c0 n z F) (rP c0 n z F0 t (sSe bd tl q) (fun x F1 => CR c0 F0 t x.1 x.2.1 (nI x.2.2.1) x.2.2.2.1 x.2.2.2.2 0 fp F1)) := by
  refine Ex.nx rfl ?_
  refine Hx.get 8 rfl hC.r8 rfl ?_
  refine Hx.get 3 rfl hC.r3 rfl ?_
  refine Ex.nx rfl ?_
  refine Hx.rowE hC.rl rfl rfl rfl rfl (rl_spells hS (k := 2) (by decide) (by decide) hC.rl) ?_
  show Ex X m_Reader_settleType 12 [.ref (c0 + 8), .int (nI q), ev_dead, ev_dead] [.int (bi (decide (tl = wl 2)))] (hp c0 n _ _) _
  refine Ex.nx rfl ?_
  refine Ex.ite (fun c1 => ?_) (fun c1 => ?_)
  · replace c1 : (decide (tl = wl 2)) = false := bi_eqt c1
    show Ex X m_Reader_settleType 35 [.ref (c0 + 8), .int (nI q), ev_dead, ev_dead] [] (hp c0 n _ _) _
    refine Ex.nx rfl ?_
    refine Hx.get 8 rfl hC.r8 rfl ?_
    refine Hx.get 3 rfl hC.r3 rfl ?_
    refine Hx.sst rfl rfl rfl rfl (hx_sortNamed hS hC.rl) ?_
    rintro v h1 ⟨rfl, rfl⟩
    show Ex X m_Reader_settleType 45 [.ref (c0 + 8), .int (nI q), ev_dead, ev_dead] [.int (snm tl)] (hp c0 n _ _) _
    refine Ex.nx rfl ?_
    show Ex X m_Reader_settleType 46 [.ref (c0 + 8), .int (nI q), .int (snm tl), ev_dead] [] (hp c0 n _ _) _
    refine Ex.nx rfl ?_
    refine Ex.nx rfl ?_
    refine Ex.nx rfl ?_
    refine Ex.ite (fun c2 => ?_) (fun c2 => ?_)
    · replace c2 : ¬ (snm tl) = 7 := of_decide_eq_true c2
      show Ex X m_Reader_settleType 54 [.ref (c0 + 8), .int (nI q), .int (snm tl), ev_dead] [] (hp c0 n _ _) _
      refine Ex.nx rfl ?_
      refine Ex.nx rfl ?_
      refine Hx.get 8 rfl hC.r8 rfl ?_
      refine Hx.get 3 rfl hC.r3 rfl ?_
      have hbl := hC.rb.le
      have hPl := sP_le bd (by omega)
      refine CR.rd hC rfl rfl rfl rfl (cr_plain hS hC (Or.inr ⟨rfl, rfl⟩)) ?_
      generalize ho : sP bd = o at hPl ⊢
      obtain ⟨b1, y1, x1, v1, pn1⟩ := o
      dsimp only at hPl
      cases b1
      · rintro v h1 ⟨rfl, F1, rfl, ⟨s1, nu1, p1, bd1, tl1, ft1, hft, hC1⟩⟩
        dsimp only at hC1
        show Ex X m_Reader_settleType 65 [.ref (c0 + 8), .int (nI q), .int (snm tl), ev_dead] [.int (-1)] (hp c0 n _ _) _
        refine Ex.nx rfl ?_
        show Ex X m_Reader_settleType 66 [.ref (c0 + 8), .int (nI q), .int (snm tl), .int (-1)] [] (hp c0 n _ _) _
        refine Ex.nx rfl ?_
        refine Ex.nx rfl ?_
        refine Hx.get 8 rfl hC1.r8 rfl ?_
        refine Hx.get 3 rfl hC1.r3 rfl ?_
        refine CR.sz hC1 (Or.inr ⟨rfl, rfl⟩) rfl rfl rfl ?_
        show Ex X m_Reader_settleType 77 [.ref (c0 + 8), .int (nI q), .int (snm tl), .int (-1)] [.int (nI bd1.length), .int (-1)] (hp c0 n _ _) _
        refine Ex.nx rfl ?_
        refine Ex.ite (fun c3 => ?_) (fun c3 => ?_)
        · replace c3 : ¬ (-1) = (nI bd1.length) := of_decide_eq_true c3
          show Ex X m_Reader_settleType 91 [.ref (c0 + 8), .int (nI q), .int (snm tl), .int (-1)] [] (hp c0 n _ _) _
          refine Ex.nx rfl ?_
          refine Ex.nx rfl ?_
          refine Ex.nx rfl ?_
          refine CR.rd hC1 rfl rfl rfl rfl (cr_fail hC1 7 0) ?_
          rintro v h1 ⟨rfl, F2, rfl, hC2⟩
          show Ex X m_Reader_settleType 98 [.ref (c0 + 8), .int (nI q), .int (snm tl), .int (-1)] [.int (-1)] (hp c0 n _ _) _
          exact Ex.ret rfl (ev_reti rfl) (rP_f (q := 0) (b := (0, 0, 0, [], [])) (by unfold sSe; rw [if_neg (of_decide_eq_false c1), if_neg c2, ho]; exact if_neg (fun h => Bool.false_ne_true h.1)) ⟨_, _, _, _, _, _, (by decide), hC2⟩)
        · replace c3 : (-1) = (nI bd1.length) := Classical.not_not.mp (of_decide_eq_false c3)
          exact absurd (show (-1 : Int32) = nI bd1.length from c3).symm (nI_nm1 (by have := hC1.rb.le; omega))
      rintro v h1 ⟨rfl, F1, rfl, hC1⟩
      dsimp only at hC1
      show Ex X m_Reader_settleType 65 [.ref (c0 + 8), .int (nI q), .int (snm tl), ev_dead] [.int (nI y1)] (hp c0 n _ _) _
      refine Ex.nx rfl ?_
      show Ex X m_Reader_settleType 66 [.ref (c0 + 8), .int (nI q), .int (snm tl), .int (nI y1)] [] (hp c0 n _ _) _
      refine Ex.nx rfl ?_
      refine Ex.nx rfl ?_
      refine Hx.get 8 rfl hC1.r8 rfl ?_
      refine Hx.get 3 rfl hC1.r3 rfl ?_
      refine CR.sz hC1 (Or.inr ⟨rfl, rfl⟩) rfl rfl rfl ?_
      show Ex X m_Reader_settleType 77 [.ref (c0 + 8), .int (nI q), .int (snm tl), .int (nI y1)] [.int (nI bd.length), .int (nI y1)] (hp c0 n _ _) _
      refine Ex.nx rfl ?_
      refine Ex.ite (fun c4 => ?_) (fun c4 => ?_)
      · replace c4 : ¬ (nI y1) = (nI bd.length) := of_decide_eq_true c4
        show Ex X m_Reader_settleType 91 [.ref (c0 + 8), .int (nI q), .int (snm tl), .int (nI y1)] [] (hp c0 n _ _) _
        refine Ex.nx rfl ?_
        refine Ex.nx rfl ?_
        refine Ex.nx rfl ?_
        refine CR.rd hC1 rfl rfl rfl rfl (cr_fail hC1 7 0) ?_
        rintro v h1 ⟨rfl, F3, rfl, hC3⟩
        show Ex X m_Reader_settleType 98 [.ref (c0 + 8), .int (nI q), .int (snm tl), .int (nI y1)] [.int (-1)] (hp c0 n _ _) _
        exact Ex.ret rfl (ev_reti rfl) (rP_f (q := 0) (b := (0, 0, 0, [], [])) (by unfold sSe; rw [if_neg (of_decide_eq_false c1), if_neg c2, ho]; exact if_neg (fun h => c4 (by rw [show y1 = bd.length from h.2.1]))) ⟨_, _, _, _, _, _, (by decide), hC3⟩)
      · replace c4 : (nI y1) = (nI bd.length) := Classical.not_not.mp (of_decide_eq_false c4)
        skip
        show Ex X m_Reader_settleType 80 [.ref (c0 + 8), .int (nI q), .int (snm tl), .int (nI y1)] [] (hp c0 n _ _) _
        refine Ex.nx rfl ?_
        refine Hx.get 8 rfl hC1.r8 rfl ?_
        refine Hx.get 3 rfl hC1.r3 rfl ?_
        refine Ex.nx rfl ?_
        refine Ex.nx rfl ?_
        refine Ex.ite (fun c5 => ?_) (fun c5 => ?_)
        · replace c5 : x1 = (snm tl) := of_decide_eq_true c5
          show Ex X m_Reader_settleType 99 [.ref (c0 + 8), .int (nI q), .int (snm tl), .int (nI y1)] [] (hp c0 n _ _) _
          refine Ex.nx rfl ?_
          refine Hx.get 8 rfl hC1.r8 rfl ?_
          refine Hx.get 3 rfl hC1.r3 rfl ?_
          refine CR.clb hC1 rfl rfl ?_
          intro F4 hC4
          show Ex X m_Reader_settleType 109 [.ref (c0 + 8), .int (nI q), .int (snm tl), .int (nI y1)] [] (hp c0 n _ _) _
          refine Ex.nx rfl ?_
          refine Hx.get 8 rfl hC4.r8 rfl ?_
          refine Hx.get 3 rfl hC4.r3 rfl ?_
          refine CR.clt hC4 rfl rfl ?_
          intro F5 hC5
          show Ex X m_Reader_settleType 119 [.ref (c0 + 8), .int (nI q), .int (snm tl), .int (nI y1)] [] (hp c0 n _ _) _
          refine Ex.nx rfl ?_
          exact Ex.ret rfl (ev_reti rfl) (rP_t (q := q) (b := (x1, v1, pn1, [], [])) (by unfold sSe; rw [if_neg (of_decide_eq_false c1), if_neg c2, ho]; exact if_pos ⟨rfl, (nI_eq (a := y1) (by omega) (by omega)).mp c4, c5⟩) hC5)
        · replace c5 : ¬ x1 = (snm tl) := of_decide_eq_false c5
          show Ex X m_Reader_settleType 91 [.ref (c0 + 8), .int (nI q), .int (snm tl), .int (nI y1)] [] (hp c0 n _ _) _
          refine Ex.nx rfl ?_
          refine Ex.nx rfl ?_
          refine Ex.nx rfl ?_
          refine CR.rd hC1 rfl rfl rfl rfl (cr_fail hC1 7 0) ?_
          rintro v h1 ⟨rfl, F6, rfl, hC6⟩
          show Ex X m_Reader_settleType 98 [.ref (c0 + 8), .int (nI q), .int (snm tl), .int (nI y1)] [.int (-1)] (hp c0 n _ _) _
          exact Ex.ret rfl (ev_reti rfl) (rP_f (q := 0) (b := (0, 0, 0, [], [])) (by unfold sSe; rw [if_neg (of_decide_eq_false c1), if_neg c2, ho]; exact if_neg (fun h => c5 h.2.2)) ⟨_, _, _, _, _, _, (by decide), hC6⟩)
    · replace c2 : (snm tl) = 7 := Classical.not_not.mp (of_decide_eq_false c2)
      show Ex X m_Reader_settleType 52 [.ref (c0 + 8), .int (nI q), .int (snm tl), ev_dead] [] (hp c0 n _ _) _
      refine Ex.nx rfl ?_
      exact Ex.ret rfl (ev_reti rfl) (rP_t (q := q) (b := (7, 0, 0, bd, tl)) ((if_neg (of_decide_eq_false c1)).trans (if_pos c2)) hC)
  · replace c1 : (decide (tl = wl 2)) = true := bi_eqf c1
    show Ex X m_Reader_settleType 15 [.ref (c0 + 8), .int (nI q), ev_dead, ev_dead] [] (hp c0 n _ _) _
    refine Ex.nx rfl ?_
    refine Hx.get 8 rfl hC.r8 rfl ?_
    refine Ex.nx rfl ?_
    refine CR.ps hC rfl ?_
    intro F7 hC7
    show Ex X m_Reader_settleType 23 [.ref (c0 + 8), .int (nI q), ev_dead, ev_dead] [] (hp c0 n _ _) _
    refine Ex.nx rfl ?_
    refine Hx.get 8 rfl hC7.r8 rfl ?_
    refine Hx.get 3 rfl hC7.r3 rfl ?_
    refine CR.clt hC7 rfl rfl ?_
    intro F8 hC8
    show Ex X m_Reader_settleType 33 [.ref (c0 + 8), .int (nI q), ev_dead, ev_dead] [] (hp c0 n _ _) _
    refine Ex.nx rfl ?_
    exact Ex.ret rfl (ev_reti rfl) (rP_t (q := q) (b := (5, 0, 0, bd, [])) (if_pos (of_decide_eq_true c1)) hC8)
set_option maxRecDepth 100000 in
set_option maxHeartbeats 2000000 in
theorem cr_become {X : ev_X} {c0 n z : Nat} {F0 : Nat → Option va_E} {t : List Nat} {s p ft fp : Int32} {nu : Int64} {bd tl : List Nat} {F : Nat → Option va_E} (hC : CR c0 F0 t s nu p bd tl ft fp F) (s1 : Int32) (v1 : Int64) (p1 : Int32) : Ex X m_Term_become 0 [.ref (c0 + 3), .int s1, .long v1, ev_dead, .int p1] [] (hp c0 n z F) (fun r h' => r = none ∧ ∃ F1, h' = hp c0 n z F1 ∧ CR c0 F0 t s1 v1 p1 [] [] ft fp F1) := by
  refine Ex.nx rfl ?_
  refine Ex.nx rfl ?_
  refine CR.ps hC rfl ?_
  intro F9 hC9
  show Ex X m_Term_become 5 [.ref (c0 + 3), .int s1, .long v1, ev_dead, .int p1] [] (hp c0 n _ _) _
  refine Ex.nx rfl ?_
  refine Ex.nx rfl ?_
  refine CR.pn hC9 rfl ?_
  intro F10 hC10
  show Ex X m_Term_become 10 [.ref (c0 + 3), .int s1, .long v1, ev_dead, .int p1] [] (hp c0 n _ _) _
  refine Ex.nx rfl ?_
  refine Ex.nx rfl ?_
  refine CR.pp hC10 rfl ?_
  intro F11 hC11
  show Ex X m_Term_become 16 [.ref (c0 + 3), .int s1, .long v1, ev_dead, .int p1] [] (hp c0 n _ _) _
  refine Ex.nx rfl ?_
  refine Hx.get 3 rfl hC11.r3 rfl ?_
  refine CR.clb hC11 rfl rfl ?_
  intro F12 hC12
  show Ex X m_Term_become 23 [.ref (c0 + 3), .int s1, .long v1, ev_dead, .int p1] [] (hp c0 n _ _) _
  refine Ex.nx rfl ?_
  refine Hx.get 3 rfl hC12.r3 rfl ?_
  refine CR.clt hC12 rfl rfl ?_
  intro F13 hC13
  show Ex X m_Term_become 30 [.ref (c0 + 3), .int s1, .long v1, ev_dead, .int p1] [] (hp c0 n _ _) _
  exact Ex.ret rfl rfl ⟨rfl, _, rfl, hC13⟩
/-- what the tape is: a term, or a fault at a place -/
def sAll2 (t : List Nat) (o : Bool × Nat × Tm) : Bool × Nat × Tm := if o.1 = true then (if o.2.1 < t.length then (false, o.2.1, 0, 0, 0, [], []) else (true, t.length, o.2.2)) else (false, o.2.1, 0, 0, 0, [], [])
def sAll1 (o : Bool × Nat × Tm) : Bool × Nat × Tm := if o.1 = true then (if o.2.2.1 = 7 then sSe o.2.2.2.2.2.1 o.2.2.2.2.2.2 o.2.1 else o) else o
def sAll (t : List Nat) : Bool × Nat × Tm := sAll2 t (sAll1 (sA t))
/-- the answer of readTerm -/
def tP (c0 n z : Nat) (F0 : Nat → Option va_E) (t : List Nat) (o : Bool × Nat × Tm) (r : Option Value) (h' : ev_H) : Prop := if o.1 = true then r = some (.int 0) ∧ ∃ F1, h' = hp c0 n z F1 ∧ CR c0 F0 t o.2.2.1 o.2.2.2.1 (nI o.2.2.2.2.1) o.2.2.2.2.2.1 o.2.2.2.2.2.2 0 (nI t.length) F1 else ∃ ft, ft ≠ 0 ∧ r = some (.int ft) ∧ ∃ F1, h' = hp c0 n z F1 ∧ ∃ s nu p bd tl, CR c0 F0 t s nu p bd tl ft (nI o.2.1) F1
theorem tP_t {c0 n z : Nat} {F0 F1 : Nat → Option va_E} {t : List Nat} {o : Bool × Nat × Tm} {q : Nat} {x : Tm} (e : o = (true, q, x)) (h : CR c0 F0 t x.1 x.2.1 (nI x.2.2.1) x.2.2.2.1 x.2.2.2.2 0 (nI t.length) F1) : tP c0 n z F0 t o (some (.int 0)) (hp c0 n z F1) := by
  subst e
  unfold tP
  rw [if_pos rfl]
  exact ⟨rfl, F1, rfl, h⟩
theorem tP_f {c0 n z : Nat} {F0 F1 : Nat → Option va_E} {t : List Nat} {o : Bool × Nat × Tm} {s p ft : Int32} {nu : Int64} {bd tl : List Nat} (e : ¬ o.1 = true) (hf : ft ≠ 0) (h : CR c0 F0 t s nu p bd tl ft (nI o.2.1) F1) : tP c0 n z F0 t o (some (.int ft)) (hp c0 n z F1) := by
  unfold tP
  rw [if_neg e]
  exact ⟨ft, hf, rfl, F1, rfl, _, _, _, _, _, h⟩
theorem sTx_le (t : List Nat) (ht : t.length ≤ 240) : (sTx t).2.1 ≤ 400 := by
  unfold sTx
  split
  · by_cases h0 : 1 ≤ t.length
    · have h1 := sI_le t t.length 1 [] h0
      unfold sTx2
      split
      · next e => have := hb_in (t := t) (q := (sI t t.length 1 []).2.1) (by rw [e]; decide); have := sT_le t (t.length - ((sI t t.length 1 []).2.1 + 1)) ((sI t t.length 1 []).2.1 + 1) 0 true [] (by omega); show (sT _ _ _ _ _ _).2.1 ≤ 400; omega
      · split
        · split
          · exact sNa_le t _ (by omega) ht
          · dsimp only; omega
        · dsimp only; omega
    · have hz : t.length = 0 := by omega
      next hh => rw [hz] at hh; exact absurd hh (by simp [sI])
  · by_cases h0 : 1 ≤ t.length
    · have h1 := sI_le t t.length 1 [] h0
      dsimp only; omega
    · have hz : t.length = 0 := by omega
      rw [hz]; simp [sI, hz]
theorem sNu1_s (l : List Nat) (st : Nat) (v : Int64) : (sNu1 l st v).2.2.1 = 3 ∨ (sNu1 l st v).2.2.1 = 4 ∨ (sNu1 l st v).2.2.1 = 0 := by
  unfold sNu1 sNu2
  dsimp only
  repeat' split
  all_goals first | exact Or.inl rfl | exact Or.inr (Or.inl rfl) | exact Or.inr (Or.inr rfl)
theorem sTr_s (l : List Nat) (k : Nat) (tv : Int32) : (sTr l k tv).2.2.1 = 8 ∨ (sTr l k tv).2.2.1 = 0 := by
  unfold sTr
  repeat' split
  all_goals first | exact Or.inl rfl | exact Or.inr rfl
theorem sP_s (l : List Nat) : (sP l).2.2.1 = 3 ∨ (sP l).2.2.1 = 4 ∨ (sP l).2.2.1 = 8 ∨ (sP l).2.2.1 = 0 := by
  have h1 := sNu1_s l (sgn0 l) 0
  unfold sP
  repeat' split
  · rcases sTr_s l 0 1 with h | h <;> simp [h]
  · rcases sTr_s l 1 0 with h | h <;> simp [h]
  · simp
  · rcases h1 with h | h | h <;> simp [h]
  · rcases h1 with h | h | h <;> simp [h]
theorem sA_7 (t : List Nat) : (sA t).2.2.1 = 7 → (sA t).2.2.2.1 = 0 ∧ (sA t).2.2.2.2.1 = 0 := by
  unfold sA
  repeat' split
  · intro _; exact ⟨rfl, rfl⟩
  · intro h; exact absurd (show (2 : Int32) = 7 from h) (by decide)
  · intro h; exact absurd (show (1 : Int32) = 7 from h) (by decide)
  · intro h
    have h' : (sP t).2.2.1 = 7 := h
    rcases sP_s t with e | e | e | e <;> (rw [e] at h'; exact absurd h' (by decide))
theorem sA_le (t : List Nat) (ht : t.length ≤ 240) : (sA t).2.1 ≤ 400 := by
  unfold sA
  repeat' split
  · exact sTx_le t ht
  · exact sNa_le t 0 (by omega) ht
  · exact sBk_le t ht
  · exact sP_le t ht
theorem sSe_le (b tl : List Nat) (q : Nat) (h : q ≤ 400) : (sSe b tl q).2.1 ≤ 400 := by
  unfold sSe
  repeat' split
  all_goals first | exact h | decide
set_option maxRecDepth 100000 in
set_option maxHeartbeats 2000000 in
theorem cr_term_t {X : ev_X} {c0 n z : Nat} {F0 : Nat → Option va_E} {t : List Nat} {F : Nat → Option va_E} {q : Nat} {x : Tm} (hq : q ≤ 400) (hC : CR c0 F0 t x.1 x.2.1 (nI x.2.2.1) x.2.2.2.1 x.2.2.2.2 0 (nI t.length) F) : Ex X m_Reader_readTerm 52 [.ref (c0 + 8), .ref (c0 + 1), .int (nI q)] [] (hp c0 n z F) (tP c0 n z F0 t (sAll2 t (true, q, x))) := by
  have hl := hC.rt.le
  refine Ex.nx rfl ?_
  refine Ex.nx rfl ?_
  refine Ex.nx rfl ?_
  refine Ex.ite (fun c1 => ?_) (fun c1 => ?_)
  · replace c1 : (nI q) = (-1) := of_decide_eq_true c1
    exact absurd c1 (nI_nm1 (by omega))
  · replace c1 : ¬ (nI q) = (-1) := of_decide_eq_false c1
    show Ex X m_Reader_readTerm 57 [.ref (c0 + 8), .ref (c0 + 1), .int (nI q)] [] (hp c0 n _ _) _
    refine Ex.nx rfl ?_
    refine Ex.nx rfl ?_
    refine CR.sz hC (Or.inl ⟨rfl, rfl⟩) rfl rfl rfl ?_
    show Ex X m_Reader_readTerm 62 [.ref (c0 + 8), .ref (c0 + 1), .int (nI q)] [.int (nI t.length), .int (nI q)] (hp c0 n _ _) _
    refine Ex.nx rfl ?_
    refine Ex.ite (fun c2 => ?_) (fun c2 => ?_)
    · replace c2 : (nI t.length) ≤ (nI q) := of_decide_eq_true c2
      show Ex X m_Reader_readTerm 73 [.ref (c0 + 8), .ref (c0 + 1), .int (nI q)] [] (hp c0 n _ _) _
      refine Ex.nx rfl ?_
      refine Hx.get 8 rfl hC.r8 rfl ?_
      exact Ex.ret rfl (ev_reti rfl) (tP_t ((if_pos rfl).trans (if_neg (show ¬ q < t.length by have := (nI_leI (by omega) (by omega)).mp c2; omega))) hC)
    · replace c2 : ¬ (nI t.length) ≤ (nI q) := of_decide_eq_false c2
      show Ex X m_Reader_readTerm 65 [.ref (c0 + 8), .ref (c0 + 1), .int (nI q)] [] (hp c0 n _ _) _
      refine Ex.nx rfl ?_
      refine Ex.nx rfl ?_
      refine Ex.nx rfl ?_
      refine CR.rd hC rfl rfl rfl rfl (cr_fail hC 8 (nI q)) ?_
      rintro v h1 ⟨rfl, F14, rfl, hC14⟩
      show Ex X m_Reader_readTerm 72 [.ref (c0 + 8), .ref (c0 + 1), .int (nI q)] [.int (-1)] (hp c0 n _ _) _
      refine Ex.nx rfl ?_
      refine Ex.nx rfl ?_
      refine Hx.get 8 rfl hC14.r8 rfl ?_
      have e : sAll2 t (true, q, x) = (false, q, 0, 0, 0, [], []) := (if_pos rfl).trans (if_pos (Nat.lt_of_not_le (fun e => c2 ((nI_leI (by omega) (by omega)).mpr e))))
      rw [e]
      exact Ex.ret rfl (ev_reti rfl) (tP_f Bool.false_ne_true (by decide) hC14)
set_option maxRecDepth 100000 in
set_option maxHeartbeats 2000000 in
theorem cr_term_e {X : ev_X} {c0 n z : Nat} {F0 : Nat → Option va_E} {t : List Nat} {F : Nat → Option va_E} {o : Bool × Nat × Tm} (he : ¬ o.1 = true) (hE : CE c0 F0 t o.2.1 F) : Ex X m_Reader_readTerm 52 [.ref (c0 + 8), .ref (c0 + 1), .int (-1)] [] (hp c0 n z F) (tP c0 n z F0 t o) := by
  obtain ⟨s1, nu1, p1, bd1, tl1, ft1, hft, hC⟩ := hE
  refine Ex.nx rfl ?_
  refine Ex.nx rfl ?_
  refine Ex.nx rfl ?_
  show Ex X m_Reader_readTerm 73 [.ref (c0 + 8), .ref (c0 + 1), .int (-1)] [] (hp c0 n _ _) _
  refine Ex.nx rfl ?_
  refine Hx.get 8 rfl hC.r8 rfl ?_
  exact Ex.ret rfl (ev_reti rfl) (tP_f he hft hC)
set_option maxRecDepth 100000 in
set_option maxHeartbeats 2000000 in
theorem cr_term_s {X : ev_X} {c0 n z : Nat} (hS : XS X c0) {F0 : Nat → Option va_E} {t : List Nat} {F : Nat → Option va_E} {bd tl : List Nat} {q : Nat} (hq : q ≤ 400) (hC : CR c0 F0 t 7 0 0 bd tl 0 (nI t.length) F) : Ex X m_Reader_readTerm 46 [.ref (c0 + 8), .ref (c0 + 1), .int (nI q)] [] (hp c0 n z F) (tP c0 n z F0 t (sAll2 t (sSe bd tl q))) := by
  have hl := hC.rt.le
  refine Ex.nx rfl ?_
  refine Ex.nx rfl ?_
  have hz := sSe_le bd tl q (by omega)
  refine CR.rd hC rfl rfl rfl rfl (cr_settle hS (by omega) hC) ?_
  generalize sSe bd tl q = o at hz ⊢
  obtain ⟨b, y, x⟩ := o
  dsimp only at hz
  cases b
  · rintro v h1 ⟨rfl, F1, rfl, hE⟩
    refine Ex.nx rfl ?_
    exact cr_term_e (o := sAll2 t (false, y, x)) Bool.false_ne_true hE
  rintro v h1 ⟨rfl, F1, rfl, hC1⟩
  refine Ex.nx rfl ?_
  exact cr_term_t (by omega) hC1
set_option maxRecDepth 100000 in
set_option maxHeartbeats 2000000 in
theorem cr_term {X : ev_X} {c0 n z : Nat} (hS : XS X c0) {F0 : Nat → Option va_E} {t : List Nat} {s p ft fp : Int32} {nu : Int64} {bd tl : List Nat} {F : Nat → Option va_E} (hC : CR c0 F0 t s nu p bd tl ft fp F) : Ex X m_Reader_readTerm 0 [.ref (c0 + 8), .ref (c0 + 1), ev_dead] [] (hp c0 n z F) (tP c0 n z F0 t (sAll t)) := by
  have hl := hC.rt.le
  refine Ex.nx rfl ?_
  refine Hx.get 8 rfl hC.r8 rfl ?_
  refine Ex.nx rfl ?_
  refine Ex.nx rfl ?_
  refine Ex.nx rfl ?_
  refine Hx.callX 3 rfl rfl hC.r3 rfl rfl (cr_become hC 0 0 0) ?_
  rintro v h1 ⟨rfl, F16, rfl, hC16⟩
  show Ex X m_Reader_readTerm 10 [.ref (c0 + 8), .ref (c0 + 1), ev_dead] [] (hp c0 n _ _) _
  refine Ex.nx rfl ?_
  refine Ex.nx rfl ?_
  refine CR.pf hC16 rfl ?_
  intro F17 hC17
  show Ex X m_Reader_readTerm 15 [.ref (c0 + 8), .ref (c0 + 1), ev_dead] [] (hp c0 n _ _) _
  refine Ex.nx rfl ?_
  refine Ex.nx rfl ?_
  refine CR.sz hC17 (Or.inl ⟨rfl, rfl⟩) rfl rfl rfl ?_
  show Ex X m_Reader_readTerm 20 [.ref (c0 + 8), .ref (c0 + 1), ev_dead] [.int (nI t.length), .ref (c0 + 8)] (hp c0 n _ _) _
  refine CR.pq hC17 rfl ?_
  intro F18 hC18
  show Ex X m_Reader_readTerm 23 [.ref (c0 + 8), .ref (c0 + 1), ev_dead] [] (hp c0 n _ _) _
  refine Ex.nx rfl ?_
  refine Ex.nx rfl ?_
  have hAl := sA_le t hl
  have h7 := sA_7 t
  refine CR.rd hC18 rfl rfl rfl rfl (cr_any hS hC18) ?_
  unfold sAll
  generalize sA t = o at hAl h7 ⊢
  obtain ⟨b19, y19, x19⟩ := o
  dsimp only at hAl h7
  cases b19
  · rintro v h1 ⟨rfl, F19, rfl, hE⟩
    show Ex X m_Reader_readTerm 28 [.ref (c0 + 8), .ref (c0 + 1), ev_dead] [.int (-1)] (hp c0 n _ _) _
    refine Ex.nx rfl ?_
    show Ex X m_Reader_readTerm 29 [.ref (c0 + 8), .ref (c0 + 1), .int (-1)] [] (hp c0 n _ _) _
    refine Ex.nx rfl ?_
    refine Ex.nx rfl ?_
    refine Ex.nx rfl ?_
    show Ex X m_Reader_readTerm 52 [.ref (c0 + 8), .ref (c0 + 1), .int (-1)] [] (hp c0 n _ _) _
    show Ex X m_Reader_readTerm 52 [.ref (c0 + 8), .ref (c0 + 1), .int (-1)] [] (hp c0 n _ _) _
    exact cr_term_e (o := sAll2 t (sAll1 (false, y19, x19))) Bool.false_ne_true hE
  rintro v h1 ⟨rfl, F19, rfl, hC19⟩
  dsimp only at hC19
  show Ex X m_Reader_readTerm 28 [.ref (c0 + 8), .ref (c0 + 1), ev_dead] [.int (nI y19)] (hp c0 n _ _) _
  refine Ex.nx rfl ?_
  show Ex X m_Reader_readTerm 29 [.ref (c0 + 8), .ref (c0 + 1), .int (nI y19)] [] (hp c0 n _ _) _
  refine Ex.nx rfl ?_
  refine Ex.nx rfl ?_
  refine Ex.nx rfl ?_
  refine Ex.ite (fun c1 => ?_) (fun c1 => ?_)
  · replace c1 : (nI y19) = (-1) := of_decide_eq_true c1
    exact absurd c1 (nI_nm1 (by omega))
  · replace c1 : ¬ (nI y19) = (-1) := of_decide_eq_false c1
    show Ex X m_Reader_readTerm 34 [.ref (c0 + 8), .ref (c0 + 1), .int (nI y19)] [] (hp c0 n _ _) _
    refine Ex.nx rfl ?_
    refine Hx.get 8 rfl hC19.r8 rfl ?_
    refine Hx.get 3 rfl hC19.r3 rfl ?_
    refine Ex.nx rfl ?_
    refine Ex.nx rfl ?_
    refine Ex.ite (fun c2 => ?_) (fun c2 => ?_)
    · replace c2 : ¬ x19.1 = 7 := of_decide_eq_true c2
      have e7 : sAll1 (true, y19, x19) = (true, y19, x19) := (if_pos rfl).trans (if_neg c2)
      show Ex X m_Reader_readTerm 52 [.ref (c0 + 8), .ref (c0 + 1), .int (nI y19)] [] (hp c0 n _ _) _
      show Ex X m_Reader_readTerm 52 [.ref (c0 + 8), .ref (c0 + 1), .int (nI y19)] [] (hp c0 n _ _) _
      rw [e7]
      exact cr_term_t (by omega) hC19
    · replace c2 : x19.1 = 7 := Classical.not_not.mp (of_decide_eq_false c2)
      show Ex X m_Reader_readTerm 46 [.ref (c0 + 8), .ref (c0 + 1), .int (nI y19)] [] (hp c0 n _ _) _
      show Ex X m_Reader_readTerm 46 [.ref (c0 + 8), .ref (c0 + 1), .int (nI y19)] [] (hp c0 n _ _) _
      obtain ⟨z1, z2, z3, z4, z5⟩ := x19
      dsimp only at hC19 c2 h7
      obtain ⟨g2, g3⟩ := h7 c2
      have e7 : sAll1 (true, y19, z1, z2, z3, z4, z5) = sSe z4 z5 y19 := (if_pos rfl).trans (if_pos c2)
      rw [e7]
      subst g2 g3
      rw [c2] at hC19
      exact cr_term_s hS (by omega) hC19
