/-! The class reads numbers and truths, told apart. (rows laid by wip/whole/cr4.py) -/
theorem sI_le (t : List Nat) : ∀ (m q : Nat) (acc : List Nat), q ≤ t.length → (sI t m q acc).2.1 ≤ t.length := by
  intro m
  induction m with
  | zero => intro q acc h; exact Nat.le_refl _
  | succ m ih =>
    intro q acc h
    rw [sI]
    repeat' split
    all_goals (try (show _ ≤ t.length))
    all_goals first | exact Nat.le_refl _ | (dsimp only; omega) | exact ih _ _ (by omega) | (exact ih _ _ (by have := esc_in (t := t) (q := q + 1) (by assumption); omega))
theorem sT_le (t : List Nat) : ∀ (m q run : Nat) (fs : Bool) (acc : List Nat), q + m = t.length → (sT t m q run fs acc).2.1 ≤ t.length := by
  intro m
  induction m with
  | zero => intro q run fs acc h; rw [sT]; split <;> exact Nat.le_refl _
  | succ m ih =>
    intro q run fs acc h
    rw [sT]
    repeat' split
    all_goals first | (dsimp only; omega) | exact ih _ _ _ _ (by omega)
theorem sNm_le (t : List Nat) : ∀ (m q : Nat) (acc : List Nat), q + m = t.length → (sNm t m q acc).2.1 ≤ t.length := by
  intro m
  induction m with
  | zero => intro q acc h; exact Nat.le_refl _
  | succ m ih =>
    intro q acc h
    rw [sNm]
    repeat' split
    all_goals first | (dsimp only; omega) | exact ih _ _ (by omega)
theorem sNa_le (t : List Nat) (q : Nat) (h : q ≤ 400) (ht : t.length ≤ 240) : (sNa t q).2.1 ≤ 400 := by
  unfold sNa
  split
  · next e => have := hb_in (t := t) (q := q) (by rw [e]; decide); have := sNm_le t (t.length - (q + 1)) (q + 1) [] (by omega); omega
  · exact h
theorem sB_le (t : List Nat) : ∀ (m q : Nat) (acc : List Nat), (sB t m q acc).2.1 ≤ q + m := by
  intro m
  induction m with
  | zero => intro q acc; exact Nat.le_refl _
  | succ m ih =>
    intro q acc
    rw [sB]
    repeat' split
    all_goals first | (dsimp only; omega) | (have := ih (q + 1) (acc ++ [t.getD q 0]); omega)
theorem sBk_le (t : List Nat) (ht : t.length ≤ 240) : (sBk t).2.1 ≤ 400 := by
  unfold sBk bkF
  have := sB_le t (t.length - 2) 2 []
  split
  · split
    · show (sB t (t.length - 2) 2 []).2.1 ≤ 400; omega
    · omega
  · decide
theorem sNu2_le (l : List Nat) (st q1 : Nat) (v : Int64) (h1 : q1 < l.length) (hl : l.length ≤ 240) (h3 : q1 - st ≤ 18) : (sNu2 l st q1 v).2.1 ≤ 400 := by
  obtain ⟨-, g2, -⟩ := sD_le l (q1 + 1) (18 - (q1 - st)) (l.length - (q1 + 1)) (q1 + 1) v (by omega) (by omega)
  unfold sNu2
  dsimp only
  repeat' split
  all_goals first | (dsimp only; omega) | decide
theorem sNu1_le (l : List Nat) (st : Nat) (v : Int64) (hst : st ≤ l.length) (hl : l.length ≤ 240) : (sNu1 l st v).2.1 ≤ 400 := by
  obtain ⟨-, g2, g3⟩ := sD_le l st 18 (l.length - st) st v (by omega) (by omega)
  unfold sNu1
  dsimp only
  split
  · dsimp only; omega
  · split
    · next e => exact sNu2_le _ _ _ _ (hb_in (by rw [e]; decide)) hl g3
    · split <;> (dsimp only; omega)
theorem sTl_le (l : List Nat) (k : Nat) : ∀ (m j : Nat) (x : Nat), sTl l k m j = some x → x ≤ j + m := by
  intro m
  induction m with
  | zero => intro j x h; cases h
  | succ m ih =>
    intro j x h
    rw [sTl] at h
    split at h
    · have := ih _ _ h; omega
    · cases h; omega
theorem sTr_le (l : List Nat) {k : Nat} (tv : Int32) (hk : k < 12) : (sTr l k tv).2.1 ≤ 400 := by
  have hw := wlen_all k hk
  unfold sTr
  split
  · next j e => have := sTl_le l k _ _ _ e; show j ≤ 400; omega
  · split <;> (dsimp only; omega)
/-- a number or truth -/
def sP (l : List Nat) : Bool × Nat × Int32 × Int64 × Nat := if hb l 0 = 116 then sTr l 0 1 else if hb l 0 = 102 then sTr l 1 0 else if (!(decide (hb l 0 = 43) || decide (hb l 0 = 45)) && !isD (hb l 0) && !decide (hb l 0 = 46)) = true then (false, 0, 0, 0, 0) else if hb l 0 = 45 then ((sNu1 l (sgn0 l) 0).1, (sNu1 l (sgn0 l) 0).2.1, (sNu1 l (sgn0 l) 0).2.2.1, -(sNu1 l (sgn0 l) 0).2.2.2.1, (sNu1 l (sgn0 l) 0).2.2.2.2) else sNu1 l (sgn0 l) 0
theorem sP_le (l : List Nat) (hl : l.length ≤ 240) : (sP l).2.1 ≤ 400 := by
  have hs : sgn0 l ≤ l.length := by
    unfold sgn0
    split
    · next e => have := hb_in (t := l) (q := 0) (sgn_ne e); omega
    · exact Nat.zero_le _
  have h1 := sNu1_le l (sgn0 l) 0 hs hl
  unfold sP
  repeat' split
  all_goals first | exact sTr_le l _ (by decide) | exact h1 | (dsimp only; omega) | decide
/-- a tail call -/
theorem rP_ret {α : Type} {X : ev_X} {c0 n z M pc nx a b w : Nat} {A : List Value} {F0 : Nat → Option va_E} {t : List Nat} {o : Bool × Nat × α} {G : α → (Nat → Option va_E) → Prop} {v : Option Value} {h : ev_H} (op : pg_ops M pc = some (.ireturn, nx, a, b, w)) (hr : pg_r M = some .int) (hq : rP c0 n z F0 t o G v h) : Ex X M pc A (v.toList ++ []) h (rP c0 n z F0 t o G) := by
  unfold rP at hq ⊢
  split at hq
  · next e => obtain ⟨rfl, h2⟩ := hq; exact Ex.ret op (ev_reti hr) (by rw [if_pos e]; exact ⟨rfl, h2⟩)
  · next e => obtain ⟨rfl, h2⟩ := hq; exact Ex.ret op (ev_reti hr) (by rw [if_neg e]; exact ⟨rfl, h2⟩)
set_option maxRecDepth 100000 in
set_option maxHeartbeats 2000000 in
theorem cr_plain {X : ev_X} {c0 n z : Nat} (hS : XS X c0) {F0 : Nat → Option va_E} {t : List Nat} {s fp : Int32} {bd tl l : List Nat} {kr : Nat} {F : Nat → Option va_E} (hC : CR c0 F0 t s 0 0 bd tl 0 fp F) (hr : crw t bd kr l) : Ex X m_Reader_readPlain 0 [.ref (c0 + 8), .ref (c0 + kr), ev_dead, ev_dead] [] (hp c0 n z F) (rP c0 n z F0 t (sP l) (fun x F1 => CR c0 F0 t x.1 x.2.1 (nI x.2.2) bd tl 0 fp F1)) := by
  refine Ex.nx rfl ?_
  refine Ex.nx rfl ?_
  refine CR.at (i := 0) (A0 := []) hC hr (by omega) rfl rfl rfl ?_
  show Ex X m_Reader_readPlain 5 [.ref (c0 + 8), .ref (c0 + kr), ev_dead, ev_dead] [.int (hb l 0)] (hp c0 n _ _) _
  refine Ex.nx rfl ?_
  show Ex X m_Reader_readPlain 6 [.ref (c0 + 8), .ref (c0 + kr), .int (hb l 0), ev_dead] [] (hp c0 n _ _) _
  refine Ex.nx rfl ?_
  refine Ex.nx rfl ?_
  refine Ex.nx rfl ?_
  refine Ex.ite (fun c1 => ?_) (fun c1 => ?_)
  · replace c1 : ¬ (hb l 0) = 116 := of_decide_eq_true c1
    show Ex X m_Reader_readPlain 21 [.ref (c0 + 8), .ref (c0 + kr), .int (hb l 0), ev_dead] [] (hp c0 n _ _) _
    refine Ex.nx rfl ?_
    refine Ex.nx rfl ?_
    refine Ex.nx rfl ?_
    refine Ex.ite (fun c2 => ?_) (fun c2 => ?_)
    · replace c2 : ¬ (hb l 0) = 102 := of_decide_eq_true c2
      show Ex X m_Reader_readPlain 36 [.ref (c0 + 8), .ref (c0 + kr), .int (hb l 0), ev_dead] [] (hp c0 n _ _) _
      refine Ex.nx rfl ?_
      refine Hx.calls rfl rfl rfl rfl (sx_Reader_isSign X (hb l 0)) (fun v hv => ?_)
      subst hv
      show Ex X m_Reader_readPlain 40 [.ref (c0 + 8), .ref (c0 + kr), .int (hb l 0), ev_dead] [.int (bi (decide ((hb l 0) = 43) || decide ((hb l 0) = 45)))] (hp c0 n _ _) _
      refine Ex.nx rfl ?_
      refine Ex.ite (fun c3 => ?_) (fun c3 => ?_)
      · replace c3 : (decide ((hb l 0) = 43) || decide ((hb l 0) = 45)) = true := bi_net c3
        show Ex X m_Reader_readPlain 63 [.ref (c0 + 8), .ref (c0 + kr), .int (hb l 0), ev_dead] [] (hp c0 n _ _) _
        refine Ex.nx rfl ?_
        refine Ex.nx rfl ?_
        refine CR.rd hC rfl rfl rfl rfl (cr_number hC hr) ?_
        generalize ho : sNu1 l (sgn0 l) 0 = o
        obtain ⟨b1, y1, x1, v1, pn1⟩ := o
        cases b1
        · rintro v h1 ⟨rfl, F1, rfl, ⟨s1, nu1, p1, bd1, tl1, ft1, hft, hC1⟩⟩
          dsimp only at hC1
          show Ex X m_Reader_readPlain 68 [.ref (c0 + 8), .ref (c0 + kr), .int (hb l 0), ev_dead] [.int (-1)] (hp c0 n _ _) _
          refine Ex.nx rfl ?_
          show Ex X m_Reader_readPlain 69 [.ref (c0 + 8), .ref (c0 + kr), .int (hb l 0), .int (-1)] [] (hp c0 n _ _) _
          refine Ex.nx rfl ?_
          refine Ex.nx rfl ?_
          refine Ex.nx rfl ?_
          refine Ex.ite (fun c4 => ?_) (fun c4 => ?_)
          · replace c4 : ¬ (hb l 0) = 45 := of_decide_eq_true c4
            show Ex X m_Reader_readPlain 90 [.ref (c0 + 8), .ref (c0 + kr), .int (hb l 0), .int (-1)] [] (hp c0 n _ _) _
            refine Ex.nx rfl ?_
            exact Ex.ret rfl (ev_reti rfl) (rP_f (q := y1) (b := (x1, v1, pn1)) (by unfold sP; rw [if_neg c1, if_neg c2, if_neg (by simp [c3]), if_neg c4, ho]) ⟨_, _, _, _, _, _, hft, hC1⟩)
          · replace c4 : (hb l 0) = 45 := Classical.not_not.mp (of_decide_eq_false c4)
            show Ex X m_Reader_readPlain 75 [.ref (c0 + 8), .ref (c0 + kr), .int (hb l 0), .int (-1)] [] (hp c0 n _ _) _
            refine Ex.nx rfl ?_
            refine Hx.get 8 rfl hC1.r8 rfl ?_
            refine Ex.nx rfl ?_
            refine Hx.get 8 rfl hC1.r8 rfl ?_
            refine Hx.get 3 rfl hC1.r3 rfl ?_
            refine Ex.nx rfl ?_
            refine CR.pn hC1 rfl ?_
            intro F2 hC2
            show Ex X m_Reader_readPlain 90 [.ref (c0 + 8), .ref (c0 + kr), .int (hb l 0), .int (-1)] [] (hp c0 n _ _) _
            refine Ex.nx rfl ?_
            exact Ex.ret rfl (ev_reti rfl) (rP_f (q := y1) (b := (x1, -v1, pn1)) (by unfold sP; rw [if_neg c1, if_neg c2, if_neg (by simp [c3]), if_pos c4, ho]) ⟨_, _, _, _, _, _, hft, hC2⟩)
        rintro v h1 ⟨rfl, F1, rfl, hC1⟩
        dsimp only at hC1
        show Ex X m_Reader_readPlain 68 [.ref (c0 + 8), .ref (c0 + kr), .int (hb l 0), ev_dead] [.int (nI y1)] (hp c0 n _ _) _
        refine Ex.nx rfl ?_
        show Ex X m_Reader_readPlain 69 [.ref (c0 + 8), .ref (c0 + kr), .int (hb l 0), .int (nI y1)] [] (hp c0 n _ _) _
        refine Ex.nx rfl ?_
        refine Ex.nx rfl ?_
        refine Ex.nx rfl ?_
        refine Ex.ite (fun c5 => ?_) (fun c5 => ?_)
        · replace c5 : ¬ (hb l 0) = 45 := of_decide_eq_true c5
          show Ex X m_Reader_readPlain 90 [.ref (c0 + 8), .ref (c0 + kr), .int (hb l 0), .int (nI y1)] [] (hp c0 n _ _) _
          refine Ex.nx rfl ?_
          exact Ex.ret rfl (ev_reti rfl) (rP_t (b := (x1, v1, pn1)) (by unfold sP; rw [if_neg c1, if_neg c2, if_neg (by simp [c3]), if_neg c5, ho]) hC1)
        · replace c5 : (hb l 0) = 45 := Classical.not_not.mp (of_decide_eq_false c5)
          show Ex X m_Reader_readPlain 75 [.ref (c0 + 8), .ref (c0 + kr), .int (hb l 0), .int (nI y1)] [] (hp c0 n _ _) _
          refine Ex.nx rfl ?_
          refine Hx.get 8 rfl hC1.r8 rfl ?_
          refine Ex.nx rfl ?_
          refine Hx.get 8 rfl hC1.r8 rfl ?_
          refine Hx.get 3 rfl hC1.r3 rfl ?_
          refine Ex.nx rfl ?_
          refine CR.pn hC1 rfl ?_
          intro F3 hC3
          show Ex X m_Reader_readPlain 90 [.ref (c0 + 8), .ref (c0 + kr), .int (hb l 0), .int (nI y1)] [] (hp c0 n _ _) _
          refine Ex.nx rfl ?_
          exact Ex.ret rfl (ev_reti rfl) (rP_t (b := (x1, -v1, pn1)) (by unfold sP; rw [if_neg c1, if_neg c2, if_neg (by simp [c3]), if_pos c5, ho]) hC3)
      · replace c3 : (decide ((hb l 0) = 43) || decide ((hb l 0) = 45)) = false := bi_nef c3
        show Ex X m_Reader_readPlain 43 [.ref (c0 + 8), .ref (c0 + kr), .int (hb l 0), ev_dead] [] (hp c0 n _ _) _
        refine Ex.nx rfl ?_
        refine Hx.calls rfl rfl rfl rfl (sx_Reader_isDigit X (hb l 0)) (fun v hv => ?_)
        subst hv
        show Ex X m_Reader_readPlain 47 [.ref (c0 + 8), .ref (c0 + kr), .int (hb l 0), ev_dead] [.int (bi (isD (hb l 0)))] (hp c0 n _ _) _
        refine Ex.nx rfl ?_
        refine Ex.ite (fun c6 => ?_) (fun c6 => ?_)
        · replace c6 : (isD (hb l 0)) = true := bi_net c6
          show Ex X m_Reader_readPlain 63 [.ref (c0 + 8), .ref (c0 + kr), .int (hb l 0), ev_dead] [] (hp c0 n _ _) _
          refine Ex.nx rfl ?_
          refine Ex.nx rfl ?_
          refine CR.rd hC rfl rfl rfl rfl (cr_number hC hr) ?_
          generalize ho : sNu1 l (sgn0 l) 0 = o
          obtain ⟨b4, y4, x4, v4, pn4⟩ := o
          cases b4
          · rintro v h1 ⟨rfl, F4, rfl, ⟨s1, nu1, p1, bd1, tl1, ft1, hft, hC4⟩⟩
            dsimp only at hC4
            show Ex X m_Reader_readPlain 68 [.ref (c0 + 8), .ref (c0 + kr), .int (hb l 0), ev_dead] [.int (-1)] (hp c0 n _ _) _
            refine Ex.nx rfl ?_
            show Ex X m_Reader_readPlain 69 [.ref (c0 + 8), .ref (c0 + kr), .int (hb l 0), .int (-1)] [] (hp c0 n _ _) _
            refine Ex.nx rfl ?_
            refine Ex.nx rfl ?_
            refine Ex.nx rfl ?_
            refine Ex.ite (fun c7 => ?_) (fun c7 => ?_)
            · replace c7 : ¬ (hb l 0) = 45 := of_decide_eq_true c7
              show Ex X m_Reader_readPlain 90 [.ref (c0 + 8), .ref (c0 + kr), .int (hb l 0), .int (-1)] [] (hp c0 n _ _) _
              refine Ex.nx rfl ?_
              exact Ex.ret rfl (ev_reti rfl) (rP_f (q := y4) (b := (x4, v4, pn4)) (by unfold sP; rw [if_neg c1, if_neg c2, if_neg (by simp [c6]), if_neg c7, ho]) ⟨_, _, _, _, _, _, hft, hC4⟩)
            · replace c7 : (hb l 0) = 45 := Classical.not_not.mp (of_decide_eq_false c7)
              show Ex X m_Reader_readPlain 75 [.ref (c0 + 8), .ref (c0 + kr), .int (hb l 0), .int (-1)] [] (hp c0 n _ _) _
              refine Ex.nx rfl ?_
              refine Hx.get 8 rfl hC4.r8 rfl ?_
              refine Ex.nx rfl ?_
              refine Hx.get 8 rfl hC4.r8 rfl ?_
              refine Hx.get 3 rfl hC4.r3 rfl ?_
              refine Ex.nx rfl ?_
              refine CR.pn hC4 rfl ?_
              intro F5 hC5
              show Ex X m_Reader_readPlain 90 [.ref (c0 + 8), .ref (c0 + kr), .int (hb l 0), .int (-1)] [] (hp c0 n _ _) _
              refine Ex.nx rfl ?_
              exact Ex.ret rfl (ev_reti rfl) (rP_f (q := y4) (b := (x4, -v4, pn4)) (by unfold sP; rw [if_neg c1, if_neg c2, if_neg (by simp [c6]), if_pos c7, ho]) ⟨_, _, _, _, _, _, hft, hC5⟩)
          rintro v h1 ⟨rfl, F4, rfl, hC4⟩
          dsimp only at hC4
          show Ex X m_Reader_readPlain 68 [.ref (c0 + 8), .ref (c0 + kr), .int (hb l 0), ev_dead] [.int (nI y4)] (hp c0 n _ _) _
          refine Ex.nx rfl ?_
          show Ex X m_Reader_readPlain 69 [.ref (c0 + 8), .ref (c0 + kr), .int (hb l 0), .int (nI y4)] [] (hp c0 n _ _) _
          refine Ex.nx rfl ?_
          refine Ex.nx rfl ?_
          refine Ex.nx rfl ?_
          refine Ex.ite (fun c8 => ?_) (fun c8 => ?_)
          · replace c8 : ¬ (hb l 0) = 45 := of_decide_eq_true c8
            show Ex X m_Reader_readPlain 90 [.ref (c0 + 8), .ref (c0 + kr), .int (hb l 0), .int (nI y4)] [] (hp c0 n _ _) _
            refine Ex.nx rfl ?_
            exact Ex.ret rfl (ev_reti rfl) (rP_t (b := (x4, v4, pn4)) (by unfold sP; rw [if_neg c1, if_neg c2, if_neg (by simp [c6]), if_neg c8, ho]) hC4)
          · replace c8 : (hb l 0) = 45 := Classical.not_not.mp (of_decide_eq_false c8)
            show Ex X m_Reader_readPlain 75 [.ref (c0 + 8), .ref (c0 + kr), .int (hb l 0), .int (nI y4)] [] (hp c0 n _ _) _
            refine Ex.nx rfl ?_
            refine Hx.get 8 rfl hC4.r8 rfl ?_
            refine Ex.nx rfl ?_
            refine Hx.get 8 rfl hC4.r8 rfl ?_
            refine Hx.get 3 rfl hC4.r3 rfl ?_
            refine Ex.nx rfl ?_
            refine CR.pn hC4 rfl ?_
            intro F6 hC6
            show Ex X m_Reader_readPlain 90 [.ref (c0 + 8), .ref (c0 + kr), .int (hb l 0), .int (nI y4)] [] (hp c0 n _ _) _
            refine Ex.nx rfl ?_
            exact Ex.ret rfl (ev_reti rfl) (rP_t (b := (x4, -v4, pn4)) (by unfold sP; rw [if_neg c1, if_neg c2, if_neg (by simp [c6]), if_pos c8, ho]) hC6)
        · replace c6 : (isD (hb l 0)) = false := bi_nef c6
          show Ex X m_Reader_readPlain 50 [.ref (c0 + 8), .ref (c0 + kr), .int (hb l 0), ev_dead] [] (hp c0 n _ _) _
          refine Ex.nx rfl ?_
          refine Ex.nx rfl ?_
          refine Ex.nx rfl ?_
          refine Ex.ite (fun c9 => ?_) (fun c9 => ?_)
          · replace c9 : (hb l 0) = 46 := of_decide_eq_true c9
            show Ex X m_Reader_readPlain 63 [.ref (c0 + 8), .ref (c0 + kr), .int (hb l 0), ev_dead] [] (hp c0 n _ _) _
            refine Ex.nx rfl ?_
            refine Ex.nx rfl ?_
            refine CR.rd hC rfl rfl rfl rfl (cr_number hC hr) ?_
            generalize ho : sNu1 l (sgn0 l) 0 = o
            obtain ⟨b7, y7, x7, v7, pn7⟩ := o
            cases b7
            · rintro v h1 ⟨rfl, F7, rfl, ⟨s1, nu1, p1, bd1, tl1, ft1, hft, hC7⟩⟩
              dsimp only at hC7
              show Ex X m_Reader_readPlain 68 [.ref (c0 + 8), .ref (c0 + kr), .int (hb l 0), ev_dead] [.int (-1)] (hp c0 n _ _) _
              refine Ex.nx rfl ?_
              show Ex X m_Reader_readPlain 69 [.ref (c0 + 8), .ref (c0 + kr), .int (hb l 0), .int (-1)] [] (hp c0 n _ _) _
              refine Ex.nx rfl ?_
              refine Ex.nx rfl ?_
              refine Ex.nx rfl ?_
              refine Ex.ite (fun c10 => ?_) (fun c10 => ?_)
              · replace c10 : ¬ (hb l 0) = 45 := of_decide_eq_true c10
                show Ex X m_Reader_readPlain 90 [.ref (c0 + 8), .ref (c0 + kr), .int (hb l 0), .int (-1)] [] (hp c0 n _ _) _
                refine Ex.nx rfl ?_
                exact Ex.ret rfl (ev_reti rfl) (rP_f (q := y7) (b := (x7, v7, pn7)) (by unfold sP; rw [if_neg c1, if_neg c2, if_neg (by simp [c9]), if_neg c10, ho]) ⟨_, _, _, _, _, _, hft, hC7⟩)
              · replace c10 : (hb l 0) = 45 := Classical.not_not.mp (of_decide_eq_false c10)
                show Ex X m_Reader_readPlain 75 [.ref (c0 + 8), .ref (c0 + kr), .int (hb l 0), .int (-1)] [] (hp c0 n _ _) _
                refine Ex.nx rfl ?_
                refine Hx.get 8 rfl hC7.r8 rfl ?_
                refine Ex.nx rfl ?_
                refine Hx.get 8 rfl hC7.r8 rfl ?_
                refine Hx.get 3 rfl hC7.r3 rfl ?_
                refine Ex.nx rfl ?_
                refine CR.pn hC7 rfl ?_
                intro F8 hC8
                show Ex X m_Reader_readPlain 90 [.ref (c0 + 8), .ref (c0 + kr), .int (hb l 0), .int (-1)] [] (hp c0 n _ _) _
                refine Ex.nx rfl ?_
                exact Ex.ret rfl (ev_reti rfl) (rP_f (q := y7) (b := (x7, -v7, pn7)) (by unfold sP; rw [if_neg c1, if_neg c2, if_neg (by simp [c9]), if_pos c10, ho]) ⟨_, _, _, _, _, _, hft, hC8⟩)
            rintro v h1 ⟨rfl, F7, rfl, hC7⟩
            dsimp only at hC7
            show Ex X m_Reader_readPlain 68 [.ref (c0 + 8), .ref (c0 + kr), .int (hb l 0), ev_dead] [.int (nI y7)] (hp c0 n _ _) _
            refine Ex.nx rfl ?_
            show Ex X m_Reader_readPlain 69 [.ref (c0 + 8), .ref (c0 + kr), .int (hb l 0), .int (nI y7)] [] (hp c0 n _ _) _
            refine Ex.nx rfl ?_
            refine Ex.nx rfl ?_
            refine Ex.nx rfl ?_
            refine Ex.ite (fun c11 => ?_) (fun c11 => ?_)
            · replace c11 : ¬ (hb l 0) = 45 := of_decide_eq_true c11
              show Ex X m_Reader_readPlain 90 [.ref (c0 + 8), .ref (c0 + kr), .int (hb l 0), .int (nI y7)] [] (hp c0 n _ _) _
              refine Ex.nx rfl ?_
              exact Ex.ret rfl (ev_reti rfl) (rP_t (b := (x7, v7, pn7)) (by unfold sP; rw [if_neg c1, if_neg c2, if_neg (by simp [c9]), if_neg c11, ho]) hC7)
            · replace c11 : (hb l 0) = 45 := Classical.not_not.mp (of_decide_eq_false c11)
              show Ex X m_Reader_readPlain 75 [.ref (c0 + 8), .ref (c0 + kr), .int (hb l 0), .int (nI y7)] [] (hp c0 n _ _) _
              refine Ex.nx rfl ?_
              refine Hx.get 8 rfl hC7.r8 rfl ?_
              refine Ex.nx rfl ?_
              refine Hx.get 8 rfl hC7.r8 rfl ?_
              refine Hx.get 3 rfl hC7.r3 rfl ?_
              refine Ex.nx rfl ?_
              refine CR.pn hC7 rfl ?_
              intro F9 hC9
              show Ex X m_Reader_readPlain 90 [.ref (c0 + 8), .ref (c0 + kr), .int (hb l 0), .int (nI y7)] [] (hp c0 n _ _) _
              refine Ex.nx rfl ?_
              exact Ex.ret rfl (ev_reti rfl) (rP_t (b := (x7, -v7, pn7)) (by unfold sP; rw [if_neg c1, if_neg c2, if_neg (by simp [c9]), if_pos c11, ho]) hC9)
          · replace c9 : ¬ (hb l 0) = 46 := of_decide_eq_false c9
            show Ex X m_Reader_readPlain 56 [.ref (c0 + 8), .ref (c0 + kr), .int (hb l 0), ev_dead] [] (hp c0 n _ _) _
            refine Ex.nx rfl ?_
            refine Ex.nx rfl ?_
            refine Ex.nx rfl ?_
            refine CR.rd hC rfl rfl rfl rfl (cr_fail hC 1 0) ?_
            rintro v h1 ⟨rfl, F10, rfl, hC10⟩
            show Ex X m_Reader_readPlain 62 [.ref (c0 + 8), .ref (c0 + kr), .int (hb l 0), ev_dead] [.int (-1)] (hp c0 n _ _) _
            exact Ex.ret rfl (ev_reti rfl) (rP_f (b := (0, 0, 0)) (show sP l = (false, 0, 0, 0, 0) by simp [sP, c1, c2, c3, c6, c9]) ⟨_, _, _, _, _, _, (by decide), hC10⟩)
    · replace c2 : (hb l 0) = 102 := Classical.not_not.mp (of_decide_eq_false c2)
      show Ex X m_Reader_readPlain 27 [.ref (c0 + 8), .ref (c0 + kr), .int (hb l 0), ev_dead] [] (hp c0 n _ _) _
      refine Ex.nx rfl ?_
      refine Ex.nx rfl ?_
      refine Ex.nx rfl ?_
      refine Ex.nx rfl ?_
      rw [show sP l = sTr l 1 0 from (if_neg c1).trans (if_pos c2)]
      refine CR.rd hC rfl rfl rfl rfl (cr_truth hS (k := 1) (by decide) 0 hC hr (by decide)) ?_
      intro v h1 hq
      exact rP_ret rfl rfl hq
  · replace c1 : (hb l 0) = 116 := Classical.not_not.mp (of_decide_eq_false c1)
    show Ex X m_Reader_readPlain 12 [.ref (c0 + 8), .ref (c0 + kr), .int (hb l 0), ev_dead] [] (hp c0 n _ _) _
    refine Ex.nx rfl ?_
    refine Ex.nx rfl ?_
    refine Ex.nx rfl ?_
    refine Ex.nx rfl ?_
    rw [show sP l = sTr l 0 1 from if_pos c1]
    refine CR.rd hC rfl rfl rfl rfl (cr_truth hS (k := 0) (by decide) 1 hC hr (by decide)) ?_
    intro v h1 hq
    exact rP_ret rfl rfl hq
