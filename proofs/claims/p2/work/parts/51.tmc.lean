/-! A term is copied and kept. (rows laid by wip/whole/tm3.py) -/
set_option maxRecDepth 100000 in
set_option maxHeartbeats 2000000 in
theorem tm_copy {X : ev_X} {c0 n z : Nat} {F : Nat → Option va_E} {N1 N2 : Nat} {x : Tm} (h : trm c0 F 3 N1 N2 x) (hn : 26 ≤ n) : Ex X m_Term_copy 0 [.ref (c0 + 3), ev_dead] [] (hp c0 n z F) (fun r h' => r = some (.ref (c0 + n)) ∧ ∃ F', h' = hp c0 (n + 5) (z + (9 + x.2.2.2.1.length + x.2.2.2.2.length)) F' ∧ trm c0 F' n x.2.2.2.1.length x.2.2.2.2.length x ∧ ∀ q, q < n → F' q = F q) := by
  have hb1 := h.2.1.le
  have hb2 := h.2.2.1.le
  have hN1 := h.2.2.2.1
  have hN2 := h.2.2.2.2.1
  have h20 := h.2.2.2.2.2
  refine Hx.newo rfl rfl ?_
  have d : trm c0 (va_up F n (some (.inr (2, pg_D.getD 2 [])))) 3 N1 N2 x := h.fr (fun q q1 q2 => va_up_ne _ _ (by omega))
  have d0 : ∀ q, q < n → va_up F n (some (.inr (2, pg_D.getD 2 []))) q = F q := fun q hq => va_up_ne _ _ (by omega)
  have dn : va_up F n (some (.inr (2, pg_D.getD 2 []))) n = some (.inr (2, [.int 0, .long 0, .int 0, .null, .null])) := va_up_self _ _ _
  generalize va_up F n (some (.inr (2, pg_D.getD 2 []))) = F1 at d d0 dn ⊢
  refine Ex.nx rfl ?_
  refine Ex.nx rfl ?_
  refine Hx.get 3 rfl d.1 rfl ?_
  refine Hx.rowE d.2.1 rfl rfl rfl rfl (rl_size d.2.1) ?_
  refine Ex.nx rfl ?_
  refine Hx.get 3 rfl d.1 rfl ?_
  refine Hx.rowE d.2.2.1 rfl rfl rfl rfl (rl_size d.2.2.1) ?_
  refine Hx.callp rfl rfl rfl rfl (hx_Term n (R1 := x.2.2.2.1.length) (R2 := x.2.2.2.2.length) dn (by omega) (by omega) (by omega)) ?_
  have e2 : ∀ F2 : Nat → Option va_E, F2 = (va_up (va_up (va_up (va_up (va_up F1 (n + 1) (some (.inr (1, [.ref (c0 + (n + 1 + 1)), .int 0])))) (n + 1 + 1) (some (.inl (0, x.2.2.2.1.length, .inl (fun _ => 0))))) (n + 1 + 2) (some (.inr (1, [.ref (c0 + (n + 1 + 3)), .int 0])))) (n + 1 + 3) (some (.inl (0, x.2.2.2.2.length, .inl (fun _ => 0))))) n (some (.inr (2, [.int 0, .long 0, .int 0, .ref (c0 + (n + 1)), .ref (c0 + (n + 1 + 2))])))) → trm c0 F2 n x.2.2.2.1.length x.2.2.2.2.length (0, 0, 0, [], []) ∧ ∀ q, q < n → F2 q = F1 q := by
    rintro F2 rfl
    refine ⟨⟨va_up_self _ _ _, ⟨fun _ => 0, ?_, ?_, Nat.zero_le _, fun i hi => absurd hi (Nat.not_lt_zero i), fun i => by simp⟩, ⟨fun _ => 0, ?_, ?_, Nat.zero_le _, fun i hi => absurd hi (Nat.not_lt_zero i), fun i => by simp⟩, by omega, by omega, by decide⟩, fun q hq => ?_⟩
    · exact (va_up_ne _ _ (by omega)).trans ((va_up_ne _ _ (by omega)).trans ((va_up_ne _ _ (by omega)).trans ((va_up_ne _ _ (by omega)).trans (va_up_self _ _ _))))
    · exact (va_up_ne _ _ (by omega)).trans ((va_up_ne _ _ (by omega)).trans ((va_up_ne _ _ (by omega)).trans (va_up_self _ _ _)))
    · exact (va_up_ne _ _ (by omega)).trans ((va_up_ne _ _ (by omega)).trans (va_up_self _ _ _))
    · exact (va_up_ne _ _ (by omega)).trans (va_up_self _ _ _)
    · exact (va_up_ne _ _ (by omega)).trans ((va_up_ne _ _ (by omega)).trans ((va_up_ne _ _ (by omega)).trans ((va_up_ne _ _ (by omega)).trans (va_up_ne _ _ (by omega)))))
  obtain ⟨t1, t2⟩ := e2 _ rfl
  clear e2
  generalize va_up (va_up (va_up (va_up (va_up F1 (n + 1) (some (.inr (1, [.ref (c0 + (n + 1 + 1)), .int 0])))) (n + 1 + 1) (some (.inl (0, x.2.2.2.1.length, .inl (fun _ => 0))))) (n + 1 + 2) (some (.inr (1, [.ref (c0 + (n + 1 + 3)), .int 0])))) (n + 1 + 3) (some (.inl (0, x.2.2.2.2.length, .inl (fun _ => 0))))) n (some (.inr (2, [.int 0, .long 0, .int 0, .ref (c0 + (n + 1)), .ref (c0 + (n + 1 + 2))]))) = F2 at t1 t2 ⊢
  have k1 : trm c0 F2 3 N1 N2 x := d.fr (fun q q1 q2 => t2 q (by omega))
  refine Ex.nx rfl ?_
  refine Ex.nx rfl ?_
  refine Ex.nx rfl ?_
  refine Hx.get 3 rfl k1.1 rfl ?_
  refine Ex.nx rfl ?_
  refine Hx.get 3 rfl k1.1 rfl ?_
  refine Ex.nx rfl ?_
  refine Hx.get 3 rfl k1.1 rfl ?_
  refine Hx.callX n rfl rfl t1.1 rfl rfl (tm_become t1 x.1 x.2.1 h20) ?_
  rintro v1 hh ⟨rfl, F3, rfl, t3, t4⟩
  have k2 : trm c0 F3 3 N1 N2 x := k1.fr (fun q q1 q2 => t4 q (Or.inl (by omega)))
  refine Ex.nx rfl ?_
  refine Hx.get n rfl t3.1 rfl ?_
  refine Ex.nx rfl ?_
  refine Hx.get 3 rfl k2.1 rfl ?_
  refine Hx.rowc t3.2.1 rfl rfl rfl rfl (rl_addAll (by omega) hN1 (by omega) (by omega) (by omega) (by omega) (by omega) (by simp) t3.2.1 k2.2.1) ?_
  rintro v2 hh ⟨rfl, F4, rfl, u1, u2⟩
  have k3 : trm c0 F4 3 N1 N2 x := k2.fr (fun q q1 q2 => u2 q (by omega) (by omega))
  have t5 : F4 n = _ := (u2 n (by omega) (by omega)).trans t3.1
  refine Ex.nx rfl ?_
  refine Hx.get n rfl t5 rfl ?_
  refine Ex.nx rfl ?_
  refine Hx.get 3 rfl k3.1 rfl ?_
  have t6 := t3.2.2.1.fr (F' := F4) (u2 _ (by omega) (by omega)) (u2 _ (by omega) (by omega))
  refine Hx.rowc t6 rfl rfl rfl rfl (rl_addAll (by omega) hN2 (by omega) (by omega) (by omega) (by omega) (by omega) (by simp) t6 k3.2.2.1) ?_
  rintro v3 hh ⟨rfl, F5, rfl, w1, w2⟩
  refine Ex.nx rfl ?_
  refine Ex.ret rfl rfl ⟨rfl, F5, ?_, ⟨(w2 n (by omega) (by omega)).trans t5, ?_, ?_, by omega, by omega, h20⟩, fun q hq => ?_⟩
  · show hp c0 (n + 1 + 4) (z + 5 + (4 + _ + _)) F5 = hp c0 (n + 5) _ F5
    rw [show z + 5 + (4 + x.2.2.2.1.length + x.2.2.2.2.length) = z + (9 + x.2.2.2.1.length + x.2.2.2.2.length) by omega]
  · exact u1.fr (w2 _ (by omega) (by omega)) (w2 _ (by omega) (by omega))
  · exact w1
  · exact (w2 q (by omega) (by omega)).trans ((u2 q (by omega) (by omega)).trans ((t4 q (Or.inl hq)).trans ((t2 q hq).trans (d0 q hq))))
/-- what keep answers, and the table behind it -/
def kpP (c0 z : Nat) (F : Nat → Option va_E) (T : List Tm) (u : Nat) (x : Tm) (r : Option Value) (h' : ev_H) : Prop := (numT T x ≠ -2 ∧ r = some (.int (numT T x)) ∧ h' = hp c0 (26 + 5 * T.length) z F) ∨ (numT T x = -2 ∧ (2000 ≤ T.length ∨ 40000 < u + (x.2.2.2.1.length + x.2.2.2.2.length)) ∧ r = some (.int (-3)) ∧ h' = hp c0 (26 + 5 * T.length) z F) ∨ (numT T x = -2 ∧ T.length < 2000 ∧ u + (x.2.2.2.1.length + x.2.2.2.2.length) ≤ 40000 ∧ r = some (.int (nI (T.length + 1))) ∧ ∃ F', h' = hp c0 (26 + 5 * (T ++ [x]).length) (z + (9 + x.2.2.2.1.length + x.2.2.2.2.length)) F' ∧ tbl c0 F' (T ++ [x]) (u + (x.2.2.2.1.length + x.2.2.2.2.length)) ∧ ∀ q, q < 26 → q ≠ 9 → q ≠ 10 → F' q = F q)
theorem getD_tm {T : List Tm} {x : Tm} {i : Nat} (h : i < T.length + 1) : (T ++ [x]).getD i tm0 = if i < T.length then T.getD i tm0 else x := by
  rw [List.getD_eq_getElem?_getD]
  split
  · next q => rw [List.getElem?_append_left q, ← List.getD_eq_getElem?_getD]
  · next q => rw [List.getElem?_append_right (by omega), show i - T.length = 0 by omega]; rfl
set_option maxRecDepth 100000 in
set_option maxHeartbeats 2000000 in
theorem tb_keep {X : ev_X} {c0 z : Nat} {F : Nat → Option va_E} {T : List Tm} {u : Nat} (h : tbl c0 F T u) {N1 N2 : Nat} {x : Tm} (hd : trm c0 F 3 N1 N2 x) : Ex X m_Terms_keep 0 [.ref (c0 + 9), .ref (c0 + 3), ev_dead] [] (hp c0 (26 + 5 * T.length) z F) (kpP c0 z F T u x) := by
  obtain ⟨h9, ⟨κ, h10, hκ⟩, hT, hu, hx⟩ := id h
  have hb1 := hd.2.1.le
  have hb2 := hd.2.2.1.le
  have hN1 := hd.2.2.2.1
  have hN2 := hd.2.2.2.2.1
  refine Ex.nx rfl ?_
  refine Ex.nx rfl ?_
  refine Hx.call 9 rfl rfl h9 rfl rfl (tb_num h hd) ?_
  show Ex X m_Terms_keep 5 [.ref (c0 + 9), .ref (c0 + 3), ev_dead] [.int (numT T x)] (hp c0 (26 + 5 * T.length) _ _) _
  refine Ex.nx rfl ?_
  show Ex X m_Terms_keep 6 [.ref (c0 + 9), .ref (c0 + 3), .int (numT T x)] [] (hp c0 (26 + 5 * T.length) _ _) _
  refine Ex.nx rfl ?_
  refine Ex.nx rfl ?_
  refine Ex.nx rfl ?_
  refine Ex.ite (fun c1 => ?_) (fun c1 => ?_)
  · replace c1 : (numT T x) = (-2) := of_decide_eq_true c1
    show Ex X m_Terms_keep 14 [.ref (c0 + 9), .ref (c0 + 3), .int (numT T x)] [] (hp c0 (26 + 5 * T.length) _ _) _
    refine Ex.nx rfl ?_
    refine Hx.get 9 rfl h9 rfl ?_
    refine Ex.nx rfl ?_
    refine Ex.ite (fun c2 => ?_) (fun c2 => ?_)
    · replace c2 : (nI T.length) < 0 := of_decide_eq_true c2
      exact absurd c2 (nI_pos (by omega))
    · replace c2 : ¬ (nI T.length) < 0 := of_decide_eq_false c2
      show Ex X m_Terms_keep 21 [.ref (c0 + 9), .ref (c0 + 3), .int (numT T x)] [] (hp c0 (26 + 5 * T.length) _ _) _
      refine Ex.nx rfl ?_
      refine Hx.get 9 rfl h9 rfl ?_
      refine Ex.nx rfl ?_
      refine Hx.get 9 rfl h9 rfl ?_
      refine Hx.alen 10 rfl h10 rfl ?_
      refine Ex.nx rfl ?_
      refine Ex.ite (fun c3 => ?_) (fun c3 => ?_)
      · replace c3 : (nI 2000) ≤ (nI T.length) := of_decide_eq_true c3
        show Ex X m_Terms_keep 47 [.ref (c0 + 9), .ref (c0 + 3), .int (numT T x)] [] (hp c0 (26 + 5 * T.length) _ _) _
        refine Ex.nx rfl ?_
        exact Ex.ret rfl (ev_reti rfl) (Or.inr (Or.inl ⟨c1, Or.inl ((nI_leI (by decide) (by omega)).mp c3), rfl, rfl⟩))
      · replace c3 : ¬ (nI 2000) ≤ (nI T.length) := of_decide_eq_false c3
        have hT2 : T.length < 2000 := Nat.lt_of_not_le (fun q => c3 ((nI_leI (by decide) (by omega)).mpr q))
        show Ex X m_Terms_keep 33 [.ref (c0 + 9), .ref (c0 + 3), .int (numT T x)] [] (hp c0 (26 + 5 * T.length) _ _) _
        refine Ex.nx rfl ?_
        refine Hx.get 9 rfl h9 rfl ?_
        refine Ex.nx rfl ?_
        refine Hx.call 3 rfl rfl hd.1 rfl rfl (tm_bytes hd) ?_
        show Ex X m_Terms_keep 41 [.ref (c0 + 9), .ref (c0 + 3), .int (numT T x)] [.int (nI (x.2.2.2.1.length + x.2.2.2.2.length)), .int (nI u)] (hp c0 (26 + 5 * T.length) _ _) _
        refine Ex.nx rfl ?_
        refine Hx.top (y := nI (u + (x.2.2.2.1.length + x.2.2.2.2.length))) (nI_add _ _) ?_
        refine Ex.nx rfl ?_
        refine Ex.nx rfl ?_
        refine Ex.ite (fun c4 => ?_) (fun c4 => ?_)
        · replace c4 : (nI (u + (x.2.2.2.1.length + x.2.2.2.2.length))) ≤ 40000 := of_decide_eq_true c4
          show Ex X m_Terms_keep 50 [.ref (c0 + 9), .ref (c0 + 3), .int (numT T x)] [] (hp c0 (26 + 5 * T.length) _ _) _
          refine Ex.nx rfl ?_
          refine Hx.get 9 rfl h9 rfl ?_
          refine Ex.nx rfl ?_
          refine Hx.get 9 rfl h9 rfl ?_
          refine Ex.nx rfl ?_
          refine Hx.callX 3 rfl rfl hd.1 rfl rfl (tm_copy hd (by omega)) ?_
          rintro v1 hh ⟨rfl, F1, rfl, t1, t2⟩
          have k9 := (t2 9 (by omega)).trans h9
          have k10 := (t2 10 (by omega)).trans h10
          have kd : trm c0 F1 3 N1 N2 x := hd.fr (fun q q1 q2 => t2 q (by omega))
          show Ex X m_Terms_keep 62 [.ref (c0 + 9), .ref (c0 + 3), .int (numT T x)] [.ref (c0 + (26 + 5 * T.length)), .int (nI T.length), .ref (c0 + 10)] (hp c0 (26 + 5 * T.length + 5) _ _) _
          refine Hx.aast 10 (26 + 5 * T.length) rfl k10 t1.1 (nI_in hT2 (by decide)) ?_
          refine Ex.nx rfl ?_
          refine Ex.nx rfl ?_
          refine Hx.get 9 rfl k9 rfl ?_
          refine Ex.nx rfl ?_
          refine Ex.nx rfl ?_
          refine Hx.top (y := nI (T.length + 1)) (nI_1 _) ?_
          refine Hx.put 9 rfl k9 rfl rfl rfl ?_
          refine Ex.nx rfl ?_
          refine Ex.nx rfl ?_
          refine Hx.get 9 rfl rfl rfl ?_
          refine Ex.nx rfl ?_
          have kd2 := kd.fr (F' := va_up (va_up F1 10 (some (.inl (2, 2000, .inr (.inr (.inr (.inr (va_up (κ) (nI T.length).toNatClampNeg (some (c0 + (26 + 5 * T.length))))))))))) 9 (some (.inr (3, [.ref (c0 + 10), .int (nI (T.length + 1)), .int (nI u)])))) (fun q q1 q2 => by rw [va_up_ne _ _ (by omega), va_up_ne _ _ (by omega)])
          refine Hx.call 3 rfl rfl kd2.1 rfl rfl (tm_bytes kd2) ?_
          show Ex X m_Terms_keep 82 [.ref (c0 + 9), .ref (c0 + 3), .int (numT T x)] [.int (nI (x.2.2.2.1.length + x.2.2.2.2.length)), .int (nI u), .ref (c0 + 9)] (hp c0 (26 + 5 * T.length + 5) _ _) _
          refine Ex.nx rfl ?_
          refine Hx.top (y := nI (u + (x.2.2.2.1.length + x.2.2.2.2.length))) (nI_add _ _) ?_
          refine Hx.put 9 rfl rfl rfl rfl rfl ?_
          refine Ex.nx rfl ?_
          refine Hx.get 9 rfl rfl rfl ?_
          refine Ex.ret rfl (ev_reti rfl) (Or.inr (Or.inr ⟨c1, hT2, (nI_leI (b := 40000) (by omega) (by decide)).mp c4, rfl, _, congrArg (fun k => hp c0 k _ _) (show 26 + 5 * T.length + 5 = 26 + 5 * (T ++ [x]).length by simp only [List.length_append, List.length_cons, List.length_nil]; omega), ?_, ?_⟩))
          rotate_left
          · intro q hq h9' h10'
            exact (va_up_ne _ _ h9').trans ((va_up_ne _ _ h9').trans ((va_up_ne _ _ h10').trans (t2 q (by omega))))
          · refine ⟨?_, ⟨va_up κ T.length (some (c0 + (26 + 5 * T.length))), ?_, ?_⟩, ?_, (nI_leI (b := 40000) (by omega) (by decide)).mp c4, ?_⟩
            · rw [List.length_append]; exact va_up_self _ _ _
            · rw [nI_clamp (by omega)]; exact (va_up_ne _ _ (by decide)).trans ((va_up_ne _ _ (by decide)).trans (va_up_self _ _ _))
            · intro i hi
              simp only [List.length_append, List.length_cons, List.length_nil] at hi
              by_cases q : i = T.length
              · rw [q, va_up_self]
              · rw [va_up_ne _ _ q]; exact hκ i (by omega)
            · simp only [List.length_append, List.length_cons, List.length_nil]; omega
            · intro i hi
              simp only [List.length_append, List.length_cons, List.length_nil] at hi
              rw [getD_tm hi]
              split
              · next q =>
                obtain ⟨M1, M2, hti⟩ := hx i q
                exact ⟨M1, M2, hti.fr (fun y y1 y2 => (va_up_ne _ _ (by omega)).trans ((va_up_ne _ _ (by omega)).trans ((va_up_ne _ _ (by omega)).trans (t2 y (by omega)))))⟩
              · next q =>
                rw [show i = T.length by omega]
                exact ⟨_, _, t1.fr (fun y y1 y2 => (va_up_ne _ _ (by omega)).trans ((va_up_ne _ _ (by omega)).trans (va_up_ne _ _ (by omega))))⟩
        · replace c4 : ¬ (nI (u + (x.2.2.2.1.length + x.2.2.2.2.length))) ≤ 40000 := of_decide_eq_false c4
          show Ex X m_Terms_keep 47 [.ref (c0 + 9), .ref (c0 + 3), .int (numT T x)] [] (hp c0 (26 + 5 * T.length) _ _) _
          refine Ex.nx rfl ?_
          exact Ex.ret rfl (ev_reti rfl) (Or.inr (Or.inl ⟨c1, Or.inr (Nat.lt_of_not_le (fun q => c4 ((nI_leI (b := 40000) (by omega) (by decide)).mpr q))), rfl, rfl⟩))
  · replace c1 : ¬ (numT T x) = (-2) := of_decide_eq_false c1
    show Ex X m_Terms_keep 12 [.ref (c0 + 9), .ref (c0 + 3), .int (numT T x)] [] (hp c0 (26 + 5 * T.length) _ _) _
    refine Ex.nx rfl ?_
    exact Ex.ret rfl (ev_reti rfl) (Or.inl ⟨c1, rfl, rfl⟩)
