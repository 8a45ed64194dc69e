/-! Rows of the class. (rows laid by wip/whole/h1.py) -/
theorem i2b_nar {b : Int32} : vp_nar .byte b.toInt8.toInt32 = vp_nar .byte b := by
  simp [vp_nar, narrow]
set_option maxRecDepth 100000 in
set_option maxHeartbeats 1000000 in
theorem hx_size {X : ev_X} {c0 n z : Nat} {F : Nat → Option va_E} (k : Nat) {v : Value} {l : Int32} (h : F k = some (.inr (1, [v, .int l]))) : Ex X m_Row_size 0 [.ref (c0 + k)] [] (hp c0 n z F) (fun r h' => r = some (.int l) ∧ h' = hp c0 n z F) := by
  refine Ex.nx rfl ?_
  refine Hx.get k rfl h rfl ?_
  exact Ex.ret rfl (ev_reti rfl) ⟨rfl, rfl⟩
set_option maxRecDepth 100000 in
set_option maxHeartbeats 1000000 in
theorem hx_clear {X : ev_X} {c0 n z : Nat} {F : Nat → Option va_E} (k : Nat) {v : Value} {l : Int32} (h : F k = some (.inr (1, [v, .int l]))) : Ex X m_Row_clear 0 [.ref (c0 + k)] [] (hp c0 n z F) (fun r h' => r = none ∧ h' = hp c0 n z (va_up F k (some (.inr (1, [v, .int 0]))))) := by
  refine Ex.nx rfl ?_
  refine Ex.nx rfl ?_
  refine Hx.put k rfl h rfl rfl rfl ?_
  exact Ex.ret rfl rfl ⟨rfl, rfl⟩
set_option maxRecDepth 100000 in
set_option maxHeartbeats 1000000 in
theorem hx_at_lt {X : ev_X} {c0 n z : Nat} {F : Nat → Option va_E} (k ka : Nat) {l N : Nat} {f : Nat → Int32} (h : F k = some (.inr (1, [.ref (c0 + ka), .int (nI l)]))) (ha : F ka = some (.inl (0, N, .inl f))) (hN : N ≤ 1000) (hl : l ≤ N) {i : Nat} (hi : i < l) : Ex X m_Row_at 0 [.ref (c0 + k), .int (nI i)] [] (hp c0 n z F) (fun r h' => r = some (.int (f i &&& 255)) ∧ h' = hp c0 n z F) := by
  refine Ex.nx rfl ?_
  refine Ex.nx rfl ?_
  refine Ex.ite (fun c1 => ?_) (fun c1 => ?_)
  · replace c1 : (nI i) < 0 := of_decide_eq_true c1
    exact absurd c1 (nI_pos (by omega))
  · replace c1 : ¬ (nI i) < 0 := of_decide_eq_false c1
    show Ex X m_Row_at 4 [.ref (c0 + k), .int (nI i)] [] (hp c0 n _ _) _
    refine Ex.nx rfl ?_
    refine Ex.nx rfl ?_
    refine Hx.get k rfl h rfl ?_
    refine Ex.nx rfl ?_
    refine Ex.ite (fun c2 => ?_) (fun c2 => ?_)
    · replace c2 : (nI l) ≤ (nI i) := of_decide_eq_true c2
      exact absurd ((nI_leI (by omega) (by omega)).mp c2) (by omega)
    · replace c2 : ¬ (nI l) ≤ (nI i) := of_decide_eq_false c2
      show Ex X m_Row_at 12 [.ref (c0 + k), .int (nI i)] [] (hp c0 n _ _) _
      refine Ex.nx rfl ?_
      refine Ex.nx rfl ?_
      refine Hx.get k rfl h rfl ?_
      refine Hx.alen ka rfl ha rfl ?_
      refine Ex.nx rfl ?_
      refine Ex.ite (fun c3 => ?_) (fun c3 => ?_)
      · replace c3 : (nI N) ≤ (nI i) := of_decide_eq_true c3
        exact absurd ((nI_leI (by omega) (by omega)).mp c3) (by omega)
      · replace c3 : ¬ (nI N) ≤ (nI i) := of_decide_eq_false c3
        show Ex X m_Row_at 21 [.ref (c0 + k), .int (nI i)] [] (hp c0 n _ _) _
        refine Ex.nx rfl ?_
        refine Hx.get k rfl h rfl ?_
        refine Ex.nx rfl ?_
        refine Hx.bald ka rfl ha (nI_in (by omega) (by omega)) ?_
        refine Ex.nx rfl ?_
        refine Ex.nx rfl ?_
        refine Ex.nx rfl ?_
        rw [nI_clamp (by omega)]; exact Ex.ret rfl (ev_reti rfl) ⟨rfl, rfl⟩
set_option maxRecDepth 100000 in
set_option maxHeartbeats 1000000 in
theorem hx_at_ge {X : ev_X} {c0 n z : Nat} {F : Nat → Option va_E} (k ka : Nat) {l N : Nat} {f : Nat → Int32} (h : F k = some (.inr (1, [.ref (c0 + ka), .int (nI l)]))) (ha : F ka = some (.inl (0, N, .inl f))) (hN : N ≤ 1000) (hl : l ≤ N) {i : Nat} (hi : l ≤ i) (hi2 : i < 2 ^ 31) : Ex X m_Row_at 0 [.ref (c0 + k), .int (nI i)] [] (hp c0 n z F) (fun r h' => r = some (.int (-1)) ∧ h' = hp c0 n z F) := by
  refine Ex.nx rfl ?_
  refine Ex.nx rfl ?_
  refine Ex.ite (fun c1 => ?_) (fun c1 => ?_)
  · replace c1 : (nI i) < 0 := of_decide_eq_true c1
    exact absurd c1 (nI_pos (by omega))
  · replace c1 : ¬ (nI i) < 0 := of_decide_eq_false c1
    show Ex X m_Row_at 4 [.ref (c0 + k), .int (nI i)] [] (hp c0 n _ _) _
    refine Ex.nx rfl ?_
    refine Ex.nx rfl ?_
    refine Hx.get k rfl h rfl ?_
    refine Ex.nx rfl ?_
    refine Ex.ite (fun c2 => ?_) (fun c2 => ?_)
    · replace c2 : (nI l) ≤ (nI i) := of_decide_eq_true c2
      show Ex X m_Row_at 34 [.ref (c0 + k), .int (nI i)] [] (hp c0 n _ _) _
      refine Ex.nx rfl ?_
      exact Ex.ret rfl (ev_reti rfl) ⟨rfl, rfl⟩
    · replace c2 : ¬ (nI l) ≤ (nI i) := of_decide_eq_false c2
      exact absurd ((nI_leI (by omega) (by omega)).mpr hi) c2
set_option maxRecDepth 100000 in
set_option maxHeartbeats 1000000 in
theorem hx_add {X : ev_X} {c0 n z : Nat} {F : Nat → Option va_E} (k ka : Nat) {l N : Nat} {f : Nat → Int32} (h : F k = some (.inr (1, [.ref (c0 + ka), .int (nI l)]))) (ha : F ka = some (.inl (0, N, .inl f))) (hN : N ≤ 1000) (hl : l < N) (hne : k ≠ ka) (b : Int32) : Ex X m_Row_add 0 [.ref (c0 + k), .int b] [] (hp c0 n z F) (fun r h' => r = none ∧ h' = hp c0 n z (va_up (va_up F ka (some (.inl (0, N, .inl (upd f l (vp_nar .byte b)))))) k (some (.inr (1, [.ref (c0 + ka), .int (nI (l + 1))]))))) := by
  refine Ex.nx rfl ?_
  refine Hx.get k rfl h rfl ?_
  refine Ex.nx rfl ?_
  refine Ex.ite (fun c1 => ?_) (fun c1 => ?_)
  · replace c1 : (nI l) < 0 := of_decide_eq_true c1
    exact absurd c1 (nI_pos (by omega))
  · replace c1 : ¬ (nI l) < 0 := of_decide_eq_false c1
    show Ex X m_Row_add 7 [.ref (c0 + k), .int b] [] (hp c0 n _ _) _
    refine Ex.nx rfl ?_
    refine Hx.get k rfl h rfl ?_
    refine Ex.nx rfl ?_
    refine Hx.get k rfl h rfl ?_
    refine Hx.alen ka rfl ha rfl ?_
    refine Ex.nx rfl ?_
    refine Ex.ite (fun c2 => ?_) (fun c2 => ?_)
    · replace c2 : (nI N) ≤ (nI l) := of_decide_eq_true c2
      exact absurd ((nI_leI (by omega) (by omega)).mp c2) (by omega)
    · replace c2 : ¬ (nI N) ≤ (nI l) := of_decide_eq_false c2
      show Ex X m_Row_add 19 [.ref (c0 + k), .int b] [] (hp c0 n _ _) _
      refine Ex.nx rfl ?_
      refine Hx.get k rfl h rfl ?_
      refine Ex.nx rfl ?_
      refine Hx.get k rfl h rfl ?_
      refine Ex.nx rfl ?_
      refine Ex.nx rfl ?_
      refine Hx.bast ka rfl ha (nI_in (by omega) (by omega)) ?_
      refine Ex.nx rfl ?_
      refine Ex.nx rfl ?_
      refine Hx.get k rfl ((va_up_ne _ _ hne).trans h) rfl ?_
      refine Ex.nx rfl ?_
      refine Ex.nx rfl ?_
      refine Hx.put k rfl ((va_up_ne _ _ hne).trans h) rfl rfl rfl ?_
      refine Ex.ret rfl rfl ⟨rfl, ?_⟩
      rw [nI_clamp (by omega), i2b_nar, show nI l + Int32.ofInt 1 = nI (l + 1) from nI_1 l]
      rfl
set_option maxRecDepth 100000 in
set_option maxHeartbeats 1000000 in
theorem hx_Row {X : ev_X} {c0 n z : Nat} {F : Nat → Option va_E} (k : Nat) {R : Nat} (h : F k = some (.inr (1, [.null, .int 0]))) (hR : R ≤ 1000) (hk : k ≠ n) : Ex X m_Row_new 0 [.ref (c0 + k), .int (nI R)] [] (hp c0 n z F) (fun r h' => r = none ∧ h' = hp c0 (n + 1) (z + R) (va_up (va_up F n (some (.inl (0, R, .inl (fun _ => 0))))) k (some (.inr (1, [.ref (c0 + n), .int 0]))))) := by
  refine Ex.nx rfl ?_
  refine Hx.oini rfl rfl ?_
  show Ex X m_Row_new 4 [.ref (c0 + k), .int (nI R)] [] (hp c0 n _ _) _
  refine Ex.nx rfl ?_
  refine Ex.nx rfl ?_
  refine Ex.nx rfl ?_
  refine Hx.max rfl rfl ?_
  rw [if_neg (show ¬ nI R < Int32.ofInt 0 from nI_pos (by omega))]
  show Ex X m_Row_new 10 [.ref (c0 + k), .int (nI R)] [.int (nI R), .ref (c0 + k)] (hp c0 n _ _) _
  refine Hx.newb (R := R) rfl hR ?_
  show Ex X m_Row_new 12 [.ref (c0 + k), .int (nI R)] [.ref (c0 + n), .ref (c0 + k)] (hp c0 (n + 1) _ _) _
  refine Hx.put k rfl ((va_up_ne _ _ hk).trans h) rfl rfl rfl ?_
  refine Ex.nx rfl ?_
  refine Ex.nx rfl ?_
  refine Hx.put k rfl (va_up_self _ _ _) rfl rfl rfl ?_
  exact Ex.ret rfl rfl ⟨rfl, by rw [va_uu]; rfl⟩
theorem tm_eq {F : Nat → Option va_E} {k n : Nat} {a b c d e x y u : Option va_E} (hk : k < n) : va_up (va_up (va_up (va_up (va_up (va_up (va_up (va_up F n x) (n + 1) a) n b) k y) (n + 1 + 1) u) (n + 1 + 1 + 1) c) (n + 1 + 1) d) k e = va_up (va_up (va_up (va_up (va_up F n b) (n + 1) a) (n + 2) d) (n + 3) c) k e := by
  funext j
  simp only [va_up]
  by_cases h1 : j = k
  · simp [h1]
  · by_cases h2 : j = n
    · simp [h1, h2, show ¬ n = k by omega, show ¬ n = n + 1 + 1 by omega, show ¬ n = n + 1 + 1 + 1 by omega, show ¬ n = n + 2 by omega, show ¬ n = n + 3 by omega]
    · by_cases h3 : j = n + 1
      · simp [h1, h2, h3, show ¬ n + 1 = k by omega]
      · by_cases h4 : j = n + 2
        · simp [h1, h2, h3, h4, show ¬ n + 2 = k by omega]
        · simp [h1, h2, h3, h4]
set_option maxRecDepth 100000 in
set_option maxHeartbeats 1000000 in
theorem hx_Term {X : ev_X} {c0 n z : Nat} {F : Nat → Option va_E} (k : Nat) {R1 R2 : Nat} (h : F k = some (.inr (2, [.int 0, .long 0, .int 0, .null, .null]))) (hR1 : R1 ≤ 1000) (hR2 : R2 ≤ 1000) (hk : k < n) : Ex X m_Term_new 0 [.ref (c0 + k), .int (nI R1), .int (nI R2)] [] (hp c0 n z F) (fun r h' => r = none ∧ h' = hp c0 (n + 4) (z + (4 + R1 + R2)) (va_up (va_up (va_up (va_up (va_up F n (some (.inr (1, [.ref (c0 + (n + 1)), .int 0])))) (n + 1) (some (.inl (0, R1, .inl (fun _ => 0))))) (n + 2) (some (.inr (1, [.ref (c0 + (n + 3)), .int 0])))) (n + 3) (some (.inl (0, R2, .inl (fun _ => 0))))) k (some (.inr (2, [.int 0, .long 0, .int 0, .ref (c0 + n), .ref (c0 + (n + 2))]))))) := by
  refine Ex.nx rfl ?_
  refine Hx.oini rfl rfl ?_
  show Ex X m_Term_new 4 [.ref (c0 + k), .int (nI R1), .int (nI R2)] [] (hp c0 n _ _) _
  refine Ex.nx rfl ?_
  refine Hx.newo rfl rfl ?_
  show Ex X m_Term_new 8 [.ref (c0 + k), .int (nI R1), .int (nI R2)] [.ref (c0 + n), .ref (c0 + k)] (hp c0 (n + 1) _ _) _
  refine Ex.nx rfl ?_
  refine Ex.nx rfl ?_
  refine Hx.callp rfl rfl rfl rfl (hx_Row n (R := R1) (va_up_self _ _ _) hR1 (by omega)) ?_
  show Ex X m_Term_new 13 [.ref (c0 + k), .int (nI R1), .int (nI R2)] [.ref (c0 + n), .ref (c0 + k)] (hp c0 (n + 1 + 1) _ _) _
  refine Hx.put k rfl ((va_up_ne _ _ (by omega)).trans ((va_up_ne _ _ (by omega)).trans ((va_up_ne _ _ (by omega)).trans h))) rfl rfl rfl ?_
  refine Ex.nx rfl ?_
  refine Hx.newo rfl rfl ?_
  show Ex X m_Term_new 20 [.ref (c0 + k), .int (nI R1), .int (nI R2)] [.ref (c0 + (n + 1 + 1)), .ref (c0 + k)] (hp c0 (n + 1 + 1 + 1) _ _) _
  refine Ex.nx rfl ?_
  refine Ex.nx rfl ?_
  refine Hx.callp rfl rfl rfl rfl (hx_Row (n + 1 + 1) (R := R2) (va_up_self _ _ _) hR2 (by omega)) ?_
  show Ex X m_Term_new 25 [.ref (c0 + k), .int (nI R1), .int (nI R2)] [.ref (c0 + (n + 1 + 1)), .ref (c0 + k)] (hp c0 (n + 1 + 1 + 1 + 1) _ _) _
  refine Hx.put k rfl ((va_up_ne _ _ (by omega)).trans ((va_up_ne _ _ (by omega)).trans ((va_up_ne _ _ (by omega)).trans (va_up_self _ _ _)))) rfl rfl rfl ?_
  refine Ex.ret rfl rfl ⟨rfl, ?_⟩
  rw [tm_eq hk, show z + 2 + R1 + 2 + R2 = z + (4 + R1 + R2) by omega]
  rfl
set_option maxRecDepth 100000 in
set_option maxHeartbeats 1000000 in
theorem hx_Reader {X : ev_X} {c0 n z : Nat} {F : Nat → Option va_E} (h : F 8 = some (.inr (0, [.null, .int 0, .int 0]))) : Ex X m_Reader_new 0 [.ref (c0 + 8), .ref (c0 + 3)] [] (hp c0 n z F) (fun r h' => r = none ∧ h' = hp c0 n z (va_up (va_up (va_up F 8 (some (.inr (0, [.ref (c0 + 3), .int 0, .int 0])))) 8 (some (.inr (0, [.ref (c0 + 3), .int 0, .int 0])))) 8 (some (.inr (0, [.ref (c0 + 3), .int 0, .int 0]))))) := by
  refine Ex.nx rfl ?_
  refine Hx.oini rfl rfl ?_
  show Ex X m_Reader_new 4 [.ref (c0 + 8), .ref (c0 + 3)] [] (hp c0 n _ _) _
  refine Ex.nx rfl ?_
  refine Ex.nx rfl ?_
  refine Hx.put 8 rfl h rfl rfl rfl ?_
  refine Ex.nx rfl ?_
  refine Ex.nx rfl ?_
  refine Hx.put 8 rfl rfl rfl rfl rfl ?_
  refine Ex.nx rfl ?_
  refine Ex.nx rfl ?_
  refine Hx.put 8 rfl rfl rfl rfl rfl ?_
  exact Ex.ret rfl rfl ⟨rfl, rfl⟩
set_option maxRecDepth 100000 in
set_option maxHeartbeats 1000000 in
theorem hx_Terms {X : ev_X} {c0 z : Nat} {F : Nat → Option va_E} (h : F 9 = some (.inr (3, [.null, .int 0, .int 0]))) : Ex X m_Terms_new 0 [.ref (c0 + 9)] [] (hp c0 10 z F) (fun r h' => r = none ∧ h' = hp c0 11 (z + 2000) (va_up (va_up (va_up (va_up F 10 (some (.inl (2, 2000, .inr (.inr (.inr (.inr (fun _ => none)))))))) 9 (some (.inr (3, [.ref (c0 + 10), .int 0, .int 0])))) 9 (some (.inr (3, [.ref (c0 + 10), .int 0, .int 0])))) 9 (some (.inr (3, [.ref (c0 + 10), .int 0, .int 0]))))) := by
  refine Ex.nx rfl ?_
  refine Hx.oini rfl rfl ?_
  show Ex X m_Terms_new 4 [.ref (c0 + 9)] [] (hp c0 10 _ _) _
  refine Ex.nx rfl ?_
  refine Ex.nx rfl ?_
  refine Hx.newr (R := 2000) rfl (by decide) ?_
  show Ex X m_Terms_new 11 [.ref (c0 + 9)] [.ref (c0 + 10), .ref (c0 + 9)] (hp c0 11 _ _) _
  refine Hx.put 9 rfl h rfl rfl rfl ?_
  refine Ex.nx rfl ?_
  refine Ex.nx rfl ?_
  refine Hx.put 9 rfl rfl rfl rfl rfl ?_
  refine Ex.nx rfl ?_
  refine Ex.nx rfl ?_
  refine Hx.put 9 rfl rfl rfl rfl rfl ?_
  exact Ex.ret rfl rfl ⟨rfl, rfl⟩
set_option maxRecDepth 100000 in
set_option maxHeartbeats 1000000 in
theorem hx_Writer {X : ev_X} {c0 z : Nat} {F : Nat → Option va_E} (h : F 11 = some (.inr (4, [.null, .null]))) : Ex X m_Writer_new 0 [.ref (c0 + 11)] [] (hp c0 12 z F) (fun r h' => r = none ∧ h' = hp c0 16 (z + 2 + 194 + 2 + 18) (va_up (va_up (va_up (va_up (va_up (va_up (va_up (va_up F 12 (some (.inr (1, [.null, .int 0])))) 13 (some (.inl (0, 194, .inl (fun _ => 0))))) 12 (some (.inr (1, [.ref (c0 + 13), .int 0])))) 11 (some (.inr (4, [.ref (c0 + 12), .null])))) 14 (some (.inr (1, [.null, .int 0])))) 15 (some (.inl (0, 18, .inl (fun _ => 0))))) 14 (some (.inr (1, [.ref (c0 + 15), .int 0])))) 11 (some (.inr (4, [.ref (c0 + 12), .ref (c0 + 14)]))))) := by
  refine Ex.nx rfl ?_
  refine Hx.oini rfl rfl ?_
  show Ex X m_Writer_new 4 [.ref (c0 + 11)] [] (hp c0 12 _ _) _
  refine Ex.nx rfl ?_
  refine Hx.newo rfl rfl ?_
  show Ex X m_Writer_new 8 [.ref (c0 + 11)] [.ref (c0 + 12), .ref (c0 + 11)] (hp c0 13 _ _) _
  refine Ex.nx rfl ?_
  refine Ex.nx rfl ?_
  refine Hx.callp rfl rfl rfl rfl (hx_Row 12 (R := 194) rfl (by decide) (by decide)) ?_
  show Ex X m_Writer_new 15 [.ref (c0 + 11)] [.ref (c0 + 12), .ref (c0 + 11)] (hp c0 14 _ _) _
  refine Hx.put 11 rfl h rfl rfl rfl ?_
  refine Ex.nx rfl ?_
  refine Hx.newo rfl rfl ?_
  show Ex X m_Writer_new 22 [.ref (c0 + 11)] [.ref (c0 + 14), .ref (c0 + 11)] (hp c0 15 _ _) _
  refine Ex.nx rfl ?_
  refine Ex.nx rfl ?_
  refine Hx.callp rfl rfl rfl rfl (hx_Row 14 (R := 18) rfl (by decide) (by decide)) ?_
  show Ex X m_Writer_new 28 [.ref (c0 + 11)] [.ref (c0 + 14), .ref (c0 + 11)] (hp c0 16 _ _) _
  refine Hx.put 11 rfl rfl rfl rfl rfl ?_
  exact Ex.ret rfl rfl ⟨rfl, rfl⟩
set_option maxRecDepth 100000 in
set_option maxHeartbeats 1000000 in
theorem hx_Tab {X : ev_X} {c0 z : Nat} {F : Nat → Option va_E} (h : F 0 = some (.inr (5, [.null, .null, .null, .null, .null]))) : Ex X m_Tab_new 0 [.ref (c0 + 0)] [] (hp c0 1 z F) (fun r h' => r = none ∧ h' = hp c0 16 (z + 2 + 240 + 5 + (4 + 64 + 60) + 3 + 3 + 2000 + 2 + 2 + 194 + 2 + 18) (va_up (va_up (va_up (va_up (va_up (va_up (va_up (va_up (va_up (va_up (va_up (va_up (va_up (va_up (va_up (va_up (va_up (va_up (va_up (va_up (va_up (va_up (va_up (va_up (va_up (va_up (va_up (va_up (va_up (va_up (va_up (va_up F 1 (some (.inr (1, [.null, .int 0])))) 2 (some (.inl (0, 240, .inl (fun _ => 0))))) 1 (some (.inr (1, [.ref (c0 + 2), .int 0])))) 0 (some (.inr (5, [.ref (c0 + 1), .null, .null, .null, .null])))) 3 (some (.inr (2, [.int 0, .long 0, .int 0, .null, .null])))) 4 (some (.inr (1, [.ref (c0 + 5), .int 0])))) 5 (some (.inl (0, 64, .inl (fun _ => 0))))) 6 (some (.inr (1, [.ref (c0 + 7), .int 0])))) 7 (some (.inl (0, 60, .inl (fun _ => 0))))) 3 (some (.inr (2, [.int 0, .long 0, .int 0, .ref (c0 + 4), .ref (c0 + 6)])))) 0 (some (.inr (5, [.ref (c0 + 1), .ref (c0 + 3), .null, .null, .null])))) 8 (some (.inr (0, [.null, .int 0, .int 0])))) 8 (some (.inr (0, [.ref (c0 + 3), .int 0, .int 0])))) 8 (some (.inr (0, [.ref (c0 + 3), .int 0, .int 0])))) 8 (some (.inr (0, [.ref (c0 + 3), .int 0, .int 0])))) 0 (some (.inr (5, [.ref (c0 + 1), .ref (c0 + 3), .ref (c0 + 8), .null, .null])))) 9 (some (.inr (3, [.null, .int 0, .int 0])))) 10 (some (.inl (2, 2000, .inr (.inr (.inr (.inr (fun _ => none)))))))) 9 (some (.inr (3, [.ref (c0 + 10), .int 0, .int 0])))) 9 (some (.inr (3, [.ref (c0 + 10), .int 0, .int 0])))) 9 (some (.inr (3, [.ref (c0 + 10), .int 0, .int 0])))) 0 (some (.inr (5, [.ref (c0 + 1), .ref (c0 + 3), .ref (c0 + 8), .ref (c0 + 9), .null])))) 11 (some (.inr (4, [.null, .null])))) 12 (some (.inr (1, [.null, .int 0])))) 13 (some (.inl (0, 194, .inl (fun _ => 0))))) 12 (some (.inr (1, [.ref (c0 + 13), .int 0])))) 11 (some (.inr (4, [.ref (c0 + 12), .null])))) 14 (some (.inr (1, [.null, .int 0])))) 15 (some (.inl (0, 18, .inl (fun _ => 0))))) 14 (some (.inr (1, [.ref (c0 + 15), .int 0])))) 11 (some (.inr (4, [.ref (c0 + 12), .ref (c0 + 14)])))) 0 (some (.inr (5, [.ref (c0 + 1), .ref (c0 + 3), .ref (c0 + 8), .ref (c0 + 9), .ref (c0 + 11)]))))) := by
  refine Ex.nx rfl ?_
  refine Hx.oini rfl rfl ?_
  show Ex X m_Tab_new 4 [.ref (c0 + 0)] [] (hp c0 1 _ _) _
  refine Ex.nx rfl ?_
  refine Hx.newo rfl rfl ?_
  show Ex X m_Tab_new 8 [.ref (c0 + 0)] [.ref (c0 + 1), .ref (c0 + 0)] (hp c0 2 _ _) _
  refine Ex.nx rfl ?_
  refine Ex.nx rfl ?_
  refine Hx.callp rfl rfl rfl rfl (hx_Row 1 (R := 240) rfl (by decide) (by decide)) ?_
  show Ex X m_Tab_new 15 [.ref (c0 + 0)] [.ref (c0 + 1), .ref (c0 + 0)] (hp c0 3 _ _) _
  refine Hx.put 0 rfl h rfl rfl rfl ?_
  refine Ex.nx rfl ?_
  refine Hx.newo rfl rfl ?_
  show Ex X m_Tab_new 22 [.ref (c0 + 0)] [.ref (c0 + 3), .ref (c0 + 0)] (hp c0 4 _ _) _
  refine Ex.nx rfl ?_
  refine Ex.nx rfl ?_
  refine Ex.nx rfl ?_
  refine Hx.callp rfl rfl rfl rfl (hx_Term 3 (R1 := 64) (R2 := 60) rfl (by decide) (by decide) (by decide)) ?_
  show Ex X m_Tab_new 30 [.ref (c0 + 0)] [.ref (c0 + 3), .ref (c0 + 0)] (hp c0 8 _ _) _
  refine Hx.put 0 rfl rfl rfl rfl rfl ?_
  refine Ex.nx rfl ?_
  refine Hx.newo rfl rfl ?_
  show Ex X m_Tab_new 37 [.ref (c0 + 0)] [.ref (c0 + 8), .ref (c0 + 0)] (hp c0 9 _ _) _
  refine Ex.nx rfl ?_
  refine Ex.nx rfl ?_
  refine Hx.get 0 rfl rfl rfl ?_
  refine Hx.callp rfl rfl rfl rfl (hx_Reader rfl) ?_
  show Ex X m_Tab_new 45 [.ref (c0 + 0)] [.ref (c0 + 8), .ref (c0 + 0)] (hp c0 9 _ _) _
  refine Hx.put 0 rfl rfl rfl rfl rfl ?_
  refine Ex.nx rfl ?_
  refine Hx.newo rfl rfl ?_
  show Ex X m_Tab_new 52 [.ref (c0 + 0)] [.ref (c0 + 9), .ref (c0 + 0)] (hp c0 10 _ _) _
  refine Ex.nx rfl ?_
  refine Hx.callp rfl rfl rfl rfl (hx_Terms rfl) ?_
  show Ex X m_Tab_new 56 [.ref (c0 + 0)] [.ref (c0 + 9), .ref (c0 + 0)] (hp c0 11 _ _) _
  refine Hx.put 0 rfl rfl rfl rfl rfl ?_
  refine Ex.nx rfl ?_
  refine Hx.newo rfl rfl ?_
  show Ex X m_Tab_new 63 [.ref (c0 + 0)] [.ref (c0 + 11), .ref (c0 + 0)] (hp c0 12 _ _) _
  refine Ex.nx rfl ?_
  refine Hx.callp rfl rfl rfl rfl (hx_Writer rfl) ?_
  show Ex X m_Tab_new 67 [.ref (c0 + 0)] [.ref (c0 + 11), .ref (c0 + 0)] (hp c0 16 _ _) _
  refine Hx.put 0 rfl rfl rfl rfl rfl ?_
  exact Ex.ret rfl rfl ⟨rfl, rfl⟩
set_option maxRecDepth 100000 in
set_option maxHeartbeats 1000000 in
theorem hx_Mod {X : ev_X} {c0 z : Nat} {F : Nat → Option va_E} (h : F 16 = some (.inr (6, [.null, .int 0, .int 0, .null, .null, .null, .null, .int 0, .int 0, .null, .int 0, .int 0, .int 0, .int 0, .null, .int 0, .int 0, .int 0, .int 0, .int 0, .null, .null, .int 0, .int 0]))) : Ex X m_Mod_new 0 [.ref (c0 + 16)] [] (hp c0 17 z F) (fun r h' => r = none ∧ h' = hp c0 26 (z + 240 + 132000 + 2002 + 2002 + 2002 + 260 + 260 + 240 + 40) (va_up (va_up (va_up (va_up (va_up (va_up (va_up (va_up (va_up (va_up (va_up (va_up (va_up (va_up (va_up (va_up (va_up (va_up F 17 (some (.inl (1, 240, .inl (fun _ => 0))))) 16 (some (.inr (6, [.ref (c0 + 17), .int 0, .int 0, .null, .null, .null, .null, .int 0, .int 0, .null, .int 0, .int 0, .int 0, .int 0, .null, .int 0, .int 0, .int 0, .int 0, .int 0, .null, .null, .int 0, .int 0])))) 18 (some (.inl (1, 132000, .inl (fun _ => 0))))) 16 (some (.inr (6, [.ref (c0 + 17), .int 0, .int 0, .ref (c0 + 18), .null, .null, .null, .int 0, .int 0, .null, .int 0, .int 0, .int 0, .int 0, .null, .int 0, .int 0, .int 0, .int 0, .int 0, .null, .null, .int 0, .int 0])))) 19 (some (.inl (1, 2002, .inl (fun _ => 0))))) 16 (some (.inr (6, [.ref (c0 + 17), .int 0, .int 0, .ref (c0 + 18), .ref (c0 + 19), .null, .null, .int 0, .int 0, .null, .int 0, .int 0, .int 0, .int 0, .null, .int 0, .int 0, .int 0, .int 0, .int 0, .null, .null, .int 0, .int 0])))) 20 (some (.inl (1, 2002, .inl (fun _ => 0))))) 16 (some (.inr (6, [.ref (c0 + 17), .int 0, .int 0, .ref (c0 + 18), .ref (c0 + 19), .ref (c0 + 20), .null, .int 0, .int 0, .null, .int 0, .int 0, .int 0, .int 0, .null, .int 0, .int 0, .int 0, .int 0, .int 0, .null, .null, .int 0, .int 0])))) 21 (some (.inl (1, 2002, .inl (fun _ => 0))))) 16 (some (.inr (6, [.ref (c0 + 17), .int 0, .int 0, .ref (c0 + 18), .ref (c0 + 19), .ref (c0 + 20), .ref (c0 + 21), .int 0, .int 0, .null, .int 0, .int 0, .int 0, .int 0, .null, .int 0, .int 0, .int 0, .int 0, .int 0, .null, .null, .int 0, .int 0])))) 22 (some (.inl (1, 260, .inl (fun _ => 0))))) 16 (some (.inr (6, [.ref (c0 + 17), .int 0, .int 0, .ref (c0 + 18), .ref (c0 + 19), .ref (c0 + 20), .ref (c0 + 21), .int 0, .int 0, .ref (c0 + 22), .int 0, .int 0, .int 0, .int 0, .null, .int 0, .int 0, .int 0, .int 0, .int 0, .null, .null, .int 0, .int 0])))) 23 (some (.inl (1, 260, .inl (fun _ => 0))))) 16 (some (.inr (6, [.ref (c0 + 17), .int 0, .int 0, .ref (c0 + 18), .ref (c0 + 19), .ref (c0 + 20), .ref (c0 + 21), .int 0, .int 0, .ref (c0 + 22), .int 0, .int 0, .int 0, .int 0, .ref (c0 + 23), .int 0, .int 0, .int 0, .int 0, .int 0, .null, .null, .int 0, .int 0])))) 24 (some (.inl (1, 240, .inl (fun _ => 0))))) 16 (some (.inr (6, [.ref (c0 + 17), .int 0, .int 0, .ref (c0 + 18), .ref (c0 + 19), .ref (c0 + 20), .ref (c0 + 21), .int 0, .int 0, .ref (c0 + 22), .int 0, .int 0, .int 0, .int 0, .ref (c0 + 23), .int 0, .int 0, .int 0, .int 0, .int 0, .ref (c0 + 24), .null, .int 0, .int 0])))) 25 (some (.inl (1, 40, .inl (fun _ => 0))))) 16 (some (.inr (6, [.ref (c0 + 17), .int 0, .int 0, .ref (c0 + 18), .ref (c0 + 19), .ref (c0 + 20), .ref (c0 + 21), .int 0, .int 0, .ref (c0 + 22), .int 0, .int 0, .int 0, .int 0, .ref (c0 + 23), .int 0, .int 0, .int 0, .int 0, .int 0, .ref (c0 + 24), .ref (c0 + 25), .int 0, .int 0]))))) := by
  refine Ex.nx rfl ?_
  refine Hx.oini rfl rfl ?_
  show Ex X m_Mod_new 4 [.ref (c0 + 16)] [] (hp c0 17 _ _) _
  refine Ex.nx rfl ?_
  refine Ex.nx rfl ?_
  refine Hx.newi (R := 240) rfl (by decide) ?_
  show Ex X m_Mod_new 10 [.ref (c0 + 16)] [.ref (c0 + 17), .ref (c0 + 16)] (hp c0 18 _ _) _
  refine Hx.put 16 rfl h rfl rfl rfl ?_
  refine Ex.nx rfl ?_
  refine Ex.nx rfl ?_
  refine Hx.newi (R := 132000) rfl (by decide) ?_
  show Ex X m_Mod_new 18 [.ref (c0 + 16)] [.ref (c0 + 18), .ref (c0 + 16)] (hp c0 19 _ _) _
  refine Hx.put 16 rfl rfl rfl rfl rfl ?_
  refine Ex.nx rfl ?_
  refine Ex.nx rfl ?_
  refine Hx.newi (R := 2002) rfl (by decide) ?_
  show Ex X m_Mod_new 27 [.ref (c0 + 16)] [.ref (c0 + 19), .ref (c0 + 16)] (hp c0 20 _ _) _
  refine Hx.put 16 rfl rfl rfl rfl rfl ?_
  refine Ex.nx rfl ?_
  refine Ex.nx rfl ?_
  refine Hx.newi (R := 2002) rfl (by decide) ?_
  show Ex X m_Mod_new 36 [.ref (c0 + 16)] [.ref (c0 + 20), .ref (c0 + 16)] (hp c0 21 _ _) _
  refine Hx.put 16 rfl rfl rfl rfl rfl ?_
  refine Ex.nx rfl ?_
  refine Ex.nx rfl ?_
  refine Hx.newi (R := 2002) rfl (by decide) ?_
  show Ex X m_Mod_new 45 [.ref (c0 + 16)] [.ref (c0 + 21), .ref (c0 + 16)] (hp c0 22 _ _) _
  refine Hx.put 16 rfl rfl rfl rfl rfl ?_
  refine Ex.nx rfl ?_
  refine Ex.nx rfl ?_
  refine Hx.newi (R := 260) rfl (by decide) ?_
  show Ex X m_Mod_new 54 [.ref (c0 + 16)] [.ref (c0 + 22), .ref (c0 + 16)] (hp c0 23 _ _) _
  refine Hx.put 16 rfl rfl rfl rfl rfl ?_
  refine Ex.nx rfl ?_
  refine Ex.nx rfl ?_
  refine Hx.newi (R := 260) rfl (by decide) ?_
  show Ex X m_Mod_new 63 [.ref (c0 + 16)] [.ref (c0 + 23), .ref (c0 + 16)] (hp c0 24 _ _) _
  refine Hx.put 16 rfl rfl rfl rfl rfl ?_
  refine Ex.nx rfl ?_
  refine Ex.nx rfl ?_
  refine Hx.newi (R := 240) rfl (by decide) ?_
  show Ex X m_Mod_new 72 [.ref (c0 + 16)] [.ref (c0 + 24), .ref (c0 + 16)] (hp c0 25 _ _) _
  refine Hx.put 16 rfl rfl rfl rfl rfl ?_
  refine Ex.nx rfl ?_
  refine Ex.nx rfl ?_
  refine Hx.newi (R := 40) rfl (by decide) ?_
  show Ex X m_Mod_new 80 [.ref (c0 + 16)] [.ref (c0 + 25), .ref (c0 + 16)] (hp c0 26 _ _) _
  refine Hx.put 16 rfl rfl rfl rfl rfl ?_
  exact Ex.ret rfl rfl ⟨rfl, rfl⟩
def fz (c0 : Nat) : Nat → Option va_E := fun k => match k with
  | 0 => some (.inr (5, [.ref (c0 + 1), .ref (c0 + 3), .ref (c0 + 8), .ref (c0 + 9), .ref (c0 + 11)]))
  | 1 => some (.inr (1, [.ref (c0 + 2), .int 0]))
  | 2 => some (.inl (0, 240, .inl (fun _ => 0)))
  | 3 => some (.inr (2, [.int 0, .long 0, .int 0, .ref (c0 + 4), .ref (c0 + 6)]))
  | 4 => some (.inr (1, [.ref (c0 + 5), .int 0]))
  | 5 => some (.inl (0, 64, .inl (fun _ => 0)))
  | 6 => some (.inr (1, [.ref (c0 + 7), .int 0]))
  | 7 => some (.inl (0, 60, .inl (fun _ => 0)))
  | 8 => some (.inr (0, [.ref (c0 + 3), .int 0, .int 0]))
  | 9 => some (.inr (3, [.ref (c0 + 10), .int 0, .int 0]))
  | 10 => some (.inl (2, 2000, .inr (.inr (.inr (.inr (fun _ => none))))))
  | 11 => some (.inr (4, [.ref (c0 + 12), .ref (c0 + 14)]))
  | 12 => some (.inr (1, [.ref (c0 + 13), .int 0]))
  | 13 => some (.inl (0, 194, .inl (fun _ => 0)))
  | 14 => some (.inr (1, [.ref (c0 + 15), .int 0]))
  | 15 => some (.inl (0, 18, .inl (fun _ => 0)))
  | 16 => some (.inr (6, rfs c0 (fun _ => 0)))
  | 17 => some (.inl (1, 240, .inl (fun _ => 0)))
  | 18 => some (.inl (1, 132000, .inl (fun _ => 0)))
  | 19 => some (.inl (1, 2002, .inl (fun _ => 0)))
  | 20 => some (.inl (1, 2002, .inl (fun _ => 0)))
  | 21 => some (.inl (1, 2002, .inl (fun _ => 0)))
  | 22 => some (.inl (1, 260, .inl (fun _ => 0)))
  | 23 => some (.inl (1, 260, .inl (fun _ => 0)))
  | 24 => some (.inl (1, 240, .inl (fun _ => 0)))
  | 25 => some (.inl (1, 40, .inl (fun _ => 0)))
  | _ => none
set_option maxRecDepth 100000 in
set_option maxHeartbeats 4000000 in
theorem fz_eq (c0 : Nat) : va_up (va_up (va_up (va_up (va_up (va_up (va_up (va_up (va_up (va_up (va_up (va_up (va_up (va_up (va_up (va_up (va_up (va_up (va_up (va_up (va_up (va_up (va_up (va_up (va_up (va_up (va_up (va_up (va_up (va_up (va_up (va_up (va_up (va_up (va_up (va_up (va_up (va_up (va_up (va_up (va_up (va_up (va_up (va_up (va_up (va_up (va_up (va_up (va_up (va_up (va_up (va_up ((fun _ => none : Nat → Option va_E)) 0 (some (.inr (5, [.null, .null, .null, .null, .null])))) 1 (some (.inr (1, [.null, .int 0])))) 2 (some (.inl (0, 240, .inl (fun _ => 0))))) 1 (some (.inr (1, [.ref (c0 + 2), .int 0])))) 0 (some (.inr (5, [.ref (c0 + 1), .null, .null, .null, .null])))) 3 (some (.inr (2, [.int 0, .long 0, .int 0, .null, .null])))) 4 (some (.inr (1, [.ref (c0 + 5), .int 0])))) 5 (some (.inl (0, 64, .inl (fun _ => 0))))) 6 (some (.inr (1, [.ref (c0 + 7), .int 0])))) 7 (some (.inl (0, 60, .inl (fun _ => 0))))) 3 (some (.inr (2, [.int 0, .long 0, .int 0, .ref (c0 + 4), .ref (c0 + 6)])))) 0 (some (.inr (5, [.ref (c0 + 1), .ref (c0 + 3), .null, .null, .null])))) 8 (some (.inr (0, [.null, .int 0, .int 0])))) 8 (some (.inr (0, [.ref (c0 + 3), .int 0, .int 0])))) 8 (some (.inr (0, [.ref (c0 + 3), .int 0, .int 0])))) 8 (some (.inr (0, [.ref (c0 + 3), .int 0, .int 0])))) 0 (some (.inr (5, [.ref (c0 + 1), .ref (c0 + 3), .ref (c0 + 8), .null, .null])))) 9 (some (.inr (3, [.null, .int 0, .int 0])))) 10 (some (.inl (2, 2000, .inr (.inr (.inr (.inr (fun _ => none)))))))) 9 (some (.inr (3, [.ref (c0 + 10), .int 0, .int 0])))) 9 (some (.inr (3, [.ref (c0 + 10), .int 0, .int 0])))) 9 (some (.inr (3, [.ref (c0 + 10), .int 0, .int 0])))) 0 (some (.inr (5, [.ref (c0 + 1), .ref (c0 + 3), .ref (c0 + 8), .ref (c0 + 9), .null])))) 11 (some (.inr (4, [.null, .null])))) 12 (some (.inr (1, [.null, .int 0])))) 13 (some (.inl (0, 194, .inl (fun _ => 0))))) 12 (some (.inr (1, [.ref (c0 + 13), .int 0])))) 11 (some (.inr (4, [.ref (c0 + 12), .null])))) 14 (some (.inr (1, [.null, .int 0])))) 15 (some (.inl (0, 18, .inl (fun _ => 0))))) 14 (some (.inr (1, [.ref (c0 + 15), .int 0])))) 11 (some (.inr (4, [.ref (c0 + 12), .ref (c0 + 14)])))) 0 (some (.inr (5, [.ref (c0 + 1), .ref (c0 + 3), .ref (c0 + 8), .ref (c0 + 9), .ref (c0 + 11)])))) 16 (some (.inr (6, [.null, .int 0, .int 0, .null, .null, .null, .null, .int 0, .int 0, .null, .int 0, .int 0, .int 0, .int 0, .null, .int 0, .int 0, .int 0, .int 0, .int 0, .null, .null, .int 0, .int 0])))) 17 (some (.inl (1, 240, .inl (fun _ => 0))))) 16 (some (.inr (6, [.ref (c0 + 17), .int 0, .int 0, .null, .null, .null, .null, .int 0, .int 0, .null, .int 0, .int 0, .int 0, .int 0, .null, .int 0, .int 0, .int 0, .int 0, .int 0, .null, .null, .int 0, .int 0])))) 18 (some (.inl (1, 132000, .inl (fun _ => 0))))) 16 (some (.inr (6, [.ref (c0 + 17), .int 0, .int 0, .ref (c0 + 18), .null, .null, .null, .int 0, .int 0, .null, .int 0, .int 0, .int 0, .int 0, .null, .int 0, .int 0, .int 0, .int 0, .int 0, .null, .null, .int 0, .int 0])))) 19 (some (.inl (1, 2002, .inl (fun _ => 0))))) 16 (some (.inr (6, [.ref (c0 + 17), .int 0, .int 0, .ref (c0 + 18), .ref (c0 + 19), .null, .null, .int 0, .int 0, .null, .int 0, .int 0, .int 0, .int 0, .null, .int 0, .int 0, .int 0, .int 0, .int 0, .null, .null, .int 0, .int 0])))) 20 (some (.inl (1, 2002, .inl (fun _ => 0))))) 16 (some (.inr (6, [.ref (c0 + 17), .int 0, .int 0, .ref (c0 + 18), .ref (c0 + 19), .ref (c0 + 20), .null, .int 0, .int 0, .null, .int 0, .int 0, .int 0, .int 0, .null, .int 0, .int 0, .int 0, .int 0, .int 0, .null, .null, .int 0, .int 0])))) 21 (some (.inl (1, 2002, .inl (fun _ => 0))))) 16 (some (.inr (6, [.ref (c0 + 17), .int 0, .int 0, .ref (c0 + 18), .ref (c0 + 19), .ref (c0 + 20), .ref (c0 + 21), .int 0, .int 0, .null, .int 0, .int 0, .int 0, .int 0, .null, .int 0, .int 0, .int 0, .int 0, .int 0, .null, .null, .int 0, .int 0])))) 22 (some (.inl (1, 260, .inl (fun _ => 0))))) 16 (some (.inr (6, [.ref (c0 + 17), .int 0, .int 0, .ref (c0 + 18), .ref (c0 + 19), .ref (c0 + 20), .ref (c0 + 21), .int 0, .int 0, .ref (c0 + 22), .int 0, .int 0, .int 0, .int 0, .null, .int 0, .int 0, .int 0, .int 0, .int 0, .null, .null, .int 0, .int 0])))) 23 (some (.inl (1, 260, .inl (fun _ => 0))))) 16 (some (.inr (6, [.ref (c0 + 17), .int 0, .int 0, .ref (c0 + 18), .ref (c0 + 19), .ref (c0 + 20), .ref (c0 + 21), .int 0, .int 0, .ref (c0 + 22), .int 0, .int 0, .int 0, .int 0, .ref (c0 + 23), .int 0, .int 0, .int 0, .int 0, .int 0, .null, .null, .int 0, .int 0])))) 24 (some (.inl (1, 240, .inl (fun _ => 0))))) 16 (some (.inr (6, [.ref (c0 + 17), .int 0, .int 0, .ref (c0 + 18), .ref (c0 + 19), .ref (c0 + 20), .ref (c0 + 21), .int 0, .int 0, .ref (c0 + 22), .int 0, .int 0, .int 0, .int 0, .ref (c0 + 23), .int 0, .int 0, .int 0, .int 0, .int 0, .ref (c0 + 24), .null, .int 0, .int 0])))) 25 (some (.inl (1, 40, .inl (fun _ => 0))))) 16 (some (.inr (6, [.ref (c0 + 17), .int 0, .int 0, .ref (c0 + 18), .ref (c0 + 19), .ref (c0 + 20), .ref (c0 + 21), .int 0, .int 0, .ref (c0 + 22), .int 0, .int 0, .int 0, .int 0, .ref (c0 + 23), .int 0, .int 0, .int 0, .int 0, .int 0, .ref (c0 + 24), .ref (c0 + 25), .int 0, .int 0]))) = fz c0 := by
  funext k
  match k with
  | 0 => rfl
  | 1 => rfl
  | 2 => rfl
  | 3 => rfl
  | 4 => rfl
  | 5 => rfl
  | 6 => rfl
  | 7 => rfl
  | 8 => rfl
  | 9 => rfl
  | 10 => rfl
  | 11 => rfl
  | 12 => rfl
  | 13 => rfl
  | 14 => rfl
  | 15 => rfl
  | 16 => rfl
  | 17 => rfl
  | 18 => rfl
  | 19 => rfl
  | 20 => rfl
  | 21 => rfl
  | 22 => rfl
  | 23 => rfl
  | 24 => rfl
  | 25 => rfl
  | k + 26 => simp [va_up, fz]
theorem hp_0 {c0 : Nat} : ((c0, 0, fun _ => none) : ev_H) = hp c0 0 0 (fun _ => none) := by
  unfold hp
  refine congrArg (fun q => (c0, 0, q)) (funext fun o => ?_)
  split <;> rfl
