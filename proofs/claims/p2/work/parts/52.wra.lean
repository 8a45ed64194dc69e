/-! The class writes. (rows laid by wip/whole/wr1.py) -/
/-- the writer's rows: out holds o, digits holds d -/
def WR (c0 : Nat) (F0 : Nat → Option va_E) (o d : List Nat) (F : Nat → Option va_E) : Prop := (∀ q, (q < 12 ∨ 15 < q) → F q = F0 q) ∧ rowL c0 F 12 13 194 o ∧ rowL c0 F 14 15 18 d
def W11 (c0 : Nat) (F0 : Nat → Option va_E) : Prop := F0 11 = some (.inr (4, [.ref (c0 + 12), .ref (c0 + 14)]))
section WRR
variable {X : ev_X} {c0 n z M pc nx a b w idx : Nat} {A r st : List Value} {F F0 : Nat → Option va_E} {Q : Option Value → ev_H → Prop} {o d : List Nat}
theorem WR.r11 (h0 : W11 c0 F0) (h : WR c0 F0 o d F) : F 11 = some (.inr (4, [.ref (c0 + 12), .ref (c0 + 14)])) := (h.1 11 (by decide)).trans h0
theorem WR.uo {F1 : Nat → Option va_E} {o1 : List Nat} (h : WR c0 F0 o d F) (h1 : rowL c0 F1 12 13 194 o1) (h2 : ∀ j, j ≠ 12 → j ≠ 13 → F1 j = F j) : WR c0 F0 o1 d F1 := ⟨fun q hq => (h2 q (by omega) (by omega)).trans (h.1 q hq), h1, h.2.2.fr (h2 _ (by decide) (by decide)) (h2 _ (by decide) (by decide))⟩
theorem WR.ud {F1 : Nat → Option va_E} {d1 : List Nat} (h : WR c0 F0 o d F) (h1 : rowL c0 F1 14 15 18 d1) (h2 : ∀ j, j ≠ 14 → j ≠ 15 → F1 j = F j) : WR c0 F0 o d1 F1 := ⟨fun q hq => (h2 q (by omega) (by omega)).trans (h.1 q hq), h.2.1.fr (h2 _ (by decide) (by decide)) (h2 _ (by decide) (by decide)), h1⟩
theorem WR.ado {x : Nat} (h : WR c0 F0 o d F) (hx : x < 256) (hl : o.length < 194) (op : pg_ops M pc = some (.invokevirtual idx, nx, 10, b, w)) (ha : ev_argI (pg_n 10) st = some (c0 + 12, [.int (nI x)], r)) (k : ∀ F1, WR c0 F0 (o ++ [x]) d F1 → Ex X M nx A r (hp c0 n z F1) Q) : Ex X M pc A st (hp c0 n z F) Q :=
  Hx.rowc h.2.1 op ha rfl rfl (rl_add h.2.1 (by decide) (by decide) x hx hl) (fun v h1 ⟨e1, F1, e2, e3, e4⟩ => by rw [e1, e2]; exact k F1 (h.uo e3 e4))
theorem WR.add {x : Nat} (h : WR c0 F0 o d F) (hx : x < 256) (hl : d.length < 18) (op : pg_ops M pc = some (.invokevirtual idx, nx, 10, b, w)) (ha : ev_argI (pg_n 10) st = some (c0 + 14, [.int (nI x)], r)) (k : ∀ F1, WR c0 F0 o (d ++ [x]) F1 → Ex X M nx A r (hp c0 n z F1) Q) : Ex X M pc A st (hp c0 n z F) Q :=
  Hx.rowc h.2.2 op ha rfl rfl (rl_add h.2.2 (by decide) (by decide) x hx hl) (fun v h1 ⟨e1, F1, e2, e3, e4⟩ => by rw [e1, e2]; exact k F1 (h.ud e3 e4))
theorem WR.clo (h : WR c0 F0 o d F) (op : pg_ops M pc = some (.invokevirtual idx, nx, 14, b, w)) (ha : ev_argI (pg_n 14) st = some (c0 + 12, [], r)) (k : ∀ F1, WR c0 F0 [] d F1 → Ex X M nx A r (hp c0 n z F1) Q) : Ex X M pc A st (hp c0 n z F) Q :=
  Hx.rowc h.2.1 op ha rfl rfl (rl_clear h.2.1 (by decide)) (fun v h1 ⟨e1, F1, e2, e3, e4⟩ => by rw [e1, e2]; exact k F1 (h.uo e3 e4))
theorem WR.cld (h : WR c0 F0 o d F) (op : pg_ops M pc = some (.invokevirtual idx, nx, 14, b, w)) (ha : ev_argI (pg_n 14) st = some (c0 + 14, [], r)) (k : ∀ F1, WR c0 F0 o [] F1 → Ex X M nx A r (hp c0 n z F1) Q) : Ex X M pc A st (hp c0 n z F) Q :=
  Hx.rowc h.2.2 op ha rfl rfl (rl_clear h.2.2 (by decide)) (fun v h1 ⟨e1, F1, e2, e3, e4⟩ => by rw [e1, e2]; exact k F1 (h.ud e3 e4))
/-- a row beside the writer's -/
theorem WR.ada {j ja N1 : Nat} {m : List Nat} (h : WR c0 F0 o d F) (g : rowL c0 F0 j ja N1 m) (hN1 : N1 ≤ 1000) (hj : j < 12 ∨ 15 < j) (hja : ja < 12 ∨ 15 < ja) (hl : o.length + m.length ≤ 194) (op : pg_ops M pc = some (.invokevirtual idx, nx, 60, b, w)) (ha : ev_argI (pg_n 60) st = some (c0 + 12, [.ref (c0 + j)], r)) (k : ∀ F1, WR c0 F0 (o ++ m) d F1 → Ex X M nx A r (hp c0 n z F1) Q) : Ex X M pc A st (hp c0 n z F) Q :=
  Hx.rowc h.2.1 op ha rfl rfl (rl_addAll (by decide) hN1 (by decide) (by omega) (by omega) (by omega) (by omega) hl h.2.1 (g.fr (h.1 j hj) (h.1 ja hja))) (fun v h1 ⟨e1, F1, e2, e3, e4⟩ => by rw [e1, e2]; exact k F1 (h.uo e3 e4))
end WRR
theorem wl_ls : True := trivial
theorem wln_0 : wlen 0 = 4 := by decide
theorem wln_1 : wlen 1 = 5 := by decide
theorem wln_2 : wlen 2 = 4 := by decide
theorem wln_3 : wlen 3 = 5 := by decide
theorem wln_4 : wlen 4 = 7 := by decide
theorem wln_5 : wlen 5 = 5 := by decide
theorem wln_6 : wlen 6 = 2 := by decide
theorem wln_7 : wlen 7 = 2 := by decide
theorem wln_8 : wlen 8 = 2 := by decide
theorem wln_9 : wlen 9 = 2 := by decide
theorem wln_10 : wlen 10 = 2 := by decide
theorem wln_11 : wlen 11 = 2 := by decide
set_option maxRecDepth 100000 in
set_option maxHeartbeats 2000000 in
theorem wr_wd_l {X : ev_X} {c0 n z : Nat} (hS : XS X c0) {F0 : Nat → Option va_E} {k : Nat} (hk : k < 12) {o d : List Nat} (hl : o.length + wlen k ≤ 194) : ∀ (m i : Nat) (F : Nat → Option va_E) (hm : i + m = wlen k) (hW : WR c0 F0 (o ++ (wl k).take i) d F), Ex X m_Row_addWord 2 [.ref (c0 + 12), .ref (X.2.1 k), .int (nI i)] [] (hp c0 n z F) (fun rr h' => rr = none ∧ ∃ F1, h' = hp c0 n z F1 ∧ WR c0 F0 (o ++ wl k) (d) F1) := by
  have hw := wlen_all k hk
  intro m
  induction m with
  | zero =>
    intro i F hm hW
    refine Ex.nx rfl ?_
    refine Ex.nx rfl ?_
    refine Hx.scl hS hk lo_hp rfl rfl rfl rfl (hs_length hS lo_hp hk) ?_
    rintro v h1 ⟨rfl, rfl⟩
    show Ex X m_Row_addWord 7 [.ref (c0 + 12), .ref (X.2.1 k), .int (nI i)] [.int (nI (wlen k)), .int (nI i)] (hp c0 n _ _) _
    refine Ex.nx rfl ?_
    refine Ex.ite (fun c1 => ?_) (fun c1 => ?_)
    · replace c1 : (nI (wlen k)) ≤ (nI i) := of_decide_eq_true c1
      show Ex X m_Row_addWord 25 [.ref (c0 + 12), .ref (X.2.1 k), .int (nI i)] [] (hp c0 n _ _) _
      exact Ex.ret rfl rfl ⟨rfl, F, rfl, by rw [show i = wlen k by omega, ← wl_len, List.take_length] at hW; exact hW⟩
    · replace c1 : ¬ (nI (wlen k)) ≤ (nI i) := of_decide_eq_false c1
      exact absurd (show nI (wlen k) ≤ nI i by rw [show i = wlen k by omega]; exact Int32.le_refl _) c1
  | succ m ih =>
    intro i F hm hW
    refine Ex.nx rfl ?_
    refine Ex.nx rfl ?_
    refine Hx.scl hS hk lo_hp rfl rfl rfl rfl (hs_length hS lo_hp hk) ?_
    rintro v h1 ⟨rfl, rfl⟩
    show Ex X m_Row_addWord 7 [.ref (c0 + 12), .ref (X.2.1 k), .int (nI i)] [.int (nI (wlen k)), .int (nI i)] (hp c0 n _ _) _
    refine Ex.nx rfl ?_
    refine Ex.ite (fun c1 => ?_) (fun c1 => ?_)
    · replace c1 : (nI (wlen k)) ≤ (nI i) := of_decide_eq_true c1
      exact absurd ((nI_leI (by omega) (by omega)).mp c1) (by omega)
    · replace c1 : ¬ (nI (wlen k)) ≤ (nI i) := of_decide_eq_false c1
      show Ex X m_Row_addWord 10 [.ref (c0 + 12), .ref (X.2.1 k), .int (nI i)] [] (hp c0 n _ _) _
      refine Ex.nx rfl ?_
      refine Ex.nx rfl ?_
      refine Ex.nx rfl ?_
      refine Hx.scl hS hk lo_hp rfl rfl rfl rfl (hs_char hS lo_hp hk (j := i) (by omega)) ?_
      rintro v h1 ⟨rfl, rfl⟩
      show Ex X m_Row_addWord 16 [.ref (c0 + 12), .ref (X.2.1 k), .int (nI i)] [.int (nI (wch k i)), .ref (c0 + 12)] (hp c0 n _ _) _
      refine WR.ado (x := (wch k i)) hW (wch_all k hk i (by omega)).2 (by simp only [List.length_append, List.length_take, wl_len]; omega) rfl rfl ?_
      intro F1 hW1
      show Ex X m_Row_addWord 19 [.ref (c0 + 12), .ref (X.2.1 k), .int (nI i)] [] (hp c0 n _ _) _
      refine Ex.nx rfl ?_
      show Ex X m_Row_addWord 22 [.ref (c0 + 12), .ref (X.2.1 k), .int ((nI i) + 1)] [] (hp c0 n _ _) _
      refine Ex.nx rfl ?_
      show Ex X m_Row_addWord 2 [.ref (c0 + 12), .ref (X.2.1 k), .int ((nI i) + 1)] [] (hp c0 n _ _) _
      rw [show nI i + 1 = nI (i + 1) from nI_1 i]
      have e := take_s (m := wl k) (i := i) (by rw [wl_len]; omega)
      rw [wl_get (by omega)] at e
      refine ih (i + 1) _ (by omega) ?_
      rw [← e, ← List.append_assoc]
      exact hW1
set_option maxRecDepth 100000 in
set_option maxHeartbeats 2000000 in
theorem wr_word {X : ev_X} {c0 n z : Nat} (hS : XS X c0) {F0 : Nat → Option va_E} {k : Nat} (hk : k < 12) {o d : List Nat} {F : Nat → Option va_E} (hW : WR c0 F0 o d F) (hl : o.length + wlen k ≤ 194) : Ex X m_Row_addWord 0 [.ref (c0 + 12), .ref (X.2.1 k), ev_dead] [] (hp c0 n z F) (fun rr h' => rr = none ∧ ∃ F1, h' = hp c0 n z F1 ∧ WR c0 F0 (o ++ wl k) (d) F1) := by
  refine Ex.nx rfl ?_
  refine Ex.nx rfl ?_
  show Ex X m_Row_addWord 2 [.ref (c0 + 12), .ref (X.2.1 k), .int 0] [] (hp c0 n _ _) _
  show Ex X m_Row_addWord 2 [.ref (c0 + 12), .ref (X.2.1 k), .int 0] [] (hp c0 n _ _) _
  exact wr_wd_l hS hk hl (wlen k) 0 F (by omega) (by rw [List.take_zero, List.append_nil]; exact hW)
set_option maxRecDepth 100000 in
set_option maxHeartbeats 2000000 in
theorem wr_name {X : ev_X} {c0 n z : Nat} {F0 : Nat → Option va_E} (h0 : W11 c0 F0) {o d : List Nat} {F : Nat → Option va_E} {j ja N1 : Nat} {m : List Nat} (hW : WR c0 F0 o d F) (g : rowL c0 F0 j ja N1 m) (hN1 : N1 ≤ 1000) (hj : j < 12 ∨ 15 < j) (hja : ja < 12 ∨ 15 < ja) (hl : o.length + m.length + 2 ≤ 194) : Ex X m_Writer_addName 0 [.ref (c0 + 11), .ref (c0 + j)] [] (hp c0 n z F) (fun rr h' => rr = none ∧ ∃ F1, h' = hp c0 n z F1 ∧ WR c0 F0 (o ++ ([60] ++ m ++ [62])) (d) F1) := by
  refine Ex.nx rfl ?_
  refine Hx.get 11 rfl (WR.r11 h0 hW) rfl ?_
  refine Ex.nx rfl ?_
  refine WR.ado (x := 60) hW (by decide) (by first | omega | (simp only [List.length_append, List.length_cons, List.length_nil, wl_len, wln_6]; omega)) rfl rfl ?_
  intro F2 hW2
  show Ex X m_Writer_addName 9 [.ref (c0 + 11), .ref (c0 + j)] [] (hp c0 n _ _) _
  refine Ex.nx rfl ?_
  refine Hx.get 11 rfl (WR.r11 h0 hW2) rfl ?_
  refine Ex.nx rfl ?_
  refine WR.ada hW2 g hN1 hj hja (by first | omega | (simp only [List.length_append, List.length_cons, List.length_nil, wl_len, wln_6]; omega)) rfl rfl ?_
  intro F3 hW3
  show Ex X m_Writer_addName 17 [.ref (c0 + 11), .ref (c0 + j)] [] (hp c0 n _ _) _
  refine Ex.nx rfl ?_
  refine Hx.get 11 rfl (WR.r11 h0 hW3) rfl ?_
  refine Ex.nx rfl ?_
  refine WR.ado (x := 62) hW3 (by decide) (by first | omega | (simp only [List.length_append, List.length_cons, List.length_nil, wl_len, wln_6]; omega)) rfl rfl ?_
  intro F4 hW4
  show Ex X m_Writer_addName 26 [.ref (c0 + 11), .ref (c0 + j)] [] (hp c0 n _ _) _
  exact Ex.ret rfl rfl ⟨rfl, _, rfl, by rw [show o ++ ([60] ++ m ++ [62]) = (((o ++ [60]) ++ m) ++ [62]) by simp]; exact hW4⟩
def esW (b : Nat) : List Nat := if b = 9 then wl 10 else if b = 10 then wl 8 else if b = 13 then wl 9 else if b = 34 then [92, 34] else if b = 92 then [92, 92] else [b]
theorem esW_len (b : Nat) : (esW b).length ≤ 2 := by
  unfold esW
  repeat' split
  all_goals first | decide | (rw [wl_len]; decide) | simp
theorem nI_lit {b n : Nat} {y : Int32} (hy : y = nI n) (hb : b < 2 ^ 31) (hn : n < 2 ^ 31) (h : nI b = y) : b = n := (nI_eq hb hn).mp (h.trans hy)
theorem nI_nlit {b n : Nat} {y : Int32} (hy : y = nI n) (h : ¬ nI b = y) : ¬ b = n := fun e => h (by rw [e, hy])
set_option maxRecDepth 100000 in
set_option maxHeartbeats 2000000 in
theorem wr_item {X : ev_X} {c0 n z : Nat} {F0 : Nat → Option va_E} (h0 : W11 c0 F0) (hS : XS X c0) {o d : List Nat} {F : Nat → Option va_E} {b : Nat} (hb : b < 256) (hW : WR c0 F0 o d F) (hl : o.length + 2 ≤ 194) : Ex X m_Writer_addItem 0 [.ref (c0 + 11), .int (nI b)] [] (hp c0 n z F) (fun rr h' => rr = none ∧ ∃ F1, h' = hp c0 n z F1 ∧ WR c0 F0 (o ++ esW b) (d) F1) := by
  refine Ex.nx rfl ?_
  by_cases e1 : (nI b) = 9
  · refine Hx.top (y := 9) e1 ?_
    refine Ex.nx rfl ?_
    show Ex X m_Writer_addItem 76 [.ref (c0 + 11), .int (nI b)] [] (hp c0 n _ _) _
    refine Ex.nx rfl ?_
    refine Hx.get 11 rfl (WR.r11 h0 hW) rfl ?_
    refine Ex.nx rfl ?_
    refine Hx.rowc hW.2.1 rfl rfl rfl rfl (wr_word hS (k := 10) (by decide) hW (by first | (have := wl_ls; simp only [List.length_append, List.length_cons, List.length_nil, wl_len]; omega) | (simp only [List.length_append, List.length_cons, List.length_nil, wl_len, wln_10]; omega) | (rw [wln_10]; omega))) ?_
    rintro v hh ⟨rfl, F5, rfl, hW5⟩
    show Ex X m_Writer_addItem 85 [.ref (c0 + 11), .int (nI b)] [] (hp c0 n _ _) _
    refine Ex.nx rfl ?_
    exact Ex.ret rfl rfl ⟨rfl, _, rfl, by rw [esW, if_pos (nI_lit (n := 9) rfl (by omega) (by decide) e1)]; simpa using hW5⟩
  by_cases e2 : (nI b) = 10
  · refine Hx.top (y := 10) e2 ?_
    refine Ex.nx rfl ?_
    show Ex X m_Writer_addItem 52 [.ref (c0 + 11), .int (nI b)] [] (hp c0 n _ _) _
    refine Ex.nx rfl ?_
    refine Hx.get 11 rfl (WR.r11 h0 hW) rfl ?_
    refine Ex.nx rfl ?_
    refine Hx.rowc hW.2.1 rfl rfl rfl rfl (wr_word hS (k := 8) (by decide) hW (by first | (have := wl_ls; simp only [List.length_append, List.length_cons, List.length_nil, wl_len]; omega) | (simp only [List.length_append, List.length_cons, List.length_nil, wl_len, wln_8]; omega) | (rw [wln_8]; omega))) ?_
    rintro v hh ⟨rfl, F6, rfl, hW6⟩
    show Ex X m_Writer_addItem 61 [.ref (c0 + 11), .int (nI b)] [] (hp c0 n _ _) _
    refine Ex.nx rfl ?_
    exact Ex.ret rfl rfl ⟨rfl, _, rfl, by rw [esW, if_neg (nI_nlit (n := 9) rfl e1), if_pos (nI_lit (n := 10) rfl (by omega) (by decide) e2)]; simpa using hW6⟩
  by_cases e3 : (nI b) = 13
  · refine Hx.top (y := 13) e3 ?_
    refine Ex.nx rfl ?_
    show Ex X m_Writer_addItem 64 [.ref (c0 + 11), .int (nI b)] [] (hp c0 n _ _) _
    refine Ex.nx rfl ?_
    refine Hx.get 11 rfl (WR.r11 h0 hW) rfl ?_
    refine Ex.nx rfl ?_
    refine Hx.rowc hW.2.1 rfl rfl rfl rfl (wr_word hS (k := 9) (by decide) hW (by first | (have := wl_ls; simp only [List.length_append, List.length_cons, List.length_nil, wl_len]; omega) | (simp only [List.length_append, List.length_cons, List.length_nil, wl_len, wln_9]; omega) | (rw [wln_9]; omega))) ?_
    rintro v hh ⟨rfl, F7, rfl, hW7⟩
    show Ex X m_Writer_addItem 73 [.ref (c0 + 11), .int (nI b)] [] (hp c0 n _ _) _
    refine Ex.nx rfl ?_
    exact Ex.ret rfl rfl ⟨rfl, _, rfl, by rw [esW, if_neg (nI_nlit (n := 9) rfl e1), if_neg (nI_nlit (n := 10) rfl e2), if_pos (nI_lit (n := 13) rfl (by omega) (by decide) e3)]; simpa using hW7⟩
  by_cases e4 : (nI b) = 34
  · refine Hx.top (y := 34) e4 ?_
    refine Ex.nx rfl ?_
    show Ex X m_Writer_addItem 88 [.ref (c0 + 11), .int (nI b)] [] (hp c0 n _ _) _
    refine Ex.nx rfl ?_
    refine Hx.get 11 rfl (WR.r11 h0 hW) rfl ?_
    refine Ex.nx rfl ?_
    refine WR.ado (x := 92) hW (by decide) (by first | omega | (simp only [List.length_append, List.length_cons, List.length_nil]; omega)) rfl rfl ?_
    intro F8 hW8
    show Ex X m_Writer_addItem 97 [.ref (c0 + 11), .int (nI b)] [] (hp c0 n _ _) _
    refine Ex.nx rfl ?_
    refine Hx.get 11 rfl (WR.r11 h0 hW8) rfl ?_
    refine Ex.nx rfl ?_
    refine WR.ado (x := b) hW8 hb (by first | omega | (simp only [List.length_append, List.length_cons, List.length_nil]; omega)) rfl rfl ?_
    intro F9 hW9
    show Ex X m_Writer_addItem 105 [.ref (c0 + 11), .int (nI b)] [] (hp c0 n _ _) _
    refine Ex.nx rfl ?_
    exact Ex.ret rfl rfl ⟨rfl, _, rfl, by have eb := nI_lit (n := 34) rfl (by omega) (by decide) e4; rw [esW, if_neg (nI_nlit (n := 9) rfl e1), if_neg (nI_nlit (n := 10) rfl e2), if_neg (nI_nlit (n := 13) rfl e3), if_pos (nI_lit (n := 34) rfl (by omega) (by decide) e4)]; simpa [eb] using hW9⟩
  by_cases e5 : (nI b) = 92
  · refine Hx.top (y := 92) e5 ?_
    refine Ex.nx rfl ?_
    show Ex X m_Writer_addItem 88 [.ref (c0 + 11), .int (nI b)] [] (hp c0 n _ _) _
    refine Ex.nx rfl ?_
    refine Hx.get 11 rfl (WR.r11 h0 hW) rfl ?_
    refine Ex.nx rfl ?_
    refine WR.ado (x := 92) hW (by decide) (by first | omega | (simp only [List.length_append, List.length_cons, List.length_nil]; omega)) rfl rfl ?_
    intro F10 hW10
    show Ex X m_Writer_addItem 97 [.ref (c0 + 11), .int (nI b)] [] (hp c0 n _ _) _
    refine Ex.nx rfl ?_
    refine Hx.get 11 rfl (WR.r11 h0 hW10) rfl ?_
    refine Ex.nx rfl ?_
    refine WR.ado (x := b) hW10 hb (by first | omega | (simp only [List.length_append, List.length_cons, List.length_nil]; omega)) rfl rfl ?_
    intro F11 hW11
    show Ex X m_Writer_addItem 105 [.ref (c0 + 11), .int (nI b)] [] (hp c0 n _ _) _
    refine Ex.nx rfl ?_
    exact Ex.ret rfl rfl ⟨rfl, _, rfl, by have eb := nI_lit (n := 92) rfl (by omega) (by decide) e5; rw [esW, if_neg (nI_nlit (n := 9) rfl e1), if_neg (nI_nlit (n := 10) rfl e2), if_neg (nI_nlit (n := 13) rfl e3), if_neg (nI_nlit (n := 34) rfl e4), if_pos (nI_lit (n := 92) rfl (by omega) (by decide) e5)]; simpa [eb] using hW11⟩
  refine Hx.lsw (off := 107) rfl rfl ((lv_osw e1 rfl).trans ((lv_osw e2 rfl).trans ((lv_osw e3 rfl).trans ((lv_osw e4 rfl).trans ((lv_osw e5 rfl).trans rfl))))) (by decide) ?_
  show Ex X m_Writer_addItem 108 [.ref (c0 + 11), .int (nI b)] [] (hp c0 n _ _) _
  refine Ex.nx rfl ?_
  refine Hx.get 11 rfl (WR.r11 h0 hW) rfl ?_
  refine Ex.nx rfl ?_
  refine WR.ado (x := b) hW hb (by first | omega | (simp only [List.length_append, List.length_cons, List.length_nil]; omega)) rfl rfl ?_
  intro F12 hW12
  show Ex X m_Writer_addItem 116 [.ref (c0 + 11), .int (nI b)] [] (hp c0 n _ _) _
  exact Ex.ret rfl rfl ⟨rfl, _, rfl, by rw [esW, if_neg (nI_nlit (n := 9) rfl e1), if_neg (nI_nlit (n := 10) rfl e2), if_neg (nI_nlit (n := 13) rfl e3), if_neg (nI_nlit (n := 34) rfl e4), if_neg (nI_nlit (n := 92) rfl e5)]; simpa using hW12⟩
