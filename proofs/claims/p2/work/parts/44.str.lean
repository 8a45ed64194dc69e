/-! The String constants. (rows laid by wip/whole/str1.py) -/
/-- what is known of the String constants -/
def XS (X : ev_X) (c0 : Nat) : Prop := (∀ k, k < 12 → X.2.1 k < c0 ∧ X.2.2.1 k < c0 ∧ X.2.2.2.1 (X.2.1 k) = some k ∧ (∃ k', X.2.2.2.2.1 (X.2.2.1 k) = some k' ∧ pg_byt.getD k' [] = pg_byt.getD k []) ∧ X.2.2.1 k ≠ X.1.1) ∧ (X.2.2.2.2.2 = .null ∨ ∃ t, X.2.2.2.2.2 = .ref t)
def lo0 (c0 : Nat) (h : ev_H) : Prop := ∀ o, o < c0 → h.2.2 o = none
theorem lo_hp {c0 n z : Nat} {F : Nat → Option va_E} : lo0 c0 (hp c0 n z F) := fun _ ho => hp_lo ho
section STR
variable {X : ev_X} {c0 M pc nx a b w idx : Nat} {A r : List Value} {h : ev_H} {Q : Option Value → ev_H → Prop} {k : Nat}
theorem Hx.sg0 (hS : XS X c0) (hk : k < 12) (hl : lo0 c0 h) (o : pg_ops M pc = some (.getfield idx, nx, 90, 0, w)) (kk : Ex X M nx A (.ref (X.2.2.1 k) :: r) h Q) : Ex X M pc A (.ref (X.2.1 k) :: r) h Q := by
  obtain ⟨h1, -, h3, -⟩ := hS.1 k hk
  exact Ex.hp o rfl rfl rfl rfl rfl (by simp only [ev_hp, ev_get, hl _ h1, h3]; rfl) kk
theorem Hx.sg1 (hS : XS X c0) (hk : k < 12) (hl : lo0 c0 h) (o : pg_ops M pc = some (.getfield idx, nx, 90, 1, w)) (kk : Ex X M nx A (.int 0 :: r) h Q) : Ex X M pc A (.ref (X.2.1 k) :: r) h Q := by
  obtain ⟨h1, -, h3, -⟩ := hS.1 k hk
  exact Ex.hp o rfl rfl rfl rfl rfl (by simp only [ev_hp, ev_get, hl _ h1, h3]; rfl) kk
theorem Hx.slen2 (hS : XS X c0) (hk : k < 12) (hl : lo0 c0 h) (o : pg_ops M pc = some (.arraylength, nx, a, b, w)) (kk : Ex X M nx A (.int (nI (pg_byt.getD k []).length) :: r) h Q) : Ex X M pc A (.ref (X.2.2.1 k) :: r) h Q := by
  obtain ⟨-, h2, -, ⟨k', h4, h5⟩, h6⟩ := hS.1 k hk
  exact Ex.hp o rfl rfl rfl rfl rfl (by simp only [ev_hp, ev_alen, hl _ h2, if_neg h6, h4, h5]; rfl) kk
theorem Hx.sbal {j : Nat} (hS : XS X c0) (hk : k < 12) (hl : lo0 c0 h) (hj : j < (pg_byt.getD k []).length) (hj2 : j < 2 ^ 31) (o : pg_ops M pc = some (.baload, nx, a, b, w)) (kk : Ex X M nx A (.int ((pg_byt.getD k []).getD j 0) :: r) h Q) : Ex X M pc A (.int (nI j) :: .ref (X.2.2.1 k) :: r) h Q := by
  obtain ⟨-, h2, -, ⟨k', h4, h5⟩, h6⟩ := hS.1 k hk
  refine Ex.hp (st' := .int ((pg_byt.getD k []).getD j 0) :: r) (h' := h) o rfl rfl rfl rfl rfl ?_ kk
  simp only [ev_hp, ev_bald, hl _ h2, h4, h5]
  rw [nI_clamp hj2, if_pos]
  rintro (q | q)
  · exact nI_pos hj2 q
  · omega
theorem Hx.scl {as st A0 : List Value} {Q1 : Option Value → ev_H → Prop} (hS : XS X c0) (hk : k < 12) (hl : lo0 c0 h) (o : pg_ops M pc = some (.invokevirtual idx, nx, a, b, w)) (ha : ev_argI (pg_n a) st = some (X.2.1 k, as, r)) (hc : pg_c a = 90) (he : ev_ent (pg_L a) (.ref (X.2.1 k) :: as) = some A0) (k1 : Ex X a 0 A0 [] h Q1) (k2 : ∀ v h1, Q1 v h1 → Ex X M nx A (v.toList ++ r) h1 Q) : Ex X M pc A st h Q := by
  obtain ⟨h1, -, h3, -⟩ := hS.1 k hk
  refine Ex.call (rest := r) o rfl ?_ he k1 k2
  have hrc : ev_rcv X h (X.2.1 k) (pg_c a) = true := by unfold ev_rcv; rw [hl _ h1, hc, h3]; rfl
  simp only [ev_cal, ha, hrc, if_true]
theorem Hx.sst {as st A0 : List Value} {Q1 : Option Value → ev_H → Prop} (o : pg_ops M pc = some (.invokestatic idx, nx, a, b, w)) (hs : (decide (a ∈ pg_sp)) = false) (ha : ev_argS (pg_n a) st = some (as, r)) (he : ev_ent (pg_L a) as = some A0) (k1 : Ex X a 0 A0 [] h Q1) (k2 : ∀ v h1, Q1 v h1 → Ex X M nx A (v.toList ++ r) h1 Q) : Ex X M pc A st h Q := by
  refine Ex.call (rest := r) o rfl ?_ he k1 k2
  simp only [ev_cal, if_neg (of_decide_eq_false hs), ha]
end STR
/-- the length and the chars of constant k -/
def wlen (k : Nat) : Nat := (pg_byt.getD k []).length
def wch (k j : Nat) : Nat := ((pg_byt.getD k []).getD j 0).toNatClampNeg
set_option maxRecDepth 100000 in
theorem wch_all : ∀ k, k < 12 → ∀ j, j < wlen k → (((pg_byt.getD k []).getD j 0 &&& 255).toUInt32 % 65536).toInt32 = nI (wch k j) ∧ wch k j < 256 := by decide +kernel
theorem wlen_all : ∀ k, k < 12 → wlen k < 10 := by decide +kernel
set_option maxRecDepth 100000 in
theorem sh_0 : ∀ k, k < 12 → (nI (pg_byt.getD k []).length >>> ((0 : Int32) &&& 31)) = nI ((pg_byt.getD k []).length) := by decide +kernel
set_option maxRecDepth 100000 in
theorem ch_ret : ∀ b : Nat, b < 256 → ev_ret m_StringLatin1_charAt .ireturn [.int (nI b)] = some (some (.int (nI b))) := by
  intro b hb
  have e : ∀ b : Nat, b < 256 → narrow .char (.int (nI b)) = .int (nI b) := by decide +kernel
  show (if narrow .char (.int (nI b)) = .int (nI b) then some (some (Value.int (nI b))) else none) = _
  rw [if_pos (e b hb)]
theorem ch_ret2 : ∀ b : Nat, b < 256 → ev_ret m_String_charAt .ireturn [.int (nI b)] = some (some (.int (nI b))) := ch_ret
set_option maxRecDepth 100000 in
set_option maxHeartbeats 2000000 in
theorem hs_coder {X : ev_X} {c0 : Nat} {h : ev_H} (hS : XS X c0) (hl : lo0 c0 h) {k : Nat} (hk : k < 12) : Ex X m_String_coder 0 [.ref (X.2.1 k)] [] h (fun r h' => r = some (.int 0) ∧ h' = h) := by
  refine Ex.nx rfl ?_
  refine Ex.nx rfl ?_
  refine Ex.nx rfl ?_
  refine Hx.sg1 hS hk hl rfl ?_
  refine Ex.nx rfl ?_
  exact Ex.ret rfl rfl ⟨rfl, rfl⟩
set_option maxRecDepth 100000 in
set_option maxHeartbeats 2000000 in
theorem hs_length {X : ev_X} {c0 : Nat} {h : ev_H} (hS : XS X c0) (hl : lo0 c0 h) {k : Nat} (hk : k < 12) : Ex X m_String_length 0 [.ref (X.2.1 k)] [] h (fun r h' => r = some (.int (nI (wlen k))) ∧ h' = h) := by
  refine Ex.nx rfl ?_
  refine Hx.sg0 hS hk hl rfl ?_
  refine Hx.slen2 hS hk hl rfl ?_
  refine Ex.nx rfl ?_
  refine Hx.scl hS hk hl rfl rfl rfl rfl (hs_coder hS hl hk) ?_
  rintro v h1 ⟨rfl, rfl⟩
  refine Ex.nx rfl ?_
  exact Ex.ret rfl (ev_reti rfl) ⟨by rw [show (nI (pg_byt.getD k []).length >>> ((0 : Int32) &&& 31)) = nI (wlen k) from sh_0 k hk], rfl⟩
set_option maxRecDepth 100000 in
set_option maxHeartbeats 2000000 in
theorem hs_latin {X : ev_X} {c0 : Nat} {h : ev_H} (hS : XS X c0) (hl : lo0 c0 h) {k : Nat} (hk : k < 12) : Ex X m_String_isLatin1 0 [.ref (X.2.1 k)] [] h (fun r h' => r = some (.int 1) ∧ h' = h) := by
  refine Ex.nx rfl ?_
  refine Ex.nx rfl ?_
  refine Ex.nx rfl ?_
  refine Hx.sg1 hS hk hl rfl ?_
  refine Ex.nx rfl ?_
  refine Ex.nx rfl ?_
  refine Ex.nx rfl ?_
  exact Ex.ret rfl rfl ⟨rfl, rfl⟩
set_option maxRecDepth 100000 in
set_option maxHeartbeats 2000000 in
theorem hs_chk {X : ev_X} {h : ev_H} {j m : Nat} (fm : Value) (hj : j < m) (hm : m < 2 ^ 31) : Ex X m_Preconditions_checkIndex 0 [.int (nI j), .int (nI m), fm] [] h (fun r h' => r = some (.int (nI j)) ∧ h' = h) := by
  refine Ex.nx rfl ?_
  refine Ex.nx rfl ?_
  refine Ex.ite (fun c => ?_) (fun c => ?_)
  · exact absurd (of_decide_eq_true c) (nI_pos (by omega))
  refine Ex.nx rfl ?_
  refine Ex.nx rfl ?_
  refine Ex.nx rfl ?_
  refine Ex.ite (fun c => ?_) (fun c => ?_)
  · refine Ex.nx rfl ?_
    exact Ex.ret rfl (ev_reti rfl) ⟨rfl, rfl⟩
  · exact absurd (nI_lt hj hm) (of_decide_eq_false c)
set_option maxRecDepth 100000 in
set_option maxHeartbeats 2000000 in
theorem hs_chk2 {X : ev_X} {c0 : Nat} {h : ev_H} (hS : XS X c0) {j m : Nat} (hj : j < m) (hm : m < 2 ^ 31) : Ex X m_String_checkIndex 0 [.int (nI j), .int (nI m)] [] h (fun r h' => r = none ∧ h' = h) := by
  refine Ex.nx rfl ?_
  refine Ex.nx rfl ?_
  refine Ex.nx rfl ?_
  refine Hx.sst rfl rfl (as := [.int (nI j), .int (nI m), X.2.2.2.2.2]) (r := []) rfl (by rcases hS.2 with e | ⟨t, e⟩ <;> rw [e] <;> rfl) (hs_chk X.2.2.2.2.2 hj hm) ?_
  rintro v h1 ⟨rfl, rfl⟩
  refine Ex.nx rfl ?_
  exact Ex.ret rfl rfl ⟨rfl, rfl⟩
set_option maxRecDepth 100000 in
set_option maxHeartbeats 2000000 in
theorem hs_lchar {X : ev_X} {c0 : Nat} {h : ev_H} (hS : XS X c0) (hl : lo0 c0 h) {k : Nat} (hk : k < 12) {j : Nat} (hj : j < wlen k) : Ex X m_StringLatin1_charAt 0 [.ref (X.2.2.1 k), .int (nI j)] [] h (fun r h' => r = some (.int (nI (wch k j))) ∧ h' = h) := by
  refine Ex.nx rfl ?_
  refine Ex.nx rfl ?_
  refine Hx.slen2 hS hk hl rfl ?_
  refine Hx.sst rfl rfl rfl rfl (hs_chk2 hS hj (by have := wlen_all k hk; unfold wlen at this hj; omega)) ?_
  rintro v h1 ⟨rfl, rfl⟩
  refine Ex.nx rfl ?_
  refine Ex.nx rfl ?_
  refine Hx.sbal hS hk hl hj (by have := wlen_all k hk; omega) rfl ?_
  refine Ex.nx rfl ?_
  refine Ex.nx rfl ?_
  refine Ex.nx rfl ?_
  have e := wch_all k hk j hj
  refine Ex.ret rfl (?_ : ev_ret _ _ [.int ((((pg_byt.getD k []).getD j 0 &&& 255).toUInt32 % 65536).toInt32)] = _) ⟨rfl, rfl⟩
  rw [e.1]
  exact ch_ret _ e.2
set_option maxRecDepth 100000 in
set_option maxHeartbeats 2000000 in
theorem hs_char {X : ev_X} {c0 : Nat} {h : ev_H} (hS : XS X c0) (hl : lo0 c0 h) {k : Nat} (hk : k < 12) {j : Nat} (hj : j < wlen k) : Ex X m_String_charAt 0 [.ref (X.2.1 k), .int (nI j)] [] h (fun r h' => r = some (.int (nI (wch k j))) ∧ h' = h) := by
  refine Ex.nx rfl ?_
  refine Hx.scl hS hk hl rfl rfl rfl rfl (hs_latin hS hl hk) ?_
  rintro v h1 ⟨rfl, rfl⟩
  refine Ex.nx rfl ?_
  refine Ex.nx rfl ?_
  refine Hx.sg0 hS hk hl rfl ?_
  refine Ex.nx rfl ?_
  refine Hx.sst rfl rfl rfl rfl (hs_lchar hS hl hk hj) ?_
  rintro v h1 ⟨rfl, rfl⟩
  exact Ex.ret rfl (ch_ret2 _ (wch_all k hk j hj).2) ⟨rfl, rfl⟩
