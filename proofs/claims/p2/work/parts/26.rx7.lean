/-! digitAt, orderDigits, orderNumbers of the reference. (rows laid by wip/whole/rx8.py) -/
def dgv (b : Nat) : Nat := if isD (nI b) = true then b - 48 else 0
/-- the digit of 10^(n - 10) of a written number whose dot stands at dt -/
def dgn (l : List Nat) (dt n : Nat) : Nat := if 10 ≤ n then (if dt + 9 < n then 0 else dgv (l.getD (dt + 9 - n) 0)) else dgv (l.getD (dt + 10 - n) 0)
theorem i32_sub {a b : Nat} (ha : a < 2 ^ 30) (hb : b < 2 ^ 30) : (nI a - nI b).toInt = (a : Int) - b := pk_sub_toInt ha hb
theorem d10 (n : Nat) (hn : n < 100) : (nI n - 10).toInt = (n : Int) - 10 := i32_sub (b := 10) (by omega) (by decide)
theorem d10_lt {n : Nat} (hn : n < 100) (c : nI n - 10 < 0) : n < 10 := by
  rw [Int32.lt_iff_toInt_lt, d10 n hn] at c; have : (0 : Int32).toInt = 0 := rfl; omega
theorem d10_ge {n : Nat} (hn : n < 100) (c : ¬ nI n - 10 < 0) : 10 ≤ n := by
  rw [Int32.lt_iff_toInt_lt, d10 n hn] at c; have : (0 : Int32).toInt = 0 := rfl; omega
theorem i32_ext {x y : Int32} (h : x.toInt = y.toInt) : x = y := Int32.toInt_inj.mp h
theorem i32_sub' {x y : Int32} (h1 : -2 ^ 30 < x.toInt) (h2 : x.toInt < 2 ^ 30) (h3 : -2 ^ 30 < y.toInt) (h4 : y.toInt < 2 ^ 30) : (x - y).toInt = x.toInt - y.toInt := by
  rw [Int32.toInt_sub, Int.bmod_eq_of_le] <;> omega
theorem at0p {dt n : Nat} (hd : dt < 1000) (hn : n < 100) : (nI dt - 1 - (nI n - 10)).toInt = (dt : Int) + 9 - n := by
  have h1 : (nI dt - 1).toInt = (dt : Int) - 1 := i32_sub (b := 1) (by omega) (by decide)
  rw [i32_sub' (by omega) (by omega) (by rw [d10 n hn]; omega) (by rw [d10 n hn]; omega), h1, d10 n hn]; omega
theorem at0n {dt n : Nat} (hd : dt < 1000) (hn : n < 100) : (nI dt - (nI n - 10)).toInt = (dt : Int) + 10 - n := by
  have h1 : (nI dt).toInt = (dt : Int) := nI_toInt (by omega)
  rw [i32_sub' (by omega) (by omega) (by rw [d10 n hn]; omega) (by rw [d10 n hn]; omega), h1, d10 n hn]; omega
theorem at0_nI {x : Int32} {z : Int} {k : Nat} (h : x.toInt = z) (hz : z = k) (hk : k < 2 ^ 31) : x = nI k := i32_ext (by rw [h, hz, nI_toInt hk])
theorem i32_ge0 {x : Int32} (c : 0 ≤ x) : 0 ≤ x.toInt := by rw [Int32.le_iff_toInt_le] at c; exact c
theorem i32_lt0 {x : Int32} (c : ¬ 0 ≤ x) : x.toInt < 0 := by rw [Int32.le_iff_toInt_le] at c; have : (0 : Int32).toInt = 0 := rfl; omega
theorem dgv_t {b : Nat} (hb : b < 256) (c : isD (nI b) = true) : nI b - 48 = nI (dgv b) := by
  have h1 : 48 ≤ b := by
    simp only [isD, Bool.and_eq_true, Bool.not_eq_true', decide_eq_false_iff_not] at c
    have := c.1
    rw [show (48 : Int32) = nI 48 from rfl, nI_ltI (by omega) (by decide)] at this; omega
  rw [show (48 : Int32) = nI 48 from rfl, pk_sub h1, dgv, if_pos c]
theorem dgv_f {b : Nat} (c : isD (nI b) = false) : dgv b = 0 := by rw [dgv, if_neg (by rw [c]; exact Bool.false_ne_true)]
theorem dgv_0 : dgv 0 = 0 := by decide
theorem dgn_p {l : List Nat} {dt n k : Nat} (h1 : 10 ≤ n) (h2 : (dt : Int) + 9 - n = k) : dgn l dt n = dgv (l.getD k 0) := by
  rw [dgn, if_pos h1, if_neg (by omega), show dt + 9 - n = k by omega]
theorem dgn_m {l : List Nat} {dt n : Nat} (h1 : 10 ≤ n) (h2 : (dt : Int) + 9 - n < 0) : dgn l dt n = 0 := by rw [dgn, if_pos h1, if_pos (by omega)]
theorem dgn_n {l : List Nat} {dt n k : Nat} (h1 : n < 10) (h2 : (dt : Int) + 10 - n = k) : dgn l dt n = dgv (l.getD k 0) := by
  rw [dgn, if_neg (by omega), show dt + 10 - n = k by omega]
set_option maxRecDepth 100000 in
set_option maxHeartbeats 1000000 in
theorem rx_digitAt (X : ev_X) (c0 : Nat) (σ : Nat → Int32) (τ : Nat → Nat → Int32) {ts : RT} (hR : rt σ τ ts) {i : Nat} (hi : i < ts.length) {dt n : Nat} (hdt : dt < 1000) (hn : n < 100) : Rx X c0 m_Mod_digitAt 0 [.ref (c0 + 16), .int (nI (i + 1)), .int (nI dt), .int (nI n - 10), ev_dead, ev_dead] [] σ τ (fun r σ' τ' => r = some (.int (nI (dgn (bys ts i) dt n))) ∧ σ' = σ ∧ τ' = τ) := by
  refine Rx.go (fun _ => rfl) ?_
  refine Rx.go (fun _ => rfl) ?_
  refine Rx.ite (fun c1 => ?_) (fun c1 => ?_)
  · replace c1 : (nI n - 10) < 0 := of_decide_eq_true c1
    show Rx X c0 m_Mod_digitAt 12 [.ref (c0 + 16), .int (nI (i + 1)), .int (nI dt), .int (nI n - 10), ev_dead, ev_dead] [] σ τ _
    refine Rx.go (fun _ => rfl) ?_
    refine Rx.go (fun _ => rfl) ?_
    refine Rx.go (fun _ => rfl) ?_
    refine Rx.go (fun _ => rfl) ?_
    show Rx X c0 m_Mod_digitAt 17 [.ref (c0 + 16), .int (nI (i + 1)), .int (nI dt), .int (nI n - 10), .int ((nI dt) - (nI n - 10)), ev_dead] [] σ τ _
    refine Rx.go (fun _ => rfl) ?_
    refine Rx.go (fun _ => rfl) ?_
    refine Rx.ite (fun c2 => ?_) (fun c2 => ?_)
    · replace c2 : 0 ≤ ((nI dt) - (nI n - 10)) := of_decide_eq_true c2
      obtain ⟨k, hk⟩ : ∃ k : Nat, (dt : Int) + 10 - n = k := ⟨((dt : Int) + 10 - n).toNat, by have := i32_ge0 c2; rw [at0n hdt hn] at this; omega⟩
      rw [at0_nI (at0n hdt hn) hk (by omega)]
      show Rx X c0 m_Mod_digitAt 26 [.ref (c0 + 16), .int (nI (i + 1)), .int (nI dt), .int (nI n - 10), .int (nI k), ev_dead] [] σ τ _
      refine Rx.go (fun _ => rfl) ?_
      refine Rx.go (fun _ => rfl) ?_
      refine Rx.go (fun _ => rfl) ?_
      refine Rx.callE rfl rfl rfl rfl (rx_byteAt X c0 _ _ hR hi (j := k) (by omega)) ?_
      show Rx X c0 m_Mod_digitAt 33 [.ref (c0 + 16), .int (nI (i + 1)), .int (nI dt), .int (nI n - 10), .int (nI k), ev_dead] [.int (nI ((bys ts i).getD k 0))] σ τ _
      refine Rx.go (fun _ => rfl) ?_
      show Rx X c0 m_Mod_digitAt 35 [.ref (c0 + 16), .int (nI (i + 1)), .int (nI dt), .int (nI n - 10), .int (nI k), .int (nI ((bys ts i).getD k 0))] [] σ τ _
      refine Rx.go (fun _ => rfl) ?_
      refine Rx.scallE rfl rfl rfl rfl (sx_Mod_isDigit X _) ?_
      show Rx X c0 m_Mod_digitAt 40 [.ref (c0 + 16), .int (nI (i + 1)), .int (nI dt), .int (nI n - 10), .int (nI k), .int (nI ((bys ts i).getD k 0))] [.int (bi (isD (nI ((bys ts i).getD k 0))))] σ τ _
      refine Rx.go (fun _ => rfl) ?_
      refine Rx.ite (fun c3 => ?_) (fun c3 => ?_)
      · replace c3 : (isD (nI ((bys ts i).getD k 0))) = false := bi_eqt c3
        show Rx X c0 m_Mod_digitAt 51 [.ref (c0 + 16), .int (nI (i + 1)), .int (nI dt), .int (nI n - 10), .int (nI k), .int (nI ((bys ts i).getD k 0))] [] σ τ _
        refine Rx.go (fun _ => rfl) ?_
        show Rx X c0 m_Mod_digitAt 52 [.ref (c0 + 16), .int (nI (i + 1)), .int (nI dt), .int (nI n - 10), .int (nI k), .int (nI ((bys ts i).getD k 0))] [.int 0] σ τ _
        exact Rx.ret rfl (ev_reti rfl) ⟨by rw [dgn_n (d10_lt hn c1) hk, dgv_f c3]; rfl, rfl, rfl⟩
      · replace c3 : (isD (nI ((bys ts i).getD k 0))) = true := bi_eqf c3
        show Rx X c0 m_Mod_digitAt 43 [.ref (c0 + 16), .int (nI (i + 1)), .int (nI dt), .int (nI n - 10), .int (nI k), .int (nI ((bys ts i).getD k 0))] [] σ τ _
        refine Rx.go (fun _ => rfl) ?_
        refine Rx.go (fun _ => rfl) ?_
        refine Rx.go (fun _ => rfl) ?_
        refine Rx.go (fun _ => rfl) ?_
        show Rx X c0 m_Mod_digitAt 52 [.ref (c0 + 16), .int (nI (i + 1)), .int (nI dt), .int (nI n - 10), .int (nI k), .int (nI ((bys ts i).getD k 0))] [.int ((nI ((bys ts i).getD k 0)) - 48)] σ τ _
        exact Rx.ret rfl (ev_reti rfl) ⟨by rw [dgn_n (d10_lt hn c1) hk, dgv_t ((rt_ok hR hi).1 k) c3], rfl, rfl⟩
    · replace c2 : ¬ 0 ≤ ((nI dt) - (nI n - 10)) := of_decide_eq_false c2
      show Rx X c0 m_Mod_digitAt 22 [.ref (c0 + 16), .int (nI (i + 1)), .int (nI dt), .int (nI n - 10), .int ((nI dt) - (nI n - 10)), ev_dead] [] σ τ _
      refine Rx.go (fun _ => rfl) ?_
      refine Rx.go (fun _ => rfl) ?_
      refine Rx.go (fun _ => rfl) ?_
      show Rx X c0 m_Mod_digitAt 35 [.ref (c0 + 16), .int (nI (i + 1)), .int (nI dt), .int (nI n - 10), .int ((nI dt) - (nI n - 10)), .int 0] [] σ τ _
      refine Rx.go (fun _ => rfl) ?_
      refine Rx.scallE (v := some (.int 0)) rfl rfl rfl rfl (sx_Mod_isDigit X 0) ?_
      show Rx X c0 m_Mod_digitAt 40 [.ref (c0 + 16), .int (nI (i + 1)), .int (nI dt), .int (nI n - 10), .int ((nI dt) - (nI n - 10)), .int 0] [.int 0] σ τ _
      refine Rx.go (fun _ => rfl) ?_
      show Rx X c0 m_Mod_digitAt 51 [.ref (c0 + 16), .int (nI (i + 1)), .int (nI dt), .int (nI n - 10), .int ((nI dt) - (nI n - 10)), .int 0] [] σ τ _
      refine Rx.go (fun _ => rfl) ?_
      show Rx X c0 m_Mod_digitAt 52 [.ref (c0 + 16), .int (nI (i + 1)), .int (nI dt), .int (nI n - 10), .int ((nI dt) - (nI n - 10)), .int 0] [.int 0] σ τ _
      exact absurd (i32_lt0 c2) (by rw [at0n hdt hn]; have := d10_lt hn c1; omega)
  · replace c1 : ¬ (nI n - 10) < 0 := of_decide_eq_false c1
    show Rx X c0 m_Mod_digitAt 4 [.ref (c0 + 16), .int (nI (i + 1)), .int (nI dt), .int (nI n - 10), ev_dead, ev_dead] [] σ τ _
    refine Rx.go (fun _ => rfl) ?_
    refine Rx.go (fun _ => rfl) ?_
    refine Rx.go (fun _ => rfl) ?_
    refine Rx.go (fun _ => rfl) ?_
    refine Rx.go (fun _ => rfl) ?_
    refine Rx.go (fun _ => rfl) ?_
    refine Rx.go (fun _ => rfl) ?_
    show Rx X c0 m_Mod_digitAt 17 [.ref (c0 + 16), .int (nI (i + 1)), .int (nI dt), .int (nI n - 10), .int (((nI dt) - 1) - (nI n - 10)), ev_dead] [] σ τ _
    refine Rx.go (fun _ => rfl) ?_
    refine Rx.go (fun _ => rfl) ?_
    refine Rx.ite (fun c4 => ?_) (fun c4 => ?_)
    · replace c4 : 0 ≤ (((nI dt) - 1) - (nI n - 10)) := of_decide_eq_true c4
      obtain ⟨k, hk⟩ : ∃ k : Nat, (dt : Int) + 9 - n = k := ⟨((dt : Int) + 9 - n).toNat, by have := i32_ge0 c4; rw [at0p hdt hn] at this; omega⟩
      rw [at0_nI (at0p hdt hn) hk (by omega)]
      show Rx X c0 m_Mod_digitAt 26 [.ref (c0 + 16), .int (nI (i + 1)), .int (nI dt), .int (nI n - 10), .int (nI k), ev_dead] [] σ τ _
      refine Rx.go (fun _ => rfl) ?_
      refine Rx.go (fun _ => rfl) ?_
      refine Rx.go (fun _ => rfl) ?_
      refine Rx.callE rfl rfl rfl rfl (rx_byteAt X c0 _ _ hR hi (j := k) (by omega)) ?_
      show Rx X c0 m_Mod_digitAt 33 [.ref (c0 + 16), .int (nI (i + 1)), .int (nI dt), .int (nI n - 10), .int (nI k), ev_dead] [.int (nI ((bys ts i).getD k 0))] σ τ _
      refine Rx.go (fun _ => rfl) ?_
      show Rx X c0 m_Mod_digitAt 35 [.ref (c0 + 16), .int (nI (i + 1)), .int (nI dt), .int (nI n - 10), .int (nI k), .int (nI ((bys ts i).getD k 0))] [] σ τ _
      refine Rx.go (fun _ => rfl) ?_
      refine Rx.scallE rfl rfl rfl rfl (sx_Mod_isDigit X _) ?_
      show Rx X c0 m_Mod_digitAt 40 [.ref (c0 + 16), .int (nI (i + 1)), .int (nI dt), .int (nI n - 10), .int (nI k), .int (nI ((bys ts i).getD k 0))] [.int (bi (isD (nI ((bys ts i).getD k 0))))] σ τ _
      refine Rx.go (fun _ => rfl) ?_
      refine Rx.ite (fun c5 => ?_) (fun c5 => ?_)
      · replace c5 : (isD (nI ((bys ts i).getD k 0))) = false := bi_eqt c5
        show Rx X c0 m_Mod_digitAt 51 [.ref (c0 + 16), .int (nI (i + 1)), .int (nI dt), .int (nI n - 10), .int (nI k), .int (nI ((bys ts i).getD k 0))] [] σ τ _
        refine Rx.go (fun _ => rfl) ?_
        show Rx X c0 m_Mod_digitAt 52 [.ref (c0 + 16), .int (nI (i + 1)), .int (nI dt), .int (nI n - 10), .int (nI k), .int (nI ((bys ts i).getD k 0))] [.int 0] σ τ _
        exact Rx.ret rfl (ev_reti rfl) ⟨by rw [dgn_p (d10_ge hn c1) hk, dgv_f c5]; rfl, rfl, rfl⟩
      · replace c5 : (isD (nI ((bys ts i).getD k 0))) = true := bi_eqf c5
        show Rx X c0 m_Mod_digitAt 43 [.ref (c0 + 16), .int (nI (i + 1)), .int (nI dt), .int (nI n - 10), .int (nI k), .int (nI ((bys ts i).getD k 0))] [] σ τ _
        refine Rx.go (fun _ => rfl) ?_
        refine Rx.go (fun _ => rfl) ?_
        refine Rx.go (fun _ => rfl) ?_
        refine Rx.go (fun _ => rfl) ?_
        show Rx X c0 m_Mod_digitAt 52 [.ref (c0 + 16), .int (nI (i + 1)), .int (nI dt), .int (nI n - 10), .int (nI k), .int (nI ((bys ts i).getD k 0))] [.int ((nI ((bys ts i).getD k 0)) - 48)] σ τ _
        exact Rx.ret rfl (ev_reti rfl) ⟨by rw [dgn_p (d10_ge hn c1) hk, dgv_t ((rt_ok hR hi).1 k) c5], rfl, rfl⟩
    · replace c4 : ¬ 0 ≤ (((nI dt) - 1) - (nI n - 10)) := of_decide_eq_false c4
      show Rx X c0 m_Mod_digitAt 22 [.ref (c0 + 16), .int (nI (i + 1)), .int (nI dt), .int (nI n - 10), .int (((nI dt) - 1) - (nI n - 10)), ev_dead] [] σ τ _
      refine Rx.go (fun _ => rfl) ?_
      refine Rx.go (fun _ => rfl) ?_
      refine Rx.go (fun _ => rfl) ?_
      show Rx X c0 m_Mod_digitAt 35 [.ref (c0 + 16), .int (nI (i + 1)), .int (nI dt), .int (nI n - 10), .int (((nI dt) - 1) - (nI n - 10)), .int 0] [] σ τ _
      refine Rx.go (fun _ => rfl) ?_
      refine Rx.scallE (v := some (.int 0)) rfl rfl rfl rfl (sx_Mod_isDigit X 0) ?_
      show Rx X c0 m_Mod_digitAt 40 [.ref (c0 + 16), .int (nI (i + 1)), .int (nI dt), .int (nI n - 10), .int (((nI dt) - 1) - (nI n - 10)), .int 0] [.int 0] σ τ _
      refine Rx.go (fun _ => rfl) ?_
      show Rx X c0 m_Mod_digitAt 51 [.ref (c0 + 16), .int (nI (i + 1)), .int (nI dt), .int (nI n - 10), .int (((nI dt) - 1) - (nI n - 10)), .int 0] [] σ τ _
      refine Rx.go (fun _ => rfl) ?_
      show Rx X c0 m_Mod_digitAt 52 [.ref (c0 + 16), .int (nI (i + 1)), .int (nI dt), .int (nI n - 10), .int (((nI dt) - 1) - (nI n - 10)), .int 0] [.int 0] σ τ _
      exact Rx.ret rfl (ev_reti rfl) ⟨by rw [dgn_m (d10_ge hn c1) (by have := i32_lt0 c4; rw [at0p hdt hn] at this; exact this)]; rfl, rfl, rfl⟩
def cmpD (la : List Nat) (da : Nat) (lb : List Nat) (db : Nat) : Nat → Int32
  | 0 => 0
  | n + 1 => if dgn la da (n + 1) = dgn lb db (n + 1) then cmpD la da lb db n else sgn (nI (dgn la da (n + 1)) - nI (dgn lb db (n + 1)))
theorem dgv_lt {b : Nat} (hb : b < 256) : dgv b < 256 := by unfold dgv; split <;> omega
theorem dgn_lt {l : List Nat} (hl : ∀ k, l.getD k 0 < 256) (dt n : Nat) : dgn l dt n < 256 := by
  unfold dgn
  repeat' split
  · decide
  · exact dgv_lt (hl _)
  · exact dgv_lt (hl _)
theorem d9_lt {n : Nat} (hn : n < 100) (c : nI n - 10 < -9) : n = 0 := by
  rw [Int32.lt_iff_toInt_lt, d10 n hn] at c; have : (-9 : Int32).toInt = -9 := rfl; omega
theorem d9_ge {n : Nat} (hn : n < 100) (c : ¬ nI n - 10 < -9) : ∃ n', n = n' + 1 := by
  rw [Int32.lt_iff_toInt_lt, d10 n hn] at c; have : (-9 : Int32).toInt = -9 := rfl; exact ⟨n - 1, by omega⟩
theorem d10_pred (n : Nat) (hn : n < 99) : nI (n + 1) - 10 + (-1) = nI n - 10 := i32_ext (by
  rw [Int32.toInt_add, d10 (n + 1) (by omega), d10 n (by omega), show (-1 : Int32).toInt = -1 from rfl, Int.bmod_eq_of_le] <;> omega)
set_option maxRecDepth 100000 in
set_option maxHeartbeats 1000000 in
theorem rx_orderDigits_l (X : ev_X) (c0 : Nat) (σ : Nat → Int32) (τ : Nat → Nat → Int32) {ts : RT} (hR : rt σ τ ts) {ia ib : Nat} (hia : ia < ts.length) (hib : ib < ts.length) {da db : Nat} (hda : da < 1000) (hdb : db < 1000) : ∀ (m : Nat) (n : Nat) (hm : n < m) (hn : n < 100) (u v : Value), Rx X c0 m_Mod_orderDigits 17 [.ref (c0 + 16), .int (nI (ia + 1)), .int (nI (ib + 1)), .int (nI da), .int (nI db), .int (nI n - 10), u, v] [] σ τ (fun r σ' τ' => r = some (.int (cmpD (bys ts ia) da (bys ts ib) db n)) ∧ σ' = σ ∧ τ' = τ) := by
  intro m
  induction m with
  | zero => intro n hm hn u v; exact absurd hm (Nat.not_lt_zero _)
  | succ m ih =>
    intro n hm hn u v
    refine Rx.go (fun _ => rfl) ?_
    refine Rx.go (fun _ => rfl) ?_
    refine Rx.go (fun _ => rfl) ?_
    refine Rx.ite (fun c1 => ?_) (fun c1 => ?_)
    · replace c1 : (nI n - 10) < (-9) := of_decide_eq_true c1
      show Rx X c0 m_Mod_orderDigits 67 [.ref (c0 + 16), .int (nI (ia + 1)), .int (nI (ib + 1)), .int (nI da), .int (nI db), .int (nI n - 10), u, v] [] σ τ _
      refine Rx.go (fun _ => rfl) ?_
      show Rx X c0 m_Mod_orderDigits 68 [.ref (c0 + 16), .int (nI (ia + 1)), .int (nI (ib + 1)), .int (nI da), .int (nI db), .int (nI n - 10), u, v] [.int 0] σ τ _
      exact Rx.ret rfl (ev_reti rfl) ⟨by rw [d9_lt hn c1]; rfl, rfl, rfl⟩
    · replace c1 : ¬ (nI n - 10) < (-9) := of_decide_eq_false c1
      obtain ⟨n', rfl⟩ := d9_ge hn c1
      show Rx X c0 m_Mod_orderDigits 24 [.ref (c0 + 16), .int (nI (ia + 1)), .int (nI (ib + 1)), .int (nI da), .int (nI db), .int (nI (n' + 1) - 10), u, v] [] σ τ _
      refine Rx.go (fun _ => rfl) ?_
      refine Rx.go (fun _ => rfl) ?_
      refine Rx.go (fun _ => rfl) ?_
      refine Rx.go (fun _ => rfl) ?_
      refine Rx.callE rfl rfl rfl rfl (rx_digitAt X c0 _ _ hR hia (dt := da) (n := n' + 1) hda hn) ?_
      show Rx X c0 m_Mod_orderDigits 32 [.ref (c0 + 16), .int (nI (ia + 1)), .int (nI (ib + 1)), .int (nI da), .int (nI db), .int (nI (n' + 1) - 10), u, v] [.int (nI (dgn (bys ts ia) da (n' + 1)))] σ τ _
      refine Rx.go (fun _ => rfl) ?_
      show Rx X c0 m_Mod_orderDigits 34 [.ref (c0 + 16), .int (nI (ia + 1)), .int (nI (ib + 1)), .int (nI da), .int (nI db), .int (nI (n' + 1) - 10), .int (nI (dgn (bys ts ia) da (n' + 1))), v] [] σ τ _
      refine Rx.go (fun _ => rfl) ?_
      refine Rx.go (fun _ => rfl) ?_
      refine Rx.go (fun _ => rfl) ?_
      refine Rx.go (fun _ => rfl) ?_
      refine Rx.callE rfl rfl rfl rfl (rx_digitAt X c0 _ _ hR hib (dt := db) (n := n' + 1) hdb hn) ?_
      show Rx X c0 m_Mod_orderDigits 43 [.ref (c0 + 16), .int (nI (ia + 1)), .int (nI (ib + 1)), .int (nI da), .int (nI db), .int (nI (n' + 1) - 10), .int (nI (dgn (bys ts ia) da (n' + 1))), v] [.int (nI (dgn (bys ts ib) db (n' + 1)))] σ τ _
      refine Rx.go (fun _ => rfl) ?_
      show Rx X c0 m_Mod_orderDigits 45 [.ref (c0 + 16), .int (nI (ia + 1)), .int (nI (ib + 1)), .int (nI da), .int (nI db), .int (nI (n' + 1) - 10), .int (nI (dgn (bys ts ia) da (n' + 1))), .int (nI (dgn (bys ts ib) db (n' + 1)))] [] σ τ _
      refine Rx.go (fun _ => rfl) ?_
      refine Rx.go (fun _ => rfl) ?_
      refine Rx.go (fun _ => rfl) ?_
      refine Rx.ite (fun c2 => ?_) (fun c2 => ?_)
      · replace c2 : (nI (dgn (bys ts ia) da (n' + 1))) = (nI (dgn (bys ts ib) db (n' + 1))) := of_decide_eq_true c2
        show Rx X c0 m_Mod_orderDigits 61 [.ref (c0 + 16), .int (nI (ia + 1)), .int (nI (ib + 1)), .int (nI da), .int (nI db), .int (nI (n' + 1) - 10), .int (nI (dgn (bys ts ia) da (n' + 1))), .int (nI (dgn (bys ts ib) db (n' + 1)))] [] σ τ _
        refine Rx.go (fun _ => rfl) ?_
        show Rx X c0 m_Mod_orderDigits 64 [.ref (c0 + 16), .int (nI (ia + 1)), .int (nI (ib + 1)), .int (nI da), .int (nI db), .int ((nI (n' + 1) - 10) + (-1)), .int (nI (dgn (bys ts ia) da (n' + 1))), .int (nI (dgn (bys ts ib) db (n' + 1)))] [] σ τ _
        refine Rx.go (fun _ => rfl) ?_
        show Rx X c0 m_Mod_orderDigits 17 [.ref (c0 + 16), .int (nI (ia + 1)), .int (nI (ib + 1)), .int (nI da), .int (nI db), .int ((nI (n' + 1) - 10) + (-1)), .int (nI (dgn (bys ts ia) da (n' + 1))), .int (nI (dgn (bys ts ib) db (n' + 1)))] [] σ τ _
        rw [d10_pred n' (by omega), show cmpD (bys ts ia) da (bys ts ib) db (n' + 1) = _ from if_pos ((nI_eq (by have := dgn_lt (rt_ok hR hia).1 da (n' + 1); omega) (by have := dgn_lt (rt_ok hR hib).1 db (n' + 1); omega)).mp c2)]
        exact ih n' (by omega) (by omega) _ _
      · replace c2 : ¬ (nI (dgn (bys ts ia) da (n' + 1))) = (nI (dgn (bys ts ib) db (n' + 1))) := of_decide_eq_false c2
        show Rx X c0 m_Mod_orderDigits 52 [.ref (c0 + 16), .int (nI (ia + 1)), .int (nI (ib + 1)), .int (nI da), .int (nI db), .int (nI (n' + 1) - 10), .int (nI (dgn (bys ts ia) da (n' + 1))), .int (nI (dgn (bys ts ib) db (n' + 1)))] [] σ τ _
        refine Rx.go (fun _ => rfl) ?_
        refine Rx.go (fun _ => rfl) ?_
        refine Rx.go (fun _ => rfl) ?_
        refine Rx.scallE rfl rfl rfl rfl (sx_Mod_sign X _) ?_
        show Rx X c0 m_Mod_orderDigits 60 [.ref (c0 + 16), .int (nI (ia + 1)), .int (nI (ib + 1)), .int (nI da), .int (nI db), .int (nI (n' + 1) - 10), .int (nI (dgn (bys ts ia) da (n' + 1))), .int (nI (dgn (bys ts ib) db (n' + 1)))] [.int (sgn ((nI (dgn (bys ts ia) da (n' + 1))) - (nI (dgn (bys ts ib) db (n' + 1)))))] σ τ _
        show Rx X c0 m_Mod_orderDigits 60 [.ref (c0 + 16), .int (nI (ia + 1)), .int (nI (ib + 1)), .int (nI da), .int (nI db), .int (nI (n' + 1) - 10), .int (nI (dgn (bys ts ia) da (n' + 1))), .int (nI (dgn (bys ts ib) db (n' + 1)))] [.int (sgn ((nI (dgn (bys ts ia) da (n' + 1))) - (nI (dgn (bys ts ib) db (n' + 1)))))] σ τ _
        exact Rx.ret rfl (ev_reti rfl) ⟨by rw [show cmpD (bys ts ia) da (bys ts ib) db (n' + 1) = _ from if_neg (fun z => c2 (by rw [z]))], rfl, rfl⟩
set_option maxRecDepth 100000 in
set_option maxHeartbeats 1000000 in
theorem rx_orderDigits (X : ev_X) (c0 : Nat) (σ : Nat → Int32) (τ : Nat → Nat → Int32) {ts : RT} (hR : rt σ τ ts) {ia ib : Nat} (hia : ia < ts.length) (hib : ib < ts.length) : Rx X c0 m_Mod_orderDigits 0 [.ref (c0 + 16), .int (nI (ia + 1)), .int (nI (ib + 1)), ev_dead, ev_dead, ev_dead, ev_dead, ev_dead] [] σ τ (fun r σ' τ' => r = some (.int (cmpD (bys ts ia) (dotp (bys ts ia)) (bys ts ib) (dotp (bys ts ib)) 30)) ∧ σ' = σ ∧ τ' = τ) := by
  refine Rx.go (fun _ => rfl) ?_
  refine Rx.go (fun _ => rfl) ?_
  refine Rx.callE rfl rfl rfl rfl (rx_dotOf X c0 _ _ hR hia) ?_
  show Rx X c0 m_Mod_orderDigits 5 [.ref (c0 + 16), .int (nI (ia + 1)), .int (nI (ib + 1)), ev_dead, ev_dead, ev_dead, ev_dead, ev_dead] [.int (nI (dotp (bys ts ia)))] σ τ _
  refine Rx.go (fun _ => rfl) ?_
  show Rx X c0 m_Mod_orderDigits 6 [.ref (c0 + 16), .int (nI (ia + 1)), .int (nI (ib + 1)), .int (nI (dotp (bys ts ia))), ev_dead, ev_dead, ev_dead, ev_dead] [] σ τ _
  refine Rx.go (fun _ => rfl) ?_
  refine Rx.go (fun _ => rfl) ?_
  refine Rx.callE rfl rfl rfl rfl (rx_dotOf X c0 _ _ hR hib) ?_
  show Rx X c0 m_Mod_orderDigits 11 [.ref (c0 + 16), .int (nI (ia + 1)), .int (nI (ib + 1)), .int (nI (dotp (bys ts ia))), ev_dead, ev_dead, ev_dead, ev_dead] [.int (nI (dotp (bys ts ib)))] σ τ _
  refine Rx.go (fun _ => rfl) ?_
  show Rx X c0 m_Mod_orderDigits 13 [.ref (c0 + 16), .int (nI (ia + 1)), .int (nI (ib + 1)), .int (nI (dotp (bys ts ia))), .int (nI (dotp (bys ts ib))), ev_dead, ev_dead, ev_dead] [] σ τ _
  refine Rx.go (fun _ => rfl) ?_
  refine Rx.go (fun _ => rfl) ?_
  show Rx X c0 m_Mod_orderDigits 17 [.ref (c0 + 16), .int (nI (ia + 1)), .int (nI (ib + 1)), .int (nI (dotp (bys ts ia))), .int (nI (dotp (bys ts ib))), .int 20, ev_dead, ev_dead] [] σ τ _
  show Rx X c0 m_Mod_orderDigits 17 [.ref (c0 + 16), .int (nI (ia + 1)), .int (nI (ib + 1)), .int (nI (dotp (bys ts ia))), .int (nI (dotp (bys ts ib))), .int 20, ev_dead, ev_dead] [] σ τ _
  exact rx_orderDigits_l X c0 σ τ hR hia hib (by have := dotp_le (bys ts ia); have := (rt_ok hR hia).2.2.1; omega) (by have := dotp_le (bys ts ib); have := (rt_ok hR hib).2.2.1; omega) 31 30 (by decide) (by decide) _ _
/-- two written numbers, by value -/
def onum (la lb : List Nat) : Int32 := if la.getD 0 0 = 45 then (if lb.getD 0 0 = 45 then - cmpD la (dotp la) lb (dotp lb) 30 else -1) else (if lb.getD 0 0 = 45 then 1 else cmpD la (dotp la) lb (dotp lb) 30)
set_option maxRecDepth 100000 in
set_option maxHeartbeats 1000000 in
theorem rx_orderNumbers (X : ev_X) (c0 : Nat) (σ : Nat → Int32) (τ : Nat → Nat → Int32) {ts : RT} (hR : rt σ τ ts) {ia ib : Nat} (hia : ia < ts.length) (hib : ib < ts.length) : Rx X c0 m_Mod_orderNumbers 0 [.ref (c0 + 16), .int (nI (ia + 1)), .int (nI (ib + 1)), ev_dead] [] σ τ (fun r σ' τ' => r = some (.int (onum (bys ts ia) (bys ts ib))) ∧ σ' = σ ∧ τ' = τ) := by
  refine Rx.go (fun _ => rfl) ?_
  refine Rx.go (fun _ => rfl) ?_
  refine Rx.go (fun _ => rfl) ?_
  refine Rx.callE rfl rfl rfl rfl (rx_byteAt X c0 _ _ hR hia (j := 0) (by decide)) ?_
  show Rx X c0 m_Mod_orderNumbers 6 [.ref (c0 + 16), .int (nI (ia + 1)), .int (nI (ib + 1)), ev_dead] [.int (nI ((bys ts ia).getD 0 0))] σ τ _
  refine Rx.go (fun _ => rfl) ?_
  refine Rx.go (fun _ => rfl) ?_
  refine Rx.ite (fun c1 => ?_) (fun c1 => ?_)
  · replace c1 : ¬ (nI ((bys ts ia).getD 0 0)) = 45 := of_decide_eq_true c1
    show Rx X c0 m_Mod_orderNumbers 15 [.ref (c0 + 16), .int (nI (ia + 1)), .int (nI (ib + 1)), ev_dead] [] σ τ _
    refine Rx.go (fun _ => rfl) ?_
    refine Rx.go (fun _ => rfl) ?_
    show Rx X c0 m_Mod_orderNumbers 17 [.ref (c0 + 16), .int (nI (ia + 1)), .int (nI (ib + 1)), .int 0] [] σ τ _
    refine Rx.go (fun _ => rfl) ?_
    refine Rx.go (fun _ => rfl) ?_
    refine Rx.go (fun _ => rfl) ?_
    refine Rx.go (fun _ => rfl) ?_
    refine Rx.callE rfl rfl rfl rfl (rx_byteAt X c0 _ _ hR hib (j := 0) (by decide)) ?_
    show Rx X c0 m_Mod_orderNumbers 24 [.ref (c0 + 16), .int (nI (ia + 1)), .int (nI (ib + 1)), .int 0] [.int (nI ((bys ts ib).getD 0 0)), .int 0] σ τ _
    refine Rx.go (fun _ => rfl) ?_
    refine Rx.go (fun _ => rfl) ?_
    refine Rx.ite (fun c2 => ?_) (fun c2 => ?_)
    · replace c2 : ¬ (nI ((bys ts ib).getD 0 0)) = 45 := of_decide_eq_true c2
      show Rx X c0 m_Mod_orderNumbers 33 [.ref (c0 + 16), .int (nI (ia + 1)), .int (nI (ib + 1)), .int 0] [.int 0] σ τ _
      refine Rx.go (fun _ => rfl) ?_
      refine Rx.go (fun _ => rfl) ?_
      show Rx X c0 m_Mod_orderNumbers 47 [.ref (c0 + 16), .int (nI (ia + 1)), .int (nI (ib + 1)), .int 0] [] σ τ _
      refine Rx.go (fun _ => rfl) ?_
      refine Rx.go (fun _ => rfl) ?_
      show Rx X c0 m_Mod_orderNumbers 61 [.ref (c0 + 16), .int (nI (ia + 1)), .int (nI (ib + 1)), .int 0] [] σ τ _
      refine Rx.go (fun _ => rfl) ?_
      refine Rx.go (fun _ => rfl) ?_
      refine Rx.go (fun _ => rfl) ?_
      refine Rx.callE rfl rfl rfl rfl (rx_orderDigits X c0 _ _ hR hia hib) ?_
      show Rx X c0 m_Mod_orderNumbers 67 [.ref (c0 + 16), .int (nI (ia + 1)), .int (nI (ib + 1)), .int 0] [.int (cmpD (bys ts ia) (dotp (bys ts ia)) (bys ts ib) (dotp (bys ts ib)) 30)] σ τ _
      show Rx X c0 m_Mod_orderNumbers 67 [.ref (c0 + 16), .int (nI (ia + 1)), .int (nI (ib + 1)), .int 0] [.int (cmpD (bys ts ia) (dotp (bys ts ia)) (bys ts ib) (dotp (bys ts ib)) 30)] σ τ _
      exact Rx.ret rfl (ev_reti rfl) ⟨by rw [onum, if_neg (bt_n (n := 45) rfl c1), if_neg (bt_n (n := 45) rfl c2)], rfl, rfl⟩
    · replace c2 : (nI ((bys ts ib).getD 0 0)) = 45 := Classical.not_not.mp (of_decide_eq_false c2)
      show Rx X c0 m_Mod_orderNumbers 29 [.ref (c0 + 16), .int (nI (ia + 1)), .int (nI (ib + 1)), .int 0] [.int 0] σ τ _
      refine Rx.go (fun _ => rfl) ?_
      refine Rx.go (fun _ => rfl) ?_
      refine Rx.go (fun _ => rfl) ?_
      show Rx X c0 m_Mod_orderNumbers 37 [.ref (c0 + 16), .int (nI (ia + 1)), .int (nI (ib + 1)), .int 0] [] σ τ _
      refine Rx.go (fun _ => rfl) ?_
      refine Rx.go (fun _ => rfl) ?_
      show Rx X c0 m_Mod_orderNumbers 45 [.ref (c0 + 16), .int (nI (ia + 1)), .int (nI (ib + 1)), .int 0] [] σ τ _
      refine Rx.go (fun _ => rfl) ?_
      show Rx X c0 m_Mod_orderNumbers 46 [.ref (c0 + 16), .int (nI (ia + 1)), .int (nI (ib + 1)), .int 0] [.int 1] σ τ _
      exact Rx.ret rfl (ev_reti rfl) ⟨by rw [onum, if_neg (bt_n (n := 45) rfl c1), if_pos (bt_e hR hib (n := 45) rfl (by decide) c2)], rfl, rfl⟩
  · replace c1 : (nI ((bys ts ia).getD 0 0)) = 45 := Classical.not_not.mp (of_decide_eq_false c1)
    show Rx X c0 m_Mod_orderNumbers 11 [.ref (c0 + 16), .int (nI (ia + 1)), .int (nI (ib + 1)), ev_dead] [] σ τ _
    refine Rx.go (fun _ => rfl) ?_
    refine Rx.go (fun _ => rfl) ?_
    refine Rx.go (fun _ => rfl) ?_
    show Rx X c0 m_Mod_orderNumbers 17 [.ref (c0 + 16), .int (nI (ia + 1)), .int (nI (ib + 1)), .int 1] [] σ τ _
    refine Rx.go (fun _ => rfl) ?_
    refine Rx.go (fun _ => rfl) ?_
    refine Rx.go (fun _ => rfl) ?_
    refine Rx.go (fun _ => rfl) ?_
    refine Rx.callE rfl rfl rfl rfl (rx_byteAt X c0 _ _ hR hib (j := 0) (by decide)) ?_
    show Rx X c0 m_Mod_orderNumbers 24 [.ref (c0 + 16), .int (nI (ia + 1)), .int (nI (ib + 1)), .int 1] [.int (nI ((bys ts ib).getD 0 0)), .int 1] σ τ _
    refine Rx.go (fun _ => rfl) ?_
    refine Rx.go (fun _ => rfl) ?_
    refine Rx.ite (fun c3 => ?_) (fun c3 => ?_)
    · replace c3 : ¬ (nI ((bys ts ib).getD 0 0)) = 45 := of_decide_eq_true c3
      show Rx X c0 m_Mod_orderNumbers 33 [.ref (c0 + 16), .int (nI (ia + 1)), .int (nI (ib + 1)), .int 1] [.int 1] σ τ _
      refine Rx.go (fun _ => rfl) ?_
      refine Rx.go (fun _ => rfl) ?_
      show Rx X c0 m_Mod_orderNumbers 37 [.ref (c0 + 16), .int (nI (ia + 1)), .int (nI (ib + 1)), .int 1] [] σ τ _
      refine Rx.go (fun _ => rfl) ?_
      refine Rx.go (fun _ => rfl) ?_
      show Rx X c0 m_Mod_orderNumbers 41 [.ref (c0 + 16), .int (nI (ia + 1)), .int (nI (ib + 1)), .int 1] [] σ τ _
      refine Rx.go (fun _ => rfl) ?_
      refine Rx.go (fun _ => rfl) ?_
      show Rx X c0 m_Mod_orderNumbers 46 [.ref (c0 + 16), .int (nI (ia + 1)), .int (nI (ib + 1)), .int 1] [.int (-1)] σ τ _
      exact Rx.ret rfl (ev_reti rfl) ⟨by rw [onum, if_pos (bt_e hR hia (n := 45) rfl (by decide) c1), if_neg (bt_n (n := 45) rfl c3)], rfl, rfl⟩
    · replace c3 : (nI ((bys ts ib).getD 0 0)) = 45 := Classical.not_not.mp (of_decide_eq_false c3)
      show Rx X c0 m_Mod_orderNumbers 29 [.ref (c0 + 16), .int (nI (ia + 1)), .int (nI (ib + 1)), .int 1] [.int 1] σ τ _
      refine Rx.go (fun _ => rfl) ?_
      refine Rx.go (fun _ => rfl) ?_
      refine Rx.go (fun _ => rfl) ?_
      show Rx X c0 m_Mod_orderNumbers 47 [.ref (c0 + 16), .int (nI (ia + 1)), .int (nI (ib + 1)), .int 1] [] σ τ _
      refine Rx.go (fun _ => rfl) ?_
      refine Rx.go (fun _ => rfl) ?_
      show Rx X c0 m_Mod_orderNumbers 51 [.ref (c0 + 16), .int (nI (ia + 1)), .int (nI (ib + 1)), .int 1] [] σ τ _
      refine Rx.go (fun _ => rfl) ?_
      refine Rx.go (fun _ => rfl) ?_
      refine Rx.go (fun _ => rfl) ?_
      refine Rx.callE rfl rfl rfl rfl (rx_orderDigits X c0 _ _ hR hia hib) ?_
      show Rx X c0 m_Mod_orderNumbers 57 [.ref (c0 + 16), .int (nI (ia + 1)), .int (nI (ib + 1)), .int 1] [.int (cmpD (bys ts ia) (dotp (bys ts ia)) (bys ts ib) (dotp (bys ts ib)) 30)] σ τ _
      refine Rx.go (fun _ => rfl) ?_
      refine Rx.go (fun _ => rfl) ?_
      show Rx X c0 m_Mod_orderNumbers 67 [.ref (c0 + 16), .int (nI (ia + 1)), .int (nI (ib + 1)), .int 1] [.int (-(cmpD (bys ts ia) (dotp (bys ts ia)) (bys ts ib) (dotp (bys ts ib)) 30))] σ τ _
      exact Rx.ret rfl (ev_reti rfl) ⟨by rw [onum, if_pos (bt_e hR hia (n := 45) rfl (by decide) c1), if_pos (bt_e hR hib (n := 45) rfl (by decide) c3)], rfl, rfl⟩
