/-! Every call on both sides. -/
def JP {α : Type} (mk : α → Value) (X : ev_X) (c0 z n : Nat) (σ : Nat → Int32) (τ : Nat → Nat → Int32) (h : ev_H) (eq : Prop) (mA mB : Nat) (A B : List Value) : Prop := ∃ P R, Ex X mA 0 A [] h P ∧ Rx X c0 mB 0 B [] σ τ R ∧ PV mk c0 z n σ τ eq P R
theorem Hx.rcall {X : ev_X} {c0 M pc nx a b w idx : Nat} {A st as rest A0 : List Value} {h : ev_H} {σ : Nat → Int32} {τ : Nat → Nat → Int32} {Q : Option Value → ev_H → Prop} {Q1 : Option Value → (Nat → Int32) → (Nat → Nat → Int32) → Prop} (o : pg_ops M pc = some (.invokevirtual idx, nx, a, b, w)) (hM : RM c0 h σ τ) (ha : ev_argI (pg_n a) st = some (c0 + 16, as, rest)) (hc : pg_c a = 6) (he : ev_ent (pg_L a) (.ref (c0 + 16) :: as) = some A0) (k1 : Rx X c0 a 0 A0 [] σ τ Q1) (k2 : ∀ v σ' τ' h1, Q1 v σ' τ' → RM c0 h1 σ' τ' → RF c0 h h1 → Ex X M nx A (v.toList ++ rest) h1 Q) : Ex X M pc A st h Q := by
  refine Ex.call (rest := rest) o rfl ?_ he (k1 h hM) (fun v h1 ⟨σ', τ', q1, q2, q3⟩ => k2 v σ' τ' h1 q3 q1 q2)
  have hrc : ev_rcv X h (c0 + 16) (pg_c a) = true := by unfold ev_rcv; rw [hM.1, hc]; rfl
  simp only [ev_cal, ha, hrc, if_true]
section JPS
variable {X : ev_X} {c0 z u pl : Nat} {t o : List Nat} {T : List Tm} {F : Nat → Option va_E} {σ : Nat → Int32} {τ : Nat → Nat → Int32}
theorem CC.ok (hC : CC c0 t T u o pl F) : oT T := hC.2.2.2.2.2
theorem RC.n7 (hR : RC (T.map en) t u pl o σ τ) : σ 7 = nI T.length := by have := hR.1.1; rw [m_len] at this; exact this
theorem RC.no (hR : RC (T.map en) t u pl o σ τ) (a : Int32) : (noT σ a ∧ (a < 1 ∨ (¬ a < 1 ∧ nI T.length < a))) ∨ ∃ i, i < T.length ∧ i < (T.map en).length ∧ a = nI (i + 1) := by
  rcases hR.num a with h | ⟨i, hi, e⟩
  · exact Or.inl ⟨h, no_cl hR.n7 h⟩
  · exact Or.inr ⟨i, by rw [m_len] at hi; exact hi, hi, e⟩
theorem jp_place (hC : CC c0 t T u o pl F) (hM : RM c0 (hp c0 (26 + 5 * T.length) z F) σ τ) (hR : RC (T.map en) t u pl o σ τ) (hc : cT T) : JP Value.int X c0 z T.length σ τ (hp c0 (26 + 5 * T.length) z F) True m_Tab_place m_Mod_place [.ref (c0 + 0)] [.ref (c0 + 16)] :=
  ⟨_, _, q_place hC, rc_place hR, pv_same hM hc (fun _ => rfl)⟩
theorem jp_count (hC : CC c0 t T u o pl F) (hM : RM c0 (hp c0 (26 + 5 * T.length) z F) σ τ) (hR : RC (T.map en) t u pl o σ τ) (hc : cT T) : JP Value.int X c0 z T.length σ τ (hp c0 (26 + 5 * T.length) z F) True m_Tab_count m_Mod_count [.ref (c0 + 0)] [.ref (c0 + 16)] :=
  ⟨_, _, q_count hC, rc_count hR, pv_same hM hc (fun _ => by rw [m_len])⟩
theorem jp_used (hC : CC c0 t T u o pl F) (hM : RM c0 (hp c0 (26 + 5 * T.length) z F) σ τ) (hR : RC (T.map en) t u pl o σ τ) (hc : cT T) : JP Value.int X c0 z T.length σ τ (hp c0 (26 + 5 * T.length) z F) True m_Tab_used m_Mod_used [.ref (c0 + 0)] [.ref (c0 + 16)] :=
  ⟨_, _, q_used hC, rc_used hR, pv_same hM hc (fun _ => rfl)⟩
theorem jp_kind (hC : CC c0 t T u o pl F) (hM : RM c0 (hp c0 (26 + 5 * T.length) z F) σ τ) (hR : RC (T.map en) t u pl o σ τ) (hc : cT T) (a : Int32) : JP Value.int X c0 z T.length σ τ (hp c0 (26 + 5 * T.length) z F) True m_Tab_kind m_Mod_kind [.ref (c0 + 0), .int a, ev_dead] [.ref (c0 + 16), .int a] := by
  rcases hR.no a with ⟨h1, h2⟩ | ⟨i, hi, hi', rfl⟩
  · exact ⟨_, _, q_kind_no hC h2, hR.id (rx_kind_no X c0 σ τ a h1), pv_same hM hc (fun _ => rfl)⟩
  · exact ⟨_, _, q_kind_in hC hi, hR.id (rx_kind_i X c0 σ τ hR.1 hi'), pv_same hM hc (fun _ => by rw [m_knd hi, kd_e (hC.ok i hi)])⟩
/-- scale, of the reference -/
theorem rx_scale_m (hR : RC (T.map en) t u pl o σ τ) (hc : cT T) (ho : oT T) {i : Nat} (hi : i < T.length) : Rx X c0 m_Mod_scale 0 [.ref (c0 + 16), .int (nI (i + 1)), ev_dead, ev_dead] [] σ τ (fun r σ' τ' => r = some (.int (nI (T.getD i tm0).2.2.1)) ∧ σ' = σ ∧ τ' = τ) := by
  have hi' : i < (T.map en).length := by rw [m_len]; exact hi
  by_cases h4 : knd (T.map en) i = 4
  · have hx := hc i hi
    have ox := ho i hi
    have hk := h4
    have hb := m_bys hi
    rw [m_knd hi] at hk
    rcases hx with ⟨b, e, -⟩ | ⟨b, e, -⟩ | ⟨v, e⟩ | ⟨v, p, e, hc4⟩ | ⟨b, e⟩ | ⟨b, c, e, -⟩ | ⟨b, c, e, -⟩ | e | e <;> rw [e] at hk
    · exact absurd (show 1 = 4 from hk) (by decide)
    · exact absurd (show 2 = 4 from hk) (by decide)
    · exact absurd (show 3 = 4 from hk) (by decide)
    · rw [e] at ox hb
      obtain ⟨k1, k2⟩ := scl_4 hc4 ox
      have h := rx_scale_4 X c0 σ τ hR.1 hi' h4 (by rw [hb]; exact k1)
      rw [hb, k2] at h
      rw [e]
      exact h
    · exact absurd (show 5 = 4 from hk) (by decide)
    · exact absurd (show 6 = 4 from hk) (by decide)
    · exact absurd (show 7 = 4 from hk) (by decide)
    · exact absurd (show 8 = 4 from hk) (by decide)
    · exact absurd (show 8 = 4 from hk) (by decide)
  · have h := rx_scale_0 X c0 σ τ hR.1 hi' h4
    have h0 : (T.getD i tm0).2.2.1 = 0 := by
      rw [m_knd hi] at h4
      rcases hc i hi with ⟨b, e, -⟩ | ⟨b, e, -⟩ | ⟨v, e⟩ | ⟨v, p, e, hc4⟩ | ⟨b, e⟩ | ⟨b, c, e, -⟩ | ⟨b, c, e, -⟩ | e | e <;> rw [e] at h4 ⊢
      exact absurd rfl h4
    rw [h0]
    exact h
theorem jp_scale (hC : CC c0 t T u o pl F) (hM : RM c0 (hp c0 (26 + 5 * T.length) z F) σ τ) (hR : RC (T.map en) t u pl o σ τ) (hc : cT T) (a : Int32) : JP Value.int X c0 z T.length σ τ (hp c0 (26 + 5 * T.length) z F) True m_Tab_scale m_Mod_scale [.ref (c0 + 0), .int a, ev_dead] [.ref (c0 + 16), .int a, ev_dead, ev_dead] := by
  rcases hR.no a with ⟨h1, h2⟩ | ⟨i, hi, hi', rfl⟩
  · exact ⟨_, _, q_scale_no hC h2, hR.id (rx_scale_no X c0 σ τ a h1), pv_same hM hc (fun _ => rfl)⟩
  · exact ⟨_, _, q_scale_in hC hi, hR.id (rx_scale_m hR hc hC.ok hi), pv_same hM hc (fun _ => rfl)⟩
/-- what value answers, of the reference -/
def vlR (ts : RT) (i p : Nat) : Int64 := if knd ts i = 3 ∨ knd ts i = 4 then vlu (nI p) (bys ts i) else if knd ts i = 8 then (if (bys ts i).getD 0 0 = 116 then 1 else 0) else 0
theorem rx_value_m (hR : RC (T.map en) t u pl o σ τ) (hc : cT T) (ho : oT T) {i : Nat} (hi : i < T.length) : Rx X c0 m_Mod_value 0 [.ref (c0 + 16), .int (nI (i + 1)), ev_dead, ev_dead, ev_dead, ev_dead, ev_dead, ev_dead] [] σ τ (fun r σ' τ' => r = some (.long (vlR (T.map en) i (T.getD i tm0).2.2.1)) ∧ σ' = σ ∧ τ' = τ) := by
  have hi' : i < (T.map en).length := by rw [m_len]; exact hi
  unfold vlR
  by_cases h : knd (T.map en) i = 3 ∨ knd (T.map en) i = 4
  · rw [if_pos h]; exact rx_value_n X c0 σ τ hR.1 hi' h (rx_scale_m hR hc ho hi)
  · rw [if_neg h]
    by_cases h8 : knd (T.map en) i = 8
    · rw [if_pos h8]; exact rx_value_t X c0 σ τ hR.1 hi' h8
    · rw [if_neg h8]; exact rx_value_0 X c0 σ τ hR.1 hi' h8 h
theorem jp_value {eq : Prop} (hC : CC c0 t T u o pl F) (hM : RM c0 (hp c0 (26 + 5 * T.length) z F) σ τ) (hR : RC (T.map en) t u pl o σ τ) (hc : cT T) (he : ∀ i, i < T.length → eq → (T.getD i tm0).2.1 = vlR (T.map en) i (T.getD i tm0).2.2.1) (a : Int32) : JP Value.long X c0 z T.length σ τ (hp c0 (26 + 5 * T.length) z F) eq m_Tab_value m_Mod_value [.ref (c0 + 0), .int a, ev_dead] [.ref (c0 + 16), .int a, ev_dead, ev_dead, ev_dead, ev_dead, ev_dead, ev_dead] := by
  rcases hR.no a with ⟨h1, h2⟩ | ⟨i, hi, hi', rfl⟩
  · exact ⟨_, _, q_value_no hC h2, hR.id (rx_value_no X c0 σ τ a h1), pv_same hM hc (fun _ => rfl)⟩
  · exact ⟨_, _, q_value_in hC hi, hR.id (rx_value_m hR hc hC.ok hi), pv_same hM hc (he i hi)⟩
theorem jp_write (hS : XS X c0) (hC : CC c0 t T u o pl F) (hM : RM c0 (hp c0 (26 + 5 * T.length) z F) σ τ) (hR : RC (T.map en) t u pl o σ τ) (hc : cT T) (a : Int32) : JP Value.int X c0 z T.length σ τ (hp c0 (26 + 5 * T.length) z F) True m_Tab_write m_Mod_write [.ref (c0 + 0), .int a, ev_dead] [.ref (c0 + 16), .int a, ev_dead] := by
  rcases hR.no a with ⟨h1, h2⟩ | ⟨i, hi, hi', rfl⟩
  · exact ⟨_, _, q_write_no hC h2, hR.id (rx_write_no X c0 σ τ a h1), pv_same hM hc (fun _ => rfl)⟩
  · obtain ⟨r, hr, hv⟩ := (hC.ok i hi).2.2.1
    have hm : mag (T.getD i tm0).2.1 = r := by
      rcases hv with e | e
      · rw [e]; exact mag_s (s := false) hr
      · rw [e]; exact mag_s (s := true) hr
    have hb : bys (T.map en) i = wrW (T.getD i tm0) r := by rw [m_bys hi, ← hm]; rfl
    have hw := rc_write (X := X) (c0 := c0) hR hi'
    rw [hb] at hw
    exact ⟨_, _, q_write_in hC hS hi hr hv, hw, pv_same hM hc (fun _ => rfl)⟩
theorem jp_written (hC : CC c0 t T u o pl F) (hM : RM c0 (hp c0 (26 + 5 * T.length) z F) σ τ) (hR : RC (T.map en) t u pl o σ τ) (hc : cT T) (a : Int32) : JP Value.int X c0 z T.length σ τ (hp c0 (26 + 5 * T.length) z F) True m_Tab_written m_Mod_written [.ref (c0 + 0), .int a] [.ref (c0 + 16), .int a] :=
  ⟨_, _, q_written hC a, rc_written hR a, pv_same hM hc (fun _ => wtO_wat (Nat.le_trans hR.2.2.2.1.2.1 (by decide)) a)⟩
theorem jp_part (hC : CC c0 t T u o pl F) (hM : RM c0 (hp c0 (26 + 5 * T.length) z F) σ τ) (hR : RC (T.map en) t u pl o σ τ) (hc : cT T) (hT : T.length ≤ 600) (a b : Int32) : JP Value.int X c0 z T.length σ τ (hp c0 (26 + 5 * T.length) z F) True m_Tab_part m_Mod_part [.ref (c0 + 0), .int a, .int b, ev_dead] [.ref (c0 + 16), .int a, .int b, ev_dead, ev_dead] := by
  rcases hR.no a with ⟨h1, h2⟩ | ⟨i, hi, hi', rfl⟩
  · exact ⟨_, _, q_part_no hC h2 b, hR.id (rx_part_no X c0 σ τ a h1 b), pv_same hM hc (fun _ => rfl)⟩
  · exact ⟨_, _, q_part_in hC hi b, rc_part (room hc hC.ok hT) hR hi' (by rw [m_knd hi, m_quo hi, m_bys hi]; exact pt_bd (hc i hi)) (by rw [m_bys hi]; exact Nat.le_trans (en_len (hc i hi) (hC.ok i hi)) (by decide)) b, pv_part hM hc hC.ok (by omega) hi b⟩
theorem jp_type (hC : CC c0 t T u o pl F) (hM : RM c0 (hp c0 (26 + 5 * T.length) z F) σ τ) (hR : RC (T.map en) t u pl o σ τ) (hc : cT T) (v : Int64) (b : Int32) : JP Value.int X c0 z T.length σ τ (hp c0 (26 + 5 * T.length) z F) True m_Tab_type m_Mod_type [.ref (c0 + 0), .long v, ev_dead, .int b, ev_dead] [.ref (c0 + 16), .long v, ev_dead, .int b, ev_dead] :=
  ⟨_, _, q_type hC v b, rc_type hR v b, pv_type hM hc v b⟩
theorem jp_whole (hC : CC c0 t T u o pl F) (hM : RM c0 (hp c0 (26 + 5 * T.length) z F) σ τ) (hR : RC (T.map en) t u pl o σ τ) (hc : cT T) (hT : T.length ≤ 600) (v : Int64) : JP Value.int X c0 z T.length σ τ (hp c0 (26 + 5 * T.length) z F) True m_Tab_whole m_Mod_whole [.ref (c0 + 0), .long v, ev_dead] [.ref (c0 + 16), .long v, ev_dead] :=
  ⟨_, _, q_whole hC v, rc_whole (room hc hC.ok hT) hR v, pv_whole hM hc hC.ok (by omega) v⟩
theorem jp_decimal (hC : CC c0 t T u o pl F) (hM : RM c0 (hp c0 (26 + 5 * T.length) z F) σ τ) (hR : RC (T.map en) t u pl o σ τ) (hc : cT T) (hT : T.length ≤ 600) (v : Int64) (b : Int32) : JP Value.int X c0 z T.length σ τ (hp c0 (26 + 5 * T.length) z F) True m_Tab_decimal m_Mod_decimal [.ref (c0 + 0), .long v, ev_dead, .int b] [.ref (c0 + 16), .long v, ev_dead, .int b] :=
  ⟨_, _, q_decimal hC v b, rc_decimal (room hc hC.ok hT) hR v b, pv_decimal hM hc hC.ok (by omega) v b⟩
theorem jp_read (hS : XS X c0) (hC : CC c0 t T u o pl F) (hM : RM c0 (hp c0 (26 + 5 * T.length) z F) σ τ) (hR : RC (T.map en) t u pl o σ τ) (hc : cT T) (hT : T.length ≤ 600) : JP Value.int X c0 z T.length σ τ (hp c0 (26 + 5 * T.length) z F) False m_Tab_read m_Mod_read [.ref (c0 + 0), ev_dead] [.ref (c0 + 16)] :=
  ⟨_, _, q_read hC hS (fun h => sAll_ok hR.2.1.2.2.2 h), rr_read hS (room hc hC.ok hT) hR, pv_read hM hc hC.ok (by omega) hR.2.1.2.2.2⟩
theorem jp_find (hS : XS X c0) (hC : CC c0 t T u o pl F) (hM : RM c0 (hp c0 (26 + 5 * T.length) z F) σ τ) (hR : RC (T.map en) t u pl o σ τ) (hc : cT T) : JP Value.int X c0 z T.length σ τ (hp c0 (26 + 5 * T.length) z F) False m_Tab_find m_Mod_find [.ref (c0 + 0), ev_dead] [.ref (c0 + 16), ev_dead] :=
  ⟨_, _, q_find hC hS (fun h => sAll_ok hR.2.1.2.2.2 h), rr_find hS hR, pv_find hM hc hR.2.1.2.2.2⟩
/-- what order, same, less answer, of the reference -/
def orR (T : List Tm) (i j : Nat) : Int32 := if i = j then 0 else ordv (knd (T.map en) i) (knd (T.map en) j) (bys (T.map en) i) (bys (T.map en) j) (T.getD i tm0).2.2.2.1 (T.getD j tm0).2.2.2.1 (tlR (T.getD i tm0)) (tlR (T.getD j tm0))
def saR (T : List Tm) (i j : Nat) : Int32 := if i = j then 1 else samv (knd (T.map en) i) (knd (T.map en) j) (bys (T.map en) i) (bys (T.map en) j)
def leR (T : List Tm) (i j : Nat) : Int32 := lesv (knd (T.map en) i) (knd (T.map en) j) (bys (T.map en) i) (bys (T.map en) j) (orR T i j)
theorem jp_order {eq : Prop} (hC : CC c0 t T u o pl F) (hM : RM c0 (hp c0 (26 + 5 * T.length) z F) σ τ) (hR : RC (T.map en) t u pl o σ τ) (hc : cT T) (he : ∀ i j, i < T.length → j < T.length → eq → orT (T.getD i tm0) (T.getD j tm0) = orR T i j) (a b : Int32) : JP Value.int X c0 z T.length σ τ (hp c0 (26 + 5 * T.length) z F) eq m_Tab_order m_Mod_order [.ref (c0 + 0), .int a, .int b, ev_dead, ev_dead] [.ref (c0 + 16), .int a, .int b, ev_dead, ev_dead] := by
  rcases hR.no a with ⟨h1, h2⟩ | ⟨i, hi, hi', rfl⟩
  · rcases hR.no b with ⟨h3, h4⟩ | ⟨j, hj, hj', rfl⟩
    · exact ⟨_, _, q_order_nn hC h2 h4, hR.id (rx_order_noa X c0 σ τ a _ h1), pv_same hM hc (fun _ => rfl)⟩
    · exact ⟨_, _, q_order_ni hC h2 hj, hR.id (rx_order_noa X c0 σ τ a _ h1), pv_same hM hc (fun _ => rfl)⟩
  · rcases hR.no b with ⟨h3, h4⟩ | ⟨j, hj, hj', rfl⟩
    · exact ⟨_, _, q_order_in hC hi h4, hR.id (rx_order_nob X c0 σ τ hR.1 hi' b h3), pv_same hM hc (fun _ => rfl)⟩
    · exact ⟨_, _, q_order_ii hC hi hj, hR.id (rx_order X c0 σ τ hR.1 hi' hj' (twf_m hc hi) (twf_m hc hj)), pv_same hM hc (he i j hi hj)⟩
theorem jp_same {eq : Prop} (hC : CC c0 t T u o pl F) (hM : RM c0 (hp c0 (26 + 5 * T.length) z F) σ τ) (hR : RC (T.map en) t u pl o σ τ) (hc : cT T) (he : ∀ i j, i < T.length → j < T.length → eq → smT (T.getD i tm0) (T.getD j tm0) = saR T i j) (a b : Int32) : JP Value.int X c0 z T.length σ τ (hp c0 (26 + 5 * T.length) z F) eq m_Tab_same m_Mod_same [.ref (c0 + 0), .int a, .int b, ev_dead, ev_dead] [.ref (c0 + 16), .int a, .int b, ev_dead] := by
  rcases hR.no a with ⟨h1, h2⟩ | ⟨i, hi, hi', rfl⟩
  · rcases hR.no b with ⟨h3, h4⟩ | ⟨j, hj, hj', rfl⟩
    · exact ⟨_, _, q_same_nn hC h2 h4, hR.id (rx_same_noa X c0 σ τ a _ h1), pv_same hM hc (fun _ => rfl)⟩
    · exact ⟨_, _, q_same_ni hC h2 hj, hR.id (rx_same_noa X c0 σ τ a _ h1), pv_same hM hc (fun _ => rfl)⟩
  · rcases hR.no b with ⟨h3, h4⟩ | ⟨j, hj, hj', rfl⟩
    · exact ⟨_, _, q_same_in hC hi h4, hR.id (rx_same_nob X c0 σ τ hR.1 hi' b h3), pv_same hM hc (fun _ => rfl)⟩
    · exact ⟨_, _, q_same_ii hC hi hj, hR.id (rx_same X c0 σ τ hR.1 hi' hj'), pv_same hM hc (he i j hi hj)⟩
theorem jp_less {eq : Prop} (hC : CC c0 t T u o pl F) (hM : RM c0 (hp c0 (26 + 5 * T.length) z F) σ τ) (hR : RC (T.map en) t u pl o σ τ) (hc : cT T) (he : ∀ i j, i < T.length → j < T.length → eq → lsT (T.getD i tm0) (T.getD j tm0) = leR T i j) (a b : Int32) : JP Value.int X c0 z T.length σ τ (hp c0 (26 + 5 * T.length) z F) eq m_Tab_less m_Mod_less [.ref (c0 + 0), .int a, .int b, ev_dead, ev_dead] [.ref (c0 + 16), .int a, .int b, ev_dead] := by
  rcases hR.no a with ⟨h1, h2⟩ | ⟨i, hi, hi', rfl⟩
  · rcases hR.no b with ⟨h3, h4⟩ | ⟨j, hj, hj', rfl⟩
    · exact ⟨_, _, q_less_nn hC h2 h4, hR.id (rx_less_noa X c0 σ τ a _ h1), pv_same hM hc (fun _ => rfl)⟩
    · exact ⟨_, _, q_less_ni hC h2 hj, hR.id (rx_less_noa X c0 σ τ a _ h1), pv_same hM hc (fun _ => rfl)⟩
  · rcases hR.no b with ⟨h3, h4⟩ | ⟨j, hj, hj', rfl⟩
    · exact ⟨_, _, q_less_in hC hi h4, hR.id (rx_less_nob X c0 σ τ hR.1 hi' b h3), pv_same hM hc (fun _ => rfl)⟩
    · exact ⟨_, _, q_less_ii hC hi hj, hR.id (rx_less X c0 σ τ hR.1 hi' hj' (twf_m hc hi) (twf_m hc hj)), pv_same hM hc (he i j hi hj)⟩
end JPS
