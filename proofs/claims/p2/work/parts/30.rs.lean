/-! The reference while it reads: RS (no fault yet: at p of the tape t, with the draft d, its kind, quote and bytes), RQ (fault c at w). -/
def rsF (σ0 : Nat → Int32) (τ0 : Nat → Nat → Int32) (t : List Nat) (σ : Nat → Int32) (τ : Nat → Nat → Int32) : Prop := (σ 1 = σ0 1 ∧ σ 2 = σ0 2 ∧ σ 7 = σ0 7 ∧ σ 8 = σ0 8 ∧ σ 15 = σ0 15) ∧ (τ 3 = τ0 3 ∧ τ 4 = τ0 4 ∧ τ 5 = τ0 5 ∧ τ 6 = τ0 6 ∧ τ 14 = τ0 14 ∧ τ 20 = τ0 20) ∧ (∀ j, j < t.length → τ 0 j = nI (t.getD j 0)) ∧ t.length ≤ 240 ∧ (∀ j, t.getD j 0 < 256) ∧ σ 17 = nI t.length
def RS (σ0 : Nat → Int32) (τ0 : Nat → Nat → Int32) (t : List Nat) (p : Nat) (d : List Nat) (k q db : Nat) (σ : Nat → Int32) (τ : Nat → Nat → Int32) : Prop := rsF σ0 τ0 t σ τ ∧ (σ 16 = nI p ∧ p ≤ t.length) ∧ σ 18 = 0 ∧ (σ 10 = nI d.length ∧ ∀ j, j < d.length → τ 9 j = nI (d.getD j 0)) ∧ σ 11 = nI k ∧ σ 12 = nI q ∧ σ 13 = nI db
def RQ (σ0 : Nat → Int32) (τ0 : Nat → Nat → Int32) (t : List Nat) (c w m : Nat) (σ : Nat → Int32) (τ : Nat → Nat → Int32) : Prop := rsF σ0 τ0 t σ τ ∧ (∃ p, σ 16 = nI p ∧ p ≤ 300) ∧ (σ 18 = nI c ∧ 0 < c ∧ c < 16) ∧ σ 19 = nI w ∧ σ 10 = nI m
/-- the byte at p of the tape, -1 behind it -/
def hb (t : List Nat) (p : Nat) : Int32 := if p < t.length then nI (t.getD p 0) else -1
section RSR
variable {X : ev_X} {c0 : Nat} {σ0 σ : Nat → Int32} {τ0 τ : Nat → Nat → Int32} {t d : List Nat} {p k q db c w m : Nat}
theorem rsF.upd {j : Nat} {x : Int32} (h : rsF σ0 τ0 t σ τ) (hj : j = 10 ∨ j = 11 ∨ j = 12 ∨ j = 13 ∨ j = 16 ∨ j = 18 ∨ j = 19 ∨ j = 22 ∨ j = 23) : rsF σ0 τ0 t (upd σ j x) τ := by
  obtain ⟨⟨h1, h2, h3, h4, h5⟩, h6, h7, h8, h9, h10⟩ := h
  refine ⟨⟨?_, ?_, ?_, ?_, ?_⟩, h6, h7, h8, h9, ?_⟩ <;> (rw [pk_un (by omega)]; assumption)
theorem rsF.upt {j : Nat} {f : Nat → Int32} (h : rsF σ0 τ0 t σ τ) (hj : j = 9 ∨ j = 21) : rsF σ0 τ0 t σ (va_up τ j f) := by
  obtain ⟨h0, ⟨h1, h2, h3, h4, h5, h6⟩, h7, h8, h9, h10⟩ := h
  refine ⟨h0, ⟨?_, ?_, ?_, ?_, ?_, ?_⟩, ?_, h8, h9, h10⟩
  all_goals (try (rw [va_up_ne _ _ (by omega)]; assumption))
theorem RS.tl (h : RS σ0 τ0 t p d k q db σ τ) : t.length ≤ 240 := h.1.2.2.2.1
theorem RS.here (h : RS σ0 τ0 t p d k q db σ τ) : rhere σ τ = hb t p := by
  obtain ⟨⟨-, -, h3, h4, h5, h6⟩, ⟨h7, h8⟩, -⟩ := h
  unfold rhere hb
  rw [h6, h7]
  by_cases hp : p < t.length
  · rw [if_neg (by rw [nI_leI (by omega) (by omega)]; omega), if_pos hp, nI_clamp (by omega)]; exact h3 p hp
  · rw [if_pos (by rw [nI_leI (by omega) (by omega)]; omega), if_neg hp]
theorem rs_here (h : RS σ0 τ0 t p d k q db σ τ) : Rx X c0 m_Mod_here 0 [.ref (c0 + 16)] [] σ τ (fun r σ' τ' => r = some (.int (hb t p)) ∧ σ' = σ ∧ τ' = τ) :=
  (rx_here X c0 σ τ (by rw [h.2.1.1]; exact nI_pos (by have := h.tl; have := h.2.1.2; omega)) (by rw [h.1.2.2.2.2.2]; exact (nI_leI (by have := h.tl; omega) (by decide)).mpr h.tl)).mono (fun r σ' τ' ⟨e1, e2⟩ => ⟨by rw [e1, h.here], e2⟩)
theorem rs_good (h : RS σ0 τ0 t p d k q db σ τ) : Rx X c0 m_Mod_isGood 0 [.ref (c0 + 16)] [] σ τ (fun r σ' τ' => r = some (.int 1) ∧ σ' = σ ∧ τ' = τ) :=
  (rx_isGood X c0 σ τ).mono (fun r σ' τ' ⟨e1, e2⟩ => ⟨by rw [e1, h.2.2.1]; rfl, e2⟩)
theorem RQ.ne (h : RQ σ0 τ0 t c w m σ τ) : ¬ σ 18 = 0 := by rw [h.2.2.1.1]; exact nI_ne0 h.2.2.1.2.1 (by have := h.2.2.1.2.2; omega)
theorem rq_good (h : RQ σ0 τ0 t c w m σ τ) : Rx X c0 m_Mod_isGood 0 [.ref (c0 + 16)] [] σ τ (fun r σ' τ' => r = some (.int 0) ∧ σ' = σ ∧ τ' = τ) :=
  (rx_isGood X c0 σ τ).mono (fun r σ' τ' ⟨e1, e2⟩ => ⟨by rw [e1, bi_f (decide_eq_false h.ne)], e2⟩)
theorem getD_snoc {l : List Nat} {b j : Nat} (h : j < l.length + 1) : (l ++ [b]).getD j 0 = if j < l.length then l.getD j 0 else b := by
  rw [List.getD_eq_getElem?_getD]
  split
  · next q => rw [List.getElem?_append_left q, ← List.getD_eq_getElem?_getD]
  · next q => rw [List.getElem?_append_right (by omega), show j - l.length = 0 by omega]; rfl
theorem rs_put (b : Nat) (h : RS σ0 τ0 t p d k q db σ τ) (hd : d.length < 260) : Rx X c0 m_Mod_put 0 [.ref (c0 + 16), .int (nI b)] [] σ τ (fun r σ' τ' => r = none ∧ RS σ0 τ0 t p (d ++ [b]) k q db σ' τ') := by
  obtain ⟨h1, h2, h3, ⟨h4, h5⟩, h6, h7, h8⟩ := h
  refine (rx_put X c0 σ τ (nI b) (by rw [h4]; exact nI_ix hd (by decide))).mono ?_
  rintro r σ' τ' ⟨rfl, rfl, rfl⟩
  refine ⟨rfl, (h1.upd (by omega)).upt (by omega), ?_, ?_, ⟨?_, ?_⟩, ?_, ?_, ?_⟩
  · exact ⟨by rw [pk_un (by decide)]; exact h2.1, h2.2⟩
  · rw [pk_un (by decide)]; exact h3
  · rw [pk_us, h4, nI_1, List.length_append]; rfl
  · intro j hj
    rw [va_up_self, h4, nI_clamp (by omega)]
    simp only [List.length_append, List.length_cons, List.length_nil] at hj
    rw [getD_snoc hj]
    split
    · next q => rw [pk_un (by omega)]; exact h5 j q
    · next q => rw [show j = d.length by omega, pk_us]
  · rw [pk_un (by decide)]; exact h6
  · rw [pk_un (by decide)]; exact h7
  · rw [pk_un (by decide)]; exact h8
theorem rq_put (x : Int32) (h : RQ σ0 τ0 t c w m σ τ) (hm : m < 260) : Rx X c0 m_Mod_put 0 [.ref (c0 + 16), .int x] [] σ τ (fun r σ' τ' => r = none ∧ RQ σ0 τ0 t c w (m + 1) σ' τ') := by
  obtain ⟨h1, ⟨p, h2, h2'⟩, h3, h4, h5⟩ := h
  refine (rx_put X c0 σ τ x (by rw [h5]; exact nI_ix hm (by decide))).mono ?_
  rintro r σ' τ' ⟨rfl, rfl, rfl⟩
  refine ⟨rfl, (h1.upd (by omega)).upt (by omega), ⟨p, by rw [pk_un (by decide)]; exact h2, h2'⟩, ⟨by rw [pk_un (by decide)]; exact h3.1, h3.2⟩, by rw [pk_un (by decide)]; exact h4, by rw [pk_us, h5, nI_1]⟩
theorem RS.fail {c w : Nat} (h : RS σ0 τ0 t p d k q db σ τ) (hc : 0 < c) (hc' : c < 16) : RQ σ0 τ0 t c w d.length (rfail σ (nI c) (nI w)) τ := by
  obtain ⟨h1, h2, h3, ⟨h4, h5⟩, -⟩ := h
  rw [rfail, if_pos h3]
  refine ⟨(h1.upd (by omega)).upd (by omega), ⟨p, by rw [pk_un (by decide), pk_un (by decide)]; exact h2.1, by have := h1.2.2.2.1; have := h2.2; omega⟩, ⟨by rw [pk_un (by decide), pk_us], hc, hc'⟩, by rw [pk_us], by rw [pk_un (by decide), pk_un (by decide)]; exact h4⟩
theorem RQ.fail {x y : Int32} (h : RQ σ0 τ0 t c w m σ τ) : RQ σ0 τ0 t c w m (rfail σ x y) τ := by rw [rfail, if_neg h.ne]; exact h
theorem rs_fail {c w : Nat} (h : RS σ0 τ0 t p d k q db σ τ) (hc : 0 < c) (hc' : c < 16) : Rx X c0 m_Mod_fail 0 [.ref (c0 + 16), .int (nI c), .int (nI w)] [] σ τ (fun r σ' τ' => r = none ∧ RQ σ0 τ0 t c w d.length σ' τ') :=
  (rx_fail X c0 σ τ (nI c) (nI w)).mono (fun r σ' τ' ⟨e1, e2, e3⟩ => ⟨e1, by rw [e2, e3]; exact h.fail hc hc'⟩)
theorem rq_fail (x y : Int32) (h : RQ σ0 τ0 t c w m σ τ) : Rx X c0 m_Mod_fail 0 [.ref (c0 + 16), .int x, .int y] [] σ τ (fun r σ' τ' => r = none ∧ RQ σ0 τ0 t c w m σ' τ') :=
  (rx_fail X c0 σ τ x y).mono (fun r σ' τ' ⟨e1, e2, e3⟩ => ⟨e1, by rw [e2, e3]; exact h.fail⟩)
theorem RS.at1 (h : RS σ0 τ0 t p d k q db σ τ) (hp : p < t.length) : RS σ0 τ0 t (p + 1) d k q db (upd σ 16 (nI (p + 1))) τ := by
  obtain ⟨h1, h2, h3, ⟨h4, h5⟩, h6, h7, h8⟩ := h
  exact ⟨h1.upd (by omega), ⟨by rw [pk_us], hp⟩, by rw [pk_un (by decide)]; exact h3, ⟨by rw [pk_un (by decide)]; exact h4, h5⟩, by rw [pk_un (by decide)]; exact h6, by rw [pk_un (by decide)]; exact h7, by rw [pk_un (by decide)]; exact h8⟩
theorem RS.db1 {x : Nat} (h : RS σ0 τ0 t p d k q db σ τ) : RS σ0 τ0 t p d k q x (upd σ 13 (nI x)) τ := by
  obtain ⟨h1, h2, h3, ⟨h4, h5⟩, h6, h7, h8⟩ := h
  exact ⟨h1.upd (by omega), ⟨by rw [pk_un (by decide)]; exact h2.1, h2.2⟩, by rw [pk_un (by decide)]; exact h3, ⟨by rw [pk_un (by decide)]; exact h4, h5⟩, by rw [pk_un (by decide)]; exact h6, by rw [pk_un (by decide)]; exact h7, by rw [pk_us]⟩
/-- over: a byte that must stand here -/
theorem rs_over (g : Bool) (h : RS σ0 τ0 t p d k q db σ τ) : Rx X c0 m_Mod_over 0 [.ref (c0 + 16), .int (bi g)] [] σ τ (fun r σ' τ' => r = none ∧ if p < t.length then (if g = true then RS σ0 τ0 t (p + 1) d k q db σ' τ' else RQ σ0 τ0 t 3 p d.length σ' τ') else RQ σ0 τ0 t 2 t.length d.length σ' τ') := by
  refine (rx_over X c0 σ τ g).mono ?_
  rintro r σ' τ' ⟨rfl, rfl, rfl⟩
  refine ⟨rfl, ?_⟩
  have h16 := h.2.1.1
  have h17 := h.1.2.2.2.2.2
  have hl := h.tl
  have hp := h.2.1.2
  rw [rover, h16, h17]
  by_cases hlt : p < t.length
  · have hne : ¬ nI p = nI t.length := by rw [nI_eq (by omega) (by omega)]; omega
    rw [if_pos hlt]
    cases g
    · rw [if_neg hne, if_neg Bool.false_ne_true]
      exact h.fail (c := 3) (by decide) (by decide)
    · rw [if_neg hne, if_pos rfl, nI_1]
      exact h.at1 hlt
  · rw [if_neg hlt, if_pos (by rw [show p = t.length by omega])]
    exact h.fail (c := 2) (by decide) (by decide)
theorem rs_begin (b : Nat) (h : RS σ0 τ0 t p d k q db σ τ) : Rx X c0 m_Mod_begin 0 [.ref (c0 + 16), .int (nI b)] [] σ τ (fun r σ' τ' => r = none ∧ RS σ0 τ0 t p [] b 0 0 σ' τ') := by
  obtain ⟨h1, h2, h3, -⟩ := h
  refine (rx_begin X c0 σ τ (nI b)).mono ?_
  rintro r σ' τ' ⟨rfl, rfl, rfl⟩
  exact ⟨rfl, (((h1.upd (by omega)).upd (by omega)).upd (by omega)).upd (by omega), ⟨h2.1, h2.2⟩, h3, ⟨rfl, fun j hj => absurd hj (Nat.not_lt_zero _)⟩, rfl, rfl, rfl⟩
end RSR
