/-! The reference while it reads: RZ (before begin), RS, RG (a fault at w). -/
def RZ (σ0 : Nat → Int32) (τ0 : Nat → Nat → Int32) (t : List Nat) (p : Nat) (σ : Nat → Int32) (τ : Nat → Nat → Int32) : Prop := rsF σ0 τ0 t σ τ ∧ (σ 16 = nI p ∧ p ≤ t.length) ∧ σ 18 = 0
def RG (σ0 : Nat → Int32) (τ0 : Nat → Nat → Int32) (t : List Nat) (w m j : Nat) (σ : Nat → Int32) (τ : Nat → Nat → Int32) : Prop := rsF σ0 τ0 t σ τ ∧ (∃ p, σ 16 = nI p ∧ p ≤ 240 + j) ∧ σ 18 ≠ 0 ∧ σ 19 = nI w ∧ σ 10 = nI m
section RRR
variable {X : ev_X} {c0 : Nat} {σ0 σ : Nat → Int32} {τ0 τ : Nat → Nat → Int32} {t d : List Nat} {p k q db w m j : Nat}
theorem RS.z (h : RS σ0 τ0 t p d k q db σ τ) : RZ σ0 τ0 t p σ τ := ⟨h.1, h.2.1, h.2.2.1⟩
theorem RZ.tl (h : RZ σ0 τ0 t p σ τ) : t.length ≤ 240 := h.1.2.2.2.1
theorem RZ.by (h : RZ σ0 τ0 t p σ τ) (i : Nat) : t.getD i 0 < 256 := h.1.2.2.2.2.1 i
theorem RS.f16 (h : RS σ0 τ0 t p d k q db σ τ) : σ 16 = nI p := h.2.1.1
theorem RS.f17 (h : RS σ0 τ0 t p d k q db σ τ) : σ 17 = nI t.length := h.1.2.2.2.2.2
theorem RS.f10 (h : RS σ0 τ0 t p d k q db σ τ) : σ 10 = nI d.length := h.2.2.2.1.1
theorem RS.f12 (h : RS σ0 τ0 t p d k q db σ τ) : σ 12 = nI q := h.2.2.2.2.2.1
theorem RS.f13 (h : RS σ0 τ0 t p d k q db σ τ) : σ 13 = nI db := h.2.2.2.2.2.2
theorem RS.pl (h : RS σ0 τ0 t p d k q db σ τ) : p ≤ t.length := h.2.1.2
theorem rz_here (h : RZ σ0 τ0 t p σ τ) : Rx X c0 m_Mod_here 0 [.ref (c0 + 16)] [] σ τ (fun r σ' τ' => r = some (.int (hb t p)) ∧ σ' = σ ∧ τ' = τ) := by
  obtain ⟨⟨h1, h2, h3, h4, h5, h6⟩, ⟨h7, h8⟩, h9⟩ := h
  refine (rx_here X c0 σ τ (by rw [h7]; exact nI_pos (by omega)) (by rw [h6]; exact (nI_leI (by omega) (by decide)).mpr h4)).mono (fun r σ' τ' ⟨e1, e2⟩ => ⟨?_, e2⟩)
  rw [e1]
  unfold rhere hb
  rw [h6, h7]
  by_cases hp : p < t.length
  · rw [if_neg (by rw [nI_leI (by omega) (by omega)]; omega), if_pos hp, nI_clamp (by omega)]; rw [h3 p hp]
  · rw [if_pos (by rw [nI_leI (by omega) (by omega)]; omega), if_neg hp]
theorem rz_good (h : RZ σ0 τ0 t p σ τ) : Rx X c0 m_Mod_isGood 0 [.ref (c0 + 16)] [] σ τ (fun r σ' τ' => r = some (.int 1) ∧ σ' = σ ∧ τ' = τ) :=
  (rx_isGood X c0 σ τ).mono (fun r σ' τ' ⟨e1, e2⟩ => ⟨by rw [e1, h.2.2]; rfl, e2⟩)
theorem rg_good (h : RG σ0 τ0 t w m j σ τ) : Rx X c0 m_Mod_isGood 0 [.ref (c0 + 16)] [] σ τ (fun r σ' τ' => r = some (.int 0) ∧ σ' = σ ∧ τ' = τ) :=
  (rx_isGood X c0 σ τ).mono (fun r σ' τ' ⟨e1, e2⟩ => ⟨by rw [e1, bi_f (decide_eq_false h.2.2.1)], e2⟩)
/-- here, behind a fault: some int -/
theorem rg_here (h : RG σ0 τ0 t w m j σ τ) (hj : j ≤ 100) : Rx X c0 m_Mod_here 0 [.ref (c0 + 16)] [] σ τ (fun r σ' τ' => r = some (.int (rhere σ τ)) ∧ σ' = σ ∧ τ' = τ) := by
  obtain ⟨⟨h1, h2, h3, h4, h5, h6⟩, ⟨p, h7, h8⟩, h9⟩ := h
  exact rx_here X c0 σ τ (by rw [h7]; exact nI_pos (by omega)) (by rw [h6]; exact (nI_leI (by omega) (by decide)).mpr h4)
theorem rz_begin (b : Nat) (h : RZ σ0 τ0 t p σ τ) : Rx X c0 m_Mod_begin 0 [.ref (c0 + 16), .int (nI b)] [] σ τ (fun r σ' τ' => r = none ∧ RS σ0 τ0 t p [] b 0 0 σ' τ') := by
  obtain ⟨h1, h2, h3⟩ := h
  refine (rx_begin X c0 σ τ (nI b)).mono ?_
  rintro r σ' τ' ⟨rfl, rfl, rfl⟩
  exact ⟨rfl, (((h1.upd (by omega)).upd (by omega)).upd (by omega)).upd (by omega), ⟨h2.1, h2.2⟩, h3, ⟨rfl, fun j hj => absurd hj (Nat.not_lt_zero _)⟩, rfl, rfl, rfl⟩
theorem RS.g (h : RS σ0 τ0 t p d k q db σ τ) {c w : Int32} {wn : Nat} (hc : c ≠ 0) (hw : w = nI wn) : RG σ0 τ0 t wn d.length 0 (rfail σ c w) τ := by
  obtain ⟨h1, h2, h3, ⟨h4, h5⟩, -⟩ := h
  rw [rfail, if_pos h3]
  exact ⟨(h1.upd (by omega)).upd (by omega), ⟨p, by rw [pk_un (by decide), pk_un (by decide)]; exact h2.1, by have := h1.2.2.2.1; have := h2.2; omega⟩, by rw [pk_un (by decide), pk_us]; exact hc, by rw [pk_us]; exact hw, by rw [pk_un (by decide), pk_un (by decide)]; exact h4⟩
theorem rs_fl {c w : Int32} {wn : Nat} (h : RS σ0 τ0 t p d k q db σ τ) (hc : c ≠ 0) (hw : w = nI wn) : Rx X c0 m_Mod_fail 0 [.ref (c0 + 16), .int c, .int w] [] σ τ (fun r σ' τ' => r = none ∧ RG σ0 τ0 t wn d.length 0 σ' τ') :=
  (rx_fail X c0 σ τ c w).mono (fun r σ' τ' ⟨e1, e2, e3⟩ => ⟨e1, by rw [e2, e3]; exact h.g hc hw⟩)
theorem rg_fl {c x : Int32} (h : RG σ0 τ0 t w m j σ τ) : Rx X c0 m_Mod_fail 0 [.ref (c0 + 16), .int c, .int x] [] σ τ (fun r σ' τ' => r = none ∧ RG σ0 τ0 t w m j σ' τ') :=
  (rx_fail X c0 σ τ c x).mono (fun r σ' τ' ⟨e1, e2, e3⟩ => ⟨e1, by rw [e2, e3, rfail, if_neg h.2.2.1]; exact h⟩)
theorem rg_put (x : Int32) (h : RG σ0 τ0 t w m j σ τ) (hm : m < 260) : Rx X c0 m_Mod_put 0 [.ref (c0 + 16), .int x] [] σ τ (fun r σ' τ' => r = none ∧ RG σ0 τ0 t w (m + 1) j σ' τ') := by
  obtain ⟨h1, ⟨p, h2, h2'⟩, h3, h4, h5⟩ := h
  refine (rx_put X c0 σ τ x (by rw [h5]; exact nI_ix hm (by decide))).mono ?_
  rintro r σ' τ' ⟨rfl, rfl, rfl⟩
  exact ⟨rfl, (h1.upd (by omega)).upt (by omega), ⟨p, by rw [pk_un (by decide)]; exact h2, h2'⟩, by rw [pk_un (by decide)]; exact h3, by rw [pk_un (by decide)]; exact h4, by rw [pk_us, h5, nI_1]⟩
theorem RG.up {i : Nat} {x : Int32} (h : RG σ0 τ0 t w m j σ τ) (hi : i = 11 ∨ i = 12 ∨ i = 13) : RG σ0 τ0 t w m j (upd σ i x) τ := by
  obtain ⟨h1, ⟨p, h2, h2'⟩, h3, h4, h5⟩ := h
  exact ⟨h1.upd (by omega), ⟨p, by rw [pk_un (by omega)]; exact h2, h2'⟩, by rw [pk_un (by omega)]; exact h3, by rw [pk_un (by omega)]; exact h4, by rw [pk_un (by omega)]; exact h5⟩
theorem RG.at1 (h : RG σ0 τ0 t w m j σ τ) : RG σ0 τ0 t w m (j + 1) (upd σ 16 (σ 16 + 1)) τ := by
  obtain ⟨h1, ⟨p, h2, h2'⟩, h3, h4, h5⟩ := h
  exact ⟨h1.upd (by omega), ⟨p + 1, by rw [pk_us, h2, nI_1], by omega⟩, by rw [pk_un (by omega)]; exact h3, by rw [pk_un (by omega)]; exact h4, by rw [pk_un (by omega)]; exact h5⟩
/-- over -/
theorem rs_ov_t (h : RS σ0 τ0 t p d k q db σ τ) (hp : p < t.length) : Rx X c0 m_Mod_over 0 [.ref (c0 + 16), .int 1] [] σ τ (fun r σ' τ' => r = none ∧ RS σ0 τ0 t (p + 1) d k q db σ' τ') :=
  (rs_over true h).mono (fun r σ' τ' ⟨e1, e2⟩ => ⟨e1, by rw [if_pos hp, if_pos rfl] at e2; exact e2⟩)
theorem rs_ov_f (g : Bool) (h : RS σ0 τ0 t p d k q db σ τ) (hp : ¬ (p < t.length ∧ g = true)) : Rx X c0 m_Mod_over 0 [.ref (c0 + 16), .int (bi g)] [] σ τ (fun r σ' τ' => r = none ∧ RG σ0 τ0 t p d.length 0 σ' τ') := by
  refine (rx_over X c0 σ τ g).mono ?_
  rintro r σ' τ' ⟨rfl, rfl, rfl⟩
  refine ⟨rfl, ?_⟩
  have h16 := h.f16
  have h17 := h.f17
  have hl := h.z.tl
  have hpl := h.pl
  rw [rover, h16, h17]
  by_cases hlt : p < t.length
  · have hne : ¬ nI p = nI t.length := by rw [nI_eq (by omega) (by omega)]; omega
    rw [if_neg hne, if_neg (fun e => hp ⟨hlt, e⟩)]
    exact h.g (by decide) rfl
  · rw [if_pos (by rw [show p = t.length by omega])]
    exact h.g (by decide) (by rw [show p = t.length by omega])
theorem rg_ov (x : Bool) (h : RG σ0 τ0 t w m j σ τ) : Rx X c0 m_Mod_over 0 [.ref (c0 + 16), .int (bi x)] [] σ τ (fun r σ' τ' => r = none ∧ RG σ0 τ0 t w m (j + 1) σ' τ') := by
  have h2 : ∀ a b, RG σ0 τ0 t w m (j + 1) (rfail σ a b) τ := fun a b => by
    rw [rfail, if_neg h.2.2.1]
    obtain ⟨h1, ⟨p, h2, h2'⟩, h3⟩ := h
    exact ⟨h1, ⟨p, h2, by omega⟩, h3⟩
  refine (rx_over X c0 σ τ x).mono (fun r σ' τ' ⟨e1, e2, e3⟩ => ⟨e1, ?_⟩)
  rw [e2, e3, rover]
  split
  · exact h2 _ _
  · split
    · exact h.at1
    · exact h2 _ _
theorem RS.k1 {x : Nat} (h : RS σ0 τ0 t p d k q db σ τ) : RS σ0 τ0 t p d x q db (upd σ 11 (nI x)) τ := by
  obtain ⟨h1, h2, h3, ⟨h4, h5⟩, h6, h7, h8⟩ := h
  exact ⟨h1.upd (by omega), ⟨by rw [pk_un (by decide)]; exact h2.1, h2.2⟩, by rw [pk_un (by decide)]; exact h3, ⟨by rw [pk_un (by decide)]; exact h4, h5⟩, by rw [pk_us], by rw [pk_un (by decide)]; exact h7, by rw [pk_un (by decide)]; exact h8⟩
theorem RS.q1 {x : Nat} (h : RS σ0 τ0 t p d k q db σ τ) : RS σ0 τ0 t p d k x db (upd σ 12 (nI x)) τ := by
  obtain ⟨h1, h2, h3, ⟨h4, h5⟩, h6, h7, h8⟩ := h
  exact ⟨h1.upd (by omega), ⟨by rw [pk_un (by decide)]; exact h2.1, h2.2⟩, by rw [pk_un (by decide)]; exact h3, ⟨by rw [pk_un (by decide)]; exact h4, h5⟩, by rw [pk_un (by decide)]; exact h6, by rw [pk_us], by rw [pk_un (by decide)]; exact h8⟩
end RRR
/-- a reader's end: read on to o.2.1, or a fault at o.2.1 -/
def rQ {α : Type} (σ0 : Nat → Int32) (τ0 : Nat → Nat → Int32) (t : List Nat) (o : Bool × Nat × α) (G : Nat → α → (Nat → Int32) → (Nat → Nat → Int32) → Prop) (r : Option Value) (σ' : Nat → Int32) (τ' : Nat → Nat → Int32) : Prop := r = none ∧ if o.1 = true then G o.2.1 o.2.2 σ' τ' else ∃ m j, RG σ0 τ0 t o.2.1 m j σ' τ' ∧ m ≤ 250 ∧ j ≤ 20
theorem rQ_t {α : Type} {σ0 : Nat → Int32} {τ0 : Nat → Nat → Int32} {t : List Nat} {o : Bool × Nat × α} {G : Nat → α → (Nat → Int32) → (Nat → Nat → Int32) → Prop} {σ' : Nat → Int32} {τ' : Nat → Nat → Int32} {q : Nat} {b : α} (e : o = (true, q, b)) (h : G q b σ' τ') : rQ σ0 τ0 t o G none σ' τ' := by
  subst e
  exact ⟨rfl, by rw [if_pos rfl]; exact h⟩
theorem rQ_f {α : Type} {σ0 : Nat → Int32} {τ0 : Nat → Nat → Int32} {t : List Nat} {o : Bool × Nat × α} {G : Nat → α → (Nat → Int32) → (Nat → Nat → Int32) → Prop} {σ' : Nat → Int32} {τ' : Nat → Nat → Int32} {q m j : Nat} {b : α} (e : o = (false, q, b)) (h : RG σ0 τ0 t q m j σ' τ') (hm : m ≤ 250) (hj : j ≤ 20) : rQ σ0 τ0 t o G none σ' τ' := by
  subst e
  exact ⟨rfl, by rw [if_neg Bool.false_ne_true]; exact ⟨m, j, h, hm, hj⟩⟩
