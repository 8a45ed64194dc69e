/-! The reference reads inside a text. (rows laid by wip/whole/rr12.py) -/
theorem va_id {α : Type} {τ : Nat → α} {i : Nat} : va_up τ i (τ i) = τ := funext (fun j => by
  by_cases h : j = i
  · subst h; rw [va_up_self]
  · rw [va_up_ne _ _ h])
theorem Rx.vid {X : ev_X} {c0 M pc i : Nat} {A st : List Value} {σ : Nat → Int32} {τ : Nat → Nat → Int32} {Q : Option Value → (Nat → Int32) → (Nat → Nat → Int32) → Prop} (h : Rx X c0 M pc A st σ (va_up τ i (τ i)) Q) : Rx X c0 M pc A st σ τ Q := by
  rw [va_id] at h; exact h
theorem RS.f11 {σ0 σ : Nat → Int32} {τ0 τ : Nat → Nat → Int32} {t d : List Nat} {p k q db : Nat} (h : RS σ0 τ0 t p d k q db σ τ) : σ 11 = nI k := h.2.2.2.2.1
/-- readInside's end: the raw items are a truth or number of kind kk, or a fault at 0 -/
def inP (σ0 : Nat → Int32) (τ0 : Nat → Nat → Int32) (t : List Nat) (p : Nat) (raw : List Nat) (kk : Nat) (r : Option Value) (σ' : Nat → Int32) (τ' : Nat → Nat → Int32) : Prop := r = none ∧ ∃ f, (∃ d, prO raw raw.length d kk ∧ RS σ0 (va_up τ0 20 f) t p d kk 0 0 σ' τ') ∨ (((∃ w, prF raw w) ∨ (∃ q d kd, prO raw q d kd ∧ ¬ (q = raw.length ∧ kd = kk))) ∧ ∃ m, RG σ0 (va_up τ0 20 f) t 0 m 0 σ' τ' ∧ m ≤ 250)
set_option maxRecDepth 100000 in
set_option maxHeartbeats 2000000 in
theorem ri_T1 {X : ev_X} {c0 : Nat} {Q : Option Value → (Nat → Int32) → (Nat → Nat → Int32) → Prop} {σ : Nat → Int32} {τ : Nat → Nat → Int32} {t : List Nat} (hl : t.length ≤ 240) (kk pv : Int32) (v5 v6 v8 : Value) (h20 : ∀ j, j < t.length → τ 20 j = nI (t.getD j 0)) (hQ : ∀ g : Nat → Int32, (∀ j, j < t.length → g j = nI (t.getD j 0)) → Q none (upd (upd (upd σ 18 0) 16 pv) 17 (nI t.length)) (va_up τ 0 g)) : Rx X c0 m_Mod_readInside 205 [.ref (c0 + 16), .int 0, .int kk, .int pv, .int (nI t.length), v5, v6, .int 1, v8] [] σ τ Q := by
  refine Rx.go (fun _ => rfl) ?_
  refine Rx.go (fun _ => rfl) ?_
  refine Rx.put rfl (by decide) rfl rfl ?_
  refine Rx.go (fun _ => rfl) ?_
  refine Rx.go (fun _ => rfl) ?_
  show Rx X c0 m_Mod_readInside 213 [.ref (c0 + 16), .int 0, .int kk, .int pv, .int (nI t.length), v5, v6, .int 1, .int 0] [] (upd σ 18 0) τ _
  show Rx X c0 m_Mod_readInside 213 [.ref (c0 + 16), .int 0, .int kk, .int pv, .int (nI t.length), v5, v6, .int 1, .int 0] [] (upd σ 18 0) τ _
  refine Rx.vid (i := 0) (ri_D hl pv kk 1 v5 v6 h20 (fun g hg => ?_) t.length 0 (τ 0) (by omega) (fun j hj => absurd hj (Nat.not_lt_zero _)))
  refine Rx.go (fun _ => rfl) ?_
  refine Rx.go (fun _ => rfl) ?_
  refine Rx.put rfl (by decide) rfl rfl ?_
  refine Rx.go (fun _ => rfl) ?_
  refine Rx.go (fun _ => rfl) ?_
  refine Rx.put rfl (by decide) rfl rfl ?_
  refine Rx.go (fun _ => rfl) ?_
  refine Rx.go (fun _ => rfl) ?_
  show Rx X c0 m_Mod_readInside 263 [.ref (c0 + 16), .int 0, .int kk, .int pv, .int (nI t.length), v5, v6, .int 1, .int (nI t.length)] [] (upd (upd (upd σ 18 0) 16 pv) 17 (nI t.length)) (va_up τ 0 g) _
  exact Rx.ret rfl rfl (hQ g hg)
set_option maxRecDepth 100000 in
set_option maxHeartbeats 2000000 in
theorem ri_T0 {X : ev_X} {c0 : Nat} {Q : Option Value → (Nat → Int32) → (Nat → Nat → Int32) → Prop} {σ : Nat → Int32} {τ : Nat → Nat → Int32} {t : List Nat} (hl : t.length ≤ 240) (kk pv : Int32) (v5 v6 v8 : Value) (h20 : ∀ j, j < t.length → τ 20 j = nI (t.getD j 0)) (hQ : ∀ g : Nat → Int32, (∀ j, j < t.length → g j = nI (t.getD j 0)) → Q none (rfail (upd (upd (upd σ 18 0) 16 pv) 17 (nI t.length)) 7 0) (va_up τ 0 g)) : Rx X c0 m_Mod_readInside 205 [.ref (c0 + 16), .int 0, .int kk, .int pv, .int (nI t.length), v5, v6, .int 0, v8] [] σ τ Q := by
  refine Rx.go (fun _ => rfl) ?_
  refine Rx.go (fun _ => rfl) ?_
  refine Rx.put rfl (by decide) rfl rfl ?_
  refine Rx.go (fun _ => rfl) ?_
  refine Rx.go (fun _ => rfl) ?_
  show Rx X c0 m_Mod_readInside 213 [.ref (c0 + 16), .int 0, .int kk, .int pv, .int (nI t.length), v5, v6, .int 0, .int 0] [] (upd σ 18 0) τ _
  show Rx X c0 m_Mod_readInside 213 [.ref (c0 + 16), .int 0, .int kk, .int pv, .int (nI t.length), v5, v6, .int 0, .int 0] [] (upd σ 18 0) τ _
  refine Rx.vid (i := 0) (ri_D hl pv kk 0 v5 v6 h20 (fun g hg => ?_) t.length 0 (τ 0) (by omega) (fun j hj => absurd hj (Nat.not_lt_zero _)))
  refine Rx.go (fun _ => rfl) ?_
  refine Rx.go (fun _ => rfl) ?_
  refine Rx.put rfl (by decide) rfl rfl ?_
  refine Rx.go (fun _ => rfl) ?_
  refine Rx.go (fun _ => rfl) ?_
  refine Rx.put rfl (by decide) rfl rfl ?_
  refine Rx.go (fun _ => rfl) ?_
  refine Rx.go (fun _ => rfl) ?_
  show Rx X c0 m_Mod_readInside 256 [.ref (c0 + 16), .int 0, .int kk, .int pv, .int (nI t.length), v5, v6, .int 0, .int (nI t.length)] [] (upd (upd (upd σ 18 0) 16 pv) 17 (nI t.length)) (va_up τ 0 g) _
  refine Rx.go (fun _ => rfl) ?_
  refine Rx.go (fun _ => rfl) ?_
  refine Rx.go (fun _ => rfl) ?_
  refine Rx.callE rfl rfl rfl rfl (rx_fail X c0 _ _ 7 0) ?_
  show Rx X c0 m_Mod_readInside 263 [.ref (c0 + 16), .int 0, .int kk, .int pv, .int (nI t.length), v5, v6, .int 0, .int (nI t.length)] [] (rfail (upd (upd (upd σ 18 0) 16 pv) 17 (nI t.length)) 7 0) (va_up τ 0 g) _
  exact Rx.ret rfl rfl (hQ g hg)
theorem prO_kd {l d : List Nat} {q kd : Nat} (h : prO l q d kd) : kd ≤ 8 := by
  obtain ⟨k, -, -, -, -, rfl⟩ | ⟨-, ds, bf, L, g, -, -, -, -, -, -, rfl⟩ := h
  · exact Nat.le_refl _
  · split <;> decide
set_option maxRecDepth 100000 in
set_option maxHeartbeats 2000000 in
theorem rr_inside {X : ev_X} {c0 : Nat} {σ0 : Nat → Int32} {τ0 : Nat → Nat → Int32} {t : List Nat} {D raw : List Nat} {p k qq db kk : Nat} {σ : Nat → Int32} {τ : Nat → Nat → Int32} (hX : XS X c0) (hD : D.length ≤ 250) (hq : qq = raw.length + 1) (hr : raw.length + 1 ≤ D.length) (hraw : ∀ j, j < raw.length → D.getD (j + 1) 0 = raw.getD j 0) (hrl : raw.length ≤ 240) (hby : ∀ j, raw.getD j 0 < 256) (hkk : kk < 16) (hS : RS σ0 τ0 t p D k qq db σ τ) : Rx X c0 m_Mod_readInside 0 [.ref (c0 + 16), .int 0, .int (nI kk), ev_dead, ev_dead, ev_dead, ev_dead, ev_dead, ev_dead] [] σ τ (inP σ0 τ0 t p raw kk) := by
  have hl := hS.z.tl
  refine Rx.go (fun _ => rfl) ?_
  refine Rx.get rfl rfl ?_
  refine Rx.top (y := nI p) hS.f16 ?_
  refine Rx.go (fun _ => rfl) ?_
  show Rx X c0 m_Mod_readInside 5 [.ref (c0 + 16), .int 0, .int (nI kk), .int (nI p), ev_dead, ev_dead, ev_dead, ev_dead, ev_dead] [] σ τ _
  refine Rx.go (fun _ => rfl) ?_
  refine Rx.get rfl rfl ?_
  refine Rx.top (y := nI t.length) hS.f17 ?_
  refine Rx.go (fun _ => rfl) ?_
  show Rx X c0 m_Mod_readInside 11 [.ref (c0 + 16), .int 0, .int (nI kk), .int (nI p), .int (nI t.length), ev_dead, ev_dead, ev_dead, ev_dead] [] σ τ _
  refine Rx.go (fun _ => rfl) ?_
  refine Rx.go (fun _ => rfl) ?_
  show Rx X c0 m_Mod_readInside 14 [.ref (c0 + 16), .int 0, .int (nI kk), .int (nI p), .int (nI t.length), .int 0, ev_dead, ev_dead, ev_dead] [] σ τ _
  show Rx X c0 m_Mod_readInside 14 [.ref (c0 + 16), .int 0, .int (nI kk), .int (nI p), .int (nI t.length), .int 0, ev_dead, ev_dead, ev_dead] [] σ τ _
  refine Rx.vid (i := 20) (ri_A hl (nI p) (nI kk) _ _ _ hS.1.2.2.1 (fun f hf => ?_) t.length 0 (τ 20) (by omega) (fun j hj => absurd hj (Nat.not_lt_zero _)))
  refine Rx.go (fun _ => rfl) ?_
  refine Rx.get rfl rfl ?_
  refine Rx.top (y := nI qq) hS.f12 ?_
  refine Rx.go (fun _ => rfl) ?_
  refine Rx.go (fun _ => rfl) ?_
  refine Rx.top (y := nI raw.length) (by rw [hq]; exact nI_s1 _) ?_
  refine Rx.go (fun _ => rfl) ?_
  show Rx X c0 m_Mod_readInside 49 [.ref (c0 + 16), .int 0, .int (nI kk), .int (nI p), .int (nI t.length), .int (nI raw.length), ev_dead, ev_dead, ev_dead] [] σ (va_up τ 20 f) _
  refine Rx.go (fun _ => rfl) ?_
  refine Rx.go (fun _ => rfl) ?_
  show Rx X c0 m_Mod_readInside 52 [.ref (c0 + 16), .int 0, .int (nI kk), .int (nI p), .int (nI t.length), .int (nI raw.length), .int 0, ev_dead, ev_dead] [] σ (va_up τ 20 f) _
  show Rx X c0 m_Mod_readInside 52 [.ref (c0 + 16), .int 0, .int (nI kk), .int (nI p), .int (nI t.length), .int (nI raw.length), .int 0, ev_dead, ev_dead] [] σ (va_up τ 20 f) _
  refine Rx.vid (i := 0) (ri_B hrl (nI p) (nI t.length) (nI kk) _ _ (fun j hj => by rw [va_up_ne _ _ (by decide), hS.f9 (by omega), hraw j hj]) (fun g hg => ?_) raw.length 0 (va_up τ 20 f 0) (by omega) (fun j hj => absurd hj (Nat.not_lt_zero _)))
  refine Rx.go (fun _ => rfl) ?_
  refine Rx.go (fun _ => rfl) ?_
  refine Rx.put rfl (by decide) rfl rfl ?_
  refine Rx.go (fun _ => rfl) ?_
  refine Rx.go (fun _ => rfl) ?_
  refine Rx.put rfl (by decide) rfl rfl ?_
  show Rx X c0 m_Mod_readInside 92 [.ref (c0 + 16), .int 0, .int (nI kk), .int (nI p), .int (nI t.length), .int (nI raw.length), .int (nI raw.length), ev_dead, ev_dead] [] (upd (upd σ 16 0) 17 (nI raw.length)) (va_up (va_up τ 20 f) 0 g) _
  refine ri_C (t := raw) hX hD (nI kk) (nI p) (nI t.length) (nI raw.length) _ _ _ (hS.go_in (f := f) hg hrl hby) (fun {q kd d σ' τ'} hO hR => ?_) (fun {w m j σ' τ'} hF hG hm => ?_)
  · have h20 : ∀ j, j < t.length → τ' 20 j = nI (t.getD j 0) := fun j hj => by rw [hR.1.2.1.2.2.2.2.2, va_up_self]; exact hf j hj
    refine Rx.go (fun _ => rfl) ?_
    refine Rx.callE rfl rfl rfl rfl (rz_good hR.z) ?_
    show Rx X c0 m_Mod_readInside 178 [.ref (c0 + 16), .int 0, .int (nI kk), .int (nI p), .int (nI t.length), .int (nI raw.length), .int (hb raw 0), ev_dead, ev_dead] [.int 1] σ' τ' _
    refine Rx.go (fun _ => rfl) ?_
    show Rx X c0 m_Mod_readInside 181 [.ref (c0 + 16), .int 0, .int (nI kk), .int (nI p), .int (nI t.length), .int (nI raw.length), .int (hb raw 0), ev_dead, ev_dead] [] σ' τ' _
    refine Rx.go (fun _ => rfl) ?_
    refine Rx.get rfl rfl ?_
    refine Rx.top (y := nI q) hR.f16 ?_
    refine Rx.go (fun _ => rfl) ?_
    refine Rx.go (fun _ => rfl) ?_
    refine Rx.ite (fun c1 => ?_) (fun c1 => ?_)
    · replace c1 : ¬ (nI q) = (nI raw.length) := of_decide_eq_true c1
      show Rx X c0 m_Mod_readInside 202 [.ref (c0 + 16), .int 0, .int (nI kk), .int (nI p), .int (nI t.length), .int (nI raw.length), .int (hb raw 0), ev_dead, ev_dead] [] σ' τ' _
      refine Rx.go (fun _ => rfl) ?_
      refine Rx.go (fun _ => rfl) ?_
      show Rx X c0 m_Mod_readInside 205 [.ref (c0 + 16), .int 0, .int (nI kk), .int (nI p), .int (nI t.length), .int (nI raw.length), .int (hb raw 0), .int 0, ev_dead] [] σ' τ' _
      show Rx X c0 m_Mod_readInside 205 [.ref (c0 + 16), .int 0, .int (nI kk), .int (nI p), .int (nI t.length), .int (nI raw.length), .int (hb raw 0), .int 0, ev_dead] [] σ' τ' _
      exact ri_T0 hl _ _ _ _ _ h20 (fun g2 hg2 => ⟨rfl, f, Or.inr ⟨Or.inr ⟨_, d, _, hO, fun e => c1 (by rw [e.1])⟩, _, (hR.go_out hg2 hl hS.z.by hS.pl).g (by decide) rfl, by have := prO_len hO; omega⟩⟩)
    · replace c1 : (nI q) = (nI raw.length) := Classical.not_not.mp (of_decide_eq_false c1)
      show Rx X c0 m_Mod_readInside 190 [.ref (c0 + 16), .int 0, .int (nI kk), .int (nI p), .int (nI t.length), .int (nI raw.length), .int (hb raw 0), ev_dead, ev_dead] [] σ' τ' _
      refine Rx.go (fun _ => rfl) ?_
      refine Rx.get rfl rfl ?_
      refine Rx.top (y := nI kd) hR.f11 ?_
      refine Rx.go (fun _ => rfl) ?_
      refine Rx.go (fun _ => rfl) ?_
      refine Rx.ite (fun c2 => ?_) (fun c2 => ?_)
      · replace c2 : ¬ (nI kd) = (nI kk) := of_decide_eq_true c2
        show Rx X c0 m_Mod_readInside 202 [.ref (c0 + 16), .int 0, .int (nI kk), .int (nI p), .int (nI t.length), .int (nI raw.length), .int (hb raw 0), ev_dead, ev_dead] [] σ' τ' _
        refine Rx.go (fun _ => rfl) ?_
        refine Rx.go (fun _ => rfl) ?_
        show Rx X c0 m_Mod_readInside 205 [.ref (c0 + 16), .int 0, .int (nI kk), .int (nI p), .int (nI t.length), .int (nI raw.length), .int (hb raw 0), .int 0, ev_dead] [] σ' τ' _
        show Rx X c0 m_Mod_readInside 205 [.ref (c0 + 16), .int 0, .int (nI kk), .int (nI p), .int (nI t.length), .int (nI raw.length), .int (hb raw 0), .int 0, ev_dead] [] σ' τ' _
        exact ri_T0 hl _ _ _ _ _ h20 (fun g2 hg2 => ⟨rfl, f, Or.inr ⟨Or.inr ⟨_, d, _, hO, fun e => c2 (by rw [e.2])⟩, _, (hR.go_out hg2 hl hS.z.by hS.pl).g (by decide) rfl, by have := prO_len hO; omega⟩⟩)
      · replace c2 : (nI kd) = (nI kk) := Classical.not_not.mp (of_decide_eq_false c2)
        show Rx X c0 m_Mod_readInside 198 [.ref (c0 + 16), .int 0, .int (nI kk), .int (nI p), .int (nI t.length), .int (nI raw.length), .int (hb raw 0), ev_dead, ev_dead] [] σ' τ' _
        refine Rx.go (fun _ => rfl) ?_
        refine Rx.go (fun _ => rfl) ?_
        refine Rx.go (fun _ => rfl) ?_
        show Rx X c0 m_Mod_readInside 205 [.ref (c0 + 16), .int 0, .int (nI kk), .int (nI p), .int (nI t.length), .int (nI raw.length), .int (hb raw 0), .int 1, ev_dead] [] σ' τ' _
        show Rx X c0 m_Mod_readInside 205 [.ref (c0 + 16), .int 0, .int (nI kk), .int (nI p), .int (nI t.length), .int (nI raw.length), .int (hb raw 0), .int 1, ev_dead] [] σ' τ' _
        exact ri_T1 hl _ _ _ _ _ h20 (fun g2 hg2 => ⟨rfl, f, Or.inl ⟨d, by rw [← (nI_eq (by have := hR.pl; omega) (by omega)).mp c1, ← (nI_eq (by have := prO_kd hO; omega) (by omega)).mp c2]; exact hO, (nI_eq (by have := prO_kd hO; omega) (by omega)).mp c2 ▸ hR.go_out hg2 hl hS.z.by hS.pl⟩⟩)
  · have h20 : ∀ j, j < t.length → τ' 20 j = nI (t.getD j 0) := fun j hj => by rw [hG.1.2.1.2.2.2.2.2, va_up_self]; exact hf j hj
    refine Rx.go (fun _ => rfl) ?_
    refine Rx.callE rfl rfl rfl rfl (rg_good hG) ?_
    show Rx X c0 m_Mod_readInside 178 [.ref (c0 + 16), .int 0, .int (nI kk), .int (nI p), .int (nI t.length), .int (nI raw.length), .int (hb raw 0), ev_dead, ev_dead] [.int 0] σ' τ' _
    refine Rx.go (fun _ => rfl) ?_
    show Rx X c0 m_Mod_readInside 202 [.ref (c0 + 16), .int 0, .int (nI kk), .int (nI p), .int (nI t.length), .int (nI raw.length), .int (hb raw 0), ev_dead, ev_dead] [] σ' τ' _
    refine Rx.go (fun _ => rfl) ?_
    refine Rx.go (fun _ => rfl) ?_
    show Rx X c0 m_Mod_readInside 205 [.ref (c0 + 16), .int 0, .int (nI kk), .int (nI p), .int (nI t.length), .int (nI raw.length), .int (hb raw 0), .int 0, ev_dead] [] σ' τ' _
    show Rx X c0 m_Mod_readInside 205 [.ref (c0 + 16), .int 0, .int (nI kk), .int (nI p), .int (nI t.length), .int (nI raw.length), .int (hb raw 0), .int 0, ev_dead] [] σ' τ' _
    exact ri_T0 hl _ _ _ _ _ h20 (fun g2 hg2 => ⟨rfl, f, Or.inr ⟨Or.inl ⟨_, hF⟩, _, hG.go_out hg2 hl hS.z.by hS.pl, hm⟩⟩)
