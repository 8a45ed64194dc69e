/-! The reference reads inside a text: the tape aside and again. (rows laid by wip/whole/rr10.py) -/
section RI
variable {σ0 σ : Nat → Int32} {τ0 τ : Nat → Nat → Int32} {t raw d : List Nat} {p q k qq db w m j : Nat} {f g : Nat → Int32}
/-- the tape is another: the raw items of a text -/
theorem RS.go_in (h : RS σ0 τ0 t p d k qq db σ τ) (hg : ∀ j, j < raw.length → g j = nI (raw.getD j 0)) (hl : raw.length ≤ 240) (hby : ∀ j, raw.getD j 0 < 256) : RS σ0 (va_up τ0 20 f) raw 0 d k qq db (upd (upd σ 16 0) 17 (nI raw.length)) (va_up (va_up τ 20 f) 0 g) := by
  obtain ⟨⟨⟨a1, a2, a3, a4, a5⟩, ⟨b1, b2, b3, b4, b5, b6⟩, h7, h8, h9, h10⟩, ⟨c1, c2⟩, c3, ⟨c4, c5⟩, c6, c7, c8⟩ := h
  refine ⟨⟨⟨a1, a2, a3, a4, a5⟩, ⟨b1, b2, b3, b4, b5, rfl⟩, fun j hj => ?_, hl, hby, rfl⟩, ⟨rfl, Nat.zero_le _⟩, c3, ⟨c4, fun j hj => c5 j hj⟩, c6, c7, c8⟩
  rw [va_up_self]; exact hg j hj
theorem RS.go_out (h : RS σ0 τ0 raw q d k qq db σ τ) (hg : ∀ j, j < t.length → g j = nI (t.getD j 0)) (hl : t.length ≤ 240) (hby : ∀ j, t.getD j 0 < 256) (hp : p ≤ t.length) : RS σ0 τ0 t p d k qq db (upd (upd (upd σ 18 0) 16 (nI p)) 17 (nI t.length)) (va_up τ 0 g) := by
  obtain ⟨⟨⟨a1, a2, a3, a4, a5⟩, ⟨b1, b2, b3, b4, b5, b6⟩, h7, h8, h9, h10⟩, ⟨c1, c2⟩, c3, ⟨c4, c5⟩, c6, c7, c8⟩ := h
  refine ⟨⟨⟨a1, a2, a3, a4, a5⟩, ⟨b1, b2, b3, b4, b5, b6⟩, fun j hj => ?_, hl, hby, rfl⟩, ⟨rfl, hp⟩, rfl, ⟨c4, fun j hj => c5 j hj⟩, c6, c7, c8⟩
  rw [va_up_self]; exact hg j hj
theorem RG.go_out (h : RG σ0 τ0 raw w m j σ τ) (hg : ∀ j, j < t.length → g j = nI (t.getD j 0)) (hl : t.length ≤ 240) (hby : ∀ j, t.getD j 0 < 256) (hp : p ≤ t.length) : RG σ0 τ0 t 0 m 0 (rfail (upd (upd (upd σ 18 0) 16 (nI p)) 17 (nI t.length)) 7 0) (va_up τ 0 g) := by
  obtain ⟨⟨⟨a1, a2, a3, a4, a5⟩, ⟨b1, b2, b3, b4, b5, b6⟩, h7, h8, h9, h10⟩, -, -, -, h5⟩ := h
  rw [rfail, if_pos (show upd (upd (upd σ 18 0) 16 (nI p)) 17 (nI t.length) 18 = 0 from rfl)]
  refine ⟨⟨⟨a1, a2, a3, a4, a5⟩, ⟨b1, b2, b3, b4, b5, b6⟩, fun j hj => ?_, hl, hby, rfl⟩, ⟨p, rfl, by omega⟩, (show (7 : Int32) ≠ 0 by decide), rfl, h5⟩
  rw [va_up_self]; exact hg j hj
end RI
theorem upd_ext {f : Nat → Int32} {v : Nat → Int32} {i : Nat} (h : ∀ j, j < i → f j = v j) : ∀ j, j < i + 1 → upd f i (v i) j = v j := fun j hj => by
  by_cases q : j = i
  · subst q; rw [pk_us]
  · rw [pk_un q]; exact h j (by omega)
set_option maxRecDepth 100000 in
set_option maxHeartbeats 2000000 in
theorem ri_A {X : ev_X} {c0 : Nat} {Q : Option Value → (Nat → Int32) → (Nat → Nat → Int32) → Prop} {σ : Nat → Int32} {t : List Nat} (hl : t.length ≤ 240) (pv kk : Int32) (v6 v7 v8 : Value) {τ : Nat → Nat → Int32} (h0 : ∀ j, j < t.length → τ 0 j = nI (t.getD j 0)) (hK : ∀ f : Nat → Int32, (∀ j, j < t.length → f j = nI (t.getD j 0)) → Rx X c0 m_Mod_readInside 41 [.ref (c0 + 16), .int 0, .int kk, .int pv, .int (nI t.length), .int (nI t.length), v6, v7, v8] [] σ (va_up τ 20 f) Q) : ∀ (m i : Nat) (f : Nat → Int32) (hm : i + m = t.length) (hf : ∀ j, j < i → f j = nI (t.getD j 0)), Rx X c0 m_Mod_readInside 14 [.ref (c0 + 16), .int 0, .int kk, .int pv, .int (nI t.length), .int (nI i), v6, v7, v8] [] σ (va_up τ 20 f) Q := by
  intro m
  induction m with
  | zero =>
    intro i f hm hf
    refine Rx.go (fun _ => rfl) ?_
    refine Rx.go (fun _ => rfl) ?_
    refine Rx.go (fun _ => rfl) ?_
    refine Rx.ite (fun c1 => ?_) (fun c1 => ?_)
    · replace c1 : (nI t.length) ≤ (nI i) := of_decide_eq_true c1
      show Rx X c0 m_Mod_readInside 41 [.ref (c0 + 16), .int 0, .int kk, .int pv, .int (nI t.length), .int (nI i), v6, v7, v8] [] σ (va_up τ 20 f) _
      show Rx X c0 m_Mod_readInside 41 [.ref (c0 + 16), .int 0, .int kk, .int pv, .int (nI t.length), .int (nI i), v6, v7, v8] [] σ (va_up τ 20 f) _
      have e : i = t.length := by omega
      subst e
      exact hK f hf
    · replace c1 : ¬ (nI t.length) ≤ (nI i) := of_decide_eq_false c1
      exact absurd (show nI t.length ≤ nI i by rw [show i = t.length by omega]; exact Int32.le_refl _) c1
  | succ m ih =>
    intro i f hm hf
    refine Rx.go (fun _ => rfl) ?_
    refine Rx.go (fun _ => rfl) ?_
    refine Rx.go (fun _ => rfl) ?_
    refine Rx.ite (fun c1 => ?_) (fun c1 => ?_)
    · replace c1 : (nI t.length) ≤ (nI i) := of_decide_eq_true c1
      exact absurd ((nI_leI (by omega) (by omega)).mp c1) (by omega)
    · replace c1 : ¬ (nI t.length) ≤ (nI i) := of_decide_eq_false c1
      show Rx X c0 m_Mod_readInside 21 [.ref (c0 + 16), .int 0, .int kk, .int pv, .int (nI t.length), .int (nI i), v6, v7, v8] [] σ (va_up τ 20 f) _
      refine Rx.go (fun _ => rfl) ?_
      refine Rx.get rfl rfl ?_
      refine Rx.go (fun _ => rfl) ?_
      refine Rx.go (fun _ => rfl) ?_
      refine Rx.get rfl rfl ?_
      refine Rx.go (fun _ => rfl) ?_
      refine Rx.aldE (v := nI (t.getD i 0)) 0 rfl rfl (nI_ix (show i < 240 by omega) (by decide)) (by rw [va_up_ne _ _ (by decide), nI_clamp (by omega)]; exact h0 i (by omega)) ?_
      refine Rx.ast 20 rfl rfl (nI_ix (show i < 240 by omega) (by decide)) ?_
      refine Rx.go (fun _ => rfl) ?_
      show Rx X c0 m_Mod_readInside 38 [.ref (c0 + 16), .int 0, .int kk, .int pv, .int (nI t.length), .int ((nI i) + 1), v6, v7, v8] [] σ (va_up (va_up τ 20 f) 20 (upd ((va_up τ 20 f) 20) (nI i).toNatClampNeg (nI (t.getD i 0)))) _
      refine Rx.go (fun _ => rfl) ?_
      show Rx X c0 m_Mod_readInside 14 [.ref (c0 + 16), .int 0, .int kk, .int pv, .int (nI t.length), .int ((nI i) + 1), v6, v7, v8] [] σ (va_up (va_up τ 20 f) 20 (upd ((va_up τ 20 f) 20) (nI i).toNatClampNeg (nI (t.getD i 0)))) _
      rw [show nI i + 1 = nI (i + 1) from nI_1 i, va_uu, va_up_self, nI_clamp (by omega)]
      exact ih (i + 1) _ (by omega) (upd_ext (v := fun j => nI (t.getD j 0)) hf)
set_option maxRecDepth 100000 in
set_option maxHeartbeats 2000000 in
theorem ri_B {X : ev_X} {c0 : Nat} {Q : Option Value → (Nat → Int32) → (Nat → Nat → Int32) → Prop} {σ : Nat → Int32} {raw : List Nat} (hl : raw.length ≤ 240) (pv ev kk : Int32) (v7 v8 : Value) {τ : Nat → Nat → Int32} (h9 : ∀ j, j < raw.length → τ 9 (j + 1) = nI (raw.getD j 0)) (hK : ∀ g : Nat → Int32, (∀ j, j < raw.length → g j = nI (raw.getD j 0)) → Rx X c0 m_Mod_readInside 81 [.ref (c0 + 16), .int 0, .int kk, .int pv, .int ev, .int (nI raw.length), .int (nI raw.length), v7, v8] [] σ (va_up τ 0 g) Q) : ∀ (m i : Nat) (g : Nat → Int32) (hm : i + m = raw.length) (hg : ∀ j, j < i → g j = nI (raw.getD j 0)), Rx X c0 m_Mod_readInside 52 [.ref (c0 + 16), .int 0, .int kk, .int pv, .int ev, .int (nI raw.length), .int (nI i), v7, v8] [] σ (va_up τ 0 g) Q := by
  intro m
  induction m with
  | zero =>
    intro i g hm hg
    refine Rx.go (fun _ => rfl) ?_
    refine Rx.go (fun _ => rfl) ?_
    refine Rx.go (fun _ => rfl) ?_
    refine Rx.ite (fun c1 => ?_) (fun c1 => ?_)
    · replace c1 : (nI raw.length) ≤ (nI i) := of_decide_eq_true c1
      show Rx X c0 m_Mod_readInside 81 [.ref (c0 + 16), .int 0, .int kk, .int pv, .int ev, .int (nI raw.length), .int (nI i), v7, v8] [] σ (va_up τ 0 g) _
      show Rx X c0 m_Mod_readInside 81 [.ref (c0 + 16), .int 0, .int kk, .int pv, .int ev, .int (nI raw.length), .int (nI i), v7, v8] [] σ (va_up τ 0 g) _
      have e : i = raw.length := by omega
      subst e
      exact hK g hg
    · replace c1 : ¬ (nI raw.length) ≤ (nI i) := of_decide_eq_false c1
      exact absurd (show nI raw.length ≤ nI i by rw [show i = raw.length by omega]; exact Int32.le_refl _) c1
  | succ m ih =>
    intro i g hm hg
    refine Rx.go (fun _ => rfl) ?_
    refine Rx.go (fun _ => rfl) ?_
    refine Rx.go (fun _ => rfl) ?_
    refine Rx.ite (fun c1 => ?_) (fun c1 => ?_)
    · replace c1 : (nI raw.length) ≤ (nI i) := of_decide_eq_true c1
      exact absurd ((nI_leI (by omega) (by omega)).mp c1) (by omega)
    · replace c1 : ¬ (nI raw.length) ≤ (nI i) := of_decide_eq_false c1
      show Rx X c0 m_Mod_readInside 59 [.ref (c0 + 16), .int 0, .int kk, .int pv, .int ev, .int (nI raw.length), .int (nI i), v7, v8] [] σ (va_up τ 0 g) _
      refine Rx.go (fun _ => rfl) ?_
      refine Rx.get rfl rfl ?_
      refine Rx.go (fun _ => rfl) ?_
      refine Rx.go (fun _ => rfl) ?_
      refine Rx.get rfl rfl ?_
      refine Rx.go (fun _ => rfl) ?_
      refine Rx.go (fun _ => rfl) ?_
      refine Rx.go (fun _ => rfl) ?_
      refine Rx.top (y := nI (i + 1)) (nI_1 i) ?_
      refine Rx.aldE (v := nI (raw.getD i 0)) 9 rfl rfl (nI_ix (show i + 1 < 260 by omega) (by decide)) (by rw [va_up_ne _ _ (by decide), nI_clamp (by omega)]; exact h9 i (by omega)) ?_
      refine Rx.ast 0 rfl rfl (nI_ix (show i < 240 by omega) (by decide)) ?_
      refine Rx.go (fun _ => rfl) ?_
      show Rx X c0 m_Mod_readInside 78 [.ref (c0 + 16), .int 0, .int kk, .int pv, .int ev, .int (nI raw.length), .int ((nI i) + 1), v7, v8] [] σ (va_up (va_up τ 0 g) 0 (upd ((va_up τ 0 g) 0) (nI i).toNatClampNeg (nI (raw.getD i 0)))) _
      refine Rx.go (fun _ => rfl) ?_
      show Rx X c0 m_Mod_readInside 52 [.ref (c0 + 16), .int 0, .int kk, .int pv, .int ev, .int (nI raw.length), .int ((nI i) + 1), v7, v8] [] σ (va_up (va_up τ 0 g) 0 (upd ((va_up τ 0 g) 0) (nI i).toNatClampNeg (nI (raw.getD i 0)))) _
      rw [show nI i + 1 = nI (i + 1) from nI_1 i, va_uu, va_up_self, nI_clamp (by omega)]
      exact ih (i + 1) _ (by omega) (upd_ext (v := fun j => nI (raw.getD j 0)) hg)
set_option maxRecDepth 100000 in
set_option maxHeartbeats 2000000 in
theorem ri_D {X : ev_X} {c0 : Nat} {Q : Option Value → (Nat → Int32) → (Nat → Nat → Int32) → Prop} {σ : Nat → Int32} {t : List Nat} (hl : t.length ≤ 240) (pv kk gv : Int32) (v5 v6 : Value) {τ : Nat → Nat → Int32} (h20 : ∀ j, j < t.length → τ 20 j = nI (t.getD j 0)) (hK : ∀ g : Nat → Int32, (∀ j, j < t.length → g j = nI (t.getD j 0)) → Rx X c0 m_Mod_readInside 240 [.ref (c0 + 16), .int 0, .int kk, .int pv, .int (nI t.length), v5, v6, .int gv, .int (nI t.length)] [] σ (va_up τ 0 g) Q) : ∀ (m i : Nat) (g : Nat → Int32) (hm : i + m = t.length) (hg : ∀ j, j < i → g j = nI (t.getD j 0)), Rx X c0 m_Mod_readInside 213 [.ref (c0 + 16), .int 0, .int kk, .int pv, .int (nI t.length), v5, v6, .int gv, .int (nI i)] [] σ (va_up τ 0 g) Q := by
  intro m
  induction m with
  | zero =>
    intro i g hm hg
    refine Rx.go (fun _ => rfl) ?_
    refine Rx.go (fun _ => rfl) ?_
    refine Rx.go (fun _ => rfl) ?_
    refine Rx.ite (fun c1 => ?_) (fun c1 => ?_)
    · replace c1 : (nI t.length) ≤ (nI i) := of_decide_eq_true c1
      show Rx X c0 m_Mod_readInside 240 [.ref (c0 + 16), .int 0, .int kk, .int pv, .int (nI t.length), v5, v6, .int gv, .int (nI i)] [] σ (va_up τ 0 g) _
      show Rx X c0 m_Mod_readInside 240 [.ref (c0 + 16), .int 0, .int kk, .int pv, .int (nI t.length), v5, v6, .int gv, .int (nI i)] [] σ (va_up τ 0 g) _
      have e : i = t.length := by omega
      subst e
      exact hK g hg
    · replace c1 : ¬ (nI t.length) ≤ (nI i) := of_decide_eq_false c1
      exact absurd (show nI t.length ≤ nI i by rw [show i = t.length by omega]; exact Int32.le_refl _) c1
  | succ m ih =>
    intro i g hm hg
    refine Rx.go (fun _ => rfl) ?_
    refine Rx.go (fun _ => rfl) ?_
    refine Rx.go (fun _ => rfl) ?_
    refine Rx.ite (fun c1 => ?_) (fun c1 => ?_)
    · replace c1 : (nI t.length) ≤ (nI i) := of_decide_eq_true c1
      exact absurd ((nI_leI (by omega) (by omega)).mp c1) (by omega)
    · replace c1 : ¬ (nI t.length) ≤ (nI i) := of_decide_eq_false c1
      show Rx X c0 m_Mod_readInside 220 [.ref (c0 + 16), .int 0, .int kk, .int pv, .int (nI t.length), v5, v6, .int gv, .int (nI i)] [] σ (va_up τ 0 g) _
      refine Rx.go (fun _ => rfl) ?_
      refine Rx.get rfl rfl ?_
      refine Rx.go (fun _ => rfl) ?_
      refine Rx.go (fun _ => rfl) ?_
      refine Rx.get rfl rfl ?_
      refine Rx.go (fun _ => rfl) ?_
      refine Rx.aldE (v := nI (t.getD i 0)) 20 rfl rfl (nI_ix (show i < 240 by omega) (by decide)) (by rw [va_up_ne _ _ (by decide), nI_clamp (by omega)]; exact h20 i (by omega)) ?_
      refine Rx.ast 0 rfl rfl (nI_ix (show i < 240 by omega) (by decide)) ?_
      refine Rx.go (fun _ => rfl) ?_
      show Rx X c0 m_Mod_readInside 237 [.ref (c0 + 16), .int 0, .int kk, .int pv, .int (nI t.length), v5, v6, .int gv, .int ((nI i) + 1)] [] σ (va_up (va_up τ 0 g) 0 (upd ((va_up τ 0 g) 0) (nI i).toNatClampNeg (nI (t.getD i 0)))) _
      refine Rx.go (fun _ => rfl) ?_
      show Rx X c0 m_Mod_readInside 213 [.ref (c0 + 16), .int 0, .int kk, .int pv, .int (nI t.length), v5, v6, .int gv, .int ((nI i) + 1)] [] σ (va_up (va_up τ 0 g) 0 (upd ((va_up τ 0 g) 0) (nI i).toNatClampNeg (nI (t.getD i 0)))) _
      rw [show nI i + 1 = nI (i + 1) from nI_1 i, va_uu, va_up_self, nI_clamp (by omega)]
      exact ih (i + 1) _ (by omega) (upd_ext (v := fun j => nI (t.getD j 0)) hg)
