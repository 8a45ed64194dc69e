section
/-! The law over any script. (rows laid by wip/whole/law2.py) -/
set_option maxRecDepth 100000 in
set_option maxHeartbeats 2000000 in
theorem lw_k0 {X : ev_X} {c0 z u pl i : Nat} {t o : List Nat} {T : List Tm} {F : Nat → Option va_E} {σ : Nat → Int32} {τ : Nat → Nat → Int32} {Q : Option Value → ev_H → Prop} (hX : X.1.1 < c0) (hS : XS X c0) (hi : i + 4 ≤ X.1.2.1) (hN : X.1.2.1 ≤ 2 ^ 31) (hC : CC c0 t T u o pl F) (hM : RM c0 (hp c0 (26 + 5 * T.length) z F) σ τ) (hR : RC (T.map en) t u pl o σ τ) (hc : cT T) (hT : T.length ≤ 600) (K : ∀ h', JE c0 z T.length h' → Ex X 157 607 [.ref X.1.1, .ref (c0 + 0), .ref (c0 + 16), .int (nI i)] [] h' Q) : Ex X 157 116 [.ref X.1.1, .ref (c0 + 0), .ref (c0 + 16), .int (nI i)] [] (hp c0 (26 + 5 * T.length) z F) Q := by
  have h0 : (hp c0 (26 + 5 * T.length) z F).2.2 X.1.1 = none := hp_lo hX
  obtain ⟨P, R, kC, kR, pv⟩ := jp_type (X := X) hC hM hR hc (((X.1.2.2 (nI (i + 1)).toNatClampNeg).toInt64 <<< ((32 : Int32).toInt64 &&& 63)) ||| ((X.1.2.2 (nI (i + 2)).toNatClampNeg).toInt64 &&& 4294967295)) (X.1.2.2 (nI (i + 3)).toNatClampNeg)
  refine Ex.nx rfl ?_
  refine Ex.nx rfl ?_
  refine Ex.nx rfl ?_
  refine Ex.nx rfl ?_
  refine Ex.nx rfl ?_
  refine Hx.top (y := nI (i + 1)) (nI_1 i) ?_
  refine Hx.sald rfl h0 (nI_ix (by omega) hN) ?_
  refine Ex.nx rfl ?_
  refine Ex.nx rfl ?_
  refine Ex.nx rfl ?_
  refine Ex.nx rfl ?_
  refine Ex.nx rfl ?_
  refine Ex.nx rfl ?_
  refine Ex.nx rfl ?_
  refine Hx.top (y := nI (i + 2)) (nI_k2 i) ?_
  refine Hx.sald rfl h0 (nI_ix (by omega) hN) ?_
  refine Ex.nx rfl ?_
  refine Ex.nx rfl ?_
  refine Ex.nx rfl ?_
  refine Ex.nx rfl ?_
  refine Ex.nx rfl ?_
  refine Ex.nx rfl ?_
  refine Ex.nx rfl ?_
  refine Ex.nx rfl ?_
  refine Hx.top (y := nI (i + 3)) (nI_k3 i) ?_
  refine Hx.sald rfl h0 (nI_ix (by omega) hN) ?_
  refine Hx.callX 0 rfl rfl hC.r0 rfl rfl kC ?_
  intro v h1 hP
  obtain ⟨hM1, a, rfl, k⟩ := pv v h1 hP
  clear h0
  have h0 := hM1.2.2 _ hX
  show Ex X 157 145 [.ref X.1.1, .ref (c0 + 0), .ref (c0 + 16), .int (nI i)] [.int a] h1 Q
  refine Ex.nx rfl ?_
  refine Ex.nx rfl ?_
  refine Ex.nx rfl ?_
  refine Ex.nx rfl ?_
  refine Ex.nx rfl ?_
  refine Ex.nx rfl ?_
  refine Hx.top (y := nI (i + 1)) (nI_1 i) ?_
  refine Hx.sald rfl h0 (nI_ix (by omega) hN) ?_
  refine Ex.nx rfl ?_
  refine Ex.nx rfl ?_
  refine Ex.nx rfl ?_
  refine Ex.nx rfl ?_
  refine Ex.nx rfl ?_
  refine Ex.nx rfl ?_
  refine Ex.nx rfl ?_
  refine Hx.top (y := nI (i + 2)) (nI_k2 i) ?_
  refine Hx.sald rfl h0 (nI_ix (by omega) hN) ?_
  refine Ex.nx rfl ?_
  refine Ex.nx rfl ?_
  refine Ex.nx rfl ?_
  refine Ex.nx rfl ?_
  refine Ex.nx rfl ?_
  refine Ex.nx rfl ?_
  refine Ex.nx rfl ?_
  refine Ex.nx rfl ?_
  refine Hx.top (y := nI (i + 3)) (nI_k3 i) ?_
  refine Hx.sald rfl h0 (nI_ix (by omega) hN) ?_
  refine Hx.rcall rfl hM1 rfl rfl rfl kR ?_
  intro v σ1 τ1 h2 hq hM2 hF
  obtain ⟨hJ, b, rfl, he⟩ := k _ _ _ _ hq hM2 hF
  show Ex X 157 175 [.ref X.1.1, .ref (c0 + 0), .ref (c0 + 16), .int (nI i)] [.int b] h2 Q
  refine Ex.nx rfl ?_
  refine Ex.nx rfl ?_
  exact K _ hJ
set_option maxRecDepth 100000 in
set_option maxHeartbeats 2000000 in
theorem lw_k1 {X : ev_X} {c0 z u pl i : Nat} {t o : List Nat} {T : List Tm} {F : Nat → Option va_E} {σ : Nat → Int32} {τ : Nat → Nat → Int32} {Q : Option Value → ev_H → Prop} (hX : X.1.1 < c0) (hS : XS X c0) (hi : i + 4 ≤ X.1.2.1) (hN : X.1.2.1 ≤ 2 ^ 31) (hC : CC c0 t T u o pl F) (hM : RM c0 (hp c0 (26 + 5 * T.length) z F) σ τ) (hR : RC (T.map en) t u pl o σ τ) (hc : cT T) (hT : T.length ≤ 600) (K : ∀ h', JE c0 z T.length h' → Ex X 157 607 [.ref X.1.1, .ref (c0 + 0), .ref (c0 + 16), .int (nI i)] [] h' Q) : Ex X 157 179 [.ref X.1.1, .ref (c0 + 0), .ref (c0 + 16), .int (nI i)] [] (hp c0 (26 + 5 * T.length) z F) Q := by
  have h0 : (hp c0 (26 + 5 * T.length) z F).2.2 X.1.1 = none := hp_lo hX
  obtain ⟨P, R, kC, kR, pv⟩ := jp_read (X := X) hS hC hM hR hc hT
  refine Ex.nx rfl ?_
  refine Hx.callX 0 rfl rfl hC.r0 rfl rfl kC ?_
  intro v h1 hP
  obtain ⟨hM1, a, rfl, k⟩ := pv v h1 hP
  clear h0
  have h0 := hM1.2.2 _ hX
  show Ex X 157 183 [.ref X.1.1, .ref (c0 + 0), .ref (c0 + 16), .int (nI i)] [.int a] h1 Q
  refine Ex.nx rfl ?_
  refine Ex.nx rfl ?_
  refine Hx.rcall rfl hM1 rfl rfl rfl kR ?_
  intro v σ1 τ1 h2 hq hM2 hF
  obtain ⟨hJ, b, rfl, he⟩ := k _ _ _ _ hq hM2 hF
  show Ex X 157 188 [.ref X.1.1, .ref (c0 + 0), .ref (c0 + 16), .int (nI i)] [.int b] h2 Q
  refine Ex.nx rfl ?_
  refine Ex.nx rfl ?_
  exact K _ hJ
set_option maxRecDepth 100000 in
set_option maxHeartbeats 2000000 in
theorem lw_k2 {X : ev_X} {c0 z u pl i : Nat} {t o : List Nat} {T : List Tm} {F : Nat → Option va_E} {σ : Nat → Int32} {τ : Nat → Nat → Int32} {Q : Option Value → ev_H → Prop} (hX : X.1.1 < c0) (hS : XS X c0) (hi : i + 4 ≤ X.1.2.1) (hN : X.1.2.1 ≤ 2 ^ 31) (hC : CC c0 t T u o pl F) (hM : RM c0 (hp c0 (26 + 5 * T.length) z F) σ τ) (hR : RC (T.map en) t u pl o σ τ) (hc : cT T) (hT : T.length ≤ 600) (K : ∀ h', JE c0 z T.length h' → Ex X 157 607 [.ref X.1.1, .ref (c0 + 0), .ref (c0 + 16), .int (nI i)] [] h' Q) : Ex X 157 192 [.ref X.1.1, .ref (c0 + 0), .ref (c0 + 16), .int (nI i)] [] (hp c0 (26 + 5 * T.length) z F) Q := by
  have h0 : (hp c0 (26 + 5 * T.length) z F).2.2 X.1.1 = none := hp_lo hX
  obtain ⟨P, R, kC, kR, pv⟩ := jp_find (X := X) hS hC hM hR hc
  refine Ex.nx rfl ?_
  refine Hx.callX 0 rfl rfl hC.r0 rfl rfl kC ?_
  intro v h1 hP
  obtain ⟨hM1, a, rfl, k⟩ := pv v h1 hP
  clear h0
  have h0 := hM1.2.2 _ hX
  show Ex X 157 196 [.ref X.1.1, .ref (c0 + 0), .ref (c0 + 16), .int (nI i)] [.int a] h1 Q
  refine Ex.nx rfl ?_
  refine Ex.nx rfl ?_
  refine Hx.rcall rfl hM1 rfl rfl rfl kR ?_
  intro v σ1 τ1 h2 hq hM2 hF
  obtain ⟨hJ, b, rfl, he⟩ := k _ _ _ _ hq hM2 hF
  show Ex X 157 201 [.ref X.1.1, .ref (c0 + 0), .ref (c0 + 16), .int (nI i)] [.int b] h2 Q
  refine Ex.nx rfl ?_
  refine Ex.nx rfl ?_
  exact K _ hJ
set_option maxRecDepth 100000 in
set_option maxHeartbeats 2000000 in
theorem lw_k3 {X : ev_X} {c0 z u pl i : Nat} {t o : List Nat} {T : List Tm} {F : Nat → Option va_E} {σ : Nat → Int32} {τ : Nat → Nat → Int32} {Q : Option Value → ev_H → Prop} (hX : X.1.1 < c0) (hS : XS X c0) (hi : i + 4 ≤ X.1.2.1) (hN : X.1.2.1 ≤ 2 ^ 31) (hC : CC c0 t T u o pl F) (hM : RM c0 (hp c0 (26 + 5 * T.length) z F) σ τ) (hR : RC (T.map en) t u pl o σ τ) (hc : cT T) (hT : T.length ≤ 600) (K : ∀ h', JE c0 z T.length h' → Ex X 157 607 [.ref X.1.1, .ref (c0 + 0), .ref (c0 + 16), .int (nI i)] [] h' Q) : Ex X 157 205 [.ref X.1.1, .ref (c0 + 0), .ref (c0 + 16), .int (nI i)] [] (hp c0 (26 + 5 * T.length) z F) Q := by
  have h0 : (hp c0 (26 + 5 * T.length) z F).2.2 X.1.1 = none := hp_lo hX
  obtain ⟨P, R, kC, kR, pv⟩ := jp_place (X := X) hC hM hR hc
  refine Ex.nx rfl ?_
  refine Hx.callX 0 rfl rfl hC.r0 rfl rfl kC ?_
  intro v h1 hP
  obtain ⟨hM1, a, rfl, k⟩ := pv v h1 hP
  clear h0
  have h0 := hM1.2.2 _ hX
  show Ex X 157 209 [.ref X.1.1, .ref (c0 + 0), .ref (c0 + 16), .int (nI i)] [.int a] h1 Q
  refine Ex.nx rfl ?_
  refine Ex.nx rfl ?_
  refine Hx.rcall rfl hM1 rfl rfl rfl kR ?_
  intro v σ1 τ1 h2 hq hM2 hF
  obtain ⟨hJ, b, rfl, he⟩ := k _ _ _ _ hq hM2 hF
  show Ex X 157 214 [.ref X.1.1, .ref (c0 + 0), .ref (c0 + 16), .int (nI i)] [.int b] h2 Q
  refine Ex.nx rfl ?_
  refine Ex.nx rfl ?_
  exact K _ hJ
set_option maxRecDepth 100000 in
set_option maxHeartbeats 2000000 in
theorem lw_k4 {X : ev_X} {c0 z u pl i : Nat} {t o : List Nat} {T : List Tm} {F : Nat → Option va_E} {σ : Nat → Int32} {τ : Nat → Nat → Int32} {Q : Option Value → ev_H → Prop} (hX : X.1.1 < c0) (hS : XS X c0) (hi : i + 4 ≤ X.1.2.1) (hN : X.1.2.1 ≤ 2 ^ 31) (hC : CC c0 t T u o pl F) (hM : RM c0 (hp c0 (26 + 5 * T.length) z F) σ τ) (hR : RC (T.map en) t u pl o σ τ) (hc : cT T) (hT : T.length ≤ 600) (K : ∀ h', JE c0 z T.length h' → Ex X 157 607 [.ref X.1.1, .ref (c0 + 0), .ref (c0 + 16), .int (nI i)] [] h' Q) : Ex X 157 218 [.ref X.1.1, .ref (c0 + 0), .ref (c0 + 16), .int (nI i)] [] (hp c0 (26 + 5 * T.length) z F) Q := by
  have h0 : (hp c0 (26 + 5 * T.length) z F).2.2 X.1.1 = none := hp_lo hX
  obtain ⟨P, R, kC, kR, pv⟩ := jp_whole (X := X) hC hM hR hc hT (((X.1.2.2 (nI (i + 1)).toNatClampNeg).toInt64 <<< ((32 : Int32).toInt64 &&& 63)) ||| ((X.1.2.2 (nI (i + 2)).toNatClampNeg).toInt64 &&& 4294967295))
  refine Ex.nx rfl ?_
  refine Ex.nx rfl ?_
  refine Ex.nx rfl ?_
  refine Ex.nx rfl ?_
  refine Ex.nx rfl ?_
  refine Hx.top (y := nI (i + 1)) (nI_1 i) ?_
  refine Hx.sald rfl h0 (nI_ix (by omega) hN) ?_
  refine Ex.nx rfl ?_
  refine Ex.nx rfl ?_
  refine Ex.nx rfl ?_
  refine Ex.nx rfl ?_
  refine Ex.nx rfl ?_
  refine Ex.nx rfl ?_
  refine Ex.nx rfl ?_
  refine Hx.top (y := nI (i + 2)) (nI_k2 i) ?_
  refine Hx.sald rfl h0 (nI_ix (by omega) hN) ?_
  refine Ex.nx rfl ?_
  refine Ex.nx rfl ?_
  refine Ex.nx rfl ?_
  refine Ex.nx rfl ?_
  refine Hx.callX 0 rfl rfl hC.r0 rfl rfl kC ?_
  intro v h1 hP
  obtain ⟨hM1, a, rfl, k⟩ := pv v h1 hP
  clear h0
  have h0 := hM1.2.2 _ hX
  show Ex X 157 242 [.ref X.1.1, .ref (c0 + 0), .ref (c0 + 16), .int (nI i)] [.int a] h1 Q
  refine Ex.nx rfl ?_
  refine Ex.nx rfl ?_
  refine Ex.nx rfl ?_
  refine Ex.nx rfl ?_
  refine Ex.nx rfl ?_
  refine Ex.nx rfl ?_
  refine Hx.top (y := nI (i + 1)) (nI_1 i) ?_
  refine Hx.sald rfl h0 (nI_ix (by omega) hN) ?_
  refine Ex.nx rfl ?_
  refine Ex.nx rfl ?_
  refine Ex.nx rfl ?_
  refine Ex.nx rfl ?_
  refine Ex.nx rfl ?_
  refine Ex.nx rfl ?_
  refine Ex.nx rfl ?_
  refine Hx.top (y := nI (i + 2)) (nI_k2 i) ?_
  refine Hx.sald rfl h0 (nI_ix (by omega) hN) ?_
  refine Ex.nx rfl ?_
  refine Ex.nx rfl ?_
  refine Ex.nx rfl ?_
  refine Ex.nx rfl ?_
  refine Hx.rcall rfl hM1 rfl rfl rfl kR ?_
  intro v σ1 τ1 h2 hq hM2 hF
  obtain ⟨hJ, b, rfl, he⟩ := k _ _ _ _ hq hM2 hF
  show Ex X 157 267 [.ref X.1.1, .ref (c0 + 0), .ref (c0 + 16), .int (nI i)] [.int b] h2 Q
  refine Ex.nx rfl ?_
  refine Ex.nx rfl ?_
  exact K _ hJ
set_option maxRecDepth 100000 in
set_option maxHeartbeats 2000000 in
theorem lw_k5 {X : ev_X} {c0 z u pl i : Nat} {t o : List Nat} {T : List Tm} {F : Nat → Option va_E} {σ : Nat → Int32} {τ : Nat → Nat → Int32} {Q : Option Value → ev_H → Prop} (hX : X.1.1 < c0) (hS : XS X c0) (hi : i + 4 ≤ X.1.2.1) (hN : X.1.2.1 ≤ 2 ^ 31) (hC : CC c0 t T u o pl F) (hM : RM c0 (hp c0 (26 + 5 * T.length) z F) σ τ) (hR : RC (T.map en) t u pl o σ τ) (hc : cT T) (hT : T.length ≤ 600) (K : ∀ h', JE c0 z T.length h' → Ex X 157 607 [.ref X.1.1, .ref (c0 + 0), .ref (c0 + 16), .int (nI i)] [] h' Q) : Ex X 157 271 [.ref X.1.1, .ref (c0 + 0), .ref (c0 + 16), .int (nI i)] [] (hp c0 (26 + 5 * T.length) z F) Q := by
  have h0 : (hp c0 (26 + 5 * T.length) z F).2.2 X.1.1 = none := hp_lo hX
  obtain ⟨P, R, kC, kR, pv⟩ := jp_decimal (X := X) hC hM hR hc hT (((X.1.2.2 (nI (i + 1)).toNatClampNeg).toInt64 <<< ((32 : Int32).toInt64 &&& 63)) ||| ((X.1.2.2 (nI (i + 2)).toNatClampNeg).toInt64 &&& 4294967295)) (X.1.2.2 (nI (i + 3)).toNatClampNeg)
  refine Ex.nx rfl ?_
  refine Ex.nx rfl ?_
  refine Ex.nx rfl ?_
  refine Ex.nx rfl ?_
  refine Ex.nx rfl ?_
  refine Hx.top (y := nI (i + 1)) (nI_1 i) ?_
  refine Hx.sald rfl h0 (nI_ix (by omega) hN) ?_
  refine Ex.nx rfl ?_
  refine Ex.nx rfl ?_
  refine Ex.nx rfl ?_
  refine Ex.nx rfl ?_
  refine Ex.nx rfl ?_
  refine Ex.nx rfl ?_
  refine Ex.nx rfl ?_
  refine Hx.top (y := nI (i + 2)) (nI_k2 i) ?_
  refine Hx.sald rfl h0 (nI_ix (by omega) hN) ?_
  refine Ex.nx rfl ?_
  refine Ex.nx rfl ?_
  refine Ex.nx rfl ?_
  refine Ex.nx rfl ?_
  refine Ex.nx rfl ?_
  refine Ex.nx rfl ?_
  refine Ex.nx rfl ?_
  refine Ex.nx rfl ?_
  refine Hx.top (y := nI (i + 3)) (nI_k3 i) ?_
  refine Hx.sald rfl h0 (nI_ix (by omega) hN) ?_
  refine Hx.callX 0 rfl rfl hC.r0 rfl rfl kC ?_
  intro v h1 hP
  obtain ⟨hM1, a, rfl, k⟩ := pv v h1 hP
  clear h0
  have h0 := hM1.2.2 _ hX
  show Ex X 157 300 [.ref X.1.1, .ref (c0 + 0), .ref (c0 + 16), .int (nI i)] [.int a] h1 Q
  refine Ex.nx rfl ?_
  refine Ex.nx rfl ?_
  refine Ex.nx rfl ?_
  refine Ex.nx rfl ?_
  refine Ex.nx rfl ?_
  refine Ex.nx rfl ?_
  refine Hx.top (y := nI (i + 1)) (nI_1 i) ?_
  refine Hx.sald rfl h0 (nI_ix (by omega) hN) ?_
  refine Ex.nx rfl ?_
  refine Ex.nx rfl ?_
  refine Ex.nx rfl ?_
  refine Ex.nx rfl ?_
  refine Ex.nx rfl ?_
  refine Ex.nx rfl ?_
  refine Ex.nx rfl ?_
  refine Hx.top (y := nI (i + 2)) (nI_k2 i) ?_
  refine Hx.sald rfl h0 (nI_ix (by omega) hN) ?_
  refine Ex.nx rfl ?_
  refine Ex.nx rfl ?_
  refine Ex.nx rfl ?_
  refine Ex.nx rfl ?_
  refine Ex.nx rfl ?_
  refine Ex.nx rfl ?_
  refine Ex.nx rfl ?_
  refine Ex.nx rfl ?_
  refine Hx.top (y := nI (i + 3)) (nI_k3 i) ?_
  refine Hx.sald rfl h0 (nI_ix (by omega) hN) ?_
  refine Hx.rcall rfl hM1 rfl rfl rfl kR ?_
  intro v σ1 τ1 h2 hq hM2 hF
  obtain ⟨hJ, b, rfl, he⟩ := k _ _ _ _ hq hM2 hF
  show Ex X 157 330 [.ref X.1.1, .ref (c0 + 0), .ref (c0 + 16), .int (nI i)] [.int b] h2 Q
  refine Ex.nx rfl ?_
  refine Ex.nx rfl ?_
  exact K _ hJ
set_option maxRecDepth 100000 in
set_option maxHeartbeats 2000000 in
theorem lw_k6 {X : ev_X} {c0 z u pl i : Nat} {t o : List Nat} {T : List Tm} {F : Nat → Option va_E} {σ : Nat → Int32} {τ : Nat → Nat → Int32} {Q : Option Value → ev_H → Prop} (hX : X.1.1 < c0) (hS : XS X c0) (hi : i + 4 ≤ X.1.2.1) (hN : X.1.2.1 ≤ 2 ^ 31) (hC : CC c0 t T u o pl F) (hM : RM c0 (hp c0 (26 + 5 * T.length) z F) σ τ) (hR : RC (T.map en) t u pl o σ τ) (hc : cT T) (hT : T.length ≤ 600) (K : ∀ h', JE c0 z T.length h' → Ex X 157 607 [.ref X.1.1, .ref (c0 + 0), .ref (c0 + 16), .int (nI i)] [] h' Q) : Ex X 157 334 [.ref X.1.1, .ref (c0 + 0), .ref (c0 + 16), .int (nI i)] [] (hp c0 (26 + 5 * T.length) z F) Q := by
  have h0 : (hp c0 (26 + 5 * T.length) z F).2.2 X.1.1 = none := hp_lo hX
  obtain ⟨P, R, kC, kR, pv⟩ := jp_count (X := X) hC hM hR hc
  refine Ex.nx rfl ?_
  refine Hx.callX 0 rfl rfl hC.r0 rfl rfl kC ?_
  intro v h1 hP
  obtain ⟨hM1, a, rfl, k⟩ := pv v h1 hP
  clear h0
  have h0 := hM1.2.2 _ hX
  show Ex X 157 338 [.ref X.1.1, .ref (c0 + 0), .ref (c0 + 16), .int (nI i)] [.int a] h1 Q
  refine Ex.nx rfl ?_
  refine Ex.nx rfl ?_
  refine Hx.rcall rfl hM1 rfl rfl rfl kR ?_
  intro v σ1 τ1 h2 hq hM2 hF
  obtain ⟨hJ, b, rfl, he⟩ := k _ _ _ _ hq hM2 hF
  show Ex X 157 343 [.ref X.1.1, .ref (c0 + 0), .ref (c0 + 16), .int (nI i)] [.int b] h2 Q
  refine Ex.nx rfl ?_
  refine Ex.nx rfl ?_
  exact K _ hJ
set_option maxRecDepth 100000 in
set_option maxHeartbeats 2000000 in
theorem lw_k7 {X : ev_X} {c0 z u pl i : Nat} {t o : List Nat} {T : List Tm} {F : Nat → Option va_E} {σ : Nat → Int32} {τ : Nat → Nat → Int32} {Q : Option Value → ev_H → Prop} (hX : X.1.1 < c0) (hS : XS X c0) (hi : i + 4 ≤ X.1.2.1) (hN : X.1.2.1 ≤ 2 ^ 31) (hC : CC c0 t T u o pl F) (hM : RM c0 (hp c0 (26 + 5 * T.length) z F) σ τ) (hR : RC (T.map en) t u pl o σ τ) (hc : cT T) (hT : T.length ≤ 600) (K : ∀ h', JE c0 z T.length h' → Ex X 157 607 [.ref X.1.1, .ref (c0 + 0), .ref (c0 + 16), .int (nI i)] [] h' Q) : Ex X 157 347 [.ref X.1.1, .ref (c0 + 0), .ref (c0 + 16), .int (nI i)] [] (hp c0 (26 + 5 * T.length) z F) Q := by
  have h0 : (hp c0 (26 + 5 * T.length) z F).2.2 X.1.1 = none := hp_lo hX
  obtain ⟨P, R, kC, kR, pv⟩ := jp_used (X := X) hC hM hR hc
  refine Ex.nx rfl ?_
  refine Hx.callX 0 rfl rfl hC.r0 rfl rfl kC ?_
  intro v h1 hP
  obtain ⟨hM1, a, rfl, k⟩ := pv v h1 hP
  clear h0
  have h0 := hM1.2.2 _ hX
  show Ex X 157 351 [.ref X.1.1, .ref (c0 + 0), .ref (c0 + 16), .int (nI i)] [.int a] h1 Q
  refine Ex.nx rfl ?_
  refine Ex.nx rfl ?_
  refine Hx.rcall rfl hM1 rfl rfl rfl kR ?_
  intro v σ1 τ1 h2 hq hM2 hF
  obtain ⟨hJ, b, rfl, he⟩ := k _ _ _ _ hq hM2 hF
  show Ex X 157 356 [.ref X.1.1, .ref (c0 + 0), .ref (c0 + 16), .int (nI i)] [.int b] h2 Q
  refine Ex.nx rfl ?_
  refine Ex.nx rfl ?_
  exact K _ hJ
set_option maxRecDepth 100000 in
set_option maxHeartbeats 2000000 in
theorem lw_k8 {X : ev_X} {c0 z u pl i : Nat} {t o : List Nat} {T : List Tm} {F : Nat → Option va_E} {σ : Nat → Int32} {τ : Nat → Nat → Int32} {Q : Option Value → ev_H → Prop} (hX : X.1.1 < c0) (hS : XS X c0) (hi : i + 4 ≤ X.1.2.1) (hN : X.1.2.1 ≤ 2 ^ 31) (hC : CC c0 t T u o pl F) (hM : RM c0 (hp c0 (26 + 5 * T.length) z F) σ τ) (hR : RC (T.map en) t u pl o σ τ) (hc : cT T) (hT : T.length ≤ 600) (K : ∀ h', JE c0 z T.length h' → Ex X 157 607 [.ref X.1.1, .ref (c0 + 0), .ref (c0 + 16), .int (nI i)] [] h' Q) : Ex X 157 360 [.ref X.1.1, .ref (c0 + 0), .ref (c0 + 16), .int (nI i)] [] (hp c0 (26 + 5 * T.length) z F) Q := by
  have h0 : (hp c0 (26 + 5 * T.length) z F).2.2 X.1.1 = none := hp_lo hX
  obtain ⟨P, R, kC, kR, pv⟩ := jp_kind (X := X) hC hM hR hc (X.1.2.2 (nI (i + 1)).toNatClampNeg)
  refine Ex.nx rfl ?_
  refine Ex.nx rfl ?_
  refine Ex.nx rfl ?_
  refine Ex.nx rfl ?_
  refine Ex.nx rfl ?_
  refine Hx.top (y := nI (i + 1)) (nI_1 i) ?_
  refine Hx.sald rfl h0 (nI_ix (by omega) hN) ?_
  refine Hx.callX 0 rfl rfl hC.r0 rfl rfl kC ?_
  intro v h1 hP
  obtain ⟨hM1, a, rfl, k⟩ := pv v h1 hP
  clear h0
  have h0 := hM1.2.2 _ hX
  show Ex X 157 369 [.ref X.1.1, .ref (c0 + 0), .ref (c0 + 16), .int (nI i)] [.int a] h1 Q
  refine Ex.nx rfl ?_
  refine Ex.nx rfl ?_
  refine Ex.nx rfl ?_
  refine Ex.nx rfl ?_
  refine Ex.nx rfl ?_
  refine Ex.nx rfl ?_
  refine Hx.top (y := nI (i + 1)) (nI_1 i) ?_
  refine Hx.sald rfl h0 (nI_ix (by omega) hN) ?_
  refine Hx.rcall rfl hM1 rfl rfl rfl kR ?_
  intro v σ1 τ1 h2 hq hM2 hF
  obtain ⟨hJ, b, rfl, he⟩ := k _ _ _ _ hq hM2 hF
  show Ex X 157 379 [.ref X.1.1, .ref (c0 + 0), .ref (c0 + 16), .int (nI i)] [.int b] h2 Q
  refine Ex.nx rfl ?_
  refine Ex.nx rfl ?_
  exact K _ hJ
set_option maxRecDepth 100000 in
set_option maxHeartbeats 2000000 in
theorem lw_k9 {X : ev_X} {c0 z u pl i : Nat} {t o : List Nat} {T : List Tm} {F : Nat → Option va_E} {σ : Nat → Int32} {τ : Nat → Nat → Int32} {Q : Option Value → ev_H → Prop} (hX : X.1.1 < c0) (hS : XS X c0) (hi : i + 4 ≤ X.1.2.1) (hN : X.1.2.1 ≤ 2 ^ 31) (hC : CC c0 t T u o pl F) (hM : RM c0 (hp c0 (26 + 5 * T.length) z F) σ τ) (hR : RC (T.map en) t u pl o σ τ) (hc : cT T) (hT : T.length ≤ 600) (K : ∀ h', JE c0 z T.length h' → Ex X 157 607 [.ref X.1.1, .ref (c0 + 0), .ref (c0 + 16), .int (nI i)] [] h' Q) : Ex X 157 383 [.ref X.1.1, .ref (c0 + 0), .ref (c0 + 16), .int (nI i)] [] (hp c0 (26 + 5 * T.length) z F) Q := by
  have h0 : (hp c0 (26 + 5 * T.length) z F).2.2 X.1.1 = none := hp_lo hX
  obtain ⟨P, R, kC, kR, pv⟩ := jp_value (X := X) hC hM hR hc (fun i hi => False.elim) (X.1.2.2 (nI (i + 1)).toNatClampNeg)
  refine Ex.nx rfl ?_
  refine Ex.nx rfl ?_
  refine Ex.nx rfl ?_
  refine Ex.nx rfl ?_
  refine Ex.nx rfl ?_
  refine Hx.top (y := nI (i + 1)) (nI_1 i) ?_
  refine Hx.sald rfl h0 (nI_ix (by omega) hN) ?_
  refine Hx.callX 0 rfl rfl hC.r0 rfl rfl kC ?_
  intro v h1 hP
  obtain ⟨hM1, a, rfl, k⟩ := pv v h1 hP
  clear h0
  have h0 := hM1.2.2 _ hX
  show Ex X 157 392 [.ref X.1.1, .ref (c0 + 0), .ref (c0 + 16), .int (nI i)] [.long a] h1 Q
  refine Ex.nx rfl ?_
  refine Ex.nx rfl ?_
  refine Ex.nx rfl ?_
  refine Ex.nx rfl ?_
  refine Ex.nx rfl ?_
  refine Ex.nx rfl ?_
  refine Hx.top (y := nI (i + 1)) (nI_1 i) ?_
  refine Hx.sald rfl h0 (nI_ix (by omega) hN) ?_
  refine Hx.rcall rfl hM1 rfl rfl rfl kR ?_
  intro v σ1 τ1 h2 hq hM2 hF
  obtain ⟨hJ, b, rfl, he⟩ := k _ _ _ _ hq hM2 hF
  show Ex X 157 402 [.ref X.1.1, .ref (c0 + 0), .ref (c0 + 16), .int (nI i)] [.long b] h2 Q
  refine Ex.nx rfl ?_
  refine Ex.nx rfl ?_
  exact K _ hJ
set_option maxRecDepth 100000 in
set_option maxHeartbeats 2000000 in
theorem lw_k10 {X : ev_X} {c0 z u pl i : Nat} {t o : List Nat} {T : List Tm} {F : Nat → Option va_E} {σ : Nat → Int32} {τ : Nat → Nat → Int32} {Q : Option Value → ev_H → Prop} (hX : X.1.1 < c0) (hS : XS X c0) (hi : i + 4 ≤ X.1.2.1) (hN : X.1.2.1 ≤ 2 ^ 31) (hC : CC c0 t T u o pl F) (hM : RM c0 (hp c0 (26 + 5 * T.length) z F) σ τ) (hR : RC (T.map en) t u pl o σ τ) (hc : cT T) (hT : T.length ≤ 600) (K : ∀ h', JE c0 z T.length h' → Ex X 157 607 [.ref X.1.1, .ref (c0 + 0), .ref (c0 + 16), .int (nI i)] [] h' Q) : Ex X 157 406 [.ref X.1.1, .ref (c0 + 0), .ref (c0 + 16), .int (nI i)] [] (hp c0 (26 + 5 * T.length) z F) Q := by
  have h0 : (hp c0 (26 + 5 * T.length) z F).2.2 X.1.1 = none := hp_lo hX
  obtain ⟨P, R, kC, kR, pv⟩ := jp_scale (X := X) hC hM hR hc (X.1.2.2 (nI (i + 1)).toNatClampNeg)
  refine Ex.nx rfl ?_
  refine Ex.nx rfl ?_
  refine Ex.nx rfl ?_
  refine Ex.nx rfl ?_
  refine Ex.nx rfl ?_
  refine Hx.top (y := nI (i + 1)) (nI_1 i) ?_
  refine Hx.sald rfl h0 (nI_ix (by omega) hN) ?_
  refine Hx.callX 0 rfl rfl hC.r0 rfl rfl kC ?_
  intro v h1 hP
  obtain ⟨hM1, a, rfl, k⟩ := pv v h1 hP
  clear h0
  have h0 := hM1.2.2 _ hX
  show Ex X 157 415 [.ref X.1.1, .ref (c0 + 0), .ref (c0 + 16), .int (nI i)] [.int a] h1 Q
  refine Ex.nx rfl ?_
  refine Ex.nx rfl ?_
  refine Ex.nx rfl ?_
  refine Ex.nx rfl ?_
  refine Ex.nx rfl ?_
  refine Ex.nx rfl ?_
  refine Hx.top (y := nI (i + 1)) (nI_1 i) ?_
  refine Hx.sald rfl h0 (nI_ix (by omega) hN) ?_
  refine Hx.rcall rfl hM1 rfl rfl rfl kR ?_
  intro v σ1 τ1 h2 hq hM2 hF
  obtain ⟨hJ, b, rfl, he⟩ := k _ _ _ _ hq hM2 hF
  show Ex X 157 425 [.ref X.1.1, .ref (c0 + 0), .ref (c0 + 16), .int (nI i)] [.int b] h2 Q
  refine Ex.nx rfl ?_
  refine Ex.nx rfl ?_
  exact K _ hJ
set_option maxRecDepth 100000 in
set_option maxHeartbeats 2000000 in
theorem lw_k11 {X : ev_X} {c0 z u pl i : Nat} {t o : List Nat} {T : List Tm} {F : Nat → Option va_E} {σ : Nat → Int32} {τ : Nat → Nat → Int32} {Q : Option Value → ev_H → Prop} (hX : X.1.1 < c0) (hS : XS X c0) (hi : i + 4 ≤ X.1.2.1) (hN : X.1.2.1 ≤ 2 ^ 31) (hC : CC c0 t T u o pl F) (hM : RM c0 (hp c0 (26 + 5 * T.length) z F) σ τ) (hR : RC (T.map en) t u pl o σ τ) (hc : cT T) (hT : T.length ≤ 600) (K : ∀ h', JE c0 z T.length h' → Ex X 157 607 [.ref X.1.1, .ref (c0 + 0), .ref (c0 + 16), .int (nI i)] [] h' Q) : Ex X 157 429 [.ref X.1.1, .ref (c0 + 0), .ref (c0 + 16), .int (nI i)] [] (hp c0 (26 + 5 * T.length) z F) Q := by
  have h0 : (hp c0 (26 + 5 * T.length) z F).2.2 X.1.1 = none := hp_lo hX
  obtain ⟨P, R, kC, kR, pv⟩ := jp_write (X := X) hS hC hM hR hc (X.1.2.2 (nI (i + 1)).toNatClampNeg)
  refine Ex.nx rfl ?_
  refine Ex.nx rfl ?_
  refine Ex.nx rfl ?_
  refine Ex.nx rfl ?_
  refine Ex.nx rfl ?_
  refine Hx.top (y := nI (i + 1)) (nI_1 i) ?_
  refine Hx.sald rfl h0 (nI_ix (by omega) hN) ?_
  refine Hx.callX 0 rfl rfl hC.r0 rfl rfl kC ?_
  intro v h1 hP
  obtain ⟨hM1, a, rfl, k⟩ := pv v h1 hP
  clear h0
  have h0 := hM1.2.2 _ hX
  show Ex X 157 438 [.ref X.1.1, .ref (c0 + 0), .ref (c0 + 16), .int (nI i)] [.int a] h1 Q
  refine Ex.nx rfl ?_
  refine Ex.nx rfl ?_
  refine Ex.nx rfl ?_
  refine Ex.nx rfl ?_
  refine Ex.nx rfl ?_
  refine Ex.nx rfl ?_
  refine Hx.top (y := nI (i + 1)) (nI_1 i) ?_
  refine Hx.sald rfl h0 (nI_ix (by omega) hN) ?_
  refine Hx.rcall rfl hM1 rfl rfl rfl kR ?_
  intro v σ1 τ1 h2 hq hM2 hF
  obtain ⟨hJ, b, rfl, he⟩ := k _ _ _ _ hq hM2 hF
  show Ex X 157 448 [.ref X.1.1, .ref (c0 + 0), .ref (c0 + 16), .int (nI i)] [.int b] h2 Q
  refine Ex.nx rfl ?_
  refine Ex.nx rfl ?_
  exact K _ hJ
set_option maxRecDepth 100000 in
set_option maxHeartbeats 2000000 in
theorem lw_k12 {X : ev_X} {c0 z u pl i : Nat} {t o : List Nat} {T : List Tm} {F : Nat → Option va_E} {σ : Nat → Int32} {τ : Nat → Nat → Int32} {Q : Option Value → ev_H → Prop} (hX : X.1.1 < c0) (hS : XS X c0) (hi : i + 4 ≤ X.1.2.1) (hN : X.1.2.1 ≤ 2 ^ 31) (hC : CC c0 t T u o pl F) (hM : RM c0 (hp c0 (26 + 5 * T.length) z F) σ τ) (hR : RC (T.map en) t u pl o σ τ) (hc : cT T) (hT : T.length ≤ 600) (K : ∀ h', JE c0 z T.length h' → Ex X 157 607 [.ref X.1.1, .ref (c0 + 0), .ref (c0 + 16), .int (nI i)] [] h' Q) : Ex X 157 452 [.ref X.1.1, .ref (c0 + 0), .ref (c0 + 16), .int (nI i)] [] (hp c0 (26 + 5 * T.length) z F) Q := by
  have h0 : (hp c0 (26 + 5 * T.length) z F).2.2 X.1.1 = none := hp_lo hX
  obtain ⟨P, R, kC, kR, pv⟩ := jp_written (X := X) hC hM hR hc (X.1.2.2 (nI (i + 1)).toNatClampNeg)
  refine Ex.nx rfl ?_
  refine Ex.nx rfl ?_
  refine Ex.nx rfl ?_
  refine Ex.nx rfl ?_
  refine Ex.nx rfl ?_
  refine Hx.top (y := nI (i + 1)) (nI_1 i) ?_
  refine Hx.sald rfl h0 (nI_ix (by omega) hN) ?_
  refine Hx.callX 0 rfl rfl hC.r0 rfl rfl kC ?_
  intro v h1 hP
  obtain ⟨hM1, a, rfl, k⟩ := pv v h1 hP
  clear h0
  have h0 := hM1.2.2 _ hX
  show Ex X 157 461 [.ref X.1.1, .ref (c0 + 0), .ref (c0 + 16), .int (nI i)] [.int a] h1 Q
  refine Ex.nx rfl ?_
  refine Ex.nx rfl ?_
  refine Ex.nx rfl ?_
  refine Ex.nx rfl ?_
  refine Ex.nx rfl ?_
  refine Ex.nx rfl ?_
  refine Hx.top (y := nI (i + 1)) (nI_1 i) ?_
  refine Hx.sald rfl h0 (nI_ix (by omega) hN) ?_
  refine Hx.rcall rfl hM1 rfl rfl rfl kR ?_
  intro v σ1 τ1 h2 hq hM2 hF
  obtain ⟨hJ, b, rfl, he⟩ := k _ _ _ _ hq hM2 hF
  show Ex X 157 471 [.ref X.1.1, .ref (c0 + 0), .ref (c0 + 16), .int (nI i)] [.int b] h2 Q
  refine Ex.nx rfl ?_
  refine Ex.nx rfl ?_
  exact K _ hJ
set_option maxRecDepth 100000 in
set_option maxHeartbeats 2000000 in
theorem lw_k13 {X : ev_X} {c0 z u pl i : Nat} {t o : List Nat} {T : List Tm} {F : Nat → Option va_E} {σ : Nat → Int32} {τ : Nat → Nat → Int32} {Q : Option Value → ev_H → Prop} (hX : X.1.1 < c0) (hS : XS X c0) (hi : i + 4 ≤ X.1.2.1) (hN : X.1.2.1 ≤ 2 ^ 31) (hC : CC c0 t T u o pl F) (hM : RM c0 (hp c0 (26 + 5 * T.length) z F) σ τ) (hR : RC (T.map en) t u pl o σ τ) (hc : cT T) (hT : T.length ≤ 600) (K : ∀ h', JE c0 z T.length h' → Ex X 157 607 [.ref X.1.1, .ref (c0 + 0), .ref (c0 + 16), .int (nI i)] [] h' Q) : Ex X 157 475 [.ref X.1.1, .ref (c0 + 0), .ref (c0 + 16), .int (nI i)] [] (hp c0 (26 + 5 * T.length) z F) Q := by
  have h0 : (hp c0 (26 + 5 * T.length) z F).2.2 X.1.1 = none := hp_lo hX
  obtain ⟨P, R, kC, kR, pv⟩ := jp_part (X := X) hC hM hR hc hT (X.1.2.2 (nI (i + 1)).toNatClampNeg) (X.1.2.2 (nI (i + 2)).toNatClampNeg)
  refine Ex.nx rfl ?_
  refine Ex.nx rfl ?_
  refine Ex.nx rfl ?_
  refine Ex.nx rfl ?_
  refine Ex.nx rfl ?_
  refine Hx.top (y := nI (i + 1)) (nI_1 i) ?_
  refine Hx.sald rfl h0 (nI_ix (by omega) hN) ?_
  refine Ex.nx rfl ?_
  refine Ex.nx rfl ?_
  refine Ex.nx rfl ?_
  refine Ex.nx rfl ?_
  refine Hx.top (y := nI (i + 2)) (nI_k2 i) ?_
  refine Hx.sald rfl h0 (nI_ix (by omega) hN) ?_
  refine Hx.callX 0 rfl rfl hC.r0 rfl rfl kC ?_
  intro v h1 hP
  obtain ⟨hM1, a, rfl, k⟩ := pv v h1 hP
  clear h0
  have h0 := hM1.2.2 _ hX
  show Ex X 157 489 [.ref X.1.1, .ref (c0 + 0), .ref (c0 + 16), .int (nI i)] [.int a] h1 Q
  refine Ex.nx rfl ?_
  refine Ex.nx rfl ?_
  refine Ex.nx rfl ?_
  refine Ex.nx rfl ?_
  refine Ex.nx rfl ?_
  refine Ex.nx rfl ?_
  refine Hx.top (y := nI (i + 1)) (nI_1 i) ?_
  refine Hx.sald rfl h0 (nI_ix (by omega) hN) ?_
  refine Ex.nx rfl ?_
  refine Ex.nx rfl ?_
  refine Ex.nx rfl ?_
  refine Ex.nx rfl ?_
  refine Hx.top (y := nI (i + 2)) (nI_k2 i) ?_
  refine Hx.sald rfl h0 (nI_ix (by omega) hN) ?_
  refine Hx.rcall rfl hM1 rfl rfl rfl kR ?_
  intro v σ1 τ1 h2 hq hM2 hF
  obtain ⟨hJ, b, rfl, he⟩ := k _ _ _ _ hq hM2 hF
  show Ex X 157 504 [.ref X.1.1, .ref (c0 + 0), .ref (c0 + 16), .int (nI i)] [.int b] h2 Q
  refine Ex.nx rfl ?_
  refine Ex.nx rfl ?_
  exact K _ hJ
set_option maxRecDepth 100000 in
set_option maxHeartbeats 2000000 in
theorem lw_k14 {X : ev_X} {c0 z u pl i : Nat} {t o : List Nat} {T : List Tm} {F : Nat → Option va_E} {σ : Nat → Int32} {τ : Nat → Nat → Int32} {Q : Option Value → ev_H → Prop} (hX : X.1.1 < c0) (hS : XS X c0) (hi : i + 4 ≤ X.1.2.1) (hN : X.1.2.1 ≤ 2 ^ 31) (hC : CC c0 t T u o pl F) (hM : RM c0 (hp c0 (26 + 5 * T.length) z F) σ τ) (hR : RC (T.map en) t u pl o σ τ) (hc : cT T) (hT : T.length ≤ 600) (K : ∀ h', JE c0 z T.length h' → Ex X 157 607 [.ref X.1.1, .ref (c0 + 0), .ref (c0 + 16), .int (nI i)] [] h' Q) : Ex X 157 508 [.ref X.1.1, .ref (c0 + 0), .ref (c0 + 16), .int (nI i)] [] (hp c0 (26 + 5 * T.length) z F) Q := by
  have h0 : (hp c0 (26 + 5 * T.length) z F).2.2 X.1.1 = none := hp_lo hX
  obtain ⟨P, R, kC, kR, pv⟩ := jp_order (X := X) hC hM hR hc (fun i j hi hj => False.elim) (X.1.2.2 (nI (i + 1)).toNatClampNeg) (X.1.2.2 (nI (i + 2)).toNatClampNeg)
  refine Ex.nx rfl ?_
  refine Ex.nx rfl ?_
  refine Ex.nx rfl ?_
  refine Ex.nx rfl ?_
  refine Ex.nx rfl ?_
  refine Hx.top (y := nI (i + 1)) (nI_1 i) ?_
  refine Hx.sald rfl h0 (nI_ix (by omega) hN) ?_
  refine Ex.nx rfl ?_
  refine Ex.nx rfl ?_
  refine Ex.nx rfl ?_
  refine Ex.nx rfl ?_
  refine Hx.top (y := nI (i + 2)) (nI_k2 i) ?_
  refine Hx.sald rfl h0 (nI_ix (by omega) hN) ?_
  refine Hx.callX 0 rfl rfl hC.r0 rfl rfl kC ?_
  intro v h1 hP
  obtain ⟨hM1, a, rfl, k⟩ := pv v h1 hP
  clear h0
  have h0 := hM1.2.2 _ hX
  show Ex X 157 522 [.ref X.1.1, .ref (c0 + 0), .ref (c0 + 16), .int (nI i)] [.int a] h1 Q
  refine Ex.nx rfl ?_
  refine Ex.nx rfl ?_
  refine Ex.nx rfl ?_
  refine Ex.nx rfl ?_
  refine Ex.nx rfl ?_
  refine Ex.nx rfl ?_
  refine Hx.top (y := nI (i + 1)) (nI_1 i) ?_
  refine Hx.sald rfl h0 (nI_ix (by omega) hN) ?_
  refine Ex.nx rfl ?_
  refine Ex.nx rfl ?_
  refine Ex.nx rfl ?_
  refine Ex.nx rfl ?_
  refine Hx.top (y := nI (i + 2)) (nI_k2 i) ?_
  refine Hx.sald rfl h0 (nI_ix (by omega) hN) ?_
  refine Hx.rcall rfl hM1 rfl rfl rfl kR ?_
  intro v σ1 τ1 h2 hq hM2 hF
  obtain ⟨hJ, b, rfl, he⟩ := k _ _ _ _ hq hM2 hF
  show Ex X 157 537 [.ref X.1.1, .ref (c0 + 0), .ref (c0 + 16), .int (nI i)] [.int b] h2 Q
  refine Ex.nx rfl ?_
  refine Ex.nx rfl ?_
  exact K _ hJ
set_option maxRecDepth 100000 in
set_option maxHeartbeats 2000000 in
theorem lw_k15 {X : ev_X} {c0 z u pl i : Nat} {t o : List Nat} {T : List Tm} {F : Nat → Option va_E} {σ : Nat → Int32} {τ : Nat → Nat → Int32} {Q : Option Value → ev_H → Prop} (hX : X.1.1 < c0) (hS : XS X c0) (hi : i + 4 ≤ X.1.2.1) (hN : X.1.2.1 ≤ 2 ^ 31) (hC : CC c0 t T u o pl F) (hM : RM c0 (hp c0 (26 + 5 * T.length) z F) σ τ) (hR : RC (T.map en) t u pl o σ τ) (hc : cT T) (hT : T.length ≤ 600) (K : ∀ h', JE c0 z T.length h' → Ex X 157 607 [.ref X.1.1, .ref (c0 + 0), .ref (c0 + 16), .int (nI i)] [] h' Q) : Ex X 157 541 [.ref X.1.1, .ref (c0 + 0), .ref (c0 + 16), .int (nI i)] [] (hp c0 (26 + 5 * T.length) z F) Q := by
  have h0 : (hp c0 (26 + 5 * T.length) z F).2.2 X.1.1 = none := hp_lo hX
  obtain ⟨P, R, kC, kR, pv⟩ := jp_same (X := X) hC hM hR hc (fun i j hi hj => False.elim) (X.1.2.2 (nI (i + 1)).toNatClampNeg) (X.1.2.2 (nI (i + 2)).toNatClampNeg)
  refine Ex.nx rfl ?_
  refine Ex.nx rfl ?_
  refine Ex.nx rfl ?_
  refine Ex.nx rfl ?_
  refine Ex.nx rfl ?_
  refine Hx.top (y := nI (i + 1)) (nI_1 i) ?_
  refine Hx.sald rfl h0 (nI_ix (by omega) hN) ?_
  refine Ex.nx rfl ?_
  refine Ex.nx rfl ?_
  refine Ex.nx rfl ?_
  refine Ex.nx rfl ?_
  refine Hx.top (y := nI (i + 2)) (nI_k2 i) ?_
  refine Hx.sald rfl h0 (nI_ix (by omega) hN) ?_
  refine Hx.callX 0 rfl rfl hC.r0 rfl rfl kC ?_
  intro v h1 hP
  obtain ⟨hM1, a, rfl, k⟩ := pv v h1 hP
  clear h0
  have h0 := hM1.2.2 _ hX
  show Ex X 157 555 [.ref X.1.1, .ref (c0 + 0), .ref (c0 + 16), .int (nI i)] [.int a] h1 Q
  refine Ex.nx rfl ?_
  refine Ex.nx rfl ?_
  refine Ex.nx rfl ?_
  refine Ex.nx rfl ?_
  refine Ex.nx rfl ?_
  refine Ex.nx rfl ?_
  refine Hx.top (y := nI (i + 1)) (nI_1 i) ?_
  refine Hx.sald rfl h0 (nI_ix (by omega) hN) ?_
  refine Ex.nx rfl ?_
  refine Ex.nx rfl ?_
  refine Ex.nx rfl ?_
  refine Ex.nx rfl ?_
  refine Hx.top (y := nI (i + 2)) (nI_k2 i) ?_
  refine Hx.sald rfl h0 (nI_ix (by omega) hN) ?_
  refine Hx.rcall rfl hM1 rfl rfl rfl kR ?_
  intro v σ1 τ1 h2 hq hM2 hF
  obtain ⟨hJ, b, rfl, he⟩ := k _ _ _ _ hq hM2 hF
  show Ex X 157 570 [.ref X.1.1, .ref (c0 + 0), .ref (c0 + 16), .int (nI i)] [.int b] h2 Q
  refine Ex.nx rfl ?_
  refine Ex.nx rfl ?_
  exact K _ hJ
set_option maxRecDepth 100000 in
set_option maxHeartbeats 2000000 in
theorem lw_k16 {X : ev_X} {c0 z u pl i : Nat} {t o : List Nat} {T : List Tm} {F : Nat → Option va_E} {σ : Nat → Int32} {τ : Nat → Nat → Int32} {Q : Option Value → ev_H → Prop} (hX : X.1.1 < c0) (hS : XS X c0) (hi : i + 4 ≤ X.1.2.1) (hN : X.1.2.1 ≤ 2 ^ 31) (hC : CC c0 t T u o pl F) (hM : RM c0 (hp c0 (26 + 5 * T.length) z F) σ τ) (hR : RC (T.map en) t u pl o σ τ) (hc : cT T) (hT : T.length ≤ 600) (K : ∀ h', JE c0 z T.length h' → Ex X 157 607 [.ref X.1.1, .ref (c0 + 0), .ref (c0 + 16), .int (nI i)] [] h' Q) : Ex X 157 574 [.ref X.1.1, .ref (c0 + 0), .ref (c0 + 16), .int (nI i)] [] (hp c0 (26 + 5 * T.length) z F) Q := by
  have h0 : (hp c0 (26 + 5 * T.length) z F).2.2 X.1.1 = none := hp_lo hX
  obtain ⟨P, R, kC, kR, pv⟩ := jp_less (X := X) (eq := True) hC hM hR hc (fun i j hi hj => fun _ => less_eq hC hc hi hj) (X.1.2.2 (nI (i + 1)).toNatClampNeg) (X.1.2.2 (nI (i + 2)).toNatClampNeg)
  refine Ex.nx rfl ?_
  refine Ex.nx rfl ?_
  refine Ex.nx rfl ?_
  refine Ex.nx rfl ?_
  refine Ex.nx rfl ?_
  refine Hx.top (y := nI (i + 1)) (nI_1 i) ?_
  refine Hx.sald rfl h0 (nI_ix (by omega) hN) ?_
  refine Ex.nx rfl ?_
  refine Ex.nx rfl ?_
  refine Ex.nx rfl ?_
  refine Ex.nx rfl ?_
  refine Hx.top (y := nI (i + 2)) (nI_k2 i) ?_
  refine Hx.sald rfl h0 (nI_ix (by omega) hN) ?_
  refine Hx.callX 0 rfl rfl hC.r0 rfl rfl kC ?_
  intro v h1 hP
  obtain ⟨hM1, a, rfl, k⟩ := pv v h1 hP
  clear h0
  have h0 := hM1.2.2 _ hX
  show Ex X 157 588 [.ref X.1.1, .ref (c0 + 0), .ref (c0 + 16), .int (nI i)] [.int a] h1 Q
  refine Ex.nx rfl ?_
  refine Ex.nx rfl ?_
  refine Ex.nx rfl ?_
  refine Ex.nx rfl ?_
  refine Ex.nx rfl ?_
  refine Hx.top (y := nI (i + 1)) (nI_1 i) ?_
  refine Hx.sald rfl h0 (nI_ix (by omega) hN) ?_
  refine Ex.nx rfl ?_
  refine Ex.nx rfl ?_
  refine Ex.nx rfl ?_
  refine Ex.nx rfl ?_
  refine Hx.top (y := nI (i + 2)) (nI_k2 i) ?_
  refine Hx.sald rfl h0 (nI_ix (by omega) hN) ?_
  refine Hx.rcall rfl hM1 rfl rfl rfl kR ?_
  intro v σ1 τ1 h2 hq hM2 hF
  obtain ⟨hJ, b, rfl, he⟩ := k _ _ _ _ hq hM2 hF
  show Ex X 157 602 [.ref X.1.1, .ref (c0 + 0), .ref (c0 + 16), .int (nI i)] [.int b, .int a] h2 Q
  cases (he trivial)
  refine Ex.nx rfl ?_
  refine Ex.ite (fun c1 => ?_) (fun c1 => ?_)
  · exact K _ hJ
  · first | exact absurd rfl (of_decide_eq_false c1) | exact absurd c1 (by decide)
set_option maxRecDepth 100000 in
set_option maxHeartbeats 2000000 in
theorem lw_loop {X : ev_X} {c0 z0 : Nat} (hX : X.1.1 < c0) (hS : XS X c0) (hL : X.1.2.1 ≤ 2048) : ∀ (m i z u pl : Nat) (t o : List Nat) (T : List Tm) (h : ev_H), X.1.2.1 < i + 4 * (m + 1) → i ≤ 2052 → 4 * T.length ≤ i → z ≤ z0 + 50 * i → J c0 z t T u o pl h → Ex X 157 18 [.ref X.1.1, .ref (c0 + 0), .ref (c0 + 16), .int (nI i)] [] h (LQ c0 (z0 + 120000)) := by
  have hN : X.1.2.1 ≤ 2 ^ 31 := by omega
  intro m
  induction m with
  | zero =>
    intro i z u pl t o T h h1 h2 h3 h4 hJ
    obtain ⟨F, σ, τ, rfl, hC, hM, hR, hc⟩ := hJ
    refine Ex.nx rfl ?_
    refine Ex.nx rfl ?_
    refine Hx.slen rfl (hp_lo hX) ?_
    refine Ex.nx rfl ?_
    refine Ex.nx rfl ?_
    refine Ex.nx rfl ?_
    refine Ex.ite (fun c1 => ?_) (fun c1 => ?_)
    · show Ex X 157 613 [.ref X.1.1, .ref (c0 + 0), .ref (c0 + 16), .int (nI i)] [] _ _
      refine Ex.nx rfl ?_
      exact Ex.ret rfl rfl ⟨rfl, by show c0 + (26 + 5 * T.length) ≤ _; omega, by show z ≤ _; omega⟩
    · have := law_ge hL (by omega) (of_decide_eq_false c1)
      omega
  | succ m ih =>
    intro i z u pl t o T h h1 h2 h3 h4 hJ
    obtain ⟨F, σ, τ, rfl, hC, hM, hR, hc⟩ := id hJ
    refine Ex.nx rfl ?_
    refine Ex.nx rfl ?_
    refine Hx.slen rfl (hp_lo hX) ?_
    refine Ex.nx rfl ?_
    refine Ex.nx rfl ?_
    refine Ex.nx rfl ?_
    refine Ex.ite (fun c1 => ?_) (fun c1 => ?_)
    · show Ex X 157 613 [.ref X.1.1, .ref (c0 + 0), .ref (c0 + 16), .int (nI i)] [] _ _
      refine Ex.nx rfl ?_
      exact Ex.ret rfl rfl ⟨rfl, by show c0 + (26 + 5 * T.length) ≤ _; omega, by show z ≤ _; omega⟩
    · have hi4 := law_ge hL (by omega) (of_decide_eq_false c1)
      have K : ∀ h', JE c0 z T.length h' → Ex X 157 607 [.ref X.1.1, .ref (c0 + 0), .ref (c0 + 16), .int (nI i)] [] h' (LQ c0 (z0 + 120000)) := by
        rintro h' ⟨z', t', T', u', o', pl', hJ', hz, hT'⟩
        refine Ex.nx rfl ?_
        refine Ex.nx rfl ?_
        show Ex X 157 18 [.ref X.1.1, .ref (c0 + 0), .ref (c0 + 16), .int (nI i + 4)] [] h' _
        rw [nI_k4 i]
        exact ih (i + 4) z' u' pl' t' o' T' h' (by omega) (by omega) (by omega) (by omega) hJ'
      show Ex X 157 26 [.ref X.1.1, .ref (c0 + 0), .ref (c0 + 16), .int (nI i)] [] _ _
      refine Ex.nx rfl ?_
      refine Ex.nx rfl ?_
      refine Hx.sald rfl (hp_lo hX) (nI_ix (by omega) hN) ?_
      refine Ex.nx rfl ?_
      refine Ex.nx rfl ?_
      show Ex X 157 32 [.ref X.1.1, .ref (c0 + 0), .ref (c0 + 16), .int (nI i)] [.int (X.1.2.2 (nI i).toNatClampNeg &&& 31)] _ _
      generalize X.1.2.2 (nI i).toNatClampNeg &&& 31 = q
      rcases sw17 q with ⟨j, hj, rfl⟩ | hq
      · match j, hj with
      | 0, _ =>
        refine Ex.nx rfl ?_
        exact lw_k0 hX hS hi4 hN hC hM hR hc (by omega) K
      | 1, _ =>
        refine Ex.nx rfl ?_
        exact lw_k1 hX hS hi4 hN hC hM hR hc (by omega) K
      | 2, _ =>
        refine Ex.nx rfl ?_
        exact lw_k2 hX hS hi4 hN hC hM hR hc (by omega) K
      | 3, _ =>
        refine Ex.nx rfl ?_
        exact lw_k3 hX hS hi4 hN hC hM hR hc (by omega) K
      | 4, _ =>
        refine Ex.nx rfl ?_
        exact lw_k4 hX hS hi4 hN hC hM hR hc (by omega) K
      | 5, _ =>
        refine Ex.nx rfl ?_
        exact lw_k5 hX hS hi4 hN hC hM hR hc (by omega) K
      | 6, _ =>
        refine Ex.nx rfl ?_
        exact lw_k6 hX hS hi4 hN hC hM hR hc (by omega) K
      | 7, _ =>
        refine Ex.nx rfl ?_
        exact lw_k7 hX hS hi4 hN hC hM hR hc (by omega) K
      | 8, _ =>
        refine Ex.nx rfl ?_
        exact lw_k8 hX hS hi4 hN hC hM hR hc (by omega) K
      | 9, _ =>
        refine Ex.nx rfl ?_
        exact lw_k9 hX hS hi4 hN hC hM hR hc (by omega) K
      | 10, _ =>
        refine Ex.nx rfl ?_
        exact lw_k10 hX hS hi4 hN hC hM hR hc (by omega) K
      | 11, _ =>
        refine Ex.nx rfl ?_
        exact lw_k11 hX hS hi4 hN hC hM hR hc (by omega) K
      | 12, _ =>
        refine Ex.nx rfl ?_
        exact lw_k12 hX hS hi4 hN hC hM hR hc (by omega) K
      | 13, _ =>
        refine Ex.nx rfl ?_
        exact lw_k13 hX hS hi4 hN hC hM hR hc (by omega) K
      | 14, _ =>
        refine Ex.nx rfl ?_
        exact lw_k14 hX hS hi4 hN hC hM hR hc (by omega) K
      | 15, _ =>
        refine Ex.nx rfl ?_
        exact lw_k15 hX hS hi4 hN hC hM hR hc (by omega) K
      | 16, _ =>
        refine Ex.nx rfl ?_
        exact lw_k16 hX hS hi4 hN hC hM hR hc (by omega) K
      | n + 17, h => exact absurd h (by omega)
      · exact Hx.tsw rfl hq (by decide) (K _ ⟨z, t, T, u, o, pl, hJ, by omega, by omega⟩)
set_option maxRecDepth 100000 in
set_option maxHeartbeats 2000000 in
theorem ev_law1 : ev_Law := by
  intro X c0 hW hL
  have hX : X.1.1 < c0 := hW.1
  have key : Ex X 157 0 [.ref X.1.1, ev_dead, ev_dead, ev_dead] [] (hp c0 0 0 (fun _ => none)) (LQ c0 ((0 + 5 + 2 + 240 + 5 + (4 + 64 + 60) + 3 + 3 + 2000 + 2 + 2 + 194 + 2 + 18 + 24 + 240 + 132000 + 2002 + 2002 + 2002 + 260 + 260 + 240 + 40) + 120000)) := by
    refine Hx.newo rfl rfl ?_
    refine Ex.nx rfl ?_
    refine Hx.callp rfl rfl rfl rfl (hx_Tab rfl) ?_
    refine Ex.nx rfl ?_
    refine Hx.newo rfl rfl ?_
    refine Ex.nx rfl ?_
    refine Hx.callp rfl rfl rfl rfl (hx_Mod rfl) ?_
    refine Ex.nx rfl ?_
    refine Ex.nx rfl ?_
    refine Ex.nx rfl ?_
    refine Hx.eF (fz_eq c0) ?_
    exact lw_loop (z0 := 0 + 5 + 2 + 240 + 5 + (4 + 64 + 60) + 3 + 3 + 2000 + 2 + 2 + 194 + 2 + 18 + 24 + 240 + 132000 + 2002 + 2002 + 2002 + 260 + 260 + 240 + 40) hX hW.2 hL 600 0 _ 0 0 [] [] [] _ (by omega) (by omega) (by decide) (Nat.le_refl _) (J0 c0 _)
  rw [hp_0]
  obtain ⟨n, r, h', e1, e2, e3, e4⟩ := key
  subst e2
  exact ⟨n, h', e1, by omega, by omega⟩
end
