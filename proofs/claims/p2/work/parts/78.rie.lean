/-! The reference reads a text. (rows laid by wip/whole/rr14.py) -/
theorem by_mem {l : List Nat} : (∀ i, l.getD i 0 < 256) ↔ ∀ x, x ∈ l → x < 256 := by
  constructor
  · intro h x hx
    obtain ⟨i, hi⟩ := List.mem_iff_getElem?.mp hx
    have := h i
    rw [List.getD_eq_getElem?_getD, hi] at this
    exact this
  · intro h i
    rw [List.getD_eq_getElem?_getD]
    cases e : l[i]? with
    | none => exact (by decide : (0 : Nat) < 256)
    | some x => exact h x (List.mem_iff_getElem?.mpr ⟨i, e⟩)
theorem esW_by (b : Nat) (hb : b < 256) : ∀ x, x ∈ esW b → x < 256 := by
  unfold esW
  split
  · decide
  split
  · decide
  split
  · decide
  split
  · decide
  split
  · decide
  · intro x hx
    rw [List.mem_singleton] at hx; omega
theorem fm_by {l : List Nat} (h : ∀ i, l.getD i 0 < 256) : ∀ i, (l.flatMap esW).getD i 0 < 256 := by
  refine by_mem.mpr (fun x hx => ?_)
  obtain ⟨b, hb, hx⟩ := List.mem_flatMap.mp hx
  exact esW_by b (by_mem.mp h b hb) x hx
/-- a reader's end, over what is read (O) and what is a fault (F); outer may be another -/
def rdE (σ0 : Nat → Int32) (τ0 : Nat → Nat → Int32) (t : List Nat) (O : Nat → List Nat → Nat → Nat → Nat → Prop) (F : Nat → Prop) (r : Option Value) (σ' : Nat → Int32) (τ' : Nat → Nat → Int32) : Prop := r = none ∧ ∃ f, (∃ q d kd qq db, O q d kd qq db ∧ RS σ0 (va_up τ0 20 f) t q d kd qq db σ' τ') ∨ (∃ w m j, F w ∧ RG σ0 (va_up τ0 20 f) t w m j σ' τ' ∧ m ≤ 250 ∧ j ≤ 20)
theorem rdE_t {σ0 σ' : Nat → Int32} {τ0 τ' : Nat → Nat → Int32} {t d : List Nat} {O : Nat → List Nat → Nat → Nat → Nat → Prop} {F : Nat → Prop} {q kd qq db : Nat} (h : O q d kd qq db) (hR : RS σ0 τ0 t q d kd qq db σ' τ') : rdE σ0 τ0 t O F none σ' τ' := ⟨rfl, τ0 20, Or.inl ⟨q, d, kd, qq, db, h, by rw [va_id]; exact hR⟩⟩
theorem rdE_f {σ0 σ' : Nat → Int32} {τ0 τ' : Nat → Nat → Int32} {t : List Nat} {O : Nat → List Nat → Nat → Nat → Nat → Prop} {F : Nat → Prop} {w m j : Nat} (h : F w) (hR : RG σ0 τ0 t w m j σ' τ') (hm : m ≤ 250) (hj : j ≤ 20) : rdE σ0 τ0 t O F none σ' τ' := ⟨rfl, τ0 20, Or.inr ⟨w, m, j, h, by rw [va_id]; exact hR, hm, hj⟩⟩
theorem rdE.im {σ0 σ' : Nat → Int32} {τ0 τ' : Nat → Nat → Int32} {t : List Nat} {O O' : Nat → List Nat → Nat → Nat → Nat → Prop} {F F' : Nat → Prop} {r : Option Value} (h : rdE σ0 τ0 t O F r σ' τ') (hO : ∀ q d kd qq db, O q d kd qq db → O' q d kd qq db) (hF : ∀ w, F w → F' w) : rdE σ0 τ0 t O' F' r σ' τ' := by
  obtain ⟨e, f, (⟨q, d, kd, qq, db, h1, h2⟩ | ⟨w, m, j, h1, h2⟩)⟩ := h
  · exact ⟨e, f, Or.inl ⟨q, d, kd, qq, db, hO _ _ _ _ _ h1, h2⟩⟩
  · exact ⟨e, f, Or.inr ⟨w, m, j, hF _ h1, h2⟩⟩
/-- behind a text's quote -/
def t2O (t : List Nat) (q1 : Nat) (raw : List Nat) (ac : Nat) (q : Nat) (d : List Nat) (kd qq db : Nat) : Prop := (hb t q1 = 64 ∧ ∃ b, sT t (t.length - (q1 + 1)) (q1 + 1) 0 true [] = (true, q, b) ∧ d = [34] ++ raw ++ [34] ++ [64] ++ b ∧ kd = 6 ∧ qq = raw.length + 1 ∧ db = ac + b.length) ∨ (hb t q1 = 94 ∧ tyO t q1 raw ac q d kd qq db) ∨ (¬ hb t q1 = 64 ∧ ¬ hb t q1 = 94 ∧ q = q1 ∧ d = [34] ++ raw ++ [34] ∧ kd = 5 ∧ qq = raw.length + 1 ∧ db = ac)
def t2F (t : List Nat) (q1 : Nat) (raw : List Nat) (w : Nat) : Prop := (hb t q1 = 64 ∧ ∃ b, sT t (t.length - (q1 + 1)) (q1 + 1) 0 true [] = (false, w, b)) ∨ (hb t q1 = 94 ∧ tyF t q1 raw w)
def txO (t : List Nat) (q : Nat) (d : List Nat) (kd qq db : Nat) : Prop := ∃ q1 acc, sI t t.length 1 [] = (true, q1, acc) ∧ t2O t q1 (acc.flatMap esW) acc.length q d kd qq db
def txF (t : List Nat) (w : Nat) : Prop := (∃ acc, sI t t.length 1 [] = (false, w, acc)) ∨ ∃ q1 acc, sI t t.length 1 [] = (true, q1, acc) ∧ t2F t q1 (acc.flatMap esW) w
set_option maxRecDepth 100000 in
set_option maxHeartbeats 2000000 in
theorem rr_t95 {X : ev_X} {c0 : Nat} {σ0 : Nat → Int32} {τ0 : Nat → Nat → Int32} {t : List Nat} {raw : List Nat} {q ac : Nat} {σ : Nat → Int32} {τ : Nat → Nat → Int32} (hX : XS X c0) (hrl : raw.length ≤ 128) (hby : ∀ j, raw.getD j 0 < 256) (hac : ac ≤ 64) (h34 : hb t q = 34) (hS : RS σ0 τ0 t q ([34] ++ raw) 5 0 ac σ τ) : Rx X c0 m_Mod_readText 95 [.ref (c0 + 16), .int 0] [] σ τ (rdE σ0 τ0 t (t2O t (q + 1) raw ac) (t2F t (q + 1) raw)) := by
  have hl := hS.z.tl
  have hlt := hb_in (t := t) (q := q) (by rw [h34]; decide)
  refine Rx.go (fun _ => rfl) ?_
  refine Rx.callE rfl rfl rfl rfl (rz_good hS.z) ?_
  show Rx X c0 m_Mod_readText 99 [.ref (c0 + 16), .int 0] [.int 1] σ τ _
  refine Rx.go (fun _ => rfl) ?_
  show Rx X c0 m_Mod_readText 103 [.ref (c0 + 16), .int 0] [] σ τ _
  refine Rx.go (fun _ => rfl) ?_
  refine Rx.go (fun _ => rfl) ?_
  refine Rx.get rfl rfl ?_
  refine Rx.top (y := nI q) hS.f16 ?_
  refine Rx.go (fun _ => rfl) ?_
  refine Rx.go (fun _ => rfl) ?_
  refine Rx.top (y := nI (q + 1)) (nI_1 _) ?_
  refine Rx.put rfl (by decide) rfl rfl ?_
  have hS17 := hS.at1 hlt
  refine Rx.go (fun _ => rfl) ?_
  refine Rx.go (fun _ => rfl) ?_
  refine Rx.get rfl rfl ?_
  refine Rx.top (y := nI (([34] ++ raw).length)) hS17.f10 ?_
  refine Rx.top (y := nI (raw.length + 1)) (congrArg nI (by simp only [List.length_append, List.length_cons, List.length_nil]; omega)) ?_
  refine Rx.put rfl (by decide) rfl rfl ?_
  have hS18 := hS17.q1 (x := (raw.length + 1))
  refine Rx.go (fun _ => rfl) ?_
  refine Rx.go (fun _ => rfl) ?_
  refine Rx.callP rfl rfl rfl rfl (rs_put 34 hS18 (by first | omega | (simp only [List.length_append, List.length_cons, List.length_nil]; omega))) ?_
  intro σ19 τ19 hS19
  show Rx X c0 m_Mod_readText 127 [.ref (c0 + 16), .int 0] [] σ19 τ19 _
  refine Rx.go (fun _ => rfl) ?_
  refine Rx.callE rfl rfl rfl rfl (rz_here hS19.z) ?_
  show Rx X c0 m_Mod_readText 131 [.ref (c0 + 16), .int 0] [.int (hb t (q + 1))] σ19 τ19 _
  refine Rx.go (fun _ => rfl) ?_
  refine Rx.go (fun _ => rfl) ?_
  refine Rx.ite (fun c1 => ?_) (fun c1 => ?_)
  · replace c1 : ¬ (hb t (q + 1)) = 64 := of_decide_eq_true c1
    show Rx X c0 m_Mod_readText 143 [.ref (c0 + 16), .int 0] [] σ19 τ19 _
    refine Rx.go (fun _ => rfl) ?_
    refine Rx.callE rfl rfl rfl rfl (rz_here hS19.z) ?_
    show Rx X c0 m_Mod_readText 147 [.ref (c0 + 16), .int 0] [.int (hb t (q + 1))] σ19 τ19 _
    refine Rx.go (fun _ => rfl) ?_
    refine Rx.go (fun _ => rfl) ?_
    refine Rx.ite (fun c2 => ?_) (fun c2 => ?_)
    · replace c2 : ¬ (hb t (q + 1)) = 94 := of_decide_eq_true c2
      show Rx X c0 m_Mod_readText 157 [.ref (c0 + 16), .int 0] [] σ19 τ19 _
      exact Rx.ret rfl rfl (rdE_t (Or.inr (Or.inr ⟨c1, c2, rfl, rfl, rfl, rfl, rfl⟩)) hS19)
    · replace c2 : (hb t (q + 1)) = 94 := Classical.not_not.mp (of_decide_eq_false c2)
      show Rx X c0 m_Mod_readText 152 [.ref (c0 + 16), .int 0] [] σ19 τ19 _
      refine Rx.go (fun _ => rfl) ?_
      refine Rx.go (fun _ => rfl) ?_
      refine Rx.call rfl rfl rfl rfl (rr_type (raw := raw) hX rfl hrl hby hac c2 hS19) ?_
      intro v σ20 τ20 hT
      obtain ⟨rfl, -⟩ := id hT
      exact Rx.ret rfl rfl (rdE.im (O := tyO t (q + 1) raw ac) (F := tyF t (q + 1) raw) hT (fun _ _ _ _ _ h => Or.inr (Or.inl ⟨c2, h⟩)) (fun _ h => Or.inr ⟨c2, h⟩))
  · replace c1 : (hb t (q + 1)) = 64 := Classical.not_not.mp (of_decide_eq_false c1)
    show Rx X c0 m_Mod_readText 136 [.ref (c0 + 16), .int 0] [] σ19 τ19 _
    refine Rx.go (fun _ => rfl) ?_
    refine Rx.call rfl rfl rfl rfl (rr_tag (by simp only [List.length_append, List.length_cons, List.length_nil]; omega) (by omega) (hb_in (by rw [c1]; decide)) hS19) ?_
    rintro v σ21 τ21 ⟨rfl, hq21⟩
    generalize hN : sT t (t.length - (q + 1 + 1)) (q + 1 + 1) 0 true [] = T at hq21
    obtain ⟨g, q2, b⟩ := T
    cases g
    · rw [if_neg Bool.false_ne_true] at hq21
      obtain ⟨mm, jj, hG, hmm, hjj⟩ := hq21
      exact Rx.go (fun _ => rfl) (Rx.ret rfl rfl (rdE_f (Or.inl ⟨c1, b, hN⟩) hG hmm hjj))
    · rw [if_pos rfl] at hq21
      exact Rx.go (fun _ => rfl) (Rx.ret rfl rfl (rdE_t (Or.inl ⟨c1, b, hN, rfl, rfl, rfl, rfl⟩) hq21))
set_option maxRecDepth 100000 in
set_option maxHeartbeats 2000000 in
theorem rr_text {X : ev_X} {c0 : Nat} {σ0 : Nat → Int32} {τ0 : Nat → Nat → Int32} {t : List Nat} {σ : Nat → Int32} {τ : Nat → Nat → Int32} (hX : XS X c0) (h0 : 0 < t.length) (hS : RZ σ0 τ0 t 0 σ τ) : Rx X c0 m_Mod_readText 0 [.ref (c0 + 16), ev_dead] [] σ τ (rdE σ0 τ0 t (txO t) (txF t)) := by
  have hl := hS.tl
  refine Rx.go (fun _ => rfl) ?_
  refine Rx.get rfl rfl ?_
  refine Rx.top (y := 0) hS.2.1.1 ?_
  refine Rx.go (fun _ => rfl) ?_
  show Rx X c0 m_Mod_readText 5 [.ref (c0 + 16), .int 0] [] σ τ _
  refine Rx.go (fun _ => rfl) ?_
  refine Rx.go (fun _ => rfl) ?_
  refine Rx.callP rfl rfl rfl rfl (rz_begin 5 hS) ?_
  intro σ22 τ22 hS22
  show Rx X c0 m_Mod_readText 10 [.ref (c0 + 16), .int 0] [] σ22 τ22 _
  refine Rx.go (fun _ => rfl) ?_
  refine Rx.go (fun _ => rfl) ?_
  refine Rx.get rfl rfl ?_
  refine Rx.top (y := nI 0) hS22.f16 ?_
  refine Rx.go (fun _ => rfl) ?_
  refine Rx.go (fun _ => rfl) ?_
  refine Rx.top (y := nI (0 + 1)) (nI_1 0) ?_
  refine Rx.put rfl (by decide) rfl rfl ?_
  have hS23 := hS22.at1 h0
  refine Rx.go (fun _ => rfl) ?_
  refine Rx.go (fun _ => rfl) ?_
  refine Rx.callP rfl rfl rfl rfl (rs_put 34 hS23 (by first | omega | (simp only [List.length_append, List.length_cons, List.length_nil]; omega))) ?_
  intro σ24 τ24 hS24
  show Rx X c0 m_Mod_readText 26 [.ref (c0 + 16), .int 0] [] σ24 τ24 _
  show Rx X c0 m_Mod_readText 26 [.ref (c0 + 16), .int 0] [] σ24 τ24 _
  have hby := sI_by t hS.by t.length 1 [] nil_by
  refine rr_it_l (t := t) (o0 := sI t t.length 1 []) 0 ?_ ?_ t.length 1 [] _ _ (by omega) h0 (by decide) rfl hS24
  · intro q acc σ1 τ1 e ha h34 h1
    rw [← e] at hby
    have hR := rr_t95 (raw := acc.flatMap esW) hX (by have := fm_len acc; omega) (fm_by hby) ha h34 h1
    exact hR.mono (fun r σ' τ' h => h.im (fun _ _ _ _ _ h => ⟨_, acc, e.symm, h⟩) (fun _ h => Or.inr ⟨_, acc, e.symm, h⟩))
  · intro w m j acc σ1 τ1 e hG hm hj
    exact rdE_f (Or.inl ⟨acc, e.symm⟩) hG hm hj
