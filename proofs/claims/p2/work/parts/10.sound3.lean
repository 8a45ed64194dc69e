/-! The evaluator's heap steps over the machine: arrays, new cells, the rest. -/
section EV3
variable {p : Program} {l : Launch} {e : Env} {R : Room} {s : State} {m : MethodId} {args : Array Value} {below : List Frame} {meth : Method} {c : Code} {H : Heap} {locs : List Loc} {cells slots : Nat} {Q : State → Prop}
variable {D : va_G} {dA : Nat → ClassId} {X : ev_X} {H0 : Heap} {M pc a b w idx : Nat} {ls : Array Slot} {st st' : List Value} {h h' : ev_H}
theorem ev_S (hH : ev_HR D dA H0 h H) (hl : ∀ q ∈ locs, H0.size ≤ q.base) : va_S (ev_A H0) H0 H locs := ⟨by rw [hH.1]; exact hH.2.1, ev_kept hH, hl⟩
theorem ev_iald_ok (C : ev_Cx D dA X H0 p R s m args meth c M) (hd : decode (pg_b M) pc = .ok (.iaload, 1)) (hH : ev_HR D dA H0 h H) (hl : ∀ q ∈ locs, H0.size ≤ q.base) (hh : ev_iald X st h = some (st', h'))
    (k : ev_KW p l e R s m args below meth c Q D dA H0 h h' cells slots (F0 m (pc + 1) ls st')) : W p l e R s m args below meth c H locs cells slots Q (F0 m pc ls st) := by
  obtain ⟨hx, hb, hr, hml, hown, hts, hlk, hin, hK, hf, hw⟩ := C
  unfold ev_iald at hh
  split at hh
  · next j o r =>
    split at hh
    · next t n f ho =>
      split at hh
      · next hc =>
        cases hh
        exact va_iald (D := D) (cl := pg_cl) hx hb (ev_K2 hK hc.1) (ev_P1 (hH.2.2.2 o _ ho).2) 0 0 rfl rfl hc.2 hd (k H locs cells slots hH hl rfl rfl)
      · cases hh
    · cases hh
    · next ho =>
      split at hh
      · next hc =>
        cases hh
        obtain ⟨rfl, hc⟩ := hc
        exact va_sld hx hb hK.2.2.2.2.2.2.2.1.1 hK.2.2.2.2.2.2.2.1.2 (Nat.not_le.mpr hK.2.2.2.2.2.2.2.1.2) (ev_S hH hl) hc hd (k H locs cells slots hH hl rfl rfl)
      · cases hh
  · cases hh
theorem ev_bald_ok (C : ev_Cx D dA X H0 p R s m args meth c M) (hd : decode (pg_b M) pc = .ok (.baload, 1)) (hH : ev_HR D dA H0 h H) (hl : ∀ q ∈ locs, H0.size ≤ q.base) (hh : ev_bald X st h = some (st', h'))
    (k : ev_KW p l e R s m args below meth c Q D dA H0 h h' cells slots (F0 m (pc + 1) ls st')) : W p l e R s m args below meth c H locs cells slots Q (F0 m pc ls st) := by
  obtain ⟨hx, hb, hr, hml, hown, hts, hlk, hin, hK, hf, hw⟩ := C
  unfold ev_bald at hh
  split at hh
  · next j o r =>
    split at hh
    · next t n f ho =>
      split at hh
      · next hc =>
        cases hh
        exact va_bald (D := D) (cl := pg_cl) hx hb (ev_K2 hK hc.1) (ev_P1 (hH.2.2.2 o _ ho).2) 0 0 rfl rfl hc.2 hd (k H locs cells slots hH hl rfl rfl)
      · cases hh
    · cases hh
    · next ho =>
      split at hh
      · next k0 hk0 =>
        split at hh
        · next hc =>
          cases hh
          obtain ⟨cell, h1, h2, h3, h4, h5, h6, h7⟩ := (hK.2.2.2.2.1 o k0 hk0).kept (ev_kept hH)
          have hlt : j.toNatClampNeg < (pg_byt.getD k0 []).length := Nat.not_le.mp fun q => hc (Or.inr q)
          refine W.bald hx hb h1 h2 h3 (fun q => q.elim (fun q => hc (Or.inl q)) (fun q => by omega)) (h6 _ hlt) rfl rfl hd (k H locs cells slots hH hl rfl rfl)
        · cases hh
      · cases hh
  · cases hh
theorem ev_aald_ok (C : ev_Cx D dA X H0 p R s m args meth c M) (hd : decode (pg_b M) pc = .ok (.aaload, 1)) (hH : ev_HR D dA H0 h H) (hl : ∀ q ∈ locs, H0.size ≤ q.base) (hh : ev_aald st h = some (st', h'))
    (k : ev_KW p l e R s m args below meth c Q D dA H0 h h' cells slots (F0 m (pc + 1) ls st')) : W p l e R s m args below meth c H locs cells slots Q (F0 m pc ls st) := by
  obtain ⟨hx, hb, hr, hml, hown, hts, hlk, hin, hK, hf, hw⟩ := C
  unfold ev_aald at hh
  split at hh
  · next j o r =>
    split at hh
    · next t n f ho =>
      split at hh
      · next cn ht =>
        split at hh
        · next hc =>
          cases hh
          exact va_aldq (D := D) (cl := pg_cl) hx hb (ev_K2 hK ht) (ev_P1 (hH.2.2.2 o _ ho).2) 0 0 rfl rfl hc hd (k H locs cells slots hH hl rfl rfl)
        · cases hh
      · cases hh
    · cases hh
  · cases hh
theorem ev_iast_ok (C : ev_Cx D dA X H0 p R s m args meth c M) (hd : decode (pg_b M) pc = .ok (.iastore, 1)) (hH : ev_HR D dA H0 h H) (hl : ∀ q ∈ locs, H0.size ≤ q.base) (hh : ev_iast st h = some (st', h'))
    (k : ev_KW p l e R s m args below meth c Q D dA H0 h h' cells slots (F0 m (pc + 1) ls st')) : W p l e R s m args below meth c H locs cells slots Q (F0 m pc ls st) := by
  obtain ⟨hx, hb, hr, hml, hown, hts, hlk, hin, hK, hf, hw⟩ := C
  unfold ev_iast at hh
  split at hh
  · next x j o r =>
    split at hh
    · next t n f ho =>
      split at hh
      · next hc =>
        cases hh
        have hat : H[o]? = some (vp_cell (dA t) (n, .inl f)) := (hH.2.2.2 o _ ho).2
        refine W.iast hx hb hat ((hK.2.1 t _ hc.1).1 n (fun j => .int (f j))) (fun q => by cases q) (by show ¬ (j < 0 ∨ (arrV _ _ _).slots.size ≤ _); rw [arrV_size]; exact hc.2) rfl rfl hd fun H1 e1 z oq => ?_
        refine k H1 _ cells slots (hH.set ho ?_ z oq) (ev_lc1 hl (hH.2.2.2 o _ ho).1) rfl rfl
        show H1[o]? = some (vp_cell _ _)
        rw [e1, vp_cell_i, vp_cell_i, arrV_store]
        congr 2
        funext q
        by_cases hq : q = j.toNatClampNeg
        · subst hq; simp [updV, upd]
        · simp [updV, upd, hq]
      · cases hh
    · cases hh
  · cases hh
theorem ev_bast_ok (C : ev_Cx D dA X H0 p R s m args meth c M) (hd : decode (pg_b M) pc = .ok (.bastore, 1)) (hH : ev_HR D dA H0 h H) (hl : ∀ q ∈ locs, H0.size ≤ q.base) (hh : ev_bast st h = some (st', h'))
    (k : ev_KW p l e R s m args below meth c Q D dA H0 h h' cells slots (F0 m (pc + 1) ls st')) : W p l e R s m args below meth c H locs cells slots Q (F0 m pc ls st) := by
  obtain ⟨hx, hb, hr, hml, hown, hts, hlk, hin, hK, hf, hw⟩ := C
  unfold ev_bast at hh
  split at hh
  · next x j o r =>
    split at hh
    · next t n f ho =>
      split at hh
      · next hc =>
        cases hh
        have hat : H[o]? = some (vp_cell (dA t) (n, .inl f)) := (hH.2.2.2 o _ ho).2
        refine W.bast hx hb hat ((hK.2.1 t _ hc.1).1 n (fun j => .int (f j))) (fun q => by cases q) (by show ¬ (j < 0 ∨ (arrV _ _ _).slots.size ≤ _); rw [arrV_size]; exact hc.2) rfl rfl hd fun H1 e1 z oq => ?_
        refine k H1 _ cells slots (hH.set ho ?_ z oq) (ev_lc1 hl (hH.2.2.2 o _ ho).1) rfl rfl
        show H1[o]? = some (vp_cell _ _)
        rw [e1, vp_cell_i, vp_cell_i, arrV_store]
        congr 2
        funext q
        by_cases hq : q = j.toNatClampNeg
        · subst hq
          simp [updV, upd, vp_nar]
          try rfl
        · simp [updV, upd, hq]
      · cases hh
    · cases hh
  · cases hh
theorem pg_el_ok {t ci : Nat} (h : pg_el[t]? = some ci) {D : va_G} {dA : Nat → ClassId} {q : Nat × List Value} {v : Nat} {H : Heap} (hat : va_at D pg_cl (v, .inr (ci, q.2)) H) : ∃ r, pg_cl[ci]? = some r ∧ pg_ty[t]? = some (.object r.1) := by
  obtain ⟨r, hr, -⟩ := hat
  refine ⟨r, hr, ?_⟩
  match t, h with
  | 0, h => cases h; cases hr
  | 1, h => cases h; cases hr
  | 2, h => cases h; cases hr; rfl
  | n + 3, h => cases h
theorem ev_aast_ok (C : ev_Cx D dA X H0 p R s m args meth c M) (hd : decode (pg_b M) pc = .ok (.aastore, 1)) (hH : ev_HR D dA H0 h H) (hl : ∀ q ∈ locs, H0.size ≤ q.base) (hh : ev_aast st h = some (st', h'))
    (k : ev_KW p l e R s m args below meth c Q D dA H0 h h' cells slots (F0 m (pc + 1) ls st')) : W p l e R s m args below meth c H locs cells slots Q (F0 m pc ls st) := by
  obtain ⟨hx, hb, hr, hml, hown, hts, hlk, hin, hK, hf, hw⟩ := C
  unfold ev_aast at hh
  split at hh
  · next v j o r =>
    split at hh
    · next t n f ho =>
      split at hh
      · next ci vs hv =>
        split at hh
        · next hc =>
          cases hh
          have hatv : va_at D pg_cl (v, .inr (ci, vs)) H := (hH.2.2.2 v _ hv).2
          obtain ⟨rr, hrr, hty⟩ := pg_el_ok hc.1 (dA := dA) (q := (0, vs)) hatv
          have hat : H[o]? = some (vp_cell (dA t) (n, .inr (.inr (.inr (.inr f))))) := (hH.2.2.2 o _ ho).2
          have hlt : j.toNatClampNeg < n := Nat.not_le.mp fun q => hc.2 (Or.inr q)
          have h0 : ¬ j < 0 := fun q => hc.2 (Or.inl q)
          obtain ⟨r', hr', cellV, g1, g2, g3, -⟩ := hatv
          have hcls := (hK.1 ci rr hrr).2
          obtain ⟨kA, comp, k1, k2, k3, -⟩ := (hK.2.1 t _ hty).2
          have hcomp : comp = D.1 ci := Option.some.inj (k3.symm.trans hcls.1)
          subst hcomp
          obtain ⟨kC, hkC, -⟩ := hcls.2
          refine W.aast hx hb hat (fun q h => by cases h) (fun h => by cases h) k1 k2 rfl hkC ⟨h0, by show _ < (arrV _ _ _).slots.size; rw [arrV_size]; exact hlt⟩ g1 (fun q h => by rw [g3] at h; cases h) (by rw [g2]; exact hkC) (by rw [g2]; exact va_assign hcls) rfl rfl hd fun H1 e1 z oq => ?_
          refine k H1 _ cells slots (hH.set ho ?_ z oq) (ev_lc1 hl (hH.2.2.2 o _ ho).1) rfl rfl
          show H1[o]? = some (vp_cell _ _)
          rw [e1, vp_cell_q, vp_cell_q, arrV_store]
          congr 2
          funext q
          by_cases hq : q = j.toNatClampNeg
          · subst hq; simp [updV, va_up, va_rf]
          · simp [updV, va_up, hq]
        · cases hh
      · cases hh
    · cases hh
  · cases hh
theorem ev_alen_ok (C : ev_Cx D dA X H0 p R s m args meth c M) (hd : decode (pg_b M) pc = .ok (.arraylength, 1)) (hH : ev_HR D dA H0 h H) (hl : ∀ q ∈ locs, H0.size ≤ q.base) (hh : ev_alen X st h = some (st', h'))
    (k : ev_KW p l e R s m args below meth c Q D dA H0 h h' cells slots (F0 m (pc + 1) ls st')) : W p l e R s m args below meth c H locs cells slots Q (F0 m pc ls st) := by
  obtain ⟨hx, hb, hr, hml, hown, hts, hlk, hin, hK, hf, hw⟩ := C
  unfold ev_alen at hh
  split at hh
  · next o r =>
    split at hh
    · next t n f ho =>
      split at hh
      · next hc =>
        cases hh
        have ht : pg_ty[t]? = some pg_ty[t] := List.getElem?_eq_getElem hc
        exact va_alen (D := D) (cl := pg_cl) hx hb (ev_K2 hK ht) (ev_P1 (hH.2.2.2 o _ ho).2) 0 0 rfl rfl rfl hd (k H locs cells slots hH hl rfl rfl)
      · cases hh
    · cases hh
    · next ho =>
      split at hh
      · next hc =>
        cases hh
        subst hc
        exact va_slen hx hb hK.2.2.2.2.2.2.2.1.1 hK.2.2.2.2.2.2.2.1.2 (Nat.not_le.mpr hK.2.2.2.2.2.2.2.1.2) (ev_S hH hl) hd (k H locs cells slots hH hl rfl rfl)
      · split at hh
        · next k0 hk0 =>
          cases hh
          obtain ⟨cell, h1, h2, h3, h4, h5, h6, h7⟩ := (hK.2.2.2.2.1 o k0 hk0).kept (ev_kept hH)
          exact W.alen hx hb h1 h2 h5 rfl rfl hd (k H locs cells slots hH hl rfl rfl)
        · cases hh
  · cases hh
theorem ev_newo_ok (C : ev_Cx D dA X H0 p R s m args meth c M) (hd : decode (pg_b M) pc = .ok (.new idx, 3)) (hc : ev_chk2 M (.new idx) a b w = true) (hH : ev_HR D dA H0 h H) (hl : ∀ q ∈ locs, H0.size ≤ q.base) (hh : ev_newo a st h = some (st', h'))
    (hcl : cells + h'.1 ≤ R.cells + h.1) (hsl : slots + h'.2.1 ≤ R.slots + h.2.1) (k : ev_KW p l e R s m args below meth c Q D dA H0 h h' cells slots (F0 m (pc + 3) ls st')) : W p l e R s m args below meth c H locs cells slots Q (F0 m pc ls st) := by
  obtain ⟨hx, hb, hr, hml, hown, hts, hlk, hin, hK, hf, hw⟩ := C
  unfold ev_newo at hh
  split at hh
  · next q hq =>
    cases hh
    simp only [ev_chk2, hq] at hc
    obtain ⟨c1, c2, c3, c4, c5, c6, -⟩ := pg_cok _ _ hq
    have hKn := hK.1 a _ hq
    simp only [ev_new] at hcl hsl
    refine W.newcK hx hb hown (hts _ (pg_ws_of (of_decide_eq_true hc) rfl)) (hts _ c4) (hts _ c5) rfl hd (by omega) (by omega) hKn.2.1 hH.1 fun H1 kC hkC e1 z1 o1 => ?_
    refine k H1 locs (cells + 1) (slots + q.2.2) (hH.push ⟨_, hq, (u_born (pg_t a) hts c1 hKn hkC e1 c2).to c6⟩ (by rw [z1, hH.1]) (fun x hx => o1 x (by rw [← hH.1]; exact hx))) hl ?_ ?_
    · simp only [ev_new]; omega
    · simp only [ev_new]; omega
  · cases hh
theorem ev_newa_ok {at' : ArrayType} (C : ev_Cx D dA X H0 p R s m args meth c M) (hd : decode (pg_b M) pc = .ok (.newarray at', 2)) (harr : (Cond.arrayClass (Op.newarray.typeOf at')).before args s = true) (hH : ev_HR D dA H0 h H) (hl : ∀ q ∈ locs, H0.size ≤ q.base) (hh : ev_newa a at' st h = some (st', h'))
    (hcl : cells + h'.1 ≤ R.cells + h.1) (hsl : slots + h'.2.1 ≤ R.slots + h.2.1) (k : ev_KW p l e R s m args below meth c Q D dA H0 h h' cells slots (F0 m (pc + 2) ls st')) : W p l e R s m args below meth c H locs cells slots Q (F0 m pc ls st) := by
  obtain ⟨hx, hb, hr, hml, hown, hts, hlk, hin, hK, hf, hw⟩ := C
  unfold ev_newa at hh
  split at hh
  · next n r =>
    split at hh
    · next hc =>
      cases hh
      obtain ⟨h1, h2, h3, h4⟩ := hc
      simp only [ev_new] at hcl hsl
      refine va_newaK hx hb harr rfl hd rfl h3 rfl h4 (by omega) (by omega) hH.1 fun H1 cA e1 z1 o1 hAr hNm => ?_
      have hcA : cA = dA a := by
        have hra := (hK.2.1 a _ h1).2
        rcases h2 with h2 | h2 <;> rw [h2] at hra hNm <;> exact Option.some.inj (hNm.symm.trans hra)
      refine k H1 locs (cells + 1) (slots + n.toNatClampNeg) (hH.push ?_ (by rw [z1, hH.1]) (fun x hx => o1 x (by rw [← hH.1]; exact hx))) hl ?_ ?_
      · show H1[h.1]? = some (vp_cell (dA a) (n.toNatClampNeg, .inl fun _ => 0))
        rw [e1, hcA, vp_cell_i]
        rcases h2 with h2 | h2 <;> rw [h2] <;> rfl
      · simp only [ev_new]; omega
      · simp only [ev_new]; omega
    · cases hh
  · cases hh
theorem ev_anew_ok (C : ev_Cx D dA X H0 p R s m args meth c M) (hd : decode (pg_b M) pc = .ok (.anewarray idx, 3)) (hc : ev_chk2 M (.anewarray idx) a b w = true) (hH : ev_HR D dA H0 h H) (hl : ∀ q ∈ locs, H0.size ≤ q.base) (hh : ev_anew a st h = some (st', h'))
    (hcl : cells + h'.1 ≤ R.cells + h.1) (hsl : slots + h'.2.1 ≤ R.slots + h.2.1) (k : ev_KW p l e R s m args below meth c Q D dA H0 h h' cells slots (F0 m (pc + 3) ls st')) : W p l e R s m args below meth c H locs cells slots Q (F0 m pc ls st) := by
  obtain ⟨hx, hb, hr, hml, hown, hts, hlk, hin, hK, hf, hw⟩ := C
  unfold ev_anew at hh
  split at hh
  · next n r =>
    simp only [ev_chk2, Bool.and_eq_true, decide_eq_true_eq] at hc
    split at hh
    · next cn hcn =>
      split at hh
      · next hn =>
        cases hh
        simp only [ev_new] at hcl hsl
        have hra := (hK.2.1 a _ hc.2).2
        refine W.anew hx hb hown (hts _ (pg_ws_of hc.1 rfl)) (va_AO.use hK.2.2.2.2.2.2.2.2.2) rfl hd rfl hn.1 hn.2 (by omega) (by omega) fun cA kA comp f1 f2 f3 f4 => ?_
        have hcA : cA = dA a := by
          obtain ⟨_, _, _, _, _, g5⟩ := hra
          exact Option.some.inj (f1.symm.trans g5)
        rw [hH.1]
        refine k _ locs (cells + 1) (slots + n.toNatClampNeg) (hH.push ?_ (by rw [Array.size_push]) (fun x hx => by rw [Array.getElem?_push, if_neg (Nat.ne_of_lt hx)])) hl ?_ ?_
        · show (H.push _)[h.1]? = some (vp_cell (dA a) (n.toNatClampNeg, .inr (.inr (.inr (.inr fun _ => none)))))
          rw [← hH.1, Array.getElem?_push_size, hcA, vp_cell_q, ← arrV_new]
          rfl
        · simp only [ev_new]; omega
        · simp only [ev_new]; omega
      · cases hh
    · cases hh
  · cases hh
end EV3
