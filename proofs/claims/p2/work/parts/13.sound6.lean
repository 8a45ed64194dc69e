/-! The soundness of the evaluator: calls, the theorem, and its two uses (a method's contract; the law's own walk). -/
section EV6
variable {p : Program} {l : Launch} {e : Env} {R : Room} {s : State} {m : MethodId} {args : Array Value} {below : List Frame} {meth : Method} {c : Code} {H : Heap} {locs : List Loc} {cells slots : Nat} {Q : State → Prop}
variable {D : va_G} {dA : Nat → ClassId} {X : ev_X} {H0 : Heap} {M pc pc' nx a b w : Nat} {ls : Array Slot} {A A' st st' : List Value} {h h' : ev_H} {i : Instr}
theorem ev_argI_ok {k o : Nat} {as r : List Value} (hh : ev_argI k st = some (o, as, r)) : as.length = k ∧ st = as.reverse ++ .ref o :: r ∧ (r.map fun v => v.category).sum ≤ 8 := by
  unfold ev_argI at hh
  split at hh
  · next o' r' hdr =>
    split at hh
    · next hc =>
      cases hh
      refine ⟨by rw [List.length_reverse]; exact hc.1, ?_, hc.2⟩
      rw [List.reverse_reverse, ← hdr, List.take_append_drop]
    · cases hh
  · cases hh
theorem ev_argS_ok {k : Nat} {as r : List Value} (hh : ev_argS k st = some (as, r)) : as.length = k ∧ st = as.reverse ++ r ∧ (r.map fun v => v.category).sum ≤ 8 := by
  unfold ev_argS at hh
  split at hh
  · next hc =>
    cases hh
    refine ⟨by rw [List.length_reverse]; exact hc.1, ?_, hc.2⟩
    rw [List.reverse_reverse, List.take_append_drop]
  · cases hh
theorem ev_rcv_ok {o : Nat} (hK : ev_K D dA X H0 s) (hH : ev_HR D dA H0 h H) (hm : ev_mchk a = true) (hs : pg_s a = false) (hn : (pg_y a).name ≠ "<init>") (hr : ev_rcv X h o (pg_c a) = true) : ∃ cell : Cell, H[o]? = some cell ∧ cell.vm.isStatics = false ∧ s.vm.findClass (pg_y a).cls = some cell.cls := by
  unfold ev_mchk at hm
  simp only [Bool.and_eq_true, hs, hn, decide_false, Bool.false_or] at hm
  have hcl := hm.2.2
  unfold ev_rcv at hr
  split at hr
  · next ci fs ho =>
    have hci : ci = pg_c a := by simpa using hr
    subst hci
    have hat : va_at D pg_cl (o, .inr (pg_c a, fs)) H := (hH.2.2.2 o _ ho).2
    obtain ⟨q, hq, -⟩ := id hat
    have h90 : ¬ pg_c a = 90 := fun z => by rw [z] at hq; cases hq
    rw [if_neg h90, hq] at hcl
    have hq1 : q.1 = (pg_y a).cls := by simpa using hcl
    obtain ⟨cell, g1, g2, g3⟩ := va_recv (ev_K1 hK) (ev_P1 hat) hq (q0 := 0) rfl
    exact ⟨cell, g1, g2, by rw [← hq1]; exact g3⟩
  · cases hr
  · next ho =>
    simp only [Bool.and_eq_true, beq_iff_eq] at hr
    rw [if_pos hr.1] at hcl
    have hs1 : (pg_y a).cls = "java/lang/String" := of_decide_eq_true hcl
    obtain ⟨k, hk⟩ := Option.isSome_iff_exists.mp hr.2
    obtain ⟨cell, g1, g2, g3, -⟩ := (hK.2.2.2.1 o k hk).1.kept (ev_kept hH)
    exact ⟨cell, g1, g2, by rw [hs1]; exact g3⟩
theorem ev_blind {as : List Value} : FrameBlind (va_Pc as (fun U => ev_HR D dA H0 h U.heap ∧ ev_K D dA X H0 U)) := fun a U g mk q => ⟨q.1, q.2.1, ev_K.warm (s := U) (U := U.calling g mk a) (State.WarmedH.refl U) q.2.2⟩
set_option maxHeartbeats 4000000 in
theorem ev_calrun {as rest : List Value} {v : Option Value} {h1 : ev_H} {mc ms : Nat} (C : ev_Cx D dA X H0 p R s m args meth c M) (hc : ev_chk M (pc, i, nx, a, b, w) = true) (hH : ev_HR D dA H0 h H) (hL : ev_L ls (pg_L M) A) (hh : ev_cal X i a st h = some (as, rest))
    (hM : ev_mchk a = true → Met l (pg_y a) (pg_wsm a) { frames := pg_f a, cells := mc, slots := ms, locals := pg_w a } (va_Pc as (fun U => ev_HR D dA H0 h U.heap ∧ ev_K D dA X H0 U)) (ev_Q D dA H0 v h1) mc ms (ev_A H0)) (hf : cells + mc ≤ R.cells ∧ slots + ms ≤ R.slots) :
    nx = pc + 3 ∧ va_Run p l e R s m args below meth c H locs cells slots mc ms (F0 m pc ls st) rest (ev_Q D dA H0 v h1 as.toArray) (ev_A H0) := by
  unfold ev_chk at hc
  simp only [Bool.and_eq_true, Bool.or_eq_true, decide_eq_true_eq] at hc
  obtain ⟨⟨⟨hd0, hle⟩, hsw⟩, hc2⟩ := hc
  obtain ⟨hx, hb, hr, hml, hown, hts, hlk, hin, hK, hfr, hw⟩ := C
  cases i
  case invokevirtual idx =>
    have hnx : nx = pc + 3 := hsw.resolve_left (fun q => by cases q)
    refine ⟨hnx, ?_⟩
    have hd : decode (pg_b M) pc = .ok (.invokevirtual idx, 3) := by rw [hd0, hnx, Nat.add_sub_cancel_left]
    simp only [ev_chk2, ev_chkC, ev_chkL, ev_chkN, Bool.and_eq_true, Bool.or_eq_true, decide_eq_true_eq, Bool.not_eq_true'] at hc2
    obtain ⟨⟨⟨⟨⟨⟨ha1, ha2⟩, hf1⟩, hf2⟩, hlink⟩, hst⟩, hni⟩ := hc2
    have hm := pg_mok ha1 ha2
    have hG := pg_good ha1
    simp only [ev_cal] at hh
    split at hh
    · next o as' r' harg =>
      split at hh
      · next hrcv =>
        cases hh
        obtain ⟨hlen, hstk, hsum⟩ := ev_argI_ok harg
        have hm2 := hm
        unfold ev_mchk at hm2
        simp only [Bool.and_eq_true, decide_eq_true_eq, hst, Bool.false_or, Bool.or_eq_true, Bool.false_eq_true, if_false] at hm2
        obtain ⟨⟨⟨⟨⟨⟨m2, m3⟩, m4⟩, m5⟩, m6⟩, m7⟩, m8⟩ := hm2
        have m8' := m8.resolve_left hni
        have hini := hts _ (pg_ws_of m2 rfl)
        have hinst := hts _ (pg_ws_of m3 rfl)
        have hsel := hts _ (pg_ws_of m8'.1 rfl)
        have hR : pg_f a + 1 ≤ R.frames ∧ 8 + (pg_L a + 11) + pg_w a ≤ R.locals := ⟨Nat.le_trans hf1 hfr, Nat.le_trans hf2 hw⟩
        have hpre : PreV s H (pg_y a).cls o (va_Pc (.ref o :: as') (fun U => ev_HR D dA H0 h U.heap ∧ ev_K D dA X H0 U)) as' := ⟨ev_blind, ev_rcv_ok hK hH hm hst hni hrcv, fun U hU hW => ⟨rfl, by rw [hU]; exact hH, ev_K.warm hW hK⟩⟩
        rcases hlink with hlink | hlink
        · exact va_runV (As := as') (rest := rest) ⟨hx, hb, hml, hown, hts⟩ (hM hm) ⟨callB_of (pg_n a) hts hG rfl rfl rfl hini (hts _ (pg_ws_of hlink rfl)) ⟨m4, m5, m6⟩ hR, hinst, hsel⟩ hpre rfl hlen hL.2.1 hstk (lv_room hsum) hd hf
        · exact va_runVN (As := as') (rest := rest) ⟨hx, hb, hml, hown, hts⟩ (hM hm) ⟨va_cnB (pg_n a) hts hG rfl rfl rfl (hK.2.2.2.2.2.2.2.2.1 _ (List.mem_of_getElem? hlink) rfl) hini ⟨m4, m5, m6⟩ hR, hinst, hsel⟩ hpre rfl hlen hL.2.1 hstk (lv_room hsum) hd hf
      · cases hh
    · cases hh
  case invokespecial idx =>
    have hnx : nx = pc + 3 := hsw.resolve_left (fun q => by cases q)
    refine ⟨hnx, ?_⟩
    have hd : decode (pg_b M) pc = .ok (.invokespecial idx, 3) := by rw [hd0, hnx, Nat.add_sub_cancel_left]
    simp only [ev_cal] at hh
    split at hh
    · cases hh
    next hobj =>
    simp only [ev_chk2, hobj, if_false, ev_chkC, ev_chkL, Bool.and_eq_true, decide_eq_true_eq, Bool.not_eq_true'] at hc2
    obtain ⟨⟨⟨⟨⟨⟨⟨ha1, ha2⟩, hf1⟩, hf2⟩, hlink⟩, hst⟩, hni⟩, hrn⟩ := hc2
    have hm := pg_mok ha1 ha2
    have hG := pg_good ha1
    split at hh
    · next o as' r' harg =>
      cases hh
      obtain ⟨hlen, hstk, hsum⟩ := ev_argI_ok harg
      have hm2 := hm
      unfold ev_mchk at hm2
      simp only [Bool.and_eq_true, decide_eq_true_eq, hst, Bool.false_eq_true, if_false] at hm2
      obtain ⟨⟨⟨⟨⟨⟨m2, m3⟩, m4⟩, m5⟩, m6⟩, m7⟩, m8⟩ := hm2
      have hini := hts _ (pg_ws_of m2 rfl)
      have hinst := hts _ (pg_ws_of m3 rfl)
      have hR : pg_f a + 1 ≤ R.frames ∧ 8 + (pg_L a + 11) + pg_w a ≤ R.locals := ⟨Nat.le_trans hf1 hfr, Nat.le_trans hf2 hw⟩
      exact va_runI (As := as') (rest := rest) ⟨hx, hb, hml, hown, hts⟩ (hM hm) ⟨callB_of (pg_n a) hts hG (by unfold pg_wsm; rw [hrn]) rfl rfl hini (hts _ (pg_ws_of hlink rfl)) ⟨m4, m5, m6⟩ hR, hni, hinst⟩ ⟨ev_blind, fun U hU hW => ⟨rfl, by rw [hU]; exact hH, ev_K.warm hW hK⟩⟩ rfl hlen hL.2.1 hstk (lv_room hsum) hd hf
    · cases hh
  case invokestatic idx =>
    have hnx : nx = pc + 3 := hsw.resolve_left (fun q => by cases q)
    refine ⟨hnx, ?_⟩
    have hd : decode (pg_b M) pc = .ok (.invokestatic idx, 3) := by rw [hd0, hnx, Nat.add_sub_cancel_left]
    simp only [ev_cal] at hh
    split at hh
    · cases hh
    next hsp =>
    simp only [ev_chk2, hsp, if_false, ev_chkC, ev_chkL, ev_chkN, Bool.and_eq_true, Bool.or_eq_true, decide_eq_true_eq] at hc2
    obtain ⟨⟨⟨⟨⟨ha1, ha2⟩, hf1⟩, hf2⟩, hlink⟩, hst⟩ := hc2
    have hm := pg_mok ha1 hsp
    have hG := pg_good ha1
    obtain ⟨hlen, hstk, hsum⟩ := ev_argS_ok hh
    have hm2 := hm
    unfold ev_mchk at hm2
    simp only [Bool.and_eq_true, decide_eq_true_eq, hst, if_true] at hm2
    obtain ⟨⟨⟨⟨⟨⟨m2, m3⟩, m4⟩, m5⟩, m6⟩, m7⟩, m8⟩ := hm2
    have hini := hts _ (pg_ws_of m2 rfl)
    have hstat := hts _ (pg_ws_of m3 rfl)
    have hR : pg_f a + 1 ≤ R.frames ∧ 8 + (pg_L a + 11) + pg_w a ≤ R.locals := ⟨Nat.le_trans hf1 hfr, Nat.le_trans hf2 hw⟩
    have hpre : PreS s H (va_Pc as (fun U => ev_HR D dA H0 h U.heap ∧ ev_K D dA X H0 U)) as := ⟨ev_blind, fun U hU hW => ⟨rfl, by rw [hU]; exact hH, ev_K.warm hW hK⟩⟩
    rcases hlink with hlink | hlink
    · exact va_runS (As := as) (rest := rest) ⟨hx, hb, hml, hown, hts⟩ (hM hm) ⟨callB_of (pg_n a) hts hG rfl rfl rfl hini (hts _ (pg_ws_of hlink rfl)) ⟨m4, m5, m6⟩ hR, hstat⟩ hpre rfl hlen hL.2.1 hstk (lv_room hsum) hd hf
    · exact va_runSN (As := as) (rest := rest) ⟨hx, hb, hml, hown, hts⟩ (hM hm) ⟨va_cnB (pg_n a) hts hG rfl rfl rfl (hK.2.2.2.2.2.2.2.2.1 _ (List.mem_of_getElem? hlink) rfl) hini ⟨m4, m5, m6⟩ hR, hstat, trivial⟩ hpre rfl hlen hL.2.1 hstk (lv_room hsum) hd hf
  all_goals cases hh
end EV6
set_option maxHeartbeats 4000000 in
/-- THE SOUNDNESS of the evaluator -/
theorem ev_sound (D : va_G) (dA : Nat → ClassId) (X : ev_X) (H0 : Heap) : ∀ n, ev_S0 D dA X H0 n := by
  intro n
  induction n with
  | zero => intro M pc A st h r h' hr; cases hr
  | succ n ih =>
    intro M pc A st h r h' hr p l e R s m args below meth c Q C fin H locs cells slots ls hH hL hl hcl hsl
    rw [ev_run] at hr
    split at hr
    · cases hr
    next i nx a b w hop =>
    have hchk := pg_ok hop
    split at hr
    · next r0 hret =>
      cases hr
      have hq := ev_ret_len hret
      have hc := hchk
      unfold ev_chk at hc
      simp only [Bool.and_eq_true, Bool.or_eq_true, decide_eq_true_eq, hq.2, hq.1, Bool.false_eq_true, false_or] at hc
      obtain ⟨⟨⟨hd0, hle⟩, hsw⟩, hc2⟩ := hc
      exact fin i pc st H locs cells slots ls (by rw [hd0, hsw, Nat.add_sub_cancel_left]) hret hH hl (by omega) (by omega)
    · split at hr
      · next as rest hcal =>
        split at hr
        · next A0 hent =>
          split at hr
          · next v h1 hcallee =>
            have e1 := ev_mono _ _ _ _ _ _ _ _ _ hcallee
            have e2 := ev_mono _ _ _ _ _ _ _ _ _ hr
            obtain ⟨hnx, hRun⟩ := ev_calrun (below := below) (e := e) (locs := locs) (cells := cells) (slots := slots) (v := v) (h1 := h1) (mc := h1.1 - h.1) (ms := h1.2.1 - h.2.1) C hchk hH hL hcal (fun hm => ev_met ih hcallee hent hm l) ⟨by omega, by omega⟩
            refine ev_wcall hRun hl (fun H1 locs1 hH1 hl1 => ?_)
            rw [← hnx]
            exact ih M nx A (v.toList ++ rest) h1 r h' hr p l e R s m args below meth c Q C fin H1 locs1 _ _ ls hH1 hL hl1 (by omega) (by omega)
          · cases hr
        · cases hr
      · split at hr
        · next pc' A' st' h2 hone =>
          have e1 := ev_one_mono hone
          have e2 := ev_mono _ _ _ _ _ _ _ _ _ hr
          exact ev_one_ok C hchk hH hl hL hone (by omega) (by omega) (fun ls' hL' H' locs' cells' slots' hH' hl' q1 q2 => ih M pc' A' st' h2 r h' hr p l e R s m args below meth c Q C fin H' locs' cells' slots' ls' hH' hL' hl' (by omega) (by omega))
        · cases hr
