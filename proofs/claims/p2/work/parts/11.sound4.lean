/-! One step; entry; monotone heaps. -/
section EV4
variable {p : Program} {l : Launch} {e : Env} {R : Room} {s : State} {m : MethodId} {args : Array Value} {below : List Frame} {meth : Method} {c : Code} {H : Heap} {locs : List Loc} {cells slots : Nat} {Q : State → Prop}
variable {D : va_G} {dA : Nat → ClassId} {X : ev_X} {H0 : Heap} {M pc pc' nx a b w : Nat} {ls : Array Slot} {A A' st st' : List Value} {h h' : ev_H} {i : Instr}
theorem pg_arr0 : Cond.arrayClass .byte ∈ pg_ws := by decide +kernel
theorem pg_arr1 : Cond.arrayClass .int ∈ pg_ws := by decide +kernel
theorem pg_oi1 : Cond.instanceMethod Lib.objectInit ∈ pg_ws := by decide +kernel
theorem pg_oi2 : Cond.code Lib.objectInit ⟨#[0xb1]⟩ 1 none ∈ pg_ws := by decide +kernel
theorem pg_maxy : pg_y pg_max = Lib.Math.max.name := by decide +kernel
theorem pg_miny : pg_y pg_min = Lib.Math.min.name := by decide +kernel
theorem pg_absy : pg_y pg_abs = Lib.MathLoose.abs_long.x := by decide +kernel
theorem pg_inmax : (pg_max ∈ pg_sp) = True := eq_true (by decide +kernel)
theorem pg_inmin : (pg_min ∈ pg_sp) = True := eq_true (by decide +kernel)
theorem pg_inabs : (pg_abs ∈ pg_sp) = True := eq_true (by decide +kernel)
theorem pg_math0 : Cond.initialized "java/lang/Math" ∈ pg_ws := by decide +kernel
theorem pg_max1 : Cond.static Lib.Math.max.name ∈ pg_ws := by decide +kernel
theorem pg_min1 : Cond.static Lib.Math.min.name ∈ pg_ws := by decide +kernel
theorem pg_abs1 : Cond.static Lib.MathLoose.abs_long.x ∈ pg_ws := by decide +kernel
theorem pg_max2 : Cond.code Lib.Math.max.name Lib.Math.max.code 2 (some .int) ∈ pg_ws := pg_ws_of pg_w3 rfl
theorem pg_min2 : Cond.code Lib.Math.min.name Lib.Math.min.code 2 (some .int) ∈ pg_ws := pg_ws_of pg_w56 rfl
theorem pg_abs2 : Cond.code Lib.MathLoose.abs_long.x Lib.MathLoose.abs_long.code 2 (some .long) ∈ pg_ws := pg_ws_of pg_w79 rfl
theorem pg_oiy : pg_y pg_obj = Lib.objectInit := by decide +kernel
set_option maxHeartbeats 4000000 in
theorem ev_hp_ok (C : ev_Cx D dA X H0 p R s m args meth c M) (hd : decode (pg_b M) pc = .ok (i, ev_len i)) (hc : ev_chk2 M i a b w = true) (hH : ev_HR D dA H0 h H) (hl : ∀ q ∈ locs, H0.size ≤ q.base) (hL : ev_L ls (pg_L M) A) (hh : ev_hp X i a b st h = some (st', h'))
    (hcl : cells + h'.1 ≤ R.cells + h.1) (hsl : slots + h'.2.1 ≤ R.slots + h.2.1) (k : ev_KW p l e R s m args below meth c Q D dA H0 h h' cells slots (F0 m (pc + ev_len i) ls st')) : W p l e R s m args below meth c H locs cells slots Q (F0 m pc ls st) := by
  cases i
  case getfield idx => exact ev_get_ok C hd hc hH hl hh k
  case putfield idx => exact ev_put_ok C hd hc hH hl hh k
  case iaload => exact ev_iald_ok C hd hH hl hh k
  case baload => exact ev_bald_ok C hd hH hl hh k
  case aaload => exact ev_aald_ok C hd hH hl hh k
  case iastore => exact ev_iast_ok C hd hH hl hh k
  case bastore => exact ev_bast_ok C hd hH hl hh k
  case aastore => exact ev_aast_ok C hd hH hl hh k
  case arraylength => exact ev_alen_ok C hd hH hl hh k
  case new idx => exact ev_newo_ok C hd hc hH hl hh hcl hsl k
  case anewarray idx => exact ev_anew_ok C hd hc hH hl hh hcl hsl k
  case newarray t =>
    have hta : (Op.newarray.typeOf t = .int ∨ Op.newarray.typeOf t = .byte) := by
      dsimp only [ev_hp, ev_newa] at hh
      split at hh
      · split at hh
        · next hq => exact hq.2.1
        · cases hh
      · cases hh
    exact ev_newa_ok C hd (by rcases hta with q | q <;> rw [q]; exact C.2.2.2.2.2.1 _ pg_arr1; exact C.2.2.2.2.2.1 _ pg_arr0) hH hl hh hcl hsl k
  case getstatic idx =>
    obtain ⟨hx, hb, hr, hml, hown, hts, hlk, hin, hK, hf, hw⟩ := C
    cases hh
    have hkk := k H locs cells slots hH hl rfl rfl
    simp only [ev_chk2] at hc
    by_cases ha : a = 0
    · simp only [ha, if_true] at hc hkk
      obtain ⟨cf, kf, fi, f, ad, cell, h1, h2, h3, h4, h5, h6, h7, h8⟩ := hK.2.2.2.2.2.1.kept (ev_kept hH)
      exact W.gets hx hb hown (hts _ (pg_ws_of (of_decide_eq_true hc) rfl)) h1 h2 h3 h4 h5 (fun e => by rw [e] at h6; cases h6) h7 rfl hd hkk
    · simp only [ha, if_false] at hc hkk
      obtain ⟨cf, kf, fi, f, ad, cell, h1, h2, h3, h4, h5, h6, h7, h8⟩ := hK.2.2.2.2.2.2.1.kept (ev_kept hH)
      exact W.gets hx hb hown (hts _ (pg_ws_of (of_decide_eq_true hc) rfl)) h1 h2 h3 h4 h5 (fun e => by rw [e] at h6; cases h6) h7 rfl hd hkk
  case ldc idx =>
    obtain ⟨hx, hb, hr, hml, hown, hts, hlk, hin, hK, hf, hw⟩ := C
    dsimp only [ev_hp] at hh
    split at hh
    · next hb1 =>
      cases hh
      simp only [ev_chk2, hb1, if_true, decide_eq_true_eq] at hc
      exact va_ldcS hx hb hown (hK.2.2.1 _ hc) hd (k H locs cells slots hH hl rfl rfl)
    · cases hh
  case invokespecial idx =>
    obtain ⟨hx, hb, hr, hml, hown, hts, hlk, hin, hK, hf, hw⟩ := C
    dsimp only [ev_hp, ev_oini] at hh
    split at hh
    · next o r =>
      split at hh
      · next ha =>
        cases hh
        simp only [ev_chk2, ha.1, if_true, Bool.and_eq_true, decide_eq_true_eq] at hc
        have hlk2 := of_decide_eq_true hc.2
        rw [pg_oiy] at hlk2
        refine W.objInit hx hb hown (hts _ (pg_ws_of hlk2 rfl)) (hts _ pg_oi1) (hts _ pg_oi2) rfl (by rw [hml]; exact hL.2.1) rfl hd (by omega) ?_ (k H locs cells slots hH hl rfl rfl)
        have h8 : 2 * (F0 m pc ls (.ref o :: st')).monitorRoom + (st'.map fun v => v.category).sum ≤ 8 := lv_room ha.2
        omega
      · cases hh
    · cases hh
  case invokestatic idx =>
    obtain ⟨hx, hb, hr, hml, hown, hts, hlk, hin, hK, hf, hw⟩ := C
    dsimp only [ev_hp, ev_math] at hh
    split at hh
    · next y x r =>
      split at hh
      · next hsum =>
        split at hh
        · next ha =>
          cases hh
          subst ha
          simp only [ev_chk2, pg_inmax, if_true, Bool.and_eq_true, decide_eq_true_eq] at hc
          have hlk2 := of_decide_eq_true hc.1.2
          rw [pg_maxy] at hlk2
          exact va_mmax hx hb (by rw [hml]; exact hL.2.1.symm) hown (hts _ (pg_ws_of hlk2 rfl)) (hts _ pg_max1) (hts _ pg_math0) (hts _ pg_max2) (by omega) (by omega) (by omega) (by omega) hd (k H locs cells slots hH hl rfl rfl)
        · split at hh
          · next ha =>
            cases hh
            subst ha
            simp only [ev_chk2, pg_inmin, if_true, Bool.and_eq_true, decide_eq_true_eq] at hc
            have hlk2 := of_decide_eq_true hc.1.2
            rw [pg_miny] at hlk2
            exact va_mmin hx hb (by rw [hml]; exact hL.2.1.symm) hown (hts _ (pg_ws_of hlk2 rfl)) (hts _ pg_min1) (hts _ pg_math0) (hts _ pg_min2) (by omega) (by omega) (by omega) (by omega) hd (k H locs cells slots hH hl rfl rfl)
          · cases hh
      · cases hh
    · next x r =>
      split at hh
      · next hsum =>
        split at hh
        · next ha =>
          cases hh
          subst ha
          simp only [ev_chk2, pg_inabs, if_true, Bool.and_eq_true, decide_eq_true_eq] at hc
          have hlk2 := of_decide_eq_true hc.1.2
          rw [pg_absy] at hlk2
          exact va_mabs_long hx hb (by rw [hml]; exact hL.2.1.symm) hown (hts _ (pg_ws_of hlk2 rfl)) (hts _ pg_abs1) (hts _ pg_math0) (hts _ pg_abs2) (by omega) (by omega) (by omega) (by omega) hd (k H locs cells slots hH hl rfl rfl)
        · cases hh
      · cases hh
    · cases hh
  all_goals cases hh
set_option maxHeartbeats 4000000 in
theorem ev_one_ok (C : ev_Cx D dA X H0 p R s m args meth c M) (hc : ev_chk M (pc, i, nx, a, b, w) = true) (hH : ev_HR D dA H0 h H) (hl : ∀ q ∈ locs, H0.size ≤ q.base) (hL : ev_L ls (pg_L M) A) (hh : ev_one X i pc nx a b A st h = some (pc', A', st', h'))
    (hcl : cells + h'.1 ≤ R.cells + h.1) (hsl : slots + h'.2.1 ≤ R.slots + h.2.1) (k : ∀ ls' : Array Slot, ev_L ls' (pg_L M) A' → ev_KW p l e R s m args below meth c Q D dA H0 h h' cells slots (F0 m pc' ls' st')) : W p l e R s m args below meth c H locs cells slots Q (F0 m pc ls st) := by
  unfold ev_chk at hc
  simp only [Bool.and_eq_true, Bool.or_eq_true, decide_eq_true_eq] at hc
  obtain ⟨⟨⟨hd0, hle⟩, hsw⟩, hc2⟩ := hc
  have hd : ∀ z : Nat, nx = pc + z → decode (pg_b M) pc = .ok (i, z) := fun z hz => by rw [hd0, hz, Nat.add_sub_cancel_left]
  unfold ev_one at hh
  split at hh
  · next st1 h1 =>
    have hns : nx = pc + ev_len i := hsw.resolve_left (fun q => by cases i <;> first | (cases q; done) | cases h1)
    cases hh
    have hkk := k ls hL H locs cells slots hH hl rfl rfl
    rw [hns] at hkk
    refine ev_st_ok C.1 C.2.1 C.2.2.2.2.1 (hd _ hns) (fun kk v hi hv => ?_) (fun kk v hi hv => ?_) h1 hkk
    · subst hi
      by_cases hb1 : b = 0
      · simp only [hb1, if_true] at hv
        simp only [ev_chk2, hb1, hv] at hc2
        simp at hc2
        exact C.2.2.2.2.2.1 _ (pg_ws_of hc2 rfl)
      · simp only [hb1, if_false] at hv
        cases hv
    · subst hi
      by_cases hb1 : b = 0
      · simp only [hb1, if_true] at hv
        simp only [ev_chk2, hb1, hv] at hc2
        simp at hc2
        exact C.2.2.2.2.2.1 _ (pg_ws_of hc2 rfl)
      · simp only [hb1, if_false] at hv
        cases hv
  · split at hh
    · next A1 st1 h1 =>
      have hns : nx = pc + ev_len i := hsw.resolve_left (fun q => by cases i <;> first | (cases q; done) | cases h1)
      cases hh
      refine ev_lc_ok C.1 C.2.1 (hd _ hns) hL h1 (fun ls' hL' => ?_)
      have hkk := k ls' hL' H locs cells slots hH hl rfl rfl
      rw [hns] at hkk
      exact hkk
    · split at hh
      · next pc1 st1 h1 =>
        cases hh
        have hkk := k ls hL H locs cells slots hH hl rfl rfl
        refine ev_br_ok (len := nx - pc) C.1 C.2.1 hd0 (hsw.imp id (fun q => by omega)) ?_ hkk
        rw [Nat.add_sub_cancel' hle]
        exact h1
      · split at hh
        · next st1 h1 hp1 =>
          have hns : nx = pc + ev_len i := hsw.resolve_left (fun q => by cases i <;> first | (cases q; done) | cases hp1)
          cases hh
          refine ev_hp_ok C (hd _ hns) hc2 hH hl hL hp1 hcl hsl ?_
          rw [← hns]
          exact k ls hL
        · cases hh
end EV4
theorem ev_fl_len (as : List Value) : (ev_fl as).length = (lg_sl as).length := by
  induction as with
  | nil => rfl
  | cons v t ih =>
    by_cases hv : v.category = 2
    · simp [ev_fl, lg_sl, hv] at ih ⊢
      simpa [lg_sl] using ih
    · simp [ev_fl, lg_sl, hv] at ih ⊢
      simpa [lg_sl] using ih
theorem ev_fl_at (as : List Value) : ∀ (k j : Nat) (v : Value), (ev_fl as)[j]? = some v → v ≠ ev_dead → (k + j, v) ∈ lv_args k as := by
  induction as with
  | nil => intro k j v h; simp [ev_fl] at h
  | cons u t ih =>
    intro k j v h hd
    by_cases hu : u.category = 2
    · simp only [ev_fl, hu, if_true] at h
      simp only [lv_args, hu, if_true]
      match j, h with
      | 0, h => cases h; exact List.mem_cons_self
      | 1, h => cases h; exact absurd rfl hd
      | j + 2, h =>
        have := ih (k + 2) j v (by simpa using h) hd
        rw [show k + (j + 2) = k + 2 + j by omega]
        exact List.mem_cons_of_mem _ this
    · simp only [ev_fl, hu, if_false] at h
      simp only [lv_args, hu, if_false]
      match j, h with
      | 0, h => cases h; exact List.mem_cons_self
      | j + 1, h =>
        have := ih (k + 1) j v (by simpa using h) hd
        rw [show k + (j + 1) = k + 1 + j by omega]
        exact List.mem_cons_of_mem _ this
theorem ev_entry {L : Nat} {as A0 : List Value} (h : ev_ent L as = some A0) : ev_L ((lg_sl as ++ List.replicate (L - (lg_sl as).length) Slot.unset).toArray) L A0 := by
  unfold ev_ent at h
  split at h
  · next hle =>
    cases h
    rw [ev_fl_len] at hle
    obtain ⟨e1, e2, e3⟩ := lv_entry as hle
    refine ⟨by rw [List.length_append, List.length_replicate, ev_fl_len]; omega, e1, e2, fun q hq => ?_⟩
    obtain ⟨h1, h2⟩ := ev_prs_mem.mp hq
    by_cases hlt : q.1 < (ev_fl as).length
    · rw [List.getElem?_append_left hlt] at h1
      have := ev_fl_at as 0 q.1 q.2 h1 h2
      rw [Nat.zero_add] at this
      exact e3 q this
    · rw [List.getElem?_append_right (by omega)] at h1
      exact absurd (List.eq_of_mem_replicate (List.mem_of_getElem? h1)) h2
  · cases h
