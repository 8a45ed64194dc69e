/-! The evaluator's heap steps over the machine. -/
section EV2
variable {p : Program} {l : Launch} {e : Env} {R : Room} {s : State} {m : MethodId} {args : Array Value} {below : List Frame} {meth : Method} {c : Code} {H : Heap} {locs : List Loc} {cells slots : Nat} {Q : State → Prop}
variable {D : va_G} {dA : Nat → ClassId} {X : ev_X} {H0 : Heap} {M pc a b w idx : Nat} {ls : Array Slot} {st st' : List Value} {h h' : ev_H}
/-- how a walk goes on behind a step from h to h' -/
def ev_KW (p : Program) (l : Launch) (e : Env) (R : Room) (s : State) (m : MethodId) (args : Array Value) (below : List Frame) (meth : Method) (c : Code) (Q : State → Prop) (D : va_G) (dA : Nat → ClassId) (H0 : Heap) (h h' : ev_H) (cells slots : Nat) (g : JFrame) : Prop :=
  ∀ (H' : Heap) (locs' : List Loc) (cells' slots' : Nat), ev_HR D dA H0 h' H' → (∀ q ∈ locs', H0.size ≤ q.base) → cells' + h.1 = cells + h'.1 → slots' + h.2.1 = slots + h'.2.1 → W p l e R s m args below meth c H' locs' cells' slots' Q g
theorem ev_kept (hH : ev_HR D dA H0 h H) : ∀ q : Nat, q < H0.size → ¬ ev_A H0 q → H[q]? = H0[q]? := fun q hq _ => hH.2.2.1 q hq
theorem ev_lc1 {o i : Nat} (hl : ∀ q ∈ locs, H0.size ≤ q.base) (hlo : H0.size ≤ o) : ∀ q ∈ locs ++ [(⟨o, i⟩ : Loc)], H0.size ≤ q.base := by
  intro q hq
  rcases List.mem_append.mp hq with hq | hq
  · exact hl q hq
  · rw [List.mem_singleton.mp hq]; exact hlo
theorem ev_K1 (hK : ev_K D dA X H0 s) : va_K D pg_cl [] s := ⟨hK.1, fun k q h => by simp at h⟩
theorem ev_K2 (hK : ev_K D dA X H0 s) {t : Nat} {ty : FieldType} (ht : pg_ty[t]? = some ty) : va_K D pg_cl [(dA t, ty)] s := ⟨hK.1, fun k q h => by
  cases k with
  | zero => cases h; exact hK.2.1 t ty ht
  | succ k => simp at h⟩
theorem ev_P1 {q : Nat × va_E} (h : va_at D pg_cl q H) : va_P D pg_cl [q] H := fun k x hx => by
  cases k with
  | zero => cases hx; exact h
  | succ k => simp at hx
theorem ev_get_ok (C : ev_Cx D dA X H0 p R s m args meth c M) (hd : decode (pg_b M) pc = .ok (.getfield idx, 3)) (hc : ev_chk2 M (.getfield idx) a b w = true) (hH : ev_HR D dA H0 h H) (hl : ∀ q ∈ locs, H0.size ≤ q.base) (hh : ev_get X a b st h = some (st', h'))
    (k : ev_KW p l e R s m args below meth c Q D dA H0 h h' cells slots (F0 m (pc + 3) ls st')) : W p l e R s m args below meth c H locs cells slots Q (F0 m pc ls st) := by
  obtain ⟨hx, hb, hr, hml, hown, hts, hlk, hin, hK, hf, hw⟩ := C
  unfold ev_get at hh
  split at hh
  · next o r =>
    split at hh
    · next ci fs ho =>
      split at hh
      · next hci =>
        subst hci
        split at hh
        · next v hv =>
          cases hh
          have hkk := k H locs cells slots hH hl rfl rfl
          have hat := (hH.2.2.2 o _ ho).2
          by_cases h90 : ci = 90
          · subst h90
            obtain ⟨r0, hr0, -⟩ := hat
            cases hr0
          simp only [ev_chk2, h90, if_false, ev_chkF] at hc
          split at hc
          · next q hq =>
            obtain ⟨h1, h2⟩ := Bool.and_eq_true_iff.mp hc
            have hbN : b < q.2.2 := of_decide_eq_true h1
            obtain ⟨c1, -⟩ := pg_cok _ _ hq
            rcases Bool.or_eq_true_iff.mp h2 with h3 | h3
            · exact va_get (D := D) (cl := pg_cl) (ci := ci) hx hb hts c1 hown (ev_K1 hK) (ev_P1 hat) 0 rfl hq b hbN (hts _ (pg_ws_of (of_decide_eq_true h3) rfl)) (fun _ h9 => h9) hv hd hkk
            · exact va_getN (D := D) (cl := pg_cl) (ci := ci) hx hb hts c1 hown (ev_K1 hK) (ev_P1 hat) 0 rfl hq b hbN (va_Nw.use rfl (hK.2.2.2.2.2.2.2.2.1 _ (List.mem_of_getElem? (of_decide_eq_true h3)) rfl)) (fun _ h9 => h9) hv hd hkk
          · cases hc
        · cases hh
      · cases hh
    · cases hh
    · next ho =>
      split at hh
      · next h90 =>
        subst h90
        split at hh
        · next k0 hk0 =>
          cases hh
          have hkk := k H locs cells slots hH hl rfl rfl
          obtain ⟨q1, q2, q3⟩ := hK.2.2.2.1 o k0 hk0
          simp only [ev_chk2, if_true] at hc
          have hlink := hts _ (pg_ws_of (of_decide_eq_true hc) rfl)
          by_cases hb0 : b = 0
          · simp only [hb0, if_true] at hlink hkk
            obtain ⟨cf, kf, fi, f, cell, g1, g2, g3, g4, g5, g6⟩ := q3.kept (ev_kept hH)
            exact W.getf hx hb hown hlink g1 g2 g3 g4 g5 rfl rfl hd hkk
          · simp only [hb0, if_false] at hlink hkk
            obtain ⟨cf, kf, fi, f, cell, g1, g2, g3, g4, g5, g6⟩ := q2.kept (ev_kept hH)
            exact W.getf hx hb hown hlink g1 g2 g3 g4 g5 rfl rfl hd hkk
        · cases hh
      · cases hh
  · cases hh
theorem ev_put_ok (C : ev_Cx D dA X H0 p R s m args meth c M) (hd : decode (pg_b M) pc = .ok (.putfield idx, 3)) (hc : ev_chk2 M (.putfield idx) a b w = true) (hH : ev_HR D dA H0 h H) (hl : ∀ q ∈ locs, H0.size ≤ q.base) (hh : ev_put a b st h = some (st', h'))
    (k : ev_KW p l e R s m args below meth c Q D dA H0 h h' cells slots (F0 m (pc + 3) ls st')) : W p l e R s m args below meth c H locs cells slots Q (F0 m pc ls st) := by
  obtain ⟨hx, hb, hr, hml, hown, hts, hlk, hin, hK, hf, hw⟩ := C
  unfold ev_put at hh
  split at hh
  · next v o r =>
    split at hh
    · next ci fs ho =>
      split at hh
      · next hci =>
        cases hh
        obtain ⟨rfl, hlt, hn, hfit⟩ := hci
        have hat := (hH.2.2.2 o _ ho).2
        have hlo := (hH.2.2.2 o _ ho).1
        simp only [ev_chk2] at hc
        obtain ⟨hcF, hcP⟩ := Bool.and_eq_true_iff.mp hc
        unfold ev_chkF at hcF
        split at hcF
        · next q hq =>
          obtain ⟨h1, h2⟩ := Bool.and_eq_true_iff.mp hcF
          have hbN : b < q.2.2 := of_decide_eq_true h1
          obtain ⟨c1, c2, c3, -⟩ := pg_cok _ _ hq
          have hap := va_apart (own := (pg_y M).cls) (D := D) (cl := pg_cl) hts c1 (pg_t ci) c2 c3 (ev_K1 hK) hq
          obtain ⟨r0, hr0, cell, q1, q2, q3, q4⟩ := hat
          have hr1 : r0 = q := Option.some.inj (hr0.symm.trans hq)
          subst hr1
          obtain ⟨hS, hfc, kC, hkC, hkind⟩ := hK.1 ci _ hq
          obtain ⟨cf, kf, fi, f, hi, hsl⟩ := hS b hbN
          have hst := (u_facts hfc hkC (u_lays hts c1 hbN) hi).1
          have hat1 : ∀ H1 : Heap, H1[o]? = some (cell.setSlot f.slot v) → va_at D pg_cl (o, ev_c dA (.inr (ci, fs.set b v))) H1 := fun H1 e1 => ⟨_, hq, t_OB.to (V := updV (vp_V fs) b v) ⟨_, e1, q2, q3, by rw [hsl]; exact t_set q4 hap hbN v⟩ (fun j _ => vp_updV_set hlt v j)⟩
          have kk : ∀ H1 : Heap, H1[o]? = some (cell.setSlot f.slot v) → H1.size = H.size → (∀ q, q ≠ o → H1[q]? = H[q]?) → W p l e R s m args below meth c H1 (locs ++ [⟨o, f.slot⟩]) cells slots Q (F0 m (pc + 3) ls st') := fun H1 e1 z oq =>
            k H1 _ cells slots (hH.set ho (hat1 H1 e1) z oq) (ev_lc1 hl hlo) rfl rfl
          have hcd := c2 b hbN
          by_cases hfin : (r0.2.1 b).2.2.2 = true
          · unfold ev_chkP at hcP
            rw [hq] at hcP
            simp only [hfin, Bool.not_true, Bool.false_or, Bool.and_eq_true, decide_eq_true_eq] at hcP
            obtain ⟨⟨hdecl, hini⟩, hwd⟩ := hcP
            have hlay := hts _ (c1 _ (u_in_lay hbN))
            unfold u_lay at hlay
            rw [if_pos hfin] at hlay
            have hcf : m.cls = cf := by
              obtain ⟨_, _, c', _, _, _, -, -, hf', -, -, -, hown2, -⟩ := Cond.laysFinal_spec hlay
              have e1 : c' = cf := by have := hi.symm.trans hf'; simp at this; exact this.1.symm
              rw [hdecl] at hown2
              rw [← e1]; exact Option.some.inj (hown.symm.trans hown2)
            have h6 := u_fits hfc hkC hkind (Or.inr hlay) hi hcd hn hfit
            exact W.putFinK hx hb hown (hts _ (pg_ws_of hwd rfl)) hi hst hcf (hin hini) (by rw [q2]; exact h6) q1 q3 (by rw [hsl]; exact k2_hasslot (q4 b hbN)) rfl rfl hd kk
          · have hlay := hts _ (c1 _ (u_in_lay hbN))
            unfold u_lay at hlay
            rw [if_neg hfin] at hlay
            have h6 := u_store hfc hkC hkind hlay hi hcd hn hfit
            rcases Bool.or_eq_true_iff.mp h2 with h3 | h3
            · exact W.putK hx hb (f := f) ⟨hown, hts _ (pg_ws_of (of_decide_eq_true h3) rfl), ⟨_, _, _, hi⟩, hst⟩ (by rw [q2]; exact h6) q1 q3 (by rw [hsl]; exact k2_hasslot (q4 b hbN)) rfl rfl hd kk
            · exact va_WputK hx hb hown (va_Nw.use rfl (hK.2.2.2.2.2.2.2.2.1 _ (List.mem_of_getElem? (of_decide_eq_true h3)) rfl)) hi hst (by rw [q2]; exact h6) q1 q3 (by rw [hsl]; exact k2_hasslot (q4 b hbN)) rfl rfl hd kk
        · cases hcF
      · cases hh
    · cases hh
  · cases hh
end EV2
