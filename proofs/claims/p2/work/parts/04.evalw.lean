/-! The evaluator's steps over the machine: stack, locals, branches. -/
def ev_prs (A : List Value) : List (Nat × Value) := (List.range A.length).filterMap fun i => match A[i]? with
  | some v => if v = ev_dead then none else some (i, v)
  | none => none
theorem ev_prs_mem {A : List Value} {q : Nat × Value} : q ∈ ev_prs A ↔ A[q.1]? = some q.2 ∧ q.2 ≠ ev_dead := by
  unfold ev_prs
  rw [List.mem_filterMap]
  constructor
  · rintro ⟨i, -, h⟩
    split at h
    · next v hv =>
      split at h
      · cases h
      · next hd => cases h; exact ⟨hv, hd⟩
    · cases h
  · rintro ⟨h1, h2⟩
    refine ⟨q.1, List.mem_range.mpr (List.getElem?_eq_some_iff.mp h1).1, ?_⟩
    rw [h1]
    simp [h2]
/-- the machine's locals hold what the list says -/
def ev_L (ls : Array Slot) (nL : Nat) (A : List Value) : Prop := A.length = nL ∧ lv_has ls nL (ev_prs A)
theorem ev_L.get {ls : Array Slot} {nL : Nat} {A : List Value} (h : ev_L ls nL A) {i : Nat} {v : Value} (hv : A[i]? = some v) (hd : v ≠ ev_dead) : ls[i]? = some (.val v) := h.2.2.2 (i, v) (ev_prs_mem.mpr ⟨hv, hd⟩)
theorem ev_kill_len (A : List Value) (i : Nat) : (ev_kill A i).length = A.length := by
  unfold ev_kill
  split
  · rfl
  · split <;> simp
theorem ev_kill_at {A : List Value} {i j : Nat} {v : Value} (h : (ev_kill A i)[j]? = some v) (hd : v ≠ ev_dead) : A[j]? = some v ∧ ¬ (j + 1 = i ∧ v.category = 2) := by
  unfold ev_kill at h
  split at h
  · exact ⟨h, fun q => by omega⟩
  · next k =>
    have key : ∀ B : List Value, B = A.set k ev_dead → B[j]? = some v → A[j]? = some v ∧ ¬ (j + 1 = k + 1 ∧ v.category = 2) := by
      intro B hB hv
      rw [hB, List.getElem?_set] at hv
      split at hv
      · split at hv
        · cases hv; exact absurd rfl hd
        · cases hv
      · next hne => exact ⟨hv, fun q => hne (by omega)⟩
    split at h
    · exact key _ rfl h
    · exact key _ rfl h
    · next hn1 hn2 =>
      refine ⟨h, fun q => ?_⟩
      have hj : j = k := by omega
      subst hj
      cases v <;> first | exact hn1 _ h | exact hn2 _ h | simp [Value.category] at q
theorem ev_L_s1 {ls' : Array Slot} {nL i : Nat} {A : List Value} {v : Value} (hA : A.length = nL) (h : lv_has ls' nL ((i, v) :: (ev_prs A).filter (fun q => !(q.1 == i) && !(q.1 + 1 == i && q.2.category == 2)))) : ev_L ls' nL (ev_s1 A i v) := by
  refine ⟨by unfold ev_s1; rw [List.length_set, ev_kill_len, hA], h.1, h.2.1, fun q hq => ?_⟩
  obtain ⟨h1, h2⟩ := ev_prs_mem.mp hq
  unfold ev_s1 at h1
  rw [List.getElem?_set] at h1
  split at h1
  · next he =>
    split at h1
    · have h3 : v = q.2 := Option.some.inj h1
      have h4 := h.2.2 (i, v) List.mem_cons_self
      rw [← he, ← h3]
      exact h4
    · cases h1
  · next hne =>
    obtain ⟨h3, h4⟩ := ev_kill_at h1 h2
    refine h.2.2 q (List.mem_cons_of_mem _ (List.mem_filter.mpr ⟨ev_prs_mem.mpr ⟨h3, h2⟩, ?_⟩))
    have h5 : ¬ q.1 = i := fun z => hne z.symm
    by_cases h6 : q.1 + 1 = i
    · have h7 : ¬ q.2.category = 2 := fun z => h4 ⟨h6, z⟩
      simp [h5, h7]
    · simp [h5, h6]
theorem ev_L_s2 {ls' : Array Slot} {nL i : Nat} {A : List Value} {v : Value} (hA : A.length = nL) (h : lv_has ls' nL ((i, v) :: (ev_prs A).filter (fun q => !(q.1 == i) && (!(q.1 == i + 1) && !(q.1 + 1 == i && q.2.category == 2))))) : ev_L ls' nL (ev_s2 A i v) := by
  refine ⟨by unfold ev_s2; rw [List.length_set, List.length_set, ev_kill_len, hA], h.1, h.2.1, fun q hq => ?_⟩
  obtain ⟨h1, h2⟩ := ev_prs_mem.mp hq
  unfold ev_s2 at h1
  rw [List.getElem?_set] at h1
  split at h1
  · split at h1
    · exact absurd (Option.some.inj h1).symm h2
    · cases h1
  next hne0 =>
  rw [List.getElem?_set] at h1
  split at h1
  · next he =>
    split at h1
    · have h3 : v = q.2 := Option.some.inj h1
      have h4 := h.2.2 (i, v) List.mem_cons_self
      rw [← he, ← h3]
      exact h4
    · cases h1
  · next hne =>
    obtain ⟨h3, h4⟩ := ev_kill_at h1 h2
    refine h.2.2 q (List.mem_cons_of_mem _ (List.mem_filter.mpr ⟨ev_prs_mem.mpr ⟨h3, h2⟩, ?_⟩))
    have h5 : ¬ q.1 = i := fun z => hne z.symm
    have h8 : ¬ q.1 = i + 1 := fun z => hne0 z.symm
    by_cases h6 : q.1 + 1 = i
    · have h7 : ¬ q.2.category = 2 := fun z => h4 ⟨h6, z⟩
      simp [h5, h7, h8]
    · simp [h5, h6, h8]
section EV1
variable {p : Program} {l : Launch} {e : Env} {R : Room} {s : State} {m : MethodId} {args : Array Value} {below : List Frame} {meth : Method} {c : Code} {H : Heap} {locs : List Loc} {cells slots : Nat} {Q : State → Prop}
variable {cc : ByteArray} {pc : Nat} {ls : Array Slot} {st st' : List Value} {i : Instr}
set_option maxHeartbeats 4000000 in
theorem ev_st_ok {kv : Value} {own : String} (hx : p.tables.exec = Jvm.exec) (hb : c.code = cc) (hown : s.vm.findClass own = some m.cls) (hd : decode cc pc = .ok (i, ev_len i))
    (hk1 : ∀ k v, i = .ldc k → kv = .int v → (Jvm.Cond.constant own k v).before args s = true) (hk2 : ∀ k v, i = .ldc2_w k → kv = .long v → (Jvm.Cond.constantLong own k v).before args s = true)
    (h : ev_st kv i st = some st') (k : W p l e R s m args below meth c H locs cells slots Q (F0 m (pc + ev_len i) ls st')) : W p l e R s m args below meth c H locs cells slots Q (F0 m pc ls st) := by
  cases i
  case iconst n => cases h; exact lv_iconst hx hb hd rfl k
  case bipush n => cases h; exact lv_bipush hx hb hd rfl k
  case sipush n => cases h; exact lv_sipush hx hb hd rfl k
  case lconst n => cases h; exact lv_lconst hx hb hd rfl k
  case ldc n => 
    dsimp only [ev_st] at h
    split at h
    · cases h; exact lv_ldc hx hb hown (hk1 _ _ rfl rfl) hd k
    · cases h
  case ldc2_w n => 
    dsimp only [ev_st] at h
    split at h
    · cases h; exact lv_ldc2 hx hb hown (hk2 _ _ rfl rfl) hd k
    · cases h
  case aconst_null => cases h; exact lv_null hx hb hd k
  case iadd => obtain ⟨x, y, r, v, rfl, hf, rfl⟩ := ev_ii_inv (by simpa only [ev_st] using h); cases hf; exact lv_iadd hx hb hd k
  case isub => obtain ⟨x, y, r, v, rfl, hf, rfl⟩ := ev_ii_inv (by simpa only [ev_st] using h); cases hf; exact lv_isub hx hb hd k
  case imul => obtain ⟨x, y, r, v, rfl, hf, rfl⟩ := ev_ii_inv (by simpa only [ev_st] using h); cases hf; exact lv_imul hx hb hd k
  case iand => obtain ⟨x, y, r, v, rfl, hf, rfl⟩ := ev_ii_inv (by simpa only [ev_st] using h); cases hf; exact lv_iand hx hb hd k
  case ior => obtain ⟨x, y, r, v, rfl, hf, rfl⟩ := ev_ii_inv (by simpa only [ev_st] using h); cases hf; exact lv_ior hx hb hd k
  case ixor => obtain ⟨x, y, r, v, rfl, hf, rfl⟩ := ev_ii_inv (by simpa only [ev_st] using h); cases hf; exact lv_ixor hx hb hd k
  case ishl => obtain ⟨x, y, r, v, rfl, hf, rfl⟩ := ev_ii_inv (by simpa only [ev_st] using h); cases hf; exact lv_ishl hx hb hd k
  case ishr => obtain ⟨x, y, r, v, rfl, hf, rfl⟩ := ev_ii_inv (by simpa only [ev_st] using h); cases hf; exact lv_ishr hx hb hd k
  case iushr => obtain ⟨x, y, r, v, rfl, hf, rfl⟩ := ev_ii_inv (by simpa only [ev_st] using h); cases hf; exact lv_iushr hx hb hd rfl k
  case idiv => obtain ⟨x, y, r, v, rfl, hf, rfl⟩ := ev_ii_inv (by simpa only [ev_st] using h); split at hf <;> cases hf; exact lv_idiv hx hb hd (by assumption) k
  case irem => obtain ⟨x, y, r, v, rfl, hf, rfl⟩ := ev_ii_inv (by simpa only [ev_st] using h); split at hf <;> cases hf; exact lv_irem hx hb hd (by assumption) k
  case ineg => obtain ⟨x, r, rfl, rfl⟩ := ev_i1_inv (by simpa only [ev_st] using h); exact lv_ineg hx hb hd k
  case ladd => obtain ⟨x, y, r, v, rfl, hf, rfl⟩ := ev_ll_inv (by simpa only [ev_st] using h); cases hf; exact lv_ladd hx hb hd k
  case lsub => obtain ⟨x, y, r, v, rfl, hf, rfl⟩ := ev_ll_inv (by simpa only [ev_st] using h); cases hf; exact lv_lsub hx hb hd k
  case lmul => obtain ⟨x, y, r, v, rfl, hf, rfl⟩ := ev_ll_inv (by simpa only [ev_st] using h); cases hf; exact lv_lmul hx hb hd k
  case land => obtain ⟨x, y, r, v, rfl, hf, rfl⟩ := ev_ll_inv (by simpa only [ev_st] using h); cases hf; exact lv_land hx hb hd k
  case lor => obtain ⟨x, y, r, v, rfl, hf, rfl⟩ := ev_ll_inv (by simpa only [ev_st] using h); cases hf; exact lv_lor hx hb hd k
  case lxor => obtain ⟨x, y, r, v, rfl, hf, rfl⟩ := ev_ll_inv (by simpa only [ev_st] using h); cases hf; exact lv_lxor hx hb hd k
  case ldiv => obtain ⟨x, y, r, v, rfl, hf, rfl⟩ := ev_ll_inv (by simpa only [ev_st] using h); split at hf <;> cases hf; exact lv_ldiv hx hb hd (by assumption) k
  case lrem => obtain ⟨x, y, r, v, rfl, hf, rfl⟩ := ev_ll_inv (by simpa only [ev_st] using h); split at hf <;> cases hf; exact lv_lrem hx hb hd (by assumption) k
  case lcmp => obtain ⟨x, y, r, v, rfl, hf, rfl⟩ := ev_ll_inv (by simpa only [ev_st] using h); cases hf; exact W.lcmp hx hb hd k
  case lneg => obtain ⟨x, r, rfl, rfl⟩ := ev_l1_inv (by simpa only [ev_st] using h); exact lv_lneg hx hb hd k
  case lushr => obtain ⟨x, y, r, rfl, rfl⟩ := ev_li_inv (by simpa only [ev_st] using h); exact lv_lushr hx hb hd rfl k
  case lshl => obtain ⟨x, y, r, rfl, rfl⟩ := ev_li_inv (by simpa only [ev_st] using h); exact lv_lshl hx hb hd rfl k
  case lshr => obtain ⟨x, y, r, rfl, rfl⟩ := ev_li_inv (by simpa only [ev_st] using h); exact lv_lshr hx hb hd rfl k
  case i2l => obtain ⟨x, r, rfl, rfl⟩ := ev_i1_inv (by simpa only [ev_st] using h); exact lv_i2l hx hb hd rfl k
  case l2i => obtain ⟨x, r, rfl, rfl⟩ := ev_l1_inv (by simpa only [ev_st] using h); exact lv_l2i hx hb hd rfl k
  case i2b => obtain ⟨x, r, rfl, rfl⟩ := ev_i1_inv (by simpa only [ev_st] using h); exact lv_i2b hx hb hd rfl k
  case i2s => obtain ⟨x, r, rfl, rfl⟩ := ev_i1_inv (by simpa only [ev_st] using h); exact lv_i2s hx hb hd rfl k
  case i2c => obtain ⟨x, r, rfl, rfl⟩ := ev_i1_inv (by simpa only [ev_st] using h); exact lv_i2c hx hb hd rfl k
  case dup => dsimp only [ev_st, ev_dup] at h; split at h; rotate_left; cases h; split at h <;> cases h; exact lv_dup hx hb hd (by assumption) k
  case pop => dsimp only [ev_st, ev_pop] at h; split at h; rotate_left; cases h; split at h <;> cases h; exact lv_pop hx hb hd (by assumption) k
  case pop2 => dsimp only [ev_st, ev_pop2] at h; split at h; rotate_left; cases h; split at h <;> cases h; exact lv_pop2_2 hx hb hd (by assumption) k
  case dup_x1 => dsimp only [ev_st, ev_dupx1] at h; split at h; rotate_left; cases h; split at h <;> cases h; next hc => exact lv_dup_x1 hx hb hd hc.1 hc.2 k
  case dup_x2 => dsimp only [ev_st, ev_dupx2] at h; split at h; rotate_left; cases h; split at h <;> cases h; next hc => exact lv_dup_x2 hx hb hd hc.1 hc.2.1 hc.2.2 k
  case dup2_x1 => dsimp only [ev_st, ev_dup2x1] at h; split at h; rotate_left; cases h; split at h <;> cases h; next hc => exact lv_dup2_x1_2 hx hb hd hc.1 hc.2 k
  case dup2 =>
    dsimp only [ev_st, ev_dup2] at h
    split at h; rotate_left; cases h
    split at h
    · next hc => cases h; exact lv_dup2_2 hx hb hd hc k
    · split at h; rotate_left; cases h
      split at h <;> cases h
      next hc => exact lv_dup2_11 hx hb hd hc.1 hc.2 k
  all_goals cases h
set_option maxHeartbeats 4000000 in
theorem ev_lc_ok {nL : Nat} {A A' : List Value} (hx : p.tables.exec = Jvm.exec) (hb : c.code = cc) (hd : decode cc pc = .ok (i, ev_len i)) (hL : ev_L ls nL A)
    (h : ev_lc i A st = some (A', st')) (k : ∀ ls' : Array Slot, ev_L ls' nL A' → W p l e R s m args below meth c H locs cells slots Q (F0 m (pc + ev_len i) ls' st')) : W p l e R s m args below meth c H locs cells slots Q (F0 m pc ls st) := by
  cases i
  case iload n => dsimp only [ev_lc, ev_ild] at h; split at h <;> cases h; next hv => exact lv_iload hx hb hd (hL.get hv (fun q => by cases q)) (k _ hL)
  case iload_n n => dsimp only [ev_lc, ev_ild] at h; split at h <;> cases h; next hv => exact lv_iload_n hx hb hd rfl (hL.get hv (fun q => by cases q)) (k _ hL)
  case lload n => dsimp only [ev_lc, ev_lld] at h; split at h <;> cases h; next hv => exact lv_lload hx hb hd (hL.get hv (fun q => by cases q)) (k _ hL)
  case lload_n n => dsimp only [ev_lc, ev_lld] at h; split at h <;> cases h; next hv => exact lv_lload_n hx hb hd rfl (hL.get hv (fun q => by cases q)) (k _ hL)
  case aload n =>
    dsimp only [ev_lc, ev_ald] at h; split at h <;> cases h
    · next hv => exact lv_aload hx hb hd (hL.get hv (fun q => by cases q)) (k _ hL)
    · next hv => exact lv_aloadN hx hb hd (hL.get hv (fun q => by cases q)) (k _ hL)
  case aload_n n =>
    dsimp only [ev_lc, ev_ald] at h; split at h <;> cases h
    · next hv => exact lv_aload_n hx hb hd rfl (hL.get hv (fun q => by cases q)) (k _ hL)
    · next hv => exact lv_aload_nN hx hb hd rfl (hL.get hv (fun q => by cases q)) (k _ hL)
  case istore n => dsimp only [ev_lc, ev_ist] at h; split at h; rotate_left; cases h; split at h <;> cases h; next hi => exact lv_istore hx hb hd hL.2 (by rw [← hL.1]; exact hi) rfl (fun ls' h' => k ls' (ev_L_s1 hL.1 h'))
  case istore_n n => dsimp only [ev_lc, ev_ist] at h; split at h; rotate_left; cases h; split at h <;> cases h; next hi => exact lv_istore_n hx hb hd rfl hL.2 (by rw [← hL.1]; exact hi) rfl (fun ls' h' => k ls' (ev_L_s1 hL.1 h'))
  case lstore n => dsimp only [ev_lc, ev_lst] at h; split at h; rotate_left; cases h; split at h <;> cases h; next hi => exact lv_lstore hx hb hd hL.2 (by rw [← hL.1]; exact hi) rfl (fun ls' h' => k ls' (ev_L_s2 hL.1 h'))
  case lstore_n n => dsimp only [ev_lc, ev_lst] at h; split at h; rotate_left; cases h; split at h <;> cases h; next hi => exact lv_lstore_n hx hb hd rfl hL.2 (by rw [← hL.1]; exact hi) rfl (fun ls' h' => k ls' (ev_L_s2 hL.1 h'))
  case astore n =>
    dsimp only [ev_lc, ev_ast] at h; split at h; rotate_left; rotate_left; cases h
    · split at h <;> cases h; next hi => exact lv_astore hx hb hd hL.2 (by rw [← hL.1]; exact hi) rfl (fun ls' h' => k ls' (ev_L_s1 hL.1 h'))
    · split at h <;> cases h; next hi => exact lv_astoreN hx hb hd hL.2 (by rw [← hL.1]; exact hi) rfl (fun ls' h' => k ls' (ev_L_s1 hL.1 h'))
  case astore_n n =>
    dsimp only [ev_lc, ev_ast] at h; split at h; rotate_left; rotate_left; cases h
    · split at h <;> cases h; next hi => exact lv_astore_n hx hb hd rfl hL.2 (by rw [← hL.1]; exact hi) rfl (fun ls' h' => k ls' (ev_L_s1 hL.1 h'))
    · split at h <;> cases h; next hi => exact lv_astore_nN hx hb hd rfl hL.2 (by rw [← hL.1]; exact hi) rfl (fun ls' h' => k ls' (ev_L_s1 hL.1 h'))
  case iinc n z =>
    dsimp only [ev_lc, ev_inc] at h; split at h <;> cases h
    next x hv =>
    obtain ⟨j, hj⟩ := List.getElem?_of_mem (ev_prs_mem (q := (n, .int x)) |>.mpr ⟨hv, fun q => by cases q⟩)
    exact lv_iinc hx hb hd hL.2 hj rfl (by rw [← hL.1]; exact (List.getElem?_eq_some_iff.mp hv).1) rfl (fun ls' h' => k ls' (ev_L_s1 hL.1 h'))
  all_goals cases h
theorem ev_t_ok {pc : Nat} {off : Int} (h : ¬ (pc : Int) + off < 0) : (pc : Int) + off = (ev_t pc off : Int) := by
  unfold ev_t
  omega
set_option maxHeartbeats 4000000 in
theorem ev_br_ok {pc' len : Nat} (hx : p.tables.exec = Jvm.exec) (hb : c.code = cc) (hd : decode cc pc = .ok (i, len)) (hlen : ev_sw i = true ∨ len = ev_len i)
    (h : ev_br i pc (pc + len) st = some (pc', st')) (k : W p l e R s m args below meth c H locs cells slots Q (F0 m pc' ls st')) : W p l e R s m args below meth c H locs cells slots Q (F0 m pc ls st) := by
  cases i
  case ifCond cd off =>
    have hl3 : len = 3 := hlen.elim (fun q => by cases q) id
    subst hl3
    dsimp only [ev_br] at h
    split at h; rotate_left; cases h
    split at h; cases h
    next x r hn =>
    obtain ⟨h1, h2⟩ := Prod.mk.inj (Option.some.inj h)
    subst h2
    have ht := ev_t_ok hn
    cases cd <;> simp only [ev_c1, decide_eq_true_eq] at h1
    · exact lv_if_eq hx hb hd ht (fun q => by rw [if_pos q] at h1; rw [h1]; exact k) (fun q => by rw [if_neg q] at h1; rw [h1]; exact k)
    · exact lv_if_ne hx hb hd ht (fun q => by rw [if_pos q] at h1; rw [h1]; exact k) (fun q => by rw [if_neg (fun z => z q)] at h1; rw [h1]; exact k)
    · exact lv_if_lt hx hb hd ht (fun q => by rw [if_pos q] at h1; rw [h1]; exact k) (fun q => by rw [if_neg q] at h1; rw [h1]; exact k)
    · exact lv_if_ge hx hb hd ht (fun q => by rw [if_pos q] at h1; rw [h1]; exact k) (fun q => by rw [if_neg q] at h1; rw [h1]; exact k)
    · exact lv_if_gt hx hb hd ht (fun q => by rw [if_pos q] at h1; rw [h1]; exact k) (fun q => by rw [if_neg q] at h1; rw [h1]; exact k)
    · exact lv_if_le hx hb hd ht (fun q => by rw [if_pos q] at h1; rw [h1]; exact k) (fun q => by rw [if_neg q] at h1; rw [h1]; exact k)
  case if_icmp cd off =>
    have hl3 : len = 3 := hlen.elim (fun q => by cases q) id
    subst hl3
    dsimp only [ev_br] at h
    split at h; rotate_left; cases h
    split at h; cases h
    next y x r hn =>
    obtain ⟨h1, h2⟩ := Prod.mk.inj (Option.some.inj h)
    subst h2
    have ht := ev_t_ok hn
    cases cd <;> simp only [ev_c2, decide_eq_true_eq] at h1
    · exact lv_icmp_eq hx hb hd ht (fun q => by rw [if_pos q] at h1; rw [h1]; exact k) (fun q => by rw [if_neg q] at h1; rw [h1]; exact k)
    · exact lv_icmp_ne hx hb hd ht (fun q => by rw [if_pos q] at h1; rw [h1]; exact k) (fun q => by rw [if_neg (fun z => z q)] at h1; rw [h1]; exact k)
    · exact lv_icmp_lt hx hb hd ht (fun q => by rw [if_pos q] at h1; rw [h1]; exact k) (fun q => by rw [if_neg q] at h1; rw [h1]; exact k)
    · exact lv_icmp_ge hx hb hd ht (fun q => by rw [if_pos q] at h1; rw [h1]; exact k) (fun q => by rw [if_neg q] at h1; rw [h1]; exact k)
    · exact lv_icmp_gt hx hb hd ht (fun q => by rw [if_pos q] at h1; rw [h1]; exact k) (fun q => by rw [if_neg q] at h1; rw [h1]; exact k)
    · exact lv_icmp_le hx hb hd ht (fun q => by rw [if_pos q] at h1; rw [h1]; exact k) (fun q => by rw [if_neg q] at h1; rw [h1]; exact k)
  case ifnull off =>
    have hl3 : len = 3 := hlen.elim (fun q => by cases q) id
    subst hl3
    dsimp only [ev_br] at h
    split at h
    · cases h; exact lv_ifnull hx hb hd k
    · split at h <;> cases h
      next hn => exact lv_ifnullN hx hb hd (ev_t_ok hn) k
    · cases h
  case ifnonnull off =>
    have hl3 : len = 3 := hlen.elim (fun q => by cases q) id
    subst hl3
    dsimp only [ev_br] at h
    split at h
    · split at h <;> cases h
      next hn => exact lv_ifnonnull hx hb hd (ev_t_ok hn) k
    · cases h; exact lv_ifnonnullN hx hb hd k
    · cases h
  case goto off =>
    have hl3 : len = 3 := hlen.elim (fun q => by cases q) id
    subst hl3
    dsimp only [ev_br] at h
    split at h <;> cases h
    next hn => exact lv_goto hx hb hd (ev_t_ok hn) k
  case lookupswitch d ps =>
    dsimp only [ev_br] at h
    split at h; rotate_left; cases h
    split at h <;> cases h
    next hc => exact lv_lookup hx hb hd hc.1 rfl (ev_t_ok (by have := hc.2; omega)) k
  case tableswitch d lo hi offs =>
    dsimp only [ev_br] at h
    split at h; rotate_left; cases h
    split at h
    · next hc =>
      split at h <;> cases h
      next hn => exact lv_tableOut hx hb hd hc (ev_t_ok hn) k
    · next hc =>
      split at h; rotate_left; cases h
      next off hoff =>
      split at h <;> cases h
      next hn => exact lv_tableIn hx hb hd (fun q => hc (Or.inl q)) (fun q => hc (Or.inr q)) hoff (ev_t_ok hn) k
  all_goals cases h
end EV1
