section
abbrev m_Tab_new : Nat := 0
abbrev m_Object_new : Nat := 1
abbrev m_Row_new : Nat := 2
abbrev m_Math_max : Nat := 3
abbrev m_Term_new : Nat := 4
abbrev m_Reader_new : Nat := 5
abbrev m_Terms_new : Nat := 6
abbrev m_Writer_new : Nat := 7
abbrev m_Tab_type : Nat := 8
abbrev m_Row_size : Nat := 9
abbrev m_Row_add : Nat := 10
abbrev m_Tab_read : Nat := 11
abbrev m_Reader_readTerm : Nat := 12
abbrev m_Term_become : Nat := 13
abbrev m_Row_clear : Nat := 14
abbrev m_Reader_readAny : Nat := 15
abbrev m_Row_at : Nat := 16
abbrev m_Reader_readBlank : Nat := 17
abbrev m_Reader_lacking : Nat := 18
abbrev m_Reader_fail : Nat := 19
abbrev m_Reader_isWordByte : Nat := 20
abbrev m_Reader_isLetter : Nat := 21
abbrev m_Reader_isDigit : Nat := 22
abbrev m_Reader_readName : Nat := 23
abbrev m_Reader_isNameByte : Nat := 24
abbrev m_Reader_readText : Nat := 25
abbrev m_Reader_readItems : Nat := 26
abbrev m_Reader_escaped : Nat := 27
abbrev m_Reader_readTag : Nat := 28
abbrev m_Reader_small : Nat := 29
abbrev m_Reader_readPlain : Nat := 30
abbrev m_Reader_readTruth : Nat := 31
abbrev m_String_length : Nat := 32
abbrev m_String_coder : Nat := 33
abbrev m_String_charAt : Nat := 34
abbrev m_String_isLatin1 : Nat := 35
abbrev m_StringLatin1_charAt : Nat := 36
abbrev m_String_checkIndex : Nat := 37
abbrev m_Preconditions_checkIndex : Nat := 38
abbrev m_StringUTF16_charAt : Nat := 39
abbrev m_StringUTF16_checkIndex : Nat := 40
abbrev m_StringUTF16_length : Nat := 41
abbrev m_StringUTF16_getChar : Nat := 42
abbrev m_Reader_isSign : Nat := 43
abbrev m_Reader_readNumber : Nat := 44
abbrev m_Reader_readDigits : Nat := 45
abbrev m_Term_leaveOffZeros : Nat := 46
abbrev m_Reader_settleType : Nat := 47
abbrev m_Row_spells : Nat := 48
abbrev m_Reader_sortNamed : Nat := 49
abbrev m_Terms_keep : Nat := 50
abbrev m_Terms_numberOf : Nat := 51
abbrev m_Terms_get : Nat := 52
abbrev m_Term_isOneWith : Nat := 53
abbrev m_Row_hasBytesOf : Nat := 54
abbrev m_Row_orderTo : Nat := 55
abbrev m_Math_min : Nat := 56
abbrev m_Tab_compareNumbers : Nat := 57
abbrev m_Term_bytes : Nat := 58
abbrev m_Term_copy : Nat := 59
abbrev m_Row_addAll : Nat := 60
abbrev m_Tab_find : Nat := 61
abbrev m_Tab_place : Nat := 62
abbrev m_Reader_latestPlace : Nat := 63
abbrev m_Tab_whole : Nat := 64
abbrev m_Tab_hasFewDigits : Nat := 65
abbrev m_Tab_decimal : Nat := 66
abbrev m_Tab_count : Nat := 67
abbrev m_Terms_size : Nat := 68
abbrev m_Tab_used : Nat := 69
abbrev m_Terms_bytes : Nat := 70
abbrev m_Tab_kind : Nat := 71
abbrev m_Tab_value : Nat := 72
abbrev m_Tab_scale : Nat := 73
abbrev m_Tab_write : Nat := 74
abbrev m_Writer_writeTerm : Nat := 75
abbrev m_Row_addWord : Nat := 76
abbrev m_Writer_addName : Nat := 77
abbrev m_Writer_addNumber : Nat := 78
abbrev m_Math_abs : Nat := 79
abbrev m_Writer_takeDigits : Nat := 80
abbrev m_Writer_addText : Nat := 81
abbrev m_Writer_addItem : Nat := 82
abbrev m_Tab_written : Nat := 83
abbrev m_Writer_byteAt : Nat := 84
abbrev m_Tab_part : Nat := 85
abbrev m_Tab_keepBytes : Nat := 86
abbrev m_Tab_order : Nat := 87
abbrev m_Term_orderTo : Nat := 88
abbrev m_Term_rank : Nat := 89
abbrev m_Term_valueTo : Nat := 90
abbrev m_Term_wholePart : Nat := 91
abbrev m_Term_billionths : Nat := 92
abbrev m_Tab_same : Nat := 93
abbrev m_Term_isStrangeTo : Nat := 94
abbrev m_Tab_less : Nat := 95
abbrev m_Term_hasLess : Nat := 96
abbrev m_Mod_new : Nat := 97
abbrev m_Mod_type : Nat := 98
abbrev m_Mod_read : Nat := 99
abbrev m_Mod_readAll : Nat := 100
abbrev m_Mod_readOne : Nat := 101
abbrev m_Mod_here : Nat := 102
abbrev m_Mod_readBlank : Nat := 103
abbrev m_Mod_begin : Nat := 104
abbrev m_Mod_over : Nat := 105
abbrev m_Mod_fail : Nat := 106
abbrev m_Mod_put : Nat := 107
abbrev m_Mod_isGood : Nat := 108
abbrev m_Mod_isWord : Nat := 109
abbrev m_Mod_isLetter : Nat := 110
abbrev m_Mod_isDigit : Nat := 111
abbrev m_Mod_readAlone : Nat := 112
abbrev m_Mod_readName : Nat := 113
abbrev m_Mod_isNameByte : Nat := 114
abbrev m_Mod_readText : Nat := 115
abbrev m_Mod_readItem : Nat := 116
abbrev m_Mod_readTag : Nat := 117
abbrev m_Mod_readType : Nat := 118
abbrev m_Mod_isWordAt : Nat := 119
abbrev m_Mod_readInside : Nat := 120
abbrev m_Mod_readTruth : Nat := 121
abbrev m_Mod_readNumber : Nat := 122
abbrev m_Mod_writeNumber : Nat := 123
abbrev m_Mod_makeDraft : Nat := 124
abbrev m_Mod_findDraft : Nat := 125
abbrev m_Mod_isDraft : Nat := 126
abbrev m_Mod_find : Nat := 127
abbrev m_Mod_place : Nat := 128
abbrev m_Mod_whole : Nat := 129
abbrev m_Mod_number : Nat := 130
abbrev m_Mod_decimal : Nat := 131
abbrev m_Mod_count : Nat := 132
abbrev m_Mod_used : Nat := 133
abbrev m_Mod_kind : Nat := 134
abbrev m_Mod_isTerm : Nat := 135
abbrev m_Mod_scale : Nat := 136
abbrev m_Mod_lengthOf : Nat := 137
abbrev m_Mod_byteAt : Nat := 138
abbrev m_Mod_value : Nat := 139
abbrev m_Mod_isNumber : Nat := 140
abbrev m_Mod_write : Nat := 141
abbrev m_Mod_written : Nat := 142
abbrev m_Mod_part : Nat := 143
abbrev m_Mod_items : Nat := 144
abbrev m_Mod_order : Nat := 145
abbrev m_Mod_rank : Nat := 146
abbrev m_Mod_sign : Nat := 147
abbrev m_Mod_orderNumbers : Nat := 148
abbrev m_Mod_orderDigits : Nat := 149
abbrev m_Mod_dotOf : Nat := 150
abbrev m_Mod_digitAt : Nat := 151
abbrev m_Mod_orderRows : Nat := 152
abbrev m_Mod_itemAt : Nat := 153
abbrev m_Mod_same : Nat := 154
abbrev m_Mod_isLiteral : Nat := 155
abbrev m_Mod_less : Nat := 156
abbrev m_Law_law : Nat := 157
end
section
/-! The judgement Ex: method M from pc, with locals A, stack st, heap h, comes to its end, with Q of its answer and heap. -/
theorem ev_fuel (X : ev_X) : ∀ (n M pc : Nat) (A st : List Value) (h : ev_H) (r : Option Value × ev_H), ev_run X n M pc A st h = some r → ev_run X (n + 1) M pc A st h = some r := by
  intro n
  induction n with
  | zero => intro M pc A st h r hr; cases hr
  | succ n ih =>
    intro M pc A st h r hr
    rw [ev_run] at hr ⊢
    cases hop : pg_ops M pc with
    | none => rw [hop] at hr; cases hr
    | some q =>
      obtain ⟨i, nx, a, b, w⟩ := q
      rw [hop] at hr
      dsimp only at hr ⊢
      cases hret : ev_ret M i st with
      | some r0 => rw [hret] at hr; exact hr
      | none =>
        rw [hret] at hr
        dsimp only at hr ⊢
        cases hcal : ev_cal X i a st h with
        | some q =>
          obtain ⟨as, rest⟩ := q
          rw [hcal] at hr
          dsimp only at hr ⊢
          cases hent : ev_ent (pg_L a) as with
          | none => rw [hent] at hr; cases hr
          | some A0 =>
            rw [hent] at hr
            dsimp only at hr ⊢
            cases hc : ev_run X n a 0 A0 [] h with
            | none => rw [hc] at hr; cases hr
            | some q =>
              obtain ⟨v, h1⟩ := q
              rw [hc] at hr
              rw [ih _ _ _ _ _ _ hc]
              exact ih _ _ _ _ _ _ hr
        | none =>
          rw [hcal] at hr
          dsimp only at hr ⊢
          cases hone : ev_one X i pc nx a b A st h with
          | none => rw [hone] at hr; cases hr
          | some q =>
            obtain ⟨pc', A', st', h'⟩ := q
            rw [hone] at hr
            exact ih _ _ _ _ _ _ hr
theorem ev_fuelLe {X : ev_X} {n n' M pc : Nat} {A st : List Value} {h : ev_H} {r : Option Value × ev_H} (hn : n ≤ n') (hr : ev_run X n M pc A st h = some r) : ev_run X n' M pc A st h = some r := by
  induction hn with
  | refl => exact hr
  | step _ ih => exact ev_fuel _ _ _ _ _ _ _ _ ih
def Ex (X : ev_X) (M pc : Nat) (A st : List Value) (h : ev_H) (Q : Option Value → ev_H → Prop) : Prop := ∃ n r h', ev_run X n M pc A st h = some (r, h') ∧ Q r h'
theorem Ex.mono {X : ev_X} {M pc : Nat} {A st : List Value} {h : ev_H} {Q Q' : Option Value → ev_H → Prop} (k : Ex X M pc A st h Q) (hq : ∀ r h', Q r h' → Q' r h') : Ex X M pc A st h Q' := by
  obtain ⟨n, r, h', h1, h2⟩ := k
  exact ⟨n, r, h', h1, hq r h' h2⟩
/-- one step that is no call and no end -/
def ev_nx (X : ev_X) (M pc : Nat) (A st : List Value) (h : ev_H) : Option (Nat × List Value × List Value × ev_H) := match pg_ops M pc with
  | none => none
  | some (i, nx, a, b, _) => match ev_ret M i st with
    | some _ => none
    | none => match ev_cal X i a st h with
      | some _ => none
      | none => ev_one X i pc nx a b A st h
theorem Ex.nx {X : ev_X} {M pc pc' : Nat} {A A' st st' : List Value} {h h' : ev_H} {Q : Option Value → ev_H → Prop} (h1 : ev_nx X M pc A st h = some (pc', A', st', h')) (k : Ex X M pc' A' st' h' Q) : Ex X M pc A st h Q := by
  obtain ⟨n, r, h2, e1, e2⟩ := k
  refine ⟨n + 1, r, h2, ?_, e2⟩
  rw [ev_run]
  unfold ev_nx at h1
  split at h1
  · cases h1
  · next i nx a b w hop =>
    simp only [hop]
    split at h1
    · cases h1
    · next hret =>
      simp only [hret]
      split at h1
      · cases h1
      · next hcal => simp only [hcal, h1]; exact e1
theorem Ex.ret {X : ev_X} {M pc : Nat} {A st : List Value} {h : ev_H} {Q : Option Value → ev_H → Prop} {i : Instr} {nx a b w : Nat} {r : Option Value} (o : pg_ops M pc = some (i, nx, a, b, w)) (hr : ev_ret M i st = some r) (q : Q r h) : Ex X M pc A st h Q :=
  ⟨1, r, h, by rw [ev_run]; simp only [o, hr], q⟩
theorem Ex.call {X : ev_X} {M pc : Nat} {A A0 st as rest : List Value} {h : ev_H} {Q Q1 : Option Value → ev_H → Prop} {i : Instr} {nx a b w : Nat} (o : pg_ops M pc = some (i, nx, a, b, w)) (hr : ev_ret M i st = none) (hc : ev_cal X i a st h = some (as, rest)) (he : ev_ent (pg_L a) as = some A0) (k1 : Ex X a 0 A0 [] h Q1)
    (k2 : ∀ (r : Option Value) (h1 : ev_H), Q1 r h1 → Ex X M nx A (r.toList ++ rest) h1 Q) : Ex X M pc A st h Q := by
  obtain ⟨n1, r1, h1, e1, e2⟩ := k1
  obtain ⟨n2, r2, h2, e3, e4⟩ := k2 r1 h1 e2
  refine ⟨max n1 n2 + 1, r2, h2, ?_, e4⟩
  rw [ev_run]
  simp only [o, hr, hc, he]
  rw [ev_fuelLe (Nat.le_max_left n1 n2) e1]
  exact ev_fuelLe (Nat.le_max_right n1 n2) e3
theorem Ex.ite {X : ev_X} {M p1 p2 : Nat} {A st : List Value} {h : ev_H} {Q : Option Value → ev_H → Prop} {c : Bool} (kt : c = true → Ex X M p1 A st h Q) (kf : c = false → Ex X M p2 A st h Q) : Ex X M (if c = true then p1 else p2) A st h Q := by
  cases c
  · exact kf rfl
  · exact kt rfl
theorem gs {h : ev_H} {o : Nat} {e : va_E} : (ev_set h o e).2.2 o = some e := by simp [ev_set, va_up]
theorem gn {h : ev_H} {o p : Nat} {e : va_E} {v : Option va_E} (hne : p ≠ o) (hv : h.2.2 p = v) : (ev_set h o e).2.2 p = v := by simp [ev_set, va_up, hne, hv]
section EXR
variable {X : ev_X} {M pc nx a b w idx : Nat} {A st r : List Value} {h : ev_H} {Q : Option Value → ev_H → Prop}
theorem Ex.hp {i : Instr} {st' : List Value} {h' : ev_H} (o : pg_ops M pc = some (i, nx, a, b, w)) (h1 : ev_ret M i st = none) (h2 : ev_cal X i a st h = none) (h3 : ev_st (if b = 0 then pg_kon.getD a .null else .null) i st = none) (h4 : ev_lc i A st = none) (h5 : ev_br i pc nx st = none) (h6 : ev_hp X i a b st h = some (st', h')) (k : Ex X M nx A st' h' Q) : Ex X M pc A st h Q :=
  Ex.nx (by unfold ev_nx; simp only [o, h1, h2, ev_one, h3, h4, h5, h6]) k
theorem Ex.get {x : Nat} {fs : List Value} {v : Value} (o : pg_ops M pc = some (.getfield idx, nx, a, b, w)) (hh : h.2.2 x = some (.inr (a, fs))) (hv : fs[b]? = some v) (k : Ex X M nx A (v :: r) h Q) : Ex X M pc A (.ref x :: r) h Q :=
  Ex.hp o rfl rfl rfl rfl rfl (by simp only [ev_hp, ev_get, hh, if_true, hv]) k
theorem Ex.put {x : Nat} {fs : List Value} {v : Value} (o : pg_ops M pc = some (.putfield idx, nx, a, b, w)) (hh : h.2.2 x = some (.inr (a, fs))) (hl : b < fs.length) (hn : narrow (pg_t a b) v = v) (hf : fits (pg_t a b) v = true) (k : Ex X M nx A r (ev_set h x (.inr (a, fs.set b v))) Q) : Ex X M pc A (v :: .ref x :: r) h Q :=
  Ex.hp o rfl rfl rfl rfl rfl (by simp only [ev_hp, ev_put, hh]; rw [if_pos ⟨trivial, hl, hn, hf⟩]) k
theorem Ex.iald {x n : Nat} {f : Nat → Int32} {j : Int32} (o : pg_ops M pc = some (.iaload, nx, a, b, w)) (hh : h.2.2 x = some (.inl (1, n, .inl f))) (hj : ¬ (j < 0 ∨ n ≤ j.toNatClampNeg)) (k : Ex X M nx A (.int (f j.toNatClampNeg) :: r) h Q) : Ex X M pc A (.int j :: .ref x :: r) h Q :=
  Ex.hp o rfl rfl rfl rfl rfl (by simp only [ev_hp, ev_iald, hh]; rw [if_pos ⟨rfl, hj⟩]) k
theorem Ex.iast {x n : Nat} {f : Nat → Int32} {j y : Int32} (o : pg_ops M pc = some (.iastore, nx, a, b, w)) (hh : h.2.2 x = some (.inl (1, n, .inl f))) (hj : ¬ (j < 0 ∨ n ≤ j.toNatClampNeg)) (k : Ex X M nx A r (ev_set h x (.inl (1, n, .inl (upd f j.toNatClampNeg y)))) Q) : Ex X M pc A (.int y :: .int j :: .ref x :: r) h Q :=
  Ex.hp o rfl rfl rfl rfl rfl (by simp only [ev_hp, ev_iast, hh]; rw [if_pos ⟨rfl, hj⟩]) k
theorem Ex.bald {x n : Nat} {f : Nat → Int32} {j : Int32} (o : pg_ops M pc = some (.baload, nx, a, b, w)) (hh : h.2.2 x = some (.inl (0, n, .inl f))) (hj : ¬ (j < 0 ∨ n ≤ j.toNatClampNeg)) (k : Ex X M nx A (.int (f j.toNatClampNeg) :: r) h Q) : Ex X M pc A (.int j :: .ref x :: r) h Q :=
  Ex.hp o rfl rfl rfl rfl rfl (by simp only [ev_hp, ev_bald, hh]; rw [if_pos ⟨rfl, hj⟩]) k
theorem Ex.bast {x n : Nat} {f : Nat → Int32} {j y : Int32} (o : pg_ops M pc = some (.bastore, nx, a, b, w)) (hh : h.2.2 x = some (.inl (0, n, .inl f))) (hj : ¬ (j < 0 ∨ n ≤ j.toNatClampNeg)) (k : Ex X M nx A r (ev_set h x (.inl (0, n, .inl (upd f j.toNatClampNeg (vp_nar .byte y))))) Q) : Ex X M pc A (.int y :: .int j :: .ref x :: r) h Q :=
  Ex.hp o rfl rfl rfl rfl rfl (by simp only [ev_hp, ev_bast, hh]; rw [if_pos ⟨rfl, hj⟩]) k
theorem Ex.aald {x n : Nat} {f : Nat → Option Nat} {j : Int32} (o : pg_ops M pc = some (.aaload, nx, a, b, w)) (hh : h.2.2 x = some (.inl (2, n, .inr (.inr (.inr (.inr f)))))) (hj : ¬ (j < 0 ∨ n ≤ j.toNatClampNeg)) (k : Ex X M nx A (va_rf (f j.toNatClampNeg) :: r) h Q) : Ex X M pc A (.int j :: .ref x :: r) h Q :=
  Ex.hp o rfl rfl rfl rfl rfl (by simp only [ev_hp, ev_aald, hh]; exact if_pos hj) k
theorem Ex.aast {x y n ci : Nat} {vs : List Value} {f : Nat → Option Nat} {j : Int32} (o : pg_ops M pc = some (.aastore, nx, a, b, w)) (hh : h.2.2 x = some (.inl (2, n, .inr (.inr (.inr (.inr f)))))) (hy : h.2.2 y = some (.inr (2, vs))) (hj : ¬ (j < 0 ∨ n ≤ j.toNatClampNeg)) (k : Ex X M nx A r (ev_set h x (.inl (2, n, .inr (.inr (.inr (.inr (va_up f j.toNatClampNeg (some y)))))))) Q) : Ex X M pc A (.ref y :: .int j :: .ref x :: r) h Q :=
  Ex.hp o rfl rfl rfl rfl rfl (by simp only [ev_hp, ev_aast, hh, hy]; rw [if_pos ⟨rfl, hj⟩]) k
theorem Ex.alen {x t n : Nat} {f : (Nat → Int32) ⊕ (Nat → Int64) ⊕ (Nat → UInt32) ⊕ (Nat → UInt64) ⊕ (Nat → Option Nat)} (o : pg_ops M pc = some (.arraylength, nx, a, b, w)) (hh : h.2.2 x = some (.inl (t, n, f))) (ht : t < pg_ty.length) (k : Ex X M nx A (.int (Int32.ofNat n) :: r) h Q) : Ex X M pc A (.ref x :: r) h Q :=
  Ex.hp o rfl rfl rfl rfl rfl (by simp only [ev_hp, ev_alen, hh]; rw [if_pos ht]) k
end EXR
end
section
/-! The reference's world: its object at c0 + 16, its nine arrays behind it; σ: its int fields, τ: its arrays, by the numbers of the fields. -/
def ra (k : Nat) : Nat := match k with
  | 0 => 17 | 3 => 18 | 4 => 19 | 5 => 20 | 6 => 21 | 9 => 22 | 14 => 23 | 20 => 24 | _ => 25
def rsz (k : Nat) : Option Nat := match k with
  | 0 => some 240 | 3 => some 132000 | 4 => some 2002 | 5 => some 2002 | 6 => some 2002 | 9 => some 260 | 14 => some 260 | 20 => some 240 | 21 => some 40 | _ => none
def rfs (c0 : Nat) (σ : Nat → Int32) : List Value := [.ref (c0 + 17), .int (σ 1), .int (σ 2), .ref (c0 + 18), .ref (c0 + 19), .ref (c0 + 20), .ref (c0 + 21), .int (σ 7), .int (σ 8), .ref (c0 + 22), .int (σ 10), .int (σ 11), .int (σ 12), .int (σ 13), .ref (c0 + 23), .int (σ 15), .int (σ 16), .int (σ 17), .int (σ 18), .int (σ 19), .ref (c0 + 24), .ref (c0 + 25), .int (σ 22), .int (σ 23)]
def RM (c0 : Nat) (h : ev_H) (σ : Nat → Int32) (τ : Nat → Nat → Int32) : Prop := h.2.2 (c0 + 16) = some (.inr (6, rfs c0 σ)) ∧ (∀ k n, rsz k = some n → h.2.2 (c0 + ra k) = some (.inl (1, n, .inl (τ k)))) ∧ ∀ o, o < c0 → h.2.2 o = none
/-- nothing but the reference's cells has changed, and nothing is made -/
def RF (c0 : Nat) (h h' : ev_H) : Prop := h'.1 = h.1 ∧ h'.2.1 = h.2.1 ∧ ∀ o, (o < c0 + 16 ∨ c0 + 26 ≤ o) → h'.2.2 o = h.2.2 o
theorem RF.rf {c0 : Nat} {h : ev_H} : RF c0 h h := ⟨rfl, rfl, fun _ _ => rfl⟩
theorem RF.tr {c0 : Nat} {h h1 h2 : ev_H} (a : RF c0 h h1) (b : RF c0 h1 h2) : RF c0 h h2 := ⟨b.1.trans a.1, b.2.1.trans a.2.1, fun o ho => (b.2.2 o ho).trans (a.2.2 o ho)⟩
theorem RF.set {c0 o : Nat} {h : ev_H} {e : va_E} (h1 : c0 + 16 ≤ o) (h2 : o < c0 + 26) : RF c0 h (ev_set h o e) := ⟨rfl, rfl, fun q hq => gn (by omega) rfl⟩
theorem ra_in {k n : Nat} (h : rsz k = some n) : 17 ≤ ra k ∧ ra k < 26 := by
  unfold rsz at h
  split at h <;> first | (cases h; done) | (simp [ra])
theorem ra_inj {k n k' n' : Nat} (h : rsz k = some n) (h' : rsz k' = some n') (e : ra k = ra k') : k = k' := by
  unfold rsz at h h'
  split at h <;> first | (cases h; done) | (split at h' <;> first | (cases h'; done) | rfl | (simp [ra] at e))
def Rx (X : ev_X) (c0 M pc : Nat) (A st : List Value) (σ : Nat → Int32) (τ : Nat → Nat → Int32) (Q : Option Value → (Nat → Int32) → (Nat → Nat → Int32) → Prop) : Prop :=
  ∀ h, RM c0 h σ τ → Ex X M pc A st h (fun r h' => ∃ σ' τ', RM c0 h' σ' τ' ∧ RF c0 h h' ∧ Q r σ' τ')
section RXR
variable {X : ev_X} {c0 M pc pc' nx a b w idx : Nat} {A A' st st' r : List Value} {σ : Nat → Int32} {τ : Nat → Nat → Int32} {Q : Option Value → (Nat → Int32) → (Nat → Nat → Int32) → Prop}
theorem Rx.mono {Q' : Option Value → (Nat → Int32) → (Nat → Nat → Int32) → Prop} (k : Rx X c0 M pc A st σ τ Q) (hq : ∀ r σ' τ', Q r σ' τ' → Q' r σ' τ') : Rx X c0 M pc A st σ τ Q' := fun h hM => (k h hM).mono fun r h' ⟨σ', τ', q1, q2, q3⟩ => ⟨σ', τ', q1, q2, hq r σ' τ' q3⟩
theorem Rx.go (h1 : ∀ h, ev_nx X M pc A st h = some (pc', A', st', h)) (k : Rx X c0 M pc' A' st' σ τ Q) : Rx X c0 M pc A st σ τ Q := fun h hM => Ex.nx (h1 h) (k h hM)
theorem Rx.ite {p1 p2 : Nat} {c : Bool} (kt : c = true → Rx X c0 M p1 A st σ τ Q) (kf : c = false → Rx X c0 M p2 A st σ τ Q) : Rx X c0 M (if c = true then p1 else p2) A st σ τ Q := by
  cases c
  · exact kf rfl
  · exact kt rfl
theorem Rx.get {v : Value} (o : pg_ops M pc = some (.getfield idx, nx, 6, b, w)) (hv : (rfs c0 σ)[b]? = some v) (k : Rx X c0 M nx A (v :: r) σ τ Q) : Rx X c0 M pc A (.ref (c0 + 16) :: r) σ τ Q := fun h hM => Ex.get o hM.1 hv (k h hM)
theorem RM.put {h : ev_H} {b : Nat} {x : Int32} (hM : RM c0 h σ τ) (hb : (rfs c0 σ).set b (.int x) = rfs c0 (upd σ b x)) : RM c0 (ev_set h (c0 + 16) (.inr (6, (rfs c0 σ).set b (.int x)))) (upd σ b x) τ :=
  ⟨by rw [hb]; exact gs, fun k n hk => gn (by have := ra_in hk; omega) (hM.2.1 k n hk), fun o ho => gn (by omega) (hM.2.2 o ho)⟩
theorem Rx.put {x : Int32} (o : pg_ops M pc = some (.putfield idx, nx, 6, b, w)) (hl : b < 24) (ht : pg_t 6 b = .int) (hb : (rfs c0 σ).set b (.int x) = rfs c0 (upd σ b x)) (k : Rx X c0 M nx A r (upd σ b x) τ Q) : Rx X c0 M pc A (.int x :: .ref (c0 + 16) :: r) σ τ Q := fun h hM => by
  refine Ex.put o hM.1 hl (by rw [ht]; rfl) (by rw [ht]; rfl) ?_
  refine (k _ (hM.put hb)).mono fun r h' ⟨σ', τ', q1, q2, q3⟩ => ⟨σ', τ', q1, RF.tr (RF.set (by omega) (by omega)) q2, q3⟩
theorem Rx.ald {j : Int32} {n : Nat} (kk : Nat) (o : pg_ops M pc = some (.iaload, nx, a, b, w)) (hz : rsz kk = some n) (hj : ¬ (j < 0 ∨ n ≤ j.toNatClampNeg)) (k : Rx X c0 M nx A (.int (τ kk j.toNatClampNeg) :: r) σ τ Q) : Rx X c0 M pc A (.int j :: .ref (c0 + ra kk) :: r) σ τ Q := fun h hM => Ex.iald o (hM.2.1 kk n hz) hj (k h hM)
theorem RM.ast {h : ev_H} {kk n j : Nat} {x : Int32} (hM : RM c0 h σ τ) (hz : rsz kk = some n) : RM c0 (ev_set h (c0 + ra kk) (.inl (1, n, .inl (upd (τ kk) j x)))) σ (va_up τ kk (upd (τ kk) j x)) := by
  have hr := ra_in hz
  refine ⟨gn (by omega) hM.1, fun k' n' hk' => ?_, fun o ho => gn (by omega) (hM.2.2 o ho)⟩
  by_cases e : k' = kk
  · subst e
    cases hz.symm.trans hk'
    rw [show va_up τ k' (upd (τ k') j x) k' = upd (τ k') j x by simp [va_up]]
    exact gs
  · rw [show va_up τ kk (upd (τ kk) j x) k' = τ k' by simp [va_up, e]]
    exact gn (fun q => e (ra_inj hk' hz (by omega))) (hM.2.1 k' n' hk')
theorem Rx.ast {j x : Int32} {n : Nat} (kk : Nat) (o : pg_ops M pc = some (.iastore, nx, a, b, w)) (hz : rsz kk = some n) (hj : ¬ (j < 0 ∨ n ≤ j.toNatClampNeg)) (k : Rx X c0 M nx A r σ (va_up τ kk (upd (τ kk) j.toNatClampNeg x)) Q) : Rx X c0 M pc A (.int x :: .int j :: .ref (c0 + ra kk) :: r) σ τ Q := fun h hM => by
  have hr := ra_in hz
  refine Ex.iast o (hM.2.1 kk n hz) hj ?_
  refine (k _ (hM.ast hz)).mono fun r h' ⟨σ', τ', q1, q2, q3⟩ => ⟨σ', τ', q1, RF.tr (RF.set (by omega) (by omega)) q2, q3⟩
theorem Rx.ret {i : Instr} {v : Option Value} (o : pg_ops M pc = some (i, nx, a, b, w)) (hr : ev_ret M i st = some v) (q : Q v σ τ) : Rx X c0 M pc A st σ τ Q := fun h hM => Ex.ret o hr ⟨σ, τ, hM, RF.rf, q⟩
/-- a call of a method of the reference -/
theorem Rx.call {as rest A0 : List Value} {Q1 : Option Value → (Nat → Int32) → (Nat → Nat → Int32) → Prop} (o : pg_ops M pc = some (.invokevirtual idx, nx, a, b, w)) (ha : ev_argI (pg_n a) st = some (c0 + 16, as, rest)) (hc : pg_c a = 6) (he : ev_ent (pg_L a) (.ref (c0 + 16) :: as) = some A0) (k1 : Rx X c0 a 0 A0 [] σ τ Q1)
    (k2 : ∀ (v : Option Value) (σ' : Nat → Int32) (τ' : Nat → Nat → Int32), Q1 v σ' τ' → Rx X c0 M nx A (v.toList ++ rest) σ' τ' Q) : Rx X c0 M pc A st σ τ Q := fun h hM => by
  refine Ex.call (rest := rest) o rfl ?_ he (k1 h hM) (fun v h1 ⟨σ', τ', q1, q2, q3⟩ => ?_)
  · have hrc : ev_rcv X h (c0 + 16) (pg_c a) = true := by unfold ev_rcv; rw [hM.1, hc]; rfl
    simp only [ev_cal, ha, hrc, if_true]
  · exact (k2 v σ' τ' q3 h1 q1).mono fun r h' ⟨σ2, τ2, p1, p2, p3⟩ => ⟨σ2, τ2, p1, RF.tr q2 p2, p3⟩
/-- a call of a static method that leaves the heap as it is -/
theorem Rx.scall {as rest A0 : List Value} {Q1 : Option Value → Prop} (o : pg_ops M pc = some (.invokestatic idx, nx, a, b, w)) (hs : (decide (a ∈ pg_sp)) = false) (ha : ev_argS (pg_n a) st = some (as, rest)) (he : ev_ent (pg_L a) as = some A0) (k1 : ∀ h, Ex X a 0 A0 [] h (fun v h' => h' = h ∧ Q1 v))
    (k2 : ∀ v : Option Value, Q1 v → Rx X c0 M nx A (v.toList ++ rest) σ τ Q) : Rx X c0 M pc A st σ τ Q := fun h hM => by
  refine Ex.call (rest := rest) o rfl ?_ he (k1 h) (fun v h1 ⟨q1, q2⟩ => ?_)
  · simp only [ev_cal, if_neg (of_decide_eq_false hs), ha]
  · subst q1
    exact k2 v q2 h1 hM
theorem Rx.callE {as rest A0 : List Value} {v : Option Value} {σ1 : Nat → Int32} {τ1 : Nat → Nat → Int32} (o : pg_ops M pc = some (.invokevirtual idx, nx, a, b, w)) (ha : ev_argI (pg_n a) st = some (c0 + 16, as, rest)) (hc : pg_c a = 6) (he : ev_ent (pg_L a) (.ref (c0 + 16) :: as) = some A0) (k1 : Rx X c0 a 0 A0 [] σ τ (fun r σ' τ' => r = v ∧ σ' = σ1 ∧ τ' = τ1))
    (k2 : Rx X c0 M nx A (v.toList ++ rest) σ1 τ1 Q) : Rx X c0 M pc A st σ τ Q := Rx.call o ha hc he k1 (fun r σ' τ' ⟨e1, e2, e3⟩ => by rw [e1, e2, e3]; exact k2)
theorem Rx.scallE {as rest A0 : List Value} {v : Option Value} (o : pg_ops M pc = some (.invokestatic idx, nx, a, b, w)) (hs : (decide (a ∈ pg_sp)) = false) (ha : ev_argS (pg_n a) st = some (as, rest)) (he : ev_ent (pg_L a) as = some A0) (k1 : ∀ h, Ex X a 0 A0 [] h (fun r h' => h' = h ∧ r = v))
    (k2 : Rx X c0 M nx A (v.toList ++ rest) σ τ Q) : Rx X c0 M pc A st σ τ Q := Rx.scall o hs ha he k1 (fun r e1 => by rw [e1]; exact k2)
theorem Rx.aldE {j v : Int32} {n : Nat} (kk : Nat) (o : pg_ops M pc = some (.iaload, nx, a, b, w)) (hz : rsz kk = some n) (hj : ¬ (j < 0 ∨ n ≤ j.toNatClampNeg)) (hv : τ kk j.toNatClampNeg = v) (k : Rx X c0 M nx A (.int v :: r) σ τ Q) : Rx X c0 M pc A (.int j :: .ref (c0 + ra kk) :: r) σ τ Q := Rx.ald kk o hz hj (by rw [hv]; exact k)
theorem Rx.top {x y : Int32} (h : x = y) (k : Rx X c0 M pc A (.int y :: r) σ τ Q) : Rx X c0 M pc A (.int x :: r) σ τ Q := h ▸ k
theorem Rx.callX {α : Type} {P : α → Prop} {as rest A0 : List Value} {v : α → Option Value} {σ1 : α → Nat → Int32} {τ1 : α → Nat → Nat → Int32} (o : pg_ops M pc = some (.invokevirtual idx, nx, a, b, w)) (ha : ev_argI (pg_n a) st = some (c0 + 16, as, rest)) (hc : pg_c a = 6) (he : ev_ent (pg_L a) (.ref (c0 + 16) :: as) = some A0) (k1 : Rx X c0 a 0 A0 [] σ τ (fun r σ' τ' => ∃ x : α, P x ∧ r = v x ∧ σ' = σ1 x ∧ τ' = τ1 x))
    (k2 : ∀ x : α, P x → Rx X c0 M nx A ((v x).toList ++ rest) (σ1 x) (τ1 x) Q) : Rx X c0 M pc A st σ τ Q := Rx.call o ha hc he k1 (fun r σ' τ' ⟨x, hx, e1, e2, e3⟩ => by rw [e1, e2, e3]; exact k2 x hx)
theorem Rx.callP {P : (Nat → Int32) → (Nat → Nat → Int32) → Prop} {as rest A0 : List Value} {v : Option Value} (o : pg_ops M pc = some (.invokevirtual idx, nx, a, b, w)) (ha : ev_argI (pg_n a) st = some (c0 + 16, as, rest)) (hc : pg_c a = 6) (he : ev_ent (pg_L a) (.ref (c0 + 16) :: as) = some A0) (k1 : Rx X c0 a 0 A0 [] σ τ (fun r σ' τ' => r = v ∧ P σ' τ'))
    (k2 : ∀ (σ' : Nat → Int32) (τ' : Nat → Nat → Int32), P σ' τ' → Rx X c0 M nx A (v.toList ++ rest) σ' τ' Q) : Rx X c0 M pc A st σ τ Q := Rx.call o ha hc he k1 (fun r σ' τ' ⟨e1, e2⟩ => by rw [e1]; exact k2 σ' τ' e2)
end RXR
end
section
/-! Truth values; methods that leave the heap as it is (Sx). -/
def bi (p : Bool) : Int32 := if p then 1 else 0
theorem bi_t {p : Bool} (h : p = true) : bi p = 1 := by rw [h]; rfl
theorem bi_f {p : Bool} (h : p = false) : bi p = 0 := by rw [h]; rfl
theorem bi_eqt {p : Bool} (h : ev_c1 .eq (bi p) = true) : p = false := by cases p <;> first | rfl | cases h
theorem bi_eqf {p : Bool} (h : ev_c1 .eq (bi p) = false) : p = true := by cases p <;> first | rfl | cases h
theorem bi_net {p : Bool} (h : ev_c1 .ne (bi p) = true) : p = true := by cases p <;> first | rfl | cases h
theorem bi_nef {p : Bool} (h : ev_c1 .ne (bi p) = false) : p = false := by cases p <;> first | rfl | cases h
theorem bi_ret {M : Nat} {p : Bool} (h : pg_r M = some .boolean) : ev_ret M .ireturn [.int (bi p)] = some (some (.int (bi p))) := by
  unfold ev_ret
  rw [h]
  cases p <;> rfl
theorem ret_1 {p : Bool} (h : p = true) : (some (.int 1) : Option Value) = some (.int (bi p)) := by rw [bi_t h]
theorem ret_0 {p : Bool} (h : p = false) : (some (.int 0) : Option Value) = some (.int (bi p)) := by rw [bi_f h]
theorem ev_reti {M : Nat} {v : Int32} (h : pg_r M = some .int) : ev_ret M .ireturn [.int v] = some (some (.int v)) := by
  unfold ev_ret
  rw [h]
  simp [narrow]
def Sx (X : ev_X) (M pc : Nat) (A st : List Value) (Q : Option Value → Prop) : Prop := ∀ h, Ex X M pc A st h (fun v h' => h' = h ∧ Q v)
section SXR
variable {X : ev_X} {M pc pc' nx a b w idx : Nat} {A A' st st' : List Value} {Q : Option Value → Prop}
theorem Sx.go (h1 : ∀ h, ev_nx X M pc A st h = some (pc', A', st', h)) (k : Sx X M pc' A' st' Q) : Sx X M pc A st Q := fun h => Ex.nx (h1 h) (k h)
theorem Sx.ite {p1 p2 : Nat} {c : Bool} (kt : c = true → Sx X M p1 A st Q) (kf : c = false → Sx X M p2 A st Q) : Sx X M (if c = true then p1 else p2) A st Q := by
  cases c
  · exact kf rfl
  · exact kt rfl
theorem Sx.ret {i : Instr} {v : Option Value} (o : pg_ops M pc = some (i, nx, a, b, w)) (hr : ev_ret M i st = some v) (q : Q v) : Sx X M pc A st Q := fun h => Ex.ret o hr ⟨rfl, q⟩
theorem Sx.scall {as rest A0 : List Value} {Q1 : Option Value → Prop} (o : pg_ops M pc = some (.invokestatic idx, nx, a, b, w)) (hs : (decide (a ∈ pg_sp)) = false) (ha : ev_argS (pg_n a) st = some (as, rest)) (he : ev_ent (pg_L a) as = some A0) (k1 : Sx X a 0 A0 [] Q1)
    (k2 : ∀ v : Option Value, Q1 v → Sx X M nx A (v.toList ++ rest) Q) : Sx X M pc A st Q := fun h => by
  refine Ex.call (rest := rest) o rfl ?_ he (k1 h) (fun v h1 ⟨q1, q2⟩ => ?_)
  · simp only [ev_cal, if_neg (of_decide_eq_false hs), ha]
  · subst q1
    exact k2 v q2 h1
end SXR
-- bytes
def isD (b : Int32) : Bool := !decide (b < 48) && !decide (57 < b)
def isL (b : Int32) : Bool := (!decide (b < 97) && !decide (122 < b)) || (!decide (b < 65) && !decide (90 < b))
def isW (b : Int32) : Bool := isL b || isD b || decide (b = 95)
def isNB (b : Int32) : Bool := !decide (b ≤ 32) && decide (b < 127) && !(decide (b = 60) || decide (b = 62) || decide (b = 34) || decide (b = 92) || decide (b = 94) || decide (b = 123) || decide (b = 124) || decide (b = 125) || decide (b = 96))
end
section
/-! Static methods: bytes. (rows laid by wip/whole/rx1.py) -/
set_option maxRecDepth 100000 in
set_option maxHeartbeats 1000000 in
theorem sx_Reader_isDigit (X : ev_X) (b : Int32) : Sx X m_Reader_isDigit 0 [.int b] [] (fun r => r = some (.int (bi (isD b)))) := by
  refine Sx.go (fun _ => rfl) ?_
  refine Sx.go (fun _ => rfl) ?_
  refine Sx.go (fun _ => rfl) ?_
  refine Sx.ite (fun c1 => ?_) (fun c1 => ?_)
  · replace c1 : b < 48 := of_decide_eq_true c1
    show Sx X m_Reader_isDigit 16 [.int b] [] _
    refine Sx.go (fun _ => rfl) ?_
    exact Sx.ret rfl rfl (ret_0 (by simp [isD, Int32.not_le, Int32.not_lt, c1]))
  · replace c1 : ¬ b < 48 := of_decide_eq_false c1
    show Sx X m_Reader_isDigit 6 [.int b] [] _
    refine Sx.go (fun _ => rfl) ?_
    refine Sx.go (fun _ => rfl) ?_
    refine Sx.go (fun _ => rfl) ?_
    refine Sx.ite (fun c2 => ?_) (fun c2 => ?_)
    · replace c2 : 57 < b := of_decide_eq_true c2
      show Sx X m_Reader_isDigit 16 [.int b] [] _
      refine Sx.go (fun _ => rfl) ?_
      simp only [Int32.not_le, Int32.not_lt] at c1; exact Sx.ret rfl rfl (ret_0 (by simp [isD, Int32.not_le, Int32.not_lt, c1, c2]))
    · replace c2 : ¬ 57 < b := of_decide_eq_false c2
      show Sx X m_Reader_isDigit 12 [.int b] [] _
      refine Sx.go (fun _ => rfl) ?_
      refine Sx.go (fun _ => rfl) ?_
      simp only [Int32.not_le, Int32.not_lt] at c1; simp only [Int32.not_le, Int32.not_lt] at c2; exact Sx.ret rfl rfl (ret_1 (by simp [isD, Int32.not_le, Int32.not_lt, c1, c2]))
set_option maxRecDepth 100000 in
set_option maxHeartbeats 1000000 in
theorem sx_Reader_isLetter (X : ev_X) (b : Int32) : Sx X m_Reader_isLetter 0 [.int b] [] (fun r => r = some (.int (bi (isL b)))) := by
  refine Sx.go (fun _ => rfl) ?_
  refine Sx.go (fun _ => rfl) ?_
  refine Sx.go (fun _ => rfl) ?_
  refine Sx.ite (fun c1 => ?_) (fun c1 => ?_)
  · replace c1 : b < 97 := of_decide_eq_true c1
    show Sx X m_Reader_isLetter 12 [.int b] [] _
    refine Sx.go (fun _ => rfl) ?_
    refine Sx.go (fun _ => rfl) ?_
    refine Sx.go (fun _ => rfl) ?_
    refine Sx.ite (fun c2 => ?_) (fun c2 => ?_)
    · replace c2 : b < 65 := of_decide_eq_true c2
      show Sx X m_Reader_isLetter 28 [.int b] [] _
      refine Sx.go (fun _ => rfl) ?_
      exact Sx.ret rfl rfl (ret_0 (by simp [isL, Int32.not_le, Int32.not_lt, c1, c2]))
    · replace c2 : ¬ b < 65 := of_decide_eq_false c2
      show Sx X m_Reader_isLetter 18 [.int b] [] _
      refine Sx.go (fun _ => rfl) ?_
      refine Sx.go (fun _ => rfl) ?_
      refine Sx.go (fun _ => rfl) ?_
      refine Sx.ite (fun c3 => ?_) (fun c3 => ?_)
      · replace c3 : 90 < b := of_decide_eq_true c3
        show Sx X m_Reader_isLetter 28 [.int b] [] _
        refine Sx.go (fun _ => rfl) ?_
        simp only [Int32.not_le, Int32.not_lt] at c2; exact Sx.ret rfl rfl (ret_0 (by simp [isL, Int32.not_le, Int32.not_lt, c1, c2, c3]))
      · replace c3 : ¬ 90 < b := of_decide_eq_false c3
        show Sx X m_Reader_isLetter 24 [.int b] [] _
        refine Sx.go (fun _ => rfl) ?_
        refine Sx.go (fun _ => rfl) ?_
        simp only [Int32.not_le, Int32.not_lt] at c2; simp only [Int32.not_le, Int32.not_lt] at c3; exact Sx.ret rfl rfl (ret_1 (by simp [isL, Int32.not_le, Int32.not_lt, c1, c2, c3]))
  · replace c1 : ¬ b < 97 := of_decide_eq_false c1
    show Sx X m_Reader_isLetter 6 [.int b] [] _
    refine Sx.go (fun _ => rfl) ?_
    refine Sx.go (fun _ => rfl) ?_
    refine Sx.go (fun _ => rfl) ?_
    refine Sx.ite (fun c4 => ?_) (fun c4 => ?_)
    · replace c4 : b ≤ 122 := of_decide_eq_true c4
      show Sx X m_Reader_isLetter 24 [.int b] [] _
      refine Sx.go (fun _ => rfl) ?_
      refine Sx.go (fun _ => rfl) ?_
      simp only [Int32.not_le, Int32.not_lt] at c1; exact Sx.ret rfl rfl (ret_1 (by simp [isL, Int32.not_le, Int32.not_lt, c1, c4]))
    · replace c4 : ¬ b ≤ 122 := of_decide_eq_false c4
      show Sx X m_Reader_isLetter 12 [.int b] [] _
      refine Sx.go (fun _ => rfl) ?_
      refine Sx.go (fun _ => rfl) ?_
      refine Sx.go (fun _ => rfl) ?_
      refine Sx.ite (fun c5 => ?_) (fun c5 => ?_)
      · replace c5 : b < 65 := of_decide_eq_true c5
        show Sx X m_Reader_isLetter 28 [.int b] [] _
        refine Sx.go (fun _ => rfl) ?_
        simp only [Int32.not_le, Int32.not_lt] at c1; simp only [Int32.not_le, Int32.not_lt] at c4; exact Sx.ret rfl rfl (ret_0 (by simp [isL, Int32.not_le, Int32.not_lt, c1, c4, c5]))
      · replace c5 : ¬ b < 65 := of_decide_eq_false c5
        show Sx X m_Reader_isLetter 18 [.int b] [] _
        refine Sx.go (fun _ => rfl) ?_
        refine Sx.go (fun _ => rfl) ?_
        refine Sx.go (fun _ => rfl) ?_
        refine Sx.ite (fun c6 => ?_) (fun c6 => ?_)
        · replace c6 : 90 < b := of_decide_eq_true c6
          show Sx X m_Reader_isLetter 28 [.int b] [] _
          refine Sx.go (fun _ => rfl) ?_
          simp only [Int32.not_le, Int32.not_lt] at c1; simp only [Int32.not_le, Int32.not_lt] at c4; simp only [Int32.not_le, Int32.not_lt] at c5; exact Sx.ret rfl rfl (ret_0 (by simp [isL, Int32.not_le, Int32.not_lt, c1, c4, c5, c6]))
        · replace c6 : ¬ 90 < b := of_decide_eq_false c6
          show Sx X m_Reader_isLetter 24 [.int b] [] _
          refine Sx.go (fun _ => rfl) ?_
          refine Sx.go (fun _ => rfl) ?_
          simp only [Int32.not_le, Int32.not_lt] at c1; simp only [Int32.not_le, Int32.not_lt] at c4; simp only [Int32.not_le, Int32.not_lt] at c5; simp only [Int32.not_le, Int32.not_lt] at c6; exact Sx.ret rfl rfl (ret_1 (by simp [isL, Int32.not_le, Int32.not_lt, c1, c4, c5, c6]))
set_option maxRecDepth 100000 in
set_option maxHeartbeats 1000000 in
theorem sx_Reader_isW (X : ev_X) (b : Int32) : Sx X m_Reader_isWordByte 0 [.int b] [] (fun r => r = some (.int (bi (isW b)))) := by
  refine Sx.go (fun _ => rfl) ?_
  refine Sx.scall rfl rfl rfl rfl (sx_Reader_isLetter X b) ?_
  rintro _ rfl
  show Sx X m_Reader_isWordByte 4 [.int b] [.int (bi (isL b))] _
  refine Sx.go (fun _ => rfl) ?_
  refine Sx.ite (fun c1 => ?_) (fun c1 => ?_)
  · replace c1 : isL b = true := bi_net c1
    show Sx X m_Reader_isWordByte 20 [.int b] [] _
    refine Sx.go (fun _ => rfl) ?_
    refine Sx.go (fun _ => rfl) ?_
    exact Sx.ret rfl rfl (ret_1 (by simp [isW, Int32.not_le, Int32.not_lt, c1]))
  · replace c1 : isL b = false := bi_nef c1
    show Sx X m_Reader_isWordByte 7 [.int b] [] _
    refine Sx.go (fun _ => rfl) ?_
    refine Sx.scall rfl rfl rfl rfl (sx_Reader_isDigit X b) ?_
    rintro _ rfl
    show Sx X m_Reader_isWordByte 11 [.int b] [.int (bi (isD b))] _
    refine Sx.go (fun _ => rfl) ?_
    refine Sx.ite (fun c2 => ?_) (fun c2 => ?_)
    · replace c2 : isD b = true := bi_net c2
      show Sx X m_Reader_isWordByte 20 [.int b] [] _
      refine Sx.go (fun _ => rfl) ?_
      refine Sx.go (fun _ => rfl) ?_
      exact Sx.ret rfl rfl (ret_1 (by simp [isW, Int32.not_le, Int32.not_lt, c1, c2]))
    · replace c2 : isD b = false := bi_nef c2
      show Sx X m_Reader_isWordByte 14 [.int b] [] _
      refine Sx.go (fun _ => rfl) ?_
      refine Sx.go (fun _ => rfl) ?_
      refine Sx.go (fun _ => rfl) ?_
      refine Sx.ite (fun c3 => ?_) (fun c3 => ?_)
      · replace c3 : ¬ b = 95 := of_decide_eq_true c3
        show Sx X m_Reader_isWordByte 24 [.int b] [] _
        refine Sx.go (fun _ => rfl) ?_
        exact Sx.ret rfl rfl (ret_0 (by simp [isW, Int32.not_le, Int32.not_lt, c1, c2, c3]))
      · replace c3 : b = 95 := Classical.not_not.mp (of_decide_eq_false c3)
        show Sx X m_Reader_isWordByte 20 [.int b] [] _
        refine Sx.go (fun _ => rfl) ?_
        refine Sx.go (fun _ => rfl) ?_
        exact Sx.ret rfl rfl (ret_1 (by simp [isW, Int32.not_le, Int32.not_lt, c1, c2, c3]))
set_option maxRecDepth 100000 in
set_option maxHeartbeats 1000000 in
theorem sx_Mod_isDigit (X : ev_X) (b : Int32) : Sx X m_Mod_isDigit 0 [.int b] [] (fun r => r = some (.int (bi (isD b)))) := by
  refine Sx.go (fun _ => rfl) ?_
  refine Sx.go (fun _ => rfl) ?_
  refine Sx.go (fun _ => rfl) ?_
  refine Sx.ite (fun c1 => ?_) (fun c1 => ?_)
  · replace c1 : b < 48 := of_decide_eq_true c1
    show Sx X m_Mod_isDigit 16 [.int b] [] _
    refine Sx.go (fun _ => rfl) ?_
    exact Sx.ret rfl rfl (ret_0 (by simp [isD, Int32.not_le, Int32.not_lt, c1]))
  · replace c1 : ¬ b < 48 := of_decide_eq_false c1
    show Sx X m_Mod_isDigit 6 [.int b] [] _
    refine Sx.go (fun _ => rfl) ?_
    refine Sx.go (fun _ => rfl) ?_
    refine Sx.go (fun _ => rfl) ?_
    refine Sx.ite (fun c2 => ?_) (fun c2 => ?_)
    · replace c2 : 57 < b := of_decide_eq_true c2
      show Sx X m_Mod_isDigit 16 [.int b] [] _
      refine Sx.go (fun _ => rfl) ?_
      simp only [Int32.not_le, Int32.not_lt] at c1; exact Sx.ret rfl rfl (ret_0 (by simp [isD, Int32.not_le, Int32.not_lt, c1, c2]))
    · replace c2 : ¬ 57 < b := of_decide_eq_false c2
      show Sx X m_Mod_isDigit 12 [.int b] [] _
      refine Sx.go (fun _ => rfl) ?_
      refine Sx.go (fun _ => rfl) ?_
      simp only [Int32.not_le, Int32.not_lt] at c1; simp only [Int32.not_le, Int32.not_lt] at c2; exact Sx.ret rfl rfl (ret_1 (by simp [isD, Int32.not_le, Int32.not_lt, c1, c2]))
set_option maxRecDepth 100000 in
set_option maxHeartbeats 1000000 in
theorem sx_Mod_isLetter (X : ev_X) (b : Int32) : Sx X m_Mod_isLetter 0 [.int b] [] (fun r => r = some (.int (bi (isL b)))) := by
  refine Sx.go (fun _ => rfl) ?_
  refine Sx.go (fun _ => rfl) ?_
  refine Sx.go (fun _ => rfl) ?_
  refine Sx.ite (fun c1 => ?_) (fun c1 => ?_)
  · replace c1 : b < 97 := of_decide_eq_true c1
    show Sx X m_Mod_isLetter 12 [.int b] [] _
    refine Sx.go (fun _ => rfl) ?_
    refine Sx.go (fun _ => rfl) ?_
    refine Sx.go (fun _ => rfl) ?_
    refine Sx.ite (fun c2 => ?_) (fun c2 => ?_)
    · replace c2 : b < 65 := of_decide_eq_true c2
      show Sx X m_Mod_isLetter 28 [.int b] [] _
      refine Sx.go (fun _ => rfl) ?_
      exact Sx.ret rfl rfl (ret_0 (by simp [isL, Int32.not_le, Int32.not_lt, c1, c2]))
    · replace c2 : ¬ b < 65 := of_decide_eq_false c2
      show Sx X m_Mod_isLetter 18 [.int b] [] _
      refine Sx.go (fun _ => rfl) ?_
      refine Sx.go (fun _ => rfl) ?_
      refine Sx.go (fun _ => rfl) ?_
      refine Sx.ite (fun c3 => ?_) (fun c3 => ?_)
      · replace c3 : 90 < b := of_decide_eq_true c3
        show Sx X m_Mod_isLetter 28 [.int b] [] _
        refine Sx.go (fun _ => rfl) ?_
        simp only [Int32.not_le, Int32.not_lt] at c2; exact Sx.ret rfl rfl (ret_0 (by simp [isL, Int32.not_le, Int32.not_lt, c1, c2, c3]))
      · replace c3 : ¬ 90 < b := of_decide_eq_false c3
        show Sx X m_Mod_isLetter 24 [.int b] [] _
        refine Sx.go (fun _ => rfl) ?_
        refine Sx.go (fun _ => rfl) ?_
        simp only [Int32.not_le, Int32.not_lt] at c2; simp only [Int32.not_le, Int32.not_lt] at c3; exact Sx.ret rfl rfl (ret_1 (by simp [isL, Int32.not_le, Int32.not_lt, c1, c2, c3]))
  · replace c1 : ¬ b < 97 := of_decide_eq_false c1
    show Sx X m_Mod_isLetter 6 [.int b] [] _
    refine Sx.go (fun _ => rfl) ?_
    refine Sx.go (fun _ => rfl) ?_
    refine Sx.go (fun _ => rfl) ?_
    refine Sx.ite (fun c4 => ?_) (fun c4 => ?_)
    · replace c4 : b ≤ 122 := of_decide_eq_true c4
      show Sx X m_Mod_isLetter 24 [.int b] [] _
      refine Sx.go (fun _ => rfl) ?_
      refine Sx.go (fun _ => rfl) ?_
      simp only [Int32.not_le, Int32.not_lt] at c1; exact Sx.ret rfl rfl (ret_1 (by simp [isL, Int32.not_le, Int32.not_lt, c1, c4]))
    · replace c4 : ¬ b ≤ 122 := of_decide_eq_false c4
      show Sx X m_Mod_isLetter 12 [.int b] [] _
      refine Sx.go (fun _ => rfl) ?_
      refine Sx.go (fun _ => rfl) ?_
      refine Sx.go (fun _ => rfl) ?_
      refine Sx.ite (fun c5 => ?_) (fun c5 => ?_)
      · replace c5 : b < 65 := of_decide_eq_true c5
        show Sx X m_Mod_isLetter 28 [.int b] [] _
        refine Sx.go (fun _ => rfl) ?_
        simp only [Int32.not_le, Int32.not_lt] at c1; simp only [Int32.not_le, Int32.not_lt] at c4; exact Sx.ret rfl rfl (ret_0 (by simp [isL, Int32.not_le, Int32.not_lt, c1, c4, c5]))
      · replace c5 : ¬ b < 65 := of_decide_eq_false c5
        show Sx X m_Mod_isLetter 18 [.int b] [] _
        refine Sx.go (fun _ => rfl) ?_
        refine Sx.go (fun _ => rfl) ?_
        refine Sx.go (fun _ => rfl) ?_
        refine Sx.ite (fun c6 => ?_) (fun c6 => ?_)
        · replace c6 : 90 < b := of_decide_eq_true c6
          show Sx X m_Mod_isLetter 28 [.int b] [] _
          refine Sx.go (fun _ => rfl) ?_
          simp only [Int32.not_le, Int32.not_lt] at c1; simp only [Int32.not_le, Int32.not_lt] at c4; simp only [Int32.not_le, Int32.not_lt] at c5; exact Sx.ret rfl rfl (ret_0 (by simp [isL, Int32.not_le, Int32.not_lt, c1, c4, c5, c6]))
        · replace c6 : ¬ 90 < b := of_decide_eq_false c6
          show Sx X m_Mod_isLetter 24 [.int b] [] _
          refine Sx.go (fun _ => rfl) ?_
          refine Sx.go (fun _ => rfl) ?_
          simp only [Int32.not_le, Int32.not_lt] at c1; simp only [Int32.not_le, Int32.not_lt] at c4; simp only [Int32.not_le, Int32.not_lt] at c5; simp only [Int32.not_le, Int32.not_lt] at c6; exact Sx.ret rfl rfl (ret_1 (by simp [isL, Int32.not_le, Int32.not_lt, c1, c4, c5, c6]))
set_option maxRecDepth 100000 in
set_option maxHeartbeats 1000000 in
theorem sx_Mod_isW (X : ev_X) (b : Int32) : Sx X m_Mod_isWord 0 [.int b] [] (fun r => r = some (.int (bi (isW b)))) := by
  refine Sx.go (fun _ => rfl) ?_
  refine Sx.scall rfl rfl rfl rfl (sx_Mod_isLetter X b) ?_
  rintro _ rfl
  show Sx X m_Mod_isWord 4 [.int b] [.int (bi (isL b))] _
  refine Sx.go (fun _ => rfl) ?_
  refine Sx.ite (fun c1 => ?_) (fun c1 => ?_)
  · replace c1 : isL b = true := bi_net c1
    show Sx X m_Mod_isWord 20 [.int b] [] _
    refine Sx.go (fun _ => rfl) ?_
    refine Sx.go (fun _ => rfl) ?_
    exact Sx.ret rfl rfl (ret_1 (by simp [isW, Int32.not_le, Int32.not_lt, c1]))
  · replace c1 : isL b = false := bi_nef c1
    show Sx X m_Mod_isWord 7 [.int b] [] _
    refine Sx.go (fun _ => rfl) ?_
    refine Sx.scall rfl rfl rfl rfl (sx_Mod_isDigit X b) ?_
    rintro _ rfl
    show Sx X m_Mod_isWord 11 [.int b] [.int (bi (isD b))] _
    refine Sx.go (fun _ => rfl) ?_
    refine Sx.ite (fun c2 => ?_) (fun c2 => ?_)
    · replace c2 : isD b = true := bi_net c2
      show Sx X m_Mod_isWord 20 [.int b] [] _
      refine Sx.go (fun _ => rfl) ?_
      refine Sx.go (fun _ => rfl) ?_
      exact Sx.ret rfl rfl (ret_1 (by simp [isW, Int32.not_le, Int32.not_lt, c1, c2]))
    · replace c2 : isD b = false := bi_nef c2
      show Sx X m_Mod_isWord 14 [.int b] [] _
      refine Sx.go (fun _ => rfl) ?_
      refine Sx.go (fun _ => rfl) ?_
      refine Sx.go (fun _ => rfl) ?_
      refine Sx.ite (fun c3 => ?_) (fun c3 => ?_)
      · replace c3 : ¬ b = 95 := of_decide_eq_true c3
        show Sx X m_Mod_isWord 24 [.int b] [] _
        refine Sx.go (fun _ => rfl) ?_
        exact Sx.ret rfl rfl (ret_0 (by simp [isW, Int32.not_le, Int32.not_lt, c1, c2, c3]))
      · replace c3 : b = 95 := Classical.not_not.mp (of_decide_eq_false c3)
        show Sx X m_Mod_isWord 20 [.int b] [] _
        refine Sx.go (fun _ => rfl) ?_
        refine Sx.go (fun _ => rfl) ?_
        exact Sx.ret rfl rfl (ret_1 (by simp [isW, Int32.not_le, Int32.not_lt, c1, c2, c3]))
set_option maxRecDepth 100000 in
set_option maxHeartbeats 1000000 in
theorem sx_Mod_isLiteral (X : ev_X) (b : Int32) : Sx X m_Mod_isLiteral 0 [.int b] [] (fun r => r = some (.int (bi (decide (2 < b))))) := by
  refine Sx.go (fun _ => rfl) ?_
  refine Sx.go (fun _ => rfl) ?_
  refine Sx.go (fun _ => rfl) ?_
  refine Sx.ite (fun c1 => ?_) (fun c1 => ?_)
  · replace c1 : b ≤ 2 := of_decide_eq_true c1
    show Sx X m_Mod_isLiteral 9 [.int b] [] _
    refine Sx.go (fun _ => rfl) ?_
    exact Sx.ret rfl rfl (ret_0 (by simp [Int32.not_le, Int32.not_lt, c1]))
  · replace c1 : ¬ b ≤ 2 := of_decide_eq_false c1
    show Sx X m_Mod_isLiteral 5 [.int b] [] _
    refine Sx.go (fun _ => rfl) ?_
    refine Sx.go (fun _ => rfl) ?_
    simp only [Int32.not_le, Int32.not_lt] at c1; exact Sx.ret rfl rfl (ret_1 (by simp [Int32.not_le, Int32.not_lt, c1]))
set_option maxRecDepth 100000 in
set_option maxHeartbeats 1000000 in
theorem sx_Reader_isSign (X : ev_X) (b : Int32) : Sx X m_Reader_isSign 0 [.int b] [] (fun r => r = some (.int (bi (decide (b = 43) || decide (b = 45))))) := by
  refine Sx.go (fun _ => rfl) ?_
  refine Sx.go (fun _ => rfl) ?_
  refine Sx.go (fun _ => rfl) ?_
  refine Sx.ite (fun c1 => ?_) (fun c1 => ?_)
  · replace c1 : b = 43 := of_decide_eq_true c1
    show Sx X m_Reader_isSign 12 [.int b] [] _
    refine Sx.go (fun _ => rfl) ?_
    refine Sx.go (fun _ => rfl) ?_
    exact Sx.ret rfl rfl (ret_1 (by simp [Int32.not_le, Int32.not_lt, c1]))
  · replace c1 : ¬ b = 43 := of_decide_eq_false c1
    show Sx X m_Reader_isSign 6 [.int b] [] _
    refine Sx.go (fun _ => rfl) ?_
    refine Sx.go (fun _ => rfl) ?_
    refine Sx.go (fun _ => rfl) ?_
    refine Sx.ite (fun c2 => ?_) (fun c2 => ?_)
    · replace c2 : ¬ b = 45 := of_decide_eq_true c2
      show Sx X m_Reader_isSign 16 [.int b] [] _
      refine Sx.go (fun _ => rfl) ?_
      exact Sx.ret rfl rfl (ret_0 (by simp [Int32.not_le, Int32.not_lt, c1, c2]))
    · replace c2 : b = 45 := Classical.not_not.mp (of_decide_eq_false c2)
      show Sx X m_Reader_isSign 12 [.int b] [] _
      refine Sx.go (fun _ => rfl) ?_
      refine Sx.go (fun _ => rfl) ?_
      exact Sx.ret rfl rfl (ret_1 (by simp [Int32.not_le, Int32.not_lt, c1, c2]))
def sgn (b : Int32) : Int32 := if 0 ≤ b then (if b ≤ 0 then 0 else 1) else -1
set_option maxRecDepth 100000 in
set_option maxHeartbeats 1000000 in
theorem sx_Mod_sign (X : ev_X) (b : Int32) : Sx X m_Mod_sign 0 [.int b] [] (fun r => r = some (.int (sgn b))) := by
  refine Sx.go (fun _ => rfl) ?_
  refine Sx.go (fun _ => rfl) ?_
  refine Sx.ite (fun c1 => ?_) (fun c1 => ?_)
  · replace c1 : 0 ≤ b := of_decide_eq_true c1
    show Sx X m_Mod_sign 8 [.int b] [] _
    refine Sx.go (fun _ => rfl) ?_
    refine Sx.go (fun _ => rfl) ?_
    refine Sx.ite (fun c2 => ?_) (fun c2 => ?_)
    · replace c2 : b ≤ 0 := of_decide_eq_true c2
      show Sx X m_Mod_sign 16 [.int b] [] _
      refine Sx.go (fun _ => rfl) ?_
      exact Sx.ret rfl (ev_reti rfl) (by simp [sgn, c1, c2])
    · replace c2 : ¬ b ≤ 0 := of_decide_eq_false c2
      show Sx X m_Mod_sign 12 [.int b] [] _
      refine Sx.go (fun _ => rfl) ?_
      refine Sx.go (fun _ => rfl) ?_
      exact Sx.ret rfl (ev_reti rfl) (by simp [sgn, c1, c2])
  · replace c1 : ¬ 0 ≤ b := of_decide_eq_false c1
    show Sx X m_Mod_sign 4 [.int b] [] _
    refine Sx.go (fun _ => rfl) ?_
    refine Sx.go (fun _ => rfl) ?_
    exact Sx.ret rfl (ev_reti rfl) (by simp [sgn, c1])
def sml (b : Int32) : Int32 := if b < 65 then b else if 90 < b then b else b + 32
set_option maxRecDepth 100000 in
set_option maxHeartbeats 1000000 in
theorem sx_Reader_small (X : ev_X) (b : Int32) : Sx X m_Reader_small 0 [.int b] [] (fun r => r = some (.int (sml b))) := by
  refine Sx.go (fun _ => rfl) ?_
  refine Sx.go (fun _ => rfl) ?_
  refine Sx.go (fun _ => rfl) ?_
  refine Sx.ite (fun c1 => ?_) (fun c1 => ?_)
  · replace c1 : b < 65 := of_decide_eq_true c1
    show Sx X m_Reader_small 19 [.int b] [] _
    refine Sx.go (fun _ => rfl) ?_
    exact Sx.ret rfl (ev_reti rfl) (by simp [sml, c1])
  · replace c1 : ¬ b < 65 := of_decide_eq_false c1
    show Sx X m_Reader_small 6 [.int b] [] _
    refine Sx.go (fun _ => rfl) ?_
    refine Sx.go (fun _ => rfl) ?_
    refine Sx.go (fun _ => rfl) ?_
    refine Sx.ite (fun c2 => ?_) (fun c2 => ?_)
    · replace c2 : 90 < b := of_decide_eq_true c2
      show Sx X m_Reader_small 19 [.int b] [] _
      refine Sx.go (fun _ => rfl) ?_
      exact Sx.ret rfl (ev_reti rfl) (by simp [sml, c1, c2])
    · replace c2 : ¬ 90 < b := of_decide_eq_false c2
      show Sx X m_Reader_small 12 [.int b] [] _
      refine Sx.go (fun _ => rfl) ?_
      refine Sx.go (fun _ => rfl) ?_
      refine Sx.go (fun _ => rfl) ?_
      refine Sx.go (fun _ => rfl) ?_
      exact Sx.ret rfl (ev_reti rfl) (by simp [sml, c1, c2])
end
section
/-! Simple methods of the reference. (rows laid by wip/whole/rx2.py) -/
def tixP (σ : Nat → Int32) (t : Int32) : Prop := 0 < t.toInt ∧ t.toInt ≤ (σ 7).toInt ∧ (σ 7).toInt ≤ 2000
theorem tix_of {σ : Nat → Int32} {t : Int32} (h : t ≤ 0 ∨ σ 7 < t ∨ tixP σ t) (c : (!decide (t ≤ 0) && !decide (σ 7 < t)) = true) : tixP σ t := by
  simp only [Bool.and_eq_true, Bool.not_eq_true', decide_eq_false_iff_not] at c
  rcases h with h | h | h
  · exact absurd h c.1
  · exact absurd h c.2
  · exact h
theorem ix_lt {x y z : Int32} {n : Nat} (h0 : ¬ x < 0) (h1 : ¬ y ≤ x) (h2 : y ≤ z) (hz : z = Int32.ofNat n) (hn : n < 2 ^ 31 := by decide) : ¬ (x < 0 ∨ n ≤ x.toNatClampNeg) := by
  rintro (q | q)
  · exact h0 q
  · obtain ⟨j, hj, rfl⟩ := nI_of h0
    rw [nI_clamp hj] at q
    refine h1 (Int32.le_trans h2 ?_)
    rw [hz]
    exact nI_le q hj
set_option maxRecDepth 100000 in
set_option maxHeartbeats 1000000 in
theorem rx_isGood (X : ev_X) (c0 : Nat) (σ : Nat → Int32) (τ : Nat → Nat → Int32) : Rx X c0 m_Mod_isGood 0 [.ref (c0 + 16)] [] σ τ (fun r σ' τ' => r = some (.int (bi (decide (σ 18 = 0)))) ∧ σ' = σ ∧ τ' = τ) := by
  refine Rx.go (fun _ => rfl) ?_
  refine Rx.get rfl rfl ?_
  refine Rx.go (fun _ => rfl) ?_
  refine Rx.ite (fun c1 => ?_) (fun c1 => ?_)
  · replace c1 : ¬ (σ 18) = 0 := of_decide_eq_true c1
    show Rx X c0 m_Mod_isGood 11 [.ref (c0 + 16)] [] σ τ _
    refine Rx.go (fun _ => rfl) ?_
    exact Rx.ret rfl rfl ⟨ret_0 (by simp [decide_eq_true_eq, Int32.not_le, Int32.not_lt, c1]), rfl, rfl⟩
  · replace c1 : (σ 18) = 0 := Classical.not_not.mp (of_decide_eq_false c1)
    show Rx X c0 m_Mod_isGood 7 [.ref (c0 + 16)] [] σ τ _
    refine Rx.go (fun _ => rfl) ?_
    refine Rx.go (fun _ => rfl) ?_
    exact Rx.ret rfl rfl ⟨ret_1 (by simp [decide_eq_true_eq, Int32.not_le, Int32.not_lt, c1]), rfl, rfl⟩
set_option maxRecDepth 100000 in
set_option maxHeartbeats 1000000 in
theorem rx_put (X : ev_X) (c0 : Nat) (σ : Nat → Int32) (τ : Nat → Nat → Int32) (b : Int32) (h0 : ¬ (σ 10 < 0 ∨ 260 ≤ (σ 10).toNatClampNeg)) : Rx X c0 m_Mod_put 0 [.ref (c0 + 16), .int b] [] σ τ (fun r σ' τ' => r = none ∧ σ' = upd σ 10 (σ 10 + 1) ∧ τ' = va_up τ 9 (upd (τ 9) (σ 10).toNatClampNeg b)) := by
  refine Rx.go (fun _ => rfl) ?_
  refine Rx.get rfl rfl ?_
  refine Rx.go (fun _ => rfl) ?_
  refine Rx.get rfl rfl ?_
  refine Rx.go (fun _ => rfl) ?_
  refine Rx.ast 9 rfl rfl h0 ?_
  refine Rx.go (fun _ => rfl) ?_
  refine Rx.go (fun _ => rfl) ?_
  refine Rx.get rfl rfl ?_
  refine Rx.go (fun _ => rfl) ?_
  refine Rx.go (fun _ => rfl) ?_
  refine Rx.put rfl (by decide) rfl rfl ?_
  exact Rx.ret rfl rfl ⟨rfl, rfl, rfl⟩
set_option maxRecDepth 100000 in
set_option maxHeartbeats 1000000 in
theorem rx_begin (X : ev_X) (c0 : Nat) (σ : Nat → Int32) (τ : Nat → Nat → Int32) (b : Int32) : Rx X c0 m_Mod_begin 0 [.ref (c0 + 16), .int b] [] σ τ (fun r σ' τ' => r = none ∧ σ' = upd (upd (upd (upd σ 11 b) 10 0) 12 0) 13 0 ∧ τ' = τ) := by
  refine Rx.go (fun _ => rfl) ?_
  refine Rx.go (fun _ => rfl) ?_
  refine Rx.put rfl (by decide) rfl rfl ?_
  refine Rx.go (fun _ => rfl) ?_
  refine Rx.go (fun _ => rfl) ?_
  refine Rx.put rfl (by decide) rfl rfl ?_
  refine Rx.go (fun _ => rfl) ?_
  refine Rx.go (fun _ => rfl) ?_
  refine Rx.put rfl (by decide) rfl rfl ?_
  refine Rx.go (fun _ => rfl) ?_
  refine Rx.go (fun _ => rfl) ?_
  refine Rx.put rfl (by decide) rfl rfl ?_
  exact Rx.ret rfl rfl ⟨rfl, rfl, rfl⟩
def rfail (σ : Nat → Int32) (w p : Int32) : Nat → Int32 := if σ 18 = 0 then upd (upd σ 18 w) 19 p else σ
set_option maxRecDepth 100000 in
set_option maxHeartbeats 1000000 in
theorem rx_fail (X : ev_X) (c0 : Nat) (σ : Nat → Int32) (τ : Nat → Nat → Int32) (b p : Int32) : Rx X c0 m_Mod_fail 0 [.ref (c0 + 16), .int b, .int p] [] σ τ (fun r σ' τ' => r = none ∧ σ' = rfail σ b p ∧ τ' = τ) := by
  refine Rx.go (fun _ => rfl) ?_
  refine Rx.get rfl rfl ?_
  refine Rx.go (fun _ => rfl) ?_
  refine Rx.ite (fun c1 => ?_) (fun c1 => ?_)
  · replace c1 : (σ 18) = 0 := of_decide_eq_true c1
    show Rx X c0 m_Mod_fail 8 [.ref (c0 + 16), .int b, .int p] [] σ τ _
    refine Rx.go (fun _ => rfl) ?_
    refine Rx.go (fun _ => rfl) ?_
    refine Rx.put rfl (by decide) rfl rfl ?_
    refine Rx.go (fun _ => rfl) ?_
    refine Rx.go (fun _ => rfl) ?_
    refine Rx.put rfl (by decide) rfl rfl ?_
    exact Rx.ret rfl rfl ⟨rfl, by simp [rfail, c1], rfl⟩
  · replace c1 : ¬ (σ 18) = 0 := of_decide_eq_false c1
    show Rx X c0 m_Mod_fail 7 [.ref (c0 + 16), .int b, .int p] [] σ τ _
    exact Rx.ret rfl rfl ⟨rfl, by simp [rfail, c1], rfl⟩
def rhere (σ : Nat → Int32) (τ : Nat → Nat → Int32) : Int32 := if σ 17 ≤ σ 16 then -1 else τ 0 (σ 16).toNatClampNeg
set_option maxRecDepth 100000 in
set_option maxHeartbeats 1000000 in
theorem rx_here (X : ev_X) (c0 : Nat) (σ : Nat → Int32) (τ : Nat → Nat → Int32) (h0 : ¬ σ 16 < 0) (h1 : σ 17 ≤ 240) : Rx X c0 m_Mod_here 0 [.ref (c0 + 16)] [] σ τ (fun r σ' τ' => r = some (.int (rhere σ τ)) ∧ σ' = σ ∧ τ' = τ) := by
  refine Rx.go (fun _ => rfl) ?_
  refine Rx.get rfl rfl ?_
  refine Rx.go (fun _ => rfl) ?_
  refine Rx.get rfl rfl ?_
  refine Rx.go (fun _ => rfl) ?_
  refine Rx.ite (fun c1 => ?_) (fun c1 => ?_)
  · replace c1 : (σ 17) ≤ (σ 16) := of_decide_eq_true c1
    show Rx X c0 m_Mod_here 23 [.ref (c0 + 16)] [] σ τ _
    refine Rx.go (fun _ => rfl) ?_
    exact Rx.ret rfl (ev_reti rfl) ⟨by simp [rhere, c1], rfl, rfl⟩
  · replace c1 : ¬ (σ 17) ≤ (σ 16) := of_decide_eq_false c1
    show Rx X c0 m_Mod_here 11 [.ref (c0 + 16)] [] σ τ _
    refine Rx.go (fun _ => rfl) ?_
    refine Rx.get rfl rfl ?_
    refine Rx.go (fun _ => rfl) ?_
    refine Rx.get rfl rfl ?_
    refine Rx.ald 0 rfl rfl (ix_lt h0 c1 h1 rfl) ?_
    refine Rx.go (fun _ => rfl) ?_
    exact Rx.ret rfl (ev_reti rfl) ⟨by simp [rhere, c1], rfl, rfl⟩
def rover (σ : Nat → Int32) (g : Bool) : Nat → Int32 := if σ 16 = σ 17 then rfail σ 2 (σ 17) else if g = true then upd σ 16 (σ 16 + 1) else rfail σ 3 (σ 16)
set_option maxRecDepth 100000 in
set_option maxHeartbeats 1000000 in
theorem rx_over (X : ev_X) (c0 : Nat) (σ : Nat → Int32) (τ : Nat → Nat → Int32) (g : Bool) : Rx X c0 m_Mod_over 0 [.ref (c0 + 16), .int (bi g)] [] σ τ (fun r σ' τ' => r = none ∧ σ' = rover σ g ∧ τ' = τ) := by
  refine Rx.go (fun _ => rfl) ?_
  refine Rx.get rfl rfl ?_
  refine Rx.go (fun _ => rfl) ?_
  refine Rx.get rfl rfl ?_
  refine Rx.go (fun _ => rfl) ?_
  refine Rx.ite (fun c1 => ?_) (fun c1 => ?_)
  · replace c1 : ¬ (σ 16) = (σ 17) := of_decide_eq_true c1
    show Rx X c0 m_Mod_over 23 [.ref (c0 + 16), .int (bi g)] [] σ τ _
    refine Rx.go (fun _ => rfl) ?_
    refine Rx.go (fun _ => rfl) ?_
    refine Rx.ite (fun c2 => ?_) (fun c2 => ?_)
    · replace c2 : g = true := bi_net c2
      show Rx X c0 m_Mod_over 39 [.ref (c0 + 16), .int (bi g)] [] σ τ _
      refine Rx.go (fun _ => rfl) ?_
      refine Rx.go (fun _ => rfl) ?_
      refine Rx.get rfl rfl ?_
      refine Rx.go (fun _ => rfl) ?_
      refine Rx.go (fun _ => rfl) ?_
      refine Rx.put rfl (by decide) rfl rfl ?_
      exact Rx.ret rfl rfl ⟨rfl, by simp [rover, c1, c2], rfl⟩
    · replace c2 : g = false := bi_nef c2
      show Rx X c0 m_Mod_over 27 [.ref (c0 + 16), .int (bi g)] [] σ τ _
      refine Rx.go (fun _ => rfl) ?_
      refine Rx.go (fun _ => rfl) ?_
      refine Rx.go (fun _ => rfl) ?_
      refine Rx.get rfl rfl ?_
      refine Rx.callE rfl rfl rfl rfl (rx_fail X c0 _ _ 3 (σ 16)) ?_
      show Rx X c0 m_Mod_over 36 [.ref (c0 + 16), .int (bi g)] [] (rfail σ 3 (σ 16)) τ _
      refine Rx.go (fun _ => rfl) ?_
      exact Rx.ret rfl rfl ⟨rfl, by simp [rover, c1, c2], rfl⟩
  · replace c1 : (σ 16) = (σ 17) := Classical.not_not.mp (of_decide_eq_false c1)
    show Rx X c0 m_Mod_over 11 [.ref (c0 + 16), .int (bi g)] [] σ τ _
    refine Rx.go (fun _ => rfl) ?_
    refine Rx.go (fun _ => rfl) ?_
    refine Rx.go (fun _ => rfl) ?_
    refine Rx.get rfl rfl ?_
    refine Rx.callE rfl rfl rfl rfl (rx_fail X c0 _ _ 2 (σ 17)) ?_
    show Rx X c0 m_Mod_over 20 [.ref (c0 + 16), .int (bi g)] [] (rfail σ 2 (σ 17)) τ _
    refine Rx.go (fun _ => rfl) ?_
    exact Rx.ret rfl rfl ⟨rfl, by simp [rover, c1], rfl⟩
set_option maxRecDepth 100000 in
set_option maxHeartbeats 1000000 in
theorem rx_isTerm (X : ev_X) (c0 : Nat) (σ : Nat → Int32) (τ : Nat → Nat → Int32) (t : Int32) : Rx X c0 m_Mod_isTerm 0 [.ref (c0 + 16), .int t] [] σ τ (fun r σ' τ' => r = some (.int (bi (!decide (t ≤ 0) && !decide (σ 7 < t)))) ∧ σ' = σ ∧ τ' = τ) := by
  refine Rx.go (fun _ => rfl) ?_
  refine Rx.go (fun _ => rfl) ?_
  refine Rx.ite (fun c1 => ?_) (fun c1 => ?_)
  · replace c1 : t ≤ 0 := of_decide_eq_true c1
    show Rx X c0 m_Mod_isTerm 16 [.ref (c0 + 16), .int t] [] σ τ _
    refine Rx.go (fun _ => rfl) ?_
    exact Rx.ret rfl rfl ⟨ret_0 (by simp [Int32.not_le, Int32.not_lt, c1]), rfl, rfl⟩
  · replace c1 : ¬ t ≤ 0 := of_decide_eq_false c1
    show Rx X c0 m_Mod_isTerm 4 [.ref (c0 + 16), .int t] [] σ τ _
    refine Rx.go (fun _ => rfl) ?_
    refine Rx.go (fun _ => rfl) ?_
    refine Rx.get rfl rfl ?_
    refine Rx.go (fun _ => rfl) ?_
    refine Rx.ite (fun c2 => ?_) (fun c2 => ?_)
    · replace c2 : (σ 7) < t := of_decide_eq_true c2
      show Rx X c0 m_Mod_isTerm 16 [.ref (c0 + 16), .int t] [] σ τ _
      refine Rx.go (fun _ => rfl) ?_
      simp only [Int32.not_le, Int32.not_lt] at c1; exact Rx.ret rfl rfl ⟨ret_0 (by simp [Int32.not_le, Int32.not_lt, c1, c2]), rfl, rfl⟩
    · replace c2 : ¬ (σ 7) < t := of_decide_eq_false c2
      show Rx X c0 m_Mod_isTerm 12 [.ref (c0 + 16), .int t] [] σ τ _
      refine Rx.go (fun _ => rfl) ?_
      refine Rx.go (fun _ => rfl) ?_
      simp only [Int32.not_le, Int32.not_lt] at c1; simp only [Int32.not_le, Int32.not_lt] at c2; exact Rx.ret rfl rfl ⟨ret_1 (by simp [Int32.not_le, Int32.not_lt, c1, c2]), rfl, rfl⟩
set_option maxRecDepth 100000 in
set_option maxHeartbeats 1000000 in
theorem rx_place (X : ev_X) (c0 : Nat) (σ : Nat → Int32) (τ : Nat → Nat → Int32) : Rx X c0 m_Mod_place 0 [.ref (c0 + 16)] [] σ τ (fun r σ' τ' => r = some (.int (σ 2)) ∧ σ' = σ ∧ τ' = τ) := by
  refine Rx.go (fun _ => rfl) ?_
  refine Rx.get rfl rfl ?_
  exact Rx.ret rfl (ev_reti rfl) ⟨rfl, rfl, rfl⟩
set_option maxRecDepth 100000 in
set_option maxHeartbeats 1000000 in
theorem rx_count (X : ev_X) (c0 : Nat) (σ : Nat → Int32) (τ : Nat → Nat → Int32) : Rx X c0 m_Mod_count 0 [.ref (c0 + 16)] [] σ τ (fun r σ' τ' => r = some (.int (σ 7)) ∧ σ' = σ ∧ τ' = τ) := by
  refine Rx.go (fun _ => rfl) ?_
  refine Rx.get rfl rfl ?_
  exact Rx.ret rfl (ev_reti rfl) ⟨rfl, rfl, rfl⟩
set_option maxRecDepth 100000 in
set_option maxHeartbeats 1000000 in
theorem rx_used (X : ev_X) (c0 : Nat) (σ : Nat → Int32) (τ : Nat → Nat → Int32) : Rx X c0 m_Mod_used 0 [.ref (c0 + 16)] [] σ τ (fun r σ' τ' => r = some (.int (σ 8)) ∧ σ' = σ ∧ τ' = τ) := by
  refine Rx.go (fun _ => rfl) ?_
  refine Rx.get rfl rfl ?_
  exact Rx.ret rfl (ev_reti rfl) ⟨rfl, rfl, rfl⟩
/-- an index of a term -/
abbrev tix (σ : Nat → Int32) (t : Int32) : Prop := tixP σ t
theorem tix_a {σ : Nat → Int32} {t : Int32} (h : tix σ t) : ¬ (t < 0 ∨ 2002 ≤ t.toNatClampNeg) := vp_in_iff.mpr ⟨by have := h.1; omega, by have := h.2; omega⟩
theorem tix_b {σ : Nat → Int32} {t : Int32} (h : tix σ t) : ¬ (t + 1 < 0 ∨ 2002 ≤ (t + 1).toNatClampNeg) := by
  have h1 := h.1
  have h2 := h.2
  have e : (t + 1).toInt = t.toInt + 1 := by
    rw [Int32.toInt_add]
    have e1 : (1 : Int32).toInt = 1 := rfl
    rw [e1, Int.bmod_eq_of_le] <;> omega
  exact vp_in_iff.mpr ⟨by omega, by omega⟩
set_option maxRecDepth 100000 in
set_option maxHeartbeats 1000000 in
theorem rx_kind (X : ev_X) (c0 : Nat) (σ : Nat → Int32) (τ : Nat → Nat → Int32) (t : Int32) (h : t ≤ 0 ∨ σ 7 < t ∨ tix σ t) : Rx X c0 m_Mod_kind 0 [.ref (c0 + 16), .int t] [] σ τ (fun r σ' τ' => r = some (.int (if (!decide (t ≤ 0) && !decide (σ 7 < t)) = true then τ 5 t.toNatClampNeg else -1)) ∧ σ' = σ ∧ τ' = τ) := by
  refine Rx.go (fun _ => rfl) ?_
  refine Rx.go (fun _ => rfl) ?_
  refine Rx.callE rfl rfl rfl rfl (rx_isTerm X c0 _ _ t) ?_
  show Rx X c0 m_Mod_kind 5 [.ref (c0 + 16), .int t] [.int (bi (!decide (t ≤ 0) && !decide (σ 7 < t)))] σ τ _
  refine Rx.go (fun _ => rfl) ?_
  refine Rx.ite (fun c1 => ?_) (fun c1 => ?_)
  · replace c1 : (!decide (t ≤ 0) && !decide (σ 7 < t)) = false := bi_eqt c1
    show Rx X c0 m_Mod_kind 17 [.ref (c0 + 16), .int t] [] σ τ _
    refine Rx.go (fun _ => rfl) ?_
    exact Rx.ret rfl (ev_reti rfl) ⟨by rw [c1]; rfl, rfl, rfl⟩
  · replace c1 : (!decide (t ≤ 0) && !decide (σ 7 < t)) = true := bi_eqf c1
    show Rx X c0 m_Mod_kind 8 [.ref (c0 + 16), .int t] [] σ τ _
    refine Rx.go (fun _ => rfl) ?_
    refine Rx.get rfl rfl ?_
    refine Rx.go (fun _ => rfl) ?_
    refine Rx.ald 5 rfl rfl (tix_a (tix_of h c1)) ?_
    refine Rx.go (fun _ => rfl) ?_
    exact Rx.ret rfl (ev_reti rfl) ⟨by rw [c1]; rfl, rfl, rfl⟩
set_option maxRecDepth 100000 in
set_option maxHeartbeats 1000000 in
theorem rx_isNumber (X : ev_X) (c0 : Nat) (σ : Nat → Int32) (τ : Nat → Nat → Int32) (t : Int32) (h : tix σ t) : Rx X c0 m_Mod_isNumber 0 [.ref (c0 + 16), .int t] [] σ τ (fun r σ' τ' => r = some (.int (bi (decide (τ 5 t.toNatClampNeg = 3) || decide (τ 5 t.toNatClampNeg = 4)))) ∧ σ' = σ ∧ τ' = τ) := by
  refine Rx.go (fun _ => rfl) ?_
  refine Rx.get rfl rfl ?_
  refine Rx.go (fun _ => rfl) ?_
  refine Rx.ald 5 rfl rfl (tix_a h) ?_
  refine Rx.go (fun _ => rfl) ?_
  refine Rx.go (fun _ => rfl) ?_
  refine Rx.ite (fun c1 => ?_) (fun c1 => ?_)
  · replace c1 : (τ 5 t.toNatClampNeg) = 3 := of_decide_eq_true c1
    show Rx X c0 m_Mod_isNumber 20 [.ref (c0 + 16), .int t] [] σ τ _
    refine Rx.go (fun _ => rfl) ?_
    refine Rx.go (fun _ => rfl) ?_
    exact Rx.ret rfl rfl ⟨ret_1 (by simp [Int32.not_le, Int32.not_lt, c1]), rfl, rfl⟩
  · replace c1 : ¬ (τ 5 t.toNatClampNeg) = 3 := of_decide_eq_false c1
    show Rx X c0 m_Mod_isNumber 10 [.ref (c0 + 16), .int t] [] σ τ _
    refine Rx.go (fun _ => rfl) ?_
    refine Rx.get rfl rfl ?_
    refine Rx.go (fun _ => rfl) ?_
    refine Rx.ald 5 rfl rfl (tix_a h) ?_
    refine Rx.go (fun _ => rfl) ?_
    refine Rx.go (fun _ => rfl) ?_
    refine Rx.ite (fun c2 => ?_) (fun c2 => ?_)
    · replace c2 : ¬ (τ 5 t.toNatClampNeg) = 4 := of_decide_eq_true c2
      show Rx X c0 m_Mod_isNumber 24 [.ref (c0 + 16), .int t] [] σ τ _
      refine Rx.go (fun _ => rfl) ?_
      exact Rx.ret rfl rfl ⟨ret_0 (by simp [Int32.not_le, Int32.not_lt, c1, c2]), rfl, rfl⟩
    · replace c2 : (τ 5 t.toNatClampNeg) = 4 := Classical.not_not.mp (of_decide_eq_false c2)
      show Rx X c0 m_Mod_isNumber 20 [.ref (c0 + 16), .int t] [] σ τ _
      refine Rx.go (fun _ => rfl) ?_
      refine Rx.go (fun _ => rfl) ?_
      exact Rx.ret rfl rfl ⟨ret_1 (by simp [Int32.not_le, Int32.not_lt, c1, c2]), rfl, rfl⟩
set_option maxRecDepth 100000 in
set_option maxHeartbeats 1000000 in
theorem rx_lengthOf (X : ev_X) (c0 : Nat) (σ : Nat → Int32) (τ : Nat → Nat → Int32) (t : Int32) (h : tix σ t) : Rx X c0 m_Mod_lengthOf 0 [.ref (c0 + 16), .int t] [] σ τ (fun r σ' τ' => r = some (.int (τ 4 (t + 1).toNatClampNeg - τ 4 t.toNatClampNeg)) ∧ σ' = σ ∧ τ' = τ) := by
  refine Rx.go (fun _ => rfl) ?_
  refine Rx.get rfl rfl ?_
  refine Rx.go (fun _ => rfl) ?_
  refine Rx.go (fun _ => rfl) ?_
  refine Rx.go (fun _ => rfl) ?_
  refine Rx.ald 4 rfl rfl (tix_b h) ?_
  refine Rx.go (fun _ => rfl) ?_
  refine Rx.get rfl rfl ?_
  refine Rx.go (fun _ => rfl) ?_
  refine Rx.ald 4 rfl rfl (tix_a h) ?_
  refine Rx.go (fun _ => rfl) ?_
  exact Rx.ret rfl (ev_reti rfl) ⟨rfl, rfl, rfl⟩
set_option maxRecDepth 100000 in
set_option maxHeartbeats 1000000 in
theorem rx_rank (X : ev_X) (c0 : Nat) (σ : Nat → Int32) (τ : Nat → Nat → Int32) (t : Int32) (h : tix σ t) : Rx X c0 m_Mod_rank 0 [.ref (c0 + 16), .int t] [] σ τ (fun r σ' τ' => r = some (.int (if τ 5 t.toNatClampNeg = 4 then 3 else τ 5 t.toNatClampNeg)) ∧ σ' = σ ∧ τ' = τ) := by
  refine Rx.go (fun _ => rfl) ?_
  refine Rx.get rfl rfl ?_
  refine Rx.go (fun _ => rfl) ?_
  refine Rx.ald 5 rfl rfl (tix_a h) ?_
  refine Rx.go (fun _ => rfl) ?_
  refine Rx.go (fun _ => rfl) ?_
  refine Rx.ite (fun c1 => ?_) (fun c1 => ?_)
  · replace c1 : ¬ (τ 5 t.toNatClampNeg) = 4 := of_decide_eq_true c1
    show Rx X c0 m_Mod_rank 14 [.ref (c0 + 16), .int t] [] σ τ _
    refine Rx.go (fun _ => rfl) ?_
    refine Rx.get rfl rfl ?_
    refine Rx.go (fun _ => rfl) ?_
    refine Rx.ald 5 rfl rfl (tix_a h) ?_
    exact Rx.ret rfl (ev_reti rfl) ⟨by simp [c1], rfl, rfl⟩
  · replace c1 : (τ 5 t.toNatClampNeg) = 4 := Classical.not_not.mp (of_decide_eq_false c1)
    show Rx X c0 m_Mod_rank 10 [.ref (c0 + 16), .int t] [] σ τ _
    refine Rx.go (fun _ => rfl) ?_
    refine Rx.go (fun _ => rfl) ?_
    exact Rx.ret rfl (ev_reti rfl) ⟨by simp [c1], rfl, rfl⟩
end
section
/-! The reference's table as a list of terms: (kind, written bytes, quote). -/
abbrev RT : Type := List (Nat × List Nat × Nat)
/-- where term i's bytes begin -/
def off : RT → Nat → Nat
  | _, 0 => 0
  | [], _ + 1 => 0
  | t :: ts, i + 1 => t.2.1.length + off ts i
def bys (ts : RT) (i : Nat) : List Nat := (ts.getD i (0, [], 0)).2.1
def knd (ts : RT) (i : Nat) : Nat := (ts.getD i (0, [], 0)).1
def quo (ts : RT) (i : Nat) : Nat := (ts.getD i (0, [], 0)).2.2
theorem off_succ (ts : RT) : ∀ i, i < ts.length → off ts (i + 1) = off ts i + (bys ts i).length := by
  induction ts with
  | nil => intro i h; simp at h
  | cons t ts ih =>
    intro i h
    cases i with
    | zero => simp [off, bys]
    | succ i =>
      have := ih i (by simpa using h)
      simp only [off, bys, List.getD_cons_succ] at this ⊢
      omega
theorem off_le (ts : RT) : ∀ i j, i ≤ j → j ≤ ts.length → off ts i ≤ off ts j := by
  intro i j hij hj
  induction hij with
  | refl => exact Nat.le_refl _
  | step h ih => exact Nat.le_trans (ih (by omega)) (by rw [off_succ ts _ (by omega)]; omega)
def okb (ts : RT) (i : Nat) : Prop := (∀ k, (bys ts i).getD k 0 < 256) ∧ knd ts i < 16 ∧ (bys ts i).length ≤ 260 ∧ quo ts i ≤ 260
/-- the arrays hold the list -/
def rt (σ : Nat → Int32) (τ : Nat → Nat → Int32) (ts : RT) : Prop := σ 7 = nI ts.length ∧ ts.length ≤ 2000 ∧ off ts ts.length ≤ 132000 ∧ (∀ i, i ≤ ts.length → τ 4 (i + 1) = nI (off ts i)) ∧ (∀ i, i < ts.length → τ 5 (i + 1) = nI (knd ts i) ∧ τ 6 (i + 1) = nI (quo ts i) ∧ (∀ k, k < (bys ts i).length → τ 3 (off ts i + k) = nI ((bys ts i).getD k 0)) ∧ okb ts i)
theorem nI_ix {n N : Nat} (h : n < N) (hN : N ≤ 2 ^ 31) : ¬ (nI n < 0 ∨ N ≤ (nI n).toNatClampNeg) := by
  have hn : n < 2 ^ 31 := Nat.lt_of_lt_of_le h hN
  rintro (q | q)
  · exact nI_pos hn q
  · rw [nI_clamp hn] at q; omega
theorem rt_f {σ : Nat → Int32} {τ : Nat → Nat → Int32} {ts : RT} (h : rt σ τ ts) {i : Nat} (hi : i ≤ ts.length) : τ 4 (nI (i + 1)).toNatClampNeg = nI (off ts i) := by
  rw [nI_clamp (by have := h.2.1; omega)]; exact h.2.2.2.1 i hi
theorem rt_k {σ : Nat → Int32} {τ : Nat → Nat → Int32} {ts : RT} (h : rt σ τ ts) {i : Nat} (hi : i < ts.length) : τ 5 (nI (i + 1)).toNatClampNeg = nI (knd ts i) := by
  rw [nI_clamp (by have := h.2.1; omega)]; exact (h.2.2.2.2 i hi).1
theorem rt_q {σ : Nat → Int32} {τ : Nat → Nat → Int32} {ts : RT} (h : rt σ τ ts) {i : Nat} (hi : i < ts.length) : τ 6 (nI (i + 1)).toNatClampNeg = nI (quo ts i) := by
  rw [nI_clamp (by have := h.2.1; omega)]; exact (h.2.2.2.2 i hi).2.1
theorem rt_o {σ : Nat → Int32} {τ : Nat → Nat → Int32} {ts : RT} (h : rt σ τ ts) {i : Nat} (hi : i ≤ ts.length) : off ts i ≤ 132000 := Nat.le_trans (off_le ts i _ hi (Nat.le_refl _)) h.2.2.1
theorem rt_b {σ : Nat → Int32} {τ : Nat → Nat → Int32} {ts : RT} (h : rt σ τ ts) {i k : Nat} (hi : i < ts.length) (hk : k < (bys ts i).length) : off ts i + k < 132000 ∧ τ 3 (nI (off ts i + k)).toNatClampNeg = nI ((bys ts i).getD k 0) := by
  have h1 := off_succ ts i hi
  have h2 := rt_o h (i := i + 1) hi
  refine ⟨by omega, ?_⟩
  rw [nI_clamp (by omega)]; exact (h.2.2.2.2 i hi).2.2.1 k hk
theorem rt_ok {σ : Nat → Int32} {τ : Nat → Nat → Int32} {ts : RT} (h : rt σ τ ts) {i : Nat} (hi : i < ts.length) : okb ts i := (h.2.2.2.2 i hi).2.2.2
/-- the draft holds a list of bytes -/
def drf (σ : Nat → Int32) (τ : Nat → Nat → Int32) (d : List Nat) : Prop := σ 10 = nI d.length ∧ d.length ≤ 260 ∧ (∀ k, k < d.length → τ 9 k = nI (d.getD k 0)) ∧ ∀ k, d.getD k 0 < 256
theorem drf_v {σ : Nat → Int32} {τ : Nat → Nat → Int32} {d : List Nat} (h : drf σ τ d) {k : Nat} (hk : k < d.length) : τ 9 (nI k).toNatClampNeg = nI (d.getD k 0) := by
  rw [nI_clamp (by have := h.2.1; omega)]; exact h.2.2.1 k hk
theorem getD_ext0 {l l' : List Nat} (h : l.length = l'.length) (hh : ∀ j, j < l.length → l.getD j 0 = l'.getD j 0) : l = l' := by
  refine List.ext_getElem h (fun j j1 j2 => ?_)
  have := hh j j1
  rw [List.getD_eq_getElem?_getD, List.getD_eq_getElem?_getD, List.getElem?_eq_getElem j1, List.getElem?_eq_getElem j2] at this
  exact this
end
section
/-! The reference's table methods. (rows laid by wip/whole/rx3.py) -/
theorem len_of {ts : RT} {i : Nat} (hi : i < ts.length) : nI (off ts (i + 1)) - nI (off ts i) = nI (bys ts i).length := by
  rw [off_succ ts i hi, pk_sub (by omega)]; congr 1; omega
theorem isd_s {b d : Nat → Nat} {k : Nat} (h : ∀ j, j < k → b j = d j) (e : b k = d k) : ∀ j, j < k + 1 → b j = d j := fun j hj => by
  rcases Nat.lt_or_ge j k with q | q
  · exact h j q
  · rw [show j = k by omega]; exact e
section ISD
variable {σ : Nat → Int32} {τ : Nat → Nat → Int32} {ts : RT} {i k dk : Nat} {d : List Nat} {g : Bool}
theorem isd_e (hR : rt σ τ ts) (hi : i < ts.length) (hd : drf σ τ d) (c : nI ((bys ts i).getD k 0) = nI (d.getD k 0)) : (bys ts i).getD k 0 = d.getD k 0 := (nI_eq (by have := (rt_ok hR hi).1 k; omega) (by have := hd.2.2.2 k; omega)).mp c
theorem isd_ne (hR : rt σ τ ts) (hi : i < ts.length) (hd : drf σ τ d) (c : ¬ nI ((bys ts i).getD k 0) = nI (d.getD k 0)) : bys ts i ≠ d := fun q => c (by rw [q])
theorem isd_n (h : bys ts i ≠ d) : (decide (knd ts i = dk) && decide (bys ts i = d)) = false := by simp [h]
theorem isd_k0 (h : knd ts i ≠ dk) : (decide (knd ts i = dk) && decide (bys ts i = d)) = false := by simp [h]
theorem isd_k (hR : rt σ τ ts) (hi : i < ts.length) (hdk : dk < 16) (c : nI (knd ts i) = nI dk) : knd ts i = dk := (nI_eq (by have := (rt_ok hR hi).2.1; omega) (by omega)).mp c
theorem isd_z (hR : rt σ τ ts) (hi : i < ts.length) (hd : drf σ τ d) (c : nI (bys ts i).length = nI d.length) : (bys ts i).length = d.length := (nI_eq (by have := (rt_ok hR hi).2.2.1; omega) (by have := hd.2.1; omega)).mp c
theorem isd_lt (hR : rt σ τ ts) (hi : i < ts.length) (hkn : k ≤ (bys ts i).length) (c : ¬ nI (bys ts i).length ≤ nI k) : k < (bys ts i).length := by
  have h1 := (rt_ok hR hi).2.2.1
  rw [nI_leI (by omega) (by omega)] at c
  omega
theorem isd_ge (hR : rt σ τ ts) (hi : i < ts.length) (hkn : k ≤ (bys ts i).length) (c : nI (bys ts i).length ≤ nI k) : k = (bys ts i).length := by
  have h1 := (rt_ok hR hi).2.2.1
  rw [nI_leI (by omega) (by omega)] at c
  omega
theorem isd_end (hg : g = true → knd ts i = dk ∧ (bys ts i).length = d.length ∧ ∀ j, j < k → (bys ts i).getD j 0 = d.getD j 0) (hf : g = false → (decide (knd ts i = dk) && decide (bys ts i = d)) = false) (hk : k = (bys ts i).length) : g = (decide (knd ts i = dk) && decide (bys ts i = d)) := by
  cases g with
  | false => exact (hf rfl).symm
  | true =>
    obtain ⟨h1, h2, h3⟩ := hg rfl
    have := getD_ext0 h2 (fun j hj => h3 j (by omega))
    simp [h1, this]
end ISD
theorem gd0 {l : List Nat} {j : Nat} (h : l.length ≤ j) : l.getD j 0 = 0 := by rw [List.getD_eq_getElem?_getD, List.getElem?_eq_none h]; rfl
theorem bt_lt {σ : Nat → Int32} {τ : Nat → Nat → Int32} {ts : RT} (hR : rt σ τ ts) {i j : Nat} (hi : i < ts.length) (hj : j < 2 ^ 20) (c : ¬ nI (off ts (i + 1)) ≤ nI (off ts i + j)) : j < (bys ts i).length := by
  have h1 := off_succ ts i hi
  have h2 := rt_o hR (i := i + 1) hi
  rw [nI_leI (by omega) (by omega)] at c
  omega
theorem bt_ge {σ : Nat → Int32} {τ : Nat → Nat → Int32} {ts : RT} (hR : rt σ τ ts) {i j : Nat} (hi : i < ts.length) (hj : j < 2 ^ 20) (c : nI (off ts (i + 1)) ≤ nI (off ts i + j)) : (bys ts i).length ≤ j := by
  have h1 := off_succ ts i hi
  have h2 := rt_o hR (i := i + 1) hi
  rw [nI_leI (by omega) (by omega)] at c
  omega
set_option maxRecDepth 100000 in
set_option maxHeartbeats 1000000 in
theorem rx_byteAt (X : ev_X) (c0 : Nat) (σ : Nat → Int32) (τ : Nat → Nat → Int32) {ts : RT} (hR : rt σ τ ts) {i : Nat} (hi : i < ts.length) {j : Nat} (hj : j < 2 ^ 20) : Rx X c0 m_Mod_byteAt 0 [.ref (c0 + 16), .int (nI (i + 1)), .int (nI j)] [] σ τ (fun r σ' τ' => r = some (.int (nI ((bys ts i).getD j 0))) ∧ σ' = σ ∧ τ' = τ) := by
  refine Rx.go (fun _ => rfl) ?_
  refine Rx.get rfl rfl ?_
  refine Rx.go (fun _ => rfl) ?_
  refine Rx.aldE (v := nI (off ts i)) 4 rfl rfl (nI_ix (N := 2002) (n := i + 1) (by have := hR.2.1; omega) (by decide)) (rt_f hR (i := i) (by omega)) ?_
  refine Rx.go (fun _ => rfl) ?_
  refine Rx.go (fun _ => rfl) ?_
  refine Rx.top (y := nI (off ts i + j)) (nI_add _ _) ?_
  refine Rx.go (fun _ => rfl) ?_
  refine Rx.get rfl rfl ?_
  refine Rx.go (fun _ => rfl) ?_
  refine Rx.go (fun _ => rfl) ?_
  refine Rx.go (fun _ => rfl) ?_
  refine Rx.top (y := nI (i + 1 + 1)) (nI_1 _) ?_
  refine Rx.aldE (v := nI (off ts (i + 1))) 4 rfl rfl (nI_ix (N := 2002) (n := (i + 1) + 1) (by have := hR.2.1; omega) (by decide)) (rt_f hR (i := (i + 1)) (by omega)) ?_
  refine Rx.go (fun _ => rfl) ?_
  refine Rx.ite (fun c1 => ?_) (fun c1 => ?_)
  · replace c1 : (nI (off ts (i + 1))) ≤ (nI (off ts i + j)) := of_decide_eq_true c1
    show Rx X c0 m_Mod_byteAt 35 [.ref (c0 + 16), .int (nI (i + 1)), .int (nI j)] [] σ τ _
    refine Rx.go (fun _ => rfl) ?_
    exact Rx.ret rfl (ev_reti rfl) ⟨by rw [gd0 (bt_ge hR hi hj c1)]; rfl, rfl, rfl⟩
  · replace c1 : ¬ (nI (off ts (i + 1))) ≤ (nI (off ts i + j)) := of_decide_eq_false c1
    show Rx X c0 m_Mod_byteAt 19 [.ref (c0 + 16), .int (nI (i + 1)), .int (nI j)] [] σ τ _
    refine Rx.go (fun _ => rfl) ?_
    refine Rx.get rfl rfl ?_
    refine Rx.go (fun _ => rfl) ?_
    refine Rx.get rfl rfl ?_
    refine Rx.go (fun _ => rfl) ?_
    refine Rx.aldE (v := nI (off ts i)) 4 rfl rfl (nI_ix (N := 2002) (n := i + 1) (by have := hR.2.1; omega) (by decide)) (rt_f hR (i := i) (by omega)) ?_
    refine Rx.go (fun _ => rfl) ?_
    refine Rx.go (fun _ => rfl) ?_
    refine Rx.top (y := nI (off ts i + j)) (nI_add _ _) ?_
    refine Rx.aldE (v := nI ((bys ts i).getD j 0)) 3 rfl rfl (nI_ix (rt_b hR hi (bt_lt hR hi hj c1)).1 (by decide)) (rt_b hR hi (bt_lt hR hi hj c1)).2 ?_
    refine Rx.go (fun _ => rfl) ?_
    exact Rx.ret rfl (ev_reti rfl) ⟨rfl, rfl, rfl⟩
set_option maxRecDepth 100000 in
set_option maxHeartbeats 1000000 in
theorem rx_lenOf (X : ev_X) (c0 : Nat) (σ : Nat → Int32) (τ : Nat → Nat → Int32) {ts : RT} (hR : rt σ τ ts) {i : Nat} (hi : i < ts.length) : Rx X c0 m_Mod_lengthOf 0 [.ref (c0 + 16), .int (nI (i + 1))] [] σ τ (fun r σ' τ' => r = some (.int (nI (bys ts i).length)) ∧ σ' = σ ∧ τ' = τ) := by
  refine Rx.go (fun _ => rfl) ?_
  refine Rx.get rfl rfl ?_
  refine Rx.go (fun _ => rfl) ?_
  refine Rx.go (fun _ => rfl) ?_
  refine Rx.go (fun _ => rfl) ?_
  refine Rx.top (y := nI (i + 1 + 1)) (nI_1 _) ?_
  refine Rx.aldE (v := nI (off ts (i + 1))) 4 rfl rfl (nI_ix (N := 2002) (n := (i + 1) + 1) (by have := hR.2.1; omega) (by decide)) (rt_f hR (i := (i + 1)) (by omega)) ?_
  refine Rx.go (fun _ => rfl) ?_
  refine Rx.get rfl rfl ?_
  refine Rx.go (fun _ => rfl) ?_
  refine Rx.aldE (v := nI (off ts i)) 4 rfl rfl (nI_ix (N := 2002) (n := i + 1) (by have := hR.2.1; omega) (by decide)) (rt_f hR (i := i) (by omega)) ?_
  refine Rx.go (fun _ => rfl) ?_
  refine Rx.top (y := nI (bys ts i).length) (len_of hi) ?_
  exact Rx.ret rfl (ev_reti rfl) ⟨rfl, rfl, rfl⟩
set_option maxRecDepth 100000 in
set_option maxHeartbeats 1000000 in
theorem rx_isDraft_l (X : ev_X) (c0 : Nat) (σ : Nat → Int32) (τ : Nat → Nat → Int32) {ts : RT} (hR : rt σ τ ts) {i : Nat} (hi : i < ts.length) {d : List Nat} (hd : drf σ τ d) {dk : Nat} (hk : σ 11 = nI dk) (hdk : dk < 16) : ∀ (m : Nat) (k : Nat) (g : Bool) (hkn : k ≤ (bys ts i).length) (hm : (bys ts i).length + 1 ≤ k + m) (hg : g = true → knd ts i = dk ∧ (bys ts i).length = d.length ∧ ∀ j, j < k → (bys ts i).getD j 0 = d.getD j 0) (hf : g = false → (decide (knd ts i = dk) && decide (bys ts i = d)) = false), Rx X c0 m_Mod_isDraft 46 [.ref (c0 + 16), .int (nI (i + 1)), .int (nI (bys ts i).length), .int (bi g), .int (nI k)] [] σ τ (fun r σ' τ' => r = some (.int (bi (decide (knd ts i = dk) && decide (bys ts i = d)))) ∧ σ' = σ ∧ τ' = τ) := by
  intro m
  induction m with
  | zero => intro k g hkn hm hg hf; exact absurd hm (by omega)
  | succ m ih =>
    intro k g hkn hm hg hf
    refine Rx.go (fun _ => rfl) ?_
    refine Rx.go (fun _ => rfl) ?_
    refine Rx.go (fun _ => rfl) ?_
    refine Rx.ite (fun c1 => ?_) (fun c1 => ?_)
    · replace c1 : (nI (bys ts i).length) ≤ (nI k) := of_decide_eq_true c1
      show Rx X c0 m_Mod_isDraft 92 [.ref (c0 + 16), .int (nI (i + 1)), .int (nI (bys ts i).length), .int (bi g), .int (nI k)] [] σ τ _
      refine Rx.go (fun _ => rfl) ?_
      exact Rx.ret rfl (bi_ret rfl) ⟨by rw [isd_end hg hf (isd_ge hR hi hkn c1)], rfl, rfl⟩
    · replace c1 : ¬ (nI (bys ts i).length) ≤ (nI k) := of_decide_eq_false c1
      have hlt := isd_lt hR hi hkn c1
      show Rx X c0 m_Mod_isDraft 52 [.ref (c0 + 16), .int (nI (i + 1)), .int (nI (bys ts i).length), .int (bi g), .int (nI k)] [] σ τ _
      refine Rx.go (fun _ => rfl) ?_
      refine Rx.go (fun _ => rfl) ?_
      refine Rx.ite (fun c2 => ?_) (fun c2 => ?_)
      · replace c2 : g = false := bi_eqt c2
        show Rx X c0 m_Mod_isDraft 92 [.ref (c0 + 16), .int (nI (i + 1)), .int (nI (bys ts i).length), .int (bi g), .int (nI k)] [] σ τ _
        refine Rx.go (fun _ => rfl) ?_
        exact Rx.ret rfl (bi_ret rfl) ⟨by rw [hf c2, c2], rfl, rfl⟩
      · replace c2 : g = true := bi_eqf c2
        show Rx X c0 m_Mod_isDraft 56 [.ref (c0 + 16), .int (nI (i + 1)), .int (nI (bys ts i).length), .int (bi g), .int (nI k)] [] σ τ _
        refine Rx.go (fun _ => rfl) ?_
        refine Rx.get rfl rfl ?_
        refine Rx.go (fun _ => rfl) ?_
        refine Rx.get rfl rfl ?_
        refine Rx.go (fun _ => rfl) ?_
        refine Rx.aldE (v := nI (off ts i)) 4 rfl rfl (nI_ix (N := 2002) (n := i + 1) (by have := hR.2.1; omega) (by decide)) (rt_f hR (i := i) (by omega)) ?_
        refine Rx.go (fun _ => rfl) ?_
        refine Rx.go (fun _ => rfl) ?_
        refine Rx.top (y := nI (off ts i + k)) (nI_add _ _) ?_
        refine Rx.aldE (v := nI ((bys ts i).getD k 0)) 3 rfl rfl (nI_ix (rt_b hR hi hlt).1 (by decide)) (rt_b hR hi hlt).2 ?_
        refine Rx.go (fun _ => rfl) ?_
        refine Rx.get rfl rfl ?_
        refine Rx.go (fun _ => rfl) ?_
        refine Rx.aldE (v := nI (d.getD k 0)) 9 rfl rfl (nI_ix (N := 260) (n := k) (by have := hd.2.1; have := (hg c2).2.1; omega) (by decide)) (drf_v hd (by have := (hg c2).2.1; omega)) ?_
        refine Rx.go (fun _ => rfl) ?_
        refine Rx.ite (fun c3 => ?_) (fun c3 => ?_)
        · replace c3 : ¬ (nI ((bys ts i).getD k 0)) = (nI (d.getD k 0)) := of_decide_eq_true c3
          show Rx X c0 m_Mod_isDraft 84 [.ref (c0 + 16), .int (nI (i + 1)), .int (nI (bys ts i).length), .int (bi g), .int (nI k)] [] σ τ _
          refine Rx.go (fun _ => rfl) ?_
          refine Rx.go (fun _ => rfl) ?_
          show Rx X c0 m_Mod_isDraft 86 [.ref (c0 + 16), .int (nI (i + 1)), .int (nI (bys ts i).length), .int 0, .int (nI k)] [] σ τ _
          refine Rx.go (fun _ => rfl) ?_
          show Rx X c0 m_Mod_isDraft 89 [.ref (c0 + 16), .int (nI (i + 1)), .int (nI (bys ts i).length), .int 0, .int ((nI k) + 1)] [] σ τ _
          refine Rx.go (fun _ => rfl) ?_
          show Rx X c0 m_Mod_isDraft 46 [.ref (c0 + 16), .int (nI (i + 1)), .int (nI (bys ts i).length), .int 0, .int ((nI k) + 1)] [] σ τ _
          rw [nI_1 k]
          exact ih (k + 1) false (by omega) (by omega) (fun q => by cases q) (fun _ => isd_n (isd_ne hR hi hd c3))
        · replace c3 : (nI ((bys ts i).getD k 0)) = (nI (d.getD k 0)) := Classical.not_not.mp (of_decide_eq_false c3)
          show Rx X c0 m_Mod_isDraft 80 [.ref (c0 + 16), .int (nI (i + 1)), .int (nI (bys ts i).length), .int (bi g), .int (nI k)] [] σ τ _
          refine Rx.go (fun _ => rfl) ?_
          refine Rx.go (fun _ => rfl) ?_
          refine Rx.go (fun _ => rfl) ?_
          show Rx X c0 m_Mod_isDraft 86 [.ref (c0 + 16), .int (nI (i + 1)), .int (nI (bys ts i).length), .int 1, .int (nI k)] [] σ τ _
          refine Rx.go (fun _ => rfl) ?_
          show Rx X c0 m_Mod_isDraft 89 [.ref (c0 + 16), .int (nI (i + 1)), .int (nI (bys ts i).length), .int 1, .int ((nI k) + 1)] [] σ τ _
          refine Rx.go (fun _ => rfl) ?_
          show Rx X c0 m_Mod_isDraft 46 [.ref (c0 + 16), .int (nI (i + 1)), .int (nI (bys ts i).length), .int 1, .int ((nI k) + 1)] [] σ τ _
          rw [nI_1 k]
          exact ih (k + 1) true (by omega) (by omega) (fun _ => ⟨(hg c2).1, (hg c2).2.1, isd_s (hg c2).2.2 (isd_e hR hi hd c3)⟩) (fun q => by cases q)
set_option maxRecDepth 100000 in
set_option maxHeartbeats 1000000 in
theorem rx_isDraft (X : ev_X) (c0 : Nat) (σ : Nat → Int32) (τ : Nat → Nat → Int32) {ts : RT} (hR : rt σ τ ts) {i : Nat} (hi : i < ts.length) {d : List Nat} (hd : drf σ τ d) {dk : Nat} (hk : σ 11 = nI dk) (hdk : dk < 16) : Rx X c0 m_Mod_isDraft 0 [.ref (c0 + 16), .int (nI (i + 1)), ev_dead, ev_dead, ev_dead] [] σ τ (fun r σ' τ' => r = some (.int (bi (decide (knd ts i = dk) && decide (bys ts i = d)))) ∧ σ' = σ ∧ τ' = τ) := by
  refine Rx.go (fun _ => rfl) ?_
  refine Rx.get rfl rfl ?_
  refine Rx.go (fun _ => rfl) ?_
  refine Rx.go (fun _ => rfl) ?_
  refine Rx.go (fun _ => rfl) ?_
  refine Rx.top (y := nI (i + 1 + 1)) (nI_1 _) ?_
  refine Rx.aldE (v := nI (off ts (i + 1))) 4 rfl rfl (nI_ix (N := 2002) (n := (i + 1) + 1) (by have := hR.2.1; omega) (by decide)) (rt_f hR (i := (i + 1)) (by omega)) ?_
  refine Rx.go (fun _ => rfl) ?_
  refine Rx.get rfl rfl ?_
  refine Rx.go (fun _ => rfl) ?_
  refine Rx.aldE (v := nI (off ts i)) 4 rfl rfl (nI_ix (N := 2002) (n := i + 1) (by have := hR.2.1; omega) (by decide)) (rt_f hR (i := i) (by omega)) ?_
  refine Rx.go (fun _ => rfl) ?_
  refine Rx.top (y := nI (bys ts i).length) (len_of hi) ?_
  refine Rx.go (fun _ => rfl) ?_
  show Rx X c0 m_Mod_isDraft 16 [.ref (c0 + 16), .int (nI (i + 1)), .int (nI (bys ts i).length), ev_dead, ev_dead] [] σ τ _
  refine Rx.go (fun _ => rfl) ?_
  refine Rx.get rfl rfl ?_
  refine Rx.go (fun _ => rfl) ?_
  refine Rx.aldE (v := nI (knd ts i)) 5 rfl rfl (nI_ix (N := 2002) (n := i + 1) (by have := hR.2.1; omega) (by decide)) (rt_k hR hi) ?_
  refine Rx.go (fun _ => rfl) ?_
  refine Rx.get rfl rfl ?_
  refine Rx.go (fun _ => rfl) ?_
  refine Rx.ite (fun c1 => ?_) (fun c1 => ?_)
  · replace c1 : ¬ (nI (knd ts i)) = (σ 11) := of_decide_eq_true c1
    show Rx X c0 m_Mod_isDraft 41 [.ref (c0 + 16), .int (nI (i + 1)), .int (nI (bys ts i).length), ev_dead, ev_dead] [] σ τ _
    refine Rx.go (fun _ => rfl) ?_
    refine Rx.go (fun _ => rfl) ?_
    show Rx X c0 m_Mod_isDraft 43 [.ref (c0 + 16), .int (nI (i + 1)), .int (nI (bys ts i).length), .int 0, ev_dead] [] σ τ _
    refine Rx.go (fun _ => rfl) ?_
    refine Rx.go (fun _ => rfl) ?_
    show Rx X c0 m_Mod_isDraft 46 [.ref (c0 + 16), .int (nI (i + 1)), .int (nI (bys ts i).length), .int 0, .int 0] [] σ τ _
    show Rx X c0 m_Mod_isDraft 46 [.ref (c0 + 16), .int (nI (i + 1)), .int (nI (bys ts i).length), .int 0, .int 0] [] σ τ _
    exact rx_isDraft_l X c0 σ τ hR hi hd hk hdk ((bys ts i).length + 1) 0 false (Nat.zero_le _) (by omega) (fun q => by cases q) (fun _ => isd_k0 (fun q => c1 (by rw [q, hk])))
  · replace c1 : (nI (knd ts i)) = (σ 11) := Classical.not_not.mp (of_decide_eq_false c1)
    show Rx X c0 m_Mod_isDraft 29 [.ref (c0 + 16), .int (nI (i + 1)), .int (nI (bys ts i).length), ev_dead, ev_dead] [] σ τ _
    refine Rx.go (fun _ => rfl) ?_
    refine Rx.go (fun _ => rfl) ?_
    refine Rx.get rfl rfl ?_
    refine Rx.go (fun _ => rfl) ?_
    refine Rx.ite (fun c2 => ?_) (fun c2 => ?_)
    · replace c2 : ¬ (nI (bys ts i).length) = (σ 10) := of_decide_eq_true c2
      show Rx X c0 m_Mod_isDraft 41 [.ref (c0 + 16), .int (nI (i + 1)), .int (nI (bys ts i).length), ev_dead, ev_dead] [] σ τ _
      refine Rx.go (fun _ => rfl) ?_
      refine Rx.go (fun _ => rfl) ?_
      show Rx X c0 m_Mod_isDraft 43 [.ref (c0 + 16), .int (nI (i + 1)), .int (nI (bys ts i).length), .int 0, ev_dead] [] σ τ _
      refine Rx.go (fun _ => rfl) ?_
      refine Rx.go (fun _ => rfl) ?_
      show Rx X c0 m_Mod_isDraft 46 [.ref (c0 + 16), .int (nI (i + 1)), .int (nI (bys ts i).length), .int 0, .int 0] [] σ τ _
      show Rx X c0 m_Mod_isDraft 46 [.ref (c0 + 16), .int (nI (i + 1)), .int (nI (bys ts i).length), .int 0, .int 0] [] σ τ _
      exact rx_isDraft_l X c0 σ τ hR hi hd hk hdk ((bys ts i).length + 1) 0 false (Nat.zero_le _) (by omega) (fun q => by cases q) (fun _ => isd_n (fun q => c2 (by rw [q, hd.1])))
    · replace c2 : (nI (bys ts i).length) = (σ 10) := Classical.not_not.mp (of_decide_eq_false c2)
      show Rx X c0 m_Mod_isDraft 37 [.ref (c0 + 16), .int (nI (i + 1)), .int (nI (bys ts i).length), ev_dead, ev_dead] [] σ τ _
      refine Rx.go (fun _ => rfl) ?_
      refine Rx.go (fun _ => rfl) ?_
      refine Rx.go (fun _ => rfl) ?_
      show Rx X c0 m_Mod_isDraft 43 [.ref (c0 + 16), .int (nI (i + 1)), .int (nI (bys ts i).length), .int 1, ev_dead] [] σ τ _
      refine Rx.go (fun _ => rfl) ?_
      refine Rx.go (fun _ => rfl) ?_
      show Rx X c0 m_Mod_isDraft 46 [.ref (c0 + 16), .int (nI (i + 1)), .int (nI (bys ts i).length), .int 1, .int 0] [] σ τ _
      show Rx X c0 m_Mod_isDraft 46 [.ref (c0 + 16), .int (nI (i + 1)), .int (nI (bys ts i).length), .int 1, .int 0] [] σ τ _
      exact rx_isDraft_l X c0 σ τ hR hi hd hk hdk ((bys ts i).length + 1) 0 true (Nat.zero_le _) (by omega) (fun _ => ⟨isd_k hR hi hdk (c1.trans hk), isd_z hR hi hd (c2.trans hd.1), fun j q => absurd q (by omega)⟩) (fun q => by cases q)
def isP (ts : RT) (dk : Nat) (d : List Nat) (i : Nat) : Prop := knd ts i = dk ∧ bys ts i = d
/-- the place, from 1, of the first term that is (dk, d); 0: none -/
def fdP (ts : RT) (dk : Nat) (d : List Nat) (j : Nat) : Prop := (0 < j ∧ j ≤ ts.length ∧ isP ts dk d (j - 1)) ∧ (∀ i, i < j - 1 → ¬ isP ts dk d i) ∨ j = 0 ∧ ∀ i, i < ts.length → ¬ isP ts dk d i
theorem isP_t {ts : RT} {dk i : Nat} {d : List Nat} (h : (decide (knd ts i = dk) && decide (bys ts i = d)) = true) : isP ts dk d i := by simpa [isP] using h
theorem isP_f {ts : RT} {dk i : Nat} {d : List Nat} (h : (decide (knd ts i = dk) && decide (bys ts i = d)) = false) : ¬ isP ts dk d i := by
  intro q; rw [q.1, q.2] at h; simp at h
theorem isP_s {ts : RT} {dk i : Nat} {d : List Nat} (h : ∀ j, j < i → ¬ isP ts dk d j) (e : ¬ isP ts dk d i) : ∀ j, j < i + 1 → ¬ isP ts dk d j := fun j hj => by
  rcases Nat.lt_or_ge j i with q | q
  · exact h j q
  · rw [show j = i by omega]; exact e
theorem fd_gt {σ : Nat → Int32} {τ : Nat → Nat → Int32} {ts : RT} (hR : rt σ τ ts) {i : Nat} (hi : i ≤ ts.length) (c : σ 7 < nI (i + 1)) : i = ts.length := by
  rw [hR.1, nI_ltI (by have := hR.2.1; omega) (by have := hR.2.1; omega)] at c; omega
theorem fd_le {σ : Nat → Int32} {τ : Nat → Nat → Int32} {ts : RT} (hR : rt σ τ ts) {i : Nat} (hi : i ≤ ts.length) (c : ¬ σ 7 < nI (i + 1)) : i < ts.length := by
  rw [hR.1, nI_ltI (by have := hR.2.1; omega) (by have := hR.2.1; omega)] at c; omega
set_option maxRecDepth 100000 in
set_option maxHeartbeats 1000000 in
theorem rx_findDraft_l (X : ev_X) (c0 : Nat) (σ : Nat → Int32) (τ : Nat → Nat → Int32) {ts : RT} (hR : rt σ τ ts) {d : List Nat} (hd : drf σ τ d) {dk : Nat} (hk : σ 11 = nI dk) (hdk : dk < 16) : ∀ (m : Nat) (i : Nat) (hi : i ≤ ts.length) (hm : ts.length + 1 ≤ i + m) (hn : ∀ j, j < i → ¬ isP ts dk d j), Rx X c0 m_Mod_findDraft 2 [.ref (c0 + 16), .int (nI (i + 1))] [] σ τ (fun r σ' τ' => ∃ j : Nat, fdP ts dk d j ∧ r = some (.int (nI j)) ∧ σ' = σ ∧ τ' = τ) := by
  intro m
  induction m with
  | zero => intro i hi hm hn; exact absurd hm (by omega)
  | succ m ih =>
    intro i hi hm hn
    refine Rx.go (fun _ => rfl) ?_
    refine Rx.go (fun _ => rfl) ?_
    refine Rx.get rfl rfl ?_
    refine Rx.go (fun _ => rfl) ?_
    refine Rx.ite (fun c1 => ?_) (fun c1 => ?_)
    · replace c1 : (σ 7) < (nI (i + 1)) := of_decide_eq_true c1
      show Rx X c0 m_Mod_findDraft 24 [.ref (c0 + 16), .int (nI (i + 1))] [] σ τ _
      refine Rx.go (fun _ => rfl) ?_
      refine Rx.go (fun _ => rfl) ?_
      refine Rx.get rfl rfl ?_
      refine Rx.go (fun _ => rfl) ?_
      refine Rx.ite (fun c2 => ?_) (fun c2 => ?_)
      · replace c2 : (σ 7) < (nI (i + 1)) := of_decide_eq_true c2
        show Rx X c0 m_Mod_findDraft 36 [.ref (c0 + 16), .int (nI (i + 1))] [] σ τ _
        refine Rx.go (fun _ => rfl) ?_
        exact Rx.ret rfl (ev_reti rfl) ⟨0, Or.inr ⟨rfl, fun j hj => hn j (by have := fd_gt hR hi c1; omega)⟩, rfl, rfl, rfl⟩
      · replace c2 : ¬ (σ 7) < (nI (i + 1)) := of_decide_eq_false c2
        show Rx X c0 m_Mod_findDraft 32 [.ref (c0 + 16), .int (nI (i + 1))] [] σ τ _
        refine Rx.go (fun _ => rfl) ?_
        refine Rx.go (fun _ => rfl) ?_
        exact absurd c1 c2
    · replace c1 : ¬ (σ 7) < (nI (i + 1)) := of_decide_eq_false c1
      have hlt := fd_le hR hi c1
      show Rx X c0 m_Mod_findDraft 10 [.ref (c0 + 16), .int (nI (i + 1))] [] σ τ _
      refine Rx.go (fun _ => rfl) ?_
      refine Rx.go (fun _ => rfl) ?_
      refine Rx.callE rfl rfl rfl rfl (rx_isDraft X c0 _ _ hR hlt hd hk hdk) ?_
      show Rx X c0 m_Mod_findDraft 15 [.ref (c0 + 16), .int (nI (i + 1))] [.int (bi (decide (knd ts i = dk) && decide (bys ts i = d)))] σ τ _
      refine Rx.go (fun _ => rfl) ?_
      refine Rx.ite (fun c3 => ?_) (fun c3 => ?_)
      · replace c3 : (decide (knd ts i = dk) && decide (bys ts i = d)) = true := bi_net c3
        show Rx X c0 m_Mod_findDraft 24 [.ref (c0 + 16), .int (nI (i + 1))] [] σ τ _
        refine Rx.go (fun _ => rfl) ?_
        refine Rx.go (fun _ => rfl) ?_
        refine Rx.get rfl rfl ?_
        refine Rx.go (fun _ => rfl) ?_
        refine Rx.ite (fun c4 => ?_) (fun c4 => ?_)
        · replace c4 : (σ 7) < (nI (i + 1)) := of_decide_eq_true c4
          show Rx X c0 m_Mod_findDraft 36 [.ref (c0 + 16), .int (nI (i + 1))] [] σ τ _
          refine Rx.go (fun _ => rfl) ?_
          exact absurd c4 (by rw [hR.1]; exact nI_nlt (by omega) (by have := hR.2.1; omega))
        · replace c4 : ¬ (σ 7) < (nI (i + 1)) := of_decide_eq_false c4
          show Rx X c0 m_Mod_findDraft 32 [.ref (c0 + 16), .int (nI (i + 1))] [] σ τ _
          refine Rx.go (fun _ => rfl) ?_
          refine Rx.go (fun _ => rfl) ?_
          exact Rx.ret rfl (ev_reti rfl) ⟨i + 1, Or.inl ⟨⟨by omega, by omega, isP_t c3⟩, fun j hj => hn j (by omega)⟩, rfl, rfl, rfl⟩
      · replace c3 : (decide (knd ts i = dk) && decide (bys ts i = d)) = false := bi_nef c3
        show Rx X c0 m_Mod_findDraft 18 [.ref (c0 + 16), .int (nI (i + 1))] [] σ τ _
        refine Rx.go (fun _ => rfl) ?_
        show Rx X c0 m_Mod_findDraft 21 [.ref (c0 + 16), .int ((nI (i + 1)) + 1)] [] σ τ _
        refine Rx.go (fun _ => rfl) ?_
        show Rx X c0 m_Mod_findDraft 2 [.ref (c0 + 16), .int ((nI (i + 1)) + 1)] [] σ τ _
        rw [nI_1 (i + 1)]
        exact ih (i + 1) hlt (by omega) (isP_s hn (isP_f c3))
set_option maxRecDepth 100000 in
set_option maxHeartbeats 1000000 in
theorem rx_findDraft (X : ev_X) (c0 : Nat) (σ : Nat → Int32) (τ : Nat → Nat → Int32) {ts : RT} (hR : rt σ τ ts) {d : List Nat} (hd : drf σ τ d) {dk : Nat} (hk : σ 11 = nI dk) (hdk : dk < 16) : Rx X c0 m_Mod_findDraft 0 [.ref (c0 + 16), ev_dead] [] σ τ (fun r σ' τ' => ∃ j : Nat, fdP ts dk d j ∧ r = some (.int (nI j)) ∧ σ' = σ ∧ τ' = τ) := by
  refine Rx.go (fun _ => rfl) ?_
  refine Rx.go (fun _ => rfl) ?_
  show Rx X c0 m_Mod_findDraft 2 [.ref (c0 + 16), .int 1] [] σ τ _
  show Rx X c0 m_Mod_findDraft 2 [.ref (c0 + 16), .int 1] [] σ τ _
  exact rx_findDraft_l X c0 σ τ hR hd hk hdk (ts.length + 1) 0 (Nat.zero_le _) (by omega) (fun j q => absurd q (by omega))
end
section
/-! makeDraft of the reference. (rows laid by wip/whole/rx4.py) -/
theorem off_app (ts : RT) (t : Nat × List Nat × Nat) : ∀ i, i ≤ ts.length → off (ts ++ [t]) i = off ts i := by
  induction ts with
  | nil => intro i h; rw [show i = 0 by simpa using h]; rfl
  | cons a l ih =>
    intro i h
    cases i with
    | zero => rfl
    | succ i => simp only [List.cons_append, off]; rw [ih i (by simpa using h)]
theorem getD_app {ts : RT} {t z : Nat × List Nat × Nat} {i : Nat} (h : i < ts.length) : (ts ++ [t]).getD i z = ts.getD i z := by
  rw [List.getD_eq_getElem?_getD, List.getD_eq_getElem?_getD, List.getElem?_append_left h]
theorem getD_last {ts : RT} {t z : Nat × List Nat × Nat} : (ts ++ [t]).getD ts.length z = t := by
  rw [List.getD_eq_getElem?_getD, List.getElem?_append_right (Nat.le_refl _), Nat.sub_self]; rfl
theorem bys_app {ts : RT} {t : Nat × List Nat × Nat} {i : Nat} (h : i < ts.length) : bys (ts ++ [t]) i = bys ts i := by unfold bys; rw [getD_app h]
theorem knd_app {ts : RT} {t : Nat × List Nat × Nat} {i : Nat} (h : i < ts.length) : knd (ts ++ [t]) i = knd ts i := by unfold knd; rw [getD_app h]
theorem quo_app {ts : RT} {t : Nat × List Nat × Nat} {i : Nat} (h : i < ts.length) : quo (ts ++ [t]) i = quo ts i := by unfold quo; rw [getD_app h]
theorem rt_app {σ σ' : Nat → Int32} {τ τ' : Nat → Nat → Int32} {ts : RT} {dk q : Nat} {d : List Nat} (hR : rt σ τ ts) (hdl : d.length ≤ 260) (hdb : ∀ k, d.getD k 0 < 256) (hdk : dk < 16) (hq : q ≤ 260) (hroom : off ts ts.length + d.length ≤ 132000) (hl : ts.length < 2000) (h7 : σ' 7 = nI (ts.length + 1))
    (h5 : τ' 5 = upd (τ 5) (ts.length + 1) (nI dk)) (h6 : τ' 6 = upd (τ 6) (ts.length + 1) (nI q)) (h4 : τ' 4 = upd (τ 4) (ts.length + 1 + 1) (nI (off ts ts.length + d.length))) (h3a : ∀ x, x < off ts ts.length → τ' 3 x = τ 3 x) (h3b : ∀ j, j < d.length → τ' 3 (off ts ts.length + j) = nI (d.getD j 0)) : rt σ' τ' (ts ++ [(dk, d, q)]) := by
  have hlen : (ts ++ [(dk, d, q)]).length = ts.length + 1 := by simp
  have hlast : (ts ++ [(dk, d, q)]).getD ts.length (0, [], 0) = (dk, d, q) := getD_last
  have hoff : off (ts ++ [(dk, d, q)]) (ts.length + 1) = off ts ts.length + d.length := by
    rw [off_succ _ _ (by omega), off_app _ _ _ (Nat.le_refl _)]; unfold bys; rw [hlast]
  refine ⟨by rw [hlen]; exact h7, by omega, by rw [hlen, hoff]; exact hroom, fun i hi => ?_, fun i hi => ?_⟩
  · rw [h4]
    rcases Nat.lt_or_ge ts.length i with q1 | q1
    · rw [show i = ts.length + 1 by omega, pk_us, hoff]
    · rw [pk_un (by omega), off_app _ _ _ q1]; exact hR.2.2.2.1 i q1
  · rw [hlen] at hi
    rcases Nat.lt_or_ge i ts.length with q1 | q1
    · obtain ⟨g1, g2, g3, g4⟩ := hR.2.2.2.2 i q1
      refine ⟨by rw [h5, pk_un (by omega), knd_app q1]; exact g1, by rw [h6, pk_un (by omega), quo_app q1]; exact g2, fun k hk => ?_, ?_⟩
      · rw [bys_app q1] at hk ⊢
        rw [off_app _ _ _ (by omega), h3a _ (by have := off_succ ts i q1; have := off_le ts (i + 1) ts.length (by omega) (Nat.le_refl _); omega)]
        exact g3 k hk
      · unfold okb; rw [bys_app q1, knd_app q1, quo_app q1]; exact g4
    · rw [show i = ts.length by omega]
      unfold okb bys knd quo
      rw [hlast]
      refine ⟨by rw [h5, pk_us], by rw [h6, pk_us], fun k hk => ?_, hdb, hdk, hdl, hq⟩
      rw [off_app _ _ _ (Nat.le_refl _)]; exact h3b k hk
theorem md_step {τ τ1 : Nat → Nat → Int32} {o k : Nat} {d : List Nat} (hk : k < d.length) (ho : o + d.length ≤ 132000) (he : ∀ kk, kk ≠ 3 → τ1 kk = τ kk) (hx : ∀ x, x < o → τ1 3 x = τ 3 x) (hj : ∀ j, j < k → τ1 3 (o + j) = nI (d.getD j 0)) :
    (∀ kk, kk ≠ 3 → va_up τ1 3 (upd (τ1 3) (nI (o + k)).toNatClampNeg (nI (d.getD k 0))) kk = τ kk) ∧ (∀ x, x < o → va_up τ1 3 (upd (τ1 3) (nI (o + k)).toNatClampNeg (nI (d.getD k 0))) 3 x = τ 3 x) ∧ ∀ j, j < k + 1 → va_up τ1 3 (upd (τ1 3) (nI (o + k)).toNatClampNeg (nI (d.getD k 0))) 3 (o + j) = nI (d.getD j 0) := by
  rw [nI_clamp (by omega)]
  refine ⟨fun kk hkk => by rw [va_up_ne _ _ hkk]; exact he kk hkk, fun x h => by rw [va_up_self, pk_un (by omega)]; exact hx x h, fun j h => ?_⟩
  rw [va_up_self]
  rcases Nat.lt_or_ge j k with q | q
  · rw [pk_un (by omega)]; exact hj j q
  · rw [show j = k by omega, pk_us]
theorem md_ge {k : Nat} {d : List Nat} (hdl : d.length ≤ 260) (hk : k ≤ d.length) (c : nI d.length ≤ nI k) : k = d.length := by
  rw [nI_leI (by omega) (by omega)] at c; omega
theorem md_lt {k : Nat} {d : List Nat} (hdl : d.length ≤ 260) (hk : k ≤ d.length) (c : ¬ nI d.length ≤ nI k) : k < d.length := by
  rw [nI_leI (by omega) (by omega)] at c; omega
set_option maxRecDepth 100000 in
set_option maxHeartbeats 1000000 in
theorem rx_makeDraft_l (X : ev_X) (c0 : Nat) (σ : Nat → Int32) (τ : Nat → Nat → Int32) {n o : Nat} {d : List Nat} (z : Int32) (h7 : σ 7 = nI (n + 1)) (h10 : σ 10 = nI d.length) (hdl : d.length ≤ 260) (hn : n < 2000) (ho : o + d.length ≤ 132000) (h4 : τ 4 (n + 1) = nI o) (h9 : ∀ k, k < d.length → τ 9 k = nI (d.getD k 0)) : ∀ (m : Nat) (k : Nat) (τ1 : Nat → Nat → Int32) (hk : k ≤ d.length) (hm : d.length + 1 ≤ k + m) (he : ∀ kk, kk ≠ 3 → τ1 kk = τ kk) (hx : ∀ x, x < o → τ1 3 x = τ 3 x) (hj : ∀ j, j < k → τ1 3 (o + j) = nI (d.getD j 0)), Rx X c0 m_Mod_makeDraft 101 [.ref (c0 + 16), .int z, .int (nI k)] [] σ τ1 (fun r σ' τ' => r = some (.int (nI (n + 1))) ∧ σ' = upd σ 8 (σ 8 + σ 13) ∧ (∀ kk, kk ≠ 3 → τ' kk = τ kk) ∧ (∀ x, x < o → τ' 3 x = τ 3 x) ∧ ∀ j, j < d.length → τ' 3 (o + j) = nI (d.getD j 0)) := by
  intro m
  induction m with
  | zero => intro k τ1 hk hm he hx hj; exact absurd hm (by omega)
  | succ m ih =>
    intro k τ1 hk hm he hx hj
    refine Rx.go (fun _ => rfl) ?_
    refine Rx.go (fun _ => rfl) ?_
    refine Rx.get rfl rfl ?_
    refine Rx.top (y := nI d.length) h10 ?_
    refine Rx.go (fun _ => rfl) ?_
    refine Rx.ite (fun c1 => ?_) (fun c1 => ?_)
    · replace c1 : (nI d.length) ≤ (nI k) := of_decide_eq_true c1
      show Rx X c0 m_Mod_makeDraft 137 [.ref (c0 + 16), .int z, .int (nI k)] [] σ τ1 _
      refine Rx.go (fun _ => rfl) ?_
      refine Rx.go (fun _ => rfl) ?_
      refine Rx.get rfl rfl ?_
      refine Rx.go (fun _ => rfl) ?_
      refine Rx.get rfl rfl ?_
      refine Rx.go (fun _ => rfl) ?_
      refine Rx.put rfl (by decide) rfl rfl ?_
      refine Rx.go (fun _ => rfl) ?_
      refine Rx.get rfl rfl ?_
      exact Rx.ret rfl (ev_reti rfl) ⟨congrArg (fun x => some (Value.int x)) h7, rfl, he, hx, by rw [← md_ge hdl hk c1]; exact hj⟩
    · replace c1 : ¬ (nI d.length) ≤ (nI k) := of_decide_eq_false c1
      have hlt := md_lt hdl hk c1
      show Rx X c0 m_Mod_makeDraft 109 [.ref (c0 + 16), .int z, .int (nI k)] [] σ τ1 _
      refine Rx.go (fun _ => rfl) ?_
      refine Rx.get rfl rfl ?_
      refine Rx.go (fun _ => rfl) ?_
      refine Rx.get rfl rfl ?_
      refine Rx.go (fun _ => rfl) ?_
      refine Rx.get rfl rfl ?_
      refine Rx.top (y := nI (n + 1)) h7 ?_
      refine Rx.aldE (v := nI o) 4 rfl rfl (nI_ix (N := 2002) (n := n + 1) (by omega) (by decide)) (by rw [he 4 (by decide), nI_clamp (by omega)]; exact h4) ?_
      refine Rx.go (fun _ => rfl) ?_
      refine Rx.go (fun _ => rfl) ?_
      refine Rx.top (y := nI (o + k)) (nI_add _ _) ?_
      refine Rx.go (fun _ => rfl) ?_
      refine Rx.get rfl rfl ?_
      refine Rx.go (fun _ => rfl) ?_
      refine Rx.aldE (v := nI (d.getD k 0)) 9 rfl rfl (nI_ix (N := 260) (n := k) (by omega) (by decide)) (by rw [he 9 (by decide), nI_clamp (by omega)]; exact h9 k hlt) ?_
      refine Rx.ast 3 rfl rfl (nI_ix (N := 132000) (n := o + k) (by omega) (by decide)) ?_
      refine Rx.go (fun _ => rfl) ?_
      show Rx X c0 m_Mod_makeDraft 134 [.ref (c0 + 16), .int z, .int ((nI k) + 1)] [] σ (va_up τ1 3 (upd (τ1 3) (nI (o + k)).toNatClampNeg (nI (d.getD k 0)))) _
      refine Rx.go (fun _ => rfl) ?_
      show Rx X c0 m_Mod_makeDraft 101 [.ref (c0 + 16), .int z, .int ((nI k) + 1)] [] σ (va_up τ1 3 (upd (τ1 3) (nI (o + k)).toNatClampNeg (nI (d.getD k 0)))) _
      rw [nI_1 k]
      obtain ⟨g1, g2, g3⟩ := md_step hlt ho he hx hj
      exact ih (k + 1) _ hlt (by omega) g1 g2 g3
section MD
variable {σ : Nat → Int32} {τ : Nat → Nat → Int32} {ts : RT} {dk j u db : Nat} {d : List Nat}
theorem md_pos (c : ¬ nI j ≤ 0) : 0 < j := by
  rcases Nat.eq_zero_or_pos j with q | q
  · subst q; exact absurd (by rw [nI_0]; exact Int32.le_refl _) c
  · exact q
theorem md_0 (hR : rt σ τ ts) (hj : fdP ts dk d j) (c : nI j ≤ 0) : j = 0 := by
  rcases hj with ⟨⟨h1, h2, -⟩, -⟩ | ⟨h, -⟩
  · exact absurd c (nI_nle h1 (by have := hR.2.1; omega))
  · exact h
theorem md_2000 (hR : rt σ τ ts) (c : σ 7 = 2000) : ts.length = 2000 := (nI_eq (by have := hR.2.1; omega) (by decide)).mp (hR.1.symm.trans c)
theorem md_n2 (hR : rt σ τ ts) (c : ¬ σ 7 = 2000) : ts.length < 2000 := by
  have h1 := hR.2.1
  rcases Nat.lt_or_ge ts.length 2000 with q | q
  · exact q
  · exact absurd (by rw [hR.1, show ts.length = 2000 by omega]; rfl) c
theorem md_big (hu : u ≤ 40000) (hdb : db ≤ 1000) (c : ¬ nI (u + db) ≤ 40000) : 40000 < u + db := by
  rw [show (40000 : Int32) = nI 40000 from rfl, nI_leI (by omega) (by decide)] at c; omega
theorem md_small (hu : u ≤ 40000) (hdb : db ≤ 1000) (c : nI (u + db) ≤ 40000) : u + db ≤ 40000 := by
  rw [show (40000 : Int32) = nI 40000 from rfl, nI_leI (by omega) (by decide)] at c; omega
theorem md_f (hR : rt σ τ ts) {f : Nat → Int32} (hf : f = upd (τ 4) (nI (ts.length + 1 + 1)).toNatClampNeg (nI (off ts ts.length + d.length))) : f (ts.length + 1) = nI (off ts ts.length) := by
  rw [hf, nI_clamp (by have := hR.2.1; omega), pk_un (by omega)]; exact hR.2.2.2.1 _ (Nat.le_refl _)
end MD
set_option maxRecDepth 100000 in
set_option maxHeartbeats 1000000 in
theorem rx_makeDraft (X : ev_X) (c0 : Nat) (σ : Nat → Int32) (τ : Nat → Nat → Int32) {ts : RT} (hR : rt σ τ ts) {d : List Nat} (hd : drf σ τ d) {dk : Nat} (hk : σ 11 = nI dk) (hdk : dk < 16) {q u db : Nat} (h12 : σ 12 = nI q) (hq : q ≤ 260) (h8 : σ 8 = nI u) (hu : u ≤ 40000) (h13 : σ 13 = nI db) (hdb : db ≤ 1000) (hroom : off ts ts.length + d.length ≤ 132000) : Rx X c0 m_Mod_makeDraft 0 [.ref (c0 + 16), ev_dead, ev_dead] [] σ τ (fun r σ' τ' => (∃ j : Nat, 0 < j ∧ fdP ts dk d j ∧ r = some (.int (nI j)) ∧ σ' = σ ∧ τ' = τ) ∨ (fdP ts dk d 0 ∧ (ts.length = 2000 ∨ 40000 < u + db) ∧ r = some (.int (-3)) ∧ σ' = σ ∧ τ' = τ) ∨ (fdP ts dk d 0 ∧ ts.length < 2000 ∧ u + db ≤ 40000 ∧ r = some (.int (nI (ts.length + 1))) ∧ σ' = upd (upd σ 7 (nI (ts.length + 1))) 8 (nI (u + db)) ∧ rt σ' τ' (ts ++ [(dk, d, q)]) ∧ ∀ kk, kk ≠ 3 → kk ≠ 4 → kk ≠ 5 → kk ≠ 6 → τ' kk = τ kk)) := by
  refine Rx.go (fun _ => rfl) ?_
  refine Rx.callX rfl rfl rfl rfl (rx_findDraft X c0 _ _ hR hd hk hdk) (fun j hj => ?_)
  show Rx X c0 m_Mod_makeDraft 4 [.ref (c0 + 16), ev_dead, ev_dead] [.int (nI j)] σ τ _
  refine Rx.go (fun _ => rfl) ?_
  show Rx X c0 m_Mod_makeDraft 5 [.ref (c0 + 16), .int (nI j), ev_dead] [] σ τ _
  refine Rx.go (fun _ => rfl) ?_
  refine Rx.go (fun _ => rfl) ?_
  refine Rx.ite (fun c1 => ?_) (fun c1 => ?_)
  · replace c1 : (nI j) ≤ 0 := of_decide_eq_true c1
    show Rx X c0 m_Mod_makeDraft 11 [.ref (c0 + 16), .int (nI j), ev_dead] [] σ τ _
    refine Rx.go (fun _ => rfl) ?_
    refine Rx.get rfl rfl ?_
    refine Rx.go (fun _ => rfl) ?_
    refine Rx.go (fun _ => rfl) ?_
    refine Rx.ite (fun c2 => ?_) (fun c2 => ?_)
    · replace c2 : (σ 7) = 2000 := of_decide_eq_true c2
      show Rx X c0 m_Mod_makeDraft 35 [.ref (c0 + 16), .int (nI j), ev_dead] [] σ τ _
      refine Rx.go (fun _ => rfl) ?_
      exact Rx.ret rfl (ev_reti rfl) (Or.inr (Or.inl ⟨md_0 hR hj c1 ▸ hj, Or.inl (md_2000 hR c2), rfl, rfl, rfl⟩))
    · replace c2 : ¬ (σ 7) = 2000 := of_decide_eq_false c2
      show Rx X c0 m_Mod_makeDraft 21 [.ref (c0 + 16), .int (nI j), ev_dead] [] σ τ _
      refine Rx.go (fun _ => rfl) ?_
      refine Rx.get rfl rfl ?_
      refine Rx.go (fun _ => rfl) ?_
      refine Rx.get rfl rfl ?_
      refine Rx.go (fun _ => rfl) ?_
      refine Rx.top (y := nI (u + db)) (by rw [h8, h13]; exact nI_add _ _) ?_
      refine Rx.go (fun _ => rfl) ?_
      refine Rx.go (fun _ => rfl) ?_
      refine Rx.ite (fun c3 => ?_) (fun c3 => ?_)
      · replace c3 : (nI (u + db)) ≤ 40000 := of_decide_eq_true c3
        show Rx X c0 m_Mod_makeDraft 38 [.ref (c0 + 16), .int (nI j), ev_dead] [] σ τ _
        refine Rx.go (fun _ => rfl) ?_
        refine Rx.go (fun _ => rfl) ?_
        refine Rx.get rfl rfl ?_
        refine Rx.go (fun _ => rfl) ?_
        refine Rx.go (fun _ => rfl) ?_
        refine Rx.top (y := nI (ts.length + 1)) (by rw [hR.1]; exact nI_1 _) ?_
        refine Rx.put rfl (by decide) rfl rfl ?_
        refine Rx.go (fun _ => rfl) ?_
        refine Rx.get rfl rfl ?_
        refine Rx.go (fun _ => rfl) ?_
        refine Rx.get rfl rfl ?_
        refine Rx.go (fun _ => rfl) ?_
        refine Rx.get rfl rfl ?_
        refine Rx.ast 5 rfl rfl (nI_ix (N := 2002) (n := ts.length + 1) (by have := hR.2.1; omega) (by decide)) ?_
        refine Rx.go (fun _ => rfl) ?_
        refine Rx.get rfl rfl ?_
        refine Rx.go (fun _ => rfl) ?_
        refine Rx.get rfl rfl ?_
        refine Rx.go (fun _ => rfl) ?_
        refine Rx.get rfl rfl ?_
        refine Rx.ast 6 rfl rfl (nI_ix (N := 2002) (n := ts.length + 1) (by have := hR.2.1; omega) (by decide)) ?_
        refine Rx.go (fun _ => rfl) ?_
        refine Rx.get rfl rfl ?_
        refine Rx.go (fun _ => rfl) ?_
        refine Rx.get rfl rfl ?_
        refine Rx.go (fun _ => rfl) ?_
        refine Rx.go (fun _ => rfl) ?_
        refine Rx.top (y := nI (ts.length + 1 + 1)) (nI_1 _) ?_
        refine Rx.go (fun _ => rfl) ?_
        refine Rx.get rfl rfl ?_
        refine Rx.go (fun _ => rfl) ?_
        refine Rx.get rfl rfl ?_
        refine Rx.aldE (v := nI (off ts ts.length)) 4 rfl rfl (nI_ix (N := 2002) (n := ts.length + 1) (by have := hR.2.1; omega) (by decide)) (rt_f hR (Nat.le_refl _)) ?_
        refine Rx.go (fun _ => rfl) ?_
        refine Rx.get rfl rfl ?_
        refine Rx.go (fun _ => rfl) ?_
        refine Rx.top (y := nI (off ts ts.length + d.length)) (by show nI _ + σ 10 = _; rw [hd.1]; exact nI_add _ _) ?_
        refine Rx.ast 4 rfl rfl (nI_ix (N := 2002) (n := ts.length + 1 + 1) (by have := md_n2 hR c2; omega) (by decide)) ?_
        refine Rx.go (fun _ => rfl) ?_
        refine Rx.go (fun _ => rfl) ?_
        show Rx X c0 m_Mod_makeDraft 101 [.ref (c0 + 16), .int (nI j), .int 0] [] (upd σ 7 (nI (ts.length + 1))) (va_up (va_up (va_up τ 5 (upd (τ 5) (nI (ts.length + 1)).toNatClampNeg (σ 11))) 6 (upd ((va_up τ 5 (upd (τ 5) (nI (ts.length + 1)).toNatClampNeg (σ 11))) 6) (nI (ts.length + 1)).toNatClampNeg (σ 12))) 4 (upd ((va_up (va_up τ 5 (upd (τ 5) (nI (ts.length + 1)).toNatClampNeg (σ 11))) 6 (upd ((va_up τ 5 (upd (τ 5) (nI (ts.length + 1)).toNatClampNeg (σ 11))) 6) (nI (ts.length + 1)).toNatClampNeg (σ 12))) 4) (nI (ts.length + 1 + 1)).toNatClampNeg (nI (off ts ts.length + d.length)))) _
        show Rx X c0 m_Mod_makeDraft 101 [.ref (c0 + 16), .int (nI j), .int 0] [] (upd σ 7 (nI (ts.length + 1))) (va_up (va_up (va_up τ 5 (upd (τ 5) (nI (ts.length + 1)).toNatClampNeg (σ 11))) 6 (upd ((va_up τ 5 (upd (τ 5) (nI (ts.length + 1)).toNatClampNeg (σ 11))) 6) (nI (ts.length + 1)).toNatClampNeg (σ 12))) 4 (upd ((va_up (va_up τ 5 (upd (τ 5) (nI (ts.length + 1)).toNatClampNeg (σ 11))) 6 (upd ((va_up τ 5 (upd (τ 5) (nI (ts.length + 1)).toNatClampNeg (σ 11))) 6) (nI (ts.length + 1)).toNatClampNeg (σ 12))) 4) (nI (ts.length + 1 + 1)).toNatClampNeg (nI (off ts ts.length + d.length)))) _
        refine (rx_makeDraft_l X c0 (upd σ 7 (nI (ts.length + 1))) (va_up (va_up (va_up τ 5 (upd (τ 5) (nI (ts.length + 1)).toNatClampNeg (σ 11))) 6 (upd ((va_up τ 5 (upd (τ 5) (nI (ts.length + 1)).toNatClampNeg (σ 11))) 6) (nI (ts.length + 1)).toNatClampNeg (σ 12))) 4 (upd ((va_up (va_up τ 5 (upd (τ 5) (nI (ts.length + 1)).toNatClampNeg (σ 11))) 6 (upd ((va_up τ 5 (upd (τ 5) (nI (ts.length + 1)).toNatClampNeg (σ 11))) 6) (nI (ts.length + 1)).toNatClampNeg (σ 12))) 4) (nI (ts.length + 1 + 1)).toNatClampNeg (nI (off ts ts.length + d.length)))) (n := ts.length) (o := off ts ts.length) (d := d) _ rfl hd.1 hd.2.1 (md_n2 hR c2) hroom (md_f hR rfl) hd.2.2.1 (d.length + 1) 0 (va_up (va_up (va_up τ 5 (upd (τ 5) (nI (ts.length + 1)).toNatClampNeg (σ 11))) 6 (upd ((va_up τ 5 (upd (τ 5) (nI (ts.length + 1)).toNatClampNeg (σ 11))) 6) (nI (ts.length + 1)).toNatClampNeg (σ 12))) 4 (upd ((va_up (va_up τ 5 (upd (τ 5) (nI (ts.length + 1)).toNatClampNeg (σ 11))) 6 (upd ((va_up τ 5 (upd (τ 5) (nI (ts.length + 1)).toNatClampNeg (σ 11))) 6) (nI (ts.length + 1)).toNatClampNeg (σ 12))) 4) (nI (ts.length + 1 + 1)).toNatClampNeg (nI (off ts ts.length + d.length)))) (Nat.zero_le _) (by omega) (fun _ _ => rfl) (fun _ _ => rfl) (fun j q => absurd q (by omega))).mono ?_
        rintro r σ' τ' ⟨rfl, rfl, e1, e2, e3⟩
        refine Or.inr (Or.inr ⟨md_0 hR hj c1 ▸ hj, md_n2 hR c2, md_small hu hdb c3, rfl, ?_, ?_, ?_⟩)
        · show upd (upd σ 7 (nI (ts.length + 1))) 8 (σ 8 + σ 13) = _
          rw [h8, h13, nI_add]
        · refine rt_app hR hd.2.1 hd.2.2.2 hdk hq hroom (md_n2 hR c2) rfl ?_ ?_ ?_ e2 e3
          · rw [e1 5 (by decide)]
            show upd (τ 5) (nI (ts.length + 1)).toNatClampNeg (σ 11) = _
            rw [nI_clamp (by have := hR.2.1; omega), hk]
          · rw [e1 6 (by decide)]
            show upd (τ 6) (nI (ts.length + 1)).toNatClampNeg (σ 12) = _
            rw [nI_clamp (by have := hR.2.1; omega), h12]
          · rw [e1 4 (by decide)]
            show upd (τ 4) (nI (ts.length + 1 + 1)).toNatClampNeg _ = _
            rw [nI_clamp (by have := hR.2.1; omega)]
        · intro kk k3 k4 k5 k6
          rw [e1 kk k3]
          simp [va_up, k4, k5, k6]
      · replace c3 : ¬ (nI (u + db)) ≤ 40000 := of_decide_eq_false c3
        show Rx X c0 m_Mod_makeDraft 35 [.ref (c0 + 16), .int (nI j), ev_dead] [] σ τ _
        refine Rx.go (fun _ => rfl) ?_
        exact Rx.ret rfl (ev_reti rfl) (Or.inr (Or.inl ⟨md_0 hR hj c1 ▸ hj, Or.inr (md_big hu hdb c3), rfl, rfl, rfl⟩))
  · replace c1 : ¬ (nI j) ≤ 0 := of_decide_eq_false c1
    show Rx X c0 m_Mod_makeDraft 9 [.ref (c0 + 16), .int (nI j), ev_dead] [] σ τ _
    refine Rx.go (fun _ => rfl) ?_
    exact Rx.ret rfl (ev_reti rfl) (Or.inl ⟨j, md_pos c1, hj, rfl, rfl, rfl⟩)
end
section
/-! Terms told by the reference. (rows laid by wip/whole/rx5.py) -/
/-- a number of no term -/
def noT (σ : Nat → Int32) (t : Int32) : Prop := (!decide (t ≤ 0) && !decide (σ 7 < t)) = false
theorem isT_in {σ : Nat → Int32} {τ : Nat → Nat → Int32} {ts : RT} (hR : rt σ τ ts) {i : Nat} (hi : i < ts.length) : (!decide (nI (i + 1) ≤ 0) && !decide (σ 7 < nI (i + 1))) = true := by
  have h1 := hR.2.1
  rw [hR.1]
  simp [nI_nle (n := i + 1) (by omega) (by omega), nI_ltI (a := ts.length) (b := i + 1) (by omega) (by omega)]
  omega
theorem isT_cases {σ : Nat → Int32} {τ : Nat → Nat → Int32} {ts : RT} (hR : rt σ τ ts) (t : Int32) : noT σ t ∨ ∃ i, i < ts.length ∧ t = nI (i + 1) := by
  have h1 := hR.2.1
  by_cases c1 : t ≤ 0
  · exact Or.inl (by simp [noT, c1])
  by_cases c2 : σ 7 < t
  · exact Or.inl (by simp [noT, c2])
  right
  obtain ⟨j, hj, rfl⟩ := nI_of (x := t) (fun q => c1 (Int32.le_of_lt q))
  rw [hR.1, nI_ltI (by omega) hj] at c2
  have h0 : j ≠ 0 := fun q => c1 (by rw [q, nI_0]; exact Int32.le_refl _)
  exact ⟨j - 1, by omega, by rw [show j - 1 + 1 = j by omega]⟩
theorem rx_isT (X : ev_X) (c0 : Nat) (σ : Nat → Int32) (τ : Nat → Nat → Int32) {ts : RT} (hR : rt σ τ ts) {i : Nat} (hi : i < ts.length) : Rx X c0 m_Mod_isTerm 0 [.ref (c0 + 16), .int (nI (i + 1))] [] σ τ (fun r σ' τ' => r = some (.int 1) ∧ σ' = σ ∧ τ' = τ) :=
  (rx_isTerm X c0 σ τ (nI (i + 1))).mono (fun r σ' τ' ⟨h1, h2⟩ => ⟨by rw [h1, isT_in hR hi]; rfl, h2⟩)
theorem rx_noT (X : ev_X) (c0 : Nat) (σ : Nat → Int32) (τ : Nat → Nat → Int32) (t : Int32) (h : noT σ t) : Rx X c0 m_Mod_isTerm 0 [.ref (c0 + 16), .int t] [] σ τ (fun r σ' τ' => r = some (.int 0) ∧ σ' = σ ∧ τ' = τ) :=
  (rx_isTerm X c0 σ τ t).mono (fun r σ' τ' ⟨h1, h2⟩ => ⟨by rw [h1, h]; rfl, h2⟩)
set_option maxRecDepth 100000 in
set_option maxHeartbeats 1000000 in
theorem rx_write_no (X : ev_X) (c0 : Nat) (σ : Nat → Int32) (τ : Nat → Nat → Int32) (t : Int32) (hb : noT σ t) : Rx X c0 m_Mod_write 0 [.ref (c0 + 16), .int t, ev_dead] [] σ τ (fun r σ' τ' => r = some (.int (-1)) ∧ σ' = σ ∧ τ' = τ) := by
  refine Rx.go (fun _ => rfl) ?_
  refine Rx.go (fun _ => rfl) ?_
  refine Rx.callE rfl rfl rfl rfl (rx_noT X c0 _ _ _ hb) ?_
  show Rx X c0 m_Mod_write 5 [.ref (c0 + 16), .int t, ev_dead] [.int 0] σ τ _
  refine Rx.go (fun _ => rfl) ?_
  show Rx X c0 m_Mod_write 8 [.ref (c0 + 16), .int t, ev_dead] [] σ τ _
  refine Rx.go (fun _ => rfl) ?_
  exact Rx.ret rfl (ev_reti rfl) ⟨rfl, rfl, rfl⟩
set_option maxRecDepth 100000 in
set_option maxHeartbeats 1000000 in
theorem rx_kind_no (X : ev_X) (c0 : Nat) (σ : Nat → Int32) (τ : Nat → Nat → Int32) (t : Int32) (hb : noT σ t) : Rx X c0 m_Mod_kind 0 [.ref (c0 + 16), .int t] [] σ τ (fun r σ' τ' => r = some (.int (-1)) ∧ σ' = σ ∧ τ' = τ) := by
  refine Rx.go (fun _ => rfl) ?_
  refine Rx.go (fun _ => rfl) ?_
  refine Rx.callE rfl rfl rfl rfl (rx_noT X c0 _ _ _ hb) ?_
  show Rx X c0 m_Mod_kind 5 [.ref (c0 + 16), .int t] [.int 0] σ τ _
  refine Rx.go (fun _ => rfl) ?_
  show Rx X c0 m_Mod_kind 17 [.ref (c0 + 16), .int t] [] σ τ _
  refine Rx.go (fun _ => rfl) ?_
  exact Rx.ret rfl (ev_reti rfl) ⟨rfl, rfl, rfl⟩
set_option maxRecDepth 100000 in
set_option maxHeartbeats 1000000 in
theorem rx_scale_no (X : ev_X) (c0 : Nat) (σ : Nat → Int32) (τ : Nat → Nat → Int32) (t : Int32) (hb : noT σ t) : Rx X c0 m_Mod_scale 0 [.ref (c0 + 16), .int t, ev_dead, ev_dead] [] σ τ (fun r σ' τ' => r = some (.int (-1)) ∧ σ' = σ ∧ τ' = τ) := by
  refine Rx.go (fun _ => rfl) ?_
  refine Rx.go (fun _ => rfl) ?_
  refine Rx.callE rfl rfl rfl rfl (rx_noT X c0 _ _ _ hb) ?_
  show Rx X c0 m_Mod_scale 5 [.ref (c0 + 16), .int t, ev_dead, ev_dead] [.int 0] σ τ _
  refine Rx.go (fun _ => rfl) ?_
  show Rx X c0 m_Mod_scale 8 [.ref (c0 + 16), .int t, ev_dead, ev_dead] [] σ τ _
  refine Rx.go (fun _ => rfl) ?_
  exact Rx.ret rfl (ev_reti rfl) ⟨rfl, rfl, rfl⟩
set_option maxRecDepth 100000 in
set_option maxHeartbeats 1000000 in
theorem rx_value_no (X : ev_X) (c0 : Nat) (σ : Nat → Int32) (τ : Nat → Nat → Int32) (t : Int32) (hb : noT σ t) : Rx X c0 m_Mod_value 0 [.ref (c0 + 16), .int t, ev_dead, ev_dead, ev_dead, ev_dead, ev_dead, ev_dead] [] σ τ (fun r σ' τ' => r = some (.long 0) ∧ σ' = σ ∧ τ' = τ) := by
  refine Rx.go (fun _ => rfl) ?_
  refine Rx.go (fun _ => rfl) ?_
  refine Rx.callE rfl rfl rfl rfl (rx_noT X c0 _ _ _ hb) ?_
  show Rx X c0 m_Mod_value 5 [.ref (c0 + 16), .int t, ev_dead, ev_dead, ev_dead, ev_dead, ev_dead, ev_dead] [.int 0] σ τ _
  refine Rx.go (fun _ => rfl) ?_
  show Rx X c0 m_Mod_value 8 [.ref (c0 + 16), .int t, ev_dead, ev_dead, ev_dead, ev_dead, ev_dead, ev_dead] [] σ τ _
  refine Rx.go (fun _ => rfl) ?_
  exact Rx.ret rfl rfl ⟨rfl, rfl, rfl⟩
set_option maxRecDepth 100000 in
set_option maxHeartbeats 1000000 in
theorem rx_part_no (X : ev_X) (c0 : Nat) (σ : Nat → Int32) (τ : Nat → Nat → Int32) (t : Int32) (hb : noT σ t) (w : Int32) : Rx X c0 m_Mod_part 0 [.ref (c0 + 16), .int t, .int w, ev_dead, ev_dead] [] σ τ (fun r σ' τ' => r = some (.int (-1)) ∧ σ' = σ ∧ τ' = τ) := by
  refine Rx.go (fun _ => rfl) ?_
  refine Rx.go (fun _ => rfl) ?_
  refine Rx.callE rfl rfl rfl rfl (rx_noT X c0 _ _ _ hb) ?_
  show Rx X c0 m_Mod_part 5 [.ref (c0 + 16), .int t, .int w, ev_dead, ev_dead] [.int 0] σ τ _
  refine Rx.go (fun _ => rfl) ?_
  show Rx X c0 m_Mod_part 8 [.ref (c0 + 16), .int t, .int w, ev_dead, ev_dead] [] σ τ _
  refine Rx.go (fun _ => rfl) ?_
  exact Rx.ret rfl (ev_reti rfl) ⟨rfl, rfl, rfl⟩
set_option maxRecDepth 100000 in
set_option maxHeartbeats 1000000 in
theorem rx_kind_i (X : ev_X) (c0 : Nat) (σ : Nat → Int32) (τ : Nat → Nat → Int32) {ts : RT} (hR : rt σ τ ts) {i : Nat} (hi : i < ts.length) : Rx X c0 m_Mod_kind 0 [.ref (c0 + 16), .int (nI (i + 1))] [] σ τ (fun r σ' τ' => r = some (.int (nI (knd ts i))) ∧ σ' = σ ∧ τ' = τ) := by
  refine Rx.go (fun _ => rfl) ?_
  refine Rx.go (fun _ => rfl) ?_
  refine Rx.callE rfl rfl rfl rfl (rx_isT X c0 _ _ hR hi) ?_
  show Rx X c0 m_Mod_kind 5 [.ref (c0 + 16), .int (nI (i + 1))] [.int 1] σ τ _
  refine Rx.go (fun _ => rfl) ?_
  show Rx X c0 m_Mod_kind 8 [.ref (c0 + 16), .int (nI (i + 1))] [] σ τ _
  refine Rx.go (fun _ => rfl) ?_
  refine Rx.get rfl rfl ?_
  refine Rx.go (fun _ => rfl) ?_
  refine Rx.aldE (v := nI (knd ts i)) 5 rfl rfl (nI_ix (N := 2002) (n := i + 1) (by have := hR.2.1; omega) (by decide)) (rt_k hR hi) ?_
  refine Rx.go (fun _ => rfl) ?_
  exact Rx.ret rfl (ev_reti rfl) ⟨rfl, rfl, rfl⟩
theorem kn_e {σ : Nat → Int32} {τ : Nat → Nat → Int32} {ts : RT} (hR : rt σ τ ts) {i n : Nat} (hi : i < ts.length) {z : Int32} (hz : z = nI n) (hn : n < 2 ^ 31) (c : nI (knd ts i) = z) : knd ts i = n := (nI_eq (by have := (rt_ok hR hi).2.1; omega) hn).mp (c.trans hz)
theorem kn_n {ts : RT} {i n : Nat} {z : Int32} (hz : z = nI n) (c : ¬ nI (knd ts i) = z) : ¬ knd ts i = n := fun q => c (by rw [q, hz])
set_option maxRecDepth 100000 in
set_option maxHeartbeats 1000000 in
theorem rx_isNum (X : ev_X) (c0 : Nat) (σ : Nat → Int32) (τ : Nat → Nat → Int32) {ts : RT} (hR : rt σ τ ts) {i : Nat} (hi : i < ts.length) : Rx X c0 m_Mod_isNumber 0 [.ref (c0 + 16), .int (nI (i + 1))] [] σ τ (fun r σ' τ' => r = some (.int (bi (decide (knd ts i = 3) || decide (knd ts i = 4)))) ∧ σ' = σ ∧ τ' = τ) := by
  refine Rx.go (fun _ => rfl) ?_
  refine Rx.get rfl rfl ?_
  refine Rx.go (fun _ => rfl) ?_
  refine Rx.aldE (v := nI (knd ts i)) 5 rfl rfl (nI_ix (N := 2002) (n := i + 1) (by have := hR.2.1; omega) (by decide)) (rt_k hR hi) ?_
  refine Rx.go (fun _ => rfl) ?_
  refine Rx.go (fun _ => rfl) ?_
  refine Rx.ite (fun c1 => ?_) (fun c1 => ?_)
  · replace c1 : (nI (knd ts i)) = 3 := of_decide_eq_true c1
    show Rx X c0 m_Mod_isNumber 20 [.ref (c0 + 16), .int (nI (i + 1))] [] σ τ _
    refine Rx.go (fun _ => rfl) ?_
    refine Rx.go (fun _ => rfl) ?_
    exact Rx.ret rfl rfl ⟨ret_1 (by simp [kn_e hR hi (n := 3) rfl (by decide) c1]), rfl, rfl⟩
  · replace c1 : ¬ (nI (knd ts i)) = 3 := of_decide_eq_false c1
    show Rx X c0 m_Mod_isNumber 10 [.ref (c0 + 16), .int (nI (i + 1))] [] σ τ _
    refine Rx.go (fun _ => rfl) ?_
    refine Rx.get rfl rfl ?_
    refine Rx.go (fun _ => rfl) ?_
    refine Rx.aldE (v := nI (knd ts i)) 5 rfl rfl (nI_ix (N := 2002) (n := i + 1) (by have := hR.2.1; omega) (by decide)) (rt_k hR hi) ?_
    refine Rx.go (fun _ => rfl) ?_
    refine Rx.go (fun _ => rfl) ?_
    refine Rx.ite (fun c2 => ?_) (fun c2 => ?_)
    · replace c2 : ¬ (nI (knd ts i)) = 4 := of_decide_eq_true c2
      show Rx X c0 m_Mod_isNumber 24 [.ref (c0 + 16), .int (nI (i + 1))] [] σ τ _
      refine Rx.go (fun _ => rfl) ?_
      exact Rx.ret rfl rfl ⟨ret_0 (by simp [kn_n (n := 3) rfl c1, kn_n (n := 4) rfl c2]), rfl, rfl⟩
    · replace c2 : (nI (knd ts i)) = 4 := Classical.not_not.mp (of_decide_eq_false c2)
      show Rx X c0 m_Mod_isNumber 20 [.ref (c0 + 16), .int (nI (i + 1))] [] σ τ _
      refine Rx.go (fun _ => rfl) ?_
      refine Rx.go (fun _ => rfl) ?_
      exact Rx.ret rfl rfl ⟨ret_1 (by simp [kn_e hR hi (n := 4) rfl (by decide) c2]), rfl, rfl⟩
set_option maxRecDepth 100000 in
set_option maxHeartbeats 1000000 in
theorem rx_rnk (X : ev_X) (c0 : Nat) (σ : Nat → Int32) (τ : Nat → Nat → Int32) {ts : RT} (hR : rt σ τ ts) {i : Nat} (hi : i < ts.length) : Rx X c0 m_Mod_rank 0 [.ref (c0 + 16), .int (nI (i + 1))] [] σ τ (fun r σ' τ' => r = some (.int (nI (if knd ts i = 4 then 3 else knd ts i))) ∧ σ' = σ ∧ τ' = τ) := by
  refine Rx.go (fun _ => rfl) ?_
  refine Rx.get rfl rfl ?_
  refine Rx.go (fun _ => rfl) ?_
  refine Rx.aldE (v := nI (knd ts i)) 5 rfl rfl (nI_ix (N := 2002) (n := i + 1) (by have := hR.2.1; omega) (by decide)) (rt_k hR hi) ?_
  refine Rx.go (fun _ => rfl) ?_
  refine Rx.go (fun _ => rfl) ?_
  refine Rx.ite (fun c1 => ?_) (fun c1 => ?_)
  · replace c1 : ¬ (nI (knd ts i)) = 4 := of_decide_eq_true c1
    show Rx X c0 m_Mod_rank 14 [.ref (c0 + 16), .int (nI (i + 1))] [] σ τ _
    refine Rx.go (fun _ => rfl) ?_
    refine Rx.get rfl rfl ?_
    refine Rx.go (fun _ => rfl) ?_
    refine Rx.aldE (v := nI (knd ts i)) 5 rfl rfl (nI_ix (N := 2002) (n := i + 1) (by have := hR.2.1; omega) (by decide)) (rt_k hR hi) ?_
    exact Rx.ret rfl (ev_reti rfl) ⟨by rw [if_neg (kn_n (n := 4) rfl c1)], rfl, rfl⟩
  · replace c1 : (nI (knd ts i)) = 4 := Classical.not_not.mp (of_decide_eq_false c1)
    show Rx X c0 m_Mod_rank 10 [.ref (c0 + 16), .int (nI (i + 1))] [] σ τ _
    refine Rx.go (fun _ => rfl) ?_
    refine Rx.go (fun _ => rfl) ?_
    exact Rx.ret rfl (ev_reti rfl) ⟨by rw [if_pos (kn_e hR hi (n := 4) rfl (by decide) c1)]; rfl, rfl, rfl⟩
def dotp : List Nat → Nat
  | [] => 0
  | b :: l => if b = 46 then 0 else dotp l + 1
theorem dotp_le (l : List Nat) : dotp l ≤ l.length := by
  induction l with
  | nil => exact Nat.le_refl _
  | cons b l ih => simp only [dotp]; split <;> simp <;> omega
theorem dotp_is : ∀ (l : List Nat) (k : Nat), k ≤ l.length → (∀ j, j < k → l.getD j 0 ≠ 46) → (k < l.length → l.getD k 0 = 46) → dotp l = k := by
  intro l
  induction l with
  | nil => intro k h1 _ _; simp at h1; rw [h1]; rfl
  | cons b l ih =>
    intro k h1 h2 h3
    cases k with
    | zero => have := h3 (by simp); simp only [List.getD_cons_zero] at this; simp [dotp, this]
    | succ k =>
      have h0 := h2 0 (by omega)
      simp only [List.getD_cons_zero] at h0
      simp only [dotp, if_neg h0]
      rw [ih k (by simpa using h1) (fun j hj => by have := h2 (j + 1) (by omega); simpa using this) (fun hk => by have := h3 (by simpa using hk); simpa using this)]
theorem ls_ge {σ : Nat → Int32} {τ : Nat → Nat → Int32} {ts : RT} (hR : rt σ τ ts) {i k : Nat} (hi : i < ts.length) (hk : k ≤ (bys ts i).length) (c : nI (bys ts i).length ≤ nI k) : k = (bys ts i).length := isd_ge hR hi hk c
theorem bt_e {σ : Nat → Int32} {τ : Nat → Nat → Int32} {ts : RT} (hR : rt σ τ ts) {i k n : Nat} (hi : i < ts.length) {z : Int32} (hz : z = nI n) (hn : n < 2 ^ 31) (c : nI ((bys ts i).getD k 0) = z) : (bys ts i).getD k 0 = n := (nI_eq (by have := (rt_ok hR hi).1 k; omega) hn).mp (c.trans hz)
theorem bt_n {ts : RT} {i k n : Nat} {z : Int32} (hz : z = nI n) (c : ¬ nI ((bys ts i).getD k 0) = z) : (bys ts i).getD k 0 ≠ n := fun q => c (by rw [q, hz])
set_option maxRecDepth 100000 in
set_option maxHeartbeats 1000000 in
theorem rx_dotOf_l (X : ev_X) (c0 : Nat) (σ : Nat → Int32) (τ : Nat → Nat → Int32) {ts : RT} (hR : rt σ τ ts) {i : Nat} (hi : i < ts.length) : ∀ (m : Nat) (k : Nat) (hk : k ≤ (bys ts i).length) (hm : (bys ts i).length + 1 ≤ k + m) (hn : ∀ j, j < k → (bys ts i).getD j 0 ≠ 46), Rx X c0 m_Mod_dotOf 2 [.ref (c0 + 16), .int (nI (i + 1)), .int (nI k)] [] σ τ (fun r σ' τ' => r = some (.int (nI (dotp (bys ts i)))) ∧ σ' = σ ∧ τ' = τ) := by
  intro m
  induction m with
  | zero => intro k hk hm hn; exact absurd hm (by omega)
  | succ m ih =>
    intro k hk hm hn
    refine Rx.go (fun _ => rfl) ?_
    refine Rx.go (fun _ => rfl) ?_
    refine Rx.go (fun _ => rfl) ?_
    refine Rx.callE rfl rfl rfl rfl (rx_lenOf X c0 _ _ hR hi) ?_
    show Rx X c0 m_Mod_dotOf 8 [.ref (c0 + 16), .int (nI (i + 1)), .int (nI k)] [.int (nI (bys ts i).length), .int (nI k)] σ τ _
    refine Rx.go (fun _ => rfl) ?_
    refine Rx.ite (fun c1 => ?_) (fun c1 => ?_)
    · replace c1 : (nI (bys ts i).length) ≤ (nI k) := of_decide_eq_true c1
      show Rx X c0 m_Mod_dotOf 28 [.ref (c0 + 16), .int (nI (i + 1)), .int (nI k)] [] σ τ _
      refine Rx.go (fun _ => rfl) ?_
      exact Rx.ret rfl (ev_reti rfl) ⟨by rw [dotp_is _ k hk hn (fun q => absurd (ls_ge hR hi hk c1) (by omega))], rfl, rfl⟩
    · replace c1 : ¬ (nI (bys ts i).length) ≤ (nI k) := of_decide_eq_false c1
      have hlt := isd_lt hR hi hk c1
      show Rx X c0 m_Mod_dotOf 11 [.ref (c0 + 16), .int (nI (i + 1)), .int (nI k)] [] σ τ _
      refine Rx.go (fun _ => rfl) ?_
      refine Rx.go (fun _ => rfl) ?_
      refine Rx.go (fun _ => rfl) ?_
      refine Rx.callE rfl rfl rfl rfl (rx_byteAt X c0 _ _ hR hi (j := k) (by have := (rt_ok hR hi).2.2.1; omega)) ?_
      show Rx X c0 m_Mod_dotOf 17 [.ref (c0 + 16), .int (nI (i + 1)), .int (nI k)] [.int (nI ((bys ts i).getD k 0))] σ τ _
      refine Rx.go (fun _ => rfl) ?_
      refine Rx.go (fun _ => rfl) ?_
      refine Rx.ite (fun c2 => ?_) (fun c2 => ?_)
      · replace c2 : (nI ((bys ts i).getD k 0)) = 46 := of_decide_eq_true c2
        show Rx X c0 m_Mod_dotOf 28 [.ref (c0 + 16), .int (nI (i + 1)), .int (nI k)] [] σ τ _
        refine Rx.go (fun _ => rfl) ?_
        exact Rx.ret rfl (ev_reti rfl) ⟨by rw [dotp_is _ k hk hn (fun _ => bt_e hR hi (n := 46) rfl (by decide) c2)], rfl, rfl⟩
      · replace c2 : ¬ (nI ((bys ts i).getD k 0)) = 46 := of_decide_eq_false c2
        show Rx X c0 m_Mod_dotOf 22 [.ref (c0 + 16), .int (nI (i + 1)), .int (nI k)] [] σ τ _
        refine Rx.go (fun _ => rfl) ?_
        show Rx X c0 m_Mod_dotOf 25 [.ref (c0 + 16), .int (nI (i + 1)), .int ((nI k) + 1)] [] σ τ _
        refine Rx.go (fun _ => rfl) ?_
        show Rx X c0 m_Mod_dotOf 2 [.ref (c0 + 16), .int (nI (i + 1)), .int ((nI k) + 1)] [] σ τ _
        rw [nI_1 k]
        exact ih (k + 1) hlt (by omega) (fun j hj => (Nat.lt_or_ge j k).elim (hn j) (fun q => by rw [show j = k by omega]; exact bt_n (n := 46) rfl c2))
set_option maxRecDepth 100000 in
set_option maxHeartbeats 1000000 in
theorem rx_dotOf (X : ev_X) (c0 : Nat) (σ : Nat → Int32) (τ : Nat → Nat → Int32) {ts : RT} (hR : rt σ τ ts) {i : Nat} (hi : i < ts.length) : Rx X c0 m_Mod_dotOf 0 [.ref (c0 + 16), .int (nI (i + 1)), ev_dead] [] σ τ (fun r σ' τ' => r = some (.int (nI (dotp (bys ts i)))) ∧ σ' = σ ∧ τ' = τ) := by
  refine Rx.go (fun _ => rfl) ?_
  refine Rx.go (fun _ => rfl) ?_
  show Rx X c0 m_Mod_dotOf 2 [.ref (c0 + 16), .int (nI (i + 1)), .int 0] [] σ τ _
  show Rx X c0 m_Mod_dotOf 2 [.ref (c0 + 16), .int (nI (i + 1)), .int 0] [] σ τ _
  exact rx_dotOf_l X c0 σ τ hR hi ((bys ts i).length + 1) 0 (Nat.zero_le _) (by omega) (fun j q => absurd q (by omega))
end
section
/-! scale, write, written, itemAt, items, orderRows of the reference. (rows laid by wip/whole/rx6.py) -/
theorem dotp_ne (l : List Nat) : ∀ j, j < dotp l → l.getD j 0 ≠ 46 := by
  induction l with
  | nil => intro j h; exact absurd h (Nat.not_lt_zero _)
  | cons b l ih =>
    intro j h
    by_cases hb : b = 46
    · simp [dotp, hb] at h
    · simp only [dotp, if_neg hb] at h
      cases j with
      | zero => simpa using hb
      | succ j => have := ih j (by omega); simpa using this
theorem dotp_at (l : List Nat) : dotp l < l.length → l.getD (dotp l) 0 = 46 := by
  induction l with
  | nil => intro h; exact absurd h (Nat.not_lt_zero _)
  | cons b l ih =>
    intro h
    by_cases hb : b = 46
    · simp [dotp, hb]
    · simp only [dotp, if_neg hb] at h ⊢
      have := ih (by simpa using h); simpa using this
/-- how many digits stand behind the dot of a written decimal -/
def scl (l : List Nat) : Nat := if l.length = dotp l + 2 ∧ l.getD (dotp l + 1) 0 = 48 then 0 else l.length - dotp l - 1
theorem sc_eq2 {σ : Nat → Int32} {τ : Nat → Nat → Int32} {ts : RT} (hR : rt σ τ ts) {i : Nat} (hi : i < ts.length) (c : nI (bys ts i).length = nI (dotp (bys ts i) + 2)) : (bys ts i).length = dotp (bys ts i) + 2 := (nI_eq (by have := (rt_ok hR hi).2.2.1; omega) (by have := dotp_le (bys ts i); have := (rt_ok hR hi).2.2.1; omega)).mp c
theorem sc_sub {σ : Nat → Int32} {τ : Nat → Nat → Int32} {ts : RT} (hR : rt σ τ ts) {i : Nat} (hi : i < ts.length) (hdot : dotp (bys ts i) < (bys ts i).length) : nI (bys ts i).length - nI (dotp (bys ts i)) - 1 = nI ((bys ts i).length - dotp (bys ts i) - 1) := by
  rw [pk_sub (by omega), show (bys ts i).length - dotp (bys ts i) = ((bys ts i).length - dotp (bys ts i) - 1) + 1 by omega, nI_pred]
  rfl
set_option maxRecDepth 100000 in
set_option maxHeartbeats 1000000 in
theorem rx_scale_l (X : ev_X) (c0 : Nat) (σ : Nat → Int32) (τ : Nat → Nat → Int32) {ts : RT} (hR : rt σ τ ts) {i : Nat} (hi : i < ts.length) (hdot : dotp (bys ts i) < (bys ts i).length) : ∀ (m : Nat) (k : Nat) (hk : k ≤ dotp (bys ts i)) (hm : dotp (bys ts i) + 1 ≤ k + m), Rx X c0 m_Mod_scale 30 [.ref (c0 + 16), .int (nI (i + 1)), .int (nI (bys ts i).length), .int (nI k)] [] σ τ (fun r σ' τ' => r = some (.int (nI (scl (bys ts i)))) ∧ σ' = σ ∧ τ' = τ) := by
  intro m
  induction m with
  | zero => intro k hk hm; exact absurd hm (by omega)
  | succ m ih =>
    intro k hk hm
    refine Rx.go (fun _ => rfl) ?_
    refine Rx.go (fun _ => rfl) ?_
    refine Rx.go (fun _ => rfl) ?_
    refine Rx.callE rfl rfl rfl rfl (rx_byteAt X c0 _ _ hR hi (j := k) (by have := (rt_ok hR hi).2.2.1; omega)) ?_
    show Rx X c0 m_Mod_scale 36 [.ref (c0 + 16), .int (nI (i + 1)), .int (nI (bys ts i).length), .int (nI k)] [.int (nI ((bys ts i).getD k 0))] σ τ _
    refine Rx.go (fun _ => rfl) ?_
    refine Rx.go (fun _ => rfl) ?_
    refine Rx.ite (fun c1 => ?_) (fun c1 => ?_)
    · replace c1 : (nI ((bys ts i).getD k 0)) = 46 := of_decide_eq_true c1
      have hke : k = dotp (bys ts i) := Nat.le_antisymm hk (Nat.le_of_not_lt (fun q => dotp_ne _ k q (bt_e hR hi (n := 46) rfl (by decide) c1)))
      rw [hke] at c1 ⊢
      show Rx X c0 m_Mod_scale 47 [.ref (c0 + 16), .int (nI (i + 1)), .int (nI (bys ts i).length), .int (nI (dotp (bys ts i)))] [] σ τ _
      refine Rx.go (fun _ => rfl) ?_
      refine Rx.go (fun _ => rfl) ?_
      refine Rx.go (fun _ => rfl) ?_
      refine Rx.go (fun _ => rfl) ?_
      refine Rx.top (y := nI (dotp (bys ts i) + 2)) (nI_add _ 2) ?_
      refine Rx.go (fun _ => rfl) ?_
      refine Rx.ite (fun c2 => ?_) (fun c2 => ?_)
      · replace c2 : ¬ (nI (bys ts i).length) = (nI (dotp (bys ts i) + 2)) := of_decide_eq_true c2
        show Rx X c0 m_Mod_scale 71 [.ref (c0 + 16), .int (nI (i + 1)), .int (nI (bys ts i).length), .int (nI (dotp (bys ts i)))] [] σ τ _
        refine Rx.go (fun _ => rfl) ?_
        refine Rx.go (fun _ => rfl) ?_
        refine Rx.go (fun _ => rfl) ?_
        refine Rx.go (fun _ => rfl) ?_
        refine Rx.go (fun _ => rfl) ?_
        show Rx X c0 m_Mod_scale 76 [.ref (c0 + 16), .int (nI (i + 1)), .int (nI (bys ts i).length), .int (nI (dotp (bys ts i)))] [.int (((nI (bys ts i).length) - (nI (dotp (bys ts i)))) - 1)] σ τ _
        exact Rx.ret rfl (ev_reti rfl) ⟨by rw [sc_sub hR hi hdot, show scl (bys ts i) = _ from if_neg (fun q => c2 (by rw [q.1]))], rfl, rfl⟩
      · replace c2 : (nI (bys ts i).length) = (nI (dotp (bys ts i) + 2)) := Classical.not_not.mp (of_decide_eq_false c2)
        show Rx X c0 m_Mod_scale 54 [.ref (c0 + 16), .int (nI (i + 1)), .int (nI (bys ts i).length), .int (nI (dotp (bys ts i)))] [] σ τ _
        refine Rx.go (fun _ => rfl) ?_
        refine Rx.go (fun _ => rfl) ?_
        refine Rx.go (fun _ => rfl) ?_
        refine Rx.go (fun _ => rfl) ?_
        refine Rx.go (fun _ => rfl) ?_
        refine Rx.top (y := nI (dotp (bys ts i) + 1)) (nI_1 _) ?_
        refine Rx.callE rfl rfl rfl rfl (rx_byteAt X c0 _ _ hR hi (j := dotp (bys ts i) + 1) (by have := (rt_ok hR hi).2.2.1; omega)) ?_
        show Rx X c0 m_Mod_scale 62 [.ref (c0 + 16), .int (nI (i + 1)), .int (nI (bys ts i).length), .int (nI (dotp (bys ts i)))] [.int (nI ((bys ts i).getD (dotp (bys ts i) + 1) 0))] σ τ _
        refine Rx.go (fun _ => rfl) ?_
        refine Rx.go (fun _ => rfl) ?_
        refine Rx.ite (fun c3 => ?_) (fun c3 => ?_)
        · replace c3 : ¬ (nI ((bys ts i).getD (dotp (bys ts i) + 1) 0)) = 48 := of_decide_eq_true c3
          show Rx X c0 m_Mod_scale 71 [.ref (c0 + 16), .int (nI (i + 1)), .int (nI (bys ts i).length), .int (nI (dotp (bys ts i)))] [] σ τ _
          refine Rx.go (fun _ => rfl) ?_
          refine Rx.go (fun _ => rfl) ?_
          refine Rx.go (fun _ => rfl) ?_
          refine Rx.go (fun _ => rfl) ?_
          refine Rx.go (fun _ => rfl) ?_
          show Rx X c0 m_Mod_scale 76 [.ref (c0 + 16), .int (nI (i + 1)), .int (nI (bys ts i).length), .int (nI (dotp (bys ts i)))] [.int (((nI (bys ts i).length) - (nI (dotp (bys ts i)))) - 1)] σ τ _
          exact Rx.ret rfl (ev_reti rfl) ⟨by rw [sc_sub hR hi hdot, show scl (bys ts i) = _ from if_neg (fun q => bt_n (n := 48) rfl c3 q.2)], rfl, rfl⟩
        · replace c3 : (nI ((bys ts i).getD (dotp (bys ts i) + 1) 0)) = 48 := Classical.not_not.mp (of_decide_eq_false c3)
          show Rx X c0 m_Mod_scale 67 [.ref (c0 + 16), .int (nI (i + 1)), .int (nI (bys ts i).length), .int (nI (dotp (bys ts i)))] [] σ τ _
          refine Rx.go (fun _ => rfl) ?_
          refine Rx.go (fun _ => rfl) ?_
          show Rx X c0 m_Mod_scale 76 [.ref (c0 + 16), .int (nI (i + 1)), .int (nI (bys ts i).length), .int (nI (dotp (bys ts i)))] [.int 0] σ τ _
          exact Rx.ret rfl (ev_reti rfl) ⟨by rw [show scl (bys ts i) = 0 from if_pos ⟨sc_eq2 hR hi c2, bt_e hR hi (n := 48) rfl (by decide) c3⟩]; rfl, rfl, rfl⟩
    · replace c1 : ¬ (nI ((bys ts i).getD k 0)) = 46 := of_decide_eq_false c1
      show Rx X c0 m_Mod_scale 41 [.ref (c0 + 16), .int (nI (i + 1)), .int (nI (bys ts i).length), .int (nI k)] [] σ τ _
      refine Rx.go (fun _ => rfl) ?_
      show Rx X c0 m_Mod_scale 44 [.ref (c0 + 16), .int (nI (i + 1)), .int (nI (bys ts i).length), .int ((nI k) + 1)] [] σ τ _
      refine Rx.go (fun _ => rfl) ?_
      show Rx X c0 m_Mod_scale 30 [.ref (c0 + 16), .int (nI (i + 1)), .int (nI (bys ts i).length), .int ((nI k) + 1)] [] σ τ _
      rw [nI_1 k]
      exact ih (k + 1) (Nat.lt_of_le_of_ne hk (fun q => bt_n (n := 46) rfl c1 (by rw [q]; exact dotp_at _ hdot))) (by omega)
set_option maxRecDepth 100000 in
set_option maxHeartbeats 1000000 in
theorem rx_scale_4 (X : ev_X) (c0 : Nat) (σ : Nat → Int32) (τ : Nat → Nat → Int32) {ts : RT} (hR : rt σ τ ts) {i : Nat} (hi : i < ts.length) (h4 : knd ts i = 4) (hdot : dotp (bys ts i) < (bys ts i).length) : Rx X c0 m_Mod_scale 0 [.ref (c0 + 16), .int (nI (i + 1)), ev_dead, ev_dead] [] σ τ (fun r σ' τ' => r = some (.int (nI (scl (bys ts i)))) ∧ σ' = σ ∧ τ' = τ) := by
  refine Rx.go (fun _ => rfl) ?_
  refine Rx.go (fun _ => rfl) ?_
  refine Rx.callE rfl rfl rfl rfl (rx_isT X c0 _ _ hR hi) ?_
  show Rx X c0 m_Mod_scale 5 [.ref (c0 + 16), .int (nI (i + 1)), ev_dead, ev_dead] [.int 1] σ τ _
  refine Rx.go (fun _ => rfl) ?_
  show Rx X c0 m_Mod_scale 10 [.ref (c0 + 16), .int (nI (i + 1)), ev_dead, ev_dead] [] σ τ _
  refine Rx.go (fun _ => rfl) ?_
  refine Rx.get rfl rfl ?_
  refine Rx.go (fun _ => rfl) ?_
  refine Rx.aldE (v := nI (knd ts i)) 5 rfl rfl (nI_ix (N := 2002) (n := i + 1) (by have := hR.2.1; omega) (by decide)) (rt_k hR hi) ?_
  refine Rx.go (fun _ => rfl) ?_
  refine Rx.go (fun _ => rfl) ?_
  refine Rx.ite (fun c1 => ?_) (fun c1 => ?_)
  · replace c1 : (nI (knd ts i)) = 4 := of_decide_eq_true c1
    show Rx X c0 m_Mod_scale 22 [.ref (c0 + 16), .int (nI (i + 1)), ev_dead, ev_dead] [] σ τ _
    refine Rx.go (fun _ => rfl) ?_
    refine Rx.go (fun _ => rfl) ?_
    refine Rx.callE rfl rfl rfl rfl (rx_lenOf X c0 _ _ hR hi) ?_
    show Rx X c0 m_Mod_scale 27 [.ref (c0 + 16), .int (nI (i + 1)), ev_dead, ev_dead] [.int (nI (bys ts i).length)] σ τ _
    refine Rx.go (fun _ => rfl) ?_
    show Rx X c0 m_Mod_scale 28 [.ref (c0 + 16), .int (nI (i + 1)), .int (nI (bys ts i).length), ev_dead] [] σ τ _
    refine Rx.go (fun _ => rfl) ?_
    refine Rx.go (fun _ => rfl) ?_
    show Rx X c0 m_Mod_scale 30 [.ref (c0 + 16), .int (nI (i + 1)), .int (nI (bys ts i).length), .int 0] [] σ τ _
    show Rx X c0 m_Mod_scale 30 [.ref (c0 + 16), .int (nI (i + 1)), .int (nI (bys ts i).length), .int 0] [] σ τ _
    exact rx_scale_l X c0 σ τ hR hi hdot (dotp (bys ts i) + 1) 0 (Nat.zero_le _) (by omega)
  · replace c1 : ¬ (nI (knd ts i)) = 4 := of_decide_eq_false c1
    show Rx X c0 m_Mod_scale 20 [.ref (c0 + 16), .int (nI (i + 1)), ev_dead, ev_dead] [] σ τ _
    refine Rx.go (fun _ => rfl) ?_
    show Rx X c0 m_Mod_scale 21 [.ref (c0 + 16), .int (nI (i + 1)), ev_dead, ev_dead] [.int 0] σ τ _
    exact absurd (by rw [h4]; rfl) c1
set_option maxRecDepth 100000 in
set_option maxHeartbeats 1000000 in
theorem rx_scale_0 (X : ev_X) (c0 : Nat) (σ : Nat → Int32) (τ : Nat → Nat → Int32) {ts : RT} (hR : rt σ τ ts) {i : Nat} (hi : i < ts.length) (h4 : knd ts i ≠ 4) : Rx X c0 m_Mod_scale 0 [.ref (c0 + 16), .int (nI (i + 1)), ev_dead, ev_dead] [] σ τ (fun r σ' τ' => r = some (.int 0) ∧ σ' = σ ∧ τ' = τ) := by
  refine Rx.go (fun _ => rfl) ?_
  refine Rx.go (fun _ => rfl) ?_
  refine Rx.callE rfl rfl rfl rfl (rx_isT X c0 _ _ hR hi) ?_
  show Rx X c0 m_Mod_scale 5 [.ref (c0 + 16), .int (nI (i + 1)), ev_dead, ev_dead] [.int 1] σ τ _
  refine Rx.go (fun _ => rfl) ?_
  show Rx X c0 m_Mod_scale 10 [.ref (c0 + 16), .int (nI (i + 1)), ev_dead, ev_dead] [] σ τ _
  refine Rx.go (fun _ => rfl) ?_
  refine Rx.get rfl rfl ?_
  refine Rx.go (fun _ => rfl) ?_
  refine Rx.aldE (v := nI (knd ts i)) 5 rfl rfl (nI_ix (N := 2002) (n := i + 1) (by have := hR.2.1; omega) (by decide)) (rt_k hR hi) ?_
  refine Rx.go (fun _ => rfl) ?_
  refine Rx.go (fun _ => rfl) ?_
  refine Rx.ite (fun c1 => ?_) (fun c1 => ?_)
  · replace c1 : (nI (knd ts i)) = 4 := of_decide_eq_true c1
    show Rx X c0 m_Mod_scale 22 [.ref (c0 + 16), .int (nI (i + 1)), ev_dead, ev_dead] [] σ τ _
    show Rx X c0 m_Mod_scale 22 [.ref (c0 + 16), .int (nI (i + 1)), ev_dead, ev_dead] [] σ τ _
    exact absurd (kn_e hR hi (n := 4) rfl (by decide) c1) h4
  · replace c1 : ¬ (nI (knd ts i)) = 4 := of_decide_eq_false c1
    show Rx X c0 m_Mod_scale 20 [.ref (c0 + 16), .int (nI (i + 1)), ev_dead, ev_dead] [] σ τ _
    refine Rx.go (fun _ => rfl) ?_
    show Rx X c0 m_Mod_scale 21 [.ref (c0 + 16), .int (nI (i + 1)), ev_dead, ev_dead] [.int 0] σ τ _
    exact Rx.ret rfl (ev_reti rfl) ⟨rfl, rfl, rfl⟩
/-- what was written latest -/
def shw (σ : Nat → Int32) (τ : Nat → Nat → Int32) (sh : List Nat) : Prop := σ 15 = nI sh.length ∧ sh.length ≤ 260 ∧ (∀ k, k < sh.length → τ 14 k = nI (sh.getD k 0)) ∧ ∀ k, sh.getD k 0 < 256
theorem sw_in {σ : Nat → Int32} {τ : Nat → Nat → Int32} {sh : List Nat} (h : shw σ τ sh) {x : Int32} (c1 : ¬ x < 0) (c2 : ¬ σ 15 ≤ x) : ∃ j, j < sh.length ∧ x = nI j := by
  obtain ⟨j, hj, rfl⟩ := nI_of c1
  rw [h.1, nI_leI (by have := h.2.1; omega) hj] at c2
  exact ⟨j, by omega, rfl⟩
/-- byte x of what was written -/
def wat (sh : List Nat) (x : Int32) : Int32 := if x < 0 then -1 else if nI sh.length ≤ x then -1 else nI (sh.getD x.toNatClampNeg 0)
theorem sw_v {σ : Nat → Int32} {τ : Nat → Nat → Int32} {sh : List Nat} (h : shw σ τ sh) {x : Int32} (c1 : ¬ x < 0) (c2 : ¬ σ 15 ≤ x) : ¬ (x < 0 ∨ 260 ≤ x.toNatClampNeg) ∧ τ 14 x.toNatClampNeg = wat sh x := by
  obtain ⟨j, hj, rfl⟩ := sw_in h c1 c2
  have h2 := h.2.1
  refine ⟨nI_ix (by omega) (by decide), ?_⟩
  rw [wat, if_neg c1, if_neg (by rw [← h.1]; exact c2), nI_clamp (by omega)]
  exact h.2.2.1 j hj
set_option maxRecDepth 100000 in
set_option maxHeartbeats 1000000 in
theorem rx_written (X : ev_X) (c0 : Nat) (σ : Nat → Int32) (τ : Nat → Nat → Int32) {sh : List Nat} (hs : shw σ τ sh) (x : Int32) : Rx X c0 m_Mod_written 0 [.ref (c0 + 16), .int x] [] σ τ (fun r σ' τ' => r = some (.int (wat sh x)) ∧ σ' = σ ∧ τ' = τ) := by
  refine Rx.go (fun _ => rfl) ?_
  refine Rx.go (fun _ => rfl) ?_
  refine Rx.ite (fun c1 => ?_) (fun c1 => ?_)
  · replace c1 : x < 0 := of_decide_eq_true c1
    show Rx X c0 m_Mod_written 21 [.ref (c0 + 16), .int x] [] σ τ _
    refine Rx.go (fun _ => rfl) ?_
    show Rx X c0 m_Mod_written 22 [.ref (c0 + 16), .int x] [.int (-1)] σ τ _
    exact Rx.ret rfl (ev_reti rfl) ⟨by rw [wat, if_pos c1], rfl, rfl⟩
  · replace c1 : ¬ x < 0 := of_decide_eq_false c1
    show Rx X c0 m_Mod_written 4 [.ref (c0 + 16), .int x] [] σ τ _
    refine Rx.go (fun _ => rfl) ?_
    refine Rx.go (fun _ => rfl) ?_
    refine Rx.get rfl rfl ?_
    refine Rx.go (fun _ => rfl) ?_
    refine Rx.ite (fun c2 => ?_) (fun c2 => ?_)
    · replace c2 : (σ 15) ≤ x := of_decide_eq_true c2
      show Rx X c0 m_Mod_written 21 [.ref (c0 + 16), .int x] [] σ τ _
      refine Rx.go (fun _ => rfl) ?_
      show Rx X c0 m_Mod_written 22 [.ref (c0 + 16), .int x] [.int (-1)] σ τ _
      exact Rx.ret rfl (ev_reti rfl) ⟨by rw [wat, if_neg c1, if_pos (by rw [← hs.1]; exact c2)], rfl, rfl⟩
    · replace c2 : ¬ (σ 15) ≤ x := of_decide_eq_false c2
      show Rx X c0 m_Mod_written 12 [.ref (c0 + 16), .int x] [] σ τ _
      refine Rx.go (fun _ => rfl) ?_
      refine Rx.get rfl rfl ?_
      refine Rx.go (fun _ => rfl) ?_
      refine Rx.aldE (v := wat sh x) 14 rfl rfl (sw_v hs c1 c2).1 (sw_v hs c1 c2).2 ?_
      refine Rx.go (fun _ => rfl) ?_
      show Rx X c0 m_Mod_written 22 [.ref (c0 + 16), .int x] [.int (wat sh x)] σ τ _
      exact Rx.ret rfl (ev_reti rfl) ⟨rfl, rfl, rfl⟩
theorem wr_step {τ τ1 : Nat → Nat → Int32} {k : Nat} {d : List Nat} (hk : k < d.length) (hl : d.length ≤ 260) (he : ∀ kk, kk ≠ 14 → τ1 kk = τ kk) (hj : ∀ j, j < k → τ1 14 j = nI (d.getD j 0)) :
    (∀ kk, kk ≠ 14 → va_up τ1 14 (upd (τ1 14) (nI k).toNatClampNeg (nI (d.getD k 0))) kk = τ kk) ∧ ∀ j, j < k + 1 → va_up τ1 14 (upd (τ1 14) (nI k).toNatClampNeg (nI (d.getD k 0))) 14 j = nI (d.getD j 0) := by
  rw [nI_clamp (by omega)]
  refine ⟨fun kk hkk => by rw [va_up_ne _ _ hkk]; exact he kk hkk, fun j h => ?_⟩
  rw [va_up_self]
  rcases Nat.lt_or_ge j k with q | q
  · rw [pk_un (by omega)]; exact hj j q
  · rw [show j = k by omega, pk_us]
theorem rt_same {σ σ' : Nat → Int32} {τ τ' : Nat → Nat → Int32} {ts : RT} (h : rt σ τ ts) (h7 : σ' 7 = σ 7) (h3 : τ' 3 = τ 3) (h4 : τ' 4 = τ 4) (h5 : τ' 5 = τ 5) (h6 : τ' 6 = τ 6) : rt σ' τ' ts := by
  unfold rt; rw [h7, h3, h4, h5, h6]; exact h
set_option maxRecDepth 100000 in
set_option maxHeartbeats 1000000 in
theorem rx_write_l (X : ev_X) (c0 : Nat) (σ : Nat → Int32) (τ : Nat → Nat → Int32) {ts : RT} (hR : rt σ τ ts) {i : Nat} (hi : i < ts.length) (h15 : σ 15 = nI (bys ts i).length) : ∀ (m : Nat) (k : Nat) (τ1 : Nat → Nat → Int32) (hk : k ≤ (bys ts i).length) (hm : (bys ts i).length + 1 ≤ k + m) (he : ∀ kk, kk ≠ 14 → τ1 kk = τ kk) (hj : ∀ j, j < k → τ1 14 j = nI ((bys ts i).getD j 0)), Rx X c0 m_Mod_write 21 [.ref (c0 + 16), .int (nI (i + 1)), .int (nI k)] [] σ τ1 (fun r σ' τ' => r = some (.int (nI (bys ts i).length)) ∧ σ' = σ ∧ (∀ kk, kk ≠ 14 → τ' kk = τ kk) ∧ ∀ j, j < (bys ts i).length → τ' 14 j = nI ((bys ts i).getD j 0)) := by
  intro m
  induction m with
  | zero => intro k τ1 hk hm he hj; exact absurd hm (by omega)
  | succ m ih =>
    intro k τ1 hk hm he hj
    refine Rx.go (fun _ => rfl) ?_
    refine Rx.go (fun _ => rfl) ?_
    refine Rx.get rfl rfl ?_
    refine Rx.top (y := nI (bys ts i).length) h15 ?_
    refine Rx.go (fun _ => rfl) ?_
    refine Rx.ite (fun c1 => ?_) (fun c1 => ?_)
    · replace c1 : (nI (bys ts i).length) ≤ (nI k) := of_decide_eq_true c1
      show Rx X c0 m_Mod_write 47 [.ref (c0 + 16), .int (nI (i + 1)), .int (nI k)] [] σ τ1 _
      refine Rx.go (fun _ => rfl) ?_
      refine Rx.get rfl rfl ?_
      show Rx X c0 m_Mod_write 51 [.ref (c0 + 16), .int (nI (i + 1)), .int (nI k)] [.int (σ 15)] σ τ1 _
      exact Rx.ret rfl (ev_reti rfl) ⟨congrArg (fun x => some (Value.int x)) h15, rfl, he, by rw [← isd_ge hR hi hk c1]; exact hj⟩
    · replace c1 : ¬ (nI (bys ts i).length) ≤ (nI k) := of_decide_eq_false c1
      have hlt := isd_lt hR hi hk c1
      show Rx X c0 m_Mod_write 29 [.ref (c0 + 16), .int (nI (i + 1)), .int (nI k)] [] σ τ1 _
      refine Rx.go (fun _ => rfl) ?_
      refine Rx.get rfl rfl ?_
      refine Rx.go (fun _ => rfl) ?_
      refine Rx.go (fun _ => rfl) ?_
      refine Rx.go (fun _ => rfl) ?_
      refine Rx.go (fun _ => rfl) ?_
      refine Rx.callE rfl rfl rfl rfl (rx_byteAt X c0 _ _ (rt_same hR rfl (he 3 (by decide)) (he 4 (by decide)) (he 5 (by decide)) (he 6 (by decide))) hi (j := k) (by have := (rt_ok hR hi).2.2.1; omega)) ?_
      show Rx X c0 m_Mod_write 40 [.ref (c0 + 16), .int (nI (i + 1)), .int (nI k)] [.int (nI ((bys ts i).getD k 0)), .int (nI k), .ref (c0 + 23)] σ τ1 _
      refine Rx.ast 14 rfl rfl (nI_ix (N := 260) (n := k) (by have := (rt_ok hR hi).2.2.1; omega) (by decide)) ?_
      refine Rx.go (fun _ => rfl) ?_
      show Rx X c0 m_Mod_write 44 [.ref (c0 + 16), .int (nI (i + 1)), .int ((nI k) + 1)] [] σ (va_up τ1 14 (upd (τ1 14) (nI k).toNatClampNeg (nI ((bys ts i).getD k 0)))) _
      refine Rx.go (fun _ => rfl) ?_
      show Rx X c0 m_Mod_write 21 [.ref (c0 + 16), .int (nI (i + 1)), .int ((nI k) + 1)] [] σ (va_up τ1 14 (upd (τ1 14) (nI k).toNatClampNeg (nI ((bys ts i).getD k 0)))) _
      rw [nI_1 k]
      obtain ⟨g1, g2⟩ := wr_step hlt (rt_ok hR hi).2.2.1 he hj
      exact ih (k + 1) _ hlt (by omega) g1 g2
set_option maxRecDepth 100000 in
set_option maxHeartbeats 1000000 in
theorem rx_write (X : ev_X) (c0 : Nat) (σ : Nat → Int32) (τ : Nat → Nat → Int32) {ts : RT} (hR : rt σ τ ts) {i : Nat} (hi : i < ts.length) : Rx X c0 m_Mod_write 0 [.ref (c0 + 16), .int (nI (i + 1)), ev_dead] [] σ τ (fun r σ' τ' => r = some (.int (nI (bys ts i).length)) ∧ σ' = upd σ 15 (nI (bys ts i).length) ∧ (∀ kk, kk ≠ 14 → τ' kk = τ kk) ∧ shw σ' τ' (bys ts i)) := by
  refine Rx.go (fun _ => rfl) ?_
  refine Rx.go (fun _ => rfl) ?_
  refine Rx.callE rfl rfl rfl rfl (rx_isT X c0 _ _ hR hi) ?_
  show Rx X c0 m_Mod_write 5 [.ref (c0 + 16), .int (nI (i + 1)), ev_dead] [.int 1] σ τ _
  refine Rx.go (fun _ => rfl) ?_
  show Rx X c0 m_Mod_write 10 [.ref (c0 + 16), .int (nI (i + 1)), ev_dead] [] σ τ _
  refine Rx.go (fun _ => rfl) ?_
  refine Rx.go (fun _ => rfl) ?_
  refine Rx.go (fun _ => rfl) ?_
  refine Rx.callE rfl rfl rfl rfl (rx_lenOf X c0 _ _ hR hi) ?_
  show Rx X c0 m_Mod_write 16 [.ref (c0 + 16), .int (nI (i + 1)), ev_dead] [.int (nI (bys ts i).length), .ref (c0 + 16)] σ τ _
  refine Rx.put rfl (by decide) rfl rfl ?_
  refine Rx.go (fun _ => rfl) ?_
  refine Rx.go (fun _ => rfl) ?_
  show Rx X c0 m_Mod_write 21 [.ref (c0 + 16), .int (nI (i + 1)), .int 0] [] (upd σ 15 (nI (bys ts i).length)) τ _
  show Rx X c0 m_Mod_write 21 [.ref (c0 + 16), .int (nI (i + 1)), .int 0] [] (upd σ 15 (nI (bys ts i).length)) τ _
  refine (rx_write_l X c0 (upd σ 15 (nI (bys ts i).length)) τ (rt_same hR rfl rfl rfl rfl rfl) hi rfl ((bys ts i).length + 1) 0 τ (Nat.zero_le _) (by omega) (fun _ _ => rfl) (fun j q => absurd q (by omega))).mono ?_
  rintro r σ' τ' ⟨rfl, rfl, e1, e2⟩
  exact ⟨rfl, rfl, e1, rfl, (rt_ok hR hi).2.2.1, e2, (rt_ok hR hi).1⟩
end
section
/-! itemAt, items, orderRows of the reference. (rows laid by wip/whole/rx7.py) -/
/-- the item that begins at k -/
def itA (l : List Nat) (k : Nat) : Nat := if l.getD k 0 = 92 then (if l.getD (k + 1) 0 = 110 then 10 else if l.getD (k + 1) 0 = 114 then 13 else if l.getD (k + 1) 0 = 116 then 9 else l.getD (k + 1) 0) else l.getD k 0
/-- how many items -/
def itl : List Nat → Nat
  | [] => 0
  | [_] => 1
  | b :: c :: s => if b = 92 then itl s + 1 else itl (c :: s) + 1
theorem drop_getD {l : List Nat} {k : Nat} (h : k < l.length) : l.drop k = l.getD k 0 :: l.drop (k + 1) := by
  rw [List.drop_eq_getElem_cons h, List.getD_eq_getElem?_getD, List.getElem?_eq_getElem h]; rfl
theorem itl_step {l : List Nat} {k : Nat} (h : k < l.length) : itl (l.drop k) = itl (l.drop (k + (if l.getD k 0 = 92 then 2 else 1))) + 1 := by
  rw [drop_getD h]
  by_cases hb : l.getD k 0 = 92
  · rw [if_pos hb, hb]
    by_cases h2 : k + 1 < l.length
    · rw [drop_getD h2]; simp [itl]
    · rw [List.drop_eq_nil_of_le (by omega), List.drop_eq_nil_of_le (by omega)]; rfl
  · rw [if_neg hb]
    by_cases h2 : k + 1 < l.length
    · rw [drop_getD h2]; simp only [itl, if_neg hb]
    · rw [List.drop_eq_nil_of_le (by omega)]; rfl
theorem take_getD {l : List Nat} {e k : Nat} (h : k < e) : (l.take e).getD k 0 = l.getD k 0 := by
  rw [List.getD_eq_getElem?_getD, List.getD_eq_getElem?_getD, List.getElem?_take_of_lt h]
/-- from p to e the bytes are the items A -/
def seg (l : List Nat) (e : Nat) : Nat → List Nat → Prop
  | p, [] => p = e
  | p, a :: A => p < e ∧ itA l p = a ∧ seg l e (p + (if l.getD p 0 = 92 then 2 else 1)) A
theorem seg_cons {l : List Nat} {e p : Nat} {A : List Nat} (h : seg l e p A) (hp : p < e) : ∃ a A', A = a :: A' ∧ itA l p = a ∧ seg l e (p + (if l.getD p 0 = 92 then 2 else 1)) A' := by
  cases A with
  | nil => exact absurd h (by simp only [seg]; omega)
  | cons a A' => exact ⟨a, A', rfl, h.2.1, h.2.2⟩
theorem seg_nil {l : List Nat} {e p : Nat} {A : List Nat} (h : seg l e p A) (hp : e ≤ p) : A = [] := by
  cases A with
  | nil => rfl
  | cons a A' => exact absurd h.1 (by omega)
def lexc : List Nat → List Nat → Int32
  | [], [] => 0
  | [], _ :: _ => -1
  | _ :: _, [] => 1
  | a :: A, b :: B => if a = b then lexc A B else sgn (nI a - nI b)
theorem itA_lt {σ : Nat → Int32} {τ : Nat → Nat → Int32} {ts : RT} (hR : rt σ τ ts) {i : Nat} (hi : i < ts.length) (k : Nat) : itA (bys ts i) k < 256 := by
  have h1 := (rt_ok hR hi).1 k
  have h2 := (rt_ok hR hi).1 (k + 1)
  unfold itA
  repeat' split
  all_goals omega
set_option maxRecDepth 100000 in
set_option maxHeartbeats 1000000 in
theorem rx_itemAt (X : ev_X) (c0 : Nat) (σ : Nat → Int32) (τ : Nat → Nat → Int32) {ts : RT} (hR : rt σ τ ts) {i : Nat} (hi : i < ts.length) {k : Nat} (hk : k < 2 ^ 19) : Rx X c0 m_Mod_itemAt 0 [.ref (c0 + 16), .int (nI (i + 1)), .int (nI k), ev_dead, ev_dead] [] σ τ (fun r σ' τ' => r = some (.int (nI (itA (bys ts i) k))) ∧ σ' = σ ∧ τ' = τ) := by
  refine Rx.go (fun _ => rfl) ?_
  refine Rx.go (fun _ => rfl) ?_
  refine Rx.go (fun _ => rfl) ?_
  refine Rx.callE rfl rfl rfl rfl (rx_byteAt X c0 _ _ hR hi (j := k) (by omega)) ?_
  show Rx X c0 m_Mod_itemAt 6 [.ref (c0 + 16), .int (nI (i + 1)), .int (nI k), ev_dead, ev_dead] [.int (nI ((bys ts i).getD k 0))] σ τ _
  refine Rx.go (fun _ => rfl) ?_
  show Rx X c0 m_Mod_itemAt 7 [.ref (c0 + 16), .int (nI (i + 1)), .int (nI k), .int (nI ((bys ts i).getD k 0)), ev_dead] [] σ τ _
  refine Rx.go (fun _ => rfl) ?_
  refine Rx.go (fun _ => rfl) ?_
  refine Rx.go (fun _ => rfl) ?_
  refine Rx.ite (fun c1 => ?_) (fun c1 => ?_)
  · replace c1 : (nI ((bys ts i).getD k 0)) = 92 := of_decide_eq_true c1
    show Rx X c0 m_Mod_itemAt 15 [.ref (c0 + 16), .int (nI (i + 1)), .int (nI k), .int (nI ((bys ts i).getD k 0)), ev_dead] [] σ τ _
    refine Rx.go (fun _ => rfl) ?_
    refine Rx.go (fun _ => rfl) ?_
    refine Rx.go (fun _ => rfl) ?_
    refine Rx.go (fun _ => rfl) ?_
    refine Rx.go (fun _ => rfl) ?_
    refine Rx.top (y := nI (k + 1)) (nI_1 _) ?_
    refine Rx.callE rfl rfl rfl rfl (rx_byteAt X c0 _ _ hR hi (j := k + 1) (by omega)) ?_
    show Rx X c0 m_Mod_itemAt 23 [.ref (c0 + 16), .int (nI (i + 1)), .int (nI k), .int (nI ((bys ts i).getD k 0)), ev_dead] [.int (nI ((bys ts i).getD (k + 1) 0))] σ τ _
    refine Rx.go (fun _ => rfl) ?_
    show Rx X c0 m_Mod_itemAt 25 [.ref (c0 + 16), .int (nI (i + 1)), .int (nI k), .int (nI ((bys ts i).getD k 0)), .int (nI ((bys ts i).getD (k + 1) 0))] [] σ τ _
    refine Rx.go (fun _ => rfl) ?_
    refine Rx.go (fun _ => rfl) ?_
    refine Rx.go (fun _ => rfl) ?_
    refine Rx.ite (fun c2 => ?_) (fun c2 => ?_)
    · replace c2 : ¬ (nI ((bys ts i).getD (k + 1) 0)) = 110 := of_decide_eq_true c2
      show Rx X c0 m_Mod_itemAt 37 [.ref (c0 + 16), .int (nI (i + 1)), .int (nI k), .int (nI ((bys ts i).getD k 0)), .int (nI ((bys ts i).getD (k + 1) 0))] [] σ τ _
      refine Rx.go (fun _ => rfl) ?_
      refine Rx.go (fun _ => rfl) ?_
      refine Rx.go (fun _ => rfl) ?_
      refine Rx.ite (fun c3 => ?_) (fun c3 => ?_)
      · replace c3 : ¬ (nI ((bys ts i).getD (k + 1) 0)) = 114 := of_decide_eq_true c3
        show Rx X c0 m_Mod_itemAt 49 [.ref (c0 + 16), .int (nI (i + 1)), .int (nI k), .int (nI ((bys ts i).getD k 0)), .int (nI ((bys ts i).getD (k + 1) 0))] [] σ τ _
        refine Rx.go (fun _ => rfl) ?_
        refine Rx.go (fun _ => rfl) ?_
        refine Rx.go (fun _ => rfl) ?_
        refine Rx.ite (fun c4 => ?_) (fun c4 => ?_)
        · replace c4 : ¬ (nI ((bys ts i).getD (k + 1) 0)) = 116 := of_decide_eq_true c4
          show Rx X c0 m_Mod_itemAt 61 [.ref (c0 + 16), .int (nI (i + 1)), .int (nI k), .int (nI ((bys ts i).getD k 0)), .int (nI ((bys ts i).getD (k + 1) 0))] [] σ τ _
          refine Rx.go (fun _ => rfl) ?_
          show Rx X c0 m_Mod_itemAt 63 [.ref (c0 + 16), .int (nI (i + 1)), .int (nI k), .int (nI ((bys ts i).getD k 0)), .int (nI ((bys ts i).getD (k + 1) 0))] [.int (nI ((bys ts i).getD (k + 1) 0))] σ τ _
          exact Rx.ret rfl (ev_reti rfl) ⟨by rw [itA, if_pos (bt_e hR hi (n := 92) rfl (by decide) c1), if_neg (bt_n (n := 110) rfl c2), if_neg (bt_n (n := 114) rfl c3), if_neg (bt_n (n := 116) rfl c4)], rfl, rfl⟩
        · replace c4 : (nI ((bys ts i).getD (k + 1) 0)) = 116 := Classical.not_not.mp (of_decide_eq_false c4)
          show Rx X c0 m_Mod_itemAt 56 [.ref (c0 + 16), .int (nI (i + 1)), .int (nI k), .int (nI ((bys ts i).getD k 0)), .int (nI ((bys ts i).getD (k + 1) 0))] [] σ τ _
          refine Rx.go (fun _ => rfl) ?_
          refine Rx.go (fun _ => rfl) ?_
          show Rx X c0 m_Mod_itemAt 63 [.ref (c0 + 16), .int (nI (i + 1)), .int (nI k), .int (nI ((bys ts i).getD k 0)), .int (nI ((bys ts i).getD (k + 1) 0))] [.int 9] σ τ _
          exact Rx.ret rfl (ev_reti rfl) ⟨by rw [itA, if_pos (bt_e hR hi (n := 92) rfl (by decide) c1), if_neg (bt_n (n := 110) rfl c2), if_neg (bt_n (n := 114) rfl c3), if_pos (bt_e hR hi (n := 116) rfl (by decide) c4)]; rfl, rfl, rfl⟩
      · replace c3 : (nI ((bys ts i).getD (k + 1) 0)) = 114 := Classical.not_not.mp (of_decide_eq_false c3)
        show Rx X c0 m_Mod_itemAt 44 [.ref (c0 + 16), .int (nI (i + 1)), .int (nI k), .int (nI ((bys ts i).getD k 0)), .int (nI ((bys ts i).getD (k + 1) 0))] [] σ τ _
        refine Rx.go (fun _ => rfl) ?_
        refine Rx.go (fun _ => rfl) ?_
        show Rx X c0 m_Mod_itemAt 63 [.ref (c0 + 16), .int (nI (i + 1)), .int (nI k), .int (nI ((bys ts i).getD k 0)), .int (nI ((bys ts i).getD (k + 1) 0))] [.int 13] σ τ _
        exact Rx.ret rfl (ev_reti rfl) ⟨by rw [itA, if_pos (bt_e hR hi (n := 92) rfl (by decide) c1), if_neg (bt_n (n := 110) rfl c2), if_pos (bt_e hR hi (n := 114) rfl (by decide) c3)]; rfl, rfl, rfl⟩
    · replace c2 : (nI ((bys ts i).getD (k + 1) 0)) = 110 := Classical.not_not.mp (of_decide_eq_false c2)
      show Rx X c0 m_Mod_itemAt 32 [.ref (c0 + 16), .int (nI (i + 1)), .int (nI k), .int (nI ((bys ts i).getD k 0)), .int (nI ((bys ts i).getD (k + 1) 0))] [] σ τ _
      refine Rx.go (fun _ => rfl) ?_
      refine Rx.go (fun _ => rfl) ?_
      show Rx X c0 m_Mod_itemAt 63 [.ref (c0 + 16), .int (nI (i + 1)), .int (nI k), .int (nI ((bys ts i).getD k 0)), .int (nI ((bys ts i).getD (k + 1) 0))] [.int 10] σ τ _
      exact Rx.ret rfl (ev_reti rfl) ⟨by rw [itA, if_pos (bt_e hR hi (n := 92) rfl (by decide) c1), if_pos (bt_e hR hi (n := 110) rfl (by decide) c2)]; rfl, rfl, rfl⟩
  · replace c1 : ¬ (nI ((bys ts i).getD k 0)) = 92 := of_decide_eq_false c1
    show Rx X c0 m_Mod_itemAt 13 [.ref (c0 + 16), .int (nI (i + 1)), .int (nI k), .int (nI ((bys ts i).getD k 0)), ev_dead] [] σ τ _
    refine Rx.go (fun _ => rfl) ?_
    show Rx X c0 m_Mod_itemAt 14 [.ref (c0 + 16), .int (nI (i + 1)), .int (nI k), .int (nI ((bys ts i).getD k 0)), ev_dead] [.int (nI ((bys ts i).getD k 0))] σ τ _
    exact Rx.ret rfl (ev_reti rfl) ⟨by rw [itA, if_neg (bt_n (n := 92) rfl c1)], rfl, rfl⟩
theorem it_lt {e k : Nat} (h1 : e < 2 ^ 31) (h2 : k < 2 ^ 31) (c : ¬ nI e ≤ nI k) : k < e := by
  rw [nI_leI h1 h2] at c; omega
theorem it_ge {e k : Nat} (h1 : e < 2 ^ 31) (h2 : k < 2 ^ 31) (c : nI e ≤ nI k) : e ≤ k := by
  rw [nI_leI h1 h2] at c; exact c
set_option maxRecDepth 100000 in
set_option maxHeartbeats 1000000 in
theorem rx_items_l (X : ev_X) (c0 : Nat) (σ : Nat → Int32) (τ : Nat → Nat → Int32) {ts : RT} (hR : rt σ τ ts) {i : Nat} (hi : i < ts.length) {e R f0 : Nat} (he : e ≤ (bys ts i).length) : ∀ (m : Nat) (k a : Nat) (hk : k ≤ e + 1) (hm : e + 2 ≤ k + m) (hr : a + itl (((bys ts i).take e).drop k) = R), Rx X c0 m_Mod_items 6 [.ref (c0 + 16), .int (nI (i + 1)), .int (nI f0), .int (nI e), .int (nI a), .int (nI k)] [] σ τ (fun r σ' τ' => r = some (.int (nI R)) ∧ σ' = σ ∧ τ' = τ) := by
  intro m
  induction m with
  | zero => intro k a hk hm hr; exact absurd hm (by omega)
  | succ m ih =>
    intro k a hk hm hr
    refine Rx.go (fun _ => rfl) ?_
    refine Rx.go (fun _ => rfl) ?_
    refine Rx.go (fun _ => rfl) ?_
    refine Rx.ite (fun c1 => ?_) (fun c1 => ?_)
    · replace c1 : (nI e) ≤ (nI k) := of_decide_eq_true c1
      have hge : e ≤ k := it_ge (by have := (rt_ok hR hi).2.2.1; omega) (by have := (rt_ok hR hi).2.2.1; omega) c1
      show Rx X c0 m_Mod_items 36 [.ref (c0 + 16), .int (nI (i + 1)), .int (nI f0), .int (nI e), .int (nI a), .int (nI k)] [] σ τ _
      refine Rx.go (fun _ => rfl) ?_
      show Rx X c0 m_Mod_items 38 [.ref (c0 + 16), .int (nI (i + 1)), .int (nI f0), .int (nI e), .int (nI a), .int (nI k)] [.int (nI a)] σ τ _
      exact Rx.ret rfl (ev_reti rfl) ⟨by rw [← hr, List.drop_eq_nil_of_le (by rw [List.length_take]; omega)]; rfl, rfl, rfl⟩
    · replace c1 : ¬ (nI e) ≤ (nI k) := of_decide_eq_false c1
      have hlt : k < e := it_lt (by have := (rt_ok hR hi).2.2.1; omega) (by have := (rt_ok hR hi).2.2.1; omega) c1
      show Rx X c0 m_Mod_items 12 [.ref (c0 + 16), .int (nI (i + 1)), .int (nI f0), .int (nI e), .int (nI a), .int (nI k)] [] σ τ _
      refine Rx.go (fun _ => rfl) ?_
      refine Rx.go (fun _ => rfl) ?_
      refine Rx.go (fun _ => rfl) ?_
      refine Rx.callE rfl rfl rfl rfl (rx_byteAt X c0 _ _ hR hi (j := k) (by have := (rt_ok hR hi).2.2.1; omega)) ?_
      show Rx X c0 m_Mod_items 19 [.ref (c0 + 16), .int (nI (i + 1)), .int (nI f0), .int (nI e), .int (nI a), .int (nI k)] [.int (nI ((bys ts i).getD k 0))] σ τ _
      refine Rx.go (fun _ => rfl) ?_
      refine Rx.go (fun _ => rfl) ?_
      refine Rx.ite (fun c2 => ?_) (fun c2 => ?_)
      · replace c2 : ¬ (nI ((bys ts i).getD k 0)) = 92 := of_decide_eq_true c2
        show Rx X c0 m_Mod_items 27 [.ref (c0 + 16), .int (nI (i + 1)), .int (nI f0), .int (nI e), .int (nI a), .int (nI k)] [] σ τ _
        refine Rx.go (fun _ => rfl) ?_
        show Rx X c0 m_Mod_items 30 [.ref (c0 + 16), .int (nI (i + 1)), .int (nI f0), .int (nI e), .int ((nI a) + 1), .int (nI k)] [] σ τ _
        refine Rx.go (fun _ => rfl) ?_
        show Rx X c0 m_Mod_items 33 [.ref (c0 + 16), .int (nI (i + 1)), .int (nI f0), .int (nI e), .int ((nI a) + 1), .int ((nI k) + 1)] [] σ τ _
        refine Rx.go (fun _ => rfl) ?_
        show Rx X c0 m_Mod_items 6 [.ref (c0 + 16), .int (nI (i + 1)), .int (nI f0), .int (nI e), .int ((nI a) + 1), .int ((nI k) + 1)] [] σ τ _
        rw [nI_1 k, nI_1 a]
        exact ih (k + 1) (a + 1) (by omega) (by omega) (by rw [← hr, itl_step (l := (bys ts i).take e) (k := k) (by rw [List.length_take]; omega), take_getD hlt, if_neg (bt_n (n := 92) rfl c2)]; omega)
      · replace c2 : (nI ((bys ts i).getD k 0)) = 92 := Classical.not_not.mp (of_decide_eq_false c2)
        show Rx X c0 m_Mod_items 24 [.ref (c0 + 16), .int (nI (i + 1)), .int (nI f0), .int (nI e), .int (nI a), .int (nI k)] [] σ τ _
        refine Rx.go (fun _ => rfl) ?_
        show Rx X c0 m_Mod_items 27 [.ref (c0 + 16), .int (nI (i + 1)), .int (nI f0), .int (nI e), .int (nI a), .int ((nI k) + 1)] [] σ τ _
        refine Rx.go (fun _ => rfl) ?_
        show Rx X c0 m_Mod_items 30 [.ref (c0 + 16), .int (nI (i + 1)), .int (nI f0), .int (nI e), .int ((nI a) + 1), .int ((nI k) + 1)] [] σ τ _
        refine Rx.go (fun _ => rfl) ?_
        show Rx X c0 m_Mod_items 33 [.ref (c0 + 16), .int (nI (i + 1)), .int (nI f0), .int (nI e), .int ((nI a) + 1), .int (((nI k) + 1) + 1)] [] σ τ _
        refine Rx.go (fun _ => rfl) ?_
        show Rx X c0 m_Mod_items 6 [.ref (c0 + 16), .int (nI (i + 1)), .int (nI f0), .int (nI e), .int ((nI a) + 1), .int (((nI k) + 1) + 1)] [] σ τ _
        rw [nI_1 k, nI_1 (k + 1), nI_1 a]
        exact ih (k + 1 + 1) (a + 1) (by omega) (by omega) (by rw [← hr, itl_step (l := (bys ts i).take e) (k := k) (by rw [List.length_take]; omega), take_getD hlt, if_pos (bt_e hR hi (n := 92) rfl (by decide) c2), show k + 2 = k + 1 + 1 from rfl]; omega)
set_option maxRecDepth 100000 in
set_option maxHeartbeats 1000000 in
theorem rx_items (X : ev_X) (c0 : Nat) (σ : Nat → Int32) (τ : Nat → Nat → Int32) {ts : RT} (hR : rt σ τ ts) {i : Nat} (hi : i < ts.length) {f e : Nat} (hf : f ≤ e + 1) (he : e ≤ (bys ts i).length) : Rx X c0 m_Mod_items 0 [.ref (c0 + 16), .int (nI (i + 1)), .int (nI f), .int (nI e), ev_dead, ev_dead] [] σ τ (fun r σ' τ' => r = some (.int (nI (itl (((bys ts i).take e).drop f)))) ∧ σ' = σ ∧ τ' = τ) := by
  refine Rx.go (fun _ => rfl) ?_
  refine Rx.go (fun _ => rfl) ?_
  show Rx X c0 m_Mod_items 3 [.ref (c0 + 16), .int (nI (i + 1)), .int (nI f), .int (nI e), .int 0, ev_dead] [] σ τ _
  refine Rx.go (fun _ => rfl) ?_
  refine Rx.go (fun _ => rfl) ?_
  show Rx X c0 m_Mod_items 6 [.ref (c0 + 16), .int (nI (i + 1)), .int (nI f), .int (nI e), .int 0, .int (nI f)] [] σ τ _
  show Rx X c0 m_Mod_items 6 [.ref (c0 + 16), .int (nI (i + 1)), .int (nI f), .int (nI e), .int 0, .int (nI f)] [] σ τ _
  exact rx_items_l X c0 σ τ hR hi he (e + 2) f 0 hf (by omega) (Nat.zero_add _)
theorem or_ab {σ : Nat → Int32} {τ : Nat → Nat → Int32} {ts : RT} (hR : rt σ τ ts) {ia ib p q a b : Nat} (hia : ia < ts.length) (hib : ib < ts.length) (ha : itA (bys ts ia) p = a) (hb : itA (bys ts ib) q = b) (c : nI (itA (bys ts ia) p) = nI (itA (bys ts ib) q)) : a = b := by
  have := (nI_eq (by have := itA_lt hR hia p; omega) (by have := itA_lt hR hib q; omega)).mp c
  omega
theorem seg_le {l : List Nat} {e p n : Nat} {A : List Nat} (h : seg l e p A) (hn : e ≤ n) : p ≤ n := by
  cases A with
  | nil => have : p = e := h; omega
  | cons a A => have := h.1; omega
set_option maxRecDepth 100000 in
set_option maxHeartbeats 1000000 in
theorem rx_orderRows_l (X : ev_X) (c0 : Nat) (σ : Nat → Int32) (τ : Nat → Nat → Int32) {ts : RT} (hR : rt σ τ ts) {ia ib : Nat} (hia : ia < ts.length) (hib : ib < ts.length) {ea eb : Nat} (hea : ea ≤ (bys ts ia).length) (heb : eb ≤ (bys ts ib).length) (z1 z2 : Int32) : ∀ (m : Nat) (A B : List Nat) (p q : Nat) (hm : A.length < m) (hpl : p ≤ (bys ts ia).length) (hql : q ≤ (bys ts ib).length) (ha : seg (bys ts ia) ea p A) (hb : seg (bys ts ib) eb q B), Rx X c0 m_Mod_orderRows 7 [.ref (c0 + 16), .int (nI (ia + 1)), .int z1, .int (nI ea), .int (nI (ib + 1)), .int z2, .int (nI eb), .int (nI p), .int (nI q)] [] σ τ (fun r σ' τ' => r = some (.int (lexc A B)) ∧ σ' = σ ∧ τ' = τ) := by
  intro m
  induction m with
  | zero => intro A B p q hm hpl hql ha hb; exact absurd hm (Nat.not_lt_zero _)
  | succ m ih =>
    intro A B p q hm hpl hql ha hb
    refine Rx.go (fun _ => rfl) ?_
    refine Rx.go (fun _ => rfl) ?_
    refine Rx.go (fun _ => rfl) ?_
    refine Rx.ite (fun c1 => ?_) (fun c1 => ?_)
    · replace c1 : (nI ea) ≤ (nI p) := of_decide_eq_true c1
      have hge : ea ≤ p := it_ge (by have := (rt_ok hR hia).2.2.1; omega) (by have := (rt_ok hR hia).2.2.1; omega) c1
      show Rx X c0 m_Mod_orderRows 86 [.ref (c0 + 16), .int (nI (ia + 1)), .int z1, .int (nI ea), .int (nI (ib + 1)), .int z2, .int (nI eb), .int (nI p), .int (nI q)] [] σ τ _
      refine Rx.go (fun _ => rfl) ?_
      refine Rx.go (fun _ => rfl) ?_
      refine Rx.go (fun _ => rfl) ?_
      refine Rx.ite (fun c2 => ?_) (fun c2 => ?_)
      · replace c2 : (nI ea) ≤ (nI p) := of_decide_eq_true c2
        show Rx X c0 m_Mod_orderRows 119 [.ref (c0 + 16), .int (nI (ia + 1)), .int z1, .int (nI ea), .int (nI (ib + 1)), .int z2, .int (nI eb), .int (nI p), .int (nI q)] [] σ τ _
        refine Rx.go (fun _ => rfl) ?_
        refine Rx.go (fun _ => rfl) ?_
        refine Rx.go (fun _ => rfl) ?_
        refine Rx.ite (fun c3 => ?_) (fun c3 => ?_)
        · replace c3 : (nI ea) ≤ (nI p) := of_decide_eq_true c3
          show Rx X c0 m_Mod_orderRows 129 [.ref (c0 + 16), .int (nI (ia + 1)), .int z1, .int (nI ea), .int (nI (ib + 1)), .int z2, .int (nI eb), .int (nI p), .int (nI q)] [] σ τ _
          refine Rx.go (fun _ => rfl) ?_
          refine Rx.go (fun _ => rfl) ?_
          refine Rx.go (fun _ => rfl) ?_
          refine Rx.ite (fun c4 => ?_) (fun c4 => ?_)
          · replace c4 : (nI eb) ≤ (nI q) := of_decide_eq_true c4
            show Rx X c0 m_Mod_orderRows 140 [.ref (c0 + 16), .int (nI (ia + 1)), .int z1, .int (nI ea), .int (nI (ib + 1)), .int z2, .int (nI eb), .int (nI p), .int (nI q)] [] σ τ _
            refine Rx.go (fun _ => rfl) ?_
            show Rx X c0 m_Mod_orderRows 141 [.ref (c0 + 16), .int (nI (ia + 1)), .int z1, .int (nI ea), .int (nI (ib + 1)), .int z2, .int (nI eb), .int (nI p), .int (nI q)] [.int 0] σ τ _
            rw [seg_nil ha hge, seg_nil hb (it_ge (by have := (rt_ok hR hib).2.2.1; omega) (by have := (rt_ok hR hib).2.2.1; omega) c4)]
            exact Rx.ret rfl (ev_reti rfl) ⟨rfl, rfl, rfl⟩
          · replace c4 : ¬ (nI eb) ≤ (nI q) := of_decide_eq_false c4
            show Rx X c0 m_Mod_orderRows 136 [.ref (c0 + 16), .int (nI (ia + 1)), .int z1, .int (nI ea), .int (nI (ib + 1)), .int z2, .int (nI eb), .int (nI p), .int (nI q)] [] σ τ _
            refine Rx.go (fun _ => rfl) ?_
            refine Rx.go (fun _ => rfl) ?_
            show Rx X c0 m_Mod_orderRows 141 [.ref (c0 + 16), .int (nI (ia + 1)), .int z1, .int (nI ea), .int (nI (ib + 1)), .int z2, .int (nI eb), .int (nI p), .int (nI q)] [.int (-1)] σ τ _
            rw [seg_nil ha hge]
            obtain ⟨b, B', rfl, -, -⟩ := seg_cons hb (it_lt (by have := (rt_ok hR hib).2.2.1; omega) (by have := (rt_ok hR hib).2.2.1; omega) c4)
            exact Rx.ret rfl (ev_reti rfl) ⟨rfl, rfl, rfl⟩
        · replace c3 : ¬ (nI ea) ≤ (nI p) := of_decide_eq_false c3
          exact absurd c1 c3
      · replace c2 : ¬ (nI ea) ≤ (nI p) := of_decide_eq_false c2
        exact absurd c1 c2
    · replace c1 : ¬ (nI ea) ≤ (nI p) := of_decide_eq_false c1
      obtain ⟨a, A', rfl, ha1, ha2⟩ := seg_cons ha (it_lt (by have := (rt_ok hR hia).2.2.1; omega) (by have := (rt_ok hR hia).2.2.1; omega) c1)
      show Rx X c0 m_Mod_orderRows 13 [.ref (c0 + 16), .int (nI (ia + 1)), .int z1, .int (nI ea), .int (nI (ib + 1)), .int z2, .int (nI eb), .int (nI p), .int (nI q)] [] σ τ _
      refine Rx.go (fun _ => rfl) ?_
      refine Rx.go (fun _ => rfl) ?_
      refine Rx.go (fun _ => rfl) ?_
      refine Rx.ite (fun c5 => ?_) (fun c5 => ?_)
      · replace c5 : (nI eb) ≤ (nI q) := of_decide_eq_true c5
        have hgeb : eb ≤ q := it_ge (by have := (rt_ok hR hib).2.2.1; omega) (by have := (rt_ok hR hib).2.2.1; omega) c5
        show Rx X c0 m_Mod_orderRows 86 [.ref (c0 + 16), .int (nI (ia + 1)), .int z1, .int (nI ea), .int (nI (ib + 1)), .int z2, .int (nI eb), .int (nI p), .int (nI q)] [] σ τ _
        refine Rx.go (fun _ => rfl) ?_
        refine Rx.go (fun _ => rfl) ?_
        refine Rx.go (fun _ => rfl) ?_
        refine Rx.ite (fun c6 => ?_) (fun c6 => ?_)
        · replace c6 : (nI ea) ≤ (nI p) := of_decide_eq_true c6
          exact absurd c6 c1
        · replace c6 : ¬ (nI ea) ≤ (nI p) := of_decide_eq_false c6
          show Rx X c0 m_Mod_orderRows 92 [.ref (c0 + 16), .int (nI (ia + 1)), .int z1, .int (nI ea), .int (nI (ib + 1)), .int z2, .int (nI eb), .int (nI p), .int (nI q)] [] σ τ _
          refine Rx.go (fun _ => rfl) ?_
          refine Rx.go (fun _ => rfl) ?_
          refine Rx.go (fun _ => rfl) ?_
          refine Rx.ite (fun c7 => ?_) (fun c7 => ?_)
          · replace c7 : (nI eb) ≤ (nI q) := of_decide_eq_true c7
            show Rx X c0 m_Mod_orderRows 119 [.ref (c0 + 16), .int (nI (ia + 1)), .int z1, .int (nI ea), .int (nI (ib + 1)), .int z2, .int (nI eb), .int (nI p), .int (nI q)] [] σ τ _
            refine Rx.go (fun _ => rfl) ?_
            refine Rx.go (fun _ => rfl) ?_
            refine Rx.go (fun _ => rfl) ?_
            refine Rx.ite (fun c8 => ?_) (fun c8 => ?_)
            · replace c8 : (nI ea) ≤ (nI p) := of_decide_eq_true c8
              exact absurd c8 c1
            · replace c8 : ¬ (nI ea) ≤ (nI p) := of_decide_eq_false c8
              show Rx X c0 m_Mod_orderRows 125 [.ref (c0 + 16), .int (nI (ia + 1)), .int z1, .int (nI ea), .int (nI (ib + 1)), .int z2, .int (nI eb), .int (nI p), .int (nI q)] [] σ τ _
              refine Rx.go (fun _ => rfl) ?_
              refine Rx.go (fun _ => rfl) ?_
              show Rx X c0 m_Mod_orderRows 141 [.ref (c0 + 16), .int (nI (ia + 1)), .int z1, .int (nI ea), .int (nI (ib + 1)), .int z2, .int (nI eb), .int (nI p), .int (nI q)] [.int 1] σ τ _
              rw [seg_nil hb hgeb]
              exact Rx.ret rfl (ev_reti rfl) ⟨rfl, rfl, rfl⟩
          · replace c7 : ¬ (nI eb) ≤ (nI q) := of_decide_eq_false c7
            exact absurd c5 c7
      · replace c5 : ¬ (nI eb) ≤ (nI q) := of_decide_eq_false c5
        obtain ⟨b, B', rfl, hb1, hb2⟩ := seg_cons hb (it_lt (by have := (rt_ok hR hib).2.2.1; omega) (by have := (rt_ok hR hib).2.2.1; omega) c5)
        show Rx X c0 m_Mod_orderRows 20 [.ref (c0 + 16), .int (nI (ia + 1)), .int z1, .int (nI ea), .int (nI (ib + 1)), .int z2, .int (nI eb), .int (nI p), .int (nI q)] [] σ τ _
        refine Rx.go (fun _ => rfl) ?_
        refine Rx.go (fun _ => rfl) ?_
        refine Rx.go (fun _ => rfl) ?_
        refine Rx.callE rfl rfl rfl rfl (rx_itemAt X c0 _ _ hR hia (k := p) (by have := (rt_ok hR hia).2.2.1; omega)) ?_
        show Rx X c0 m_Mod_orderRows 27 [.ref (c0 + 16), .int (nI (ia + 1)), .int z1, .int (nI ea), .int (nI (ib + 1)), .int z2, .int (nI eb), .int (nI p), .int (nI q)] [.int (nI (itA (bys ts ia) p))] σ τ _
        refine Rx.go (fun _ => rfl) ?_
        refine Rx.go (fun _ => rfl) ?_
        refine Rx.go (fun _ => rfl) ?_
        refine Rx.callE rfl rfl rfl rfl (rx_itemAt X c0 _ _ hR hib (k := q) (by have := (rt_ok hR hib).2.2.1; omega)) ?_
        show Rx X c0 m_Mod_orderRows 35 [.ref (c0 + 16), .int (nI (ia + 1)), .int z1, .int (nI ea), .int (nI (ib + 1)), .int z2, .int (nI eb), .int (nI p), .int (nI q)] [.int (nI (itA (bys ts ib) q)), .int (nI (itA (bys ts ia) p))] σ τ _
        refine Rx.go (fun _ => rfl) ?_
        refine Rx.ite (fun c9 => ?_) (fun c9 => ?_)
        · replace c9 : ¬ (nI (itA (bys ts ia) p)) = (nI (itA (bys ts ib) q)) := of_decide_eq_true c9
          show Rx X c0 m_Mod_orderRows 86 [.ref (c0 + 16), .int (nI (ia + 1)), .int z1, .int (nI ea), .int (nI (ib + 1)), .int z2, .int (nI eb), .int (nI p), .int (nI q)] [] σ τ _
          refine Rx.go (fun _ => rfl) ?_
          refine Rx.go (fun _ => rfl) ?_
          refine Rx.go (fun _ => rfl) ?_
          refine Rx.ite (fun c10 => ?_) (fun c10 => ?_)
          · replace c10 : (nI ea) ≤ (nI p) := of_decide_eq_true c10
            exact absurd c10 c1
          · replace c10 : ¬ (nI ea) ≤ (nI p) := of_decide_eq_false c10
            show Rx X c0 m_Mod_orderRows 92 [.ref (c0 + 16), .int (nI (ia + 1)), .int z1, .int (nI ea), .int (nI (ib + 1)), .int z2, .int (nI eb), .int (nI p), .int (nI q)] [] σ τ _
            refine Rx.go (fun _ => rfl) ?_
            refine Rx.go (fun _ => rfl) ?_
            refine Rx.go (fun _ => rfl) ?_
            refine Rx.ite (fun c11 => ?_) (fun c11 => ?_)
            · replace c11 : (nI eb) ≤ (nI q) := of_decide_eq_true c11
              exact absurd c11 c5
            · replace c11 : ¬ (nI eb) ≤ (nI q) := of_decide_eq_false c11
              show Rx X c0 m_Mod_orderRows 99 [.ref (c0 + 16), .int (nI (ia + 1)), .int z1, .int (nI ea), .int (nI (ib + 1)), .int z2, .int (nI eb), .int (nI p), .int (nI q)] [] σ τ _
              refine Rx.go (fun _ => rfl) ?_
              refine Rx.go (fun _ => rfl) ?_
              refine Rx.go (fun _ => rfl) ?_
              refine Rx.callE rfl rfl rfl rfl (rx_itemAt X c0 _ _ hR hia (k := p) (by have := (rt_ok hR hia).2.2.1; omega)) ?_
              show Rx X c0 m_Mod_orderRows 106 [.ref (c0 + 16), .int (nI (ia + 1)), .int z1, .int (nI ea), .int (nI (ib + 1)), .int z2, .int (nI eb), .int (nI p), .int (nI q)] [.int (nI (itA (bys ts ia) p))] σ τ _
              refine Rx.go (fun _ => rfl) ?_
              refine Rx.go (fun _ => rfl) ?_
              refine Rx.go (fun _ => rfl) ?_
              refine Rx.callE rfl rfl rfl rfl (rx_itemAt X c0 _ _ hR hib (k := q) (by have := (rt_ok hR hib).2.2.1; omega)) ?_
              show Rx X c0 m_Mod_orderRows 114 [.ref (c0 + 16), .int (nI (ia + 1)), .int z1, .int (nI ea), .int (nI (ib + 1)), .int z2, .int (nI eb), .int (nI p), .int (nI q)] [.int (nI (itA (bys ts ib) q)), .int (nI (itA (bys ts ia) p))] σ τ _
              refine Rx.go (fun _ => rfl) ?_
              refine Rx.scallE rfl rfl rfl rfl (sx_Mod_sign X _) ?_
              show Rx X c0 m_Mod_orderRows 118 [.ref (c0 + 16), .int (nI (ia + 1)), .int z1, .int (nI ea), .int (nI (ib + 1)), .int z2, .int (nI eb), .int (nI p), .int (nI q)] [.int (sgn ((nI (itA (bys ts ia) p)) - (nI (itA (bys ts ib) q))))] σ τ _
              show Rx X c0 m_Mod_orderRows 118 [.ref (c0 + 16), .int (nI (ia + 1)), .int z1, .int (nI ea), .int (nI (ib + 1)), .int z2, .int (nI eb), .int (nI p), .int (nI q)] [.int (sgn ((nI (itA (bys ts ia) p)) - (nI (itA (bys ts ib) q))))] σ τ _
              exact Rx.ret rfl (ev_reti rfl) ⟨by rw [ha1, hb1, show lexc (a :: A') (b :: B') = _ from if_neg (fun z => c9 (by rw [ha1, hb1, z]))], rfl, rfl⟩
        · replace c9 : (nI (itA (bys ts ia) p)) = (nI (itA (bys ts ib) q)) := Classical.not_not.mp (of_decide_eq_false c9)
          show Rx X c0 m_Mod_orderRows 38 [.ref (c0 + 16), .int (nI (ia + 1)), .int z1, .int (nI ea), .int (nI (ib + 1)), .int z2, .int (nI eb), .int (nI p), .int (nI q)] [] σ τ _
          refine Rx.go (fun _ => rfl) ?_
          refine Rx.go (fun _ => rfl) ?_
          refine Rx.go (fun _ => rfl) ?_
          refine Rx.go (fun _ => rfl) ?_
          refine Rx.callE rfl rfl rfl rfl (rx_byteAt X c0 _ _ hR hia (j := p) (by have := (rt_ok hR hia).2.2.1; omega)) ?_
          show Rx X c0 m_Mod_orderRows 47 [.ref (c0 + 16), .int (nI (ia + 1)), .int z1, .int (nI ea), .int (nI (ib + 1)), .int z2, .int (nI eb), .int (nI p), .int (nI q)] [.int (nI ((bys ts ia).getD p 0)), .int (nI p)] σ τ _
          refine Rx.go (fun _ => rfl) ?_
          refine Rx.go (fun _ => rfl) ?_
          refine Rx.ite (fun c12 => ?_) (fun c12 => ?_)
          · replace c12 : ¬ (nI ((bys ts ia).getD p 0)) = 92 := of_decide_eq_true c12
            show Rx X c0 m_Mod_orderRows 56 [.ref (c0 + 16), .int (nI (ia + 1)), .int z1, .int (nI ea), .int (nI (ib + 1)), .int z2, .int (nI eb), .int (nI p), .int (nI q)] [.int (nI p)] σ τ _
            refine Rx.go (fun _ => rfl) ?_
            refine Rx.go (fun _ => rfl) ?_
            refine Rx.top (y := nI (p + 1)) (nI_1 _) ?_
            refine Rx.go (fun _ => rfl) ?_
            show Rx X c0 m_Mod_orderRows 60 [.ref (c0 + 16), .int (nI (ia + 1)), .int z1, .int (nI ea), .int (nI (ib + 1)), .int z2, .int (nI eb), .int (nI (p + 1)), .int (nI q)] [] σ τ _
            refine Rx.go (fun _ => rfl) ?_
            refine Rx.go (fun _ => rfl) ?_
            refine Rx.go (fun _ => rfl) ?_
            refine Rx.go (fun _ => rfl) ?_
            refine Rx.callE rfl rfl rfl rfl (rx_byteAt X c0 _ _ hR hib (j := q) (by have := (rt_ok hR hib).2.2.1; omega)) ?_
            show Rx X c0 m_Mod_orderRows 70 [.ref (c0 + 16), .int (nI (ia + 1)), .int z1, .int (nI ea), .int (nI (ib + 1)), .int z2, .int (nI eb), .int (nI (p + 1)), .int (nI q)] [.int (nI ((bys ts ib).getD q 0)), .int (nI q)] σ τ _
            refine Rx.go (fun _ => rfl) ?_
            refine Rx.go (fun _ => rfl) ?_
            refine Rx.ite (fun c13 => ?_) (fun c13 => ?_)
            · replace c13 : ¬ (nI ((bys ts ib).getD q 0)) = 92 := of_decide_eq_true c13
              show Rx X c0 m_Mod_orderRows 79 [.ref (c0 + 16), .int (nI (ia + 1)), .int z1, .int (nI ea), .int (nI (ib + 1)), .int z2, .int (nI eb), .int (nI (p + 1)), .int (nI q)] [.int (nI q)] σ τ _
              refine Rx.go (fun _ => rfl) ?_
              refine Rx.go (fun _ => rfl) ?_
              refine Rx.top (y := nI (q + 1)) (nI_1 _) ?_
              refine Rx.go (fun _ => rfl) ?_
              show Rx X c0 m_Mod_orderRows 83 [.ref (c0 + 16), .int (nI (ia + 1)), .int z1, .int (nI ea), .int (nI (ib + 1)), .int z2, .int (nI eb), .int (nI (p + 1)), .int (nI (q + 1))] [] σ τ _
              refine Rx.go (fun _ => rfl) ?_
              show Rx X c0 m_Mod_orderRows 7 [.ref (c0 + 16), .int (nI (ia + 1)), .int z1, .int (nI ea), .int (nI (ib + 1)), .int z2, .int (nI eb), .int (nI (p + 1)), .int (nI (q + 1))] [] σ τ _
              rw [if_neg (bt_n (n := 92) rfl c12)] at ha2
              rw [if_neg (bt_n (n := 92) rfl c13)] at hb2
              rw [show lexc (a :: A') (b :: B') = lexc A' B' from if_pos (or_ab hR hia hib ha1 hb1 c9)]
              exact ih A' B' _ _ (by simpa using hm) (seg_le ha2 hea) (seg_le hb2 heb) ha2 hb2
            · replace c13 : (nI ((bys ts ib).getD q 0)) = 92 := Classical.not_not.mp (of_decide_eq_false c13)
              show Rx X c0 m_Mod_orderRows 75 [.ref (c0 + 16), .int (nI (ia + 1)), .int z1, .int (nI ea), .int (nI (ib + 1)), .int z2, .int (nI eb), .int (nI (p + 1)), .int (nI q)] [.int (nI q)] σ τ _
              refine Rx.go (fun _ => rfl) ?_
              refine Rx.go (fun _ => rfl) ?_
              refine Rx.go (fun _ => rfl) ?_
              refine Rx.top (y := nI (q + 2)) (nI_add _ 2) ?_
              refine Rx.go (fun _ => rfl) ?_
              show Rx X c0 m_Mod_orderRows 83 [.ref (c0 + 16), .int (nI (ia + 1)), .int z1, .int (nI ea), .int (nI (ib + 1)), .int z2, .int (nI eb), .int (nI (p + 1)), .int (nI (q + 2))] [] σ τ _
              refine Rx.go (fun _ => rfl) ?_
              show Rx X c0 m_Mod_orderRows 7 [.ref (c0 + 16), .int (nI (ia + 1)), .int z1, .int (nI ea), .int (nI (ib + 1)), .int z2, .int (nI eb), .int (nI (p + 1)), .int (nI (q + 2))] [] σ τ _
              rw [if_neg (bt_n (n := 92) rfl c12)] at ha2
              rw [if_pos (bt_e hR hib (n := 92) rfl (by decide) c13)] at hb2
              rw [show lexc (a :: A') (b :: B') = lexc A' B' from if_pos (or_ab hR hia hib ha1 hb1 c9)]
              exact ih A' B' _ _ (by simpa using hm) (seg_le ha2 hea) (seg_le hb2 heb) ha2 hb2
          · replace c12 : (nI ((bys ts ia).getD p 0)) = 92 := Classical.not_not.mp (of_decide_eq_false c12)
            show Rx X c0 m_Mod_orderRows 52 [.ref (c0 + 16), .int (nI (ia + 1)), .int z1, .int (nI ea), .int (nI (ib + 1)), .int z2, .int (nI eb), .int (nI p), .int (nI q)] [.int (nI p)] σ τ _
            refine Rx.go (fun _ => rfl) ?_
            refine Rx.go (fun _ => rfl) ?_
            refine Rx.go (fun _ => rfl) ?_
            refine Rx.top (y := nI (p + 2)) (nI_add _ 2) ?_
            refine Rx.go (fun _ => rfl) ?_
            show Rx X c0 m_Mod_orderRows 60 [.ref (c0 + 16), .int (nI (ia + 1)), .int z1, .int (nI ea), .int (nI (ib + 1)), .int z2, .int (nI eb), .int (nI (p + 2)), .int (nI q)] [] σ τ _
            refine Rx.go (fun _ => rfl) ?_
            refine Rx.go (fun _ => rfl) ?_
            refine Rx.go (fun _ => rfl) ?_
            refine Rx.go (fun _ => rfl) ?_
            refine Rx.callE rfl rfl rfl rfl (rx_byteAt X c0 _ _ hR hib (j := q) (by have := (rt_ok hR hib).2.2.1; omega)) ?_
            show Rx X c0 m_Mod_orderRows 70 [.ref (c0 + 16), .int (nI (ia + 1)), .int z1, .int (nI ea), .int (nI (ib + 1)), .int z2, .int (nI eb), .int (nI (p + 2)), .int (nI q)] [.int (nI ((bys ts ib).getD q 0)), .int (nI q)] σ τ _
            refine Rx.go (fun _ => rfl) ?_
            refine Rx.go (fun _ => rfl) ?_
            refine Rx.ite (fun c14 => ?_) (fun c14 => ?_)
            · replace c14 : ¬ (nI ((bys ts ib).getD q 0)) = 92 := of_decide_eq_true c14
              show Rx X c0 m_Mod_orderRows 79 [.ref (c0 + 16), .int (nI (ia + 1)), .int z1, .int (nI ea), .int (nI (ib + 1)), .int z2, .int (nI eb), .int (nI (p + 2)), .int (nI q)] [.int (nI q)] σ τ _
              refine Rx.go (fun _ => rfl) ?_
              refine Rx.go (fun _ => rfl) ?_
              refine Rx.top (y := nI (q + 1)) (nI_1 _) ?_
              refine Rx.go (fun _ => rfl) ?_
              show Rx X c0 m_Mod_orderRows 83 [.ref (c0 + 16), .int (nI (ia + 1)), .int z1, .int (nI ea), .int (nI (ib + 1)), .int z2, .int (nI eb), .int (nI (p + 2)), .int (nI (q + 1))] [] σ τ _
              refine Rx.go (fun _ => rfl) ?_
              show Rx X c0 m_Mod_orderRows 7 [.ref (c0 + 16), .int (nI (ia + 1)), .int z1, .int (nI ea), .int (nI (ib + 1)), .int z2, .int (nI eb), .int (nI (p + 2)), .int (nI (q + 1))] [] σ τ _
              rw [if_pos (bt_e hR hia (n := 92) rfl (by decide) c12)] at ha2
              rw [if_neg (bt_n (n := 92) rfl c14)] at hb2
              rw [show lexc (a :: A') (b :: B') = lexc A' B' from if_pos (or_ab hR hia hib ha1 hb1 c9)]
              exact ih A' B' _ _ (by simpa using hm) (seg_le ha2 hea) (seg_le hb2 heb) ha2 hb2
            · replace c14 : (nI ((bys ts ib).getD q 0)) = 92 := Classical.not_not.mp (of_decide_eq_false c14)
              show Rx X c0 m_Mod_orderRows 75 [.ref (c0 + 16), .int (nI (ia + 1)), .int z1, .int (nI ea), .int (nI (ib + 1)), .int z2, .int (nI eb), .int (nI (p + 2)), .int (nI q)] [.int (nI q)] σ τ _
              refine Rx.go (fun _ => rfl) ?_
              refine Rx.go (fun _ => rfl) ?_
              refine Rx.go (fun _ => rfl) ?_
              refine Rx.top (y := nI (q + 2)) (nI_add _ 2) ?_
              refine Rx.go (fun _ => rfl) ?_
              show Rx X c0 m_Mod_orderRows 83 [.ref (c0 + 16), .int (nI (ia + 1)), .int z1, .int (nI ea), .int (nI (ib + 1)), .int z2, .int (nI eb), .int (nI (p + 2)), .int (nI (q + 2))] [] σ τ _
              refine Rx.go (fun _ => rfl) ?_
              show Rx X c0 m_Mod_orderRows 7 [.ref (c0 + 16), .int (nI (ia + 1)), .int z1, .int (nI ea), .int (nI (ib + 1)), .int z2, .int (nI eb), .int (nI (p + 2)), .int (nI (q + 2))] [] σ τ _
              rw [if_pos (bt_e hR hia (n := 92) rfl (by decide) c12)] at ha2
              rw [if_pos (bt_e hR hib (n := 92) rfl (by decide) c14)] at hb2
              rw [show lexc (a :: A') (b :: B') = lexc A' B' from if_pos (or_ab hR hia hib ha1 hb1 c9)]
              exact ih A' B' _ _ (by simpa using hm) (seg_le ha2 hea) (seg_le hb2 heb) ha2 hb2
set_option maxRecDepth 100000 in
set_option maxHeartbeats 1000000 in
theorem rx_orderRows (X : ev_X) (c0 : Nat) (σ : Nat → Int32) (τ : Nat → Nat → Int32) {ts : RT} (hR : rt σ τ ts) {ia ib : Nat} (hia : ia < ts.length) (hib : ib < ts.length) {ea eb : Nat} (hea : ea ≤ (bys ts ia).length) (heb : eb ≤ (bys ts ib).length) {fa fb : Nat} {A B : List Nat} (ha : seg (bys ts ia) ea fa A) (hb : seg (bys ts ib) eb fb B) : Rx X c0 m_Mod_orderRows 0 [.ref (c0 + 16), .int (nI (ia + 1)), .int (nI fa), .int (nI ea), .int (nI (ib + 1)), .int (nI fb), .int (nI eb), ev_dead, ev_dead] [] σ τ (fun r σ' τ' => r = some (.int (lexc A B)) ∧ σ' = σ ∧ τ' = τ) := by
  refine Rx.go (fun _ => rfl) ?_
  refine Rx.go (fun _ => rfl) ?_
  show Rx X c0 m_Mod_orderRows 3 [.ref (c0 + 16), .int (nI (ia + 1)), .int (nI fa), .int (nI ea), .int (nI (ib + 1)), .int (nI fb), .int (nI eb), .int (nI fa), ev_dead] [] σ τ _
  refine Rx.go (fun _ => rfl) ?_
  refine Rx.go (fun _ => rfl) ?_
  show Rx X c0 m_Mod_orderRows 7 [.ref (c0 + 16), .int (nI (ia + 1)), .int (nI fa), .int (nI ea), .int (nI (ib + 1)), .int (nI fb), .int (nI eb), .int (nI fa), .int (nI fb)] [] σ τ _
  show Rx X c0 m_Mod_orderRows 7 [.ref (c0 + 16), .int (nI (ia + 1)), .int (nI fa), .int (nI ea), .int (nI (ib + 1)), .int (nI fb), .int (nI eb), .int (nI fa), .int (nI fb)] [] σ τ _
  exact rx_orderRows_l X c0 σ τ hR hia hib hea heb _ _ (A.length + 1) A B fa fb (by omega) (seg_le ha hea) (seg_le hb heb) ha hb
end
section
/-! digitAt, orderDigits, orderNumbers of the reference. (rows laid by wip/whole/rx8.py) -/
def dgv (b : Nat) : Nat := if isD (nI b) = true then b - 48 else 0
/-- the digit of 10^(n - 10) of a written number whose dot stands at dt -/
def dgn (l : List Nat) (dt n : Nat) : Nat := if 10 ≤ n then (if dt + 9 < n then 0 else dgv (l.getD (dt + 9 - n) 0)) else dgv (l.getD (dt + 10 - n) 0)
theorem i32_sub {a b : Nat} (ha : a < 2 ^ 30) (hb : b < 2 ^ 30) : (nI a - nI b).toInt = (a : Int) - b := pk_sub_toInt ha hb
theorem d10 (n : Nat) (hn : n < 100) : (nI n - 10).toInt = (n : Int) - 10 := i32_sub (b := 10) (by omega) (by decide)
theorem d10_lt {n : Nat} (hn : n < 100) (c : nI n - 10 < 0) : n < 10 := by
  rw [Int32.lt_iff_toInt_lt, d10 n hn] at c; have : (0 : Int32).toInt = 0 := rfl; omega
theorem d10_ge {n : Nat} (hn : n < 100) (c : ¬ nI n - 10 < 0) : 10 ≤ n := by
  rw [Int32.lt_iff_toInt_lt, d10 n hn] at c; have : (0 : Int32).toInt = 0 := rfl; omega
theorem i32_ext {x y : Int32} (h : x.toInt = y.toInt) : x = y := Int32.toInt_inj.mp h
theorem i32_sub' {x y : Int32} (h1 : -2 ^ 30 < x.toInt) (h2 : x.toInt < 2 ^ 30) (h3 : -2 ^ 30 < y.toInt) (h4 : y.toInt < 2 ^ 30) : (x - y).toInt = x.toInt - y.toInt := by
  rw [Int32.toInt_sub, Int.bmod_eq_of_le] <;> omega
theorem at0p {dt n : Nat} (hd : dt < 1000) (hn : n < 100) : (nI dt - 1 - (nI n - 10)).toInt = (dt : Int) + 9 - n := by
  have h1 : (nI dt - 1).toInt = (dt : Int) - 1 := i32_sub (b := 1) (by omega) (by decide)
  rw [i32_sub' (by omega) (by omega) (by rw [d10 n hn]; omega) (by rw [d10 n hn]; omega), h1, d10 n hn]; omega
theorem at0n {dt n : Nat} (hd : dt < 1000) (hn : n < 100) : (nI dt - (nI n - 10)).toInt = (dt : Int) + 10 - n := by
  have h1 : (nI dt).toInt = (dt : Int) := nI_toInt (by omega)
  rw [i32_sub' (by omega) (by omega) (by rw [d10 n hn]; omega) (by rw [d10 n hn]; omega), h1, d10 n hn]; omega
theorem at0_nI {x : Int32} {z : Int} {k : Nat} (h : x.toInt = z) (hz : z = k) (hk : k < 2 ^ 31) : x = nI k := i32_ext (by rw [h, hz, nI_toInt hk])
theorem i32_ge0 {x : Int32} (c : 0 ≤ x) : 0 ≤ x.toInt := by rw [Int32.le_iff_toInt_le] at c; exact c
theorem i32_lt0 {x : Int32} (c : ¬ 0 ≤ x) : x.toInt < 0 := by rw [Int32.le_iff_toInt_le] at c; have : (0 : Int32).toInt = 0 := rfl; omega
theorem dgv_t {b : Nat} (hb : b < 256) (c : isD (nI b) = true) : nI b - 48 = nI (dgv b) := by
  have h1 : 48 ≤ b := by
    simp only [isD, Bool.and_eq_true, Bool.not_eq_true', decide_eq_false_iff_not] at c
    have := c.1
    rw [show (48 : Int32) = nI 48 from rfl, nI_ltI (by omega) (by decide)] at this; omega
  rw [show (48 : Int32) = nI 48 from rfl, pk_sub h1, dgv, if_pos c]
theorem dgv_f {b : Nat} (c : isD (nI b) = false) : dgv b = 0 := by rw [dgv, if_neg (by rw [c]; exact Bool.false_ne_true)]
theorem dgv_0 : dgv 0 = 0 := by decide
theorem dgn_p {l : List Nat} {dt n k : Nat} (h1 : 10 ≤ n) (h2 : (dt : Int) + 9 - n = k) : dgn l dt n = dgv (l.getD k 0) := by
  rw [dgn, if_pos h1, if_neg (by omega), show dt + 9 - n = k by omega]
theorem dgn_m {l : List Nat} {dt n : Nat} (h1 : 10 ≤ n) (h2 : (dt : Int) + 9 - n < 0) : dgn l dt n = 0 := by rw [dgn, if_pos h1, if_pos (by omega)]
theorem dgn_n {l : List Nat} {dt n k : Nat} (h1 : n < 10) (h2 : (dt : Int) + 10 - n = k) : dgn l dt n = dgv (l.getD k 0) := by
  rw [dgn, if_neg (by omega), show dt + 10 - n = k by omega]
set_option maxRecDepth 100000 in
set_option maxHeartbeats 1000000 in
theorem rx_digitAt (X : ev_X) (c0 : Nat) (σ : Nat → Int32) (τ : Nat → Nat → Int32) {ts : RT} (hR : rt σ τ ts) {i : Nat} (hi : i < ts.length) {dt n : Nat} (hdt : dt < 1000) (hn : n < 100) : Rx X c0 m_Mod_digitAt 0 [.ref (c0 + 16), .int (nI (i + 1)), .int (nI dt), .int (nI n - 10), ev_dead, ev_dead] [] σ τ (fun r σ' τ' => r = some (.int (nI (dgn (bys ts i) dt n))) ∧ σ' = σ ∧ τ' = τ) := by
  refine Rx.go (fun _ => rfl) ?_
  refine Rx.go (fun _ => rfl) ?_
  refine Rx.ite (fun c1 => ?_) (fun c1 => ?_)
  · replace c1 : (nI n - 10) < 0 := of_decide_eq_true c1
    show Rx X c0 m_Mod_digitAt 12 [.ref (c0 + 16), .int (nI (i + 1)), .int (nI dt), .int (nI n - 10), ev_dead, ev_dead] [] σ τ _
    refine Rx.go (fun _ => rfl) ?_
    refine Rx.go (fun _ => rfl) ?_
    refine Rx.go (fun _ => rfl) ?_
    refine Rx.go (fun _ => rfl) ?_
    show Rx X c0 m_Mod_digitAt 17 [.ref (c0 + 16), .int (nI (i + 1)), .int (nI dt), .int (nI n - 10), .int ((nI dt) - (nI n - 10)), ev_dead] [] σ τ _
    refine Rx.go (fun _ => rfl) ?_
    refine Rx.go (fun _ => rfl) ?_
    refine Rx.ite (fun c2 => ?_) (fun c2 => ?_)
    · replace c2 : 0 ≤ ((nI dt) - (nI n - 10)) := of_decide_eq_true c2
      obtain ⟨k, hk⟩ : ∃ k : Nat, (dt : Int) + 10 - n = k := ⟨((dt : Int) + 10 - n).toNat, by have := i32_ge0 c2; rw [at0n hdt hn] at this; omega⟩
      rw [at0_nI (at0n hdt hn) hk (by omega)]
      show Rx X c0 m_Mod_digitAt 26 [.ref (c0 + 16), .int (nI (i + 1)), .int (nI dt), .int (nI n - 10), .int (nI k), ev_dead] [] σ τ _
      refine Rx.go (fun _ => rfl) ?_
      refine Rx.go (fun _ => rfl) ?_
      refine Rx.go (fun _ => rfl) ?_
      refine Rx.callE rfl rfl rfl rfl (rx_byteAt X c0 _ _ hR hi (j := k) (by omega)) ?_
      show Rx X c0 m_Mod_digitAt 33 [.ref (c0 + 16), .int (nI (i + 1)), .int (nI dt), .int (nI n - 10), .int (nI k), ev_dead] [.int (nI ((bys ts i).getD k 0))] σ τ _
      refine Rx.go (fun _ => rfl) ?_
      show Rx X c0 m_Mod_digitAt 35 [.ref (c0 + 16), .int (nI (i + 1)), .int (nI dt), .int (nI n - 10), .int (nI k), .int (nI ((bys ts i).getD k 0))] [] σ τ _
      refine Rx.go (fun _ => rfl) ?_
      refine Rx.scallE rfl rfl rfl rfl (sx_Mod_isDigit X _) ?_
      show Rx X c0 m_Mod_digitAt 40 [.ref (c0 + 16), .int (nI (i + 1)), .int (nI dt), .int (nI n - 10), .int (nI k), .int (nI ((bys ts i).getD k 0))] [.int (bi (isD (nI ((bys ts i).getD k 0))))] σ τ _
      refine Rx.go (fun _ => rfl) ?_
      refine Rx.ite (fun c3 => ?_) (fun c3 => ?_)
      · replace c3 : (isD (nI ((bys ts i).getD k 0))) = false := bi_eqt c3
        show Rx X c0 m_Mod_digitAt 51 [.ref (c0 + 16), .int (nI (i + 1)), .int (nI dt), .int (nI n - 10), .int (nI k), .int (nI ((bys ts i).getD k 0))] [] σ τ _
        refine Rx.go (fun _ => rfl) ?_
        show Rx X c0 m_Mod_digitAt 52 [.ref (c0 + 16), .int (nI (i + 1)), .int (nI dt), .int (nI n - 10), .int (nI k), .int (nI ((bys ts i).getD k 0))] [.int 0] σ τ _
        exact Rx.ret rfl (ev_reti rfl) ⟨by rw [dgn_n (d10_lt hn c1) hk, dgv_f c3]; rfl, rfl, rfl⟩
      · replace c3 : (isD (nI ((bys ts i).getD k 0))) = true := bi_eqf c3
        show Rx X c0 m_Mod_digitAt 43 [.ref (c0 + 16), .int (nI (i + 1)), .int (nI dt), .int (nI n - 10), .int (nI k), .int (nI ((bys ts i).getD k 0))] [] σ τ _
        refine Rx.go (fun _ => rfl) ?_
        refine Rx.go (fun _ => rfl) ?_
        refine Rx.go (fun _ => rfl) ?_
        refine Rx.go (fun _ => rfl) ?_
        show Rx X c0 m_Mod_digitAt 52 [.ref (c0 + 16), .int (nI (i + 1)), .int (nI dt), .int (nI n - 10), .int (nI k), .int (nI ((bys ts i).getD k 0))] [.int ((nI ((bys ts i).getD k 0)) - 48)] σ τ _
        exact Rx.ret rfl (ev_reti rfl) ⟨by rw [dgn_n (d10_lt hn c1) hk, dgv_t ((rt_ok hR hi).1 k) c3], rfl, rfl⟩
    · replace c2 : ¬ 0 ≤ ((nI dt) - (nI n - 10)) := of_decide_eq_false c2
      show Rx X c0 m_Mod_digitAt 22 [.ref (c0 + 16), .int (nI (i + 1)), .int (nI dt), .int (nI n - 10), .int ((nI dt) - (nI n - 10)), ev_dead] [] σ τ _
      refine Rx.go (fun _ => rfl) ?_
      refine Rx.go (fun _ => rfl) ?_
      refine Rx.go (fun _ => rfl) ?_
      show Rx X c0 m_Mod_digitAt 35 [.ref (c0 + 16), .int (nI (i + 1)), .int (nI dt), .int (nI n - 10), .int ((nI dt) - (nI n - 10)), .int 0] [] σ τ _
      refine Rx.go (fun _ => rfl) ?_
      refine Rx.scallE (v := some (.int 0)) rfl rfl rfl rfl (sx_Mod_isDigit X 0) ?_
      show Rx X c0 m_Mod_digitAt 40 [.ref (c0 + 16), .int (nI (i + 1)), .int (nI dt), .int (nI n - 10), .int ((nI dt) - (nI n - 10)), .int 0] [.int 0] σ τ _
      refine Rx.go (fun _ => rfl) ?_
      show Rx X c0 m_Mod_digitAt 51 [.ref (c0 + 16), .int (nI (i + 1)), .int (nI dt), .int (nI n - 10), .int ((nI dt) - (nI n - 10)), .int 0] [] σ τ _
      refine Rx.go (fun _ => rfl) ?_
      show Rx X c0 m_Mod_digitAt 52 [.ref (c0 + 16), .int (nI (i + 1)), .int (nI dt), .int (nI n - 10), .int ((nI dt) - (nI n - 10)), .int 0] [.int 0] σ τ _
      exact absurd (i32_lt0 c2) (by rw [at0n hdt hn]; have := d10_lt hn c1; omega)
  · replace c1 : ¬ (nI n - 10) < 0 := of_decide_eq_false c1
    show Rx X c0 m_Mod_digitAt 4 [.ref (c0 + 16), .int (nI (i + 1)), .int (nI dt), .int (nI n - 10), ev_dead, ev_dead] [] σ τ _
    refine Rx.go (fun _ => rfl) ?_
    refine Rx.go (fun _ => rfl) ?_
    refine Rx.go (fun _ => rfl) ?_
    refine Rx.go (fun _ => rfl) ?_
    refine Rx.go (fun _ => rfl) ?_
    refine Rx.go (fun _ => rfl) ?_
    refine Rx.go (fun _ => rfl) ?_
    show Rx X c0 m_Mod_digitAt 17 [.ref (c0 + 16), .int (nI (i + 1)), .int (nI dt), .int (nI n - 10), .int (((nI dt) - 1) - (nI n - 10)), ev_dead] [] σ τ _
    refine Rx.go (fun _ => rfl) ?_
    refine Rx.go (fun _ => rfl) ?_
    refine Rx.ite (fun c4 => ?_) (fun c4 => ?_)
    · replace c4 : 0 ≤ (((nI dt) - 1) - (nI n - 10)) := of_decide_eq_true c4
      obtain ⟨k, hk⟩ : ∃ k : Nat, (dt : Int) + 9 - n = k := ⟨((dt : Int) + 9 - n).toNat, by have := i32_ge0 c4; rw [at0p hdt hn] at this; omega⟩
      rw [at0_nI (at0p hdt hn) hk (by omega)]
      show Rx X c0 m_Mod_digitAt 26 [.ref (c0 + 16), .int (nI (i + 1)), .int (nI dt), .int (nI n - 10), .int (nI k), ev_dead] [] σ τ _
      refine Rx.go (fun _ => rfl) ?_
      refine Rx.go (fun _ => rfl) ?_
      refine Rx.go (fun _ => rfl) ?_
      refine Rx.callE rfl rfl rfl rfl (rx_byteAt X c0 _ _ hR hi (j := k) (by omega)) ?_
      show Rx X c0 m_Mod_digitAt 33 [.ref (c0 + 16), .int (nI (i + 1)), .int (nI dt), .int (nI n - 10), .int (nI k), ev_dead] [.int (nI ((bys ts i).getD k 0))] σ τ _
      refine Rx.go (fun _ => rfl) ?_
      show Rx X c0 m_Mod_digitAt 35 [.ref (c0 + 16), .int (nI (i + 1)), .int (nI dt), .int (nI n - 10), .int (nI k), .int (nI ((bys ts i).getD k 0))] [] σ τ _
      refine Rx.go (fun _ => rfl) ?_
      refine Rx.scallE rfl rfl rfl rfl (sx_Mod_isDigit X _) ?_
      show Rx X c0 m_Mod_digitAt 40 [.ref (c0 + 16), .int (nI (i + 1)), .int (nI dt), .int (nI n - 10), .int (nI k), .int (nI ((bys ts i).getD k 0))] [.int (bi (isD (nI ((bys ts i).getD k 0))))] σ τ _
      refine Rx.go (fun _ => rfl) ?_
      refine Rx.ite (fun c5 => ?_) (fun c5 => ?_)
      · replace c5 : (isD (nI ((bys ts i).getD k 0))) = false := bi_eqt c5
        show Rx X c0 m_Mod_digitAt 51 [.ref (c0 + 16), .int (nI (i + 1)), .int (nI dt), .int (nI n - 10), .int (nI k), .int (nI ((bys ts i).getD k 0))] [] σ τ _
        refine Rx.go (fun _ => rfl) ?_
        show Rx X c0 m_Mod_digitAt 52 [.ref (c0 + 16), .int (nI (i + 1)), .int (nI dt), .int (nI n - 10), .int (nI k), .int (nI ((bys ts i).getD k 0))] [.int 0] σ τ _
        exact Rx.ret rfl (ev_reti rfl) ⟨by rw [dgn_p (d10_ge hn c1) hk, dgv_f c5]; rfl, rfl, rfl⟩
      · replace c5 : (isD (nI ((bys ts i).getD k 0))) = true := bi_eqf c5
        show Rx X c0 m_Mod_digitAt 43 [.ref (c0 + 16), .int (nI (i + 1)), .int (nI dt), .int (nI n - 10), .int (nI k), .int (nI ((bys ts i).getD k 0))] [] σ τ _
        refine Rx.go (fun _ => rfl) ?_
        refine Rx.go (fun _ => rfl) ?_
        refine Rx.go (fun _ => rfl) ?_
        refine Rx.go (fun _ => rfl) ?_
        show Rx X c0 m_Mod_digitAt 52 [.ref (c0 + 16), .int (nI (i + 1)), .int (nI dt), .int (nI n - 10), .int (nI k), .int (nI ((bys ts i).getD k 0))] [.int ((nI ((bys ts i).getD k 0)) - 48)] σ τ _
        exact Rx.ret rfl (ev_reti rfl) ⟨by rw [dgn_p (d10_ge hn c1) hk, dgv_t ((rt_ok hR hi).1 k) c5], rfl, rfl⟩
    · replace c4 : ¬ 0 ≤ (((nI dt) - 1) - (nI n - 10)) := of_decide_eq_false c4
      show Rx X c0 m_Mod_digitAt 22 [.ref (c0 + 16), .int (nI (i + 1)), .int (nI dt), .int (nI n - 10), .int (((nI dt) - 1) - (nI n - 10)), ev_dead] [] σ τ _
      refine Rx.go (fun _ => rfl) ?_
      refine Rx.go (fun _ => rfl) ?_
      refine Rx.go (fun _ => rfl) ?_
      show Rx X c0 m_Mod_digitAt 35 [.ref (c0 + 16), .int (nI (i + 1)), .int (nI dt), .int (nI n - 10), .int (((nI dt) - 1) - (nI n - 10)), .int 0] [] σ τ _
      refine Rx.go (fun _ => rfl) ?_
      refine Rx.scallE (v := some (.int 0)) rfl rfl rfl rfl (sx_Mod_isDigit X 0) ?_
      show Rx X c0 m_Mod_digitAt 40 [.ref (c0 + 16), .int (nI (i + 1)), .int (nI dt), .int (nI n - 10), .int (((nI dt) - 1) - (nI n - 10)), .int 0] [.int 0] σ τ _
      refine Rx.go (fun _ => rfl) ?_
      show Rx X c0 m_Mod_digitAt 51 [.ref (c0 + 16), .int (nI (i + 1)), .int (nI dt), .int (nI n - 10), .int (((nI dt) - 1) - (nI n - 10)), .int 0] [] σ τ _
      refine Rx.go (fun _ => rfl) ?_
      show Rx X c0 m_Mod_digitAt 52 [.ref (c0 + 16), .int (nI (i + 1)), .int (nI dt), .int (nI n - 10), .int (((nI dt) - 1) - (nI n - 10)), .int 0] [.int 0] σ τ _
      exact Rx.ret rfl (ev_reti rfl) ⟨by rw [dgn_m (d10_ge hn c1) (by have := i32_lt0 c4; rw [at0p hdt hn] at this; exact this)]; rfl, rfl, rfl⟩
def cmpD (la : List Nat) (da : Nat) (lb : List Nat) (db : Nat) : Nat → Int32
  | 0 => 0
  | n + 1 => if dgn la da (n + 1) = dgn lb db (n + 1) then cmpD la da lb db n else sgn (nI (dgn la da (n + 1)) - nI (dgn lb db (n + 1)))
theorem dgv_lt {b : Nat} (hb : b < 256) : dgv b < 256 := by unfold dgv; split <;> omega
theorem dgn_lt {l : List Nat} (hl : ∀ k, l.getD k 0 < 256) (dt n : Nat) : dgn l dt n < 256 := by
  unfold dgn
  repeat' split
  · decide
  · exact dgv_lt (hl _)
  · exact dgv_lt (hl _)
theorem d9_lt {n : Nat} (hn : n < 100) (c : nI n - 10 < -9) : n = 0 := by
  rw [Int32.lt_iff_toInt_lt, d10 n hn] at c; have : (-9 : Int32).toInt = -9 := rfl; omega
theorem d9_ge {n : Nat} (hn : n < 100) (c : ¬ nI n - 10 < -9) : ∃ n', n = n' + 1 := by
  rw [Int32.lt_iff_toInt_lt, d10 n hn] at c; have : (-9 : Int32).toInt = -9 := rfl; exact ⟨n - 1, by omega⟩
theorem d10_pred (n : Nat) (hn : n < 99) : nI (n + 1) - 10 + (-1) = nI n - 10 := i32_ext (by
  rw [Int32.toInt_add, d10 (n + 1) (by omega), d10 n (by omega), show (-1 : Int32).toInt = -1 from rfl, Int.bmod_eq_of_le] <;> omega)
set_option maxRecDepth 100000 in
set_option maxHeartbeats 1000000 in
theorem rx_orderDigits_l (X : ev_X) (c0 : Nat) (σ : Nat → Int32) (τ : Nat → Nat → Int32) {ts : RT} (hR : rt σ τ ts) {ia ib : Nat} (hia : ia < ts.length) (hib : ib < ts.length) {da db : Nat} (hda : da < 1000) (hdb : db < 1000) : ∀ (m : Nat) (n : Nat) (hm : n < m) (hn : n < 100) (u v : Value), Rx X c0 m_Mod_orderDigits 17 [.ref (c0 + 16), .int (nI (ia + 1)), .int (nI (ib + 1)), .int (nI da), .int (nI db), .int (nI n - 10), u, v] [] σ τ (fun r σ' τ' => r = some (.int (cmpD (bys ts ia) da (bys ts ib) db n)) ∧ σ' = σ ∧ τ' = τ) := by
  intro m
  induction m with
  | zero => intro n hm hn u v; exact absurd hm (Nat.not_lt_zero _)
  | succ m ih =>
    intro n hm hn u v
    refine Rx.go (fun _ => rfl) ?_
    refine Rx.go (fun _ => rfl) ?_
    refine Rx.go (fun _ => rfl) ?_
    refine Rx.ite (fun c1 => ?_) (fun c1 => ?_)
    · replace c1 : (nI n - 10) < (-9) := of_decide_eq_true c1
      show Rx X c0 m_Mod_orderDigits 67 [.ref (c0 + 16), .int (nI (ia + 1)), .int (nI (ib + 1)), .int (nI da), .int (nI db), .int (nI n - 10), u, v] [] σ τ _
      refine Rx.go (fun _ => rfl) ?_
      show Rx X c0 m_Mod_orderDigits 68 [.ref (c0 + 16), .int (nI (ia + 1)), .int (nI (ib + 1)), .int (nI da), .int (nI db), .int (nI n - 10), u, v] [.int 0] σ τ _
      exact Rx.ret rfl (ev_reti rfl) ⟨by rw [d9_lt hn c1]; rfl, rfl, rfl⟩
    · replace c1 : ¬ (nI n - 10) < (-9) := of_decide_eq_false c1
      obtain ⟨n', rfl⟩ := d9_ge hn c1
      show Rx X c0 m_Mod_orderDigits 24 [.ref (c0 + 16), .int (nI (ia + 1)), .int (nI (ib + 1)), .int (nI da), .int (nI db), .int (nI (n' + 1) - 10), u, v] [] σ τ _
      refine Rx.go (fun _ => rfl) ?_
      refine Rx.go (fun _ => rfl) ?_
      refine Rx.go (fun _ => rfl) ?_
      refine Rx.go (fun _ => rfl) ?_
      refine Rx.callE rfl rfl rfl rfl (rx_digitAt X c0 _ _ hR hia (dt := da) (n := n' + 1) hda hn) ?_
      show Rx X c0 m_Mod_orderDigits 32 [.ref (c0 + 16), .int (nI (ia + 1)), .int (nI (ib + 1)), .int (nI da), .int (nI db), .int (nI (n' + 1) - 10), u, v] [.int (nI (dgn (bys ts ia) da (n' + 1)))] σ τ _
      refine Rx.go (fun _ => rfl) ?_
      show Rx X c0 m_Mod_orderDigits 34 [.ref (c0 + 16), .int (nI (ia + 1)), .int (nI (ib + 1)), .int (nI da), .int (nI db), .int (nI (n' + 1) - 10), .int (nI (dgn (bys ts ia) da (n' + 1))), v] [] σ τ _
      refine Rx.go (fun _ => rfl) ?_
      refine Rx.go (fun _ => rfl) ?_
      refine Rx.go (fun _ => rfl) ?_
      refine Rx.go (fun _ => rfl) ?_
      refine Rx.callE rfl rfl rfl rfl (rx_digitAt X c0 _ _ hR hib (dt := db) (n := n' + 1) hdb hn) ?_
      show Rx X c0 m_Mod_orderDigits 43 [.ref (c0 + 16), .int (nI (ia + 1)), .int (nI (ib + 1)), .int (nI da), .int (nI db), .int (nI (n' + 1) - 10), .int (nI (dgn (bys ts ia) da (n' + 1))), v] [.int (nI (dgn (bys ts ib) db (n' + 1)))] σ τ _
      refine Rx.go (fun _ => rfl) ?_
      show Rx X c0 m_Mod_orderDigits 45 [.ref (c0 + 16), .int (nI (ia + 1)), .int (nI (ib + 1)), .int (nI da), .int (nI db), .int (nI (n' + 1) - 10), .int (nI (dgn (bys ts ia) da (n' + 1))), .int (nI (dgn (bys ts ib) db (n' + 1)))] [] σ τ _
      refine Rx.go (fun _ => rfl) ?_
      refine Rx.go (fun _ => rfl) ?_
      refine Rx.go (fun _ => rfl) ?_
      refine Rx.ite (fun c2 => ?_) (fun c2 => ?_)
      · replace c2 : (nI (dgn (bys ts ia) da (n' + 1))) = (nI (dgn (bys ts ib) db (n' + 1))) := of_decide_eq_true c2
        show Rx X c0 m_Mod_orderDigits 61 [.ref (c0 + 16), .int (nI (ia + 1)), .int (nI (ib + 1)), .int (nI da), .int (nI db), .int (nI (n' + 1) - 10), .int (nI (dgn (bys ts ia) da (n' + 1))), .int (nI (dgn (bys ts ib) db (n' + 1)))] [] σ τ _
        refine Rx.go (fun _ => rfl) ?_
        show Rx X c0 m_Mod_orderDigits 64 [.ref (c0 + 16), .int (nI (ia + 1)), .int (nI (ib + 1)), .int (nI da), .int (nI db), .int ((nI (n' + 1) - 10) + (-1)), .int (nI (dgn (bys ts ia) da (n' + 1))), .int (nI (dgn (bys ts ib) db (n' + 1)))] [] σ τ _
        refine Rx.go (fun _ => rfl) ?_
        show Rx X c0 m_Mod_orderDigits 17 [.ref (c0 + 16), .int (nI (ia + 1)), .int (nI (ib + 1)), .int (nI da), .int (nI db), .int ((nI (n' + 1) - 10) + (-1)), .int (nI (dgn (bys ts ia) da (n' + 1))), .int (nI (dgn (bys ts ib) db (n' + 1)))] [] σ τ _
        rw [d10_pred n' (by omega), show cmpD (bys ts ia) da (bys ts ib) db (n' + 1) = _ from if_pos ((nI_eq (by have := dgn_lt (rt_ok hR hia).1 da (n' + 1); omega) (by have := dgn_lt (rt_ok hR hib).1 db (n' + 1); omega)).mp c2)]
        exact ih n' (by omega) (by omega) _ _
      · replace c2 : ¬ (nI (dgn (bys ts ia) da (n' + 1))) = (nI (dgn (bys ts ib) db (n' + 1))) := of_decide_eq_false c2
        show Rx X c0 m_Mod_orderDigits 52 [.ref (c0 + 16), .int (nI (ia + 1)), .int (nI (ib + 1)), .int (nI da), .int (nI db), .int (nI (n' + 1) - 10), .int (nI (dgn (bys ts ia) da (n' + 1))), .int (nI (dgn (bys ts ib) db (n' + 1)))] [] σ τ _
        refine Rx.go (fun _ => rfl) ?_
        refine Rx.go (fun _ => rfl) ?_
        refine Rx.go (fun _ => rfl) ?_
        refine Rx.scallE rfl rfl rfl rfl (sx_Mod_sign X _) ?_
        show Rx X c0 m_Mod_orderDigits 60 [.ref (c0 + 16), .int (nI (ia + 1)), .int (nI (ib + 1)), .int (nI da), .int (nI db), .int (nI (n' + 1) - 10), .int (nI (dgn (bys ts ia) da (n' + 1))), .int (nI (dgn (bys ts ib) db (n' + 1)))] [.int (sgn ((nI (dgn (bys ts ia) da (n' + 1))) - (nI (dgn (bys ts ib) db (n' + 1)))))] σ τ _
        show Rx X c0 m_Mod_orderDigits 60 [.ref (c0 + 16), .int (nI (ia + 1)), .int (nI (ib + 1)), .int (nI da), .int (nI db), .int (nI (n' + 1) - 10), .int (nI (dgn (bys ts ia) da (n' + 1))), .int (nI (dgn (bys ts ib) db (n' + 1)))] [.int (sgn ((nI (dgn (bys ts ia) da (n' + 1))) - (nI (dgn (bys ts ib) db (n' + 1)))))] σ τ _
        exact Rx.ret rfl (ev_reti rfl) ⟨by rw [show cmpD (bys ts ia) da (bys ts ib) db (n' + 1) = _ from if_neg (fun z => c2 (by rw [z]))], rfl, rfl⟩
set_option maxRecDepth 100000 in
set_option maxHeartbeats 1000000 in
theorem rx_orderDigits (X : ev_X) (c0 : Nat) (σ : Nat → Int32) (τ : Nat → Nat → Int32) {ts : RT} (hR : rt σ τ ts) {ia ib : Nat} (hia : ia < ts.length) (hib : ib < ts.length) : Rx X c0 m_Mod_orderDigits 0 [.ref (c0 + 16), .int (nI (ia + 1)), .int (nI (ib + 1)), ev_dead, ev_dead, ev_dead, ev_dead, ev_dead] [] σ τ (fun r σ' τ' => r = some (.int (cmpD (bys ts ia) (dotp (bys ts ia)) (bys ts ib) (dotp (bys ts ib)) 30)) ∧ σ' = σ ∧ τ' = τ) := by
  refine Rx.go (fun _ => rfl) ?_
  refine Rx.go (fun _ => rfl) ?_
  refine Rx.callE rfl rfl rfl rfl (rx_dotOf X c0 _ _ hR hia) ?_
  show Rx X c0 m_Mod_orderDigits 5 [.ref (c0 + 16), .int (nI (ia + 1)), .int (nI (ib + 1)), ev_dead, ev_dead, ev_dead, ev_dead, ev_dead] [.int (nI (dotp (bys ts ia)))] σ τ _
  refine Rx.go (fun _ => rfl) ?_
  show Rx X c0 m_Mod_orderDigits 6 [.ref (c0 + 16), .int (nI (ia + 1)), .int (nI (ib + 1)), .int (nI (dotp (bys ts ia))), ev_dead, ev_dead, ev_dead, ev_dead] [] σ τ _
  refine Rx.go (fun _ => rfl) ?_
  refine Rx.go (fun _ => rfl) ?_
  refine Rx.callE rfl rfl rfl rfl (rx_dotOf X c0 _ _ hR hib) ?_
  show Rx X c0 m_Mod_orderDigits 11 [.ref (c0 + 16), .int (nI (ia + 1)), .int (nI (ib + 1)), .int (nI (dotp (bys ts ia))), ev_dead, ev_dead, ev_dead, ev_dead] [.int (nI (dotp (bys ts ib)))] σ τ _
  refine Rx.go (fun _ => rfl) ?_
  show Rx X c0 m_Mod_orderDigits 13 [.ref (c0 + 16), .int (nI (ia + 1)), .int (nI (ib + 1)), .int (nI (dotp (bys ts ia))), .int (nI (dotp (bys ts ib))), ev_dead, ev_dead, ev_dead] [] σ τ _
  refine Rx.go (fun _ => rfl) ?_
  refine Rx.go (fun _ => rfl) ?_
  show Rx X c0 m_Mod_orderDigits 17 [.ref (c0 + 16), .int (nI (ia + 1)), .int (nI (ib + 1)), .int (nI (dotp (bys ts ia))), .int (nI (dotp (bys ts ib))), .int 20, ev_dead, ev_dead] [] σ τ _
  show Rx X c0 m_Mod_orderDigits 17 [.ref (c0 + 16), .int (nI (ia + 1)), .int (nI (ib + 1)), .int (nI (dotp (bys ts ia))), .int (nI (dotp (bys ts ib))), .int 20, ev_dead, ev_dead] [] σ τ _
  exact rx_orderDigits_l X c0 σ τ hR hia hib (by have := dotp_le (bys ts ia); have := (rt_ok hR hia).2.2.1; omega) (by have := dotp_le (bys ts ib); have := (rt_ok hR hib).2.2.1; omega) 31 30 (by decide) (by decide) _ _
/-- two written numbers, by value -/
def onum (la lb : List Nat) : Int32 := if la.getD 0 0 = 45 then (if lb.getD 0 0 = 45 then - cmpD la (dotp la) lb (dotp lb) 30 else -1) else (if lb.getD 0 0 = 45 then 1 else cmpD la (dotp la) lb (dotp lb) 30)
set_option maxRecDepth 100000 in
set_option maxHeartbeats 1000000 in
theorem rx_orderNumbers (X : ev_X) (c0 : Nat) (σ : Nat → Int32) (τ : Nat → Nat → Int32) {ts : RT} (hR : rt σ τ ts) {ia ib : Nat} (hia : ia < ts.length) (hib : ib < ts.length) : Rx X c0 m_Mod_orderNumbers 0 [.ref (c0 + 16), .int (nI (ia + 1)), .int (nI (ib + 1)), ev_dead] [] σ τ (fun r σ' τ' => r = some (.int (onum (bys ts ia) (bys ts ib))) ∧ σ' = σ ∧ τ' = τ) := by
  refine Rx.go (fun _ => rfl) ?_
  refine Rx.go (fun _ => rfl) ?_
  refine Rx.go (fun _ => rfl) ?_
  refine Rx.callE rfl rfl rfl rfl (rx_byteAt X c0 _ _ hR hia (j := 0) (by decide)) ?_
  show Rx X c0 m_Mod_orderNumbers 6 [.ref (c0 + 16), .int (nI (ia + 1)), .int (nI (ib + 1)), ev_dead] [.int (nI ((bys ts ia).getD 0 0))] σ τ _
  refine Rx.go (fun _ => rfl) ?_
  refine Rx.go (fun _ => rfl) ?_
  refine Rx.ite (fun c1 => ?_) (fun c1 => ?_)
  · replace c1 : ¬ (nI ((bys ts ia).getD 0 0)) = 45 := of_decide_eq_true c1
    show Rx X c0 m_Mod_orderNumbers 15 [.ref (c0 + 16), .int (nI (ia + 1)), .int (nI (ib + 1)), ev_dead] [] σ τ _
    refine Rx.go (fun _ => rfl) ?_
    refine Rx.go (fun _ => rfl) ?_
    show Rx X c0 m_Mod_orderNumbers 17 [.ref (c0 + 16), .int (nI (ia + 1)), .int (nI (ib + 1)), .int 0] [] σ τ _
    refine Rx.go (fun _ => rfl) ?_
    refine Rx.go (fun _ => rfl) ?_
    refine Rx.go (fun _ => rfl) ?_
    refine Rx.go (fun _ => rfl) ?_
    refine Rx.callE rfl rfl rfl rfl (rx_byteAt X c0 _ _ hR hib (j := 0) (by decide)) ?_
    show Rx X c0 m_Mod_orderNumbers 24 [.ref (c0 + 16), .int (nI (ia + 1)), .int (nI (ib + 1)), .int 0] [.int (nI ((bys ts ib).getD 0 0)), .int 0] σ τ _
    refine Rx.go (fun _ => rfl) ?_
    refine Rx.go (fun _ => rfl) ?_
    refine Rx.ite (fun c2 => ?_) (fun c2 => ?_)
    · replace c2 : ¬ (nI ((bys ts ib).getD 0 0)) = 45 := of_decide_eq_true c2
      show Rx X c0 m_Mod_orderNumbers 33 [.ref (c0 + 16), .int (nI (ia + 1)), .int (nI (ib + 1)), .int 0] [.int 0] σ τ _
      refine Rx.go (fun _ => rfl) ?_
      refine Rx.go (fun _ => rfl) ?_
      show Rx X c0 m_Mod_orderNumbers 47 [.ref (c0 + 16), .int (nI (ia + 1)), .int (nI (ib + 1)), .int 0] [] σ τ _
      refine Rx.go (fun _ => rfl) ?_
      refine Rx.go (fun _ => rfl) ?_
      show Rx X c0 m_Mod_orderNumbers 61 [.ref (c0 + 16), .int (nI (ia + 1)), .int (nI (ib + 1)), .int 0] [] σ τ _
      refine Rx.go (fun _ => rfl) ?_
      refine Rx.go (fun _ => rfl) ?_
      refine Rx.go (fun _ => rfl) ?_
      refine Rx.callE rfl rfl rfl rfl (rx_orderDigits X c0 _ _ hR hia hib) ?_
      show Rx X c0 m_Mod_orderNumbers 67 [.ref (c0 + 16), .int (nI (ia + 1)), .int (nI (ib + 1)), .int 0] [.int (cmpD (bys ts ia) (dotp (bys ts ia)) (bys ts ib) (dotp (bys ts ib)) 30)] σ τ _
      show Rx X c0 m_Mod_orderNumbers 67 [.ref (c0 + 16), .int (nI (ia + 1)), .int (nI (ib + 1)), .int 0] [.int (cmpD (bys ts ia) (dotp (bys ts ia)) (bys ts ib) (dotp (bys ts ib)) 30)] σ τ _
      exact Rx.ret rfl (ev_reti rfl) ⟨by rw [onum, if_neg (bt_n (n := 45) rfl c1), if_neg (bt_n (n := 45) rfl c2)], rfl, rfl⟩
    · replace c2 : (nI ((bys ts ib).getD 0 0)) = 45 := Classical.not_not.mp (of_decide_eq_false c2)
      show Rx X c0 m_Mod_orderNumbers 29 [.ref (c0 + 16), .int (nI (ia + 1)), .int (nI (ib + 1)), .int 0] [.int 0] σ τ _
      refine Rx.go (fun _ => rfl) ?_
      refine Rx.go (fun _ => rfl) ?_
      refine Rx.go (fun _ => rfl) ?_
      show Rx X c0 m_Mod_orderNumbers 37 [.ref (c0 + 16), .int (nI (ia + 1)), .int (nI (ib + 1)), .int 0] [] σ τ _
      refine Rx.go (fun _ => rfl) ?_
      refine Rx.go (fun _ => rfl) ?_
      show Rx X c0 m_Mod_orderNumbers 45 [.ref (c0 + 16), .int (nI (ia + 1)), .int (nI (ib + 1)), .int 0] [] σ τ _
      refine Rx.go (fun _ => rfl) ?_
      show Rx X c0 m_Mod_orderNumbers 46 [.ref (c0 + 16), .int (nI (ia + 1)), .int (nI (ib + 1)), .int 0] [.int 1] σ τ _
      exact Rx.ret rfl (ev_reti rfl) ⟨by rw [onum, if_neg (bt_n (n := 45) rfl c1), if_pos (bt_e hR hib (n := 45) rfl (by decide) c2)], rfl, rfl⟩
  · replace c1 : (nI ((bys ts ia).getD 0 0)) = 45 := Classical.not_not.mp (of_decide_eq_false c1)
    show Rx X c0 m_Mod_orderNumbers 11 [.ref (c0 + 16), .int (nI (ia + 1)), .int (nI (ib + 1)), ev_dead] [] σ τ _
    refine Rx.go (fun _ => rfl) ?_
    refine Rx.go (fun _ => rfl) ?_
    refine Rx.go (fun _ => rfl) ?_
    show Rx X c0 m_Mod_orderNumbers 17 [.ref (c0 + 16), .int (nI (ia + 1)), .int (nI (ib + 1)), .int 1] [] σ τ _
    refine Rx.go (fun _ => rfl) ?_
    refine Rx.go (fun _ => rfl) ?_
    refine Rx.go (fun _ => rfl) ?_
    refine Rx.go (fun _ => rfl) ?_
    refine Rx.callE rfl rfl rfl rfl (rx_byteAt X c0 _ _ hR hib (j := 0) (by decide)) ?_
    show Rx X c0 m_Mod_orderNumbers 24 [.ref (c0 + 16), .int (nI (ia + 1)), .int (nI (ib + 1)), .int 1] [.int (nI ((bys ts ib).getD 0 0)), .int 1] σ τ _
    refine Rx.go (fun _ => rfl) ?_
    refine Rx.go (fun _ => rfl) ?_
    refine Rx.ite (fun c3 => ?_) (fun c3 => ?_)
    · replace c3 : ¬ (nI ((bys ts ib).getD 0 0)) = 45 := of_decide_eq_true c3
      show Rx X c0 m_Mod_orderNumbers 33 [.ref (c0 + 16), .int (nI (ia + 1)), .int (nI (ib + 1)), .int 1] [.int 1] σ τ _
      refine Rx.go (fun _ => rfl) ?_
      refine Rx.go (fun _ => rfl) ?_
      show Rx X c0 m_Mod_orderNumbers 37 [.ref (c0 + 16), .int (nI (ia + 1)), .int (nI (ib + 1)), .int 1] [] σ τ _
      refine Rx.go (fun _ => rfl) ?_
      refine Rx.go (fun _ => rfl) ?_
      show Rx X c0 m_Mod_orderNumbers 41 [.ref (c0 + 16), .int (nI (ia + 1)), .int (nI (ib + 1)), .int 1] [] σ τ _
      refine Rx.go (fun _ => rfl) ?_
      refine Rx.go (fun _ => rfl) ?_
      show Rx X c0 m_Mod_orderNumbers 46 [.ref (c0 + 16), .int (nI (ia + 1)), .int (nI (ib + 1)), .int 1] [.int (-1)] σ τ _
      exact Rx.ret rfl (ev_reti rfl) ⟨by rw [onum, if_pos (bt_e hR hia (n := 45) rfl (by decide) c1), if_neg (bt_n (n := 45) rfl c3)], rfl, rfl⟩
    · replace c3 : (nI ((bys ts ib).getD 0 0)) = 45 := Classical.not_not.mp (of_decide_eq_false c3)
      show Rx X c0 m_Mod_orderNumbers 29 [.ref (c0 + 16), .int (nI (ia + 1)), .int (nI (ib + 1)), .int 1] [.int 1] σ τ _
      refine Rx.go (fun _ => rfl) ?_
      refine Rx.go (fun _ => rfl) ?_
      refine Rx.go (fun _ => rfl) ?_
      show Rx X c0 m_Mod_orderNumbers 47 [.ref (c0 + 16), .int (nI (ia + 1)), .int (nI (ib + 1)), .int 1] [] σ τ _
      refine Rx.go (fun _ => rfl) ?_
      refine Rx.go (fun _ => rfl) ?_
      show Rx X c0 m_Mod_orderNumbers 51 [.ref (c0 + 16), .int (nI (ia + 1)), .int (nI (ib + 1)), .int 1] [] σ τ _
      refine Rx.go (fun _ => rfl) ?_
      refine Rx.go (fun _ => rfl) ?_
      refine Rx.go (fun _ => rfl) ?_
      refine Rx.callE rfl rfl rfl rfl (rx_orderDigits X c0 _ _ hR hia hib) ?_
      show Rx X c0 m_Mod_orderNumbers 57 [.ref (c0 + 16), .int (nI (ia + 1)), .int (nI (ib + 1)), .int 1] [.int (cmpD (bys ts ia) (dotp (bys ts ia)) (bys ts ib) (dotp (bys ts ib)) 30)] σ τ _
      refine Rx.go (fun _ => rfl) ?_
      refine Rx.go (fun _ => rfl) ?_
      show Rx X c0 m_Mod_orderNumbers 67 [.ref (c0 + 16), .int (nI (ia + 1)), .int (nI (ib + 1)), .int 1] [.int (-(cmpD (bys ts ia) (dotp (bys ts ia)) (bys ts ib) (dotp (bys ts ib)) 30))] σ τ _
      exact Rx.ret rfl (ev_reti rfl) ⟨by rw [onum, if_pos (bt_e hR hia (n := 45) rfl (by decide) c1), if_pos (bt_e hR hib (n := 45) rfl (by decide) c3)], rfl, rfl⟩
end
section
/-! order, same, less of the reference. (rows laid by wip/whole/rx9.py) -/
abbrev rnk (k : Nat) : Nat := if k = 4 then 3 else k
/-- term i's bytes are those of a term whose body is B; T: what stands behind the text -/
def twf (ts : RT) (i : Nat) (B T : List Nat) : Prop := (1 ≤ knd ts i ∧ knd ts i ≤ 8) ∧ (knd ts i = 1 → seg (bys ts i) (bys ts i).length 2 B) ∧ (knd ts i = 2 → 1 ≤ (bys ts i).length ∧ seg (bys ts i) ((bys ts i).length - 1) 1 B) ∧ (5 ≤ knd ts i → knd ts i ≤ 7 → 1 ≤ (bys ts i).length ∧ quo ts i ≤ (bys ts i).length ∧ seg (bys ts i) (quo ts i) 1 B ∧ seg (bys ts i) ((bys ts i).length - (if knd ts i = 7 then 1 else 0)) (quo ts i + 1) T)
def ordv (ka kb : Nat) (la lb Ba Bb Ta Tb : List Nat) : Int32 := if rnk ka = rnk kb then (if ka = 3 ∨ ka = 4 then (if onum la lb = 0 then sgn (nI ka - nI kb) else onum la lb) else if ka = 8 then (if la.getD 0 0 = 102 then -1 else 1) else if ka = 1 ∨ ka = 2 then lexc Ba Bb else if lexc Ba Bb = 0 then lexc Ta Tb else lexc Ba Bb) else sgn (nI (rnk ka) - nI (rnk kb))
theorem rk_e {σ : Nat → Int32} {τ : Nat → Nat → Int32} {ts : RT} (hR : rt σ τ ts) {ia ib : Nat} (hia : ia < ts.length) (hib : ib < ts.length) (c : nI (rnk (knd ts ia)) = nI (rnk (knd ts ib))) : rnk (knd ts ia) = rnk (knd ts ib) := (nI_eq (by have := (rt_ok hR hia).2.1; unfold rnk; split <;> omega) (by have := (rt_ok hR hib).2.1; unfold rnk; split <;> omega)).mp c
theorem rk_same {a b : Nat} (h : rnk a = rnk b) (hn : ¬ (a = 3 ∨ a = 4)) : a = b := by
  unfold rnk at h; split at h <;> split at h <;> omega
theorem num_t {a : Nat} (c : (decide (a = 3) || decide (a = 4)) = true) : a = 3 ∨ a = 4 := by simpa using c
theorem num_f {a : Nat} (c : (decide (a = 3) || decide (a = 4)) = false) : ¬ (a = 3 ∨ a = 4) := by simpa using c
theorem ix_ne {a b : Nat} (c : ¬ nI (a + 1) = nI (b + 1)) : a ≠ b := fun q => c (by rw [q])
theorem ix_eq {σ : Nat → Int32} {τ : Nat → Nat → Int32} {ts : RT} (hR : rt σ τ ts) {a b : Nat} (ha : a < ts.length) (hb : b < ts.length) (c : nI (a + 1) = nI (b + 1)) : a = b := by
  have := (nI_eq (by have := hR.2.1; omega) (by have := hR.2.1; omega)).mp c; omega
section ORD
variable {σ : Nat → Int32} {τ : Nat → Nat → Int32} {ts : RT} {ia ib : Nat} {Ba Bb Ta Tb : List Nat} {ka kb : Nat} {la lb : List Nat}
theorem ov_r (h : rnk ka ≠ rnk kb) : ordv ka kb la lb Ba Bb Ta Tb = sgn (nI (rnk ka) - nI (rnk kb)) := if_neg h
theorem ov_n0 (h : rnk ka = rnk kb) (hn : ka = 3 ∨ ka = 4) (h0 : onum la lb = 0) : ordv ka kb la lb Ba Bb Ta Tb = sgn (nI ka - nI kb) := by rw [ordv, if_pos h, if_pos hn, if_pos h0]
theorem ov_n1 (h : rnk ka = rnk kb) (hn : ka = 3 ∨ ka = 4) (h0 : ¬ onum la lb = 0) : ordv ka kb la lb Ba Bb Ta Tb = onum la lb := by rw [ordv, if_pos h, if_pos hn, if_neg h0]
theorem ov_t (h : rnk ka = rnk kb) (hn : ¬ (ka = 3 ∨ ka = 4)) (h8 : ka = 8) (b : Prop) [Decidable b] (hb : b ↔ la.getD 0 0 = 102) : ordv ka kb la lb Ba Bb Ta Tb = if b then -1 else 1 := by
  rw [ordv, if_pos h, if_neg hn, if_pos h8]; by_cases q : b
  · rw [if_pos q, if_pos (hb.mp q)]
  · rw [if_neg q, if_neg (fun z => q (hb.mpr z))]
theorem ov_b (h : rnk ka = rnk kb) (h1 : ka = 1 ∨ ka = 2) : ordv ka kb la lb Ba Bb Ta Tb = lexc Ba Bb := by rw [ordv, if_pos h, if_neg (by omega), if_neg (by omega), if_pos h1]
theorem ov_x1 (h : rnk ka = rnk kb) (h1 : 5 ≤ ka ∧ ka ≤ 7) (h0 : ¬ lexc Ba Bb = 0) : ordv ka kb la lb Ba Bb Ta Tb = lexc Ba Bb := by rw [ordv, if_pos h, if_neg (by omega), if_neg (by omega), if_neg (by omega), if_neg h0]
theorem ov_x0 (h : rnk ka = rnk kb) (h1 : 5 ≤ ka ∧ ka ≤ 7) (h0 : lexc Ba Bb = 0) : ordv ka kb la lb Ba Bb Ta Tb = lexc Ta Tb := by rw [ordv, if_pos h, if_neg (by omega), if_neg (by omega), if_neg (by omega), if_pos h0]
end ORD
theorem ln1 {n : Nat} (h : 1 ≤ n) : nI n - 1 = nI (n - 1) := pk_sub (b := 1) h
theorem ln0 (n : Nat) : nI n - 0 = nI (n - 0) := by rw [Int32.sub_zero]; rfl
set_option maxRecDepth 100000 in
set_option maxHeartbeats 1000000 in
theorem rx_order (X : ev_X) (c0 : Nat) (σ : Nat → Int32) (τ : Nat → Nat → Int32) {ts : RT} (hR : rt σ τ ts) {ia ib : Nat} (hia : ia < ts.length) (hib : ib < ts.length) {Ba Bb Ta Tb : List Nat} (hA : twf ts ia Ba Ta) (hB : twf ts ib Bb Tb) : Rx X c0 m_Mod_order 0 [.ref (c0 + 16), .int (nI (ia + 1)), .int (nI (ib + 1)), ev_dead, ev_dead] [] σ τ (fun r σ' τ' => r = some (.int (if ia = ib then 0 else ordv (knd ts ia) (knd ts ib) (bys ts ia) (bys ts ib) Ba Bb Ta Tb)) ∧ σ' = σ ∧ τ' = τ) := by
  refine Rx.go (fun _ => rfl) ?_
  refine Rx.go (fun _ => rfl) ?_
  refine Rx.callE rfl rfl rfl rfl (rx_isT X c0 _ _ hR hia) ?_
  show Rx X c0 m_Mod_order 5 [.ref (c0 + 16), .int (nI (ia + 1)), .int (nI (ib + 1)), ev_dead, ev_dead] [.int 1] σ τ _
  refine Rx.go (fun _ => rfl) ?_
  show Rx X c0 m_Mod_order 8 [.ref (c0 + 16), .int (nI (ia + 1)), .int (nI (ib + 1)), ev_dead, ev_dead] [] σ τ _
  refine Rx.go (fun _ => rfl) ?_
  refine Rx.go (fun _ => rfl) ?_
  refine Rx.callE rfl rfl rfl rfl (rx_isT X c0 _ _ hR hib) ?_
  show Rx X c0 m_Mod_order 13 [.ref (c0 + 16), .int (nI (ia + 1)), .int (nI (ib + 1)), ev_dead, ev_dead] [.int 1] σ τ _
  refine Rx.go (fun _ => rfl) ?_
  show Rx X c0 m_Mod_order 18 [.ref (c0 + 16), .int (nI (ia + 1)), .int (nI (ib + 1)), ev_dead, ev_dead] [] σ τ _
  refine Rx.go (fun _ => rfl) ?_
  refine Rx.go (fun _ => rfl) ?_
  refine Rx.go (fun _ => rfl) ?_
  refine Rx.ite (fun c1 => ?_) (fun c1 => ?_)
  · replace c1 : ¬ (nI (ia + 1)) = (nI (ib + 1)) := of_decide_eq_true c1
    show Rx X c0 m_Mod_order 25 [.ref (c0 + 16), .int (nI (ia + 1)), .int (nI (ib + 1)), ev_dead, ev_dead] [] σ τ _
    refine Rx.go (fun _ => rfl) ?_
    refine Rx.go (fun _ => rfl) ?_
    refine Rx.callE rfl rfl rfl rfl (rx_rnk X c0 _ _ hR hia) ?_
    show Rx X c0 m_Mod_order 30 [.ref (c0 + 16), .int (nI (ia + 1)), .int (nI (ib + 1)), ev_dead, ev_dead] [.int (nI (rnk (knd ts ia)))] σ τ _
    refine Rx.go (fun _ => rfl) ?_
    refine Rx.go (fun _ => rfl) ?_
    refine Rx.callE rfl rfl rfl rfl (rx_rnk X c0 _ _ hR hib) ?_
    show Rx X c0 m_Mod_order 35 [.ref (c0 + 16), .int (nI (ia + 1)), .int (nI (ib + 1)), ev_dead, ev_dead] [.int (nI (rnk (knd ts ib))), .int (nI (rnk (knd ts ia)))] σ τ _
    refine Rx.go (fun _ => rfl) ?_
    refine Rx.ite (fun c2 => ?_) (fun c2 => ?_)
    · replace c2 : (nI (rnk (knd ts ia))) = (nI (rnk (knd ts ib))) := of_decide_eq_true c2
      show Rx X c0 m_Mod_order 53 [.ref (c0 + 16), .int (nI (ia + 1)), .int (nI (ib + 1)), ev_dead, ev_dead] [] σ τ _
      refine Rx.go (fun _ => rfl) ?_
      refine Rx.go (fun _ => rfl) ?_
      refine Rx.callE rfl rfl rfl rfl (rx_isNum X c0 _ _ hR hia) ?_
      show Rx X c0 m_Mod_order 58 [.ref (c0 + 16), .int (nI (ia + 1)), .int (nI (ib + 1)), ev_dead, ev_dead] [.int (bi (decide (knd ts ia = 3) || decide (knd ts ia = 4)))] σ τ _
      refine Rx.go (fun _ => rfl) ?_
      refine Rx.ite (fun c3 => ?_) (fun c3 => ?_)
      · replace c3 : (decide (knd ts ia = 3) || decide (knd ts ia = 4)) = false := bi_eqt c3
        have hkk := rk_same (rk_e hR hia hib c2) (num_f c3)
        show Rx X c0 m_Mod_order 93 [.ref (c0 + 16), .int (nI (ia + 1)), .int (nI (ib + 1)), ev_dead, ev_dead] [] σ τ _
        refine Rx.go (fun _ => rfl) ?_
        refine Rx.get rfl rfl ?_
        refine Rx.go (fun _ => rfl) ?_
        refine Rx.aldE (v := nI (knd ts ia)) 5 rfl rfl (nI_ix (N := 2002) (n := ia + 1) (by have := hR.2.1; omega) (by decide)) (rt_k hR hia) ?_
        refine Rx.go (fun _ => rfl) ?_
        refine Rx.go (fun _ => rfl) ?_
        refine Rx.ite (fun c4 => ?_) (fun c4 => ?_)
        · replace c4 : ¬ (nI (knd ts ia)) = 8 := of_decide_eq_true c4
          show Rx X c0 m_Mod_order 121 [.ref (c0 + 16), .int (nI (ia + 1)), .int (nI (ib + 1)), ev_dead, ev_dead] [] σ τ _
          refine Rx.go (fun _ => rfl) ?_
          refine Rx.get rfl rfl ?_
          refine Rx.go (fun _ => rfl) ?_
          refine Rx.aldE (v := nI (knd ts ia)) 5 rfl rfl (nI_ix (N := 2002) (n := ia + 1) (by have := hR.2.1; omega) (by decide)) (rt_k hR hia) ?_
          refine Rx.go (fun _ => rfl) ?_
          refine Rx.go (fun _ => rfl) ?_
          refine Rx.ite (fun c5 => ?_) (fun c5 => ?_)
          · replace c5 : ¬ (nI (knd ts ia)) = 1 := of_decide_eq_true c5
            show Rx X c0 m_Mod_order 150 [.ref (c0 + 16), .int (nI (ia + 1)), .int (nI (ib + 1)), ev_dead, ev_dead] [] σ τ _
            refine Rx.go (fun _ => rfl) ?_
            refine Rx.get rfl rfl ?_
            refine Rx.go (fun _ => rfl) ?_
            refine Rx.aldE (v := nI (knd ts ia)) 5 rfl rfl (nI_ix (N := 2002) (n := ia + 1) (by have := hR.2.1; omega) (by decide)) (rt_k hR hia) ?_
            refine Rx.go (fun _ => rfl) ?_
            refine Rx.go (fun _ => rfl) ?_
            refine Rx.ite (fun c6 => ?_) (fun c6 => ?_)
            · replace c6 : ¬ (nI (knd ts ia)) = 2 := of_decide_eq_true c6
              have h57 : 5 ≤ knd ts ia ∧ knd ts ia ≤ 7 := by
                have z3 := hA.1
                have z4 := num_f c3
                have z8 := kn_n (n := 8) rfl c4
                have z1 := kn_n (n := 1) rfl c5
                have z2 := kn_n (n := 2) rfl c6
                omega
              have hA4 := hA.2.2.2 h57.1 h57.2
              have hB4 := hB.2.2.2 (by omega) (by omega)
              show Rx X c0 m_Mod_order 183 [.ref (c0 + 16), .int (nI (ia + 1)), .int (nI (ib + 1)), ev_dead, ev_dead] [] σ τ _
              refine Rx.go (fun _ => rfl) ?_
              refine Rx.go (fun _ => rfl) ?_
              refine Rx.go (fun _ => rfl) ?_
              refine Rx.go (fun _ => rfl) ?_
              refine Rx.get rfl rfl ?_
              refine Rx.go (fun _ => rfl) ?_
              refine Rx.aldE (v := nI (quo ts ia)) 6 rfl rfl (nI_ix (N := 2002) (n := ia + 1) (by have := hR.2.1; omega) (by decide)) (rt_q hR hia) ?_
              refine Rx.go (fun _ => rfl) ?_
              refine Rx.go (fun _ => rfl) ?_
              refine Rx.go (fun _ => rfl) ?_
              refine Rx.get rfl rfl ?_
              refine Rx.go (fun _ => rfl) ?_
              refine Rx.aldE (v := nI (quo ts ib)) 6 rfl rfl (nI_ix (N := 2002) (n := ib + 1) (by have := hR.2.1; omega) (by decide)) (rt_q hR hib) ?_
              refine Rx.callE rfl rfl rfl rfl (rx_orderRows X c0 _ _ hR hia hib hA4.2.1 hB4.2.1 (fa := 1) (fb := 1) hA4.2.2.1 hB4.2.2.1) ?_
              show Rx X c0 m_Mod_order 203 [.ref (c0 + 16), .int (nI (ia + 1)), .int (nI (ib + 1)), ev_dead, ev_dead] [.int (lexc Ba Bb)] σ τ _
              refine Rx.go (fun _ => rfl) ?_
              show Rx X c0 m_Mod_order 204 [.ref (c0 + 16), .int (nI (ia + 1)), .int (nI (ib + 1)), .int (lexc Ba Bb), ev_dead] [] σ τ _
              refine Rx.go (fun _ => rfl) ?_
              refine Rx.go (fun _ => rfl) ?_
              refine Rx.ite (fun c7 => ?_) (fun c7 => ?_)
              · replace c7 : (lexc Ba Bb) = 0 := of_decide_eq_true c7
                show Rx X c0 m_Mod_order 210 [.ref (c0 + 16), .int (nI (ia + 1)), .int (nI (ib + 1)), .int (lexc Ba Bb), ev_dead] [] σ τ _
                refine Rx.go (fun _ => rfl) ?_
                refine Rx.get rfl rfl ?_
                refine Rx.go (fun _ => rfl) ?_
                refine Rx.aldE (v := nI (knd ts ia)) 5 rfl rfl (nI_ix (N := 2002) (n := ia + 1) (by have := hR.2.1; omega) (by decide)) (rt_k hR hia) ?_
                refine Rx.go (fun _ => rfl) ?_
                refine Rx.go (fun _ => rfl) ?_
                refine Rx.ite (fun c8 => ?_) (fun c8 => ?_)
                · replace c8 : ¬ (nI (knd ts ia)) = 7 := of_decide_eq_true c8
                  have h7 := kn_n (n := 7) rfl c8
                  rw [if_neg h7] at hA4
                  rw [if_neg (by omega)] at hB4
                  show Rx X c0 m_Mod_order 225 [.ref (c0 + 16), .int (nI (ia + 1)), .int (nI (ib + 1)), .int (lexc Ba Bb), ev_dead] [] σ τ _
                  refine Rx.go (fun _ => rfl) ?_
                  refine Rx.go (fun _ => rfl) ?_
                  show Rx X c0 m_Mod_order 228 [.ref (c0 + 16), .int (nI (ia + 1)), .int (nI (ib + 1)), .int (lexc Ba Bb), .int 0] [] σ τ _
                  refine Rx.go (fun _ => rfl) ?_
                  refine Rx.go (fun _ => rfl) ?_
                  refine Rx.go (fun _ => rfl) ?_
                  refine Rx.get rfl rfl ?_
                  refine Rx.go (fun _ => rfl) ?_
                  refine Rx.aldE (v := nI (quo ts ia)) 6 rfl rfl (nI_ix (N := 2002) (n := ia + 1) (by have := hR.2.1; omega) (by decide)) (rt_q hR hia) ?_
                  refine Rx.go (fun _ => rfl) ?_
                  refine Rx.go (fun _ => rfl) ?_
                  refine Rx.top (y := nI (quo ts ia + 1)) (nI_1 _) ?_
                  refine Rx.go (fun _ => rfl) ?_
                  refine Rx.go (fun _ => rfl) ?_
                  refine Rx.callE rfl rfl rfl rfl (rx_lenOf X c0 _ _ hR hia) ?_
                  show Rx X c0 m_Mod_order 243 [.ref (c0 + 16), .int (nI (ia + 1)), .int (nI (ib + 1)), .int (lexc Ba Bb), .int 0] [.int (nI (bys ts ia).length), .int (nI (quo ts ia + 1)), .int (nI (ia + 1)), .ref (c0 + 16)] σ τ _
                  refine Rx.go (fun _ => rfl) ?_
                  refine Rx.go (fun _ => rfl) ?_
                  refine Rx.top (y := nI ((bys ts ia).length - 0)) (ln0 _) ?_
                  refine Rx.go (fun _ => rfl) ?_
                  refine Rx.go (fun _ => rfl) ?_
                  refine Rx.get rfl rfl ?_
                  refine Rx.go (fun _ => rfl) ?_
                  refine Rx.aldE (v := nI (quo ts ib)) 6 rfl rfl (nI_ix (N := 2002) (n := ib + 1) (by have := hR.2.1; omega) (by decide)) (rt_q hR hib) ?_
                  refine Rx.go (fun _ => rfl) ?_
                  refine Rx.go (fun _ => rfl) ?_
                  refine Rx.top (y := nI (quo ts ib + 1)) (nI_1 _) ?_
                  refine Rx.go (fun _ => rfl) ?_
                  refine Rx.go (fun _ => rfl) ?_
                  refine Rx.callE rfl rfl rfl rfl (rx_lenOf X c0 _ _ hR hib) ?_
                  show Rx X c0 m_Mod_order 260 [.ref (c0 + 16), .int (nI (ia + 1)), .int (nI (ib + 1)), .int (lexc Ba Bb), .int 0] [.int (nI (bys ts ib).length), .int (nI (quo ts ib + 1)), .int (nI (ib + 1)), .int (nI ((bys ts ia).length - 0)), .int (nI (quo ts ia + 1)), .int (nI (ia + 1)), .ref (c0 + 16)] σ τ _
                  refine Rx.go (fun _ => rfl) ?_
                  refine Rx.go (fun _ => rfl) ?_
                  refine Rx.top (y := nI ((bys ts ib).length - 0)) (ln0 _) ?_
                  refine Rx.callE rfl rfl rfl rfl (rx_orderRows X c0 _ _ hR hia hib (Nat.sub_le _ _) (Nat.sub_le _ _) hA4.2.2.2 hB4.2.2.2) ?_
                  show Rx X c0 m_Mod_order 266 [.ref (c0 + 16), .int (nI (ia + 1)), .int (nI (ib + 1)), .int (lexc Ba Bb), .int 0] [.int (lexc Ta Tb)] σ τ _
                  show Rx X c0 m_Mod_order 266 [.ref (c0 + 16), .int (nI (ia + 1)), .int (nI (ib + 1)), .int (lexc Ba Bb), .int 0] [.int (lexc Ta Tb)] σ τ _
                  exact Rx.ret rfl (ev_reti rfl) ⟨by rw [if_neg (ix_ne c1), ov_x0 (rk_e hR hia hib c2) h57 c7], rfl, rfl⟩
                · replace c8 : (nI (knd ts ia)) = 7 := Classical.not_not.mp (of_decide_eq_false c8)
                  have h7 := kn_e hR hia (n := 7) rfl (by decide) c8
                  rw [if_pos h7] at hA4
                  rw [if_pos (by omega)] at hB4
                  show Rx X c0 m_Mod_order 221 [.ref (c0 + 16), .int (nI (ia + 1)), .int (nI (ib + 1)), .int (lexc Ba Bb), ev_dead] [] σ τ _
                  refine Rx.go (fun _ => rfl) ?_
                  refine Rx.go (fun _ => rfl) ?_
                  refine Rx.go (fun _ => rfl) ?_
                  show Rx X c0 m_Mod_order 228 [.ref (c0 + 16), .int (nI (ia + 1)), .int (nI (ib + 1)), .int (lexc Ba Bb), .int 1] [] σ τ _
                  refine Rx.go (fun _ => rfl) ?_
                  refine Rx.go (fun _ => rfl) ?_
                  refine Rx.go (fun _ => rfl) ?_
                  refine Rx.get rfl rfl ?_
                  refine Rx.go (fun _ => rfl) ?_
                  refine Rx.aldE (v := nI (quo ts ia)) 6 rfl rfl (nI_ix (N := 2002) (n := ia + 1) (by have := hR.2.1; omega) (by decide)) (rt_q hR hia) ?_
                  refine Rx.go (fun _ => rfl) ?_
                  refine Rx.go (fun _ => rfl) ?_
                  refine Rx.top (y := nI (quo ts ia + 1)) (nI_1 _) ?_
                  refine Rx.go (fun _ => rfl) ?_
                  refine Rx.go (fun _ => rfl) ?_
                  refine Rx.callE rfl rfl rfl rfl (rx_lenOf X c0 _ _ hR hia) ?_
                  show Rx X c0 m_Mod_order 243 [.ref (c0 + 16), .int (nI (ia + 1)), .int (nI (ib + 1)), .int (lexc Ba Bb), .int 1] [.int (nI (bys ts ia).length), .int (nI (quo ts ia + 1)), .int (nI (ia + 1)), .ref (c0 + 16)] σ τ _
                  refine Rx.go (fun _ => rfl) ?_
                  refine Rx.go (fun _ => rfl) ?_
                  refine Rx.top (y := nI ((bys ts ia).length - 1)) (ln1 hA4.1) ?_
                  refine Rx.go (fun _ => rfl) ?_
                  refine Rx.go (fun _ => rfl) ?_
                  refine Rx.get rfl rfl ?_
                  refine Rx.go (fun _ => rfl) ?_
                  refine Rx.aldE (v := nI (quo ts ib)) 6 rfl rfl (nI_ix (N := 2002) (n := ib + 1) (by have := hR.2.1; omega) (by decide)) (rt_q hR hib) ?_
                  refine Rx.go (fun _ => rfl) ?_
                  refine Rx.go (fun _ => rfl) ?_
                  refine Rx.top (y := nI (quo ts ib + 1)) (nI_1 _) ?_
                  refine Rx.go (fun _ => rfl) ?_
                  refine Rx.go (fun _ => rfl) ?_
                  refine Rx.callE rfl rfl rfl rfl (rx_lenOf X c0 _ _ hR hib) ?_
                  show Rx X c0 m_Mod_order 260 [.ref (c0 + 16), .int (nI (ia + 1)), .int (nI (ib + 1)), .int (lexc Ba Bb), .int 1] [.int (nI (bys ts ib).length), .int (nI (quo ts ib + 1)), .int (nI (ib + 1)), .int (nI ((bys ts ia).length - 1)), .int (nI (quo ts ia + 1)), .int (nI (ia + 1)), .ref (c0 + 16)] σ τ _
                  refine Rx.go (fun _ => rfl) ?_
                  refine Rx.go (fun _ => rfl) ?_
                  refine Rx.top (y := nI ((bys ts ib).length - 1)) (ln1 hB4.1) ?_
                  refine Rx.callE rfl rfl rfl rfl (rx_orderRows X c0 _ _ hR hia hib (Nat.sub_le _ _) (Nat.sub_le _ _) hA4.2.2.2 hB4.2.2.2) ?_
                  show Rx X c0 m_Mod_order 266 [.ref (c0 + 16), .int (nI (ia + 1)), .int (nI (ib + 1)), .int (lexc Ba Bb), .int 1] [.int (lexc Ta Tb)] σ τ _
                  show Rx X c0 m_Mod_order 266 [.ref (c0 + 16), .int (nI (ia + 1)), .int (nI (ib + 1)), .int (lexc Ba Bb), .int 1] [.int (lexc Ta Tb)] σ τ _
                  exact Rx.ret rfl (ev_reti rfl) ⟨by rw [if_neg (ix_ne c1), ov_x0 (rk_e hR hia hib c2) h57 c7], rfl, rfl⟩
              · replace c7 : ¬ (lexc Ba Bb) = 0 := of_decide_eq_false c7
                show Rx X c0 m_Mod_order 208 [.ref (c0 + 16), .int (nI (ia + 1)), .int (nI (ib + 1)), .int (lexc Ba Bb), ev_dead] [] σ τ _
                refine Rx.go (fun _ => rfl) ?_
                show Rx X c0 m_Mod_order 209 [.ref (c0 + 16), .int (nI (ia + 1)), .int (nI (ib + 1)), .int (lexc Ba Bb), ev_dead] [.int (lexc Ba Bb)] σ τ _
                exact Rx.ret rfl (ev_reti rfl) ⟨by rw [if_neg (ix_ne c1), ov_x1 (rk_e hR hia hib c2) h57 c7], rfl, rfl⟩
            · replace c6 : (nI (knd ts ia)) = 2 := Classical.not_not.mp (of_decide_eq_false c6)
              have h2 := kn_e hR hia (n := 2) rfl (by decide) c6
              have h2b := hB.2.2.1 (hkk.symm.trans h2)
              have h2a := hA.2.2.1 h2
              show Rx X c0 m_Mod_order 160 [.ref (c0 + 16), .int (nI (ia + 1)), .int (nI (ib + 1)), ev_dead, ev_dead] [] σ τ _
              refine Rx.go (fun _ => rfl) ?_
              refine Rx.go (fun _ => rfl) ?_
              refine Rx.go (fun _ => rfl) ?_
              refine Rx.go (fun _ => rfl) ?_
              refine Rx.go (fun _ => rfl) ?_
              refine Rx.callE rfl rfl rfl rfl (rx_lenOf X c0 _ _ hR hia) ?_
              show Rx X c0 m_Mod_order 168 [.ref (c0 + 16), .int (nI (ia + 1)), .int (nI (ib + 1)), ev_dead, ev_dead] [.int (nI (bys ts ia).length), .int 1, .int (nI (ia + 1)), .ref (c0 + 16)] σ τ _
              refine Rx.go (fun _ => rfl) ?_
              refine Rx.go (fun _ => rfl) ?_
              refine Rx.top (y := nI ((bys ts ia).length - 1)) (ln1 h2a.1) ?_
              refine Rx.go (fun _ => rfl) ?_
              refine Rx.go (fun _ => rfl) ?_
              refine Rx.go (fun _ => rfl) ?_
              refine Rx.go (fun _ => rfl) ?_
              refine Rx.callE rfl rfl rfl rfl (rx_lenOf X c0 _ _ hR hib) ?_
              show Rx X c0 m_Mod_order 177 [.ref (c0 + 16), .int (nI (ia + 1)), .int (nI (ib + 1)), ev_dead, ev_dead] [.int (nI (bys ts ib).length), .int 1, .int (nI (ib + 1)), .int (nI ((bys ts ia).length - 1)), .int 1, .int (nI (ia + 1)), .ref (c0 + 16)] σ τ _
              refine Rx.go (fun _ => rfl) ?_
              refine Rx.go (fun _ => rfl) ?_
              refine Rx.top (y := nI ((bys ts ib).length - 1)) (ln1 h2b.1) ?_
              refine Rx.callE rfl rfl rfl rfl (rx_orderRows X c0 _ _ hR hia hib (Nat.sub_le _ 1) (Nat.sub_le _ 1) (fa := 1) (fb := 1) (hA.2.2.1 h2).2 (hB.2.2.1 (hkk.symm.trans h2)).2) ?_
              show Rx X c0 m_Mod_order 182 [.ref (c0 + 16), .int (nI (ia + 1)), .int (nI (ib + 1)), ev_dead, ev_dead] [.int (lexc Ba Bb)] σ τ _
              show Rx X c0 m_Mod_order 182 [.ref (c0 + 16), .int (nI (ia + 1)), .int (nI (ib + 1)), ev_dead, ev_dead] [.int (lexc Ba Bb)] σ τ _
              exact Rx.ret rfl (ev_reti rfl) ⟨by rw [if_neg (ix_ne c1), ov_b (rk_e hR hia hib c2) (Or.inr h2)], rfl, rfl⟩
          · replace c5 : (nI (knd ts ia)) = 1 := Classical.not_not.mp (of_decide_eq_false c5)
            have h1 := kn_e hR hia (n := 1) rfl (by decide) c5
            show Rx X c0 m_Mod_order 131 [.ref (c0 + 16), .int (nI (ia + 1)), .int (nI (ib + 1)), ev_dead, ev_dead] [] σ τ _
            refine Rx.go (fun _ => rfl) ?_
            refine Rx.go (fun _ => rfl) ?_
            refine Rx.go (fun _ => rfl) ?_
            refine Rx.go (fun _ => rfl) ?_
            refine Rx.go (fun _ => rfl) ?_
            refine Rx.callE rfl rfl rfl rfl (rx_lenOf X c0 _ _ hR hia) ?_
            show Rx X c0 m_Mod_order 139 [.ref (c0 + 16), .int (nI (ia + 1)), .int (nI (ib + 1)), ev_dead, ev_dead] [.int (nI (bys ts ia).length), .int 2, .int (nI (ia + 1)), .ref (c0 + 16)] σ τ _
            refine Rx.go (fun _ => rfl) ?_
            refine Rx.go (fun _ => rfl) ?_
            refine Rx.go (fun _ => rfl) ?_
            refine Rx.go (fun _ => rfl) ?_
            refine Rx.callE rfl rfl rfl rfl (rx_lenOf X c0 _ _ hR hib) ?_
            show Rx X c0 m_Mod_order 146 [.ref (c0 + 16), .int (nI (ia + 1)), .int (nI (ib + 1)), ev_dead, ev_dead] [.int (nI (bys ts ib).length), .int 2, .int (nI (ib + 1)), .int (nI (bys ts ia).length), .int 2, .int (nI (ia + 1)), .ref (c0 + 16)] σ τ _
            refine Rx.callE rfl rfl rfl rfl (rx_orderRows X c0 _ _ hR hia hib (Nat.le_refl _) (Nat.le_refl _) (fa := 2) (fb := 2) (hA.2.1 h1) (hB.2.1 (hkk.symm.trans h1))) ?_
            show Rx X c0 m_Mod_order 149 [.ref (c0 + 16), .int (nI (ia + 1)), .int (nI (ib + 1)), ev_dead, ev_dead] [.int (lexc Ba Bb)] σ τ _
            show Rx X c0 m_Mod_order 149 [.ref (c0 + 16), .int (nI (ia + 1)), .int (nI (ib + 1)), ev_dead, ev_dead] [.int (lexc Ba Bb)] σ τ _
            exact Rx.ret rfl (ev_reti rfl) ⟨by rw [if_neg (ix_ne c1), ov_b (rk_e hR hia hib c2) (Or.inl h1)], rfl, rfl⟩
        · replace c4 : (nI (knd ts ia)) = 8 := Classical.not_not.mp (of_decide_eq_false c4)
          show Rx X c0 m_Mod_order 104 [.ref (c0 + 16), .int (nI (ia + 1)), .int (nI (ib + 1)), ev_dead, ev_dead] [] σ τ _
          refine Rx.go (fun _ => rfl) ?_
          refine Rx.go (fun _ => rfl) ?_
          refine Rx.go (fun _ => rfl) ?_
          refine Rx.callE rfl rfl rfl rfl (rx_byteAt X c0 _ _ hR hia (j := 0) (by decide)) ?_
          show Rx X c0 m_Mod_order 110 [.ref (c0 + 16), .int (nI (ia + 1)), .int (nI (ib + 1)), ev_dead, ev_dead] [.int (nI ((bys ts ia).getD 0 0))] σ τ _
          refine Rx.go (fun _ => rfl) ?_
          refine Rx.go (fun _ => rfl) ?_
          refine Rx.ite (fun c9 => ?_) (fun c9 => ?_)
          · replace c9 : ¬ (nI ((bys ts ia).getD 0 0)) = 102 := of_decide_eq_true c9
            show Rx X c0 m_Mod_order 119 [.ref (c0 + 16), .int (nI (ia + 1)), .int (nI (ib + 1)), ev_dead, ev_dead] [] σ τ _
            refine Rx.go (fun _ => rfl) ?_
            show Rx X c0 m_Mod_order 120 [.ref (c0 + 16), .int (nI (ia + 1)), .int (nI (ib + 1)), ev_dead, ev_dead] [.int 1] σ τ _
            exact Rx.ret rfl (ev_reti rfl) ⟨by rw [if_neg (ix_ne c1), ov_t (rk_e hR hia hib c2) (num_f c3) (kn_e hR hia (n := 8) rfl (by decide) c4) False ⟨fun q => q.elim, fun q => (bt_n (n := 102) rfl c9 q)⟩, if_neg id], rfl, rfl⟩
          · replace c9 : (nI ((bys ts ia).getD 0 0)) = 102 := Classical.not_not.mp (of_decide_eq_false c9)
            show Rx X c0 m_Mod_order 115 [.ref (c0 + 16), .int (nI (ia + 1)), .int (nI (ib + 1)), ev_dead, ev_dead] [] σ τ _
            refine Rx.go (fun _ => rfl) ?_
            refine Rx.go (fun _ => rfl) ?_
            show Rx X c0 m_Mod_order 120 [.ref (c0 + 16), .int (nI (ia + 1)), .int (nI (ib + 1)), ev_dead, ev_dead] [.int (-1)] σ τ _
            exact Rx.ret rfl (ev_reti rfl) ⟨by rw [if_neg (ix_ne c1), ov_t (rk_e hR hia hib c2) (num_f c3) (kn_e hR hia (n := 8) rfl (by decide) c4) True ⟨fun _ => bt_e hR hia (n := 102) rfl (by decide) c9, fun _ => trivial⟩, if_pos trivial], rfl, rfl⟩
      · replace c3 : (decide (knd ts ia = 3) || decide (knd ts ia = 4)) = true := bi_eqf c3
        show Rx X c0 m_Mod_order 61 [.ref (c0 + 16), .int (nI (ia + 1)), .int (nI (ib + 1)), ev_dead, ev_dead] [] σ τ _
        refine Rx.go (fun _ => rfl) ?_
        refine Rx.go (fun _ => rfl) ?_
        refine Rx.go (fun _ => rfl) ?_
        refine Rx.callE rfl rfl rfl rfl (rx_orderNumbers X c0 _ _ hR hia hib) ?_
        show Rx X c0 m_Mod_order 67 [.ref (c0 + 16), .int (nI (ia + 1)), .int (nI (ib + 1)), ev_dead, ev_dead] [.int (onum (bys ts ia) (bys ts ib))] σ τ _
        refine Rx.go (fun _ => rfl) ?_
        show Rx X c0 m_Mod_order 68 [.ref (c0 + 16), .int (nI (ia + 1)), .int (nI (ib + 1)), .int (onum (bys ts ia) (bys ts ib)), ev_dead] [] σ τ _
        refine Rx.go (fun _ => rfl) ?_
        refine Rx.go (fun _ => rfl) ?_
        refine Rx.ite (fun c10 => ?_) (fun c10 => ?_)
        · replace c10 : (onum (bys ts ia) (bys ts ib)) = 0 := of_decide_eq_true c10
          show Rx X c0 m_Mod_order 76 [.ref (c0 + 16), .int (nI (ia + 1)), .int (nI (ib + 1)), .int (onum (bys ts ia) (bys ts ib)), ev_dead] [] σ τ _
          refine Rx.go (fun _ => rfl) ?_
          refine Rx.get rfl rfl ?_
          refine Rx.go (fun _ => rfl) ?_
          refine Rx.aldE (v := nI (knd ts ia)) 5 rfl rfl (nI_ix (N := 2002) (n := ia + 1) (by have := hR.2.1; omega) (by decide)) (rt_k hR hia) ?_
          refine Rx.go (fun _ => rfl) ?_
          refine Rx.get rfl rfl ?_
          refine Rx.go (fun _ => rfl) ?_
          refine Rx.aldE (v := nI (knd ts ib)) 5 rfl rfl (nI_ix (N := 2002) (n := ib + 1) (by have := hR.2.1; omega) (by decide)) (rt_k hR hib) ?_
          refine Rx.go (fun _ => rfl) ?_
          refine Rx.scallE rfl rfl rfl rfl (sx_Mod_sign X _) ?_
          show Rx X c0 m_Mod_order 92 [.ref (c0 + 16), .int (nI (ia + 1)), .int (nI (ib + 1)), .int (onum (bys ts ia) (bys ts ib)), ev_dead] [.int (sgn ((nI (knd ts ia)) - (nI (knd ts ib))))] σ τ _
          show Rx X c0 m_Mod_order 92 [.ref (c0 + 16), .int (nI (ia + 1)), .int (nI (ib + 1)), .int (onum (bys ts ia) (bys ts ib)), ev_dead] [.int (sgn ((nI (knd ts ia)) - (nI (knd ts ib))))] σ τ _
          exact Rx.ret rfl (ev_reti rfl) ⟨by rw [if_neg (ix_ne c1), ov_n0 (rk_e hR hia hib c2) (num_t c3) c10], rfl, rfl⟩
        · replace c10 : ¬ (onum (bys ts ia) (bys ts ib)) = 0 := of_decide_eq_false c10
          show Rx X c0 m_Mod_order 72 [.ref (c0 + 16), .int (nI (ia + 1)), .int (nI (ib + 1)), .int (onum (bys ts ia) (bys ts ib)), ev_dead] [] σ τ _
          refine Rx.go (fun _ => rfl) ?_
          refine Rx.go (fun _ => rfl) ?_
          show Rx X c0 m_Mod_order 92 [.ref (c0 + 16), .int (nI (ia + 1)), .int (nI (ib + 1)), .int (onum (bys ts ia) (bys ts ib)), ev_dead] [.int (onum (bys ts ia) (bys ts ib))] σ τ _
          exact Rx.ret rfl (ev_reti rfl) ⟨by rw [if_neg (ix_ne c1), ov_n1 (rk_e hR hia hib c2) (num_t c3) c10], rfl, rfl⟩
    · replace c2 : ¬ (nI (rnk (knd ts ia))) = (nI (rnk (knd ts ib))) := of_decide_eq_false c2
      show Rx X c0 m_Mod_order 38 [.ref (c0 + 16), .int (nI (ia + 1)), .int (nI (ib + 1)), ev_dead, ev_dead] [] σ τ _
      refine Rx.go (fun _ => rfl) ?_
      refine Rx.go (fun _ => rfl) ?_
      refine Rx.callE rfl rfl rfl rfl (rx_rnk X c0 _ _ hR hia) ?_
      show Rx X c0 m_Mod_order 43 [.ref (c0 + 16), .int (nI (ia + 1)), .int (nI (ib + 1)), ev_dead, ev_dead] [.int (nI (rnk (knd ts ia)))] σ τ _
      refine Rx.go (fun _ => rfl) ?_
      refine Rx.go (fun _ => rfl) ?_
      refine Rx.callE rfl rfl rfl rfl (rx_rnk X c0 _ _ hR hib) ?_
      show Rx X c0 m_Mod_order 48 [.ref (c0 + 16), .int (nI (ia + 1)), .int (nI (ib + 1)), ev_dead, ev_dead] [.int (nI (rnk (knd ts ib))), .int (nI (rnk (knd ts ia)))] σ τ _
      refine Rx.go (fun _ => rfl) ?_
      refine Rx.scallE rfl rfl rfl rfl (sx_Mod_sign X _) ?_
      show Rx X c0 m_Mod_order 52 [.ref (c0 + 16), .int (nI (ia + 1)), .int (nI (ib + 1)), ev_dead, ev_dead] [.int (sgn ((nI (rnk (knd ts ia))) - (nI (rnk (knd ts ib)))))] σ τ _
      show Rx X c0 m_Mod_order 52 [.ref (c0 + 16), .int (nI (ia + 1)), .int (nI (ib + 1)), ev_dead, ev_dead] [.int (sgn ((nI (rnk (knd ts ia))) - (nI (rnk (knd ts ib)))))] σ τ _
      exact Rx.ret rfl (ev_reti rfl) ⟨by rw [if_neg (ix_ne c1), ov_r (fun z => c2 (by rw [z]))], rfl, rfl⟩
  · replace c1 : (nI (ia + 1)) = (nI (ib + 1)) := Classical.not_not.mp (of_decide_eq_false c1)
    show Rx X c0 m_Mod_order 23 [.ref (c0 + 16), .int (nI (ia + 1)), .int (nI (ib + 1)), ev_dead, ev_dead] [] σ τ _
    refine Rx.go (fun _ => rfl) ?_
    show Rx X c0 m_Mod_order 24 [.ref (c0 + 16), .int (nI (ia + 1)), .int (nI (ib + 1)), ev_dead, ev_dead] [.int 0] σ τ _
    exact Rx.ret rfl (ev_reti rfl) ⟨by rw [if_pos (ix_eq hR hia hib c1)], rfl, rfl⟩
end
section
/-! same, less of the reference. (rows laid by wip/whole/rx10.py) -/
def nmb (k : Nat) : Prop := k = 3 ∨ k = 4
theorem lit_t {σ : Nat → Int32} {τ : Nat → Nat → Int32} {ts : RT} (hR : rt σ τ ts) {i : Nat} (hi : i < ts.length) (c : decide (2 < nI (knd ts i)) = true) : 2 < knd ts i := by
  have := of_decide_eq_true c
  rwa [show (2 : Int32) = nI 2 from rfl, nI_ltI (by decide) (by have := (rt_ok hR hi).2.1; omega)] at this
theorem lit_f {σ : Nat → Int32} {τ : Nat → Nat → Int32} {ts : RT} (hR : rt σ τ ts) {i : Nat} (hi : i < ts.length) (c : decide (2 < nI (knd ts i)) = false) : ¬ 2 < knd ts i := by
  have := of_decide_eq_false c
  rwa [show (2 : Int32) = nI 2 from rfl, nI_ltI (by decide) (by have := (rt_ok hR hi).2.1; omega)] at this
def samv (ka kb : Nat) (la lb : List Nat) : Int32 := if (ka = 3 ∨ ka = 4) ∧ (kb = 3 ∨ kb = 4) then (if onum la lb = 0 then 1 else 0) else if (ka = 7 ∨ kb = 7) ∧ 2 < ka ∧ 2 < kb then 2 else 0
def lesv (ka kb : Nat) (la lb : List Nat) (o : Int32) : Int32 := if (ka = 3 ∨ ka = 4) ∧ (kb = 3 ∨ kb = 4) then (if 0 ≤ onum la lb then 0 else 1) else if ka = kb ∧ (ka = 5 ∨ ka = 8) then (if 0 ≤ o then 0 else 1) else 2
theorem kk_e {σ : Nat → Int32} {τ : Nat → Nat → Int32} {ts : RT} (hR : rt σ τ ts) {ia ib : Nat} (hia : ia < ts.length) (hib : ib < ts.length) (c : nI (knd ts ia) = nI (knd ts ib)) : knd ts ia = knd ts ib := (nI_eq (by have := (rt_ok hR hia).2.1; omega) (by have := (rt_ok hR hib).2.1; omega)).mp c
set_option maxRecDepth 100000 in
set_option maxHeartbeats 1000000 in
theorem rx_same (X : ev_X) (c0 : Nat) (σ : Nat → Int32) (τ : Nat → Nat → Int32) {ts : RT} (hR : rt σ τ ts) {ia ib : Nat} (hia : ia < ts.length) (hib : ib < ts.length) : Rx X c0 m_Mod_same 0 [.ref (c0 + 16), .int (nI (ia + 1)), .int (nI (ib + 1)), ev_dead] [] σ τ (fun r σ' τ' => r = some (.int (if ia = ib then 1 else samv (knd ts ia) (knd ts ib) (bys ts ia) (bys ts ib))) ∧ σ' = σ ∧ τ' = τ) := by
  refine Rx.go (fun _ => rfl) ?_
  refine Rx.go (fun _ => rfl) ?_
  refine Rx.callE rfl rfl rfl rfl (rx_isT X c0 _ _ hR hia) ?_
  show Rx X c0 m_Mod_same 5 [.ref (c0 + 16), .int (nI (ia + 1)), .int (nI (ib + 1)), ev_dead] [.int 1] σ τ _
  refine Rx.go (fun _ => rfl) ?_
  show Rx X c0 m_Mod_same 8 [.ref (c0 + 16), .int (nI (ia + 1)), .int (nI (ib + 1)), ev_dead] [] σ τ _
  refine Rx.go (fun _ => rfl) ?_
  refine Rx.go (fun _ => rfl) ?_
  refine Rx.callE rfl rfl rfl rfl (rx_isT X c0 _ _ hR hib) ?_
  show Rx X c0 m_Mod_same 13 [.ref (c0 + 16), .int (nI (ia + 1)), .int (nI (ib + 1)), ev_dead] [.int 1] σ τ _
  refine Rx.go (fun _ => rfl) ?_
  show Rx X c0 m_Mod_same 18 [.ref (c0 + 16), .int (nI (ia + 1)), .int (nI (ib + 1)), ev_dead] [] σ τ _
  refine Rx.go (fun _ => rfl) ?_
  refine Rx.go (fun _ => rfl) ?_
  refine Rx.go (fun _ => rfl) ?_
  refine Rx.ite (fun c1 => ?_) (fun c1 => ?_)
  · replace c1 : ¬ (nI (ia + 1)) = (nI (ib + 1)) := of_decide_eq_true c1
    show Rx X c0 m_Mod_same 25 [.ref (c0 + 16), .int (nI (ia + 1)), .int (nI (ib + 1)), ev_dead] [] σ τ _
    refine Rx.go (fun _ => rfl) ?_
    refine Rx.go (fun _ => rfl) ?_
    refine Rx.callE rfl rfl rfl rfl (rx_isNum X c0 _ _ hR hia) ?_
    show Rx X c0 m_Mod_same 30 [.ref (c0 + 16), .int (nI (ia + 1)), .int (nI (ib + 1)), ev_dead] [.int (bi (decide (knd ts ia = 3) || decide (knd ts ia = 4)))] σ τ _
    refine Rx.go (fun _ => rfl) ?_
    refine Rx.ite (fun c2 => ?_) (fun c2 => ?_)
    · replace c2 : (decide (knd ts ia = 3) || decide (knd ts ia = 4)) = false := bi_eqt c2
      show Rx X c0 m_Mod_same 56 [.ref (c0 + 16), .int (nI (ia + 1)), .int (nI (ib + 1)), ev_dead] [] σ τ _
      refine Rx.go (fun _ => rfl) ?_
      refine Rx.get rfl rfl ?_
      refine Rx.go (fun _ => rfl) ?_
      refine Rx.aldE (v := nI (knd ts ia)) 5 rfl rfl (nI_ix (N := 2002) (n := ia + 1) (by have := hR.2.1; omega) (by decide)) (rt_k hR hia) ?_
      refine Rx.go (fun _ => rfl) ?_
      refine Rx.go (fun _ => rfl) ?_
      refine Rx.ite (fun c3 => ?_) (fun c3 => ?_)
      · replace c3 : (nI (knd ts ia)) = 7 := of_decide_eq_true c3
        show Rx X c0 m_Mod_same 78 [.ref (c0 + 16), .int (nI (ia + 1)), .int (nI (ib + 1)), ev_dead] [] σ τ _
        refine Rx.go (fun _ => rfl) ?_
        refine Rx.go (fun _ => rfl) ?_
        refine Rx.go (fun _ => rfl) ?_
        show Rx X c0 m_Mod_same 84 [.ref (c0 + 16), .int (nI (ia + 1)), .int (nI (ib + 1)), .int 1] [] σ τ _
        refine Rx.go (fun _ => rfl) ?_
        refine Rx.go (fun _ => rfl) ?_
        show Rx X c0 m_Mod_same 88 [.ref (c0 + 16), .int (nI (ia + 1)), .int (nI (ib + 1)), .int 1] [] σ τ _
        refine Rx.go (fun _ => rfl) ?_
        refine Rx.get rfl rfl ?_
        refine Rx.go (fun _ => rfl) ?_
        refine Rx.aldE (v := nI (knd ts ia)) 5 rfl rfl (nI_ix (N := 2002) (n := ia + 1) (by have := hR.2.1; omega) (by decide)) (rt_k hR hia) ?_
        refine Rx.scallE rfl rfl rfl rfl (sx_Mod_isLiteral X _) ?_
        show Rx X c0 m_Mod_same 97 [.ref (c0 + 16), .int (nI (ia + 1)), .int (nI (ib + 1)), .int 1] [.int (bi (decide (2 < nI (knd ts ia))))] σ τ _
        refine Rx.go (fun _ => rfl) ?_
        refine Rx.ite (fun c4 => ?_) (fun c4 => ?_)
        · replace c4 : (decide (2 < nI (knd ts ia))) = false := bi_eqt c4
          show Rx X c0 m_Mod_same 116 [.ref (c0 + 16), .int (nI (ia + 1)), .int (nI (ib + 1)), .int 1] [] σ τ _
          refine Rx.go (fun _ => rfl) ?_
          show Rx X c0 m_Mod_same 117 [.ref (c0 + 16), .int (nI (ia + 1)), .int (nI (ib + 1)), .int 1] [.int 0] σ τ _
          exact Rx.ret rfl (ev_reti rfl) ⟨by rw [if_neg (ix_ne c1), samv, if_neg (fun z => num_f c2 z.1), if_neg (fun z => lit_f hR hia c4 z.2.1)], rfl, rfl⟩
        · replace c4 : (decide (2 < nI (knd ts ia))) = true := bi_eqf c4
          show Rx X c0 m_Mod_same 100 [.ref (c0 + 16), .int (nI (ia + 1)), .int (nI (ib + 1)), .int 1] [] σ τ _
          refine Rx.go (fun _ => rfl) ?_
          refine Rx.get rfl rfl ?_
          refine Rx.go (fun _ => rfl) ?_
          refine Rx.aldE (v := nI (knd ts ib)) 5 rfl rfl (nI_ix (N := 2002) (n := ib + 1) (by have := hR.2.1; omega) (by decide)) (rt_k hR hib) ?_
          refine Rx.scallE rfl rfl rfl rfl (sx_Mod_isLiteral X _) ?_
          show Rx X c0 m_Mod_same 109 [.ref (c0 + 16), .int (nI (ia + 1)), .int (nI (ib + 1)), .int 1] [.int (bi (decide (2 < nI (knd ts ib))))] σ τ _
          refine Rx.go (fun _ => rfl) ?_
          refine Rx.ite (fun c5 => ?_) (fun c5 => ?_)
          · replace c5 : (decide (2 < nI (knd ts ib))) = false := bi_eqt c5
            show Rx X c0 m_Mod_same 116 [.ref (c0 + 16), .int (nI (ia + 1)), .int (nI (ib + 1)), .int 1] [] σ τ _
            refine Rx.go (fun _ => rfl) ?_
            show Rx X c0 m_Mod_same 117 [.ref (c0 + 16), .int (nI (ia + 1)), .int (nI (ib + 1)), .int 1] [.int 0] σ τ _
            exact Rx.ret rfl (ev_reti rfl) ⟨by rw [if_neg (ix_ne c1), samv, if_neg (fun z => num_f c2 z.1), if_neg (fun z => lit_f hR hib c5 z.2.2)], rfl, rfl⟩
          · replace c5 : (decide (2 < nI (knd ts ib))) = true := bi_eqf c5
            show Rx X c0 m_Mod_same 112 [.ref (c0 + 16), .int (nI (ia + 1)), .int (nI (ib + 1)), .int 1] [] σ τ _
            refine Rx.go (fun _ => rfl) ?_
            refine Rx.go (fun _ => rfl) ?_
            show Rx X c0 m_Mod_same 117 [.ref (c0 + 16), .int (nI (ia + 1)), .int (nI (ib + 1)), .int 1] [.int 2] σ τ _
            exact Rx.ret rfl (ev_reti rfl) ⟨by rw [if_neg (ix_ne c1), samv, if_neg (fun z => num_f c2 z.1), if_pos ⟨Or.inl (kn_e hR hia (n := 7) rfl (by decide) c3), lit_t hR hia c4, lit_t hR hib c5⟩], rfl, rfl⟩
      · replace c3 : ¬ (nI (knd ts ia)) = 7 := of_decide_eq_false c3
        show Rx X c0 m_Mod_same 67 [.ref (c0 + 16), .int (nI (ia + 1)), .int (nI (ib + 1)), ev_dead] [] σ τ _
        refine Rx.go (fun _ => rfl) ?_
        refine Rx.get rfl rfl ?_
        refine Rx.go (fun _ => rfl) ?_
        refine Rx.aldE (v := nI (knd ts ib)) 5 rfl rfl (nI_ix (N := 2002) (n := ib + 1) (by have := hR.2.1; omega) (by decide)) (rt_k hR hib) ?_
        refine Rx.go (fun _ => rfl) ?_
        refine Rx.go (fun _ => rfl) ?_
        refine Rx.ite (fun c6 => ?_) (fun c6 => ?_)
        · replace c6 : ¬ (nI (knd ts ib)) = 7 := of_decide_eq_true c6
          show Rx X c0 m_Mod_same 82 [.ref (c0 + 16), .int (nI (ia + 1)), .int (nI (ib + 1)), ev_dead] [] σ τ _
          refine Rx.go (fun _ => rfl) ?_
          refine Rx.go (fun _ => rfl) ?_
          show Rx X c0 m_Mod_same 84 [.ref (c0 + 16), .int (nI (ia + 1)), .int (nI (ib + 1)), .int 0] [] σ τ _
          refine Rx.go (fun _ => rfl) ?_
          refine Rx.go (fun _ => rfl) ?_
          show Rx X c0 m_Mod_same 116 [.ref (c0 + 16), .int (nI (ia + 1)), .int (nI (ib + 1)), .int 0] [] σ τ _
          refine Rx.go (fun _ => rfl) ?_
          show Rx X c0 m_Mod_same 117 [.ref (c0 + 16), .int (nI (ia + 1)), .int (nI (ib + 1)), .int 0] [.int 0] σ τ _
          exact Rx.ret rfl (ev_reti rfl) ⟨by rw [if_neg (ix_ne c1), samv, if_neg (fun z => num_f c2 z.1), if_neg (fun z => z.1.elim (kn_n (n := 7) rfl c3) (kn_n (n := 7) rfl c6))], rfl, rfl⟩
        · replace c6 : (nI (knd ts ib)) = 7 := Classical.not_not.mp (of_decide_eq_false c6)
          show Rx X c0 m_Mod_same 78 [.ref (c0 + 16), .int (nI (ia + 1)), .int (nI (ib + 1)), ev_dead] [] σ τ _
          refine Rx.go (fun _ => rfl) ?_
          refine Rx.go (fun _ => rfl) ?_
          refine Rx.go (fun _ => rfl) ?_
          show Rx X c0 m_Mod_same 84 [.ref (c0 + 16), .int (nI (ia + 1)), .int (nI (ib + 1)), .int 1] [] σ τ _
          refine Rx.go (fun _ => rfl) ?_
          refine Rx.go (fun _ => rfl) ?_
          show Rx X c0 m_Mod_same 88 [.ref (c0 + 16), .int (nI (ia + 1)), .int (nI (ib + 1)), .int 1] [] σ τ _
          refine Rx.go (fun _ => rfl) ?_
          refine Rx.get rfl rfl ?_
          refine Rx.go (fun _ => rfl) ?_
          refine Rx.aldE (v := nI (knd ts ia)) 5 rfl rfl (nI_ix (N := 2002) (n := ia + 1) (by have := hR.2.1; omega) (by decide)) (rt_k hR hia) ?_
          refine Rx.scallE rfl rfl rfl rfl (sx_Mod_isLiteral X _) ?_
          show Rx X c0 m_Mod_same 97 [.ref (c0 + 16), .int (nI (ia + 1)), .int (nI (ib + 1)), .int 1] [.int (bi (decide (2 < nI (knd ts ia))))] σ τ _
          refine Rx.go (fun _ => rfl) ?_
          refine Rx.ite (fun c7 => ?_) (fun c7 => ?_)
          · replace c7 : (decide (2 < nI (knd ts ia))) = false := bi_eqt c7
            show Rx X c0 m_Mod_same 116 [.ref (c0 + 16), .int (nI (ia + 1)), .int (nI (ib + 1)), .int 1] [] σ τ _
            refine Rx.go (fun _ => rfl) ?_
            show Rx X c0 m_Mod_same 117 [.ref (c0 + 16), .int (nI (ia + 1)), .int (nI (ib + 1)), .int 1] [.int 0] σ τ _
            exact Rx.ret rfl (ev_reti rfl) ⟨by rw [if_neg (ix_ne c1), samv, if_neg (fun z => num_f c2 z.1), if_neg (fun z => lit_f hR hia c7 z.2.1)], rfl, rfl⟩
          · replace c7 : (decide (2 < nI (knd ts ia))) = true := bi_eqf c7
            show Rx X c0 m_Mod_same 100 [.ref (c0 + 16), .int (nI (ia + 1)), .int (nI (ib + 1)), .int 1] [] σ τ _
            refine Rx.go (fun _ => rfl) ?_
            refine Rx.get rfl rfl ?_
            refine Rx.go (fun _ => rfl) ?_
            refine Rx.aldE (v := nI (knd ts ib)) 5 rfl rfl (nI_ix (N := 2002) (n := ib + 1) (by have := hR.2.1; omega) (by decide)) (rt_k hR hib) ?_
            refine Rx.scallE rfl rfl rfl rfl (sx_Mod_isLiteral X _) ?_
            show Rx X c0 m_Mod_same 109 [.ref (c0 + 16), .int (nI (ia + 1)), .int (nI (ib + 1)), .int 1] [.int (bi (decide (2 < nI (knd ts ib))))] σ τ _
            refine Rx.go (fun _ => rfl) ?_
            refine Rx.ite (fun c8 => ?_) (fun c8 => ?_)
            · replace c8 : (decide (2 < nI (knd ts ib))) = false := bi_eqt c8
              show Rx X c0 m_Mod_same 116 [.ref (c0 + 16), .int (nI (ia + 1)), .int (nI (ib + 1)), .int 1] [] σ τ _
              refine Rx.go (fun _ => rfl) ?_
              show Rx X c0 m_Mod_same 117 [.ref (c0 + 16), .int (nI (ia + 1)), .int (nI (ib + 1)), .int 1] [.int 0] σ τ _
              exact Rx.ret rfl (ev_reti rfl) ⟨by rw [if_neg (ix_ne c1), samv, if_neg (fun z => num_f c2 z.1), if_neg (fun z => lit_f hR hib c8 z.2.2)], rfl, rfl⟩
            · replace c8 : (decide (2 < nI (knd ts ib))) = true := bi_eqf c8
              show Rx X c0 m_Mod_same 112 [.ref (c0 + 16), .int (nI (ia + 1)), .int (nI (ib + 1)), .int 1] [] σ τ _
              refine Rx.go (fun _ => rfl) ?_
              refine Rx.go (fun _ => rfl) ?_
              show Rx X c0 m_Mod_same 117 [.ref (c0 + 16), .int (nI (ia + 1)), .int (nI (ib + 1)), .int 1] [.int 2] σ τ _
              exact Rx.ret rfl (ev_reti rfl) ⟨by rw [if_neg (ix_ne c1), samv, if_neg (fun z => num_f c2 z.1), if_pos ⟨Or.inr (kn_e hR hib (n := 7) rfl (by decide) c6), lit_t hR hia c7, lit_t hR hib c8⟩], rfl, rfl⟩
    · replace c2 : (decide (knd ts ia = 3) || decide (knd ts ia = 4)) = true := bi_eqf c2
      show Rx X c0 m_Mod_same 33 [.ref (c0 + 16), .int (nI (ia + 1)), .int (nI (ib + 1)), ev_dead] [] σ τ _
      refine Rx.go (fun _ => rfl) ?_
      refine Rx.go (fun _ => rfl) ?_
      refine Rx.callE rfl rfl rfl rfl (rx_isNum X c0 _ _ hR hib) ?_
      show Rx X c0 m_Mod_same 38 [.ref (c0 + 16), .int (nI (ia + 1)), .int (nI (ib + 1)), ev_dead] [.int (bi (decide (knd ts ib = 3) || decide (knd ts ib = 4)))] σ τ _
      refine Rx.go (fun _ => rfl) ?_
      refine Rx.ite (fun c9 => ?_) (fun c9 => ?_)
      · replace c9 : (decide (knd ts ib = 3) || decide (knd ts ib = 4)) = false := bi_eqt c9
        show Rx X c0 m_Mod_same 56 [.ref (c0 + 16), .int (nI (ia + 1)), .int (nI (ib + 1)), ev_dead] [] σ τ _
        refine Rx.go (fun _ => rfl) ?_
        refine Rx.get rfl rfl ?_
        refine Rx.go (fun _ => rfl) ?_
        refine Rx.aldE (v := nI (knd ts ia)) 5 rfl rfl (nI_ix (N := 2002) (n := ia + 1) (by have := hR.2.1; omega) (by decide)) (rt_k hR hia) ?_
        refine Rx.go (fun _ => rfl) ?_
        refine Rx.go (fun _ => rfl) ?_
        refine Rx.ite (fun c10 => ?_) (fun c10 => ?_)
        · replace c10 : (nI (knd ts ia)) = 7 := of_decide_eq_true c10
          show Rx X c0 m_Mod_same 78 [.ref (c0 + 16), .int (nI (ia + 1)), .int (nI (ib + 1)), ev_dead] [] σ τ _
          refine Rx.go (fun _ => rfl) ?_
          refine Rx.go (fun _ => rfl) ?_
          refine Rx.go (fun _ => rfl) ?_
          show Rx X c0 m_Mod_same 84 [.ref (c0 + 16), .int (nI (ia + 1)), .int (nI (ib + 1)), .int 1] [] σ τ _
          refine Rx.go (fun _ => rfl) ?_
          refine Rx.go (fun _ => rfl) ?_
          show Rx X c0 m_Mod_same 88 [.ref (c0 + 16), .int (nI (ia + 1)), .int (nI (ib + 1)), .int 1] [] σ τ _
          refine Rx.go (fun _ => rfl) ?_
          refine Rx.get rfl rfl ?_
          refine Rx.go (fun _ => rfl) ?_
          refine Rx.aldE (v := nI (knd ts ia)) 5 rfl rfl (nI_ix (N := 2002) (n := ia + 1) (by have := hR.2.1; omega) (by decide)) (rt_k hR hia) ?_
          refine Rx.scallE rfl rfl rfl rfl (sx_Mod_isLiteral X _) ?_
          show Rx X c0 m_Mod_same 97 [.ref (c0 + 16), .int (nI (ia + 1)), .int (nI (ib + 1)), .int 1] [.int (bi (decide (2 < nI (knd ts ia))))] σ τ _
          refine Rx.go (fun _ => rfl) ?_
          refine Rx.ite (fun c11 => ?_) (fun c11 => ?_)
          · replace c11 : (decide (2 < nI (knd ts ia))) = false := bi_eqt c11
            show Rx X c0 m_Mod_same 116 [.ref (c0 + 16), .int (nI (ia + 1)), .int (nI (ib + 1)), .int 1] [] σ τ _
            refine Rx.go (fun _ => rfl) ?_
            show Rx X c0 m_Mod_same 117 [.ref (c0 + 16), .int (nI (ia + 1)), .int (nI (ib + 1)), .int 1] [.int 0] σ τ _
            exact Rx.ret rfl (ev_reti rfl) ⟨by rw [if_neg (ix_ne c1), samv, if_neg (fun z => num_f c9 z.2), if_neg (fun z => lit_f hR hia c11 z.2.1)], rfl, rfl⟩
          · replace c11 : (decide (2 < nI (knd ts ia))) = true := bi_eqf c11
            show Rx X c0 m_Mod_same 100 [.ref (c0 + 16), .int (nI (ia + 1)), .int (nI (ib + 1)), .int 1] [] σ τ _
            refine Rx.go (fun _ => rfl) ?_
            refine Rx.get rfl rfl ?_
            refine Rx.go (fun _ => rfl) ?_
            refine Rx.aldE (v := nI (knd ts ib)) 5 rfl rfl (nI_ix (N := 2002) (n := ib + 1) (by have := hR.2.1; omega) (by decide)) (rt_k hR hib) ?_
            refine Rx.scallE rfl rfl rfl rfl (sx_Mod_isLiteral X _) ?_
            show Rx X c0 m_Mod_same 109 [.ref (c0 + 16), .int (nI (ia + 1)), .int (nI (ib + 1)), .int 1] [.int (bi (decide (2 < nI (knd ts ib))))] σ τ _
            refine Rx.go (fun _ => rfl) ?_
            refine Rx.ite (fun c12 => ?_) (fun c12 => ?_)
            · replace c12 : (decide (2 < nI (knd ts ib))) = false := bi_eqt c12
              show Rx X c0 m_Mod_same 116 [.ref (c0 + 16), .int (nI (ia + 1)), .int (nI (ib + 1)), .int 1] [] σ τ _
              refine Rx.go (fun _ => rfl) ?_
              show Rx X c0 m_Mod_same 117 [.ref (c0 + 16), .int (nI (ia + 1)), .int (nI (ib + 1)), .int 1] [.int 0] σ τ _
              exact Rx.ret rfl (ev_reti rfl) ⟨by rw [if_neg (ix_ne c1), samv, if_neg (fun z => num_f c9 z.2), if_neg (fun z => lit_f hR hib c12 z.2.2)], rfl, rfl⟩
            · replace c12 : (decide (2 < nI (knd ts ib))) = true := bi_eqf c12
              show Rx X c0 m_Mod_same 112 [.ref (c0 + 16), .int (nI (ia + 1)), .int (nI (ib + 1)), .int 1] [] σ τ _
              refine Rx.go (fun _ => rfl) ?_
              refine Rx.go (fun _ => rfl) ?_
              show Rx X c0 m_Mod_same 117 [.ref (c0 + 16), .int (nI (ia + 1)), .int (nI (ib + 1)), .int 1] [.int 2] σ τ _
              exact Rx.ret rfl (ev_reti rfl) ⟨by rw [if_neg (ix_ne c1), samv, if_neg (fun z => num_f c9 z.2), if_pos ⟨Or.inl (kn_e hR hia (n := 7) rfl (by decide) c10), lit_t hR hia c11, lit_t hR hib c12⟩], rfl, rfl⟩
        · replace c10 : ¬ (nI (knd ts ia)) = 7 := of_decide_eq_false c10
          show Rx X c0 m_Mod_same 67 [.ref (c0 + 16), .int (nI (ia + 1)), .int (nI (ib + 1)), ev_dead] [] σ τ _
          refine Rx.go (fun _ => rfl) ?_
          refine Rx.get rfl rfl ?_
          refine Rx.go (fun _ => rfl) ?_
          refine Rx.aldE (v := nI (knd ts ib)) 5 rfl rfl (nI_ix (N := 2002) (n := ib + 1) (by have := hR.2.1; omega) (by decide)) (rt_k hR hib) ?_
          refine Rx.go (fun _ => rfl) ?_
          refine Rx.go (fun _ => rfl) ?_
          refine Rx.ite (fun c13 => ?_) (fun c13 => ?_)
          · replace c13 : ¬ (nI (knd ts ib)) = 7 := of_decide_eq_true c13
            show Rx X c0 m_Mod_same 82 [.ref (c0 + 16), .int (nI (ia + 1)), .int (nI (ib + 1)), ev_dead] [] σ τ _
            refine Rx.go (fun _ => rfl) ?_
            refine Rx.go (fun _ => rfl) ?_
            show Rx X c0 m_Mod_same 84 [.ref (c0 + 16), .int (nI (ia + 1)), .int (nI (ib + 1)), .int 0] [] σ τ _
            refine Rx.go (fun _ => rfl) ?_
            refine Rx.go (fun _ => rfl) ?_
            show Rx X c0 m_Mod_same 116 [.ref (c0 + 16), .int (nI (ia + 1)), .int (nI (ib + 1)), .int 0] [] σ τ _
            refine Rx.go (fun _ => rfl) ?_
            show Rx X c0 m_Mod_same 117 [.ref (c0 + 16), .int (nI (ia + 1)), .int (nI (ib + 1)), .int 0] [.int 0] σ τ _
            exact Rx.ret rfl (ev_reti rfl) ⟨by rw [if_neg (ix_ne c1), samv, if_neg (fun z => num_f c9 z.2), if_neg (fun z => z.1.elim (kn_n (n := 7) rfl c10) (kn_n (n := 7) rfl c13))], rfl, rfl⟩
          · replace c13 : (nI (knd ts ib)) = 7 := Classical.not_not.mp (of_decide_eq_false c13)
            show Rx X c0 m_Mod_same 78 [.ref (c0 + 16), .int (nI (ia + 1)), .int (nI (ib + 1)), ev_dead] [] σ τ _
            refine Rx.go (fun _ => rfl) ?_
            refine Rx.go (fun _ => rfl) ?_
            refine Rx.go (fun _ => rfl) ?_
            show Rx X c0 m_Mod_same 84 [.ref (c0 + 16), .int (nI (ia + 1)), .int (nI (ib + 1)), .int 1] [] σ τ _
            refine Rx.go (fun _ => rfl) ?_
            refine Rx.go (fun _ => rfl) ?_
            show Rx X c0 m_Mod_same 88 [.ref (c0 + 16), .int (nI (ia + 1)), .int (nI (ib + 1)), .int 1] [] σ τ _
            refine Rx.go (fun _ => rfl) ?_
            refine Rx.get rfl rfl ?_
            refine Rx.go (fun _ => rfl) ?_
            refine Rx.aldE (v := nI (knd ts ia)) 5 rfl rfl (nI_ix (N := 2002) (n := ia + 1) (by have := hR.2.1; omega) (by decide)) (rt_k hR hia) ?_
            refine Rx.scallE rfl rfl rfl rfl (sx_Mod_isLiteral X _) ?_
            show Rx X c0 m_Mod_same 97 [.ref (c0 + 16), .int (nI (ia + 1)), .int (nI (ib + 1)), .int 1] [.int (bi (decide (2 < nI (knd ts ia))))] σ τ _
            refine Rx.go (fun _ => rfl) ?_
            refine Rx.ite (fun c14 => ?_) (fun c14 => ?_)
            · replace c14 : (decide (2 < nI (knd ts ia))) = false := bi_eqt c14
              show Rx X c0 m_Mod_same 116 [.ref (c0 + 16), .int (nI (ia + 1)), .int (nI (ib + 1)), .int 1] [] σ τ _
              refine Rx.go (fun _ => rfl) ?_
              show Rx X c0 m_Mod_same 117 [.ref (c0 + 16), .int (nI (ia + 1)), .int (nI (ib + 1)), .int 1] [.int 0] σ τ _
              exact Rx.ret rfl (ev_reti rfl) ⟨by rw [if_neg (ix_ne c1), samv, if_neg (fun z => num_f c9 z.2), if_neg (fun z => lit_f hR hia c14 z.2.1)], rfl, rfl⟩
            · replace c14 : (decide (2 < nI (knd ts ia))) = true := bi_eqf c14
              show Rx X c0 m_Mod_same 100 [.ref (c0 + 16), .int (nI (ia + 1)), .int (nI (ib + 1)), .int 1] [] σ τ _
              refine Rx.go (fun _ => rfl) ?_
              refine Rx.get rfl rfl ?_
              refine Rx.go (fun _ => rfl) ?_
              refine Rx.aldE (v := nI (knd ts ib)) 5 rfl rfl (nI_ix (N := 2002) (n := ib + 1) (by have := hR.2.1; omega) (by decide)) (rt_k hR hib) ?_
              refine Rx.scallE rfl rfl rfl rfl (sx_Mod_isLiteral X _) ?_
              show Rx X c0 m_Mod_same 109 [.ref (c0 + 16), .int (nI (ia + 1)), .int (nI (ib + 1)), .int 1] [.int (bi (decide (2 < nI (knd ts ib))))] σ τ _
              refine Rx.go (fun _ => rfl) ?_
              refine Rx.ite (fun c15 => ?_) (fun c15 => ?_)
              · replace c15 : (decide (2 < nI (knd ts ib))) = false := bi_eqt c15
                show Rx X c0 m_Mod_same 116 [.ref (c0 + 16), .int (nI (ia + 1)), .int (nI (ib + 1)), .int 1] [] σ τ _
                refine Rx.go (fun _ => rfl) ?_
                show Rx X c0 m_Mod_same 117 [.ref (c0 + 16), .int (nI (ia + 1)), .int (nI (ib + 1)), .int 1] [.int 0] σ τ _
                exact Rx.ret rfl (ev_reti rfl) ⟨by rw [if_neg (ix_ne c1), samv, if_neg (fun z => num_f c9 z.2), if_neg (fun z => lit_f hR hib c15 z.2.2)], rfl, rfl⟩
              · replace c15 : (decide (2 < nI (knd ts ib))) = true := bi_eqf c15
                show Rx X c0 m_Mod_same 112 [.ref (c0 + 16), .int (nI (ia + 1)), .int (nI (ib + 1)), .int 1] [] σ τ _
                refine Rx.go (fun _ => rfl) ?_
                refine Rx.go (fun _ => rfl) ?_
                show Rx X c0 m_Mod_same 117 [.ref (c0 + 16), .int (nI (ia + 1)), .int (nI (ib + 1)), .int 1] [.int 2] σ τ _
                exact Rx.ret rfl (ev_reti rfl) ⟨by rw [if_neg (ix_ne c1), samv, if_neg (fun z => num_f c9 z.2), if_pos ⟨Or.inr (kn_e hR hib (n := 7) rfl (by decide) c13), lit_t hR hia c14, lit_t hR hib c15⟩], rfl, rfl⟩
      · replace c9 : (decide (knd ts ib = 3) || decide (knd ts ib = 4)) = true := bi_eqf c9
        show Rx X c0 m_Mod_same 41 [.ref (c0 + 16), .int (nI (ia + 1)), .int (nI (ib + 1)), ev_dead] [] σ τ _
        refine Rx.go (fun _ => rfl) ?_
        refine Rx.go (fun _ => rfl) ?_
        refine Rx.go (fun _ => rfl) ?_
        refine Rx.callE rfl rfl rfl rfl (rx_orderNumbers X c0 _ _ hR hia hib) ?_
        show Rx X c0 m_Mod_same 47 [.ref (c0 + 16), .int (nI (ia + 1)), .int (nI (ib + 1)), ev_dead] [.int (onum (bys ts ia) (bys ts ib))] σ τ _
        refine Rx.go (fun _ => rfl) ?_
        refine Rx.ite (fun c16 => ?_) (fun c16 => ?_)
        · replace c16 : ¬ (onum (bys ts ia) (bys ts ib)) = 0 := of_decide_eq_true c16
          show Rx X c0 m_Mod_same 54 [.ref (c0 + 16), .int (nI (ia + 1)), .int (nI (ib + 1)), ev_dead] [] σ τ _
          refine Rx.go (fun _ => rfl) ?_
          show Rx X c0 m_Mod_same 55 [.ref (c0 + 16), .int (nI (ia + 1)), .int (nI (ib + 1)), ev_dead] [.int 0] σ τ _
          exact Rx.ret rfl (ev_reti rfl) ⟨by rw [if_neg (ix_ne c1), samv, if_pos ⟨num_t c2, num_t c9⟩, if_neg c16], rfl, rfl⟩
        · replace c16 : (onum (bys ts ia) (bys ts ib)) = 0 := Classical.not_not.mp (of_decide_eq_false c16)
          show Rx X c0 m_Mod_same 50 [.ref (c0 + 16), .int (nI (ia + 1)), .int (nI (ib + 1)), ev_dead] [] σ τ _
          refine Rx.go (fun _ => rfl) ?_
          refine Rx.go (fun _ => rfl) ?_
          show Rx X c0 m_Mod_same 55 [.ref (c0 + 16), .int (nI (ia + 1)), .int (nI (ib + 1)), ev_dead] [.int 1] σ τ _
          exact Rx.ret rfl (ev_reti rfl) ⟨by rw [if_neg (ix_ne c1), samv, if_pos ⟨num_t c2, num_t c9⟩, if_pos c16], rfl, rfl⟩
  · replace c1 : (nI (ia + 1)) = (nI (ib + 1)) := Classical.not_not.mp (of_decide_eq_false c1)
    show Rx X c0 m_Mod_same 23 [.ref (c0 + 16), .int (nI (ia + 1)), .int (nI (ib + 1)), ev_dead] [] σ τ _
    refine Rx.go (fun _ => rfl) ?_
    show Rx X c0 m_Mod_same 24 [.ref (c0 + 16), .int (nI (ia + 1)), .int (nI (ib + 1)), ev_dead] [.int 1] σ τ _
    exact Rx.ret rfl (ev_reti rfl) ⟨by rw [if_pos (ix_eq hR hia hib c1)], rfl, rfl⟩
set_option maxRecDepth 100000 in
set_option maxHeartbeats 1000000 in
theorem rx_less (X : ev_X) (c0 : Nat) (σ : Nat → Int32) (τ : Nat → Nat → Int32) {ts : RT} (hR : rt σ τ ts) {ia ib : Nat} (hia : ia < ts.length) (hib : ib < ts.length) {Ba Bb Ta Tb : List Nat} (hA : twf ts ia Ba Ta) (hB : twf ts ib Bb Tb) : Rx X c0 m_Mod_less 0 [.ref (c0 + 16), .int (nI (ia + 1)), .int (nI (ib + 1)), ev_dead] [] σ τ (fun r σ' τ' => r = some (.int (lesv (knd ts ia) (knd ts ib) (bys ts ia) (bys ts ib) (if ia = ib then 0 else ordv (knd ts ia) (knd ts ib) (bys ts ia) (bys ts ib) Ba Bb Ta Tb))) ∧ σ' = σ ∧ τ' = τ) := by
  refine Rx.go (fun _ => rfl) ?_
  refine Rx.go (fun _ => rfl) ?_
  refine Rx.callE rfl rfl rfl rfl (rx_isT X c0 _ _ hR hia) ?_
  show Rx X c0 m_Mod_less 5 [.ref (c0 + 16), .int (nI (ia + 1)), .int (nI (ib + 1)), ev_dead] [.int 1] σ τ _
  refine Rx.go (fun _ => rfl) ?_
  show Rx X c0 m_Mod_less 8 [.ref (c0 + 16), .int (nI (ia + 1)), .int (nI (ib + 1)), ev_dead] [] σ τ _
  refine Rx.go (fun _ => rfl) ?_
  refine Rx.go (fun _ => rfl) ?_
  refine Rx.callE rfl rfl rfl rfl (rx_isT X c0 _ _ hR hib) ?_
  show Rx X c0 m_Mod_less 13 [.ref (c0 + 16), .int (nI (ia + 1)), .int (nI (ib + 1)), ev_dead] [.int 1] σ τ _
  refine Rx.go (fun _ => rfl) ?_
  show Rx X c0 m_Mod_less 18 [.ref (c0 + 16), .int (nI (ia + 1)), .int (nI (ib + 1)), ev_dead] [] σ τ _
  refine Rx.go (fun _ => rfl) ?_
  refine Rx.go (fun _ => rfl) ?_
  refine Rx.callE rfl rfl rfl rfl (rx_isNum X c0 _ _ hR hia) ?_
  show Rx X c0 m_Mod_less 23 [.ref (c0 + 16), .int (nI (ia + 1)), .int (nI (ib + 1)), ev_dead] [.int (bi (decide (knd ts ia = 3) || decide (knd ts ia = 4)))] σ τ _
  refine Rx.go (fun _ => rfl) ?_
  refine Rx.ite (fun c1 => ?_) (fun c1 => ?_)
  · replace c1 : (decide (knd ts ia = 3) || decide (knd ts ia = 4)) = false := bi_eqt c1
    show Rx X c0 m_Mod_less 34 [.ref (c0 + 16), .int (nI (ia + 1)), .int (nI (ib + 1)), ev_dead] [] σ τ _
    refine Rx.go (fun _ => rfl) ?_
    refine Rx.get rfl rfl ?_
    refine Rx.go (fun _ => rfl) ?_
    refine Rx.aldE (v := nI (knd ts ia)) 5 rfl rfl (nI_ix (N := 2002) (n := ia + 1) (by have := hR.2.1; omega) (by decide)) (rt_k hR hia) ?_
    refine Rx.go (fun _ => rfl) ?_
    refine Rx.get rfl rfl ?_
    refine Rx.go (fun _ => rfl) ?_
    refine Rx.aldE (v := nI (knd ts ib)) 5 rfl rfl (nI_ix (N := 2002) (n := ib + 1) (by have := hR.2.1; omega) (by decide)) (rt_k hR hib) ?_
    refine Rx.go (fun _ => rfl) ?_
    refine Rx.ite (fun c2 => ?_) (fun c2 => ?_)
    · replace c2 : ¬ (nI (knd ts ia)) = (nI (knd ts ib)) := of_decide_eq_true c2
      show Rx X c0 m_Mod_less 74 [.ref (c0 + 16), .int (nI (ia + 1)), .int (nI (ib + 1)), ev_dead] [] σ τ _
      refine Rx.go (fun _ => rfl) ?_
      refine Rx.go (fun _ => rfl) ?_
      show Rx X c0 m_Mod_less 76 [.ref (c0 + 16), .int (nI (ia + 1)), .int (nI (ib + 1)), .int 0] [] σ τ _
      refine Rx.go (fun _ => rfl) ?_
      refine Rx.go (fun _ => rfl) ?_
      show Rx X c0 m_Mod_less 80 [.ref (c0 + 16), .int (nI (ia + 1)), .int (nI (ib + 1)), .int 0] [] σ τ _
      refine Rx.go (fun _ => rfl) ?_
      show Rx X c0 m_Mod_less 81 [.ref (c0 + 16), .int (nI (ia + 1)), .int (nI (ib + 1)), .int 0] [.int 2] σ τ _
      exact Rx.ret rfl (ev_reti rfl) ⟨by rw [lesv, if_neg (fun z => num_f c1 z.1), if_neg (fun z => c2 (by rw [z.1]))], rfl, rfl⟩
    · replace c2 : (nI (knd ts ia)) = (nI (knd ts ib)) := Classical.not_not.mp (of_decide_eq_false c2)
      show Rx X c0 m_Mod_less 49 [.ref (c0 + 16), .int (nI (ia + 1)), .int (nI (ib + 1)), ev_dead] [] σ τ _
      refine Rx.go (fun _ => rfl) ?_
      refine Rx.get rfl rfl ?_
      refine Rx.go (fun _ => rfl) ?_
      refine Rx.aldE (v := nI (knd ts ia)) 5 rfl rfl (nI_ix (N := 2002) (n := ia + 1) (by have := hR.2.1; omega) (by decide)) (rt_k hR hia) ?_
      refine Rx.go (fun _ => rfl) ?_
      refine Rx.go (fun _ => rfl) ?_
      refine Rx.ite (fun c3 => ?_) (fun c3 => ?_)
      · replace c3 : (nI (knd ts ia)) = 5 := of_decide_eq_true c3
        show Rx X c0 m_Mod_less 70 [.ref (c0 + 16), .int (nI (ia + 1)), .int (nI (ib + 1)), ev_dead] [] σ τ _
        refine Rx.go (fun _ => rfl) ?_
        refine Rx.go (fun _ => rfl) ?_
        refine Rx.go (fun _ => rfl) ?_
        show Rx X c0 m_Mod_less 76 [.ref (c0 + 16), .int (nI (ia + 1)), .int (nI (ib + 1)), .int 1] [] σ τ _
        refine Rx.go (fun _ => rfl) ?_
        refine Rx.go (fun _ => rfl) ?_
        show Rx X c0 m_Mod_less 82 [.ref (c0 + 16), .int (nI (ia + 1)), .int (nI (ib + 1)), .int 1] [] σ τ _
        refine Rx.go (fun _ => rfl) ?_
        refine Rx.go (fun _ => rfl) ?_
        refine Rx.callE rfl rfl rfl rfl (rx_isNum X c0 _ _ hR hia) ?_
        show Rx X c0 m_Mod_less 87 [.ref (c0 + 16), .int (nI (ia + 1)), .int (nI (ib + 1)), .int 1] [.int (bi (decide (knd ts ia = 3) || decide (knd ts ia = 4)))] σ τ _
        refine Rx.go (fun _ => rfl) ?_
        refine Rx.ite (fun c4 => ?_) (fun c4 => ?_)
        · replace c4 : (decide (knd ts ia = 3) || decide (knd ts ia = 4)) = false := bi_eqt c4
          show Rx X c0 m_Mod_less 107 [.ref (c0 + 16), .int (nI (ia + 1)), .int (nI (ib + 1)), .int 1] [] σ τ _
          refine Rx.go (fun _ => rfl) ?_
          refine Rx.go (fun _ => rfl) ?_
          refine Rx.go (fun _ => rfl) ?_
          refine Rx.callE rfl rfl rfl rfl (rx_order X c0 _ _ hR hia hib hA hB) ?_
          show Rx X c0 m_Mod_less 113 [.ref (c0 + 16), .int (nI (ia + 1)), .int (nI (ib + 1)), .int 1] [.int (if ia = ib then 0 else ordv (knd ts ia) (knd ts ib) (bys ts ia) (bys ts ib) Ba Bb Ta Tb)] σ τ _
          refine Rx.go (fun _ => rfl) ?_
          refine Rx.ite (fun c5 => ?_) (fun c5 => ?_)
          · replace c5 : 0 ≤ (if ia = ib then 0 else ordv (knd ts ia) (knd ts ib) (bys ts ia) (bys ts ib) Ba Bb Ta Tb) := of_decide_eq_true c5
            show Rx X c0 m_Mod_less 120 [.ref (c0 + 16), .int (nI (ia + 1)), .int (nI (ib + 1)), .int 1] [] σ τ _
            refine Rx.go (fun _ => rfl) ?_
            show Rx X c0 m_Mod_less 121 [.ref (c0 + 16), .int (nI (ia + 1)), .int (nI (ib + 1)), .int 1] [.int 0] σ τ _
            exact Rx.ret rfl (ev_reti rfl) ⟨by rw [lesv, if_neg (fun z => num_f c1 z.1), if_pos ⟨kk_e hR hia hib c2, Or.inl (kn_e hR hia (n := 5) rfl (by decide) c3)⟩, if_pos c5], rfl, rfl⟩
          · replace c5 : ¬ 0 ≤ (if ia = ib then 0 else ordv (knd ts ia) (knd ts ib) (bys ts ia) (bys ts ib) Ba Bb Ta Tb) := of_decide_eq_false c5
            show Rx X c0 m_Mod_less 116 [.ref (c0 + 16), .int (nI (ia + 1)), .int (nI (ib + 1)), .int 1] [] σ τ _
            refine Rx.go (fun _ => rfl) ?_
            refine Rx.go (fun _ => rfl) ?_
            show Rx X c0 m_Mod_less 121 [.ref (c0 + 16), .int (nI (ia + 1)), .int (nI (ib + 1)), .int 1] [.int 1] σ τ _
            exact Rx.ret rfl (ev_reti rfl) ⟨by rw [lesv, if_neg (fun z => num_f c1 z.1), if_pos ⟨kk_e hR hia hib c2, Or.inl (kn_e hR hia (n := 5) rfl (by decide) c3)⟩, if_neg c5], rfl, rfl⟩
        · replace c4 : (decide (knd ts ia = 3) || decide (knd ts ia = 4)) = true := bi_eqf c4
          exact Bool.noConfusion (c1.symm.trans c4)
      · replace c3 : ¬ (nI (knd ts ia)) = 5 := of_decide_eq_false c3
        show Rx X c0 m_Mod_less 59 [.ref (c0 + 16), .int (nI (ia + 1)), .int (nI (ib + 1)), ev_dead] [] σ τ _
        refine Rx.go (fun _ => rfl) ?_
        refine Rx.get rfl rfl ?_
        refine Rx.go (fun _ => rfl) ?_
        refine Rx.aldE (v := nI (knd ts ia)) 5 rfl rfl (nI_ix (N := 2002) (n := ia + 1) (by have := hR.2.1; omega) (by decide)) (rt_k hR hia) ?_
        refine Rx.go (fun _ => rfl) ?_
        refine Rx.go (fun _ => rfl) ?_
        refine Rx.ite (fun c6 => ?_) (fun c6 => ?_)
        · replace c6 : ¬ (nI (knd ts ia)) = 8 := of_decide_eq_true c6
          show Rx X c0 m_Mod_less 74 [.ref (c0 + 16), .int (nI (ia + 1)), .int (nI (ib + 1)), ev_dead] [] σ τ _
          refine Rx.go (fun _ => rfl) ?_
          refine Rx.go (fun _ => rfl) ?_
          show Rx X c0 m_Mod_less 76 [.ref (c0 + 16), .int (nI (ia + 1)), .int (nI (ib + 1)), .int 0] [] σ τ _
          refine Rx.go (fun _ => rfl) ?_
          refine Rx.go (fun _ => rfl) ?_
          show Rx X c0 m_Mod_less 80 [.ref (c0 + 16), .int (nI (ia + 1)), .int (nI (ib + 1)), .int 0] [] σ τ _
          refine Rx.go (fun _ => rfl) ?_
          show Rx X c0 m_Mod_less 81 [.ref (c0 + 16), .int (nI (ia + 1)), .int (nI (ib + 1)), .int 0] [.int 2] σ τ _
          exact Rx.ret rfl (ev_reti rfl) ⟨by rw [lesv, if_neg (fun z => num_f c1 z.1), if_neg (fun z => z.2.elim (kn_n (n := 5) rfl c3) (kn_n (n := 8) rfl c6))], rfl, rfl⟩
        · replace c6 : (nI (knd ts ia)) = 8 := Classical.not_not.mp (of_decide_eq_false c6)
          show Rx X c0 m_Mod_less 70 [.ref (c0 + 16), .int (nI (ia + 1)), .int (nI (ib + 1)), ev_dead] [] σ τ _
          refine Rx.go (fun _ => rfl) ?_
          refine Rx.go (fun _ => rfl) ?_
          refine Rx.go (fun _ => rfl) ?_
          show Rx X c0 m_Mod_less 76 [.ref (c0 + 16), .int (nI (ia + 1)), .int (nI (ib + 1)), .int 1] [] σ τ _
          refine Rx.go (fun _ => rfl) ?_
          refine Rx.go (fun _ => rfl) ?_
          show Rx X c0 m_Mod_less 82 [.ref (c0 + 16), .int (nI (ia + 1)), .int (nI (ib + 1)), .int 1] [] σ τ _
          refine Rx.go (fun _ => rfl) ?_
          refine Rx.go (fun _ => rfl) ?_
          refine Rx.callE rfl rfl rfl rfl (rx_isNum X c0 _ _ hR hia) ?_
          show Rx X c0 m_Mod_less 87 [.ref (c0 + 16), .int (nI (ia + 1)), .int (nI (ib + 1)), .int 1] [.int (bi (decide (knd ts ia = 3) || decide (knd ts ia = 4)))] σ τ _
          refine Rx.go (fun _ => rfl) ?_
          refine Rx.ite (fun c7 => ?_) (fun c7 => ?_)
          · replace c7 : (decide (knd ts ia = 3) || decide (knd ts ia = 4)) = false := bi_eqt c7
            show Rx X c0 m_Mod_less 107 [.ref (c0 + 16), .int (nI (ia + 1)), .int (nI (ib + 1)), .int 1] [] σ τ _
            refine Rx.go (fun _ => rfl) ?_
            refine Rx.go (fun _ => rfl) ?_
            refine Rx.go (fun _ => rfl) ?_
            refine Rx.callE rfl rfl rfl rfl (rx_order X c0 _ _ hR hia hib hA hB) ?_
            show Rx X c0 m_Mod_less 113 [.ref (c0 + 16), .int (nI (ia + 1)), .int (nI (ib + 1)), .int 1] [.int (if ia = ib then 0 else ordv (knd ts ia) (knd ts ib) (bys ts ia) (bys ts ib) Ba Bb Ta Tb)] σ τ _
            refine Rx.go (fun _ => rfl) ?_
            refine Rx.ite (fun c8 => ?_) (fun c8 => ?_)
            · replace c8 : 0 ≤ (if ia = ib then 0 else ordv (knd ts ia) (knd ts ib) (bys ts ia) (bys ts ib) Ba Bb Ta Tb) := of_decide_eq_true c8
              show Rx X c0 m_Mod_less 120 [.ref (c0 + 16), .int (nI (ia + 1)), .int (nI (ib + 1)), .int 1] [] σ τ _
              refine Rx.go (fun _ => rfl) ?_
              show Rx X c0 m_Mod_less 121 [.ref (c0 + 16), .int (nI (ia + 1)), .int (nI (ib + 1)), .int 1] [.int 0] σ τ _
              exact Rx.ret rfl (ev_reti rfl) ⟨by rw [lesv, if_neg (fun z => num_f c1 z.1), if_pos ⟨kk_e hR hia hib c2, Or.inr (kn_e hR hia (n := 8) rfl (by decide) c6)⟩, if_pos c8], rfl, rfl⟩
            · replace c8 : ¬ 0 ≤ (if ia = ib then 0 else ordv (knd ts ia) (knd ts ib) (bys ts ia) (bys ts ib) Ba Bb Ta Tb) := of_decide_eq_false c8
              show Rx X c0 m_Mod_less 116 [.ref (c0 + 16), .int (nI (ia + 1)), .int (nI (ib + 1)), .int 1] [] σ τ _
              refine Rx.go (fun _ => rfl) ?_
              refine Rx.go (fun _ => rfl) ?_
              show Rx X c0 m_Mod_less 121 [.ref (c0 + 16), .int (nI (ia + 1)), .int (nI (ib + 1)), .int 1] [.int 1] σ τ _
              exact Rx.ret rfl (ev_reti rfl) ⟨by rw [lesv, if_neg (fun z => num_f c1 z.1), if_pos ⟨kk_e hR hia hib c2, Or.inr (kn_e hR hia (n := 8) rfl (by decide) c6)⟩, if_neg c8], rfl, rfl⟩
          · replace c7 : (decide (knd ts ia = 3) || decide (knd ts ia = 4)) = true := bi_eqf c7
            exact Bool.noConfusion (c1.symm.trans c7)
  · replace c1 : (decide (knd ts ia = 3) || decide (knd ts ia = 4)) = true := bi_eqf c1
    show Rx X c0 m_Mod_less 26 [.ref (c0 + 16), .int (nI (ia + 1)), .int (nI (ib + 1)), ev_dead] [] σ τ _
    refine Rx.go (fun _ => rfl) ?_
    refine Rx.go (fun _ => rfl) ?_
    refine Rx.callE rfl rfl rfl rfl (rx_isNum X c0 _ _ hR hib) ?_
    show Rx X c0 m_Mod_less 31 [.ref (c0 + 16), .int (nI (ia + 1)), .int (nI (ib + 1)), ev_dead] [.int (bi (decide (knd ts ib = 3) || decide (knd ts ib = 4)))] σ τ _
    refine Rx.go (fun _ => rfl) ?_
    refine Rx.ite (fun c9 => ?_) (fun c9 => ?_)
    · replace c9 : (decide (knd ts ib = 3) || decide (knd ts ib = 4)) = true := bi_net c9
      show Rx X c0 m_Mod_less 70 [.ref (c0 + 16), .int (nI (ia + 1)), .int (nI (ib + 1)), ev_dead] [] σ τ _
      refine Rx.go (fun _ => rfl) ?_
      refine Rx.go (fun _ => rfl) ?_
      refine Rx.go (fun _ => rfl) ?_
      show Rx X c0 m_Mod_less 76 [.ref (c0 + 16), .int (nI (ia + 1)), .int (nI (ib + 1)), .int 1] [] σ τ _
      refine Rx.go (fun _ => rfl) ?_
      refine Rx.go (fun _ => rfl) ?_
      show Rx X c0 m_Mod_less 82 [.ref (c0 + 16), .int (nI (ia + 1)), .int (nI (ib + 1)), .int 1] [] σ τ _
      refine Rx.go (fun _ => rfl) ?_
      refine Rx.go (fun _ => rfl) ?_
      refine Rx.callE rfl rfl rfl rfl (rx_isNum X c0 _ _ hR hia) ?_
      show Rx X c0 m_Mod_less 87 [.ref (c0 + 16), .int (nI (ia + 1)), .int (nI (ib + 1)), .int 1] [.int (bi (decide (knd ts ia = 3) || decide (knd ts ia = 4)))] σ τ _
      refine Rx.go (fun _ => rfl) ?_
      refine Rx.ite (fun c10 => ?_) (fun c10 => ?_)
      · replace c10 : (decide (knd ts ia = 3) || decide (knd ts ia = 4)) = false := bi_eqt c10
        exact Bool.noConfusion (c1.symm.trans c10)
      · replace c10 : (decide (knd ts ia = 3) || decide (knd ts ia = 4)) = true := bi_eqf c10
        show Rx X c0 m_Mod_less 90 [.ref (c0 + 16), .int (nI (ia + 1)), .int (nI (ib + 1)), .int 1] [] σ τ _
        refine Rx.go (fun _ => rfl) ?_
        refine Rx.go (fun _ => rfl) ?_
        refine Rx.go (fun _ => rfl) ?_
        refine Rx.callE rfl rfl rfl rfl (rx_orderNumbers X c0 _ _ hR hia hib) ?_
        show Rx X c0 m_Mod_less 96 [.ref (c0 + 16), .int (nI (ia + 1)), .int (nI (ib + 1)), .int 1] [.int (onum (bys ts ia) (bys ts ib))] σ τ _
        refine Rx.go (fun _ => rfl) ?_
        refine Rx.ite (fun c11 => ?_) (fun c11 => ?_)
        · replace c11 : 0 ≤ (onum (bys ts ia) (bys ts ib)) := of_decide_eq_true c11
          show Rx X c0 m_Mod_less 103 [.ref (c0 + 16), .int (nI (ia + 1)), .int (nI (ib + 1)), .int 1] [] σ τ _
          refine Rx.go (fun _ => rfl) ?_
          refine Rx.go (fun _ => rfl) ?_
          show Rx X c0 m_Mod_less 121 [.ref (c0 + 16), .int (nI (ia + 1)), .int (nI (ib + 1)), .int 1] [.int 0] σ τ _
          exact Rx.ret rfl (ev_reti rfl) ⟨by rw [lesv, if_pos ⟨num_t c1, num_t c9⟩, if_pos c11], rfl, rfl⟩
        · replace c11 : ¬ 0 ≤ (onum (bys ts ia) (bys ts ib)) := of_decide_eq_false c11
          show Rx X c0 m_Mod_less 99 [.ref (c0 + 16), .int (nI (ia + 1)), .int (nI (ib + 1)), .int 1] [] σ τ _
          refine Rx.go (fun _ => rfl) ?_
          refine Rx.go (fun _ => rfl) ?_
          show Rx X c0 m_Mod_less 121 [.ref (c0 + 16), .int (nI (ia + 1)), .int (nI (ib + 1)), .int 1] [.int 1] σ τ _
          exact Rx.ret rfl (ev_reti rfl) ⟨by rw [lesv, if_pos ⟨num_t c1, num_t c9⟩, if_neg c11], rfl, rfl⟩
    · replace c9 : (decide (knd ts ib = 3) || decide (knd ts ib = 4)) = false := bi_nef c9
      show Rx X c0 m_Mod_less 34 [.ref (c0 + 16), .int (nI (ia + 1)), .int (nI (ib + 1)), ev_dead] [] σ τ _
      refine Rx.go (fun _ => rfl) ?_
      refine Rx.get rfl rfl ?_
      refine Rx.go (fun _ => rfl) ?_
      refine Rx.aldE (v := nI (knd ts ia)) 5 rfl rfl (nI_ix (N := 2002) (n := ia + 1) (by have := hR.2.1; omega) (by decide)) (rt_k hR hia) ?_
      refine Rx.go (fun _ => rfl) ?_
      refine Rx.get rfl rfl ?_
      refine Rx.go (fun _ => rfl) ?_
      refine Rx.aldE (v := nI (knd ts ib)) 5 rfl rfl (nI_ix (N := 2002) (n := ib + 1) (by have := hR.2.1; omega) (by decide)) (rt_k hR hib) ?_
      refine Rx.go (fun _ => rfl) ?_
      refine Rx.ite (fun c12 => ?_) (fun c12 => ?_)
      · replace c12 : ¬ (nI (knd ts ia)) = (nI (knd ts ib)) := of_decide_eq_true c12
        show Rx X c0 m_Mod_less 74 [.ref (c0 + 16), .int (nI (ia + 1)), .int (nI (ib + 1)), ev_dead] [] σ τ _
        refine Rx.go (fun _ => rfl) ?_
        refine Rx.go (fun _ => rfl) ?_
        show Rx X c0 m_Mod_less 76 [.ref (c0 + 16), .int (nI (ia + 1)), .int (nI (ib + 1)), .int 0] [] σ τ _
        refine Rx.go (fun _ => rfl) ?_
        refine Rx.go (fun _ => rfl) ?_
        show Rx X c0 m_Mod_less 80 [.ref (c0 + 16), .int (nI (ia + 1)), .int (nI (ib + 1)), .int 0] [] σ τ _
        refine Rx.go (fun _ => rfl) ?_
        show Rx X c0 m_Mod_less 81 [.ref (c0 + 16), .int (nI (ia + 1)), .int (nI (ib + 1)), .int 0] [.int 2] σ τ _
        exact Rx.ret rfl (ev_reti rfl) ⟨by rw [lesv, if_neg (fun z => num_f c9 z.2), if_neg (fun z => c12 (by rw [z.1]))], rfl, rfl⟩
      · replace c12 : (nI (knd ts ia)) = (nI (knd ts ib)) := Classical.not_not.mp (of_decide_eq_false c12)
        show Rx X c0 m_Mod_less 49 [.ref (c0 + 16), .int (nI (ia + 1)), .int (nI (ib + 1)), ev_dead] [] σ τ _
        refine Rx.go (fun _ => rfl) ?_
        refine Rx.get rfl rfl ?_
        refine Rx.go (fun _ => rfl) ?_
        refine Rx.aldE (v := nI (knd ts ia)) 5 rfl rfl (nI_ix (N := 2002) (n := ia + 1) (by have := hR.2.1; omega) (by decide)) (rt_k hR hia) ?_
        refine Rx.go (fun _ => rfl) ?_
        refine Rx.go (fun _ => rfl) ?_
        refine Rx.ite (fun c13 => ?_) (fun c13 => ?_)
        · replace c13 : (nI (knd ts ia)) = 5 := of_decide_eq_true c13
          show Rx X c0 m_Mod_less 70 [.ref (c0 + 16), .int (nI (ia + 1)), .int (nI (ib + 1)), ev_dead] [] σ τ _
          refine Rx.go (fun _ => rfl) ?_
          refine Rx.go (fun _ => rfl) ?_
          refine Rx.go (fun _ => rfl) ?_
          show Rx X c0 m_Mod_less 76 [.ref (c0 + 16), .int (nI (ia + 1)), .int (nI (ib + 1)), .int 1] [] σ τ _
          refine Rx.go (fun _ => rfl) ?_
          refine Rx.go (fun _ => rfl) ?_
          show Rx X c0 m_Mod_less 82 [.ref (c0 + 16), .int (nI (ia + 1)), .int (nI (ib + 1)), .int 1] [] σ τ _
          refine Rx.go (fun _ => rfl) ?_
          refine Rx.go (fun _ => rfl) ?_
          refine Rx.callE rfl rfl rfl rfl (rx_isNum X c0 _ _ hR hia) ?_
          show Rx X c0 m_Mod_less 87 [.ref (c0 + 16), .int (nI (ia + 1)), .int (nI (ib + 1)), .int 1] [.int (bi (decide (knd ts ia = 3) || decide (knd ts ia = 4)))] σ τ _
          refine Rx.go (fun _ => rfl) ?_
          refine Rx.ite (fun c14 => ?_) (fun c14 => ?_)
          · replace c14 : (decide (knd ts ia = 3) || decide (knd ts ia = 4)) = false := bi_eqt c14
            exact Bool.noConfusion (c1.symm.trans c14)
          · replace c14 : (decide (knd ts ia = 3) || decide (knd ts ia = 4)) = true := bi_eqf c14
            show Rx X c0 m_Mod_less 90 [.ref (c0 + 16), .int (nI (ia + 1)), .int (nI (ib + 1)), .int 1] [] σ τ _
            refine Rx.go (fun _ => rfl) ?_
            refine Rx.go (fun _ => rfl) ?_
            refine Rx.go (fun _ => rfl) ?_
            refine Rx.callE rfl rfl rfl rfl (rx_orderNumbers X c0 _ _ hR hia hib) ?_
            show Rx X c0 m_Mod_less 96 [.ref (c0 + 16), .int (nI (ia + 1)), .int (nI (ib + 1)), .int 1] [.int (onum (bys ts ia) (bys ts ib))] σ τ _
            refine Rx.go (fun _ => rfl) ?_
            refine Rx.ite (fun c15 => ?_) (fun c15 => ?_)
            · replace c15 : 0 ≤ (onum (bys ts ia) (bys ts ib)) := of_decide_eq_true c15
              show Rx X c0 m_Mod_less 103 [.ref (c0 + 16), .int (nI (ia + 1)), .int (nI (ib + 1)), .int 1] [] σ τ _
              refine Rx.go (fun _ => rfl) ?_
              refine Rx.go (fun _ => rfl) ?_
              show Rx X c0 m_Mod_less 121 [.ref (c0 + 16), .int (nI (ia + 1)), .int (nI (ib + 1)), .int 1] [.int 0] σ τ _
              exact absurd (num_t c14) (by have z1 := kn_e hR hia (n := 5) rfl (by decide) c13; have z2 := kk_e hR hia hib c12; omega)
            · replace c15 : ¬ 0 ≤ (onum (bys ts ia) (bys ts ib)) := of_decide_eq_false c15
              show Rx X c0 m_Mod_less 99 [.ref (c0 + 16), .int (nI (ia + 1)), .int (nI (ib + 1)), .int 1] [] σ τ _
              refine Rx.go (fun _ => rfl) ?_
              refine Rx.go (fun _ => rfl) ?_
              show Rx X c0 m_Mod_less 121 [.ref (c0 + 16), .int (nI (ia + 1)), .int (nI (ib + 1)), .int 1] [.int 1] σ τ _
              exact absurd (num_t c14) (by have z1 := kn_e hR hia (n := 5) rfl (by decide) c13; have z2 := kk_e hR hia hib c12; omega)
        · replace c13 : ¬ (nI (knd ts ia)) = 5 := of_decide_eq_false c13
          show Rx X c0 m_Mod_less 59 [.ref (c0 + 16), .int (nI (ia + 1)), .int (nI (ib + 1)), ev_dead] [] σ τ _
          refine Rx.go (fun _ => rfl) ?_
          refine Rx.get rfl rfl ?_
          refine Rx.go (fun _ => rfl) ?_
          refine Rx.aldE (v := nI (knd ts ia)) 5 rfl rfl (nI_ix (N := 2002) (n := ia + 1) (by have := hR.2.1; omega) (by decide)) (rt_k hR hia) ?_
          refine Rx.go (fun _ => rfl) ?_
          refine Rx.go (fun _ => rfl) ?_
          refine Rx.ite (fun c16 => ?_) (fun c16 => ?_)
          · replace c16 : ¬ (nI (knd ts ia)) = 8 := of_decide_eq_true c16
            show Rx X c0 m_Mod_less 74 [.ref (c0 + 16), .int (nI (ia + 1)), .int (nI (ib + 1)), ev_dead] [] σ τ _
            refine Rx.go (fun _ => rfl) ?_
            refine Rx.go (fun _ => rfl) ?_
            show Rx X c0 m_Mod_less 76 [.ref (c0 + 16), .int (nI (ia + 1)), .int (nI (ib + 1)), .int 0] [] σ τ _
            refine Rx.go (fun _ => rfl) ?_
            refine Rx.go (fun _ => rfl) ?_
            show Rx X c0 m_Mod_less 80 [.ref (c0 + 16), .int (nI (ia + 1)), .int (nI (ib + 1)), .int 0] [] σ τ _
            refine Rx.go (fun _ => rfl) ?_
            show Rx X c0 m_Mod_less 81 [.ref (c0 + 16), .int (nI (ia + 1)), .int (nI (ib + 1)), .int 0] [.int 2] σ τ _
            exact Rx.ret rfl (ev_reti rfl) ⟨by rw [lesv, if_neg (fun z => num_f c9 z.2), if_neg (fun z => z.2.elim (kn_n (n := 5) rfl c13) (kn_n (n := 8) rfl c16))], rfl, rfl⟩
          · replace c16 : (nI (knd ts ia)) = 8 := Classical.not_not.mp (of_decide_eq_false c16)
            show Rx X c0 m_Mod_less 70 [.ref (c0 + 16), .int (nI (ia + 1)), .int (nI (ib + 1)), ev_dead] [] σ τ _
            refine Rx.go (fun _ => rfl) ?_
            refine Rx.go (fun _ => rfl) ?_
            refine Rx.go (fun _ => rfl) ?_
            show Rx X c0 m_Mod_less 76 [.ref (c0 + 16), .int (nI (ia + 1)), .int (nI (ib + 1)), .int 1] [] σ τ _
            refine Rx.go (fun _ => rfl) ?_
            refine Rx.go (fun _ => rfl) ?_
            show Rx X c0 m_Mod_less 82 [.ref (c0 + 16), .int (nI (ia + 1)), .int (nI (ib + 1)), .int 1] [] σ τ _
            refine Rx.go (fun _ => rfl) ?_
            refine Rx.go (fun _ => rfl) ?_
            refine Rx.callE rfl rfl rfl rfl (rx_isNum X c0 _ _ hR hia) ?_
            show Rx X c0 m_Mod_less 87 [.ref (c0 + 16), .int (nI (ia + 1)), .int (nI (ib + 1)), .int 1] [.int (bi (decide (knd ts ia = 3) || decide (knd ts ia = 4)))] σ τ _
            refine Rx.go (fun _ => rfl) ?_
            refine Rx.ite (fun c17 => ?_) (fun c17 => ?_)
            · replace c17 : (decide (knd ts ia = 3) || decide (knd ts ia = 4)) = false := bi_eqt c17
              exact Bool.noConfusion (c1.symm.trans c17)
            · replace c17 : (decide (knd ts ia = 3) || decide (knd ts ia = 4)) = true := bi_eqf c17
              show Rx X c0 m_Mod_less 90 [.ref (c0 + 16), .int (nI (ia + 1)), .int (nI (ib + 1)), .int 1] [] σ τ _
              refine Rx.go (fun _ => rfl) ?_
              refine Rx.go (fun _ => rfl) ?_
              refine Rx.go (fun _ => rfl) ?_
              refine Rx.callE rfl rfl rfl rfl (rx_orderNumbers X c0 _ _ hR hia hib) ?_
              show Rx X c0 m_Mod_less 96 [.ref (c0 + 16), .int (nI (ia + 1)), .int (nI (ib + 1)), .int 1] [.int (onum (bys ts ia) (bys ts ib))] σ τ _
              refine Rx.go (fun _ => rfl) ?_
              refine Rx.ite (fun c18 => ?_) (fun c18 => ?_)
              · replace c18 : 0 ≤ (onum (bys ts ia) (bys ts ib)) := of_decide_eq_true c18
                show Rx X c0 m_Mod_less 103 [.ref (c0 + 16), .int (nI (ia + 1)), .int (nI (ib + 1)), .int 1] [] σ τ _
                refine Rx.go (fun _ => rfl) ?_
                refine Rx.go (fun _ => rfl) ?_
                show Rx X c0 m_Mod_less 121 [.ref (c0 + 16), .int (nI (ia + 1)), .int (nI (ib + 1)), .int 1] [.int 0] σ τ _
                exact absurd (num_t c17) (by have z1 := kn_e hR hia (n := 8) rfl (by decide) c16; have z2 := kk_e hR hia hib c12; omega)
              · replace c18 : ¬ 0 ≤ (onum (bys ts ia) (bys ts ib)) := of_decide_eq_false c18
                show Rx X c0 m_Mod_less 99 [.ref (c0 + 16), .int (nI (ia + 1)), .int (nI (ib + 1)), .int 1] [] σ τ _
                refine Rx.go (fun _ => rfl) ?_
                refine Rx.go (fun _ => rfl) ?_
                show Rx X c0 m_Mod_less 121 [.ref (c0 + 16), .int (nI (ia + 1)), .int (nI (ib + 1)), .int 1] [.int 1] σ τ _
                exact absurd (num_t c17) (by have z1 := kn_e hR hia (n := 8) rfl (by decide) c16; have z2 := kk_e hR hia hib c12; omega)
set_option maxRecDepth 100000 in
set_option maxHeartbeats 1000000 in
theorem rx_order_noa (X : ev_X) (c0 : Nat) (σ : Nat → Int32) (τ : Nat → Nat → Int32) (t1 t2 : Int32) (hb : noT σ t1) : Rx X c0 m_Mod_order 0 [.ref (c0 + 16), .int t1, .int t2, ev_dead, ev_dead] [] σ τ (fun r σ' τ' => r = some (.int 2) ∧ σ' = σ ∧ τ' = τ) := by
  refine Rx.go (fun _ => rfl) ?_
  refine Rx.go (fun _ => rfl) ?_
  refine Rx.callE rfl rfl rfl rfl (rx_noT X c0 _ _ _ hb) ?_
  show Rx X c0 m_Mod_order 5 [.ref (c0 + 16), .int t1, .int t2, ev_dead, ev_dead] [.int 0] σ τ _
  refine Rx.go (fun _ => rfl) ?_
  show Rx X c0 m_Mod_order 16 [.ref (c0 + 16), .int t1, .int t2, ev_dead, ev_dead] [] σ τ _
  refine Rx.go (fun _ => rfl) ?_
  show Rx X c0 m_Mod_order 17 [.ref (c0 + 16), .int t1, .int t2, ev_dead, ev_dead] [.int 2] σ τ _
  exact Rx.ret rfl (ev_reti rfl) ⟨rfl, rfl, rfl⟩
set_option maxRecDepth 100000 in
set_option maxHeartbeats 1000000 in
theorem rx_order_nob (X : ev_X) (c0 : Nat) (σ : Nat → Int32) (τ : Nat → Nat → Int32) {ts : RT} (hR : rt σ τ ts) {i : Nat} (hi : i < ts.length) (t2 : Int32) (hb : noT σ t2) : Rx X c0 m_Mod_order 0 [.ref (c0 + 16), .int (nI (i + 1)), .int t2, ev_dead, ev_dead] [] σ τ (fun r σ' τ' => r = some (.int 2) ∧ σ' = σ ∧ τ' = τ) := by
  refine Rx.go (fun _ => rfl) ?_
  refine Rx.go (fun _ => rfl) ?_
  refine Rx.callE rfl rfl rfl rfl (rx_isT X c0 _ _ hR hi) ?_
  show Rx X c0 m_Mod_order 5 [.ref (c0 + 16), .int (nI (i + 1)), .int t2, ev_dead, ev_dead] [.int 1] σ τ _
  refine Rx.go (fun _ => rfl) ?_
  show Rx X c0 m_Mod_order 8 [.ref (c0 + 16), .int (nI (i + 1)), .int t2, ev_dead, ev_dead] [] σ τ _
  refine Rx.go (fun _ => rfl) ?_
  refine Rx.go (fun _ => rfl) ?_
  refine Rx.callE rfl rfl rfl rfl (rx_noT X c0 _ _ _ hb) ?_
  show Rx X c0 m_Mod_order 13 [.ref (c0 + 16), .int (nI (i + 1)), .int t2, ev_dead, ev_dead] [.int 0] σ τ _
  refine Rx.go (fun _ => rfl) ?_
  show Rx X c0 m_Mod_order 16 [.ref (c0 + 16), .int (nI (i + 1)), .int t2, ev_dead, ev_dead] [] σ τ _
  refine Rx.go (fun _ => rfl) ?_
  show Rx X c0 m_Mod_order 17 [.ref (c0 + 16), .int (nI (i + 1)), .int t2, ev_dead, ev_dead] [.int 2] σ τ _
  exact Rx.ret rfl (ev_reti rfl) ⟨rfl, rfl, rfl⟩
set_option maxRecDepth 100000 in
set_option maxHeartbeats 1000000 in
theorem rx_same_noa (X : ev_X) (c0 : Nat) (σ : Nat → Int32) (τ : Nat → Nat → Int32) (t1 t2 : Int32) (hb : noT σ t1) : Rx X c0 m_Mod_same 0 [.ref (c0 + 16), .int t1, .int t2, ev_dead] [] σ τ (fun r σ' τ' => r = some (.int 2) ∧ σ' = σ ∧ τ' = τ) := by
  refine Rx.go (fun _ => rfl) ?_
  refine Rx.go (fun _ => rfl) ?_
  refine Rx.callE rfl rfl rfl rfl (rx_noT X c0 _ _ _ hb) ?_
  show Rx X c0 m_Mod_same 5 [.ref (c0 + 16), .int t1, .int t2, ev_dead] [.int 0] σ τ _
  refine Rx.go (fun _ => rfl) ?_
  show Rx X c0 m_Mod_same 16 [.ref (c0 + 16), .int t1, .int t2, ev_dead] [] σ τ _
  refine Rx.go (fun _ => rfl) ?_
  show Rx X c0 m_Mod_same 17 [.ref (c0 + 16), .int t1, .int t2, ev_dead] [.int 2] σ τ _
  exact Rx.ret rfl (ev_reti rfl) ⟨rfl, rfl, rfl⟩
set_option maxRecDepth 100000 in
set_option maxHeartbeats 1000000 in
theorem rx_same_nob (X : ev_X) (c0 : Nat) (σ : Nat → Int32) (τ : Nat → Nat → Int32) {ts : RT} (hR : rt σ τ ts) {i : Nat} (hi : i < ts.length) (t2 : Int32) (hb : noT σ t2) : Rx X c0 m_Mod_same 0 [.ref (c0 + 16), .int (nI (i + 1)), .int t2, ev_dead] [] σ τ (fun r σ' τ' => r = some (.int 2) ∧ σ' = σ ∧ τ' = τ) := by
  refine Rx.go (fun _ => rfl) ?_
  refine Rx.go (fun _ => rfl) ?_
  refine Rx.callE rfl rfl rfl rfl (rx_isT X c0 _ _ hR hi) ?_
  show Rx X c0 m_Mod_same 5 [.ref (c0 + 16), .int (nI (i + 1)), .int t2, ev_dead] [.int 1] σ τ _
  refine Rx.go (fun _ => rfl) ?_
  show Rx X c0 m_Mod_same 8 [.ref (c0 + 16), .int (nI (i + 1)), .int t2, ev_dead] [] σ τ _
  refine Rx.go (fun _ => rfl) ?_
  refine Rx.go (fun _ => rfl) ?_
  refine Rx.callE rfl rfl rfl rfl (rx_noT X c0 _ _ _ hb) ?_
  show Rx X c0 m_Mod_same 13 [.ref (c0 + 16), .int (nI (i + 1)), .int t2, ev_dead] [.int 0] σ τ _
  refine Rx.go (fun _ => rfl) ?_
  show Rx X c0 m_Mod_same 16 [.ref (c0 + 16), .int (nI (i + 1)), .int t2, ev_dead] [] σ τ _
  refine Rx.go (fun _ => rfl) ?_
  show Rx X c0 m_Mod_same 17 [.ref (c0 + 16), .int (nI (i + 1)), .int t2, ev_dead] [.int 2] σ τ _
  exact Rx.ret rfl (ev_reti rfl) ⟨rfl, rfl, rfl⟩
set_option maxRecDepth 100000 in
set_option maxHeartbeats 1000000 in
theorem rx_less_noa (X : ev_X) (c0 : Nat) (σ : Nat → Int32) (τ : Nat → Nat → Int32) (t1 t2 : Int32) (hb : noT σ t1) : Rx X c0 m_Mod_less 0 [.ref (c0 + 16), .int t1, .int t2, ev_dead] [] σ τ (fun r σ' τ' => r = some (.int 2) ∧ σ' = σ ∧ τ' = τ) := by
  refine Rx.go (fun _ => rfl) ?_
  refine Rx.go (fun _ => rfl) ?_
  refine Rx.callE rfl rfl rfl rfl (rx_noT X c0 _ _ _ hb) ?_
  show Rx X c0 m_Mod_less 5 [.ref (c0 + 16), .int t1, .int t2, ev_dead] [.int 0] σ τ _
  refine Rx.go (fun _ => rfl) ?_
  show Rx X c0 m_Mod_less 16 [.ref (c0 + 16), .int t1, .int t2, ev_dead] [] σ τ _
  refine Rx.go (fun _ => rfl) ?_
  show Rx X c0 m_Mod_less 17 [.ref (c0 + 16), .int t1, .int t2, ev_dead] [.int 2] σ τ _
  exact Rx.ret rfl (ev_reti rfl) ⟨rfl, rfl, rfl⟩
set_option maxRecDepth 100000 in
set_option maxHeartbeats 1000000 in
theorem rx_less_nob (X : ev_X) (c0 : Nat) (σ : Nat → Int32) (τ : Nat → Nat → Int32) {ts : RT} (hR : rt σ τ ts) {i : Nat} (hi : i < ts.length) (t2 : Int32) (hb : noT σ t2) : Rx X c0 m_Mod_less 0 [.ref (c0 + 16), .int (nI (i + 1)), .int t2, ev_dead] [] σ τ (fun r σ' τ' => r = some (.int 2) ∧ σ' = σ ∧ τ' = τ) := by
  refine Rx.go (fun _ => rfl) ?_
  refine Rx.go (fun _ => rfl) ?_
  refine Rx.callE rfl rfl rfl rfl (rx_isT X c0 _ _ hR hi) ?_
  show Rx X c0 m_Mod_less 5 [.ref (c0 + 16), .int (nI (i + 1)), .int t2, ev_dead] [.int 1] σ τ _
  refine Rx.go (fun _ => rfl) ?_
  show Rx X c0 m_Mod_less 8 [.ref (c0 + 16), .int (nI (i + 1)), .int t2, ev_dead] [] σ τ _
  refine Rx.go (fun _ => rfl) ?_
  refine Rx.go (fun _ => rfl) ?_
  refine Rx.callE rfl rfl rfl rfl (rx_noT X c0 _ _ _ hb) ?_
  show Rx X c0 m_Mod_less 13 [.ref (c0 + 16), .int (nI (i + 1)), .int t2, ev_dead] [.int 0] σ τ _
  refine Rx.go (fun _ => rfl) ?_
  show Rx X c0 m_Mod_less 16 [.ref (c0 + 16), .int (nI (i + 1)), .int t2, ev_dead] [] σ τ _
  refine Rx.go (fun _ => rfl) ?_
  show Rx X c0 m_Mod_less 17 [.ref (c0 + 16), .int (nI (i + 1)), .int t2, ev_dead] [.int 2] σ τ _
  exact Rx.ret rfl (ev_reti rfl) ⟨rfl, rfl, rfl⟩
end
section
/-! value of the reference. (rows laid by wip/whole/rx11.py) -/
def vgo (bh : Int32) : List Nat → Int64 → Int32 → Int64
  | [], v, _ => v
  | b :: l, v, lf => if lf = 0 then v else if b = 46 then vgo bh l v bh else if isD (nI b) = true then vgo bh l (10 * v + (nI b).toInt64 - 48) (lf + (-1)) else vgo bh l v lf
theorem vg_0 {bh : Int32} {l : List Nat} {v : Int64} {lf : Int32} (h : lf = 0) : vgo bh l v lf = v := by
  cases l with
  | nil => rfl
  | cons b l => exact if_pos h
theorem vg_s {bh : Int32} {l : List Nat} {k : Nat} {v : Int64} {lf : Int32} (hk : k < l.length) (h : ¬ lf = 0) : vgo bh (l.drop k) v lf = if l.getD k 0 = 46 then vgo bh (l.drop (k + 1)) v bh else if isD (nI (l.getD k 0)) = true then vgo bh (l.drop (k + 1)) (10 * v + (nI (l.getD k 0)).toInt64 - 48) (lf + (-1)) else vgo bh (l.drop (k + 1)) v lf := by
  rw [drop_getD hk]; exact if_neg h
def vlu (bh : Int32) (l : List Nat) : Int64 := if l.getD 0 0 = 45 then - vgo bh l 0 (-1) else vgo bh l 0 (-1)
theorem vg_e {bh : Int32} {l : List Nat} {k : Nat} {v : Int64} {lf : Int32} (h : k = l.length) : vgo bh (l.drop k) v lf = v := by rw [List.drop_eq_nil_of_le (by omega)]; rfl
set_option maxRecDepth 100000 in
set_option maxHeartbeats 1000000 in
theorem rx_value_l (X : ev_X) (c0 : Nat) (σ : Nat → Int32) (τ : Nat → Nat → Int32) {ts : RT} (hR : rt σ τ ts) {i : Nat} (hi : i < ts.length) {sc : Nat} : ∀ (m : Nat) (k : Nat) (v : Int64) (lf : Int32) (u : Value) (hk : k ≤ (bys ts i).length) (hm : (bys ts i).length + 1 ≤ k + m) (hv : vgo (nI sc) ((bys ts i).drop k) v lf = vgo (nI sc) (bys ts i) 0 (-1)), Rx X c0 m_Mod_value 62 [.ref (c0 + 16), .int (nI (i + 1)), .int (nI sc), .long v, ev_dead, .int lf, .int (nI k), u] [] σ τ (fun r σ' τ' => r = some (.long (vlu (nI sc) (bys ts i))) ∧ σ' = σ ∧ τ' = τ) := by
  intro m
  induction m with
  | zero => intro k v lf u hk hm hv; exact absurd hm (by omega)
  | succ m ih =>
    intro k v lf u hk hm hv
    refine Rx.go (fun _ => rfl) ?_
    refine Rx.go (fun _ => rfl) ?_
    refine Rx.go (fun _ => rfl) ?_
    refine Rx.callE rfl rfl rfl rfl (rx_lenOf X c0 _ _ hR hi) ?_
    show Rx X c0 m_Mod_value 69 [.ref (c0 + 16), .int (nI (i + 1)), .int (nI sc), .long v, ev_dead, .int lf, .int (nI k), u] [.int (nI (bys ts i).length), .int (nI k)] σ τ _
    refine Rx.go (fun _ => rfl) ?_
    refine Rx.ite (fun c1 => ?_) (fun c1 => ?_)
    · replace c1 : (nI (bys ts i).length) ≤ (nI k) := of_decide_eq_true c1
      show Rx X c0 m_Mod_value 130 [.ref (c0 + 16), .int (nI (i + 1)), .int (nI sc), .long v, ev_dead, .int lf, .int (nI k), u] [] σ τ _
      refine Rx.go (fun _ => rfl) ?_
      refine Rx.go (fun _ => rfl) ?_
      refine Rx.go (fun _ => rfl) ?_
      refine Rx.callE rfl rfl rfl rfl (rx_byteAt X c0 _ _ hR hi (j := 0) (by decide)) ?_
      show Rx X c0 m_Mod_value 136 [.ref (c0 + 16), .int (nI (i + 1)), .int (nI sc), .long v, ev_dead, .int lf, .int (nI k), u] [.int (nI ((bys ts i).getD 0 0))] σ τ _
      refine Rx.go (fun _ => rfl) ?_
      refine Rx.go (fun _ => rfl) ?_
      refine Rx.ite (fun c2 => ?_) (fun c2 => ?_)
      · replace c2 : ¬ (nI ((bys ts i).getD 0 0)) = 45 := of_decide_eq_true c2
        show Rx X c0 m_Mod_value 146 [.ref (c0 + 16), .int (nI (i + 1)), .int (nI sc), .long v, ev_dead, .int lf, .int (nI k), u] [] σ τ _
        refine Rx.go (fun _ => rfl) ?_
        show Rx X c0 m_Mod_value 147 [.ref (c0 + 16), .int (nI (i + 1)), .int (nI sc), .long v, ev_dead, .int lf, .int (nI k), u] [.long v] σ τ _
        exact Rx.ret rfl rfl ⟨by rw [vlu, ← hv, if_neg (bt_n (n := 45) rfl c2), (vg_e (isd_ge hR hi hk c1))], rfl, rfl⟩
      · replace c2 : (nI ((bys ts i).getD 0 0)) = 45 := Classical.not_not.mp (of_decide_eq_false c2)
        show Rx X c0 m_Mod_value 141 [.ref (c0 + 16), .int (nI (i + 1)), .int (nI sc), .long v, ev_dead, .int lf, .int (nI k), u] [] σ τ _
        refine Rx.go (fun _ => rfl) ?_
        refine Rx.go (fun _ => rfl) ?_
        refine Rx.go (fun _ => rfl) ?_
        show Rx X c0 m_Mod_value 147 [.ref (c0 + 16), .int (nI (i + 1)), .int (nI sc), .long v, ev_dead, .int lf, .int (nI k), u] [.long (-v)] σ τ _
        exact Rx.ret rfl rfl ⟨by rw [vlu, ← hv, if_pos (bt_e hR hi (n := 45) rfl (by decide) c2), (vg_e (isd_ge hR hi hk c1))], rfl, rfl⟩
    · replace c1 : ¬ (nI (bys ts i).length) ≤ (nI k) := of_decide_eq_false c1
      have hlt := isd_lt hR hi hk c1
      show Rx X c0 m_Mod_value 72 [.ref (c0 + 16), .int (nI (i + 1)), .int (nI sc), .long v, ev_dead, .int lf, .int (nI k), u] [] σ τ _
      refine Rx.go (fun _ => rfl) ?_
      refine Rx.go (fun _ => rfl) ?_
      refine Rx.ite (fun c3 => ?_) (fun c3 => ?_)
      · replace c3 : lf = 0 := of_decide_eq_true c3
        show Rx X c0 m_Mod_value 130 [.ref (c0 + 16), .int (nI (i + 1)), .int (nI sc), .long v, ev_dead, .int lf, .int (nI k), u] [] σ τ _
        refine Rx.go (fun _ => rfl) ?_
        refine Rx.go (fun _ => rfl) ?_
        refine Rx.go (fun _ => rfl) ?_
        refine Rx.callE rfl rfl rfl rfl (rx_byteAt X c0 _ _ hR hi (j := 0) (by decide)) ?_
        show Rx X c0 m_Mod_value 136 [.ref (c0 + 16), .int (nI (i + 1)), .int (nI sc), .long v, ev_dead, .int lf, .int (nI k), u] [.int (nI ((bys ts i).getD 0 0))] σ τ _
        refine Rx.go (fun _ => rfl) ?_
        refine Rx.go (fun _ => rfl) ?_
        refine Rx.ite (fun c4 => ?_) (fun c4 => ?_)
        · replace c4 : ¬ (nI ((bys ts i).getD 0 0)) = 45 := of_decide_eq_true c4
          show Rx X c0 m_Mod_value 146 [.ref (c0 + 16), .int (nI (i + 1)), .int (nI sc), .long v, ev_dead, .int lf, .int (nI k), u] [] σ τ _
          refine Rx.go (fun _ => rfl) ?_
          show Rx X c0 m_Mod_value 147 [.ref (c0 + 16), .int (nI (i + 1)), .int (nI sc), .long v, ev_dead, .int lf, .int (nI k), u] [.long v] σ τ _
          exact Rx.ret rfl rfl ⟨by rw [vlu, ← hv, if_neg (bt_n (n := 45) rfl c4), (vg_0 c3)], rfl, rfl⟩
        · replace c4 : (nI ((bys ts i).getD 0 0)) = 45 := Classical.not_not.mp (of_decide_eq_false c4)
          show Rx X c0 m_Mod_value 141 [.ref (c0 + 16), .int (nI (i + 1)), .int (nI sc), .long v, ev_dead, .int lf, .int (nI k), u] [] σ τ _
          refine Rx.go (fun _ => rfl) ?_
          refine Rx.go (fun _ => rfl) ?_
          refine Rx.go (fun _ => rfl) ?_
          show Rx X c0 m_Mod_value 147 [.ref (c0 + 16), .int (nI (i + 1)), .int (nI sc), .long v, ev_dead, .int lf, .int (nI k), u] [.long (-v)] σ τ _
          exact Rx.ret rfl rfl ⟨by rw [vlu, ← hv, if_pos (bt_e hR hi (n := 45) rfl (by decide) c4), (vg_0 c3)], rfl, rfl⟩
      · replace c3 : ¬ lf = 0 := of_decide_eq_false c3
        show Rx X c0 m_Mod_value 77 [.ref (c0 + 16), .int (nI (i + 1)), .int (nI sc), .long v, ev_dead, .int lf, .int (nI k), u] [] σ τ _
        refine Rx.go (fun _ => rfl) ?_
        refine Rx.go (fun _ => rfl) ?_
        refine Rx.go (fun _ => rfl) ?_
        refine Rx.callE rfl rfl rfl rfl (rx_byteAt X c0 _ _ hR hi (j := k) (by have := (rt_ok hR hi).2.2.1; omega)) ?_
        show Rx X c0 m_Mod_value 84 [.ref (c0 + 16), .int (nI (i + 1)), .int (nI sc), .long v, ev_dead, .int lf, .int (nI k), u] [.int (nI ((bys ts i).getD k 0))] σ τ _
        refine Rx.go (fun _ => rfl) ?_
        show Rx X c0 m_Mod_value 86 [.ref (c0 + 16), .int (nI (i + 1)), .int (nI sc), .long v, ev_dead, .int lf, .int (nI k), .int (nI ((bys ts i).getD k 0))] [] σ τ _
        refine Rx.go (fun _ => rfl) ?_
        refine Rx.go (fun _ => rfl) ?_
        refine Rx.go (fun _ => rfl) ?_
        refine Rx.ite (fun c5 => ?_) (fun c5 => ?_)
        · replace c5 : ¬ (nI ((bys ts i).getD k 0)) = 46 := of_decide_eq_true c5
          show Rx X c0 m_Mod_value 96 [.ref (c0 + 16), .int (nI (i + 1)), .int (nI sc), .long v, ev_dead, .int lf, .int (nI k), .int (nI ((bys ts i).getD k 0))] [] σ τ _
          refine Rx.go (fun _ => rfl) ?_
          refine Rx.scallE rfl rfl rfl rfl (sx_Mod_isDigit X _) ?_
          show Rx X c0 m_Mod_value 101 [.ref (c0 + 16), .int (nI (i + 1)), .int (nI sc), .long v, ev_dead, .int lf, .int (nI k), .int (nI ((bys ts i).getD k 0))] [.int (bi (isD (nI ((bys ts i).getD k 0))))] σ τ _
          refine Rx.go (fun _ => rfl) ?_
          refine Rx.ite (fun c6 => ?_) (fun c6 => ?_)
          · replace c6 : (isD (nI ((bys ts i).getD k 0))) = true := bi_net c6
            show Rx X c0 m_Mod_value 107 [.ref (c0 + 16), .int (nI (i + 1)), .int (nI sc), .long v, ev_dead, .int lf, .int (nI k), .int (nI ((bys ts i).getD k 0))] [] σ τ _
            refine Rx.go (fun _ => rfl) ?_
            refine Rx.go (fun _ => rfl) ?_
            refine Rx.go (fun _ => rfl) ?_
            refine Rx.go (fun _ => rfl) ?_
            refine Rx.go (fun _ => rfl) ?_
            refine Rx.go (fun _ => rfl) ?_
            refine Rx.go (fun _ => rfl) ?_
            refine Rx.go (fun _ => rfl) ?_
            refine Rx.go (fun _ => rfl) ?_
            show Rx X c0 m_Mod_value 121 [.ref (c0 + 16), .int (nI (i + 1)), .int (nI sc), .long (((10 * v) + ((nI ((bys ts i).getD k 0)).toInt64)) - 48), ev_dead, .int lf, .int (nI k), .int (nI ((bys ts i).getD k 0))] [] σ τ _
            refine Rx.go (fun _ => rfl) ?_
            show Rx X c0 m_Mod_value 124 [.ref (c0 + 16), .int (nI (i + 1)), .int (nI sc), .long (((10 * v) + ((nI ((bys ts i).getD k 0)).toInt64)) - 48), ev_dead, .int (lf + (-1)), .int (nI k), .int (nI ((bys ts i).getD k 0))] [] σ τ _
            refine Rx.go (fun _ => rfl) ?_
            show Rx X c0 m_Mod_value 127 [.ref (c0 + 16), .int (nI (i + 1)), .int (nI sc), .long (((10 * v) + ((nI ((bys ts i).getD k 0)).toInt64)) - 48), ev_dead, .int (lf + (-1)), .int ((nI k) + 1), .int (nI ((bys ts i).getD k 0))] [] σ τ _
            refine Rx.go (fun _ => rfl) ?_
            show Rx X c0 m_Mod_value 62 [.ref (c0 + 16), .int (nI (i + 1)), .int (nI sc), .long (((10 * v) + ((nI ((bys ts i).getD k 0)).toInt64)) - 48), ev_dead, .int (lf + (-1)), .int ((nI k) + 1), .int (nI ((bys ts i).getD k 0))] [] σ τ _
            rw [nI_1 k]
            exact ih (k + 1) _ _ _ hlt (by omega) (by rw [← hv, vg_s hlt c3, if_neg (bt_n (n := 46) rfl c5), if_pos c6])
          · replace c6 : (isD (nI ((bys ts i).getD k 0))) = false := bi_nef c6
            show Rx X c0 m_Mod_value 104 [.ref (c0 + 16), .int (nI (i + 1)), .int (nI sc), .long v, ev_dead, .int lf, .int (nI k), .int (nI ((bys ts i).getD k 0))] [] σ τ _
            refine Rx.go (fun _ => rfl) ?_
            refine Rx.go (fun _ => rfl) ?_
            show Rx X c0 m_Mod_value 127 [.ref (c0 + 16), .int (nI (i + 1)), .int (nI sc), .long v, ev_dead, .int lf, .int ((nI k) + 1), .int (nI ((bys ts i).getD k 0))] [] σ τ _
            refine Rx.go (fun _ => rfl) ?_
            show Rx X c0 m_Mod_value 62 [.ref (c0 + 16), .int (nI (i + 1)), .int (nI sc), .long v, ev_dead, .int lf, .int ((nI k) + 1), .int (nI ((bys ts i).getD k 0))] [] σ τ _
            rw [nI_1 k]
            exact ih (k + 1) _ _ _ hlt (by omega) (by rw [← hv, vg_s hlt c3, if_neg (bt_n (n := 46) rfl c5), if_neg (by rw [c6]; exact Bool.false_ne_true)])
        · replace c5 : (nI ((bys ts i).getD k 0)) = 46 := Classical.not_not.mp (of_decide_eq_false c5)
          show Rx X c0 m_Mod_value 93 [.ref (c0 + 16), .int (nI (i + 1)), .int (nI sc), .long v, ev_dead, .int lf, .int (nI k), .int (nI ((bys ts i).getD k 0))] [] σ τ _
          refine Rx.go (fun _ => rfl) ?_
          refine Rx.go (fun _ => rfl) ?_
          show Rx X c0 m_Mod_value 96 [.ref (c0 + 16), .int (nI (i + 1)), .int (nI sc), .long v, ev_dead, .int (nI sc), .int (nI k), .int (nI ((bys ts i).getD k 0))] [] σ τ _
          refine Rx.go (fun _ => rfl) ?_
          refine Rx.scallE rfl rfl rfl rfl (sx_Mod_isDigit X _) ?_
          show Rx X c0 m_Mod_value 101 [.ref (c0 + 16), .int (nI (i + 1)), .int (nI sc), .long v, ev_dead, .int (nI sc), .int (nI k), .int (nI ((bys ts i).getD k 0))] [.int (bi (isD (nI ((bys ts i).getD k 0))))] σ τ _
          refine Rx.go (fun _ => rfl) ?_
          refine Rx.ite (fun c7 => ?_) (fun c7 => ?_)
          · replace c7 : (isD (nI ((bys ts i).getD k 0))) = true := bi_net c7
            show Rx X c0 m_Mod_value 107 [.ref (c0 + 16), .int (nI (i + 1)), .int (nI sc), .long v, ev_dead, .int (nI sc), .int (nI k), .int (nI ((bys ts i).getD k 0))] [] σ τ _
            refine Rx.go (fun _ => rfl) ?_
            refine Rx.go (fun _ => rfl) ?_
            refine Rx.go (fun _ => rfl) ?_
            refine Rx.go (fun _ => rfl) ?_
            refine Rx.go (fun _ => rfl) ?_
            refine Rx.go (fun _ => rfl) ?_
            refine Rx.go (fun _ => rfl) ?_
            refine Rx.go (fun _ => rfl) ?_
            refine Rx.go (fun _ => rfl) ?_
            show Rx X c0 m_Mod_value 121 [.ref (c0 + 16), .int (nI (i + 1)), .int (nI sc), .long (((10 * v) + ((nI ((bys ts i).getD k 0)).toInt64)) - 48), ev_dead, .int (nI sc), .int (nI k), .int (nI ((bys ts i).getD k 0))] [] σ τ _
            refine Rx.go (fun _ => rfl) ?_
            show Rx X c0 m_Mod_value 124 [.ref (c0 + 16), .int (nI (i + 1)), .int (nI sc), .long (((10 * v) + ((nI ((bys ts i).getD k 0)).toInt64)) - 48), ev_dead, .int ((nI sc) + (-1)), .int (nI k), .int (nI ((bys ts i).getD k 0))] [] σ τ _
            refine Rx.go (fun _ => rfl) ?_
            show Rx X c0 m_Mod_value 127 [.ref (c0 + 16), .int (nI (i + 1)), .int (nI sc), .long (((10 * v) + ((nI ((bys ts i).getD k 0)).toInt64)) - 48), ev_dead, .int ((nI sc) + (-1)), .int ((nI k) + 1), .int (nI ((bys ts i).getD k 0))] [] σ τ _
            refine Rx.go (fun _ => rfl) ?_
            show Rx X c0 m_Mod_value 62 [.ref (c0 + 16), .int (nI (i + 1)), .int (nI sc), .long (((10 * v) + ((nI ((bys ts i).getD k 0)).toInt64)) - 48), ev_dead, .int ((nI sc) + (-1)), .int ((nI k) + 1), .int (nI ((bys ts i).getD k 0))] [] σ τ _
            exact absurd c7 (by rw [c5]; decide)
          · replace c7 : (isD (nI ((bys ts i).getD k 0))) = false := bi_nef c7
            show Rx X c0 m_Mod_value 104 [.ref (c0 + 16), .int (nI (i + 1)), .int (nI sc), .long v, ev_dead, .int (nI sc), .int (nI k), .int (nI ((bys ts i).getD k 0))] [] σ τ _
            refine Rx.go (fun _ => rfl) ?_
            refine Rx.go (fun _ => rfl) ?_
            show Rx X c0 m_Mod_value 127 [.ref (c0 + 16), .int (nI (i + 1)), .int (nI sc), .long v, ev_dead, .int (nI sc), .int ((nI k) + 1), .int (nI ((bys ts i).getD k 0))] [] σ τ _
            refine Rx.go (fun _ => rfl) ?_
            show Rx X c0 m_Mod_value 62 [.ref (c0 + 16), .int (nI (i + 1)), .int (nI sc), .long v, ev_dead, .int (nI sc), .int ((nI k) + 1), .int (nI ((bys ts i).getD k 0))] [] σ τ _
            rw [nI_1 k]
            exact ih (k + 1) _ _ _ hlt (by omega) (by rw [← hv, vg_s hlt c3, if_pos (bt_e hR hi (n := 46) rfl (by decide) c5)])
set_option maxRecDepth 100000 in
set_option maxHeartbeats 1000000 in
theorem rx_value_n (X : ev_X) (c0 : Nat) (σ : Nat → Int32) (τ : Nat → Nat → Int32) {ts : RT} (hR : rt σ τ ts) {i : Nat} (hi : i < ts.length) {sc : Nat} (hn : knd ts i = 3 ∨ knd ts i = 4) (hsc : Rx X c0 m_Mod_scale 0 [.ref (c0 + 16), .int (nI (i + 1)), ev_dead, ev_dead] [] σ τ (fun r σ' τ' => r = some (.int (nI sc)) ∧ σ' = σ ∧ τ' = τ)) : Rx X c0 m_Mod_value 0 [.ref (c0 + 16), .int (nI (i + 1)), ev_dead, ev_dead, ev_dead, ev_dead, ev_dead, ev_dead] [] σ τ (fun r σ' τ' => r = some (.long (vlu (nI sc) (bys ts i))) ∧ σ' = σ ∧ τ' = τ) := by
  refine Rx.go (fun _ => rfl) ?_
  refine Rx.go (fun _ => rfl) ?_
  refine Rx.callE rfl rfl rfl rfl (rx_isT X c0 _ _ hR hi) ?_
  show Rx X c0 m_Mod_value 5 [.ref (c0 + 16), .int (nI (i + 1)), ev_dead, ev_dead, ev_dead, ev_dead, ev_dead, ev_dead] [.int 1] σ τ _
  refine Rx.go (fun _ => rfl) ?_
  show Rx X c0 m_Mod_value 10 [.ref (c0 + 16), .int (nI (i + 1)), ev_dead, ev_dead, ev_dead, ev_dead, ev_dead, ev_dead] [] σ τ _
  refine Rx.go (fun _ => rfl) ?_
  refine Rx.get rfl rfl ?_
  refine Rx.go (fun _ => rfl) ?_
  refine Rx.aldE (v := nI (knd ts i)) 5 rfl rfl (nI_ix (N := 2002) (n := i + 1) (by have := hR.2.1; omega) (by decide)) (rt_k hR hi) ?_
  refine Rx.go (fun _ => rfl) ?_
  refine Rx.go (fun _ => rfl) ?_
  refine Rx.ite (fun c1 => ?_) (fun c1 => ?_)
  · replace c1 : ¬ (nI (knd ts i)) = 8 := of_decide_eq_true c1
    show Rx X c0 m_Mod_value 38 [.ref (c0 + 16), .int (nI (i + 1)), ev_dead, ev_dead, ev_dead, ev_dead, ev_dead, ev_dead] [] σ τ _
    refine Rx.go (fun _ => rfl) ?_
    refine Rx.go (fun _ => rfl) ?_
    refine Rx.callE rfl rfl rfl rfl (rx_isNum X c0 _ _ hR hi) ?_
    show Rx X c0 m_Mod_value 43 [.ref (c0 + 16), .int (nI (i + 1)), ev_dead, ev_dead, ev_dead, ev_dead, ev_dead, ev_dead] [.int (bi (decide (knd ts i = 3) || decide (knd ts i = 4)))] σ τ _
    refine Rx.go (fun _ => rfl) ?_
    refine Rx.ite (fun c2 => ?_) (fun c2 => ?_)
    · replace c2 : (decide (knd ts i = 3) || decide (knd ts i = 4)) = true := bi_net c2
      show Rx X c0 m_Mod_value 48 [.ref (c0 + 16), .int (nI (i + 1)), ev_dead, ev_dead, ev_dead, ev_dead, ev_dead, ev_dead] [] σ τ _
      refine Rx.go (fun _ => rfl) ?_
      refine Rx.go (fun _ => rfl) ?_
      refine Rx.callE rfl rfl rfl rfl hsc ?_
      show Rx X c0 m_Mod_value 53 [.ref (c0 + 16), .int (nI (i + 1)), ev_dead, ev_dead, ev_dead, ev_dead, ev_dead, ev_dead] [.int (nI sc)] σ τ _
      refine Rx.go (fun _ => rfl) ?_
      show Rx X c0 m_Mod_value 54 [.ref (c0 + 16), .int (nI (i + 1)), .int (nI sc), ev_dead, ev_dead, ev_dead, ev_dead, ev_dead] [] σ τ _
      refine Rx.go (fun _ => rfl) ?_
      refine Rx.go (fun _ => rfl) ?_
      show Rx X c0 m_Mod_value 56 [.ref (c0 + 16), .int (nI (i + 1)), .int (nI sc), .long 0, ev_dead, ev_dead, ev_dead, ev_dead] [] σ τ _
      refine Rx.go (fun _ => rfl) ?_
      refine Rx.go (fun _ => rfl) ?_
      show Rx X c0 m_Mod_value 59 [.ref (c0 + 16), .int (nI (i + 1)), .int (nI sc), .long 0, ev_dead, .int (-1), ev_dead, ev_dead] [] σ τ _
      refine Rx.go (fun _ => rfl) ?_
      refine Rx.go (fun _ => rfl) ?_
      show Rx X c0 m_Mod_value 62 [.ref (c0 + 16), .int (nI (i + 1)), .int (nI sc), .long 0, ev_dead, .int (-1), .int 0, ev_dead] [] σ τ _
      show Rx X c0 m_Mod_value 62 [.ref (c0 + 16), .int (nI (i + 1)), .int (nI sc), .long 0, ev_dead, .int (-1), .int 0, ev_dead] [] σ τ _
      exact rx_value_l X c0 σ τ hR hi ((bys ts i).length + 1) 0 0 (-1) _ (Nat.zero_le _) (by omega) rfl
    · replace c2 : (decide (knd ts i = 3) || decide (knd ts i = 4)) = false := bi_nef c2
      show Rx X c0 m_Mod_value 46 [.ref (c0 + 16), .int (nI (i + 1)), ev_dead, ev_dead, ev_dead, ev_dead, ev_dead, ev_dead] [] σ τ _
      refine Rx.go (fun _ => rfl) ?_
      show Rx X c0 m_Mod_value 47 [.ref (c0 + 16), .int (nI (i + 1)), ev_dead, ev_dead, ev_dead, ev_dead, ev_dead, ev_dead] [.long 0] σ τ _
      exact absurd hn (num_f c2)
  · replace c1 : (nI (knd ts i)) = 8 := Classical.not_not.mp (of_decide_eq_false c1)
    show Rx X c0 m_Mod_value 21 [.ref (c0 + 16), .int (nI (i + 1)), ev_dead, ev_dead, ev_dead, ev_dead, ev_dead, ev_dead] [] σ τ _
    refine Rx.go (fun _ => rfl) ?_
    refine Rx.go (fun _ => rfl) ?_
    refine Rx.go (fun _ => rfl) ?_
    refine Rx.callE rfl rfl rfl rfl (rx_byteAt X c0 _ _ hR hi (j := 0) (by decide)) ?_
    show Rx X c0 m_Mod_value 27 [.ref (c0 + 16), .int (nI (i + 1)), ev_dead, ev_dead, ev_dead, ev_dead, ev_dead, ev_dead] [.int (nI ((bys ts i).getD 0 0))] σ τ _
    refine Rx.go (fun _ => rfl) ?_
    refine Rx.go (fun _ => rfl) ?_
    refine Rx.ite (fun c3 => ?_) (fun c3 => ?_)
    · replace c3 : ¬ (nI ((bys ts i).getD 0 0)) = 116 := of_decide_eq_true c3
      show Rx X c0 m_Mod_value 36 [.ref (c0 + 16), .int (nI (i + 1)), ev_dead, ev_dead, ev_dead, ev_dead, ev_dead, ev_dead] [] σ τ _
      refine Rx.go (fun _ => rfl) ?_
      show Rx X c0 m_Mod_value 37 [.ref (c0 + 16), .int (nI (i + 1)), ev_dead, ev_dead, ev_dead, ev_dead, ev_dead, ev_dead] [.long 0] σ τ _
      exact absurd (kn_e hR hi (n := 8) rfl (by decide) c1) (by omega)
    · replace c3 : (nI ((bys ts i).getD 0 0)) = 116 := Classical.not_not.mp (of_decide_eq_false c3)
      show Rx X c0 m_Mod_value 32 [.ref (c0 + 16), .int (nI (i + 1)), ev_dead, ev_dead, ev_dead, ev_dead, ev_dead, ev_dead] [] σ τ _
      refine Rx.go (fun _ => rfl) ?_
      refine Rx.go (fun _ => rfl) ?_
      show Rx X c0 m_Mod_value 37 [.ref (c0 + 16), .int (nI (i + 1)), ev_dead, ev_dead, ev_dead, ev_dead, ev_dead, ev_dead] [.long 1] σ τ _
      exact absurd (kn_e hR hi (n := 8) rfl (by decide) c1) (by omega)
set_option maxRecDepth 100000 in
set_option maxHeartbeats 1000000 in
theorem rx_value_t (X : ev_X) (c0 : Nat) (σ : Nat → Int32) (τ : Nat → Nat → Int32) {ts : RT} (hR : rt σ τ ts) {i : Nat} (hi : i < ts.length) (h8 : knd ts i = 8) : Rx X c0 m_Mod_value 0 [.ref (c0 + 16), .int (nI (i + 1)), ev_dead, ev_dead, ev_dead, ev_dead, ev_dead, ev_dead] [] σ τ (fun r σ' τ' => r = some (.long (if (bys ts i).getD 0 0 = 116 then 1 else 0)) ∧ σ' = σ ∧ τ' = τ) := by
  refine Rx.go (fun _ => rfl) ?_
  refine Rx.go (fun _ => rfl) ?_
  refine Rx.callE rfl rfl rfl rfl (rx_isT X c0 _ _ hR hi) ?_
  show Rx X c0 m_Mod_value 5 [.ref (c0 + 16), .int (nI (i + 1)), ev_dead, ev_dead, ev_dead, ev_dead, ev_dead, ev_dead] [.int 1] σ τ _
  refine Rx.go (fun _ => rfl) ?_
  show Rx X c0 m_Mod_value 10 [.ref (c0 + 16), .int (nI (i + 1)), ev_dead, ev_dead, ev_dead, ev_dead, ev_dead, ev_dead] [] σ τ _
  refine Rx.go (fun _ => rfl) ?_
  refine Rx.get rfl rfl ?_
  refine Rx.go (fun _ => rfl) ?_
  refine Rx.aldE (v := nI (knd ts i)) 5 rfl rfl (nI_ix (N := 2002) (n := i + 1) (by have := hR.2.1; omega) (by decide)) (rt_k hR hi) ?_
  refine Rx.go (fun _ => rfl) ?_
  refine Rx.go (fun _ => rfl) ?_
  refine Rx.ite (fun c1 => ?_) (fun c1 => ?_)
  · replace c1 : ¬ (nI (knd ts i)) = 8 := of_decide_eq_true c1
    show Rx X c0 m_Mod_value 38 [.ref (c0 + 16), .int (nI (i + 1)), ev_dead, ev_dead, ev_dead, ev_dead, ev_dead, ev_dead] [] σ τ _
    show Rx X c0 m_Mod_value 38 [.ref (c0 + 16), .int (nI (i + 1)), ev_dead, ev_dead, ev_dead, ev_dead, ev_dead, ev_dead] [] σ τ _
    exact absurd h8 (kn_n (n := 8) rfl c1)
  · replace c1 : (nI (knd ts i)) = 8 := Classical.not_not.mp (of_decide_eq_false c1)
    show Rx X c0 m_Mod_value 21 [.ref (c0 + 16), .int (nI (i + 1)), ev_dead, ev_dead, ev_dead, ev_dead, ev_dead, ev_dead] [] σ τ _
    refine Rx.go (fun _ => rfl) ?_
    refine Rx.go (fun _ => rfl) ?_
    refine Rx.go (fun _ => rfl) ?_
    refine Rx.callE rfl rfl rfl rfl (rx_byteAt X c0 _ _ hR hi (j := 0) (by decide)) ?_
    show Rx X c0 m_Mod_value 27 [.ref (c0 + 16), .int (nI (i + 1)), ev_dead, ev_dead, ev_dead, ev_dead, ev_dead, ev_dead] [.int (nI ((bys ts i).getD 0 0))] σ τ _
    refine Rx.go (fun _ => rfl) ?_
    refine Rx.go (fun _ => rfl) ?_
    refine Rx.ite (fun c2 => ?_) (fun c2 => ?_)
    · replace c2 : ¬ (nI ((bys ts i).getD 0 0)) = 116 := of_decide_eq_true c2
      show Rx X c0 m_Mod_value 36 [.ref (c0 + 16), .int (nI (i + 1)), ev_dead, ev_dead, ev_dead, ev_dead, ev_dead, ev_dead] [] σ τ _
      refine Rx.go (fun _ => rfl) ?_
      show Rx X c0 m_Mod_value 37 [.ref (c0 + 16), .int (nI (i + 1)), ev_dead, ev_dead, ev_dead, ev_dead, ev_dead, ev_dead] [.long 0] σ τ _
      exact Rx.ret rfl rfl ⟨by rw [if_neg (bt_n (n := 116) rfl c2)], rfl, rfl⟩
    · replace c2 : (nI ((bys ts i).getD 0 0)) = 116 := Classical.not_not.mp (of_decide_eq_false c2)
      show Rx X c0 m_Mod_value 32 [.ref (c0 + 16), .int (nI (i + 1)), ev_dead, ev_dead, ev_dead, ev_dead, ev_dead, ev_dead] [] σ τ _
      refine Rx.go (fun _ => rfl) ?_
      refine Rx.go (fun _ => rfl) ?_
      show Rx X c0 m_Mod_value 37 [.ref (c0 + 16), .int (nI (i + 1)), ev_dead, ev_dead, ev_dead, ev_dead, ev_dead, ev_dead] [.long 1] σ τ _
      exact Rx.ret rfl rfl ⟨by rw [if_pos (bt_e hR hi (n := 116) rfl (by decide) c2)], rfl, rfl⟩
set_option maxRecDepth 100000 in
set_option maxHeartbeats 1000000 in
theorem rx_value_0 (X : ev_X) (c0 : Nat) (σ : Nat → Int32) (τ : Nat → Nat → Int32) {ts : RT} (hR : rt σ τ ts) {i : Nat} (hi : i < ts.length) (h8 : knd ts i ≠ 8) (hn : ¬ (knd ts i = 3 ∨ knd ts i = 4)) : Rx X c0 m_Mod_value 0 [.ref (c0 + 16), .int (nI (i + 1)), ev_dead, ev_dead, ev_dead, ev_dead, ev_dead, ev_dead] [] σ τ (fun r σ' τ' => r = some (.long 0) ∧ σ' = σ ∧ τ' = τ) := by
  refine Rx.go (fun _ => rfl) ?_
  refine Rx.go (fun _ => rfl) ?_
  refine Rx.callE rfl rfl rfl rfl (rx_isT X c0 _ _ hR hi) ?_
  show Rx X c0 m_Mod_value 5 [.ref (c0 + 16), .int (nI (i + 1)), ev_dead, ev_dead, ev_dead, ev_dead, ev_dead, ev_dead] [.int 1] σ τ _
  refine Rx.go (fun _ => rfl) ?_
  show Rx X c0 m_Mod_value 10 [.ref (c0 + 16), .int (nI (i + 1)), ev_dead, ev_dead, ev_dead, ev_dead, ev_dead, ev_dead] [] σ τ _
  refine Rx.go (fun _ => rfl) ?_
  refine Rx.get rfl rfl ?_
  refine Rx.go (fun _ => rfl) ?_
  refine Rx.aldE (v := nI (knd ts i)) 5 rfl rfl (nI_ix (N := 2002) (n := i + 1) (by have := hR.2.1; omega) (by decide)) (rt_k hR hi) ?_
  refine Rx.go (fun _ => rfl) ?_
  refine Rx.go (fun _ => rfl) ?_
  refine Rx.ite (fun c1 => ?_) (fun c1 => ?_)
  · replace c1 : ¬ (nI (knd ts i)) = 8 := of_decide_eq_true c1
    show Rx X c0 m_Mod_value 38 [.ref (c0 + 16), .int (nI (i + 1)), ev_dead, ev_dead, ev_dead, ev_dead, ev_dead, ev_dead] [] σ τ _
    refine Rx.go (fun _ => rfl) ?_
    refine Rx.go (fun _ => rfl) ?_
    refine Rx.callE rfl rfl rfl rfl (rx_isNum X c0 _ _ hR hi) ?_
    show Rx X c0 m_Mod_value 43 [.ref (c0 + 16), .int (nI (i + 1)), ev_dead, ev_dead, ev_dead, ev_dead, ev_dead, ev_dead] [.int (bi (decide (knd ts i = 3) || decide (knd ts i = 4)))] σ τ _
    refine Rx.go (fun _ => rfl) ?_
    refine Rx.ite (fun c2 => ?_) (fun c2 => ?_)
    · replace c2 : (decide (knd ts i = 3) || decide (knd ts i = 4)) = true := bi_net c2
      show Rx X c0 m_Mod_value 48 [.ref (c0 + 16), .int (nI (i + 1)), ev_dead, ev_dead, ev_dead, ev_dead, ev_dead, ev_dead] [] σ τ _
      show Rx X c0 m_Mod_value 48 [.ref (c0 + 16), .int (nI (i + 1)), ev_dead, ev_dead, ev_dead, ev_dead, ev_dead, ev_dead] [] σ τ _
      exact absurd (num_t c2) hn
    · replace c2 : (decide (knd ts i = 3) || decide (knd ts i = 4)) = false := bi_nef c2
      show Rx X c0 m_Mod_value 46 [.ref (c0 + 16), .int (nI (i + 1)), ev_dead, ev_dead, ev_dead, ev_dead, ev_dead, ev_dead] [] σ τ _
      refine Rx.go (fun _ => rfl) ?_
      show Rx X c0 m_Mod_value 47 [.ref (c0 + 16), .int (nI (i + 1)), ev_dead, ev_dead, ev_dead, ev_dead, ev_dead, ev_dead] [.long 0] σ τ _
      exact Rx.ret rfl rfl ⟨rfl, rfl, rfl⟩
  · replace c1 : (nI (knd ts i)) = 8 := Classical.not_not.mp (of_decide_eq_false c1)
    show Rx X c0 m_Mod_value 21 [.ref (c0 + 16), .int (nI (i + 1)), ev_dead, ev_dead, ev_dead, ev_dead, ev_dead, ev_dead] [] σ τ _
    refine Rx.go (fun _ => rfl) ?_
    refine Rx.go (fun _ => rfl) ?_
    refine Rx.go (fun _ => rfl) ?_
    refine Rx.callE rfl rfl rfl rfl (rx_byteAt X c0 _ _ hR hi (j := 0) (by decide)) ?_
    show Rx X c0 m_Mod_value 27 [.ref (c0 + 16), .int (nI (i + 1)), ev_dead, ev_dead, ev_dead, ev_dead, ev_dead, ev_dead] [.int (nI ((bys ts i).getD 0 0))] σ τ _
    refine Rx.go (fun _ => rfl) ?_
    refine Rx.go (fun _ => rfl) ?_
    refine Rx.ite (fun c3 => ?_) (fun c3 => ?_)
    · replace c3 : ¬ (nI ((bys ts i).getD 0 0)) = 116 := of_decide_eq_true c3
      show Rx X c0 m_Mod_value 36 [.ref (c0 + 16), .int (nI (i + 1)), ev_dead, ev_dead, ev_dead, ev_dead, ev_dead, ev_dead] [] σ τ _
      refine Rx.go (fun _ => rfl) ?_
      show Rx X c0 m_Mod_value 37 [.ref (c0 + 16), .int (nI (i + 1)), ev_dead, ev_dead, ev_dead, ev_dead, ev_dead, ev_dead] [.long 0] σ τ _
      exact absurd (kn_e hR hi (n := 8) rfl (by decide) c1) h8
    · replace c3 : (nI ((bys ts i).getD 0 0)) = 116 := Classical.not_not.mp (of_decide_eq_false c3)
      show Rx X c0 m_Mod_value 32 [.ref (c0 + 16), .int (nI (i + 1)), ev_dead, ev_dead, ev_dead, ev_dead, ev_dead, ev_dead] [] σ τ _
      refine Rx.go (fun _ => rfl) ?_
      refine Rx.go (fun _ => rfl) ?_
      show Rx X c0 m_Mod_value 37 [.ref (c0 + 16), .int (nI (i + 1)), ev_dead, ev_dead, ev_dead, ev_dead, ev_dead, ev_dead] [.long 1] σ τ _
      exact absurd (kn_e hR hi (n := 8) rfl (by decide) c1) h8
end
section
/-! The reference while it reads: RS (no fault yet: at p of the tape t, with the draft d, its kind, quote and bytes), RQ (fault c at w). -/
def rsF (σ0 : Nat → Int32) (τ0 : Nat → Nat → Int32) (t : List Nat) (σ : Nat → Int32) (τ : Nat → Nat → Int32) : Prop := (σ 1 = σ0 1 ∧ σ 2 = σ0 2 ∧ σ 7 = σ0 7 ∧ σ 8 = σ0 8 ∧ σ 15 = σ0 15) ∧ (τ 3 = τ0 3 ∧ τ 4 = τ0 4 ∧ τ 5 = τ0 5 ∧ τ 6 = τ0 6 ∧ τ 14 = τ0 14 ∧ τ 20 = τ0 20) ∧ (∀ j, j < t.length → τ 0 j = nI (t.getD j 0)) ∧ t.length ≤ 240 ∧ (∀ j, t.getD j 0 < 256) ∧ σ 17 = nI t.length
def RS (σ0 : Nat → Int32) (τ0 : Nat → Nat → Int32) (t : List Nat) (p : Nat) (d : List Nat) (k q db : Nat) (σ : Nat → Int32) (τ : Nat → Nat → Int32) : Prop := rsF σ0 τ0 t σ τ ∧ (σ 16 = nI p ∧ p ≤ t.length) ∧ σ 18 = 0 ∧ (σ 10 = nI d.length ∧ ∀ j, j < d.length → τ 9 j = nI (d.getD j 0)) ∧ σ 11 = nI k ∧ σ 12 = nI q ∧ σ 13 = nI db
def RQ (σ0 : Nat → Int32) (τ0 : Nat → Nat → Int32) (t : List Nat) (c w m : Nat) (σ : Nat → Int32) (τ : Nat → Nat → Int32) : Prop := rsF σ0 τ0 t σ τ ∧ (∃ p, σ 16 = nI p ∧ p ≤ 300) ∧ (σ 18 = nI c ∧ 0 < c ∧ c < 16) ∧ σ 19 = nI w ∧ σ 10 = nI m
/-- the byte at p of the tape, -1 behind it -/
def hb (t : List Nat) (p : Nat) : Int32 := if p < t.length then nI (t.getD p 0) else -1
section RSR
variable {X : ev_X} {c0 : Nat} {σ0 σ : Nat → Int32} {τ0 τ : Nat → Nat → Int32} {t d : List Nat} {p k q db c w m : Nat}
theorem rsF.upd {j : Nat} {x : Int32} (h : rsF σ0 τ0 t σ τ) (hj : j = 10 ∨ j = 11 ∨ j = 12 ∨ j = 13 ∨ j = 16 ∨ j = 18 ∨ j = 19 ∨ j = 22 ∨ j = 23) : rsF σ0 τ0 t (upd σ j x) τ := by
  obtain ⟨⟨h1, h2, h3, h4, h5⟩, h6, h7, h8, h9, h10⟩ := h
  refine ⟨⟨?_, ?_, ?_, ?_, ?_⟩, h6, h7, h8, h9, ?_⟩ <;> (rw [pk_un (by omega)]; assumption)
theorem rsF.upt {j : Nat} {f : Nat → Int32} (h : rsF σ0 τ0 t σ τ) (hj : j = 9 ∨ j = 21) : rsF σ0 τ0 t σ (va_up τ j f) := by
  obtain ⟨h0, ⟨h1, h2, h3, h4, h5, h6⟩, h7, h8, h9, h10⟩ := h
  refine ⟨h0, ⟨?_, ?_, ?_, ?_, ?_, ?_⟩, ?_, h8, h9, h10⟩
  all_goals (try (rw [va_up_ne _ _ (by omega)]; assumption))
theorem RS.tl (h : RS σ0 τ0 t p d k q db σ τ) : t.length ≤ 240 := h.1.2.2.2.1
theorem RS.here (h : RS σ0 τ0 t p d k q db σ τ) : rhere σ τ = hb t p := by
  obtain ⟨⟨-, -, h3, h4, h5, h6⟩, ⟨h7, h8⟩, -⟩ := h
  unfold rhere hb
  rw [h6, h7]
  by_cases hp : p < t.length
  · rw [if_neg (by rw [nI_leI (by omega) (by omega)]; omega), if_pos hp, nI_clamp (by omega)]; exact h3 p hp
  · rw [if_pos (by rw [nI_leI (by omega) (by omega)]; omega), if_neg hp]
theorem rs_here (h : RS σ0 τ0 t p d k q db σ τ) : Rx X c0 m_Mod_here 0 [.ref (c0 + 16)] [] σ τ (fun r σ' τ' => r = some (.int (hb t p)) ∧ σ' = σ ∧ τ' = τ) :=
  (rx_here X c0 σ τ (by rw [h.2.1.1]; exact nI_pos (by have := h.tl; have := h.2.1.2; omega)) (by rw [h.1.2.2.2.2.2]; exact (nI_leI (by have := h.tl; omega) (by decide)).mpr h.tl)).mono (fun r σ' τ' ⟨e1, e2⟩ => ⟨by rw [e1, h.here], e2⟩)
theorem rs_good (h : RS σ0 τ0 t p d k q db σ τ) : Rx X c0 m_Mod_isGood 0 [.ref (c0 + 16)] [] σ τ (fun r σ' τ' => r = some (.int 1) ∧ σ' = σ ∧ τ' = τ) :=
  (rx_isGood X c0 σ τ).mono (fun r σ' τ' ⟨e1, e2⟩ => ⟨by rw [e1, h.2.2.1]; rfl, e2⟩)
theorem RQ.ne (h : RQ σ0 τ0 t c w m σ τ) : ¬ σ 18 = 0 := by rw [h.2.2.1.1]; exact nI_ne0 h.2.2.1.2.1 (by have := h.2.2.1.2.2; omega)
theorem rq_good (h : RQ σ0 τ0 t c w m σ τ) : Rx X c0 m_Mod_isGood 0 [.ref (c0 + 16)] [] σ τ (fun r σ' τ' => r = some (.int 0) ∧ σ' = σ ∧ τ' = τ) :=
  (rx_isGood X c0 σ τ).mono (fun r σ' τ' ⟨e1, e2⟩ => ⟨by rw [e1, bi_f (decide_eq_false h.ne)], e2⟩)
theorem getD_snoc {l : List Nat} {b j : Nat} (h : j < l.length + 1) : (l ++ [b]).getD j 0 = if j < l.length then l.getD j 0 else b := by
  rw [List.getD_eq_getElem?_getD]
  split
  · next q => rw [List.getElem?_append_left q, ← List.getD_eq_getElem?_getD]
  · next q => rw [List.getElem?_append_right (by omega), show j - l.length = 0 by omega]; rfl
theorem rs_put (b : Nat) (h : RS σ0 τ0 t p d k q db σ τ) (hd : d.length < 260) : Rx X c0 m_Mod_put 0 [.ref (c0 + 16), .int (nI b)] [] σ τ (fun r σ' τ' => r = none ∧ RS σ0 τ0 t p (d ++ [b]) k q db σ' τ') := by
  obtain ⟨h1, h2, h3, ⟨h4, h5⟩, h6, h7, h8⟩ := h
  refine (rx_put X c0 σ τ (nI b) (by rw [h4]; exact nI_ix hd (by decide))).mono ?_
  rintro r σ' τ' ⟨rfl, rfl, rfl⟩
  refine ⟨rfl, (h1.upd (by omega)).upt (by omega), ?_, ?_, ⟨?_, ?_⟩, ?_, ?_, ?_⟩
  · exact ⟨by rw [pk_un (by decide)]; exact h2.1, h2.2⟩
  · rw [pk_un (by decide)]; exact h3
  · rw [pk_us, h4, nI_1, List.length_append]; rfl
  · intro j hj
    rw [va_up_self, h4, nI_clamp (by omega)]
    simp only [List.length_append, List.length_cons, List.length_nil] at hj
    rw [getD_snoc hj]
    split
    · next q => rw [pk_un (by omega)]; exact h5 j q
    · next q => rw [show j = d.length by omega, pk_us]
  · rw [pk_un (by decide)]; exact h6
  · rw [pk_un (by decide)]; exact h7
  · rw [pk_un (by decide)]; exact h8
theorem rq_put (x : Int32) (h : RQ σ0 τ0 t c w m σ τ) (hm : m < 260) : Rx X c0 m_Mod_put 0 [.ref (c0 + 16), .int x] [] σ τ (fun r σ' τ' => r = none ∧ RQ σ0 τ0 t c w (m + 1) σ' τ') := by
  obtain ⟨h1, ⟨p, h2, h2'⟩, h3, h4, h5⟩ := h
  refine (rx_put X c0 σ τ x (by rw [h5]; exact nI_ix hm (by decide))).mono ?_
  rintro r σ' τ' ⟨rfl, rfl, rfl⟩
  refine ⟨rfl, (h1.upd (by omega)).upt (by omega), ⟨p, by rw [pk_un (by decide)]; exact h2, h2'⟩, ⟨by rw [pk_un (by decide)]; exact h3.1, h3.2⟩, by rw [pk_un (by decide)]; exact h4, by rw [pk_us, h5, nI_1]⟩
theorem RS.fail {c w : Nat} (h : RS σ0 τ0 t p d k q db σ τ) (hc : 0 < c) (hc' : c < 16) : RQ σ0 τ0 t c w d.length (rfail σ (nI c) (nI w)) τ := by
  obtain ⟨h1, h2, h3, ⟨h4, h5⟩, -⟩ := h
  rw [rfail, if_pos h3]
  refine ⟨(h1.upd (by omega)).upd (by omega), ⟨p, by rw [pk_un (by decide), pk_un (by decide)]; exact h2.1, by have := h1.2.2.2.1; have := h2.2; omega⟩, ⟨by rw [pk_un (by decide), pk_us], hc, hc'⟩, by rw [pk_us], by rw [pk_un (by decide), pk_un (by decide)]; exact h4⟩
theorem RQ.fail {x y : Int32} (h : RQ σ0 τ0 t c w m σ τ) : RQ σ0 τ0 t c w m (rfail σ x y) τ := by rw [rfail, if_neg h.ne]; exact h
theorem rs_fail {c w : Nat} (h : RS σ0 τ0 t p d k q db σ τ) (hc : 0 < c) (hc' : c < 16) : Rx X c0 m_Mod_fail 0 [.ref (c0 + 16), .int (nI c), .int (nI w)] [] σ τ (fun r σ' τ' => r = none ∧ RQ σ0 τ0 t c w d.length σ' τ') :=
  (rx_fail X c0 σ τ (nI c) (nI w)).mono (fun r σ' τ' ⟨e1, e2, e3⟩ => ⟨e1, by rw [e2, e3]; exact h.fail hc hc'⟩)
theorem rq_fail (x y : Int32) (h : RQ σ0 τ0 t c w m σ τ) : Rx X c0 m_Mod_fail 0 [.ref (c0 + 16), .int x, .int y] [] σ τ (fun r σ' τ' => r = none ∧ RQ σ0 τ0 t c w m σ' τ') :=
  (rx_fail X c0 σ τ x y).mono (fun r σ' τ' ⟨e1, e2, e3⟩ => ⟨e1, by rw [e2, e3]; exact h.fail⟩)
theorem RS.at1 (h : RS σ0 τ0 t p d k q db σ τ) (hp : p < t.length) : RS σ0 τ0 t (p + 1) d k q db (upd σ 16 (nI (p + 1))) τ := by
  obtain ⟨h1, h2, h3, ⟨h4, h5⟩, h6, h7, h8⟩ := h
  exact ⟨h1.upd (by omega), ⟨by rw [pk_us], hp⟩, by rw [pk_un (by decide)]; exact h3, ⟨by rw [pk_un (by decide)]; exact h4, h5⟩, by rw [pk_un (by decide)]; exact h6, by rw [pk_un (by decide)]; exact h7, by rw [pk_un (by decide)]; exact h8⟩
theorem RS.db1 {x : Nat} (h : RS σ0 τ0 t p d k q db σ τ) : RS σ0 τ0 t p d k q x (upd σ 13 (nI x)) τ := by
  obtain ⟨h1, h2, h3, ⟨h4, h5⟩, h6, h7, h8⟩ := h
  exact ⟨h1.upd (by omega), ⟨by rw [pk_un (by decide)]; exact h2.1, h2.2⟩, by rw [pk_un (by decide)]; exact h3, ⟨by rw [pk_un (by decide)]; exact h4, h5⟩, by rw [pk_un (by decide)]; exact h6, by rw [pk_un (by decide)]; exact h7, by rw [pk_us]⟩
/-- over: a byte that must stand here -/
theorem rs_over (g : Bool) (h : RS σ0 τ0 t p d k q db σ τ) : Rx X c0 m_Mod_over 0 [.ref (c0 + 16), .int (bi g)] [] σ τ (fun r σ' τ' => r = none ∧ if p < t.length then (if g = true then RS σ0 τ0 t (p + 1) d k q db σ' τ' else RQ σ0 τ0 t 3 p d.length σ' τ') else RQ σ0 τ0 t 2 t.length d.length σ' τ') := by
  refine (rx_over X c0 σ τ g).mono ?_
  rintro r σ' τ' ⟨rfl, rfl, rfl⟩
  refine ⟨rfl, ?_⟩
  have h16 := h.2.1.1
  have h17 := h.1.2.2.2.2.2
  have hl := h.tl
  have hp := h.2.1.2
  rw [rover, h16, h17]
  by_cases hlt : p < t.length
  · have hne : ¬ nI p = nI t.length := by rw [nI_eq (by omega) (by omega)]; omega
    rw [if_pos hlt]
    cases g
    · rw [if_neg hne, if_neg Bool.false_ne_true]
      exact h.fail (c := 3) (by decide) (by decide)
    · rw [if_neg hne, if_pos rfl, nI_1]
      exact h.at1 hlt
  · rw [if_neg hlt, if_pos (by rw [show p = t.length by omega])]
    exact h.fail (c := 2) (by decide) (by decide)
theorem rs_begin (b : Nat) (h : RS σ0 τ0 t p d k q db σ τ) : Rx X c0 m_Mod_begin 0 [.ref (c0 + 16), .int (nI b)] [] σ τ (fun r σ' τ' => r = none ∧ RS σ0 τ0 t p [] b 0 0 σ' τ') := by
  obtain ⟨h1, h2, h3, -⟩ := h
  refine (rx_begin X c0 σ τ (nI b)).mono ?_
  rintro r σ' τ' ⟨rfl, rfl, rfl⟩
  exact ⟨rfl, (((h1.upd (by omega)).upd (by omega)).upd (by omega)).upd (by omega), ⟨h2.1, h2.2⟩, h3, ⟨rfl, fun j hj => absurd hj (Nat.not_lt_zero _)⟩, rfl, rfl, rfl⟩
end RSR
end
