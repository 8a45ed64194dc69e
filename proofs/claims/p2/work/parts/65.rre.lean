/-! The reference reads a tag. (rows laid by wip/whole/rr5.py) -/
section TG
variable {t : List Nat} {m q run : Nat} {fs : Bool} {acc : List Nat}
theorem tg_e (hm : q + m = t.length) (hg : (isL (hb t q) || (isD (hb t q) && !fs)) = false) (hd : (decide (hb t q = 45) && decide (0 < run)) = false) (hr : 0 < run) : sT t m q run fs acc = (true, q, acc) := by
  cases m with
  | zero => rw [sT, if_neg (by omega), show t.length = q by omega]
  | succ m => rw [sT, if_pos (by rw [hg, hd]; simp [hr])]
theorem tg_f (hm : q + m = t.length) (hg : (isL (hb t q) || (isD (hb t q) && !fs)) = false) (hd : (decide (hb t q = 45) && decide (0 < run)) = false) (hr : run = 0) : sT t m q run fs acc = (false, q, acc) := by
  cases m with
  | zero => rw [sT, if_pos hr, show t.length = q by omega]
  | succ m =>
    rw [sT, if_neg (by rw [hr]; simp)]
    split
    · rfl
    · rw [if_pos (by rw [hg, hd]; rfl)]
theorem tg_x (hm : q + m = t.length) (hlt : q < t.length) (hgd : (isL (hb t q) || (isD (hb t q) && !fs)) = true ∨ (decide (hb t q = 45) && decide (0 < run)) = true) (hx : (decide (acc.length = 20) || ((isL (hb t q) || (isD (hb t q) && !fs)) && decide (run = 8))) = true) : sT t m q run fs acc = (false, q, acc) := by
  obtain ⟨m1, rfl⟩ : ∃ m1, m = m1 + 1 := ⟨m - 1, by omega⟩
  rw [sT, if_neg (by rcases hgd with h | h <;> rw [h] <;> simp), if_pos hx]
theorem tg_n {m1 : Nat} (hgd : (isL (hb t q) || (isD (hb t q) && !fs)) = true ∨ (decide (hb t q = 45) && decide (0 < run)) = true) (hx : ¬ (decide (acc.length = 20) || ((isL (hb t q) || (isD (hb t q) && !fs)) && decide (run = 8))) = true) : sT t (m1 + 1) q run fs acc = sT t m1 (q + 1) (if (decide (hb t q = 45) && decide (0 < run)) = true then 0 else run + 1) (fs && !(decide (hb t q = 45) && decide (0 < run))) (acc ++ [smlN (t.getD q 0)]) := by
  rw [sT, if_neg (by rcases hgd with h | h <;> rw [h] <;> simp), if_neg hx, if_neg (by rcases hgd with h | h <;> rw [h] <;> simp)]
theorem tg_lt (hgd : (isL (hb t q) || (isD (hb t q) && !fs)) = true ∨ (decide (hb t q = 45) && decide (0 < run)) = true) : q < t.length := by
  refine hb_in (fun e => ?_)
  rw [e] at hgd
  rcases hgd with h | h
  · simp [show isL (-1) = false by decide, show isD (-1) = false by decide] at h
  · simp at h
theorem sml_a {c : Nat} (hc : c < 256) (h1 : ¬ nI c < 65) (h2 : ¬ 90 < nI c) : nI c + 32 = nI (smlN c) := by
  have a : ¬ c < 65 := fun h => h1 ((nI_ltI (b := 65) (by omega) (by decide)).mpr h)
  have b : ¬ 90 < c := fun h => h2 ((nI_ltI (a := 90) (by decide) (by omega)).mpr h)
  rw [smlN, if_pos ⟨by omega, by omega⟩]
  exact nI_add c 32
theorem sml_b {c : Nat} (hc : c < 256) (h1 : nI c < 65 ∨ 90 < nI c) : nI c = nI (smlN c) := by
  rw [smlN, if_neg]
  rintro ⟨a, b⟩
  rcases h1 with h | h
  · exact absurd ((nI_ltI (b := 65) (by omega) (by decide)).mp h) (by omega)
  · exact absurd ((nI_ltI (a := 90) (by decide) (by omega)).mp h) (by omega)
end TG
set_option maxRecDepth 100000 in
set_option maxHeartbeats 2000000 in
theorem rr_tg_l {X : ev_X} {c0 : Nat} {σ0 : Nat → Int32} {τ0 : Nat → Nat → Int32} {t : List Nat} {D0 : List Nat} {qq db : Nat} (hD : D0.length ≤ 200) (hdb : db ≤ 1000) : ∀ (m q run : Nat) (fs : Bool) (acc : List Nat) (b5 b6 b7 : Value) (σ : Nat → Int32) (τ : Nat → Nat → Int32) (hm : q + m = t.length) (ha : acc.length ≤ 20) (hr : run ≤ 300 - m) (hS : RS σ0 τ0 t q (D0 ++ [64] ++ acc) 6 qq db σ τ), Rx X c0 m_Mod_readTag 31 [.ref (c0 + 16), .int (nI acc.length), .int (nI run), .int (bi fs), .int 1, b5, b6, b7] [] σ τ (rQ σ0 τ0 t (sT t m q run fs acc) (fun q b σ' τ' => RS σ0 τ0 t q (D0 ++ [64] ++ b) 6 qq (db + b.length) σ' τ')) := by
  intro m
  induction m using Nat.strongRecOn with
  | ind m ih =>
  intro q run fs acc b5 b6 b7 σ τ hm ha hr hS
  have hl := hS.z.tl
  refine Rx.go (fun _ => rfl) ?_
  refine Rx.go (fun _ => rfl) ?_
  show Rx X c0 m_Mod_readTag 36 [.ref (c0 + 16), .int (nI acc.length), .int (nI run), .int (bi fs), .int 1, b5, b6, b7] [] σ τ _
  refine Rx.go (fun _ => rfl) ?_
  refine Rx.callE rfl rfl rfl rfl (rz_good hS.z) ?_
  show Rx X c0 m_Mod_readTag 40 [.ref (c0 + 16), .int (nI acc.length), .int (nI run), .int (bi fs), .int 1, b5, b6, b7] [.int 1] σ τ _
  refine Rx.go (fun _ => rfl) ?_
  show Rx X c0 m_Mod_readTag 43 [.ref (c0 + 16), .int (nI acc.length), .int (nI run), .int (bi fs), .int 1, b5, b6, b7] [] σ τ _
  refine Rx.go (fun _ => rfl) ?_
  refine Rx.callE rfl rfl rfl rfl (rz_here hS.z) ?_
  show Rx X c0 m_Mod_readTag 47 [.ref (c0 + 16), .int (nI acc.length), .int (nI run), .int (bi fs), .int 1, b5, b6, b7] [.int (hb t q)] σ τ _
  refine Rx.go (fun _ => rfl) ?_
  show Rx X c0 m_Mod_readTag 49 [.ref (c0 + 16), .int (nI acc.length), .int (nI run), .int (bi fs), .int 1, .int (hb t q), b6, b7] [] σ τ _
  refine Rx.go (fun _ => rfl) ?_
  refine Rx.scallE rfl rfl rfl rfl (sx_Mod_isLetter X (hb t q)) ?_
  show Rx X c0 m_Mod_readTag 54 [.ref (c0 + 16), .int (nI acc.length), .int (nI run), .int (bi fs), .int 1, .int (hb t q), b6, b7] [.int (bi (isL (hb t q)))] σ τ _
  refine Rx.go (fun _ => rfl) ?_
  refine Rx.ite (fun c1 => ?_) (fun c1 => ?_)
  · replace c1 : (isL (hb t q)) = true := bi_net c1
    show Rx X c0 m_Mod_readTag 69 [.ref (c0 + 16), .int (nI acc.length), .int (nI run), .int (bi fs), .int 1, .int (hb t q), b6, b7] [] σ τ _
    refine Rx.go (fun _ => rfl) ?_
    refine Rx.go (fun _ => rfl) ?_
    refine Rx.go (fun _ => rfl) ?_
    show Rx X c0 m_Mod_readTag 76 [.ref (c0 + 16), .int (nI acc.length), .int (nI run), .int (bi fs), .int 1, .int (hb t q), .int 1, b7] [] σ τ _
    refine Rx.go (fun _ => rfl) ?_
    refine Rx.go (fun _ => rfl) ?_
    refine Rx.go (fun _ => rfl) ?_
    refine Rx.ite (fun c2 => ?_) (fun c2 => ?_)
    · replace c2 : ¬ (hb t q) = 45 := of_decide_eq_true c2
      show Rx X c0 m_Mod_readTag 91 [.ref (c0 + 16), .int (nI acc.length), .int (nI run), .int (bi fs), .int 1, .int (hb t q), .int 1, b7] [] σ τ _
      refine Rx.go (fun _ => rfl) ?_
      refine Rx.go (fun _ => rfl) ?_
      show Rx X c0 m_Mod_readTag 94 [.ref (c0 + 16), .int (nI acc.length), .int (nI run), .int (bi fs), .int 1, .int (hb t q), .int 1, .int 0] [] σ τ _
      have hg : (isL (hb t q) || (isD (hb t q) && !fs)) = true := by simp [c1]
      have hd : (decide (hb t q = 45) && decide (0 < run)) = false := by simp [c2]
      have hgd : (isL (hb t q) || (isD (hb t q) && !fs)) = true ∨ (decide (hb t q = 45) && decide (0 < run)) = true := Or.inl hg
      have hlt := tg_lt hgd
      refine Rx.go (fun _ => rfl) ?_
      refine Rx.go (fun _ => rfl) ?_
      show Rx X c0 m_Mod_readTag 119 [.ref (c0 + 16), .int (nI acc.length), .int (nI run), .int (bi fs), .int 1, .int (hb t q), .int 1, .int 0] [] σ τ _
      refine Rx.go (fun _ => rfl) ?_
      refine Rx.go (fun _ => rfl) ?_
      refine Rx.go (fun _ => rfl) ?_
      refine Rx.ite (fun c3 => ?_) (fun c3 => ?_)
      · replace c3 : (nI acc.length) = 20 := of_decide_eq_true c3
        have d20 : acc.length = 20 := (nI_eq (b := 20) (by omega) (by decide)).mp c3
        show Rx X c0 m_Mod_readTag 136 [.ref (c0 + 16), .int (nI acc.length), .int (nI run), .int (bi fs), .int 1, .int (hb t q), .int 1, .int 0] [] σ τ _
        refine Rx.go (fun _ => rfl) ?_
        refine Rx.go (fun _ => rfl) ?_
        refine Rx.go (fun _ => rfl) ?_
        refine Rx.get rfl rfl ?_
        refine Rx.top (y := nI q) hS.f16 ?_
        refine Rx.callP rfl rfl rfl rfl (rs_fl (wn := q) hS (by decide) rfl) ?_
        intro σ17 τ17 hS17
        show Rx X c0 m_Mod_readTag 145 [.ref (c0 + 16), .int (nI acc.length), .int (nI run), .int (bi fs), .int 1, .int (hb t q), .int 1, .int 0] [] σ17 τ17 _
        refine Rx.go (fun _ => rfl) ?_
        refine Rx.go (fun _ => rfl) ?_
        refine Rx.go (fun _ => rfl) ?_
        refine Rx.go (fun _ => rfl) ?_
        refine Rx.ite (fun c4 => ?_) (fun c4 => ?_)
        · replace c4 : (hb t q) < 65 := of_decide_eq_true c4
          show Rx X c0 m_Mod_readTag 168 [.ref (c0 + 16), .int (nI acc.length), .int (nI run), .int (bi fs), .int 1, .int (hb t q), .int 1, .int 0] [.ref (c0 + 16)] σ17 τ17 _
          refine Rx.go (fun _ => rfl) ?_
          refine Rx.callP rfl rfl rfl rfl (rg_put _ hS17 (by first | omega | (simp only [List.length_append, List.length_cons, List.length_nil]; omega))) ?_
          intro σ18 τ18 hS18
          show Rx X c0 m_Mod_readTag 173 [.ref (c0 + 16), .int (nI acc.length), .int (nI run), .int (bi fs), .int 1, .int (hb t q), .int 1, .int 0] [] σ18 τ18 _
          refine Rx.go (fun _ => rfl) ?_
          show Rx X c0 m_Mod_readTag 176 [.ref (c0 + 16), .int ((nI acc.length) + 1), .int (nI run), .int (bi fs), .int 1, .int (hb t q), .int 1, .int 0] [] σ18 τ18 _
          refine Rx.go (fun _ => rfl) ?_
          refine Rx.go (fun _ => rfl) ?_
          refine Rx.get rfl rfl ?_
          refine Rx.go (fun _ => rfl) ?_
          refine Rx.go (fun _ => rfl) ?_
          refine Rx.put rfl (by decide) rfl rfl ?_
          have hS19 := hS18.at1
          refine Rx.go (fun _ => rfl) ?_
          refine Rx.go (fun _ => rfl) ?_
          show Rx X c0 m_Mod_readTag 191 [.ref (c0 + 16), .int ((nI acc.length) + 1), .int (nI run), .int (bi fs), .int 1, .int (hb t q), .int 1, .int 0] [] (upd σ18 16 ((σ18 16) + 1)) τ18 _
          refine Rx.go (fun _ => rfl) ?_
          refine Rx.go (fun _ => rfl) ?_
          refine Rx.go (fun _ => rfl) ?_
          refine Rx.go (fun _ => rfl) ?_
          refine Rx.go (fun _ => rfl) ?_
          show Rx X c0 m_Mod_readTag 199 [.ref (c0 + 16), .int ((nI acc.length) + 1), .int ((nI run) + 1), .int (bi fs), .int 1, .int (hb t q), .int 1, .int 0] [] (upd σ18 16 ((σ18 16) + 1)) τ18 _
          refine Rx.go (fun _ => rfl) ?_
          refine Rx.go (fun _ => rfl) ?_
          refine Rx.ite (fun c5 => ?_) (fun c5 => ?_)
          · replace c5 : fs = false := bi_eqt c5
            show Rx X c0 m_Mod_readTag 212 [.ref (c0 + 16), .int ((nI acc.length) + 1), .int ((nI run) + 1), .int (bi fs), .int 1, .int (hb t q), .int 1, .int 0] [] (upd σ18 16 ((σ18 16) + 1)) τ18 _
            refine Rx.go (fun _ => rfl) ?_
            refine Rx.go (fun _ => rfl) ?_
            show Rx X c0 m_Mod_readTag 214 [.ref (c0 + 16), .int ((nI acc.length) + 1), .int ((nI run) + 1), .int 0, .int 1, .int (hb t q), .int 1, .int 0] [] (upd σ18 16 ((σ18 16) + 1)) τ18 _
            refine Rx.go (fun _ => rfl) ?_
            refine Rx.go (fun _ => rfl) ?_
            refine Rx.go (fun _ => rfl) ?_
            show Rx X c0 m_Mod_readTag 36 [.ref (c0 + 16), .int ((nI acc.length) + 1), .int ((nI run) + 1), .int 0, .int 1, .int (hb t q), .int 1, .int 0] [] (upd σ18 16 ((σ18 16) + 1)) τ18 _
            refine Rx.go (fun _ => rfl) ?_
            refine Rx.callE rfl rfl rfl rfl (rg_good hS19) ?_
            show Rx X c0 m_Mod_readTag 40 [.ref (c0 + 16), .int ((nI acc.length) + 1), .int ((nI run) + 1), .int 0, .int 1, .int (hb t q), .int 1, .int 0] [.int 0] (upd σ18 16 ((σ18 16) + 1)) τ18 _
            refine Rx.go (fun _ => rfl) ?_
            show Rx X c0 m_Mod_readTag 217 [.ref (c0 + 16), .int ((nI acc.length) + 1), .int ((nI run) + 1), .int 0, .int 1, .int (hb t q), .int 1, .int 0] [] (upd σ18 16 ((σ18 16) + 1)) τ18 _
            refine Rx.go (fun _ => rfl) ?_
            refine Rx.go (fun _ => rfl) ?_
            refine Rx.get rfl rfl ?_
            refine Rx.go (fun _ => rfl) ?_
            refine Rx.go (fun _ => rfl) ?_
            refine Rx.put rfl (by decide) rfl rfl ?_
            have hS20 := hS19.up (i := 13) (x := ((upd σ18 16 ((σ18 16) + 1)) 13) + ((nI acc.length) + 1)) (by omega)
            exact Rx.ret rfl rfl (rQ_f (b := acc) (tg_x hm hlt hgd (by rw [decide_eq_true d20]; rfl)) hS20 (by first | omega | (simp only [List.length_append, List.length_cons, List.length_nil]; omega)) (by omega))
          · replace c5 : fs = true := bi_eqf c5
            show Rx X c0 m_Mod_readTag 203 [.ref (c0 + 16), .int ((nI acc.length) + 1), .int ((nI run) + 1), .int (bi fs), .int 1, .int (hb t q), .int 1, .int 0] [] (upd σ18 16 ((σ18 16) + 1)) τ18 _
            refine Rx.go (fun _ => rfl) ?_
            refine Rx.go (fun _ => rfl) ?_
            show Rx X c0 m_Mod_readTag 208 [.ref (c0 + 16), .int ((nI acc.length) + 1), .int ((nI run) + 1), .int (bi fs), .int 1, .int (hb t q), .int 1, .int 0] [] (upd σ18 16 ((σ18 16) + 1)) τ18 _
            refine Rx.go (fun _ => rfl) ?_
            refine Rx.go (fun _ => rfl) ?_
            refine Rx.go (fun _ => rfl) ?_
            show Rx X c0 m_Mod_readTag 214 [.ref (c0 + 16), .int ((nI acc.length) + 1), .int ((nI run) + 1), .int 1, .int 1, .int (hb t q), .int 1, .int 0] [] (upd σ18 16 ((σ18 16) + 1)) τ18 _
            refine Rx.go (fun _ => rfl) ?_
            refine Rx.go (fun _ => rfl) ?_
            refine Rx.go (fun _ => rfl) ?_
            show Rx X c0 m_Mod_readTag 36 [.ref (c0 + 16), .int ((nI acc.length) + 1), .int ((nI run) + 1), .int 1, .int 1, .int (hb t q), .int 1, .int 0] [] (upd σ18 16 ((σ18 16) + 1)) τ18 _
            refine Rx.go (fun _ => rfl) ?_
            refine Rx.callE rfl rfl rfl rfl (rg_good hS19) ?_
            show Rx X c0 m_Mod_readTag 40 [.ref (c0 + 16), .int ((nI acc.length) + 1), .int ((nI run) + 1), .int 1, .int 1, .int (hb t q), .int 1, .int 0] [.int 0] (upd σ18 16 ((σ18 16) + 1)) τ18 _
            refine Rx.go (fun _ => rfl) ?_
            show Rx X c0 m_Mod_readTag 217 [.ref (c0 + 16), .int ((nI acc.length) + 1), .int ((nI run) + 1), .int 1, .int 1, .int (hb t q), .int 1, .int 0] [] (upd σ18 16 ((σ18 16) + 1)) τ18 _
            refine Rx.go (fun _ => rfl) ?_
            refine Rx.go (fun _ => rfl) ?_
            refine Rx.get rfl rfl ?_
            refine Rx.go (fun _ => rfl) ?_
            refine Rx.go (fun _ => rfl) ?_
            refine Rx.put rfl (by decide) rfl rfl ?_
            have hS21 := hS19.up (i := 13) (x := ((upd σ18 16 ((σ18 16) + 1)) 13) + ((nI acc.length) + 1)) (by omega)
            exact Rx.ret rfl rfl (rQ_f (b := acc) (tg_x hm hlt hgd (by rw [decide_eq_true d20]; rfl)) hS21 (by first | omega | (simp only [List.length_append, List.length_cons, List.length_nil]; omega)) (by omega))
        · replace c4 : ¬ (hb t q) < 65 := of_decide_eq_false c4
          show Rx X c0 m_Mod_readTag 153 [.ref (c0 + 16), .int (nI acc.length), .int (nI run), .int (bi fs), .int 1, .int (hb t q), .int 1, .int 0] [.ref (c0 + 16)] σ17 τ17 _
          refine Rx.go (fun _ => rfl) ?_
          refine Rx.go (fun _ => rfl) ?_
          refine Rx.go (fun _ => rfl) ?_
          refine Rx.ite (fun c6 => ?_) (fun c6 => ?_)
          · replace c6 : 90 < (hb t q) := of_decide_eq_true c6
            show Rx X c0 m_Mod_readTag 168 [.ref (c0 + 16), .int (nI acc.length), .int (nI run), .int (bi fs), .int 1, .int (hb t q), .int 1, .int 0] [.ref (c0 + 16)] σ17 τ17 _
            refine Rx.go (fun _ => rfl) ?_
            refine Rx.callP rfl rfl rfl rfl (rg_put _ hS17 (by first | omega | (simp only [List.length_append, List.length_cons, List.length_nil]; omega))) ?_
            intro σ22 τ22 hS22
            show Rx X c0 m_Mod_readTag 173 [.ref (c0 + 16), .int (nI acc.length), .int (nI run), .int (bi fs), .int 1, .int (hb t q), .int 1, .int 0] [] σ22 τ22 _
            refine Rx.go (fun _ => rfl) ?_
            show Rx X c0 m_Mod_readTag 176 [.ref (c0 + 16), .int ((nI acc.length) + 1), .int (nI run), .int (bi fs), .int 1, .int (hb t q), .int 1, .int 0] [] σ22 τ22 _
            refine Rx.go (fun _ => rfl) ?_
            refine Rx.go (fun _ => rfl) ?_
            refine Rx.get rfl rfl ?_
            refine Rx.go (fun _ => rfl) ?_
            refine Rx.go (fun _ => rfl) ?_
            refine Rx.put rfl (by decide) rfl rfl ?_
            have hS23 := hS22.at1
            refine Rx.go (fun _ => rfl) ?_
            refine Rx.go (fun _ => rfl) ?_
            show Rx X c0 m_Mod_readTag 191 [.ref (c0 + 16), .int ((nI acc.length) + 1), .int (nI run), .int (bi fs), .int 1, .int (hb t q), .int 1, .int 0] [] (upd σ22 16 ((σ22 16) + 1)) τ22 _
            refine Rx.go (fun _ => rfl) ?_
            refine Rx.go (fun _ => rfl) ?_
            refine Rx.go (fun _ => rfl) ?_
            refine Rx.go (fun _ => rfl) ?_
            refine Rx.go (fun _ => rfl) ?_
            show Rx X c0 m_Mod_readTag 199 [.ref (c0 + 16), .int ((nI acc.length) + 1), .int ((nI run) + 1), .int (bi fs), .int 1, .int (hb t q), .int 1, .int 0] [] (upd σ22 16 ((σ22 16) + 1)) τ22 _
            refine Rx.go (fun _ => rfl) ?_
            refine Rx.go (fun _ => rfl) ?_
            refine Rx.ite (fun c7 => ?_) (fun c7 => ?_)
            · replace c7 : fs = false := bi_eqt c7
              show Rx X c0 m_Mod_readTag 212 [.ref (c0 + 16), .int ((nI acc.length) + 1), .int ((nI run) + 1), .int (bi fs), .int 1, .int (hb t q), .int 1, .int 0] [] (upd σ22 16 ((σ22 16) + 1)) τ22 _
              refine Rx.go (fun _ => rfl) ?_
              refine Rx.go (fun _ => rfl) ?_
              show Rx X c0 m_Mod_readTag 214 [.ref (c0 + 16), .int ((nI acc.length) + 1), .int ((nI run) + 1), .int 0, .int 1, .int (hb t q), .int 1, .int 0] [] (upd σ22 16 ((σ22 16) + 1)) τ22 _
              refine Rx.go (fun _ => rfl) ?_
              refine Rx.go (fun _ => rfl) ?_
              refine Rx.go (fun _ => rfl) ?_
              show Rx X c0 m_Mod_readTag 36 [.ref (c0 + 16), .int ((nI acc.length) + 1), .int ((nI run) + 1), .int 0, .int 1, .int (hb t q), .int 1, .int 0] [] (upd σ22 16 ((σ22 16) + 1)) τ22 _
              refine Rx.go (fun _ => rfl) ?_
              refine Rx.callE rfl rfl rfl rfl (rg_good hS23) ?_
              show Rx X c0 m_Mod_readTag 40 [.ref (c0 + 16), .int ((nI acc.length) + 1), .int ((nI run) + 1), .int 0, .int 1, .int (hb t q), .int 1, .int 0] [.int 0] (upd σ22 16 ((σ22 16) + 1)) τ22 _
              refine Rx.go (fun _ => rfl) ?_
              show Rx X c0 m_Mod_readTag 217 [.ref (c0 + 16), .int ((nI acc.length) + 1), .int ((nI run) + 1), .int 0, .int 1, .int (hb t q), .int 1, .int 0] [] (upd σ22 16 ((σ22 16) + 1)) τ22 _
              refine Rx.go (fun _ => rfl) ?_
              refine Rx.go (fun _ => rfl) ?_
              refine Rx.get rfl rfl ?_
              refine Rx.go (fun _ => rfl) ?_
              refine Rx.go (fun _ => rfl) ?_
              refine Rx.put rfl (by decide) rfl rfl ?_
              have hS24 := hS23.up (i := 13) (x := ((upd σ22 16 ((σ22 16) + 1)) 13) + ((nI acc.length) + 1)) (by omega)
              exact Rx.ret rfl rfl (rQ_f (b := acc) (tg_x hm hlt hgd (by rw [decide_eq_true d20]; rfl)) hS24 (by first | omega | (simp only [List.length_append, List.length_cons, List.length_nil]; omega)) (by omega))
            · replace c7 : fs = true := bi_eqf c7
              show Rx X c0 m_Mod_readTag 203 [.ref (c0 + 16), .int ((nI acc.length) + 1), .int ((nI run) + 1), .int (bi fs), .int 1, .int (hb t q), .int 1, .int 0] [] (upd σ22 16 ((σ22 16) + 1)) τ22 _
              refine Rx.go (fun _ => rfl) ?_
              refine Rx.go (fun _ => rfl) ?_
              show Rx X c0 m_Mod_readTag 208 [.ref (c0 + 16), .int ((nI acc.length) + 1), .int ((nI run) + 1), .int (bi fs), .int 1, .int (hb t q), .int 1, .int 0] [] (upd σ22 16 ((σ22 16) + 1)) τ22 _
              refine Rx.go (fun _ => rfl) ?_
              refine Rx.go (fun _ => rfl) ?_
              refine Rx.go (fun _ => rfl) ?_
              show Rx X c0 m_Mod_readTag 214 [.ref (c0 + 16), .int ((nI acc.length) + 1), .int ((nI run) + 1), .int 1, .int 1, .int (hb t q), .int 1, .int 0] [] (upd σ22 16 ((σ22 16) + 1)) τ22 _
              refine Rx.go (fun _ => rfl) ?_
              refine Rx.go (fun _ => rfl) ?_
              refine Rx.go (fun _ => rfl) ?_
              show Rx X c0 m_Mod_readTag 36 [.ref (c0 + 16), .int ((nI acc.length) + 1), .int ((nI run) + 1), .int 1, .int 1, .int (hb t q), .int 1, .int 0] [] (upd σ22 16 ((σ22 16) + 1)) τ22 _
              refine Rx.go (fun _ => rfl) ?_
              refine Rx.callE rfl rfl rfl rfl (rg_good hS23) ?_
              show Rx X c0 m_Mod_readTag 40 [.ref (c0 + 16), .int ((nI acc.length) + 1), .int ((nI run) + 1), .int 1, .int 1, .int (hb t q), .int 1, .int 0] [.int 0] (upd σ22 16 ((σ22 16) + 1)) τ22 _
              refine Rx.go (fun _ => rfl) ?_
              show Rx X c0 m_Mod_readTag 217 [.ref (c0 + 16), .int ((nI acc.length) + 1), .int ((nI run) + 1), .int 1, .int 1, .int (hb t q), .int 1, .int 0] [] (upd σ22 16 ((σ22 16) + 1)) τ22 _
              refine Rx.go (fun _ => rfl) ?_
              refine Rx.go (fun _ => rfl) ?_
              refine Rx.get rfl rfl ?_
              refine Rx.go (fun _ => rfl) ?_
              refine Rx.go (fun _ => rfl) ?_
              refine Rx.put rfl (by decide) rfl rfl ?_
              have hS25 := hS23.up (i := 13) (x := ((upd σ22 16 ((σ22 16) + 1)) 13) + ((nI acc.length) + 1)) (by omega)
              exact Rx.ret rfl rfl (rQ_f (b := acc) (tg_x hm hlt hgd (by rw [decide_eq_true d20]; rfl)) hS25 (by first | omega | (simp only [List.length_append, List.length_cons, List.length_nil]; omega)) (by omega))
          · replace c6 : ¬ 90 < (hb t q) := of_decide_eq_false c6
            show Rx X c0 m_Mod_readTag 160 [.ref (c0 + 16), .int (nI acc.length), .int (nI run), .int (bi fs), .int 1, .int (hb t q), .int 1, .int 0] [.ref (c0 + 16)] σ17 τ17 _
            refine Rx.go (fun _ => rfl) ?_
            refine Rx.go (fun _ => rfl) ?_
            refine Rx.go (fun _ => rfl) ?_
            refine Rx.go (fun _ => rfl) ?_
            refine Rx.callP rfl rfl rfl rfl (rg_put _ hS17 (by first | omega | (simp only [List.length_append, List.length_cons, List.length_nil]; omega))) ?_
            intro σ26 τ26 hS26
            show Rx X c0 m_Mod_readTag 173 [.ref (c0 + 16), .int (nI acc.length), .int (nI run), .int (bi fs), .int 1, .int (hb t q), .int 1, .int 0] [] σ26 τ26 _
            refine Rx.go (fun _ => rfl) ?_
            show Rx X c0 m_Mod_readTag 176 [.ref (c0 + 16), .int ((nI acc.length) + 1), .int (nI run), .int (bi fs), .int 1, .int (hb t q), .int 1, .int 0] [] σ26 τ26 _
            refine Rx.go (fun _ => rfl) ?_
            refine Rx.go (fun _ => rfl) ?_
            refine Rx.get rfl rfl ?_
            refine Rx.go (fun _ => rfl) ?_
            refine Rx.go (fun _ => rfl) ?_
            refine Rx.put rfl (by decide) rfl rfl ?_
            have hS27 := hS26.at1
            refine Rx.go (fun _ => rfl) ?_
            refine Rx.go (fun _ => rfl) ?_
            show Rx X c0 m_Mod_readTag 191 [.ref (c0 + 16), .int ((nI acc.length) + 1), .int (nI run), .int (bi fs), .int 1, .int (hb t q), .int 1, .int 0] [] (upd σ26 16 ((σ26 16) + 1)) τ26 _
            refine Rx.go (fun _ => rfl) ?_
            refine Rx.go (fun _ => rfl) ?_
            refine Rx.go (fun _ => rfl) ?_
            refine Rx.go (fun _ => rfl) ?_
            refine Rx.go (fun _ => rfl) ?_
            show Rx X c0 m_Mod_readTag 199 [.ref (c0 + 16), .int ((nI acc.length) + 1), .int ((nI run) + 1), .int (bi fs), .int 1, .int (hb t q), .int 1, .int 0] [] (upd σ26 16 ((σ26 16) + 1)) τ26 _
            refine Rx.go (fun _ => rfl) ?_
            refine Rx.go (fun _ => rfl) ?_
            refine Rx.ite (fun c8 => ?_) (fun c8 => ?_)
            · replace c8 : fs = false := bi_eqt c8
              show Rx X c0 m_Mod_readTag 212 [.ref (c0 + 16), .int ((nI acc.length) + 1), .int ((nI run) + 1), .int (bi fs), .int 1, .int (hb t q), .int 1, .int 0] [] (upd σ26 16 ((σ26 16) + 1)) τ26 _
              refine Rx.go (fun _ => rfl) ?_
              refine Rx.go (fun _ => rfl) ?_
              show Rx X c0 m_Mod_readTag 214 [.ref (c0 + 16), .int ((nI acc.length) + 1), .int ((nI run) + 1), .int 0, .int 1, .int (hb t q), .int 1, .int 0] [] (upd σ26 16 ((σ26 16) + 1)) τ26 _
              refine Rx.go (fun _ => rfl) ?_
              refine Rx.go (fun _ => rfl) ?_
              refine Rx.go (fun _ => rfl) ?_
              show Rx X c0 m_Mod_readTag 36 [.ref (c0 + 16), .int ((nI acc.length) + 1), .int ((nI run) + 1), .int 0, .int 1, .int (hb t q), .int 1, .int 0] [] (upd σ26 16 ((σ26 16) + 1)) τ26 _
              refine Rx.go (fun _ => rfl) ?_
              refine Rx.callE rfl rfl rfl rfl (rg_good hS27) ?_
              show Rx X c0 m_Mod_readTag 40 [.ref (c0 + 16), .int ((nI acc.length) + 1), .int ((nI run) + 1), .int 0, .int 1, .int (hb t q), .int 1, .int 0] [.int 0] (upd σ26 16 ((σ26 16) + 1)) τ26 _
              refine Rx.go (fun _ => rfl) ?_
              show Rx X c0 m_Mod_readTag 217 [.ref (c0 + 16), .int ((nI acc.length) + 1), .int ((nI run) + 1), .int 0, .int 1, .int (hb t q), .int 1, .int 0] [] (upd σ26 16 ((σ26 16) + 1)) τ26 _
              refine Rx.go (fun _ => rfl) ?_
              refine Rx.go (fun _ => rfl) ?_
              refine Rx.get rfl rfl ?_
              refine Rx.go (fun _ => rfl) ?_
              refine Rx.go (fun _ => rfl) ?_
              refine Rx.put rfl (by decide) rfl rfl ?_
              have hS28 := hS27.up (i := 13) (x := ((upd σ26 16 ((σ26 16) + 1)) 13) + ((nI acc.length) + 1)) (by omega)
              exact Rx.ret rfl rfl (rQ_f (b := acc) (tg_x hm hlt hgd (by rw [decide_eq_true d20]; rfl)) hS28 (by first | omega | (simp only [List.length_append, List.length_cons, List.length_nil]; omega)) (by omega))
            · replace c8 : fs = true := bi_eqf c8
              show Rx X c0 m_Mod_readTag 203 [.ref (c0 + 16), .int ((nI acc.length) + 1), .int ((nI run) + 1), .int (bi fs), .int 1, .int (hb t q), .int 1, .int 0] [] (upd σ26 16 ((σ26 16) + 1)) τ26 _
              refine Rx.go (fun _ => rfl) ?_
              refine Rx.go (fun _ => rfl) ?_
              show Rx X c0 m_Mod_readTag 208 [.ref (c0 + 16), .int ((nI acc.length) + 1), .int ((nI run) + 1), .int (bi fs), .int 1, .int (hb t q), .int 1, .int 0] [] (upd σ26 16 ((σ26 16) + 1)) τ26 _
              refine Rx.go (fun _ => rfl) ?_
              refine Rx.go (fun _ => rfl) ?_
              refine Rx.go (fun _ => rfl) ?_
              show Rx X c0 m_Mod_readTag 214 [.ref (c0 + 16), .int ((nI acc.length) + 1), .int ((nI run) + 1), .int 1, .int 1, .int (hb t q), .int 1, .int 0] [] (upd σ26 16 ((σ26 16) + 1)) τ26 _
              refine Rx.go (fun _ => rfl) ?_
              refine Rx.go (fun _ => rfl) ?_
              refine Rx.go (fun _ => rfl) ?_
              show Rx X c0 m_Mod_readTag 36 [.ref (c0 + 16), .int ((nI acc.length) + 1), .int ((nI run) + 1), .int 1, .int 1, .int (hb t q), .int 1, .int 0] [] (upd σ26 16 ((σ26 16) + 1)) τ26 _
              refine Rx.go (fun _ => rfl) ?_
              refine Rx.callE rfl rfl rfl rfl (rg_good hS27) ?_
              show Rx X c0 m_Mod_readTag 40 [.ref (c0 + 16), .int ((nI acc.length) + 1), .int ((nI run) + 1), .int 1, .int 1, .int (hb t q), .int 1, .int 0] [.int 0] (upd σ26 16 ((σ26 16) + 1)) τ26 _
              refine Rx.go (fun _ => rfl) ?_
              show Rx X c0 m_Mod_readTag 217 [.ref (c0 + 16), .int ((nI acc.length) + 1), .int ((nI run) + 1), .int 1, .int 1, .int (hb t q), .int 1, .int 0] [] (upd σ26 16 ((σ26 16) + 1)) τ26 _
              refine Rx.go (fun _ => rfl) ?_
              refine Rx.go (fun _ => rfl) ?_
              refine Rx.get rfl rfl ?_
              refine Rx.go (fun _ => rfl) ?_
              refine Rx.go (fun _ => rfl) ?_
              refine Rx.put rfl (by decide) rfl rfl ?_
              have hS29 := hS27.up (i := 13) (x := ((upd σ26 16 ((σ26 16) + 1)) 13) + ((nI acc.length) + 1)) (by omega)
              exact Rx.ret rfl rfl (rQ_f (b := acc) (tg_x hm hlt hgd (by rw [decide_eq_true d20]; rfl)) hS29 (by first | omega | (simp only [List.length_append, List.length_cons, List.length_nil]; omega)) (by omega))
      · replace c3 : ¬ (nI acc.length) = 20 := of_decide_eq_false c3
        have d20 : ¬ acc.length = 20 := fun e => c3 (by rw [e]; rfl)
        show Rx X c0 m_Mod_readTag 125 [.ref (c0 + 16), .int (nI acc.length), .int (nI run), .int (bi fs), .int 1, .int (hb t q), .int 1, .int 0] [] σ τ _
        refine Rx.go (fun _ => rfl) ?_
        refine Rx.go (fun _ => rfl) ?_
        show Rx X c0 m_Mod_readTag 130 [.ref (c0 + 16), .int (nI acc.length), .int (nI run), .int (bi fs), .int 1, .int (hb t q), .int 1, .int 0] [] σ τ _
        refine Rx.go (fun _ => rfl) ?_
        refine Rx.go (fun _ => rfl) ?_
        refine Rx.go (fun _ => rfl) ?_
        refine Rx.ite (fun c9 => ?_) (fun c9 => ?_)
        · replace c9 : ¬ (nI run) = 8 := of_decide_eq_true c9
          have d8 : ¬ run = 8 := fun e => c9 (by rw [e]; rfl)
          show Rx X c0 m_Mod_readTag 145 [.ref (c0 + 16), .int (nI acc.length), .int (nI run), .int (bi fs), .int 1, .int (hb t q), .int 1, .int 0] [] σ τ _
          refine Rx.go (fun _ => rfl) ?_
          refine Rx.go (fun _ => rfl) ?_
          refine Rx.go (fun _ => rfl) ?_
          refine Rx.go (fun _ => rfl) ?_
          refine Rx.ite (fun c10 => ?_) (fun c10 => ?_)
          · replace c10 : (hb t q) < 65 := of_decide_eq_true c10
            show Rx X c0 m_Mod_readTag 168 [.ref (c0 + 16), .int (nI acc.length), .int (nI run), .int (bi fs), .int 1, .int (hb t q), .int 1, .int 0] [.ref (c0 + 16)] σ τ _
            refine Rx.go (fun _ => rfl) ?_
            refine Rx.top (y := nI (smlN (t.getD q 0))) (by rw [hb_lt hlt]; exact sml_b (hS.z.by q) (Or.inl (by rw [← hb_lt hlt]; exact c10))) ?_
            refine Rx.callP rfl rfl rfl rfl (rs_put (smlN (t.getD q 0)) hS (by first | omega | (simp only [List.length_append, List.length_cons, List.length_nil]; omega))) ?_
            intro σ30 τ30 hS30
            show Rx X c0 m_Mod_readTag 173 [.ref (c0 + 16), .int (nI acc.length), .int (nI run), .int (bi fs), .int 1, .int (hb t q), .int 1, .int 0] [] σ30 τ30 _
            refine Rx.go (fun _ => rfl) ?_
            show Rx X c0 m_Mod_readTag 176 [.ref (c0 + 16), .int ((nI acc.length) + 1), .int (nI run), .int (bi fs), .int 1, .int (hb t q), .int 1, .int 0] [] σ30 τ30 _
            refine Rx.go (fun _ => rfl) ?_
            refine Rx.go (fun _ => rfl) ?_
            refine Rx.get rfl rfl ?_
            refine Rx.top (y := nI q) hS30.f16 ?_
            refine Rx.go (fun _ => rfl) ?_
            refine Rx.go (fun _ => rfl) ?_
            refine Rx.top (y := nI (q + 1)) (nI_1 _) ?_
            refine Rx.put rfl (by decide) rfl rfl ?_
            have hS31 := hS30.at1 hlt
            refine Rx.go (fun _ => rfl) ?_
            refine Rx.go (fun _ => rfl) ?_
            show Rx X c0 m_Mod_readTag 191 [.ref (c0 + 16), .int ((nI acc.length) + 1), .int (nI run), .int (bi fs), .int 1, .int (hb t q), .int 1, .int 0] [] (upd σ30 16 (nI (q + 1))) τ30 _
            refine Rx.go (fun _ => rfl) ?_
            refine Rx.go (fun _ => rfl) ?_
            refine Rx.go (fun _ => rfl) ?_
            refine Rx.go (fun _ => rfl) ?_
            refine Rx.go (fun _ => rfl) ?_
            show Rx X c0 m_Mod_readTag 199 [.ref (c0 + 16), .int ((nI acc.length) + 1), .int ((nI run) + 1), .int (bi fs), .int 1, .int (hb t q), .int 1, .int 0] [] (upd σ30 16 (nI (q + 1))) τ30 _
            refine Rx.go (fun _ => rfl) ?_
            refine Rx.go (fun _ => rfl) ?_
            refine Rx.ite (fun c11 => ?_) (fun c11 => ?_)
            · replace c11 : fs = false := bi_eqt c11
              show Rx X c0 m_Mod_readTag 212 [.ref (c0 + 16), .int ((nI acc.length) + 1), .int ((nI run) + 1), .int (bi fs), .int 1, .int (hb t q), .int 1, .int 0] [] (upd σ30 16 (nI (q + 1))) τ30 _
              refine Rx.go (fun _ => rfl) ?_
              refine Rx.go (fun _ => rfl) ?_
              show Rx X c0 m_Mod_readTag 214 [.ref (c0 + 16), .int ((nI acc.length) + 1), .int ((nI run) + 1), .int 0, .int 1, .int (hb t q), .int 1, .int 0] [] (upd σ30 16 (nI (q + 1))) τ30 _
              refine Rx.go (fun _ => rfl) ?_
              show Rx X c0 m_Mod_readTag 31 [.ref (c0 + 16), .int ((nI acc.length) + 1), .int ((nI run) + 1), .int 0, .int 1, .int (hb t q), .int 1, .int 0] [] (upd σ30 16 (nI (q + 1))) τ30 _
              rw [show nI run + 1 = nI (run + 1) from nI_1 run]
              obtain ⟨m1, rfl⟩ : ∃ m1, m = m1 + 1 := ⟨m - 1, by omega⟩
              have e1 : sT t (m1 + 1) q run fs acc = sT t m1 (q + 1) (run + 1) false (acc ++ [smlN (t.getD q 0)]) := by rw [tg_n hgd (by rw [decide_eq_false d20, decide_eq_false d8]; simp), hd]; first | rfl | simp [hg, c11]
              rw [e1, show nI acc.length + 1 = nI (acc ++ [smlN (t.getD q 0)]).length by rw [nI_1, List.length_append]; rfl]
              exact ih m1 (by omega) (q + 1) (run + 1) false (acc ++ [smlN (t.getD q 0)]) _ _ _ _ _ (by omega) (by simp only [List.length_append, List.length_cons, List.length_nil]; omega) (by omega) (by rw [← List.append_assoc]; exact hS31)
            · replace c11 : fs = true := bi_eqf c11
              show Rx X c0 m_Mod_readTag 203 [.ref (c0 + 16), .int ((nI acc.length) + 1), .int ((nI run) + 1), .int (bi fs), .int 1, .int (hb t q), .int 1, .int 0] [] (upd σ30 16 (nI (q + 1))) τ30 _
              refine Rx.go (fun _ => rfl) ?_
              refine Rx.go (fun _ => rfl) ?_
              show Rx X c0 m_Mod_readTag 208 [.ref (c0 + 16), .int ((nI acc.length) + 1), .int ((nI run) + 1), .int (bi fs), .int 1, .int (hb t q), .int 1, .int 0] [] (upd σ30 16 (nI (q + 1))) τ30 _
              refine Rx.go (fun _ => rfl) ?_
              refine Rx.go (fun _ => rfl) ?_
              refine Rx.go (fun _ => rfl) ?_
              show Rx X c0 m_Mod_readTag 214 [.ref (c0 + 16), .int ((nI acc.length) + 1), .int ((nI run) + 1), .int 1, .int 1, .int (hb t q), .int 1, .int 0] [] (upd σ30 16 (nI (q + 1))) τ30 _
              refine Rx.go (fun _ => rfl) ?_
              show Rx X c0 m_Mod_readTag 31 [.ref (c0 + 16), .int ((nI acc.length) + 1), .int ((nI run) + 1), .int 1, .int 1, .int (hb t q), .int 1, .int 0] [] (upd σ30 16 (nI (q + 1))) τ30 _
              rw [show nI run + 1 = nI (run + 1) from nI_1 run]
              obtain ⟨m1, rfl⟩ : ∃ m1, m = m1 + 1 := ⟨m - 1, by omega⟩
              have e1 : sT t (m1 + 1) q run fs acc = sT t m1 (q + 1) (run + 1) true (acc ++ [smlN (t.getD q 0)]) := by rw [tg_n hgd (by rw [decide_eq_false d20, decide_eq_false d8]; simp), hd]; first | rfl | simp [hg, c11]
              rw [e1, show nI acc.length + 1 = nI (acc ++ [smlN (t.getD q 0)]).length by rw [nI_1, List.length_append]; rfl]
              exact ih m1 (by omega) (q + 1) (run + 1) true (acc ++ [smlN (t.getD q 0)]) _ _ _ _ _ (by omega) (by simp only [List.length_append, List.length_cons, List.length_nil]; omega) (by omega) (by rw [← List.append_assoc]; exact hS31)
          · replace c10 : ¬ (hb t q) < 65 := of_decide_eq_false c10
            show Rx X c0 m_Mod_readTag 153 [.ref (c0 + 16), .int (nI acc.length), .int (nI run), .int (bi fs), .int 1, .int (hb t q), .int 1, .int 0] [.ref (c0 + 16)] σ τ _
            refine Rx.go (fun _ => rfl) ?_
            refine Rx.go (fun _ => rfl) ?_
            refine Rx.go (fun _ => rfl) ?_
            refine Rx.ite (fun c12 => ?_) (fun c12 => ?_)
            · replace c12 : 90 < (hb t q) := of_decide_eq_true c12
              show Rx X c0 m_Mod_readTag 168 [.ref (c0 + 16), .int (nI acc.length), .int (nI run), .int (bi fs), .int 1, .int (hb t q), .int 1, .int 0] [.ref (c0 + 16)] σ τ _
              refine Rx.go (fun _ => rfl) ?_
              refine Rx.top (y := nI (smlN (t.getD q 0))) (by rw [hb_lt hlt]; exact sml_b (hS.z.by q) (Or.inr (by rw [← hb_lt hlt]; exact c12))) ?_
              refine Rx.callP rfl rfl rfl rfl (rs_put (smlN (t.getD q 0)) hS (by first | omega | (simp only [List.length_append, List.length_cons, List.length_nil]; omega))) ?_
              intro σ32 τ32 hS32
              show Rx X c0 m_Mod_readTag 173 [.ref (c0 + 16), .int (nI acc.length), .int (nI run), .int (bi fs), .int 1, .int (hb t q), .int 1, .int 0] [] σ32 τ32 _
              refine Rx.go (fun _ => rfl) ?_
              show Rx X c0 m_Mod_readTag 176 [.ref (c0 + 16), .int ((nI acc.length) + 1), .int (nI run), .int (bi fs), .int 1, .int (hb t q), .int 1, .int 0] [] σ32 τ32 _
              refine Rx.go (fun _ => rfl) ?_
              refine Rx.go (fun _ => rfl) ?_
              refine Rx.get rfl rfl ?_
              refine Rx.top (y := nI q) hS32.f16 ?_
              refine Rx.go (fun _ => rfl) ?_
              refine Rx.go (fun _ => rfl) ?_
              refine Rx.top (y := nI (q + 1)) (nI_1 _) ?_
              refine Rx.put rfl (by decide) rfl rfl ?_
              have hS33 := hS32.at1 hlt
              refine Rx.go (fun _ => rfl) ?_
              refine Rx.go (fun _ => rfl) ?_
              show Rx X c0 m_Mod_readTag 191 [.ref (c0 + 16), .int ((nI acc.length) + 1), .int (nI run), .int (bi fs), .int 1, .int (hb t q), .int 1, .int 0] [] (upd σ32 16 (nI (q + 1))) τ32 _
              refine Rx.go (fun _ => rfl) ?_
              refine Rx.go (fun _ => rfl) ?_
              refine Rx.go (fun _ => rfl) ?_
              refine Rx.go (fun _ => rfl) ?_
              refine Rx.go (fun _ => rfl) ?_
              show Rx X c0 m_Mod_readTag 199 [.ref (c0 + 16), .int ((nI acc.length) + 1), .int ((nI run) + 1), .int (bi fs), .int 1, .int (hb t q), .int 1, .int 0] [] (upd σ32 16 (nI (q + 1))) τ32 _
              refine Rx.go (fun _ => rfl) ?_
              refine Rx.go (fun _ => rfl) ?_
              refine Rx.ite (fun c13 => ?_) (fun c13 => ?_)
              · replace c13 : fs = false := bi_eqt c13
                show Rx X c0 m_Mod_readTag 212 [.ref (c0 + 16), .int ((nI acc.length) + 1), .int ((nI run) + 1), .int (bi fs), .int 1, .int (hb t q), .int 1, .int 0] [] (upd σ32 16 (nI (q + 1))) τ32 _
                refine Rx.go (fun _ => rfl) ?_
                refine Rx.go (fun _ => rfl) ?_
                show Rx X c0 m_Mod_readTag 214 [.ref (c0 + 16), .int ((nI acc.length) + 1), .int ((nI run) + 1), .int 0, .int 1, .int (hb t q), .int 1, .int 0] [] (upd σ32 16 (nI (q + 1))) τ32 _
                refine Rx.go (fun _ => rfl) ?_
                show Rx X c0 m_Mod_readTag 31 [.ref (c0 + 16), .int ((nI acc.length) + 1), .int ((nI run) + 1), .int 0, .int 1, .int (hb t q), .int 1, .int 0] [] (upd σ32 16 (nI (q + 1))) τ32 _
                rw [show nI run + 1 = nI (run + 1) from nI_1 run]
                obtain ⟨m1, rfl⟩ : ∃ m1, m = m1 + 1 := ⟨m - 1, by omega⟩
                have e1 : sT t (m1 + 1) q run fs acc = sT t m1 (q + 1) (run + 1) false (acc ++ [smlN (t.getD q 0)]) := by rw [tg_n hgd (by rw [decide_eq_false d20, decide_eq_false d8]; simp), hd]; first | rfl | simp [hg, c13]
                rw [e1, show nI acc.length + 1 = nI (acc ++ [smlN (t.getD q 0)]).length by rw [nI_1, List.length_append]; rfl]
                exact ih m1 (by omega) (q + 1) (run + 1) false (acc ++ [smlN (t.getD q 0)]) _ _ _ _ _ (by omega) (by simp only [List.length_append, List.length_cons, List.length_nil]; omega) (by omega) (by rw [← List.append_assoc]; exact hS33)
              · replace c13 : fs = true := bi_eqf c13
                show Rx X c0 m_Mod_readTag 203 [.ref (c0 + 16), .int ((nI acc.length) + 1), .int ((nI run) + 1), .int (bi fs), .int 1, .int (hb t q), .int 1, .int 0] [] (upd σ32 16 (nI (q + 1))) τ32 _
                refine Rx.go (fun _ => rfl) ?_
                refine Rx.go (fun _ => rfl) ?_
                show Rx X c0 m_Mod_readTag 208 [.ref (c0 + 16), .int ((nI acc.length) + 1), .int ((nI run) + 1), .int (bi fs), .int 1, .int (hb t q), .int 1, .int 0] [] (upd σ32 16 (nI (q + 1))) τ32 _
                refine Rx.go (fun _ => rfl) ?_
                refine Rx.go (fun _ => rfl) ?_
                refine Rx.go (fun _ => rfl) ?_
                show Rx X c0 m_Mod_readTag 214 [.ref (c0 + 16), .int ((nI acc.length) + 1), .int ((nI run) + 1), .int 1, .int 1, .int (hb t q), .int 1, .int 0] [] (upd σ32 16 (nI (q + 1))) τ32 _
                refine Rx.go (fun _ => rfl) ?_
                show Rx X c0 m_Mod_readTag 31 [.ref (c0 + 16), .int ((nI acc.length) + 1), .int ((nI run) + 1), .int 1, .int 1, .int (hb t q), .int 1, .int 0] [] (upd σ32 16 (nI (q + 1))) τ32 _
                rw [show nI run + 1 = nI (run + 1) from nI_1 run]
                obtain ⟨m1, rfl⟩ : ∃ m1, m = m1 + 1 := ⟨m - 1, by omega⟩
                have e1 : sT t (m1 + 1) q run fs acc = sT t m1 (q + 1) (run + 1) true (acc ++ [smlN (t.getD q 0)]) := by rw [tg_n hgd (by rw [decide_eq_false d20, decide_eq_false d8]; simp), hd]; first | rfl | simp [hg, c13]
                rw [e1, show nI acc.length + 1 = nI (acc ++ [smlN (t.getD q 0)]).length by rw [nI_1, List.length_append]; rfl]
                exact ih m1 (by omega) (q + 1) (run + 1) true (acc ++ [smlN (t.getD q 0)]) _ _ _ _ _ (by omega) (by simp only [List.length_append, List.length_cons, List.length_nil]; omega) (by omega) (by rw [← List.append_assoc]; exact hS33)
            · replace c12 : ¬ 90 < (hb t q) := of_decide_eq_false c12
              show Rx X c0 m_Mod_readTag 160 [.ref (c0 + 16), .int (nI acc.length), .int (nI run), .int (bi fs), .int 1, .int (hb t q), .int 1, .int 0] [.ref (c0 + 16)] σ τ _
              refine Rx.go (fun _ => rfl) ?_
              refine Rx.go (fun _ => rfl) ?_
              refine Rx.go (fun _ => rfl) ?_
              refine Rx.go (fun _ => rfl) ?_
              refine Rx.top (y := nI (smlN (t.getD q 0))) (by rw [hb_lt hlt]; exact sml_a (hS.z.by q) (by rw [← hb_lt hlt]; exact c10) (by rw [← hb_lt hlt]; exact c12)) ?_
              refine Rx.callP rfl rfl rfl rfl (rs_put (smlN (t.getD q 0)) hS (by first | omega | (simp only [List.length_append, List.length_cons, List.length_nil]; omega))) ?_
              intro σ34 τ34 hS34
              show Rx X c0 m_Mod_readTag 173 [.ref (c0 + 16), .int (nI acc.length), .int (nI run), .int (bi fs), .int 1, .int (hb t q), .int 1, .int 0] [] σ34 τ34 _
              refine Rx.go (fun _ => rfl) ?_
              show Rx X c0 m_Mod_readTag 176 [.ref (c0 + 16), .int ((nI acc.length) + 1), .int (nI run), .int (bi fs), .int 1, .int (hb t q), .int 1, .int 0] [] σ34 τ34 _
              refine Rx.go (fun _ => rfl) ?_
              refine Rx.go (fun _ => rfl) ?_
              refine Rx.get rfl rfl ?_
              refine Rx.top (y := nI q) hS34.f16 ?_
              refine Rx.go (fun _ => rfl) ?_
              refine Rx.go (fun _ => rfl) ?_
              refine Rx.top (y := nI (q + 1)) (nI_1 _) ?_
              refine Rx.put rfl (by decide) rfl rfl ?_
              have hS35 := hS34.at1 hlt
              refine Rx.go (fun _ => rfl) ?_
              refine Rx.go (fun _ => rfl) ?_
              show Rx X c0 m_Mod_readTag 191 [.ref (c0 + 16), .int ((nI acc.length) + 1), .int (nI run), .int (bi fs), .int 1, .int (hb t q), .int 1, .int 0] [] (upd σ34 16 (nI (q + 1))) τ34 _
              refine Rx.go (fun _ => rfl) ?_
              refine Rx.go (fun _ => rfl) ?_
              refine Rx.go (fun _ => rfl) ?_
              refine Rx.go (fun _ => rfl) ?_
              refine Rx.go (fun _ => rfl) ?_
              show Rx X c0 m_Mod_readTag 199 [.ref (c0 + 16), .int ((nI acc.length) + 1), .int ((nI run) + 1), .int (bi fs), .int 1, .int (hb t q), .int 1, .int 0] [] (upd σ34 16 (nI (q + 1))) τ34 _
              refine Rx.go (fun _ => rfl) ?_
              refine Rx.go (fun _ => rfl) ?_
              refine Rx.ite (fun c14 => ?_) (fun c14 => ?_)
              · replace c14 : fs = false := bi_eqt c14
                show Rx X c0 m_Mod_readTag 212 [.ref (c0 + 16), .int ((nI acc.length) + 1), .int ((nI run) + 1), .int (bi fs), .int 1, .int (hb t q), .int 1, .int 0] [] (upd σ34 16 (nI (q + 1))) τ34 _
                refine Rx.go (fun _ => rfl) ?_
                refine Rx.go (fun _ => rfl) ?_
                show Rx X c0 m_Mod_readTag 214 [.ref (c0 + 16), .int ((nI acc.length) + 1), .int ((nI run) + 1), .int 0, .int 1, .int (hb t q), .int 1, .int 0] [] (upd σ34 16 (nI (q + 1))) τ34 _
                refine Rx.go (fun _ => rfl) ?_
                show Rx X c0 m_Mod_readTag 31 [.ref (c0 + 16), .int ((nI acc.length) + 1), .int ((nI run) + 1), .int 0, .int 1, .int (hb t q), .int 1, .int 0] [] (upd σ34 16 (nI (q + 1))) τ34 _
                rw [show nI run + 1 = nI (run + 1) from nI_1 run]
                obtain ⟨m1, rfl⟩ : ∃ m1, m = m1 + 1 := ⟨m - 1, by omega⟩
                have e1 : sT t (m1 + 1) q run fs acc = sT t m1 (q + 1) (run + 1) false (acc ++ [smlN (t.getD q 0)]) := by rw [tg_n hgd (by rw [decide_eq_false d20, decide_eq_false d8]; simp), hd]; first | rfl | simp [hg, c14]
                rw [e1, show nI acc.length + 1 = nI (acc ++ [smlN (t.getD q 0)]).length by rw [nI_1, List.length_append]; rfl]
                exact ih m1 (by omega) (q + 1) (run + 1) false (acc ++ [smlN (t.getD q 0)]) _ _ _ _ _ (by omega) (by simp only [List.length_append, List.length_cons, List.length_nil]; omega) (by omega) (by rw [← List.append_assoc]; exact hS35)
              · replace c14 : fs = true := bi_eqf c14
                show Rx X c0 m_Mod_readTag 203 [.ref (c0 + 16), .int ((nI acc.length) + 1), .int ((nI run) + 1), .int (bi fs), .int 1, .int (hb t q), .int 1, .int 0] [] (upd σ34 16 (nI (q + 1))) τ34 _
                refine Rx.go (fun _ => rfl) ?_
                refine Rx.go (fun _ => rfl) ?_
                show Rx X c0 m_Mod_readTag 208 [.ref (c0 + 16), .int ((nI acc.length) + 1), .int ((nI run) + 1), .int (bi fs), .int 1, .int (hb t q), .int 1, .int 0] [] (upd σ34 16 (nI (q + 1))) τ34 _
                refine Rx.go (fun _ => rfl) ?_
                refine Rx.go (fun _ => rfl) ?_
                refine Rx.go (fun _ => rfl) ?_
                show Rx X c0 m_Mod_readTag 214 [.ref (c0 + 16), .int ((nI acc.length) + 1), .int ((nI run) + 1), .int 1, .int 1, .int (hb t q), .int 1, .int 0] [] (upd σ34 16 (nI (q + 1))) τ34 _
                refine Rx.go (fun _ => rfl) ?_
                show Rx X c0 m_Mod_readTag 31 [.ref (c0 + 16), .int ((nI acc.length) + 1), .int ((nI run) + 1), .int 1, .int 1, .int (hb t q), .int 1, .int 0] [] (upd σ34 16 (nI (q + 1))) τ34 _
                rw [show nI run + 1 = nI (run + 1) from nI_1 run]
                obtain ⟨m1, rfl⟩ : ∃ m1, m = m1 + 1 := ⟨m - 1, by omega⟩
                have e1 : sT t (m1 + 1) q run fs acc = sT t m1 (q + 1) (run + 1) true (acc ++ [smlN (t.getD q 0)]) := by rw [tg_n hgd (by rw [decide_eq_false d20, decide_eq_false d8]; simp), hd]; first | rfl | simp [hg, c14]
                rw [e1, show nI acc.length + 1 = nI (acc ++ [smlN (t.getD q 0)]).length by rw [nI_1, List.length_append]; rfl]
                exact ih m1 (by omega) (q + 1) (run + 1) true (acc ++ [smlN (t.getD q 0)]) _ _ _ _ _ (by omega) (by simp only [List.length_append, List.length_cons, List.length_nil]; omega) (by omega) (by rw [← List.append_assoc]; exact hS35)
        · replace c9 : (nI run) = 8 := Classical.not_not.mp (of_decide_eq_false c9)
          have d8 : run = 8 := (nI_eq (b := 8) (by omega) (by decide)).mp c9
          show Rx X c0 m_Mod_readTag 136 [.ref (c0 + 16), .int (nI acc.length), .int (nI run), .int (bi fs), .int 1, .int (hb t q), .int 1, .int 0] [] σ τ _
          refine Rx.go (fun _ => rfl) ?_
          refine Rx.go (fun _ => rfl) ?_
          refine Rx.go (fun _ => rfl) ?_
          refine Rx.get rfl rfl ?_
          refine Rx.top (y := nI q) hS.f16 ?_
          refine Rx.callP rfl rfl rfl rfl (rs_fl (wn := q) hS (by decide) rfl) ?_
          intro σ36 τ36 hS36
          show Rx X c0 m_Mod_readTag 145 [.ref (c0 + 16), .int (nI acc.length), .int (nI run), .int (bi fs), .int 1, .int (hb t q), .int 1, .int 0] [] σ36 τ36 _
          refine Rx.go (fun _ => rfl) ?_
          refine Rx.go (fun _ => rfl) ?_
          refine Rx.go (fun _ => rfl) ?_
          refine Rx.go (fun _ => rfl) ?_
          refine Rx.ite (fun c15 => ?_) (fun c15 => ?_)
          · replace c15 : (hb t q) < 65 := of_decide_eq_true c15
            show Rx X c0 m_Mod_readTag 168 [.ref (c0 + 16), .int (nI acc.length), .int (nI run), .int (bi fs), .int 1, .int (hb t q), .int 1, .int 0] [.ref (c0 + 16)] σ36 τ36 _
            refine Rx.go (fun _ => rfl) ?_
            refine Rx.callP rfl rfl rfl rfl (rg_put _ hS36 (by first | omega | (simp only [List.length_append, List.length_cons, List.length_nil]; omega))) ?_
            intro σ37 τ37 hS37
            show Rx X c0 m_Mod_readTag 173 [.ref (c0 + 16), .int (nI acc.length), .int (nI run), .int (bi fs), .int 1, .int (hb t q), .int 1, .int 0] [] σ37 τ37 _
            refine Rx.go (fun _ => rfl) ?_
            show Rx X c0 m_Mod_readTag 176 [.ref (c0 + 16), .int ((nI acc.length) + 1), .int (nI run), .int (bi fs), .int 1, .int (hb t q), .int 1, .int 0] [] σ37 τ37 _
            refine Rx.go (fun _ => rfl) ?_
            refine Rx.go (fun _ => rfl) ?_
            refine Rx.get rfl rfl ?_
            refine Rx.go (fun _ => rfl) ?_
            refine Rx.go (fun _ => rfl) ?_
            refine Rx.put rfl (by decide) rfl rfl ?_
            have hS38 := hS37.at1
            refine Rx.go (fun _ => rfl) ?_
            refine Rx.go (fun _ => rfl) ?_
            show Rx X c0 m_Mod_readTag 191 [.ref (c0 + 16), .int ((nI acc.length) + 1), .int (nI run), .int (bi fs), .int 1, .int (hb t q), .int 1, .int 0] [] (upd σ37 16 ((σ37 16) + 1)) τ37 _
            refine Rx.go (fun _ => rfl) ?_
            refine Rx.go (fun _ => rfl) ?_
            refine Rx.go (fun _ => rfl) ?_
            refine Rx.go (fun _ => rfl) ?_
            refine Rx.go (fun _ => rfl) ?_
            show Rx X c0 m_Mod_readTag 199 [.ref (c0 + 16), .int ((nI acc.length) + 1), .int ((nI run) + 1), .int (bi fs), .int 1, .int (hb t q), .int 1, .int 0] [] (upd σ37 16 ((σ37 16) + 1)) τ37 _
            refine Rx.go (fun _ => rfl) ?_
            refine Rx.go (fun _ => rfl) ?_
            refine Rx.ite (fun c16 => ?_) (fun c16 => ?_)
            · replace c16 : fs = false := bi_eqt c16
              show Rx X c0 m_Mod_readTag 212 [.ref (c0 + 16), .int ((nI acc.length) + 1), .int ((nI run) + 1), .int (bi fs), .int 1, .int (hb t q), .int 1, .int 0] [] (upd σ37 16 ((σ37 16) + 1)) τ37 _
              refine Rx.go (fun _ => rfl) ?_
              refine Rx.go (fun _ => rfl) ?_
              show Rx X c0 m_Mod_readTag 214 [.ref (c0 + 16), .int ((nI acc.length) + 1), .int ((nI run) + 1), .int 0, .int 1, .int (hb t q), .int 1, .int 0] [] (upd σ37 16 ((σ37 16) + 1)) τ37 _
              refine Rx.go (fun _ => rfl) ?_
              refine Rx.go (fun _ => rfl) ?_
              refine Rx.go (fun _ => rfl) ?_
              show Rx X c0 m_Mod_readTag 36 [.ref (c0 + 16), .int ((nI acc.length) + 1), .int ((nI run) + 1), .int 0, .int 1, .int (hb t q), .int 1, .int 0] [] (upd σ37 16 ((σ37 16) + 1)) τ37 _
              refine Rx.go (fun _ => rfl) ?_
              refine Rx.callE rfl rfl rfl rfl (rg_good hS38) ?_
              show Rx X c0 m_Mod_readTag 40 [.ref (c0 + 16), .int ((nI acc.length) + 1), .int ((nI run) + 1), .int 0, .int 1, .int (hb t q), .int 1, .int 0] [.int 0] (upd σ37 16 ((σ37 16) + 1)) τ37 _
              refine Rx.go (fun _ => rfl) ?_
              show Rx X c0 m_Mod_readTag 217 [.ref (c0 + 16), .int ((nI acc.length) + 1), .int ((nI run) + 1), .int 0, .int 1, .int (hb t q), .int 1, .int 0] [] (upd σ37 16 ((σ37 16) + 1)) τ37 _
              refine Rx.go (fun _ => rfl) ?_
              refine Rx.go (fun _ => rfl) ?_
              refine Rx.get rfl rfl ?_
              refine Rx.go (fun _ => rfl) ?_
              refine Rx.go (fun _ => rfl) ?_
              refine Rx.put rfl (by decide) rfl rfl ?_
              have hS39 := hS38.up (i := 13) (x := ((upd σ37 16 ((σ37 16) + 1)) 13) + ((nI acc.length) + 1)) (by omega)
              exact Rx.ret rfl rfl (rQ_f (b := acc) (tg_x hm hlt hgd (by rw [hg, decide_eq_true d8]; simp)) hS39 (by first | omega | (simp only [List.length_append, List.length_cons, List.length_nil]; omega)) (by omega))
            · replace c16 : fs = true := bi_eqf c16
              show Rx X c0 m_Mod_readTag 203 [.ref (c0 + 16), .int ((nI acc.length) + 1), .int ((nI run) + 1), .int (bi fs), .int 1, .int (hb t q), .int 1, .int 0] [] (upd σ37 16 ((σ37 16) + 1)) τ37 _
              refine Rx.go (fun _ => rfl) ?_
              refine Rx.go (fun _ => rfl) ?_
              show Rx X c0 m_Mod_readTag 208 [.ref (c0 + 16), .int ((nI acc.length) + 1), .int ((nI run) + 1), .int (bi fs), .int 1, .int (hb t q), .int 1, .int 0] [] (upd σ37 16 ((σ37 16) + 1)) τ37 _
              refine Rx.go (fun _ => rfl) ?_
              refine Rx.go (fun _ => rfl) ?_
              refine Rx.go (fun _ => rfl) ?_
              show Rx X c0 m_Mod_readTag 214 [.ref (c0 + 16), .int ((nI acc.length) + 1), .int ((nI run) + 1), .int 1, .int 1, .int (hb t q), .int 1, .int 0] [] (upd σ37 16 ((σ37 16) + 1)) τ37 _
              refine Rx.go (fun _ => rfl) ?_
              refine Rx.go (fun _ => rfl) ?_
              refine Rx.go (fun _ => rfl) ?_
              show Rx X c0 m_Mod_readTag 36 [.ref (c0 + 16), .int ((nI acc.length) + 1), .int ((nI run) + 1), .int 1, .int 1, .int (hb t q), .int 1, .int 0] [] (upd σ37 16 ((σ37 16) + 1)) τ37 _
              refine Rx.go (fun _ => rfl) ?_
              refine Rx.callE rfl rfl rfl rfl (rg_good hS38) ?_
              show Rx X c0 m_Mod_readTag 40 [.ref (c0 + 16), .int ((nI acc.length) + 1), .int ((nI run) + 1), .int 1, .int 1, .int (hb t q), .int 1, .int 0] [.int 0] (upd σ37 16 ((σ37 16) + 1)) τ37 _
              refine Rx.go (fun _ => rfl) ?_
              show Rx X c0 m_Mod_readTag 217 [.ref (c0 + 16), .int ((nI acc.length) + 1), .int ((nI run) + 1), .int 1, .int 1, .int (hb t q), .int 1, .int 0] [] (upd σ37 16 ((σ37 16) + 1)) τ37 _
              refine Rx.go (fun _ => rfl) ?_
              refine Rx.go (fun _ => rfl) ?_
              refine Rx.get rfl rfl ?_
              refine Rx.go (fun _ => rfl) ?_
              refine Rx.go (fun _ => rfl) ?_
              refine Rx.put rfl (by decide) rfl rfl ?_
              have hS40 := hS38.up (i := 13) (x := ((upd σ37 16 ((σ37 16) + 1)) 13) + ((nI acc.length) + 1)) (by omega)
              exact Rx.ret rfl rfl (rQ_f (b := acc) (tg_x hm hlt hgd (by rw [hg, decide_eq_true d8]; simp)) hS40 (by first | omega | (simp only [List.length_append, List.length_cons, List.length_nil]; omega)) (by omega))
          · replace c15 : ¬ (hb t q) < 65 := of_decide_eq_false c15
            show Rx X c0 m_Mod_readTag 153 [.ref (c0 + 16), .int (nI acc.length), .int (nI run), .int (bi fs), .int 1, .int (hb t q), .int 1, .int 0] [.ref (c0 + 16)] σ36 τ36 _
            refine Rx.go (fun _ => rfl) ?_
            refine Rx.go (fun _ => rfl) ?_
            refine Rx.go (fun _ => rfl) ?_
            refine Rx.ite (fun c17 => ?_) (fun c17 => ?_)
            · replace c17 : 90 < (hb t q) := of_decide_eq_true c17
              show Rx X c0 m_Mod_readTag 168 [.ref (c0 + 16), .int (nI acc.length), .int (nI run), .int (bi fs), .int 1, .int (hb t q), .int 1, .int 0] [.ref (c0 + 16)] σ36 τ36 _
              refine Rx.go (fun _ => rfl) ?_
              refine Rx.callP rfl rfl rfl rfl (rg_put _ hS36 (by first | omega | (simp only [List.length_append, List.length_cons, List.length_nil]; omega))) ?_
              intro σ41 τ41 hS41
              show Rx X c0 m_Mod_readTag 173 [.ref (c0 + 16), .int (nI acc.length), .int (nI run), .int (bi fs), .int 1, .int (hb t q), .int 1, .int 0] [] σ41 τ41 _
              refine Rx.go (fun _ => rfl) ?_
              show Rx X c0 m_Mod_readTag 176 [.ref (c0 + 16), .int ((nI acc.length) + 1), .int (nI run), .int (bi fs), .int 1, .int (hb t q), .int 1, .int 0] [] σ41 τ41 _
              refine Rx.go (fun _ => rfl) ?_
              refine Rx.go (fun _ => rfl) ?_
              refine Rx.get rfl rfl ?_
              refine Rx.go (fun _ => rfl) ?_
              refine Rx.go (fun _ => rfl) ?_
              refine Rx.put rfl (by decide) rfl rfl ?_
              have hS42 := hS41.at1
              refine Rx.go (fun _ => rfl) ?_
              refine Rx.go (fun _ => rfl) ?_
              show Rx X c0 m_Mod_readTag 191 [.ref (c0 + 16), .int ((nI acc.length) + 1), .int (nI run), .int (bi fs), .int 1, .int (hb t q), .int 1, .int 0] [] (upd σ41 16 ((σ41 16) + 1)) τ41 _
              refine Rx.go (fun _ => rfl) ?_
              refine Rx.go (fun _ => rfl) ?_
              refine Rx.go (fun _ => rfl) ?_
              refine Rx.go (fun _ => rfl) ?_
              refine Rx.go (fun _ => rfl) ?_
              show Rx X c0 m_Mod_readTag 199 [.ref (c0 + 16), .int ((nI acc.length) + 1), .int ((nI run) + 1), .int (bi fs), .int 1, .int (hb t q), .int 1, .int 0] [] (upd σ41 16 ((σ41 16) + 1)) τ41 _
              refine Rx.go (fun _ => rfl) ?_
              refine Rx.go (fun _ => rfl) ?_
              refine Rx.ite (fun c18 => ?_) (fun c18 => ?_)
              · replace c18 : fs = false := bi_eqt c18
                show Rx X c0 m_Mod_readTag 212 [.ref (c0 + 16), .int ((nI acc.length) + 1), .int ((nI run) + 1), .int (bi fs), .int 1, .int (hb t q), .int 1, .int 0] [] (upd σ41 16 ((σ41 16) + 1)) τ41 _
                refine Rx.go (fun _ => rfl) ?_
                refine Rx.go (fun _ => rfl) ?_
                show Rx X c0 m_Mod_readTag 214 [.ref (c0 + 16), .int ((nI acc.length) + 1), .int ((nI run) + 1), .int 0, .int 1, .int (hb t q), .int 1, .int 0] [] (upd σ41 16 ((σ41 16) + 1)) τ41 _
                refine Rx.go (fun _ => rfl) ?_
                refine Rx.go (fun _ => rfl) ?_
                refine Rx.go (fun _ => rfl) ?_
                show Rx X c0 m_Mod_readTag 36 [.ref (c0 + 16), .int ((nI acc.length) + 1), .int ((nI run) + 1), .int 0, .int 1, .int (hb t q), .int 1, .int 0] [] (upd σ41 16 ((σ41 16) + 1)) τ41 _
                refine Rx.go (fun _ => rfl) ?_
                refine Rx.callE rfl rfl rfl rfl (rg_good hS42) ?_
                show Rx X c0 m_Mod_readTag 40 [.ref (c0 + 16), .int ((nI acc.length) + 1), .int ((nI run) + 1), .int 0, .int 1, .int (hb t q), .int 1, .int 0] [.int 0] (upd σ41 16 ((σ41 16) + 1)) τ41 _
                refine Rx.go (fun _ => rfl) ?_
                show Rx X c0 m_Mod_readTag 217 [.ref (c0 + 16), .int ((nI acc.length) + 1), .int ((nI run) + 1), .int 0, .int 1, .int (hb t q), .int 1, .int 0] [] (upd σ41 16 ((σ41 16) + 1)) τ41 _
                refine Rx.go (fun _ => rfl) ?_
                refine Rx.go (fun _ => rfl) ?_
                refine Rx.get rfl rfl ?_
                refine Rx.go (fun _ => rfl) ?_
                refine Rx.go (fun _ => rfl) ?_
                refine Rx.put rfl (by decide) rfl rfl ?_
                have hS43 := hS42.up (i := 13) (x := ((upd σ41 16 ((σ41 16) + 1)) 13) + ((nI acc.length) + 1)) (by omega)
                exact Rx.ret rfl rfl (rQ_f (b := acc) (tg_x hm hlt hgd (by rw [hg, decide_eq_true d8]; simp)) hS43 (by first | omega | (simp only [List.length_append, List.length_cons, List.length_nil]; omega)) (by omega))
              · replace c18 : fs = true := bi_eqf c18
                show Rx X c0 m_Mod_readTag 203 [.ref (c0 + 16), .int ((nI acc.length) + 1), .int ((nI run) + 1), .int (bi fs), .int 1, .int (hb t q), .int 1, .int 0] [] (upd σ41 16 ((σ41 16) + 1)) τ41 _
                refine Rx.go (fun _ => rfl) ?_
                refine Rx.go (fun _ => rfl) ?_
                show Rx X c0 m_Mod_readTag 208 [.ref (c0 + 16), .int ((nI acc.length) + 1), .int ((nI run) + 1), .int (bi fs), .int 1, .int (hb t q), .int 1, .int 0] [] (upd σ41 16 ((σ41 16) + 1)) τ41 _
                refine Rx.go (fun _ => rfl) ?_
                refine Rx.go (fun _ => rfl) ?_
                refine Rx.go (fun _ => rfl) ?_
                show Rx X c0 m_Mod_readTag 214 [.ref (c0 + 16), .int ((nI acc.length) + 1), .int ((nI run) + 1), .int 1, .int 1, .int (hb t q), .int 1, .int 0] [] (upd σ41 16 ((σ41 16) + 1)) τ41 _
                refine Rx.go (fun _ => rfl) ?_
                refine Rx.go (fun _ => rfl) ?_
                refine Rx.go (fun _ => rfl) ?_
                show Rx X c0 m_Mod_readTag 36 [.ref (c0 + 16), .int ((nI acc.length) + 1), .int ((nI run) + 1), .int 1, .int 1, .int (hb t q), .int 1, .int 0] [] (upd σ41 16 ((σ41 16) + 1)) τ41 _
                refine Rx.go (fun _ => rfl) ?_
                refine Rx.callE rfl rfl rfl rfl (rg_good hS42) ?_
                show Rx X c0 m_Mod_readTag 40 [.ref (c0 + 16), .int ((nI acc.length) + 1), .int ((nI run) + 1), .int 1, .int 1, .int (hb t q), .int 1, .int 0] [.int 0] (upd σ41 16 ((σ41 16) + 1)) τ41 _
                refine Rx.go (fun _ => rfl) ?_
                show Rx X c0 m_Mod_readTag 217 [.ref (c0 + 16), .int ((nI acc.length) + 1), .int ((nI run) + 1), .int 1, .int 1, .int (hb t q), .int 1, .int 0] [] (upd σ41 16 ((σ41 16) + 1)) τ41 _
                refine Rx.go (fun _ => rfl) ?_
                refine Rx.go (fun _ => rfl) ?_
                refine Rx.get rfl rfl ?_
                refine Rx.go (fun _ => rfl) ?_
                refine Rx.go (fun _ => rfl) ?_
                refine Rx.put rfl (by decide) rfl rfl ?_
                have hS44 := hS42.up (i := 13) (x := ((upd σ41 16 ((σ41 16) + 1)) 13) + ((nI acc.length) + 1)) (by omega)
                exact Rx.ret rfl rfl (rQ_f (b := acc) (tg_x hm hlt hgd (by rw [hg, decide_eq_true d8]; simp)) hS44 (by first | omega | (simp only [List.length_append, List.length_cons, List.length_nil]; omega)) (by omega))
            · replace c17 : ¬ 90 < (hb t q) := of_decide_eq_false c17
              show Rx X c0 m_Mod_readTag 160 [.ref (c0 + 16), .int (nI acc.length), .int (nI run), .int (bi fs), .int 1, .int (hb t q), .int 1, .int 0] [.ref (c0 + 16)] σ36 τ36 _
              refine Rx.go (fun _ => rfl) ?_
              refine Rx.go (fun _ => rfl) ?_
              refine Rx.go (fun _ => rfl) ?_
              refine Rx.go (fun _ => rfl) ?_
              refine Rx.callP rfl rfl rfl rfl (rg_put _ hS36 (by first | omega | (simp only [List.length_append, List.length_cons, List.length_nil]; omega))) ?_
              intro σ45 τ45 hS45
              show Rx X c0 m_Mod_readTag 173 [.ref (c0 + 16), .int (nI acc.length), .int (nI run), .int (bi fs), .int 1, .int (hb t q), .int 1, .int 0] [] σ45 τ45 _
              refine Rx.go (fun _ => rfl) ?_
              show Rx X c0 m_Mod_readTag 176 [.ref (c0 + 16), .int ((nI acc.length) + 1), .int (nI run), .int (bi fs), .int 1, .int (hb t q), .int 1, .int 0] [] σ45 τ45 _
              refine Rx.go (fun _ => rfl) ?_
              refine Rx.go (fun _ => rfl) ?_
              refine Rx.get rfl rfl ?_
              refine Rx.go (fun _ => rfl) ?_
              refine Rx.go (fun _ => rfl) ?_
              refine Rx.put rfl (by decide) rfl rfl ?_
              have hS46 := hS45.at1
              refine Rx.go (fun _ => rfl) ?_
              refine Rx.go (fun _ => rfl) ?_
              show Rx X c0 m_Mod_readTag 191 [.ref (c0 + 16), .int ((nI acc.length) + 1), .int (nI run), .int (bi fs), .int 1, .int (hb t q), .int 1, .int 0] [] (upd σ45 16 ((σ45 16) + 1)) τ45 _
              refine Rx.go (fun _ => rfl) ?_
              refine Rx.go (fun _ => rfl) ?_
              refine Rx.go (fun _ => rfl) ?_
              refine Rx.go (fun _ => rfl) ?_
              refine Rx.go (fun _ => rfl) ?_
              show Rx X c0 m_Mod_readTag 199 [.ref (c0 + 16), .int ((nI acc.length) + 1), .int ((nI run) + 1), .int (bi fs), .int 1, .int (hb t q), .int 1, .int 0] [] (upd σ45 16 ((σ45 16) + 1)) τ45 _
              refine Rx.go (fun _ => rfl) ?_
              refine Rx.go (fun _ => rfl) ?_
              refine Rx.ite (fun c19 => ?_) (fun c19 => ?_)
              · replace c19 : fs = false := bi_eqt c19
                show Rx X c0 m_Mod_readTag 212 [.ref (c0 + 16), .int ((nI acc.length) + 1), .int ((nI run) + 1), .int (bi fs), .int 1, .int (hb t q), .int 1, .int 0] [] (upd σ45 16 ((σ45 16) + 1)) τ45 _
                refine Rx.go (fun _ => rfl) ?_
                refine Rx.go (fun _ => rfl) ?_
                show Rx X c0 m_Mod_readTag 214 [.ref (c0 + 16), .int ((nI acc.length) + 1), .int ((nI run) + 1), .int 0, .int 1, .int (hb t q), .int 1, .int 0] [] (upd σ45 16 ((σ45 16) + 1)) τ45 _
                refine Rx.go (fun _ => rfl) ?_
                refine Rx.go (fun _ => rfl) ?_
                refine Rx.go (fun _ => rfl) ?_
                show Rx X c0 m_Mod_readTag 36 [.ref (c0 + 16), .int ((nI acc.length) + 1), .int ((nI run) + 1), .int 0, .int 1, .int (hb t q), .int 1, .int 0] [] (upd σ45 16 ((σ45 16) + 1)) τ45 _
                refine Rx.go (fun _ => rfl) ?_
                refine Rx.callE rfl rfl rfl rfl (rg_good hS46) ?_
                show Rx X c0 m_Mod_readTag 40 [.ref (c0 + 16), .int ((nI acc.length) + 1), .int ((nI run) + 1), .int 0, .int 1, .int (hb t q), .int 1, .int 0] [.int 0] (upd σ45 16 ((σ45 16) + 1)) τ45 _
                refine Rx.go (fun _ => rfl) ?_
                show Rx X c0 m_Mod_readTag 217 [.ref (c0 + 16), .int ((nI acc.length) + 1), .int ((nI run) + 1), .int 0, .int 1, .int (hb t q), .int 1, .int 0] [] (upd σ45 16 ((σ45 16) + 1)) τ45 _
                refine Rx.go (fun _ => rfl) ?_
                refine Rx.go (fun _ => rfl) ?_
                refine Rx.get rfl rfl ?_
                refine Rx.go (fun _ => rfl) ?_
                refine Rx.go (fun _ => rfl) ?_
                refine Rx.put rfl (by decide) rfl rfl ?_
                have hS47 := hS46.up (i := 13) (x := ((upd σ45 16 ((σ45 16) + 1)) 13) + ((nI acc.length) + 1)) (by omega)
                exact Rx.ret rfl rfl (rQ_f (b := acc) (tg_x hm hlt hgd (by rw [hg, decide_eq_true d8]; simp)) hS47 (by first | omega | (simp only [List.length_append, List.length_cons, List.length_nil]; omega)) (by omega))
              · replace c19 : fs = true := bi_eqf c19
                show Rx X c0 m_Mod_readTag 203 [.ref (c0 + 16), .int ((nI acc.length) + 1), .int ((nI run) + 1), .int (bi fs), .int 1, .int (hb t q), .int 1, .int 0] [] (upd σ45 16 ((σ45 16) + 1)) τ45 _
                refine Rx.go (fun _ => rfl) ?_
                refine Rx.go (fun _ => rfl) ?_
                show Rx X c0 m_Mod_readTag 208 [.ref (c0 + 16), .int ((nI acc.length) + 1), .int ((nI run) + 1), .int (bi fs), .int 1, .int (hb t q), .int 1, .int 0] [] (upd σ45 16 ((σ45 16) + 1)) τ45 _
                refine Rx.go (fun _ => rfl) ?_
                refine Rx.go (fun _ => rfl) ?_
                refine Rx.go (fun _ => rfl) ?_
                show Rx X c0 m_Mod_readTag 214 [.ref (c0 + 16), .int ((nI acc.length) + 1), .int ((nI run) + 1), .int 1, .int 1, .int (hb t q), .int 1, .int 0] [] (upd σ45 16 ((σ45 16) + 1)) τ45 _
                refine Rx.go (fun _ => rfl) ?_
                refine Rx.go (fun _ => rfl) ?_
                refine Rx.go (fun _ => rfl) ?_
                show Rx X c0 m_Mod_readTag 36 [.ref (c0 + 16), .int ((nI acc.length) + 1), .int ((nI run) + 1), .int 1, .int 1, .int (hb t q), .int 1, .int 0] [] (upd σ45 16 ((σ45 16) + 1)) τ45 _
                refine Rx.go (fun _ => rfl) ?_
                refine Rx.callE rfl rfl rfl rfl (rg_good hS46) ?_
                show Rx X c0 m_Mod_readTag 40 [.ref (c0 + 16), .int ((nI acc.length) + 1), .int ((nI run) + 1), .int 1, .int 1, .int (hb t q), .int 1, .int 0] [.int 0] (upd σ45 16 ((σ45 16) + 1)) τ45 _
                refine Rx.go (fun _ => rfl) ?_
                show Rx X c0 m_Mod_readTag 217 [.ref (c0 + 16), .int ((nI acc.length) + 1), .int ((nI run) + 1), .int 1, .int 1, .int (hb t q), .int 1, .int 0] [] (upd σ45 16 ((σ45 16) + 1)) τ45 _
                refine Rx.go (fun _ => rfl) ?_
                refine Rx.go (fun _ => rfl) ?_
                refine Rx.get rfl rfl ?_
                refine Rx.go (fun _ => rfl) ?_
                refine Rx.go (fun _ => rfl) ?_
                refine Rx.put rfl (by decide) rfl rfl ?_
                have hS48 := hS46.up (i := 13) (x := ((upd σ45 16 ((σ45 16) + 1)) 13) + ((nI acc.length) + 1)) (by omega)
                exact Rx.ret rfl rfl (rQ_f (b := acc) (tg_x hm hlt hgd (by rw [hg, decide_eq_true d8]; simp)) hS48 (by first | omega | (simp only [List.length_append, List.length_cons, List.length_nil]; omega)) (by omega))
    · replace c2 : (hb t q) = 45 := Classical.not_not.mp (of_decide_eq_false c2)
      show Rx X c0 m_Mod_readTag 83 [.ref (c0 + 16), .int (nI acc.length), .int (nI run), .int (bi fs), .int 1, .int (hb t q), .int 1, b7] [] σ τ _
      refine Rx.go (fun _ => rfl) ?_
      refine Rx.go (fun _ => rfl) ?_
      refine Rx.ite (fun c20 => ?_) (fun c20 => ?_)
      · replace c20 : (nI run) ≤ 0 := of_decide_eq_true c20
        have dr : ¬ 0 < run := by have := (nI_leI (b := 0) (by omega) (by decide)).mp c20; omega
        show Rx X c0 m_Mod_readTag 91 [.ref (c0 + 16), .int (nI acc.length), .int (nI run), .int (bi fs), .int 1, .int (hb t q), .int 1, b7] [] σ τ _
        refine Rx.go (fun _ => rfl) ?_
        refine Rx.go (fun _ => rfl) ?_
        show Rx X c0 m_Mod_readTag 94 [.ref (c0 + 16), .int (nI acc.length), .int (nI run), .int (bi fs), .int 1, .int (hb t q), .int 1, .int 0] [] σ τ _
        have hg : (isL (hb t q) || (isD (hb t q) && !fs)) = true := by simp [c1]
        have hd : (decide (hb t q = 45) && decide (0 < run)) = false := by simp [c2, dr]
        have hgd : (isL (hb t q) || (isD (hb t q) && !fs)) = true ∨ (decide (hb t q = 45) && decide (0 < run)) = true := Or.inl hg
        have hlt := tg_lt hgd
        refine Rx.go (fun _ => rfl) ?_
        refine Rx.go (fun _ => rfl) ?_
        show Rx X c0 m_Mod_readTag 119 [.ref (c0 + 16), .int (nI acc.length), .int (nI run), .int (bi fs), .int 1, .int (hb t q), .int 1, .int 0] [] σ τ _
        refine Rx.go (fun _ => rfl) ?_
        refine Rx.go (fun _ => rfl) ?_
        refine Rx.go (fun _ => rfl) ?_
        refine Rx.ite (fun c21 => ?_) (fun c21 => ?_)
        · replace c21 : (nI acc.length) = 20 := of_decide_eq_true c21
          have d20 : acc.length = 20 := (nI_eq (b := 20) (by omega) (by decide)).mp c21
          show Rx X c0 m_Mod_readTag 136 [.ref (c0 + 16), .int (nI acc.length), .int (nI run), .int (bi fs), .int 1, .int (hb t q), .int 1, .int 0] [] σ τ _
          refine Rx.go (fun _ => rfl) ?_
          refine Rx.go (fun _ => rfl) ?_
          refine Rx.go (fun _ => rfl) ?_
          refine Rx.get rfl rfl ?_
          refine Rx.top (y := nI q) hS.f16 ?_
          refine Rx.callP rfl rfl rfl rfl (rs_fl (wn := q) hS (by decide) rfl) ?_
          intro σ49 τ49 hS49
          show Rx X c0 m_Mod_readTag 145 [.ref (c0 + 16), .int (nI acc.length), .int (nI run), .int (bi fs), .int 1, .int (hb t q), .int 1, .int 0] [] σ49 τ49 _
          refine Rx.go (fun _ => rfl) ?_
          refine Rx.go (fun _ => rfl) ?_
          refine Rx.go (fun _ => rfl) ?_
          refine Rx.go (fun _ => rfl) ?_
          refine Rx.ite (fun c22 => ?_) (fun c22 => ?_)
          · replace c22 : (hb t q) < 65 := of_decide_eq_true c22
            show Rx X c0 m_Mod_readTag 168 [.ref (c0 + 16), .int (nI acc.length), .int (nI run), .int (bi fs), .int 1, .int (hb t q), .int 1, .int 0] [.ref (c0 + 16)] σ49 τ49 _
            refine Rx.go (fun _ => rfl) ?_
            refine Rx.callP rfl rfl rfl rfl (rg_put _ hS49 (by first | omega | (simp only [List.length_append, List.length_cons, List.length_nil]; omega))) ?_
            intro σ50 τ50 hS50
            show Rx X c0 m_Mod_readTag 173 [.ref (c0 + 16), .int (nI acc.length), .int (nI run), .int (bi fs), .int 1, .int (hb t q), .int 1, .int 0] [] σ50 τ50 _
            refine Rx.go (fun _ => rfl) ?_
            show Rx X c0 m_Mod_readTag 176 [.ref (c0 + 16), .int ((nI acc.length) + 1), .int (nI run), .int (bi fs), .int 1, .int (hb t q), .int 1, .int 0] [] σ50 τ50 _
            refine Rx.go (fun _ => rfl) ?_
            refine Rx.go (fun _ => rfl) ?_
            refine Rx.get rfl rfl ?_
            refine Rx.go (fun _ => rfl) ?_
            refine Rx.go (fun _ => rfl) ?_
            refine Rx.put rfl (by decide) rfl rfl ?_
            have hS51 := hS50.at1
            refine Rx.go (fun _ => rfl) ?_
            refine Rx.go (fun _ => rfl) ?_
            show Rx X c0 m_Mod_readTag 191 [.ref (c0 + 16), .int ((nI acc.length) + 1), .int (nI run), .int (bi fs), .int 1, .int (hb t q), .int 1, .int 0] [] (upd σ50 16 ((σ50 16) + 1)) τ50 _
            refine Rx.go (fun _ => rfl) ?_
            refine Rx.go (fun _ => rfl) ?_
            refine Rx.go (fun _ => rfl) ?_
            refine Rx.go (fun _ => rfl) ?_
            refine Rx.go (fun _ => rfl) ?_
            show Rx X c0 m_Mod_readTag 199 [.ref (c0 + 16), .int ((nI acc.length) + 1), .int ((nI run) + 1), .int (bi fs), .int 1, .int (hb t q), .int 1, .int 0] [] (upd σ50 16 ((σ50 16) + 1)) τ50 _
            refine Rx.go (fun _ => rfl) ?_
            refine Rx.go (fun _ => rfl) ?_
            refine Rx.ite (fun c23 => ?_) (fun c23 => ?_)
            · replace c23 : fs = false := bi_eqt c23
              show Rx X c0 m_Mod_readTag 212 [.ref (c0 + 16), .int ((nI acc.length) + 1), .int ((nI run) + 1), .int (bi fs), .int 1, .int (hb t q), .int 1, .int 0] [] (upd σ50 16 ((σ50 16) + 1)) τ50 _
              refine Rx.go (fun _ => rfl) ?_
              refine Rx.go (fun _ => rfl) ?_
              show Rx X c0 m_Mod_readTag 214 [.ref (c0 + 16), .int ((nI acc.length) + 1), .int ((nI run) + 1), .int 0, .int 1, .int (hb t q), .int 1, .int 0] [] (upd σ50 16 ((σ50 16) + 1)) τ50 _
              refine Rx.go (fun _ => rfl) ?_
              refine Rx.go (fun _ => rfl) ?_
              refine Rx.go (fun _ => rfl) ?_
              show Rx X c0 m_Mod_readTag 36 [.ref (c0 + 16), .int ((nI acc.length) + 1), .int ((nI run) + 1), .int 0, .int 1, .int (hb t q), .int 1, .int 0] [] (upd σ50 16 ((σ50 16) + 1)) τ50 _
              refine Rx.go (fun _ => rfl) ?_
              refine Rx.callE rfl rfl rfl rfl (rg_good hS51) ?_
              show Rx X c0 m_Mod_readTag 40 [.ref (c0 + 16), .int ((nI acc.length) + 1), .int ((nI run) + 1), .int 0, .int 1, .int (hb t q), .int 1, .int 0] [.int 0] (upd σ50 16 ((σ50 16) + 1)) τ50 _
              refine Rx.go (fun _ => rfl) ?_
              show Rx X c0 m_Mod_readTag 217 [.ref (c0 + 16), .int ((nI acc.length) + 1), .int ((nI run) + 1), .int 0, .int 1, .int (hb t q), .int 1, .int 0] [] (upd σ50 16 ((σ50 16) + 1)) τ50 _
              refine Rx.go (fun _ => rfl) ?_
              refine Rx.go (fun _ => rfl) ?_
              refine Rx.get rfl rfl ?_
              refine Rx.go (fun _ => rfl) ?_
              refine Rx.go (fun _ => rfl) ?_
              refine Rx.put rfl (by decide) rfl rfl ?_
              have hS52 := hS51.up (i := 13) (x := ((upd σ50 16 ((σ50 16) + 1)) 13) + ((nI acc.length) + 1)) (by omega)
              exact Rx.ret rfl rfl (rQ_f (b := acc) (tg_x hm hlt hgd (by rw [decide_eq_true d20]; rfl)) hS52 (by first | omega | (simp only [List.length_append, List.length_cons, List.length_nil]; omega)) (by omega))
            · replace c23 : fs = true := bi_eqf c23
              show Rx X c0 m_Mod_readTag 203 [.ref (c0 + 16), .int ((nI acc.length) + 1), .int ((nI run) + 1), .int (bi fs), .int 1, .int (hb t q), .int 1, .int 0] [] (upd σ50 16 ((σ50 16) + 1)) τ50 _
              refine Rx.go (fun _ => rfl) ?_
              refine Rx.go (fun _ => rfl) ?_
              show Rx X c0 m_Mod_readTag 208 [.ref (c0 + 16), .int ((nI acc.length) + 1), .int ((nI run) + 1), .int (bi fs), .int 1, .int (hb t q), .int 1, .int 0] [] (upd σ50 16 ((σ50 16) + 1)) τ50 _
              refine Rx.go (fun _ => rfl) ?_
              refine Rx.go (fun _ => rfl) ?_
              refine Rx.go (fun _ => rfl) ?_
              show Rx X c0 m_Mod_readTag 214 [.ref (c0 + 16), .int ((nI acc.length) + 1), .int ((nI run) + 1), .int 1, .int 1, .int (hb t q), .int 1, .int 0] [] (upd σ50 16 ((σ50 16) + 1)) τ50 _
              refine Rx.go (fun _ => rfl) ?_
              refine Rx.go (fun _ => rfl) ?_
              refine Rx.go (fun _ => rfl) ?_
              show Rx X c0 m_Mod_readTag 36 [.ref (c0 + 16), .int ((nI acc.length) + 1), .int ((nI run) + 1), .int 1, .int 1, .int (hb t q), .int 1, .int 0] [] (upd σ50 16 ((σ50 16) + 1)) τ50 _
              refine Rx.go (fun _ => rfl) ?_
              refine Rx.callE rfl rfl rfl rfl (rg_good hS51) ?_
              show Rx X c0 m_Mod_readTag 40 [.ref (c0 + 16), .int ((nI acc.length) + 1), .int ((nI run) + 1), .int 1, .int 1, .int (hb t q), .int 1, .int 0] [.int 0] (upd σ50 16 ((σ50 16) + 1)) τ50 _
              refine Rx.go (fun _ => rfl) ?_
              show Rx X c0 m_Mod_readTag 217 [.ref (c0 + 16), .int ((nI acc.length) + 1), .int ((nI run) + 1), .int 1, .int 1, .int (hb t q), .int 1, .int 0] [] (upd σ50 16 ((σ50 16) + 1)) τ50 _
              refine Rx.go (fun _ => rfl) ?_
              refine Rx.go (fun _ => rfl) ?_
              refine Rx.get rfl rfl ?_
              refine Rx.go (fun _ => rfl) ?_
              refine Rx.go (fun _ => rfl) ?_
              refine Rx.put rfl (by decide) rfl rfl ?_
              have hS53 := hS51.up (i := 13) (x := ((upd σ50 16 ((σ50 16) + 1)) 13) + ((nI acc.length) + 1)) (by omega)
              exact Rx.ret rfl rfl (rQ_f (b := acc) (tg_x hm hlt hgd (by rw [decide_eq_true d20]; rfl)) hS53 (by first | omega | (simp only [List.length_append, List.length_cons, List.length_nil]; omega)) (by omega))
          · replace c22 : ¬ (hb t q) < 65 := of_decide_eq_false c22
            show Rx X c0 m_Mod_readTag 153 [.ref (c0 + 16), .int (nI acc.length), .int (nI run), .int (bi fs), .int 1, .int (hb t q), .int 1, .int 0] [.ref (c0 + 16)] σ49 τ49 _
            refine Rx.go (fun _ => rfl) ?_
            refine Rx.go (fun _ => rfl) ?_
            refine Rx.go (fun _ => rfl) ?_
            refine Rx.ite (fun c24 => ?_) (fun c24 => ?_)
            · replace c24 : 90 < (hb t q) := of_decide_eq_true c24
              show Rx X c0 m_Mod_readTag 168 [.ref (c0 + 16), .int (nI acc.length), .int (nI run), .int (bi fs), .int 1, .int (hb t q), .int 1, .int 0] [.ref (c0 + 16)] σ49 τ49 _
              refine Rx.go (fun _ => rfl) ?_
              refine Rx.callP rfl rfl rfl rfl (rg_put _ hS49 (by first | omega | (simp only [List.length_append, List.length_cons, List.length_nil]; omega))) ?_
              intro σ54 τ54 hS54
              show Rx X c0 m_Mod_readTag 173 [.ref (c0 + 16), .int (nI acc.length), .int (nI run), .int (bi fs), .int 1, .int (hb t q), .int 1, .int 0] [] σ54 τ54 _
              refine Rx.go (fun _ => rfl) ?_
              show Rx X c0 m_Mod_readTag 176 [.ref (c0 + 16), .int ((nI acc.length) + 1), .int (nI run), .int (bi fs), .int 1, .int (hb t q), .int 1, .int 0] [] σ54 τ54 _
              refine Rx.go (fun _ => rfl) ?_
              refine Rx.go (fun _ => rfl) ?_
              refine Rx.get rfl rfl ?_
              refine Rx.go (fun _ => rfl) ?_
              refine Rx.go (fun _ => rfl) ?_
              refine Rx.put rfl (by decide) rfl rfl ?_
              have hS55 := hS54.at1
              refine Rx.go (fun _ => rfl) ?_
              refine Rx.go (fun _ => rfl) ?_
              show Rx X c0 m_Mod_readTag 191 [.ref (c0 + 16), .int ((nI acc.length) + 1), .int (nI run), .int (bi fs), .int 1, .int (hb t q), .int 1, .int 0] [] (upd σ54 16 ((σ54 16) + 1)) τ54 _
              refine Rx.go (fun _ => rfl) ?_
              refine Rx.go (fun _ => rfl) ?_
              refine Rx.go (fun _ => rfl) ?_
              refine Rx.go (fun _ => rfl) ?_
              refine Rx.go (fun _ => rfl) ?_
              show Rx X c0 m_Mod_readTag 199 [.ref (c0 + 16), .int ((nI acc.length) + 1), .int ((nI run) + 1), .int (bi fs), .int 1, .int (hb t q), .int 1, .int 0] [] (upd σ54 16 ((σ54 16) + 1)) τ54 _
              refine Rx.go (fun _ => rfl) ?_
              refine Rx.go (fun _ => rfl) ?_
              refine Rx.ite (fun c25 => ?_) (fun c25 => ?_)
              · replace c25 : fs = false := bi_eqt c25
                show Rx X c0 m_Mod_readTag 212 [.ref (c0 + 16), .int ((nI acc.length) + 1), .int ((nI run) + 1), .int (bi fs), .int 1, .int (hb t q), .int 1, .int 0] [] (upd σ54 16 ((σ54 16) + 1)) τ54 _
                refine Rx.go (fun _ => rfl) ?_
                refine Rx.go (fun _ => rfl) ?_
                show Rx X c0 m_Mod_readTag 214 [.ref (c0 + 16), .int ((nI acc.length) + 1), .int ((nI run) + 1), .int 0, .int 1, .int (hb t q), .int 1, .int 0] [] (upd σ54 16 ((σ54 16) + 1)) τ54 _
                refine Rx.go (fun _ => rfl) ?_
                refine Rx.go (fun _ => rfl) ?_
                refine Rx.go (fun _ => rfl) ?_
                show Rx X c0 m_Mod_readTag 36 [.ref (c0 + 16), .int ((nI acc.length) + 1), .int ((nI run) + 1), .int 0, .int 1, .int (hb t q), .int 1, .int 0] [] (upd σ54 16 ((σ54 16) + 1)) τ54 _
                refine Rx.go (fun _ => rfl) ?_
                refine Rx.callE rfl rfl rfl rfl (rg_good hS55) ?_
                show Rx X c0 m_Mod_readTag 40 [.ref (c0 + 16), .int ((nI acc.length) + 1), .int ((nI run) + 1), .int 0, .int 1, .int (hb t q), .int 1, .int 0] [.int 0] (upd σ54 16 ((σ54 16) + 1)) τ54 _
                refine Rx.go (fun _ => rfl) ?_
                show Rx X c0 m_Mod_readTag 217 [.ref (c0 + 16), .int ((nI acc.length) + 1), .int ((nI run) + 1), .int 0, .int 1, .int (hb t q), .int 1, .int 0] [] (upd σ54 16 ((σ54 16) + 1)) τ54 _
                refine Rx.go (fun _ => rfl) ?_
                refine Rx.go (fun _ => rfl) ?_
                refine Rx.get rfl rfl ?_
                refine Rx.go (fun _ => rfl) ?_
                refine Rx.go (fun _ => rfl) ?_
                refine Rx.put rfl (by decide) rfl rfl ?_
                have hS56 := hS55.up (i := 13) (x := ((upd σ54 16 ((σ54 16) + 1)) 13) + ((nI acc.length) + 1)) (by omega)
                exact Rx.ret rfl rfl (rQ_f (b := acc) (tg_x hm hlt hgd (by rw [decide_eq_true d20]; rfl)) hS56 (by first | omega | (simp only [List.length_append, List.length_cons, List.length_nil]; omega)) (by omega))
              · replace c25 : fs = true := bi_eqf c25
                show Rx X c0 m_Mod_readTag 203 [.ref (c0 + 16), .int ((nI acc.length) + 1), .int ((nI run) + 1), .int (bi fs), .int 1, .int (hb t q), .int 1, .int 0] [] (upd σ54 16 ((σ54 16) + 1)) τ54 _
                refine Rx.go (fun _ => rfl) ?_
                refine Rx.go (fun _ => rfl) ?_
                show Rx X c0 m_Mod_readTag 208 [.ref (c0 + 16), .int ((nI acc.length) + 1), .int ((nI run) + 1), .int (bi fs), .int 1, .int (hb t q), .int 1, .int 0] [] (upd σ54 16 ((σ54 16) + 1)) τ54 _
                refine Rx.go (fun _ => rfl) ?_
                refine Rx.go (fun _ => rfl) ?_
                refine Rx.go (fun _ => rfl) ?_
                show Rx X c0 m_Mod_readTag 214 [.ref (c0 + 16), .int ((nI acc.length) + 1), .int ((nI run) + 1), .int 1, .int 1, .int (hb t q), .int 1, .int 0] [] (upd σ54 16 ((σ54 16) + 1)) τ54 _
                refine Rx.go (fun _ => rfl) ?_
                refine Rx.go (fun _ => rfl) ?_
                refine Rx.go (fun _ => rfl) ?_
                show Rx X c0 m_Mod_readTag 36 [.ref (c0 + 16), .int ((nI acc.length) + 1), .int ((nI run) + 1), .int 1, .int 1, .int (hb t q), .int 1, .int 0] [] (upd σ54 16 ((σ54 16) + 1)) τ54 _
                refine Rx.go (fun _ => rfl) ?_
                refine Rx.callE rfl rfl rfl rfl (rg_good hS55) ?_
                show Rx X c0 m_Mod_readTag 40 [.ref (c0 + 16), .int ((nI acc.length) + 1), .int ((nI run) + 1), .int 1, .int 1, .int (hb t q), .int 1, .int 0] [.int 0] (upd σ54 16 ((σ54 16) + 1)) τ54 _
                refine Rx.go (fun _ => rfl) ?_
                show Rx X c0 m_Mod_readTag 217 [.ref (c0 + 16), .int ((nI acc.length) + 1), .int ((nI run) + 1), .int 1, .int 1, .int (hb t q), .int 1, .int 0] [] (upd σ54 16 ((σ54 16) + 1)) τ54 _
                refine Rx.go (fun _ => rfl) ?_
                refine Rx.go (fun _ => rfl) ?_
                refine Rx.get rfl rfl ?_
                refine Rx.go (fun _ => rfl) ?_
                refine Rx.go (fun _ => rfl) ?_
                refine Rx.put rfl (by decide) rfl rfl ?_
                have hS57 := hS55.up (i := 13) (x := ((upd σ54 16 ((σ54 16) + 1)) 13) + ((nI acc.length) + 1)) (by omega)
                exact Rx.ret rfl rfl (rQ_f (b := acc) (tg_x hm hlt hgd (by rw [decide_eq_true d20]; rfl)) hS57 (by first | omega | (simp only [List.length_append, List.length_cons, List.length_nil]; omega)) (by omega))
            · replace c24 : ¬ 90 < (hb t q) := of_decide_eq_false c24
              show Rx X c0 m_Mod_readTag 160 [.ref (c0 + 16), .int (nI acc.length), .int (nI run), .int (bi fs), .int 1, .int (hb t q), .int 1, .int 0] [.ref (c0 + 16)] σ49 τ49 _
              refine Rx.go (fun _ => rfl) ?_
              refine Rx.go (fun _ => rfl) ?_
              refine Rx.go (fun _ => rfl) ?_
              refine Rx.go (fun _ => rfl) ?_
              refine Rx.callP rfl rfl rfl rfl (rg_put _ hS49 (by first | omega | (simp only [List.length_append, List.length_cons, List.length_nil]; omega))) ?_
              intro σ58 τ58 hS58
              show Rx X c0 m_Mod_readTag 173 [.ref (c0 + 16), .int (nI acc.length), .int (nI run), .int (bi fs), .int 1, .int (hb t q), .int 1, .int 0] [] σ58 τ58 _
              refine Rx.go (fun _ => rfl) ?_
              show Rx X c0 m_Mod_readTag 176 [.ref (c0 + 16), .int ((nI acc.length) + 1), .int (nI run), .int (bi fs), .int 1, .int (hb t q), .int 1, .int 0] [] σ58 τ58 _
              refine Rx.go (fun _ => rfl) ?_
              refine Rx.go (fun _ => rfl) ?_
              refine Rx.get rfl rfl ?_
              refine Rx.go (fun _ => rfl) ?_
              refine Rx.go (fun _ => rfl) ?_
              refine Rx.put rfl (by decide) rfl rfl ?_
              have hS59 := hS58.at1
              refine Rx.go (fun _ => rfl) ?_
              refine Rx.go (fun _ => rfl) ?_
              show Rx X c0 m_Mod_readTag 191 [.ref (c0 + 16), .int ((nI acc.length) + 1), .int (nI run), .int (bi fs), .int 1, .int (hb t q), .int 1, .int 0] [] (upd σ58 16 ((σ58 16) + 1)) τ58 _
              refine Rx.go (fun _ => rfl) ?_
              refine Rx.go (fun _ => rfl) ?_
              refine Rx.go (fun _ => rfl) ?_
              refine Rx.go (fun _ => rfl) ?_
              refine Rx.go (fun _ => rfl) ?_
              show Rx X c0 m_Mod_readTag 199 [.ref (c0 + 16), .int ((nI acc.length) + 1), .int ((nI run) + 1), .int (bi fs), .int 1, .int (hb t q), .int 1, .int 0] [] (upd σ58 16 ((σ58 16) + 1)) τ58 _
              refine Rx.go (fun _ => rfl) ?_
              refine Rx.go (fun _ => rfl) ?_
              refine Rx.ite (fun c26 => ?_) (fun c26 => ?_)
              · replace c26 : fs = false := bi_eqt c26
                show Rx X c0 m_Mod_readTag 212 [.ref (c0 + 16), .int ((nI acc.length) + 1), .int ((nI run) + 1), .int (bi fs), .int 1, .int (hb t q), .int 1, .int 0] [] (upd σ58 16 ((σ58 16) + 1)) τ58 _
                refine Rx.go (fun _ => rfl) ?_
                refine Rx.go (fun _ => rfl) ?_
                show Rx X c0 m_Mod_readTag 214 [.ref (c0 + 16), .int ((nI acc.length) + 1), .int ((nI run) + 1), .int 0, .int 1, .int (hb t q), .int 1, .int 0] [] (upd σ58 16 ((σ58 16) + 1)) τ58 _
                refine Rx.go (fun _ => rfl) ?_
                refine Rx.go (fun _ => rfl) ?_
                refine Rx.go (fun _ => rfl) ?_
                show Rx X c0 m_Mod_readTag 36 [.ref (c0 + 16), .int ((nI acc.length) + 1), .int ((nI run) + 1), .int 0, .int 1, .int (hb t q), .int 1, .int 0] [] (upd σ58 16 ((σ58 16) + 1)) τ58 _
                refine Rx.go (fun _ => rfl) ?_
                refine Rx.callE rfl rfl rfl rfl (rg_good hS59) ?_
                show Rx X c0 m_Mod_readTag 40 [.ref (c0 + 16), .int ((nI acc.length) + 1), .int ((nI run) + 1), .int 0, .int 1, .int (hb t q), .int 1, .int 0] [.int 0] (upd σ58 16 ((σ58 16) + 1)) τ58 _
                refine Rx.go (fun _ => rfl) ?_
                show Rx X c0 m_Mod_readTag 217 [.ref (c0 + 16), .int ((nI acc.length) + 1), .int ((nI run) + 1), .int 0, .int 1, .int (hb t q), .int 1, .int 0] [] (upd σ58 16 ((σ58 16) + 1)) τ58 _
                refine Rx.go (fun _ => rfl) ?_
                refine Rx.go (fun _ => rfl) ?_
                refine Rx.get rfl rfl ?_
                refine Rx.go (fun _ => rfl) ?_
                refine Rx.go (fun _ => rfl) ?_
                refine Rx.put rfl (by decide) rfl rfl ?_
                have hS60 := hS59.up (i := 13) (x := ((upd σ58 16 ((σ58 16) + 1)) 13) + ((nI acc.length) + 1)) (by omega)
                exact Rx.ret rfl rfl (rQ_f (b := acc) (tg_x hm hlt hgd (by rw [decide_eq_true d20]; rfl)) hS60 (by first | omega | (simp only [List.length_append, List.length_cons, List.length_nil]; omega)) (by omega))
              · replace c26 : fs = true := bi_eqf c26
                show Rx X c0 m_Mod_readTag 203 [.ref (c0 + 16), .int ((nI acc.length) + 1), .int ((nI run) + 1), .int (bi fs), .int 1, .int (hb t q), .int 1, .int 0] [] (upd σ58 16 ((σ58 16) + 1)) τ58 _
                refine Rx.go (fun _ => rfl) ?_
                refine Rx.go (fun _ => rfl) ?_
                show Rx X c0 m_Mod_readTag 208 [.ref (c0 + 16), .int ((nI acc.length) + 1), .int ((nI run) + 1), .int (bi fs), .int 1, .int (hb t q), .int 1, .int 0] [] (upd σ58 16 ((σ58 16) + 1)) τ58 _
                refine Rx.go (fun _ => rfl) ?_
                refine Rx.go (fun _ => rfl) ?_
                refine Rx.go (fun _ => rfl) ?_
                show Rx X c0 m_Mod_readTag 214 [.ref (c0 + 16), .int ((nI acc.length) + 1), .int ((nI run) + 1), .int 1, .int 1, .int (hb t q), .int 1, .int 0] [] (upd σ58 16 ((σ58 16) + 1)) τ58 _
                refine Rx.go (fun _ => rfl) ?_
                refine Rx.go (fun _ => rfl) ?_
                refine Rx.go (fun _ => rfl) ?_
                show Rx X c0 m_Mod_readTag 36 [.ref (c0 + 16), .int ((nI acc.length) + 1), .int ((nI run) + 1), .int 1, .int 1, .int (hb t q), .int 1, .int 0] [] (upd σ58 16 ((σ58 16) + 1)) τ58 _
                refine Rx.go (fun _ => rfl) ?_
                refine Rx.callE rfl rfl rfl rfl (rg_good hS59) ?_
                show Rx X c0 m_Mod_readTag 40 [.ref (c0 + 16), .int ((nI acc.length) + 1), .int ((nI run) + 1), .int 1, .int 1, .int (hb t q), .int 1, .int 0] [.int 0] (upd σ58 16 ((σ58 16) + 1)) τ58 _
                refine Rx.go (fun _ => rfl) ?_
                show Rx X c0 m_Mod_readTag 217 [.ref (c0 + 16), .int ((nI acc.length) + 1), .int ((nI run) + 1), .int 1, .int 1, .int (hb t q), .int 1, .int 0] [] (upd σ58 16 ((σ58 16) + 1)) τ58 _
                refine Rx.go (fun _ => rfl) ?_
                refine Rx.go (fun _ => rfl) ?_
                refine Rx.get rfl rfl ?_
                refine Rx.go (fun _ => rfl) ?_
                refine Rx.go (fun _ => rfl) ?_
                refine Rx.put rfl (by decide) rfl rfl ?_
                have hS61 := hS59.up (i := 13) (x := ((upd σ58 16 ((σ58 16) + 1)) 13) + ((nI acc.length) + 1)) (by omega)
                exact Rx.ret rfl rfl (rQ_f (b := acc) (tg_x hm hlt hgd (by rw [decide_eq_true d20]; rfl)) hS61 (by first | omega | (simp only [List.length_append, List.length_cons, List.length_nil]; omega)) (by omega))
        · replace c21 : ¬ (nI acc.length) = 20 := of_decide_eq_false c21
          have d20 : ¬ acc.length = 20 := fun e => c21 (by rw [e]; rfl)
          show Rx X c0 m_Mod_readTag 125 [.ref (c0 + 16), .int (nI acc.length), .int (nI run), .int (bi fs), .int 1, .int (hb t q), .int 1, .int 0] [] σ τ _
          refine Rx.go (fun _ => rfl) ?_
          refine Rx.go (fun _ => rfl) ?_
          show Rx X c0 m_Mod_readTag 130 [.ref (c0 + 16), .int (nI acc.length), .int (nI run), .int (bi fs), .int 1, .int (hb t q), .int 1, .int 0] [] σ τ _
          refine Rx.go (fun _ => rfl) ?_
          refine Rx.go (fun _ => rfl) ?_
          refine Rx.go (fun _ => rfl) ?_
          refine Rx.ite (fun c27 => ?_) (fun c27 => ?_)
          · replace c27 : ¬ (nI run) = 8 := of_decide_eq_true c27
            have d8 : ¬ run = 8 := fun e => c27 (by rw [e]; rfl)
            show Rx X c0 m_Mod_readTag 145 [.ref (c0 + 16), .int (nI acc.length), .int (nI run), .int (bi fs), .int 1, .int (hb t q), .int 1, .int 0] [] σ τ _
            refine Rx.go (fun _ => rfl) ?_
            refine Rx.go (fun _ => rfl) ?_
            refine Rx.go (fun _ => rfl) ?_
            refine Rx.go (fun _ => rfl) ?_
            refine Rx.ite (fun c28 => ?_) (fun c28 => ?_)
            · replace c28 : (hb t q) < 65 := of_decide_eq_true c28
              show Rx X c0 m_Mod_readTag 168 [.ref (c0 + 16), .int (nI acc.length), .int (nI run), .int (bi fs), .int 1, .int (hb t q), .int 1, .int 0] [.ref (c0 + 16)] σ τ _
              refine Rx.go (fun _ => rfl) ?_
              refine Rx.top (y := nI (smlN (t.getD q 0))) (by rw [hb_lt hlt]; exact sml_b (hS.z.by q) (Or.inl (by rw [← hb_lt hlt]; exact c28))) ?_
              refine Rx.callP rfl rfl rfl rfl (rs_put (smlN (t.getD q 0)) hS (by first | omega | (simp only [List.length_append, List.length_cons, List.length_nil]; omega))) ?_
              intro σ62 τ62 hS62
              show Rx X c0 m_Mod_readTag 173 [.ref (c0 + 16), .int (nI acc.length), .int (nI run), .int (bi fs), .int 1, .int (hb t q), .int 1, .int 0] [] σ62 τ62 _
              refine Rx.go (fun _ => rfl) ?_
              show Rx X c0 m_Mod_readTag 176 [.ref (c0 + 16), .int ((nI acc.length) + 1), .int (nI run), .int (bi fs), .int 1, .int (hb t q), .int 1, .int 0] [] σ62 τ62 _
              refine Rx.go (fun _ => rfl) ?_
              refine Rx.go (fun _ => rfl) ?_
              refine Rx.get rfl rfl ?_
              refine Rx.top (y := nI q) hS62.f16 ?_
              refine Rx.go (fun _ => rfl) ?_
              refine Rx.go (fun _ => rfl) ?_
              refine Rx.top (y := nI (q + 1)) (nI_1 _) ?_
              refine Rx.put rfl (by decide) rfl rfl ?_
              have hS63 := hS62.at1 hlt
              refine Rx.go (fun _ => rfl) ?_
              refine Rx.go (fun _ => rfl) ?_
              show Rx X c0 m_Mod_readTag 191 [.ref (c0 + 16), .int ((nI acc.length) + 1), .int (nI run), .int (bi fs), .int 1, .int (hb t q), .int 1, .int 0] [] (upd σ62 16 (nI (q + 1))) τ62 _
              refine Rx.go (fun _ => rfl) ?_
              refine Rx.go (fun _ => rfl) ?_
              refine Rx.go (fun _ => rfl) ?_
              refine Rx.go (fun _ => rfl) ?_
              refine Rx.go (fun _ => rfl) ?_
              show Rx X c0 m_Mod_readTag 199 [.ref (c0 + 16), .int ((nI acc.length) + 1), .int ((nI run) + 1), .int (bi fs), .int 1, .int (hb t q), .int 1, .int 0] [] (upd σ62 16 (nI (q + 1))) τ62 _
              refine Rx.go (fun _ => rfl) ?_
              refine Rx.go (fun _ => rfl) ?_
              refine Rx.ite (fun c29 => ?_) (fun c29 => ?_)
              · replace c29 : fs = false := bi_eqt c29
                show Rx X c0 m_Mod_readTag 212 [.ref (c0 + 16), .int ((nI acc.length) + 1), .int ((nI run) + 1), .int (bi fs), .int 1, .int (hb t q), .int 1, .int 0] [] (upd σ62 16 (nI (q + 1))) τ62 _
                refine Rx.go (fun _ => rfl) ?_
                refine Rx.go (fun _ => rfl) ?_
                show Rx X c0 m_Mod_readTag 214 [.ref (c0 + 16), .int ((nI acc.length) + 1), .int ((nI run) + 1), .int 0, .int 1, .int (hb t q), .int 1, .int 0] [] (upd σ62 16 (nI (q + 1))) τ62 _
                refine Rx.go (fun _ => rfl) ?_
                show Rx X c0 m_Mod_readTag 31 [.ref (c0 + 16), .int ((nI acc.length) + 1), .int ((nI run) + 1), .int 0, .int 1, .int (hb t q), .int 1, .int 0] [] (upd σ62 16 (nI (q + 1))) τ62 _
                rw [show nI run + 1 = nI (run + 1) from nI_1 run]
                obtain ⟨m1, rfl⟩ : ∃ m1, m = m1 + 1 := ⟨m - 1, by omega⟩
                have e1 : sT t (m1 + 1) q run fs acc = sT t m1 (q + 1) (run + 1) false (acc ++ [smlN (t.getD q 0)]) := by rw [tg_n hgd (by rw [decide_eq_false d20, decide_eq_false d8]; simp), hd]; first | rfl | simp [hg, c29]
                rw [e1, show nI acc.length + 1 = nI (acc ++ [smlN (t.getD q 0)]).length by rw [nI_1, List.length_append]; rfl]
                exact ih m1 (by omega) (q + 1) (run + 1) false (acc ++ [smlN (t.getD q 0)]) _ _ _ _ _ (by omega) (by simp only [List.length_append, List.length_cons, List.length_nil]; omega) (by omega) (by rw [← List.append_assoc]; exact hS63)
              · replace c29 : fs = true := bi_eqf c29
                show Rx X c0 m_Mod_readTag 203 [.ref (c0 + 16), .int ((nI acc.length) + 1), .int ((nI run) + 1), .int (bi fs), .int 1, .int (hb t q), .int 1, .int 0] [] (upd σ62 16 (nI (q + 1))) τ62 _
                refine Rx.go (fun _ => rfl) ?_
                refine Rx.go (fun _ => rfl) ?_
                show Rx X c0 m_Mod_readTag 208 [.ref (c0 + 16), .int ((nI acc.length) + 1), .int ((nI run) + 1), .int (bi fs), .int 1, .int (hb t q), .int 1, .int 0] [] (upd σ62 16 (nI (q + 1))) τ62 _
                refine Rx.go (fun _ => rfl) ?_
                refine Rx.go (fun _ => rfl) ?_
                refine Rx.go (fun _ => rfl) ?_
                show Rx X c0 m_Mod_readTag 214 [.ref (c0 + 16), .int ((nI acc.length) + 1), .int ((nI run) + 1), .int 1, .int 1, .int (hb t q), .int 1, .int 0] [] (upd σ62 16 (nI (q + 1))) τ62 _
                refine Rx.go (fun _ => rfl) ?_
                show Rx X c0 m_Mod_readTag 31 [.ref (c0 + 16), .int ((nI acc.length) + 1), .int ((nI run) + 1), .int 1, .int 1, .int (hb t q), .int 1, .int 0] [] (upd σ62 16 (nI (q + 1))) τ62 _
                rw [show nI run + 1 = nI (run + 1) from nI_1 run]
                obtain ⟨m1, rfl⟩ : ∃ m1, m = m1 + 1 := ⟨m - 1, by omega⟩
                have e1 : sT t (m1 + 1) q run fs acc = sT t m1 (q + 1) (run + 1) true (acc ++ [smlN (t.getD q 0)]) := by rw [tg_n hgd (by rw [decide_eq_false d20, decide_eq_false d8]; simp), hd]; first | rfl | simp [hg, c29]
                rw [e1, show nI acc.length + 1 = nI (acc ++ [smlN (t.getD q 0)]).length by rw [nI_1, List.length_append]; rfl]
                exact ih m1 (by omega) (q + 1) (run + 1) true (acc ++ [smlN (t.getD q 0)]) _ _ _ _ _ (by omega) (by simp only [List.length_append, List.length_cons, List.length_nil]; omega) (by omega) (by rw [← List.append_assoc]; exact hS63)
            · replace c28 : ¬ (hb t q) < 65 := of_decide_eq_false c28
              show Rx X c0 m_Mod_readTag 153 [.ref (c0 + 16), .int (nI acc.length), .int (nI run), .int (bi fs), .int 1, .int (hb t q), .int 1, .int 0] [.ref (c0 + 16)] σ τ _
              refine Rx.go (fun _ => rfl) ?_
              refine Rx.go (fun _ => rfl) ?_
              refine Rx.go (fun _ => rfl) ?_
              refine Rx.ite (fun c30 => ?_) (fun c30 => ?_)
              · replace c30 : 90 < (hb t q) := of_decide_eq_true c30
                show Rx X c0 m_Mod_readTag 168 [.ref (c0 + 16), .int (nI acc.length), .int (nI run), .int (bi fs), .int 1, .int (hb t q), .int 1, .int 0] [.ref (c0 + 16)] σ τ _
                refine Rx.go (fun _ => rfl) ?_
                refine Rx.top (y := nI (smlN (t.getD q 0))) (by rw [hb_lt hlt]; exact sml_b (hS.z.by q) (Or.inr (by rw [← hb_lt hlt]; exact c30))) ?_
                refine Rx.callP rfl rfl rfl rfl (rs_put (smlN (t.getD q 0)) hS (by first | omega | (simp only [List.length_append, List.length_cons, List.length_nil]; omega))) ?_
                intro σ64 τ64 hS64
                show Rx X c0 m_Mod_readTag 173 [.ref (c0 + 16), .int (nI acc.length), .int (nI run), .int (bi fs), .int 1, .int (hb t q), .int 1, .int 0] [] σ64 τ64 _
                refine Rx.go (fun _ => rfl) ?_
                show Rx X c0 m_Mod_readTag 176 [.ref (c0 + 16), .int ((nI acc.length) + 1), .int (nI run), .int (bi fs), .int 1, .int (hb t q), .int 1, .int 0] [] σ64 τ64 _
                refine Rx.go (fun _ => rfl) ?_
                refine Rx.go (fun _ => rfl) ?_
                refine Rx.get rfl rfl ?_
                refine Rx.top (y := nI q) hS64.f16 ?_
                refine Rx.go (fun _ => rfl) ?_
                refine Rx.go (fun _ => rfl) ?_
                refine Rx.top (y := nI (q + 1)) (nI_1 _) ?_
                refine Rx.put rfl (by decide) rfl rfl ?_
                have hS65 := hS64.at1 hlt
                refine Rx.go (fun _ => rfl) ?_
                refine Rx.go (fun _ => rfl) ?_
                show Rx X c0 m_Mod_readTag 191 [.ref (c0 + 16), .int ((nI acc.length) + 1), .int (nI run), .int (bi fs), .int 1, .int (hb t q), .int 1, .int 0] [] (upd σ64 16 (nI (q + 1))) τ64 _
                refine Rx.go (fun _ => rfl) ?_
                refine Rx.go (fun _ => rfl) ?_
                refine Rx.go (fun _ => rfl) ?_
                refine Rx.go (fun _ => rfl) ?_
                refine Rx.go (fun _ => rfl) ?_
                show Rx X c0 m_Mod_readTag 199 [.ref (c0 + 16), .int ((nI acc.length) + 1), .int ((nI run) + 1), .int (bi fs), .int 1, .int (hb t q), .int 1, .int 0] [] (upd σ64 16 (nI (q + 1))) τ64 _
                refine Rx.go (fun _ => rfl) ?_
                refine Rx.go (fun _ => rfl) ?_
                refine Rx.ite (fun c31 => ?_) (fun c31 => ?_)
                · replace c31 : fs = false := bi_eqt c31
                  show Rx X c0 m_Mod_readTag 212 [.ref (c0 + 16), .int ((nI acc.length) + 1), .int ((nI run) + 1), .int (bi fs), .int 1, .int (hb t q), .int 1, .int 0] [] (upd σ64 16 (nI (q + 1))) τ64 _
                  refine Rx.go (fun _ => rfl) ?_
                  refine Rx.go (fun _ => rfl) ?_
                  show Rx X c0 m_Mod_readTag 214 [.ref (c0 + 16), .int ((nI acc.length) + 1), .int ((nI run) + 1), .int 0, .int 1, .int (hb t q), .int 1, .int 0] [] (upd σ64 16 (nI (q + 1))) τ64 _
                  refine Rx.go (fun _ => rfl) ?_
                  show Rx X c0 m_Mod_readTag 31 [.ref (c0 + 16), .int ((nI acc.length) + 1), .int ((nI run) + 1), .int 0, .int 1, .int (hb t q), .int 1, .int 0] [] (upd σ64 16 (nI (q + 1))) τ64 _
                  rw [show nI run + 1 = nI (run + 1) from nI_1 run]
                  obtain ⟨m1, rfl⟩ : ∃ m1, m = m1 + 1 := ⟨m - 1, by omega⟩
                  have e1 : sT t (m1 + 1) q run fs acc = sT t m1 (q + 1) (run + 1) false (acc ++ [smlN (t.getD q 0)]) := by rw [tg_n hgd (by rw [decide_eq_false d20, decide_eq_false d8]; simp), hd]; first | rfl | simp [hg, c31]
                  rw [e1, show nI acc.length + 1 = nI (acc ++ [smlN (t.getD q 0)]).length by rw [nI_1, List.length_append]; rfl]
                  exact ih m1 (by omega) (q + 1) (run + 1) false (acc ++ [smlN (t.getD q 0)]) _ _ _ _ _ (by omega) (by simp only [List.length_append, List.length_cons, List.length_nil]; omega) (by omega) (by rw [← List.append_assoc]; exact hS65)
                · replace c31 : fs = true := bi_eqf c31
                  show Rx X c0 m_Mod_readTag 203 [.ref (c0 + 16), .int ((nI acc.length) + 1), .int ((nI run) + 1), .int (bi fs), .int 1, .int (hb t q), .int 1, .int 0] [] (upd σ64 16 (nI (q + 1))) τ64 _
                  refine Rx.go (fun _ => rfl) ?_
                  refine Rx.go (fun _ => rfl) ?_
                  show Rx X c0 m_Mod_readTag 208 [.ref (c0 + 16), .int ((nI acc.length) + 1), .int ((nI run) + 1), .int (bi fs), .int 1, .int (hb t q), .int 1, .int 0] [] (upd σ64 16 (nI (q + 1))) τ64 _
                  refine Rx.go (fun _ => rfl) ?_
                  refine Rx.go (fun _ => rfl) ?_
                  refine Rx.go (fun _ => rfl) ?_
                  show Rx X c0 m_Mod_readTag 214 [.ref (c0 + 16), .int ((nI acc.length) + 1), .int ((nI run) + 1), .int 1, .int 1, .int (hb t q), .int 1, .int 0] [] (upd σ64 16 (nI (q + 1))) τ64 _
                  refine Rx.go (fun _ => rfl) ?_
                  show Rx X c0 m_Mod_readTag 31 [.ref (c0 + 16), .int ((nI acc.length) + 1), .int ((nI run) + 1), .int 1, .int 1, .int (hb t q), .int 1, .int 0] [] (upd σ64 16 (nI (q + 1))) τ64 _
                  rw [show nI run + 1 = nI (run + 1) from nI_1 run]
                  obtain ⟨m1, rfl⟩ : ∃ m1, m = m1 + 1 := ⟨m - 1, by omega⟩
                  have e1 : sT t (m1 + 1) q run fs acc = sT t m1 (q + 1) (run + 1) true (acc ++ [smlN (t.getD q 0)]) := by rw [tg_n hgd (by rw [decide_eq_false d20, decide_eq_false d8]; simp), hd]; first | rfl | simp [hg, c31]
                  rw [e1, show nI acc.length + 1 = nI (acc ++ [smlN (t.getD q 0)]).length by rw [nI_1, List.length_append]; rfl]
                  exact ih m1 (by omega) (q + 1) (run + 1) true (acc ++ [smlN (t.getD q 0)]) _ _ _ _ _ (by omega) (by simp only [List.length_append, List.length_cons, List.length_nil]; omega) (by omega) (by rw [← List.append_assoc]; exact hS65)
              · replace c30 : ¬ 90 < (hb t q) := of_decide_eq_false c30
                show Rx X c0 m_Mod_readTag 160 [.ref (c0 + 16), .int (nI acc.length), .int (nI run), .int (bi fs), .int 1, .int (hb t q), .int 1, .int 0] [.ref (c0 + 16)] σ τ _
                refine Rx.go (fun _ => rfl) ?_
                refine Rx.go (fun _ => rfl) ?_
                refine Rx.go (fun _ => rfl) ?_
                refine Rx.go (fun _ => rfl) ?_
                refine Rx.top (y := nI (smlN (t.getD q 0))) (by rw [hb_lt hlt]; exact sml_a (hS.z.by q) (by rw [← hb_lt hlt]; exact c28) (by rw [← hb_lt hlt]; exact c30)) ?_
                refine Rx.callP rfl rfl rfl rfl (rs_put (smlN (t.getD q 0)) hS (by first | omega | (simp only [List.length_append, List.length_cons, List.length_nil]; omega))) ?_
                intro σ66 τ66 hS66
                show Rx X c0 m_Mod_readTag 173 [.ref (c0 + 16), .int (nI acc.length), .int (nI run), .int (bi fs), .int 1, .int (hb t q), .int 1, .int 0] [] σ66 τ66 _
                refine Rx.go (fun _ => rfl) ?_
                show Rx X c0 m_Mod_readTag 176 [.ref (c0 + 16), .int ((nI acc.length) + 1), .int (nI run), .int (bi fs), .int 1, .int (hb t q), .int 1, .int 0] [] σ66 τ66 _
                refine Rx.go (fun _ => rfl) ?_
                refine Rx.go (fun _ => rfl) ?_
                refine Rx.get rfl rfl ?_
                refine Rx.top (y := nI q) hS66.f16 ?_
                refine Rx.go (fun _ => rfl) ?_
                refine Rx.go (fun _ => rfl) ?_
                refine Rx.top (y := nI (q + 1)) (nI_1 _) ?_
                refine Rx.put rfl (by decide) rfl rfl ?_
                have hS67 := hS66.at1 hlt
                refine Rx.go (fun _ => rfl) ?_
                refine Rx.go (fun _ => rfl) ?_
                show Rx X c0 m_Mod_readTag 191 [.ref (c0 + 16), .int ((nI acc.length) + 1), .int (nI run), .int (bi fs), .int 1, .int (hb t q), .int 1, .int 0] [] (upd σ66 16 (nI (q + 1))) τ66 _
                refine Rx.go (fun _ => rfl) ?_
                refine Rx.go (fun _ => rfl) ?_
                refine Rx.go (fun _ => rfl) ?_
                refine Rx.go (fun _ => rfl) ?_
                refine Rx.go (fun _ => rfl) ?_
                show Rx X c0 m_Mod_readTag 199 [.ref (c0 + 16), .int ((nI acc.length) + 1), .int ((nI run) + 1), .int (bi fs), .int 1, .int (hb t q), .int 1, .int 0] [] (upd σ66 16 (nI (q + 1))) τ66 _
                refine Rx.go (fun _ => rfl) ?_
                refine Rx.go (fun _ => rfl) ?_
                refine Rx.ite (fun c32 => ?_) (fun c32 => ?_)
                · replace c32 : fs = false := bi_eqt c32
                  show Rx X c0 m_Mod_readTag 212 [.ref (c0 + 16), .int ((nI acc.length) + 1), .int ((nI run) + 1), .int (bi fs), .int 1, .int (hb t q), .int 1, .int 0] [] (upd σ66 16 (nI (q + 1))) τ66 _
                  refine Rx.go (fun _ => rfl) ?_
                  refine Rx.go (fun _ => rfl) ?_
                  show Rx X c0 m_Mod_readTag 214 [.ref (c0 + 16), .int ((nI acc.length) + 1), .int ((nI run) + 1), .int 0, .int 1, .int (hb t q), .int 1, .int 0] [] (upd σ66 16 (nI (q + 1))) τ66 _
                  refine Rx.go (fun _ => rfl) ?_
                  show Rx X c0 m_Mod_readTag 31 [.ref (c0 + 16), .int ((nI acc.length) + 1), .int ((nI run) + 1), .int 0, .int 1, .int (hb t q), .int 1, .int 0] [] (upd σ66 16 (nI (q + 1))) τ66 _
                  rw [show nI run + 1 = nI (run + 1) from nI_1 run]
                  obtain ⟨m1, rfl⟩ : ∃ m1, m = m1 + 1 := ⟨m - 1, by omega⟩
                  have e1 : sT t (m1 + 1) q run fs acc = sT t m1 (q + 1) (run + 1) false (acc ++ [smlN (t.getD q 0)]) := by rw [tg_n hgd (by rw [decide_eq_false d20, decide_eq_false d8]; simp), hd]; first | rfl | simp [hg, c32]
                  rw [e1, show nI acc.length + 1 = nI (acc ++ [smlN (t.getD q 0)]).length by rw [nI_1, List.length_append]; rfl]
                  exact ih m1 (by omega) (q + 1) (run + 1) false (acc ++ [smlN (t.getD q 0)]) _ _ _ _ _ (by omega) (by simp only [List.length_append, List.length_cons, List.length_nil]; omega) (by omega) (by rw [← List.append_assoc]; exact hS67)
                · replace c32 : fs = true := bi_eqf c32
                  show Rx X c0 m_Mod_readTag 203 [.ref (c0 + 16), .int ((nI acc.length) + 1), .int ((nI run) + 1), .int (bi fs), .int 1, .int (hb t q), .int 1, .int 0] [] (upd σ66 16 (nI (q + 1))) τ66 _
                  refine Rx.go (fun _ => rfl) ?_
                  refine Rx.go (fun _ => rfl) ?_
                  show Rx X c0 m_Mod_readTag 208 [.ref (c0 + 16), .int ((nI acc.length) + 1), .int ((nI run) + 1), .int (bi fs), .int 1, .int (hb t q), .int 1, .int 0] [] (upd σ66 16 (nI (q + 1))) τ66 _
                  refine Rx.go (fun _ => rfl) ?_
                  refine Rx.go (fun _ => rfl) ?_
                  refine Rx.go (fun _ => rfl) ?_
                  show Rx X c0 m_Mod_readTag 214 [.ref (c0 + 16), .int ((nI acc.length) + 1), .int ((nI run) + 1), .int 1, .int 1, .int (hb t q), .int 1, .int 0] [] (upd σ66 16 (nI (q + 1))) τ66 _
                  refine Rx.go (fun _ => rfl) ?_
                  show Rx X c0 m_Mod_readTag 31 [.ref (c0 + 16), .int ((nI acc.length) + 1), .int ((nI run) + 1), .int 1, .int 1, .int (hb t q), .int 1, .int 0] [] (upd σ66 16 (nI (q + 1))) τ66 _
                  rw [show nI run + 1 = nI (run + 1) from nI_1 run]
                  obtain ⟨m1, rfl⟩ : ∃ m1, m = m1 + 1 := ⟨m - 1, by omega⟩
                  have e1 : sT t (m1 + 1) q run fs acc = sT t m1 (q + 1) (run + 1) true (acc ++ [smlN (t.getD q 0)]) := by rw [tg_n hgd (by rw [decide_eq_false d20, decide_eq_false d8]; simp), hd]; first | rfl | simp [hg, c32]
                  rw [e1, show nI acc.length + 1 = nI (acc ++ [smlN (t.getD q 0)]).length by rw [nI_1, List.length_append]; rfl]
                  exact ih m1 (by omega) (q + 1) (run + 1) true (acc ++ [smlN (t.getD q 0)]) _ _ _ _ _ (by omega) (by simp only [List.length_append, List.length_cons, List.length_nil]; omega) (by omega) (by rw [← List.append_assoc]; exact hS67)
          · replace c27 : (nI run) = 8 := Classical.not_not.mp (of_decide_eq_false c27)
            have d8 : run = 8 := (nI_eq (b := 8) (by omega) (by decide)).mp c27
            show Rx X c0 m_Mod_readTag 136 [.ref (c0 + 16), .int (nI acc.length), .int (nI run), .int (bi fs), .int 1, .int (hb t q), .int 1, .int 0] [] σ τ _
            refine Rx.go (fun _ => rfl) ?_
            refine Rx.go (fun _ => rfl) ?_
            refine Rx.go (fun _ => rfl) ?_
            refine Rx.get rfl rfl ?_
            refine Rx.top (y := nI q) hS.f16 ?_
            refine Rx.callP rfl rfl rfl rfl (rs_fl (wn := q) hS (by decide) rfl) ?_
            intro σ68 τ68 hS68
            show Rx X c0 m_Mod_readTag 145 [.ref (c0 + 16), .int (nI acc.length), .int (nI run), .int (bi fs), .int 1, .int (hb t q), .int 1, .int 0] [] σ68 τ68 _
            refine Rx.go (fun _ => rfl) ?_
            refine Rx.go (fun _ => rfl) ?_
            refine Rx.go (fun _ => rfl) ?_
            refine Rx.go (fun _ => rfl) ?_
            refine Rx.ite (fun c33 => ?_) (fun c33 => ?_)
            · replace c33 : (hb t q) < 65 := of_decide_eq_true c33
              show Rx X c0 m_Mod_readTag 168 [.ref (c0 + 16), .int (nI acc.length), .int (nI run), .int (bi fs), .int 1, .int (hb t q), .int 1, .int 0] [.ref (c0 + 16)] σ68 τ68 _
              refine Rx.go (fun _ => rfl) ?_
              refine Rx.callP rfl rfl rfl rfl (rg_put _ hS68 (by first | omega | (simp only [List.length_append, List.length_cons, List.length_nil]; omega))) ?_
              intro σ69 τ69 hS69
              show Rx X c0 m_Mod_readTag 173 [.ref (c0 + 16), .int (nI acc.length), .int (nI run), .int (bi fs), .int 1, .int (hb t q), .int 1, .int 0] [] σ69 τ69 _
              refine Rx.go (fun _ => rfl) ?_
              show Rx X c0 m_Mod_readTag 176 [.ref (c0 + 16), .int ((nI acc.length) + 1), .int (nI run), .int (bi fs), .int 1, .int (hb t q), .int 1, .int 0] [] σ69 τ69 _
              refine Rx.go (fun _ => rfl) ?_
              refine Rx.go (fun _ => rfl) ?_
              refine Rx.get rfl rfl ?_
              refine Rx.go (fun _ => rfl) ?_
              refine Rx.go (fun _ => rfl) ?_
              refine Rx.put rfl (by decide) rfl rfl ?_
              have hS70 := hS69.at1
              refine Rx.go (fun _ => rfl) ?_
              refine Rx.go (fun _ => rfl) ?_
              show Rx X c0 m_Mod_readTag 191 [.ref (c0 + 16), .int ((nI acc.length) + 1), .int (nI run), .int (bi fs), .int 1, .int (hb t q), .int 1, .int 0] [] (upd σ69 16 ((σ69 16) + 1)) τ69 _
              refine Rx.go (fun _ => rfl) ?_
              refine Rx.go (fun _ => rfl) ?_
              refine Rx.go (fun _ => rfl) ?_
              refine Rx.go (fun _ => rfl) ?_
              refine Rx.go (fun _ => rfl) ?_
              show Rx X c0 m_Mod_readTag 199 [.ref (c0 + 16), .int ((nI acc.length) + 1), .int ((nI run) + 1), .int (bi fs), .int 1, .int (hb t q), .int 1, .int 0] [] (upd σ69 16 ((σ69 16) + 1)) τ69 _
              refine Rx.go (fun _ => rfl) ?_
              refine Rx.go (fun _ => rfl) ?_
              refine Rx.ite (fun c34 => ?_) (fun c34 => ?_)
              · replace c34 : fs = false := bi_eqt c34
                show Rx X c0 m_Mod_readTag 212 [.ref (c0 + 16), .int ((nI acc.length) + 1), .int ((nI run) + 1), .int (bi fs), .int 1, .int (hb t q), .int 1, .int 0] [] (upd σ69 16 ((σ69 16) + 1)) τ69 _
                refine Rx.go (fun _ => rfl) ?_
                refine Rx.go (fun _ => rfl) ?_
                show Rx X c0 m_Mod_readTag 214 [.ref (c0 + 16), .int ((nI acc.length) + 1), .int ((nI run) + 1), .int 0, .int 1, .int (hb t q), .int 1, .int 0] [] (upd σ69 16 ((σ69 16) + 1)) τ69 _
                refine Rx.go (fun _ => rfl) ?_
                refine Rx.go (fun _ => rfl) ?_
                refine Rx.go (fun _ => rfl) ?_
                show Rx X c0 m_Mod_readTag 36 [.ref (c0 + 16), .int ((nI acc.length) + 1), .int ((nI run) + 1), .int 0, .int 1, .int (hb t q), .int 1, .int 0] [] (upd σ69 16 ((σ69 16) + 1)) τ69 _
                refine Rx.go (fun _ => rfl) ?_
                refine Rx.callE rfl rfl rfl rfl (rg_good hS70) ?_
                show Rx X c0 m_Mod_readTag 40 [.ref (c0 + 16), .int ((nI acc.length) + 1), .int ((nI run) + 1), .int 0, .int 1, .int (hb t q), .int 1, .int 0] [.int 0] (upd σ69 16 ((σ69 16) + 1)) τ69 _
                refine Rx.go (fun _ => rfl) ?_
                show Rx X c0 m_Mod_readTag 217 [.ref (c0 + 16), .int ((nI acc.length) + 1), .int ((nI run) + 1), .int 0, .int 1, .int (hb t q), .int 1, .int 0] [] (upd σ69 16 ((σ69 16) + 1)) τ69 _
                refine Rx.go (fun _ => rfl) ?_
                refine Rx.go (fun _ => rfl) ?_
                refine Rx.get rfl rfl ?_
                refine Rx.go (fun _ => rfl) ?_
                refine Rx.go (fun _ => rfl) ?_
                refine Rx.put rfl (by decide) rfl rfl ?_
                have hS71 := hS70.up (i := 13) (x := ((upd σ69 16 ((σ69 16) + 1)) 13) + ((nI acc.length) + 1)) (by omega)
                exact Rx.ret rfl rfl (rQ_f (b := acc) (tg_x hm hlt hgd (by rw [hg, decide_eq_true d8]; simp)) hS71 (by first | omega | (simp only [List.length_append, List.length_cons, List.length_nil]; omega)) (by omega))
              · replace c34 : fs = true := bi_eqf c34
                show Rx X c0 m_Mod_readTag 203 [.ref (c0 + 16), .int ((nI acc.length) + 1), .int ((nI run) + 1), .int (bi fs), .int 1, .int (hb t q), .int 1, .int 0] [] (upd σ69 16 ((σ69 16) + 1)) τ69 _
                refine Rx.go (fun _ => rfl) ?_
                refine Rx.go (fun _ => rfl) ?_
                show Rx X c0 m_Mod_readTag 208 [.ref (c0 + 16), .int ((nI acc.length) + 1), .int ((nI run) + 1), .int (bi fs), .int 1, .int (hb t q), .int 1, .int 0] [] (upd σ69 16 ((σ69 16) + 1)) τ69 _
                refine Rx.go (fun _ => rfl) ?_
                refine Rx.go (fun _ => rfl) ?_
                refine Rx.go (fun _ => rfl) ?_
                show Rx X c0 m_Mod_readTag 214 [.ref (c0 + 16), .int ((nI acc.length) + 1), .int ((nI run) + 1), .int 1, .int 1, .int (hb t q), .int 1, .int 0] [] (upd σ69 16 ((σ69 16) + 1)) τ69 _
                refine Rx.go (fun _ => rfl) ?_
                refine Rx.go (fun _ => rfl) ?_
                refine Rx.go (fun _ => rfl) ?_
                show Rx X c0 m_Mod_readTag 36 [.ref (c0 + 16), .int ((nI acc.length) + 1), .int ((nI run) + 1), .int 1, .int 1, .int (hb t q), .int 1, .int 0] [] (upd σ69 16 ((σ69 16) + 1)) τ69 _
                refine Rx.go (fun _ => rfl) ?_
                refine Rx.callE rfl rfl rfl rfl (rg_good hS70) ?_
                show Rx X c0 m_Mod_readTag 40 [.ref (c0 + 16), .int ((nI acc.length) + 1), .int ((nI run) + 1), .int 1, .int 1, .int (hb t q), .int 1, .int 0] [.int 0] (upd σ69 16 ((σ69 16) + 1)) τ69 _
                refine Rx.go (fun _ => rfl) ?_
                show Rx X c0 m_Mod_readTag 217 [.ref (c0 + 16), .int ((nI acc.length) + 1), .int ((nI run) + 1), .int 1, .int 1, .int (hb t q), .int 1, .int 0] [] (upd σ69 16 ((σ69 16) + 1)) τ69 _
                refine Rx.go (fun _ => rfl) ?_
                refine Rx.go (fun _ => rfl) ?_
                refine Rx.get rfl rfl ?_
                refine Rx.go (fun _ => rfl) ?_
                refine Rx.go (fun _ => rfl) ?_
                refine Rx.put rfl (by decide) rfl rfl ?_
                have hS72 := hS70.up (i := 13) (x := ((upd σ69 16 ((σ69 16) + 1)) 13) + ((nI acc.length) + 1)) (by omega)
                exact Rx.ret rfl rfl (rQ_f (b := acc) (tg_x hm hlt hgd (by rw [hg, decide_eq_true d8]; simp)) hS72 (by first | omega | (simp only [List.length_append, List.length_cons, List.length_nil]; omega)) (by omega))
            · replace c33 : ¬ (hb t q) < 65 := of_decide_eq_false c33
              show Rx X c0 m_Mod_readTag 153 [.ref (c0 + 16), .int (nI acc.length), .int (nI run), .int (bi fs), .int 1, .int (hb t q), .int 1, .int 0] [.ref (c0 + 16)] σ68 τ68 _
              refine Rx.go (fun _ => rfl) ?_
              refine Rx.go (fun _ => rfl) ?_
              refine Rx.go (fun _ => rfl) ?_
              refine Rx.ite (fun c35 => ?_) (fun c35 => ?_)
              · replace c35 : 90 < (hb t q) := of_decide_eq_true c35
                show Rx X c0 m_Mod_readTag 168 [.ref (c0 + 16), .int (nI acc.length), .int (nI run), .int (bi fs), .int 1, .int (hb t q), .int 1, .int 0] [.ref (c0 + 16)] σ68 τ68 _
                refine Rx.go (fun _ => rfl) ?_
                refine Rx.callP rfl rfl rfl rfl (rg_put _ hS68 (by first | omega | (simp only [List.length_append, List.length_cons, List.length_nil]; omega))) ?_
                intro σ73 τ73 hS73
                show Rx X c0 m_Mod_readTag 173 [.ref (c0 + 16), .int (nI acc.length), .int (nI run), .int (bi fs), .int 1, .int (hb t q), .int 1, .int 0] [] σ73 τ73 _
                refine Rx.go (fun _ => rfl) ?_
                show Rx X c0 m_Mod_readTag 176 [.ref (c0 + 16), .int ((nI acc.length) + 1), .int (nI run), .int (bi fs), .int 1, .int (hb t q), .int 1, .int 0] [] σ73 τ73 _
                refine Rx.go (fun _ => rfl) ?_
                refine Rx.go (fun _ => rfl) ?_
                refine Rx.get rfl rfl ?_
                refine Rx.go (fun _ => rfl) ?_
                refine Rx.go (fun _ => rfl) ?_
                refine Rx.put rfl (by decide) rfl rfl ?_
                have hS74 := hS73.at1
                refine Rx.go (fun _ => rfl) ?_
                refine Rx.go (fun _ => rfl) ?_
                show Rx X c0 m_Mod_readTag 191 [.ref (c0 + 16), .int ((nI acc.length) + 1), .int (nI run), .int (bi fs), .int 1, .int (hb t q), .int 1, .int 0] [] (upd σ73 16 ((σ73 16) + 1)) τ73 _
                refine Rx.go (fun _ => rfl) ?_
                refine Rx.go (fun _ => rfl) ?_
                refine Rx.go (fun _ => rfl) ?_
                refine Rx.go (fun _ => rfl) ?_
                refine Rx.go (fun _ => rfl) ?_
                show Rx X c0 m_Mod_readTag 199 [.ref (c0 + 16), .int ((nI acc.length) + 1), .int ((nI run) + 1), .int (bi fs), .int 1, .int (hb t q), .int 1, .int 0] [] (upd σ73 16 ((σ73 16) + 1)) τ73 _
                refine Rx.go (fun _ => rfl) ?_
                refine Rx.go (fun _ => rfl) ?_
                refine Rx.ite (fun c36 => ?_) (fun c36 => ?_)
                · replace c36 : fs = false := bi_eqt c36
                  show Rx X c0 m_Mod_readTag 212 [.ref (c0 + 16), .int ((nI acc.length) + 1), .int ((nI run) + 1), .int (bi fs), .int 1, .int (hb t q), .int 1, .int 0] [] (upd σ73 16 ((σ73 16) + 1)) τ73 _
                  refine Rx.go (fun _ => rfl) ?_
                  refine Rx.go (fun _ => rfl) ?_
                  show Rx X c0 m_Mod_readTag 214 [.ref (c0 + 16), .int ((nI acc.length) + 1), .int ((nI run) + 1), .int 0, .int 1, .int (hb t q), .int 1, .int 0] [] (upd σ73 16 ((σ73 16) + 1)) τ73 _
                  refine Rx.go (fun _ => rfl) ?_
                  refine Rx.go (fun _ => rfl) ?_
                  refine Rx.go (fun _ => rfl) ?_
                  show Rx X c0 m_Mod_readTag 36 [.ref (c0 + 16), .int ((nI acc.length) + 1), .int ((nI run) + 1), .int 0, .int 1, .int (hb t q), .int 1, .int 0] [] (upd σ73 16 ((σ73 16) + 1)) τ73 _
                  refine Rx.go (fun _ => rfl) ?_
                  refine Rx.callE rfl rfl rfl rfl (rg_good hS74) ?_
                  show Rx X c0 m_Mod_readTag 40 [.ref (c0 + 16), .int ((nI acc.length) + 1), .int ((nI run) + 1), .int 0, .int 1, .int (hb t q), .int 1, .int 0] [.int 0] (upd σ73 16 ((σ73 16) + 1)) τ73 _
                  refine Rx.go (fun _ => rfl) ?_
                  show Rx X c0 m_Mod_readTag 217 [.ref (c0 + 16), .int ((nI acc.length) + 1), .int ((nI run) + 1), .int 0, .int 1, .int (hb t q), .int 1, .int 0] [] (upd σ73 16 ((σ73 16) + 1)) τ73 _
                  refine Rx.go (fun _ => rfl) ?_
                  refine Rx.go (fun _ => rfl) ?_
                  refine Rx.get rfl rfl ?_
                  refine Rx.go (fun _ => rfl) ?_
                  refine Rx.go (fun _ => rfl) ?_
                  refine Rx.put rfl (by decide) rfl rfl ?_
                  have hS75 := hS74.up (i := 13) (x := ((upd σ73 16 ((σ73 16) + 1)) 13) + ((nI acc.length) + 1)) (by omega)
                  exact Rx.ret rfl rfl (rQ_f (b := acc) (tg_x hm hlt hgd (by rw [hg, decide_eq_true d8]; simp)) hS75 (by first | omega | (simp only [List.length_append, List.length_cons, List.length_nil]; omega)) (by omega))
                · replace c36 : fs = true := bi_eqf c36
                  show Rx X c0 m_Mod_readTag 203 [.ref (c0 + 16), .int ((nI acc.length) + 1), .int ((nI run) + 1), .int (bi fs), .int 1, .int (hb t q), .int 1, .int 0] [] (upd σ73 16 ((σ73 16) + 1)) τ73 _
                  refine Rx.go (fun _ => rfl) ?_
                  refine Rx.go (fun _ => rfl) ?_
                  show Rx X c0 m_Mod_readTag 208 [.ref (c0 + 16), .int ((nI acc.length) + 1), .int ((nI run) + 1), .int (bi fs), .int 1, .int (hb t q), .int 1, .int 0] [] (upd σ73 16 ((σ73 16) + 1)) τ73 _
                  refine Rx.go (fun _ => rfl) ?_
                  refine Rx.go (fun _ => rfl) ?_
                  refine Rx.go (fun _ => rfl) ?_
                  show Rx X c0 m_Mod_readTag 214 [.ref (c0 + 16), .int ((nI acc.length) + 1), .int ((nI run) + 1), .int 1, .int 1, .int (hb t q), .int 1, .int 0] [] (upd σ73 16 ((σ73 16) + 1)) τ73 _
                  refine Rx.go (fun _ => rfl) ?_
                  refine Rx.go (fun _ => rfl) ?_
                  refine Rx.go (fun _ => rfl) ?_
                  show Rx X c0 m_Mod_readTag 36 [.ref (c0 + 16), .int ((nI acc.length) + 1), .int ((nI run) + 1), .int 1, .int 1, .int (hb t q), .int 1, .int 0] [] (upd σ73 16 ((σ73 16) + 1)) τ73 _
                  refine Rx.go (fun _ => rfl) ?_
                  refine Rx.callE rfl rfl rfl rfl (rg_good hS74) ?_
                  show Rx X c0 m_Mod_readTag 40 [.ref (c0 + 16), .int ((nI acc.length) + 1), .int ((nI run) + 1), .int 1, .int 1, .int (hb t q), .int 1, .int 0] [.int 0] (upd σ73 16 ((σ73 16) + 1)) τ73 _
                  refine Rx.go (fun _ => rfl) ?_
                  show Rx X c0 m_Mod_readTag 217 [.ref (c0 + 16), .int ((nI acc.length) + 1), .int ((nI run) + 1), .int 1, .int 1, .int (hb t q), .int 1, .int 0] [] (upd σ73 16 ((σ73 16) + 1)) τ73 _
                  refine Rx.go (fun _ => rfl) ?_
                  refine Rx.go (fun _ => rfl) ?_
                  refine Rx.get rfl rfl ?_
                  refine Rx.go (fun _ => rfl) ?_
                  refine Rx.go (fun _ => rfl) ?_
                  refine Rx.put rfl (by decide) rfl rfl ?_
                  have hS76 := hS74.up (i := 13) (x := ((upd σ73 16 ((σ73 16) + 1)) 13) + ((nI acc.length) + 1)) (by omega)
                  exact Rx.ret rfl rfl (rQ_f (b := acc) (tg_x hm hlt hgd (by rw [hg, decide_eq_true d8]; simp)) hS76 (by first | omega | (simp only [List.length_append, List.length_cons, List.length_nil]; omega)) (by omega))
              · replace c35 : ¬ 90 < (hb t q) := of_decide_eq_false c35
                show Rx X c0 m_Mod_readTag 160 [.ref (c0 + 16), .int (nI acc.length), .int (nI run), .int (bi fs), .int 1, .int (hb t q), .int 1, .int 0] [.ref (c0 + 16)] σ68 τ68 _
                refine Rx.go (fun _ => rfl) ?_
                refine Rx.go (fun _ => rfl) ?_
                refine Rx.go (fun _ => rfl) ?_
                refine Rx.go (fun _ => rfl) ?_
                refine Rx.callP rfl rfl rfl rfl (rg_put _ hS68 (by first | omega | (simp only [List.length_append, List.length_cons, List.length_nil]; omega))) ?_
                intro σ77 τ77 hS77
                show Rx X c0 m_Mod_readTag 173 [.ref (c0 + 16), .int (nI acc.length), .int (nI run), .int (bi fs), .int 1, .int (hb t q), .int 1, .int 0] [] σ77 τ77 _
                refine Rx.go (fun _ => rfl) ?_
                show Rx X c0 m_Mod_readTag 176 [.ref (c0 + 16), .int ((nI acc.length) + 1), .int (nI run), .int (bi fs), .int 1, .int (hb t q), .int 1, .int 0] [] σ77 τ77 _
                refine Rx.go (fun _ => rfl) ?_
                refine Rx.go (fun _ => rfl) ?_
                refine Rx.get rfl rfl ?_
                refine Rx.go (fun _ => rfl) ?_
                refine Rx.go (fun _ => rfl) ?_
                refine Rx.put rfl (by decide) rfl rfl ?_
                have hS78 := hS77.at1
                refine Rx.go (fun _ => rfl) ?_
                refine Rx.go (fun _ => rfl) ?_
                show Rx X c0 m_Mod_readTag 191 [.ref (c0 + 16), .int ((nI acc.length) + 1), .int (nI run), .int (bi fs), .int 1, .int (hb t q), .int 1, .int 0] [] (upd σ77 16 ((σ77 16) + 1)) τ77 _
                refine Rx.go (fun _ => rfl) ?_
                refine Rx.go (fun _ => rfl) ?_
                refine Rx.go (fun _ => rfl) ?_
                refine Rx.go (fun _ => rfl) ?_
                refine Rx.go (fun _ => rfl) ?_
                show Rx X c0 m_Mod_readTag 199 [.ref (c0 + 16), .int ((nI acc.length) + 1), .int ((nI run) + 1), .int (bi fs), .int 1, .int (hb t q), .int 1, .int 0] [] (upd σ77 16 ((σ77 16) + 1)) τ77 _
                refine Rx.go (fun _ => rfl) ?_
                refine Rx.go (fun _ => rfl) ?_
                refine Rx.ite (fun c37 => ?_) (fun c37 => ?_)
                · replace c37 : fs = false := bi_eqt c37
                  show Rx X c0 m_Mod_readTag 212 [.ref (c0 + 16), .int ((nI acc.length) + 1), .int ((nI run) + 1), .int (bi fs), .int 1, .int (hb t q), .int 1, .int 0] [] (upd σ77 16 ((σ77 16) + 1)) τ77 _
                  refine Rx.go (fun _ => rfl) ?_
                  refine Rx.go (fun _ => rfl) ?_
                  show Rx X c0 m_Mod_readTag 214 [.ref (c0 + 16), .int ((nI acc.length) + 1), .int ((nI run) + 1), .int 0, .int 1, .int (hb t q), .int 1, .int 0] [] (upd σ77 16 ((σ77 16) + 1)) τ77 _
                  refine Rx.go (fun _ => rfl) ?_
                  refine Rx.go (fun _ => rfl) ?_
                  refine Rx.go (fun _ => rfl) ?_
                  show Rx X c0 m_Mod_readTag 36 [.ref (c0 + 16), .int ((nI acc.length) + 1), .int ((nI run) + 1), .int 0, .int 1, .int (hb t q), .int 1, .int 0] [] (upd σ77 16 ((σ77 16) + 1)) τ77 _
                  refine Rx.go (fun _ => rfl) ?_
                  refine Rx.callE rfl rfl rfl rfl (rg_good hS78) ?_
                  show Rx X c0 m_Mod_readTag 40 [.ref (c0 + 16), .int ((nI acc.length) + 1), .int ((nI run) + 1), .int 0, .int 1, .int (hb t q), .int 1, .int 0] [.int 0] (upd σ77 16 ((σ77 16) + 1)) τ77 _
                  refine Rx.go (fun _ => rfl) ?_
                  show Rx X c0 m_Mod_readTag 217 [.ref (c0 + 16), .int ((nI acc.length) + 1), .int ((nI run) + 1), .int 0, .int 1, .int (hb t q), .int 1, .int 0] [] (upd σ77 16 ((σ77 16) + 1)) τ77 _
                  refine Rx.go (fun _ => rfl) ?_
                  refine Rx.go (fun _ => rfl) ?_
                  refine Rx.get rfl rfl ?_
                  refine Rx.go (fun _ => rfl) ?_
                  refine Rx.go (fun _ => rfl) ?_
                  refine Rx.put rfl (by decide) rfl rfl ?_
                  have hS79 := hS78.up (i := 13) (x := ((upd σ77 16 ((σ77 16) + 1)) 13) + ((nI acc.length) + 1)) (by omega)
                  exact Rx.ret rfl rfl (rQ_f (b := acc) (tg_x hm hlt hgd (by rw [hg, decide_eq_true d8]; simp)) hS79 (by first | omega | (simp only [List.length_append, List.length_cons, List.length_nil]; omega)) (by omega))
                · replace c37 : fs = true := bi_eqf c37
                  show Rx X c0 m_Mod_readTag 203 [.ref (c0 + 16), .int ((nI acc.length) + 1), .int ((nI run) + 1), .int (bi fs), .int 1, .int (hb t q), .int 1, .int 0] [] (upd σ77 16 ((σ77 16) + 1)) τ77 _
                  refine Rx.go (fun _ => rfl) ?_
                  refine Rx.go (fun _ => rfl) ?_
                  show Rx X c0 m_Mod_readTag 208 [.ref (c0 + 16), .int ((nI acc.length) + 1), .int ((nI run) + 1), .int (bi fs), .int 1, .int (hb t q), .int 1, .int 0] [] (upd σ77 16 ((σ77 16) + 1)) τ77 _
                  refine Rx.go (fun _ => rfl) ?_
                  refine Rx.go (fun _ => rfl) ?_
                  refine Rx.go (fun _ => rfl) ?_
                  show Rx X c0 m_Mod_readTag 214 [.ref (c0 + 16), .int ((nI acc.length) + 1), .int ((nI run) + 1), .int 1, .int 1, .int (hb t q), .int 1, .int 0] [] (upd σ77 16 ((σ77 16) + 1)) τ77 _
                  refine Rx.go (fun _ => rfl) ?_
                  refine Rx.go (fun _ => rfl) ?_
                  refine Rx.go (fun _ => rfl) ?_
                  show Rx X c0 m_Mod_readTag 36 [.ref (c0 + 16), .int ((nI acc.length) + 1), .int ((nI run) + 1), .int 1, .int 1, .int (hb t q), .int 1, .int 0] [] (upd σ77 16 ((σ77 16) + 1)) τ77 _
                  refine Rx.go (fun _ => rfl) ?_
                  refine Rx.callE rfl rfl rfl rfl (rg_good hS78) ?_
                  show Rx X c0 m_Mod_readTag 40 [.ref (c0 + 16), .int ((nI acc.length) + 1), .int ((nI run) + 1), .int 1, .int 1, .int (hb t q), .int 1, .int 0] [.int 0] (upd σ77 16 ((σ77 16) + 1)) τ77 _
                  refine Rx.go (fun _ => rfl) ?_
                  show Rx X c0 m_Mod_readTag 217 [.ref (c0 + 16), .int ((nI acc.length) + 1), .int ((nI run) + 1), .int 1, .int 1, .int (hb t q), .int 1, .int 0] [] (upd σ77 16 ((σ77 16) + 1)) τ77 _
                  refine Rx.go (fun _ => rfl) ?_
                  refine Rx.go (fun _ => rfl) ?_
                  refine Rx.get rfl rfl ?_
                  refine Rx.go (fun _ => rfl) ?_
                  refine Rx.go (fun _ => rfl) ?_
                  refine Rx.put rfl (by decide) rfl rfl ?_
                  have hS80 := hS78.up (i := 13) (x := ((upd σ77 16 ((σ77 16) + 1)) 13) + ((nI acc.length) + 1)) (by omega)
                  exact Rx.ret rfl rfl (rQ_f (b := acc) (tg_x hm hlt hgd (by rw [hg, decide_eq_true d8]; simp)) hS80 (by first | omega | (simp only [List.length_append, List.length_cons, List.length_nil]; omega)) (by omega))
      · replace c20 : ¬ (nI run) ≤ 0 := of_decide_eq_false c20
        have dr : 0 < run := Nat.pos_of_ne_zero (fun e => c20 (by rw [e]; exact Int32.le_refl _))
        show Rx X c0 m_Mod_readTag 87 [.ref (c0 + 16), .int (nI acc.length), .int (nI run), .int (bi fs), .int 1, .int (hb t q), .int 1, b7] [] σ τ _
        refine Rx.go (fun _ => rfl) ?_
        refine Rx.go (fun _ => rfl) ?_
        refine Rx.go (fun _ => rfl) ?_
        show Rx X c0 m_Mod_readTag 94 [.ref (c0 + 16), .int (nI acc.length), .int (nI run), .int (bi fs), .int 1, .int (hb t q), .int 1, .int 1] [] σ τ _
        have hg : (isL (hb t q) || (isD (hb t q) && !fs)) = true := by simp [c1]
        have hd : (decide (hb t q = 45) && decide (0 < run)) = true := by simp [c2, dr]
        exfalso
        rw [c2] at hg
        simp [L45, D45] at hg
  · replace c1 : (isL (hb t q)) = false := bi_nef c1
    show Rx X c0 m_Mod_readTag 57 [.ref (c0 + 16), .int (nI acc.length), .int (nI run), .int (bi fs), .int 1, .int (hb t q), b6, b7] [] σ τ _
    refine Rx.go (fun _ => rfl) ?_
    refine Rx.go (fun _ => rfl) ?_
    refine Rx.ite (fun c38 => ?_) (fun c38 => ?_)
    · replace c38 : fs = true := bi_net c38
      show Rx X c0 m_Mod_readTag 73 [.ref (c0 + 16), .int (nI acc.length), .int (nI run), .int (bi fs), .int 1, .int (hb t q), b6, b7] [] σ τ _
      refine Rx.go (fun _ => rfl) ?_
      refine Rx.go (fun _ => rfl) ?_
      show Rx X c0 m_Mod_readTag 76 [.ref (c0 + 16), .int (nI acc.length), .int (nI run), .int (bi fs), .int 1, .int (hb t q), .int 0, b7] [] σ τ _
      refine Rx.go (fun _ => rfl) ?_
      refine Rx.go (fun _ => rfl) ?_
      refine Rx.go (fun _ => rfl) ?_
      refine Rx.ite (fun c39 => ?_) (fun c39 => ?_)
      · replace c39 : ¬ (hb t q) = 45 := of_decide_eq_true c39
        show Rx X c0 m_Mod_readTag 91 [.ref (c0 + 16), .int (nI acc.length), .int (nI run), .int (bi fs), .int 1, .int (hb t q), .int 0, b7] [] σ τ _
        refine Rx.go (fun _ => rfl) ?_
        refine Rx.go (fun _ => rfl) ?_
        show Rx X c0 m_Mod_readTag 94 [.ref (c0 + 16), .int (nI acc.length), .int (nI run), .int (bi fs), .int 1, .int (hb t q), .int 0, .int 0] [] σ τ _
        have hg : (isL (hb t q) || (isD (hb t q) && !fs)) = false := by simp [c1, c38]
        have hd : (decide (hb t q = 45) && decide (0 < run)) = false := by simp [c39]
        refine Rx.go (fun _ => rfl) ?_
        refine Rx.go (fun _ => rfl) ?_
        show Rx X c0 m_Mod_readTag 99 [.ref (c0 + 16), .int (nI acc.length), .int (nI run), .int (bi fs), .int 1, .int (hb t q), .int 0, .int 0] [] σ τ _
        refine Rx.go (fun _ => rfl) ?_
        refine Rx.go (fun _ => rfl) ?_
        show Rx X c0 m_Mod_readTag 104 [.ref (c0 + 16), .int (nI acc.length), .int (nI run), .int (bi fs), .int 1, .int (hb t q), .int 0, .int 0] [] σ τ _
        refine Rx.go (fun _ => rfl) ?_
        refine Rx.go (fun _ => rfl) ?_
        refine Rx.ite (fun c40 => ?_) (fun c40 => ?_)
        · replace c40 : ¬ (nI run) = 0 := of_decide_eq_true c40
          have dz : 0 < run := Nat.pos_of_ne_zero (fun e => c40 (by rw [e]; rfl))
          show Rx X c0 m_Mod_readTag 113 [.ref (c0 + 16), .int (nI acc.length), .int (nI run), .int (bi fs), .int 1, .int (hb t q), .int 0, .int 0] [] σ τ _
          refine Rx.go (fun _ => rfl) ?_
          refine Rx.go (fun _ => rfl) ?_
          show Rx X c0 m_Mod_readTag 116 [.ref (c0 + 16), .int (nI acc.length), .int (nI run), .int (bi fs), .int 0, .int (hb t q), .int 0, .int 0] [] σ τ _
          refine Rx.go (fun _ => rfl) ?_
          refine Rx.go (fun _ => rfl) ?_
          refine Rx.go (fun _ => rfl) ?_
          show Rx X c0 m_Mod_readTag 217 [.ref (c0 + 16), .int (nI acc.length), .int (nI run), .int (bi fs), .int 0, .int (hb t q), .int 0, .int 0] [] σ τ _
          refine Rx.go (fun _ => rfl) ?_
          refine Rx.go (fun _ => rfl) ?_
          refine Rx.get rfl rfl ?_
          refine Rx.top (y := nI db) hS.f13 ?_
          refine Rx.go (fun _ => rfl) ?_
          refine Rx.go (fun _ => rfl) ?_
          refine Rx.top (y := nI (db + acc.length)) (nI_add _ _) ?_
          refine Rx.put rfl (by decide) rfl rfl ?_
          have hS81 := hS.db1 (x := (db + acc.length))
          exact Rx.ret rfl rfl (rQ_t (tg_e hm hg hd dz) hS81)
        · replace c40 : (nI run) = 0 := Classical.not_not.mp (of_decide_eq_false c40)
          have dz : run = 0 := (nI_eq (b := 0) (by omega) (by decide)).mp c40
          show Rx X c0 m_Mod_readTag 108 [.ref (c0 + 16), .int (nI acc.length), .int (nI run), .int (bi fs), .int 1, .int (hb t q), .int 0, .int 0] [] σ τ _
          refine Rx.go (fun _ => rfl) ?_
          refine Rx.go (fun _ => rfl) ?_
          refine Rx.callP rfl rfl rfl rfl (rs_ov_f false hS (fun h => Bool.false_ne_true h.2)) ?_
          intro σ82 τ82 hS82
          show Rx X c0 m_Mod_readTag 113 [.ref (c0 + 16), .int (nI acc.length), .int (nI run), .int (bi fs), .int 1, .int (hb t q), .int 0, .int 0] [] σ82 τ82 _
          refine Rx.go (fun _ => rfl) ?_
          refine Rx.go (fun _ => rfl) ?_
          show Rx X c0 m_Mod_readTag 116 [.ref (c0 + 16), .int (nI acc.length), .int (nI run), .int (bi fs), .int 0, .int (hb t q), .int 0, .int 0] [] σ82 τ82 _
          refine Rx.go (fun _ => rfl) ?_
          refine Rx.go (fun _ => rfl) ?_
          refine Rx.go (fun _ => rfl) ?_
          show Rx X c0 m_Mod_readTag 217 [.ref (c0 + 16), .int (nI acc.length), .int (nI run), .int (bi fs), .int 0, .int (hb t q), .int 0, .int 0] [] σ82 τ82 _
          refine Rx.go (fun _ => rfl) ?_
          refine Rx.go (fun _ => rfl) ?_
          refine Rx.get rfl rfl ?_
          refine Rx.go (fun _ => rfl) ?_
          refine Rx.go (fun _ => rfl) ?_
          refine Rx.put rfl (by decide) rfl rfl ?_
          have hS83 := hS82.up (i := 13) (x := (σ82 13) + (nI acc.length)) (by omega)
          exact Rx.ret rfl rfl (rQ_f (b := acc) (tg_f hm hg hd dz) hS83 (by first | omega | (simp only [List.length_append, List.length_cons, List.length_nil]; omega)) (by omega))
      · replace c39 : (hb t q) = 45 := Classical.not_not.mp (of_decide_eq_false c39)
        show Rx X c0 m_Mod_readTag 83 [.ref (c0 + 16), .int (nI acc.length), .int (nI run), .int (bi fs), .int 1, .int (hb t q), .int 0, b7] [] σ τ _
        refine Rx.go (fun _ => rfl) ?_
        refine Rx.go (fun _ => rfl) ?_
        refine Rx.ite (fun c41 => ?_) (fun c41 => ?_)
        · replace c41 : (nI run) ≤ 0 := of_decide_eq_true c41
          have dr : ¬ 0 < run := by have := (nI_leI (b := 0) (by omega) (by decide)).mp c41; omega
          show Rx X c0 m_Mod_readTag 91 [.ref (c0 + 16), .int (nI acc.length), .int (nI run), .int (bi fs), .int 1, .int (hb t q), .int 0, b7] [] σ τ _
          refine Rx.go (fun _ => rfl) ?_
          refine Rx.go (fun _ => rfl) ?_
          show Rx X c0 m_Mod_readTag 94 [.ref (c0 + 16), .int (nI acc.length), .int (nI run), .int (bi fs), .int 1, .int (hb t q), .int 0, .int 0] [] σ τ _
          have hg : (isL (hb t q) || (isD (hb t q) && !fs)) = false := by simp [c1, c38]
          have hd : (decide (hb t q = 45) && decide (0 < run)) = false := by simp [c39, dr]
          refine Rx.go (fun _ => rfl) ?_
          refine Rx.go (fun _ => rfl) ?_
          show Rx X c0 m_Mod_readTag 99 [.ref (c0 + 16), .int (nI acc.length), .int (nI run), .int (bi fs), .int 1, .int (hb t q), .int 0, .int 0] [] σ τ _
          refine Rx.go (fun _ => rfl) ?_
          refine Rx.go (fun _ => rfl) ?_
          show Rx X c0 m_Mod_readTag 104 [.ref (c0 + 16), .int (nI acc.length), .int (nI run), .int (bi fs), .int 1, .int (hb t q), .int 0, .int 0] [] σ τ _
          refine Rx.go (fun _ => rfl) ?_
          refine Rx.go (fun _ => rfl) ?_
          refine Rx.ite (fun c42 => ?_) (fun c42 => ?_)
          · replace c42 : ¬ (nI run) = 0 := of_decide_eq_true c42
            have dz : 0 < run := Nat.pos_of_ne_zero (fun e => c42 (by rw [e]; rfl))
            show Rx X c0 m_Mod_readTag 113 [.ref (c0 + 16), .int (nI acc.length), .int (nI run), .int (bi fs), .int 1, .int (hb t q), .int 0, .int 0] [] σ τ _
            refine Rx.go (fun _ => rfl) ?_
            refine Rx.go (fun _ => rfl) ?_
            show Rx X c0 m_Mod_readTag 116 [.ref (c0 + 16), .int (nI acc.length), .int (nI run), .int (bi fs), .int 0, .int (hb t q), .int 0, .int 0] [] σ τ _
            refine Rx.go (fun _ => rfl) ?_
            refine Rx.go (fun _ => rfl) ?_
            refine Rx.go (fun _ => rfl) ?_
            show Rx X c0 m_Mod_readTag 217 [.ref (c0 + 16), .int (nI acc.length), .int (nI run), .int (bi fs), .int 0, .int (hb t q), .int 0, .int 0] [] σ τ _
            refine Rx.go (fun _ => rfl) ?_
            refine Rx.go (fun _ => rfl) ?_
            refine Rx.get rfl rfl ?_
            refine Rx.top (y := nI db) hS.f13 ?_
            refine Rx.go (fun _ => rfl) ?_
            refine Rx.go (fun _ => rfl) ?_
            refine Rx.top (y := nI (db + acc.length)) (nI_add _ _) ?_
            refine Rx.put rfl (by decide) rfl rfl ?_
            have hS84 := hS.db1 (x := (db + acc.length))
            exact Rx.ret rfl rfl (rQ_t (tg_e hm hg hd dz) hS84)
          · replace c42 : (nI run) = 0 := Classical.not_not.mp (of_decide_eq_false c42)
            have dz : run = 0 := (nI_eq (b := 0) (by omega) (by decide)).mp c42
            show Rx X c0 m_Mod_readTag 108 [.ref (c0 + 16), .int (nI acc.length), .int (nI run), .int (bi fs), .int 1, .int (hb t q), .int 0, .int 0] [] σ τ _
            refine Rx.go (fun _ => rfl) ?_
            refine Rx.go (fun _ => rfl) ?_
            refine Rx.callP rfl rfl rfl rfl (rs_ov_f false hS (fun h => Bool.false_ne_true h.2)) ?_
            intro σ85 τ85 hS85
            show Rx X c0 m_Mod_readTag 113 [.ref (c0 + 16), .int (nI acc.length), .int (nI run), .int (bi fs), .int 1, .int (hb t q), .int 0, .int 0] [] σ85 τ85 _
            refine Rx.go (fun _ => rfl) ?_
            refine Rx.go (fun _ => rfl) ?_
            show Rx X c0 m_Mod_readTag 116 [.ref (c0 + 16), .int (nI acc.length), .int (nI run), .int (bi fs), .int 0, .int (hb t q), .int 0, .int 0] [] σ85 τ85 _
            refine Rx.go (fun _ => rfl) ?_
            refine Rx.go (fun _ => rfl) ?_
            refine Rx.go (fun _ => rfl) ?_
            show Rx X c0 m_Mod_readTag 217 [.ref (c0 + 16), .int (nI acc.length), .int (nI run), .int (bi fs), .int 0, .int (hb t q), .int 0, .int 0] [] σ85 τ85 _
            refine Rx.go (fun _ => rfl) ?_
            refine Rx.go (fun _ => rfl) ?_
            refine Rx.get rfl rfl ?_
            refine Rx.go (fun _ => rfl) ?_
            refine Rx.go (fun _ => rfl) ?_
            refine Rx.put rfl (by decide) rfl rfl ?_
            have hS86 := hS85.up (i := 13) (x := (σ85 13) + (nI acc.length)) (by omega)
            exact Rx.ret rfl rfl (rQ_f (b := acc) (tg_f hm hg hd dz) hS86 (by first | omega | (simp only [List.length_append, List.length_cons, List.length_nil]; omega)) (by omega))
        · replace c41 : ¬ (nI run) ≤ 0 := of_decide_eq_false c41
          have dr : 0 < run := Nat.pos_of_ne_zero (fun e => c41 (by rw [e]; exact Int32.le_refl _))
          show Rx X c0 m_Mod_readTag 87 [.ref (c0 + 16), .int (nI acc.length), .int (nI run), .int (bi fs), .int 1, .int (hb t q), .int 0, b7] [] σ τ _
          refine Rx.go (fun _ => rfl) ?_
          refine Rx.go (fun _ => rfl) ?_
          refine Rx.go (fun _ => rfl) ?_
          show Rx X c0 m_Mod_readTag 94 [.ref (c0 + 16), .int (nI acc.length), .int (nI run), .int (bi fs), .int 1, .int (hb t q), .int 0, .int 1] [] σ τ _
          have hg : (isL (hb t q) || (isD (hb t q) && !fs)) = false := by simp [c1, c38]
          have hd : (decide (hb t q = 45) && decide (0 < run)) = true := by simp [c39, dr]
          have hgd : (isL (hb t q) || (isD (hb t q) && !fs)) = true ∨ (decide (hb t q = 45) && decide (0 < run)) = true := Or.inr hd
          have hlt := tg_lt hgd
          refine Rx.go (fun _ => rfl) ?_
          refine Rx.go (fun _ => rfl) ?_
          show Rx X c0 m_Mod_readTag 99 [.ref (c0 + 16), .int (nI acc.length), .int (nI run), .int (bi fs), .int 1, .int (hb t q), .int 0, .int 1] [] σ τ _
          refine Rx.go (fun _ => rfl) ?_
          refine Rx.go (fun _ => rfl) ?_
          show Rx X c0 m_Mod_readTag 119 [.ref (c0 + 16), .int (nI acc.length), .int (nI run), .int (bi fs), .int 1, .int (hb t q), .int 0, .int 1] [] σ τ _
          refine Rx.go (fun _ => rfl) ?_
          refine Rx.go (fun _ => rfl) ?_
          refine Rx.go (fun _ => rfl) ?_
          refine Rx.ite (fun c43 => ?_) (fun c43 => ?_)
          · replace c43 : (nI acc.length) = 20 := of_decide_eq_true c43
            have d20 : acc.length = 20 := (nI_eq (b := 20) (by omega) (by decide)).mp c43
            show Rx X c0 m_Mod_readTag 136 [.ref (c0 + 16), .int (nI acc.length), .int (nI run), .int (bi fs), .int 1, .int (hb t q), .int 0, .int 1] [] σ τ _
            refine Rx.go (fun _ => rfl) ?_
            refine Rx.go (fun _ => rfl) ?_
            refine Rx.go (fun _ => rfl) ?_
            refine Rx.get rfl rfl ?_
            refine Rx.top (y := nI q) hS.f16 ?_
            refine Rx.callP rfl rfl rfl rfl (rs_fl (wn := q) hS (by decide) rfl) ?_
            intro σ87 τ87 hS87
            show Rx X c0 m_Mod_readTag 145 [.ref (c0 + 16), .int (nI acc.length), .int (nI run), .int (bi fs), .int 1, .int (hb t q), .int 0, .int 1] [] σ87 τ87 _
            refine Rx.go (fun _ => rfl) ?_
            refine Rx.go (fun _ => rfl) ?_
            refine Rx.go (fun _ => rfl) ?_
            refine Rx.go (fun _ => rfl) ?_
            refine Rx.ite (fun c44 => ?_) (fun c44 => ?_)
            · replace c44 : (hb t q) < 65 := of_decide_eq_true c44
              show Rx X c0 m_Mod_readTag 168 [.ref (c0 + 16), .int (nI acc.length), .int (nI run), .int (bi fs), .int 1, .int (hb t q), .int 0, .int 1] [.ref (c0 + 16)] σ87 τ87 _
              refine Rx.go (fun _ => rfl) ?_
              refine Rx.callP rfl rfl rfl rfl (rg_put _ hS87 (by first | omega | (simp only [List.length_append, List.length_cons, List.length_nil]; omega))) ?_
              intro σ88 τ88 hS88
              show Rx X c0 m_Mod_readTag 173 [.ref (c0 + 16), .int (nI acc.length), .int (nI run), .int (bi fs), .int 1, .int (hb t q), .int 0, .int 1] [] σ88 τ88 _
              refine Rx.go (fun _ => rfl) ?_
              show Rx X c0 m_Mod_readTag 176 [.ref (c0 + 16), .int ((nI acc.length) + 1), .int (nI run), .int (bi fs), .int 1, .int (hb t q), .int 0, .int 1] [] σ88 τ88 _
              refine Rx.go (fun _ => rfl) ?_
              refine Rx.go (fun _ => rfl) ?_
              refine Rx.get rfl rfl ?_
              refine Rx.go (fun _ => rfl) ?_
              refine Rx.go (fun _ => rfl) ?_
              refine Rx.put rfl (by decide) rfl rfl ?_
              have hS89 := hS88.at1
              refine Rx.go (fun _ => rfl) ?_
              refine Rx.go (fun _ => rfl) ?_
              show Rx X c0 m_Mod_readTag 197 [.ref (c0 + 16), .int ((nI acc.length) + 1), .int (nI run), .int (bi fs), .int 1, .int (hb t q), .int 0, .int 1] [] (upd σ88 16 ((σ88 16) + 1)) τ88 _
              refine Rx.go (fun _ => rfl) ?_
              refine Rx.go (fun _ => rfl) ?_
              show Rx X c0 m_Mod_readTag 199 [.ref (c0 + 16), .int ((nI acc.length) + 1), .int 0, .int (bi fs), .int 1, .int (hb t q), .int 0, .int 1] [] (upd σ88 16 ((σ88 16) + 1)) τ88 _
              refine Rx.go (fun _ => rfl) ?_
              refine Rx.go (fun _ => rfl) ?_
              refine Rx.ite (fun c45 => ?_) (fun c45 => ?_)
              · replace c45 : fs = false := bi_eqt c45
                exact Bool.noConfusion (c38.symm.trans c45)
              · replace c45 : fs = true := bi_eqf c45
                show Rx X c0 m_Mod_readTag 203 [.ref (c0 + 16), .int ((nI acc.length) + 1), .int 0, .int (bi fs), .int 1, .int (hb t q), .int 0, .int 1] [] (upd σ88 16 ((σ88 16) + 1)) τ88 _
                refine Rx.go (fun _ => rfl) ?_
                refine Rx.go (fun _ => rfl) ?_
                show Rx X c0 m_Mod_readTag 212 [.ref (c0 + 16), .int ((nI acc.length) + 1), .int 0, .int (bi fs), .int 1, .int (hb t q), .int 0, .int 1] [] (upd σ88 16 ((σ88 16) + 1)) τ88 _
                refine Rx.go (fun _ => rfl) ?_
                refine Rx.go (fun _ => rfl) ?_
                show Rx X c0 m_Mod_readTag 214 [.ref (c0 + 16), .int ((nI acc.length) + 1), .int 0, .int 0, .int 1, .int (hb t q), .int 0, .int 1] [] (upd σ88 16 ((σ88 16) + 1)) τ88 _
                refine Rx.go (fun _ => rfl) ?_
                refine Rx.go (fun _ => rfl) ?_
                refine Rx.go (fun _ => rfl) ?_
                show Rx X c0 m_Mod_readTag 36 [.ref (c0 + 16), .int ((nI acc.length) + 1), .int 0, .int 0, .int 1, .int (hb t q), .int 0, .int 1] [] (upd σ88 16 ((σ88 16) + 1)) τ88 _
                refine Rx.go (fun _ => rfl) ?_
                refine Rx.callE rfl rfl rfl rfl (rg_good hS89) ?_
                show Rx X c0 m_Mod_readTag 40 [.ref (c0 + 16), .int ((nI acc.length) + 1), .int 0, .int 0, .int 1, .int (hb t q), .int 0, .int 1] [.int 0] (upd σ88 16 ((σ88 16) + 1)) τ88 _
                refine Rx.go (fun _ => rfl) ?_
                show Rx X c0 m_Mod_readTag 217 [.ref (c0 + 16), .int ((nI acc.length) + 1), .int 0, .int 0, .int 1, .int (hb t q), .int 0, .int 1] [] (upd σ88 16 ((σ88 16) + 1)) τ88 _
                refine Rx.go (fun _ => rfl) ?_
                refine Rx.go (fun _ => rfl) ?_
                refine Rx.get rfl rfl ?_
                refine Rx.go (fun _ => rfl) ?_
                refine Rx.go (fun _ => rfl) ?_
                refine Rx.put rfl (by decide) rfl rfl ?_
                have hS90 := hS89.up (i := 13) (x := ((upd σ88 16 ((σ88 16) + 1)) 13) + ((nI acc.length) + 1)) (by omega)
                exact Rx.ret rfl rfl (rQ_f (b := acc) (tg_x hm hlt hgd (by rw [decide_eq_true d20]; rfl)) hS90 (by first | omega | (simp only [List.length_append, List.length_cons, List.length_nil]; omega)) (by omega))
            · replace c44 : ¬ (hb t q) < 65 := of_decide_eq_false c44
              show Rx X c0 m_Mod_readTag 153 [.ref (c0 + 16), .int (nI acc.length), .int (nI run), .int (bi fs), .int 1, .int (hb t q), .int 0, .int 1] [.ref (c0 + 16)] σ87 τ87 _
              refine Rx.go (fun _ => rfl) ?_
              refine Rx.go (fun _ => rfl) ?_
              refine Rx.go (fun _ => rfl) ?_
              refine Rx.ite (fun c46 => ?_) (fun c46 => ?_)
              · replace c46 : 90 < (hb t q) := of_decide_eq_true c46
                show Rx X c0 m_Mod_readTag 168 [.ref (c0 + 16), .int (nI acc.length), .int (nI run), .int (bi fs), .int 1, .int (hb t q), .int 0, .int 1] [.ref (c0 + 16)] σ87 τ87 _
                refine Rx.go (fun _ => rfl) ?_
                refine Rx.callP rfl rfl rfl rfl (rg_put _ hS87 (by first | omega | (simp only [List.length_append, List.length_cons, List.length_nil]; omega))) ?_
                intro σ91 τ91 hS91
                show Rx X c0 m_Mod_readTag 173 [.ref (c0 + 16), .int (nI acc.length), .int (nI run), .int (bi fs), .int 1, .int (hb t q), .int 0, .int 1] [] σ91 τ91 _
                refine Rx.go (fun _ => rfl) ?_
                show Rx X c0 m_Mod_readTag 176 [.ref (c0 + 16), .int ((nI acc.length) + 1), .int (nI run), .int (bi fs), .int 1, .int (hb t q), .int 0, .int 1] [] σ91 τ91 _
                refine Rx.go (fun _ => rfl) ?_
                refine Rx.go (fun _ => rfl) ?_
                refine Rx.get rfl rfl ?_
                refine Rx.go (fun _ => rfl) ?_
                refine Rx.go (fun _ => rfl) ?_
                refine Rx.put rfl (by decide) rfl rfl ?_
                have hS92 := hS91.at1
                refine Rx.go (fun _ => rfl) ?_
                refine Rx.go (fun _ => rfl) ?_
                show Rx X c0 m_Mod_readTag 197 [.ref (c0 + 16), .int ((nI acc.length) + 1), .int (nI run), .int (bi fs), .int 1, .int (hb t q), .int 0, .int 1] [] (upd σ91 16 ((σ91 16) + 1)) τ91 _
                refine Rx.go (fun _ => rfl) ?_
                refine Rx.go (fun _ => rfl) ?_
                show Rx X c0 m_Mod_readTag 199 [.ref (c0 + 16), .int ((nI acc.length) + 1), .int 0, .int (bi fs), .int 1, .int (hb t q), .int 0, .int 1] [] (upd σ91 16 ((σ91 16) + 1)) τ91 _
                refine Rx.go (fun _ => rfl) ?_
                refine Rx.go (fun _ => rfl) ?_
                refine Rx.ite (fun c47 => ?_) (fun c47 => ?_)
                · replace c47 : fs = false := bi_eqt c47
                  exact Bool.noConfusion (c38.symm.trans c47)
                · replace c47 : fs = true := bi_eqf c47
                  show Rx X c0 m_Mod_readTag 203 [.ref (c0 + 16), .int ((nI acc.length) + 1), .int 0, .int (bi fs), .int 1, .int (hb t q), .int 0, .int 1] [] (upd σ91 16 ((σ91 16) + 1)) τ91 _
                  refine Rx.go (fun _ => rfl) ?_
                  refine Rx.go (fun _ => rfl) ?_
                  show Rx X c0 m_Mod_readTag 212 [.ref (c0 + 16), .int ((nI acc.length) + 1), .int 0, .int (bi fs), .int 1, .int (hb t q), .int 0, .int 1] [] (upd σ91 16 ((σ91 16) + 1)) τ91 _
                  refine Rx.go (fun _ => rfl) ?_
                  refine Rx.go (fun _ => rfl) ?_
                  show Rx X c0 m_Mod_readTag 214 [.ref (c0 + 16), .int ((nI acc.length) + 1), .int 0, .int 0, .int 1, .int (hb t q), .int 0, .int 1] [] (upd σ91 16 ((σ91 16) + 1)) τ91 _
                  refine Rx.go (fun _ => rfl) ?_
                  refine Rx.go (fun _ => rfl) ?_
                  refine Rx.go (fun _ => rfl) ?_
                  show Rx X c0 m_Mod_readTag 36 [.ref (c0 + 16), .int ((nI acc.length) + 1), .int 0, .int 0, .int 1, .int (hb t q), .int 0, .int 1] [] (upd σ91 16 ((σ91 16) + 1)) τ91 _
                  refine Rx.go (fun _ => rfl) ?_
                  refine Rx.callE rfl rfl rfl rfl (rg_good hS92) ?_
                  show Rx X c0 m_Mod_readTag 40 [.ref (c0 + 16), .int ((nI acc.length) + 1), .int 0, .int 0, .int 1, .int (hb t q), .int 0, .int 1] [.int 0] (upd σ91 16 ((σ91 16) + 1)) τ91 _
                  refine Rx.go (fun _ => rfl) ?_
                  show Rx X c0 m_Mod_readTag 217 [.ref (c0 + 16), .int ((nI acc.length) + 1), .int 0, .int 0, .int 1, .int (hb t q), .int 0, .int 1] [] (upd σ91 16 ((σ91 16) + 1)) τ91 _
                  refine Rx.go (fun _ => rfl) ?_
                  refine Rx.go (fun _ => rfl) ?_
                  refine Rx.get rfl rfl ?_
                  refine Rx.go (fun _ => rfl) ?_
                  refine Rx.go (fun _ => rfl) ?_
                  refine Rx.put rfl (by decide) rfl rfl ?_
                  have hS93 := hS92.up (i := 13) (x := ((upd σ91 16 ((σ91 16) + 1)) 13) + ((nI acc.length) + 1)) (by omega)
                  exact Rx.ret rfl rfl (rQ_f (b := acc) (tg_x hm hlt hgd (by rw [decide_eq_true d20]; rfl)) hS93 (by first | omega | (simp only [List.length_append, List.length_cons, List.length_nil]; omega)) (by omega))
              · replace c46 : ¬ 90 < (hb t q) := of_decide_eq_false c46
                show Rx X c0 m_Mod_readTag 160 [.ref (c0 + 16), .int (nI acc.length), .int (nI run), .int (bi fs), .int 1, .int (hb t q), .int 0, .int 1] [.ref (c0 + 16)] σ87 τ87 _
                refine Rx.go (fun _ => rfl) ?_
                refine Rx.go (fun _ => rfl) ?_
                refine Rx.go (fun _ => rfl) ?_
                refine Rx.go (fun _ => rfl) ?_
                refine Rx.callP rfl rfl rfl rfl (rg_put _ hS87 (by first | omega | (simp only [List.length_append, List.length_cons, List.length_nil]; omega))) ?_
                intro σ94 τ94 hS94
                show Rx X c0 m_Mod_readTag 173 [.ref (c0 + 16), .int (nI acc.length), .int (nI run), .int (bi fs), .int 1, .int (hb t q), .int 0, .int 1] [] σ94 τ94 _
                refine Rx.go (fun _ => rfl) ?_
                show Rx X c0 m_Mod_readTag 176 [.ref (c0 + 16), .int ((nI acc.length) + 1), .int (nI run), .int (bi fs), .int 1, .int (hb t q), .int 0, .int 1] [] σ94 τ94 _
                refine Rx.go (fun _ => rfl) ?_
                refine Rx.go (fun _ => rfl) ?_
                refine Rx.get rfl rfl ?_
                refine Rx.go (fun _ => rfl) ?_
                refine Rx.go (fun _ => rfl) ?_
                refine Rx.put rfl (by decide) rfl rfl ?_
                have hS95 := hS94.at1
                refine Rx.go (fun _ => rfl) ?_
                refine Rx.go (fun _ => rfl) ?_
                show Rx X c0 m_Mod_readTag 197 [.ref (c0 + 16), .int ((nI acc.length) + 1), .int (nI run), .int (bi fs), .int 1, .int (hb t q), .int 0, .int 1] [] (upd σ94 16 ((σ94 16) + 1)) τ94 _
                refine Rx.go (fun _ => rfl) ?_
                refine Rx.go (fun _ => rfl) ?_
                show Rx X c0 m_Mod_readTag 199 [.ref (c0 + 16), .int ((nI acc.length) + 1), .int 0, .int (bi fs), .int 1, .int (hb t q), .int 0, .int 1] [] (upd σ94 16 ((σ94 16) + 1)) τ94 _
                refine Rx.go (fun _ => rfl) ?_
                refine Rx.go (fun _ => rfl) ?_
                refine Rx.ite (fun c48 => ?_) (fun c48 => ?_)
                · replace c48 : fs = false := bi_eqt c48
                  exact Bool.noConfusion (c38.symm.trans c48)
                · replace c48 : fs = true := bi_eqf c48
                  show Rx X c0 m_Mod_readTag 203 [.ref (c0 + 16), .int ((nI acc.length) + 1), .int 0, .int (bi fs), .int 1, .int (hb t q), .int 0, .int 1] [] (upd σ94 16 ((σ94 16) + 1)) τ94 _
                  refine Rx.go (fun _ => rfl) ?_
                  refine Rx.go (fun _ => rfl) ?_
                  show Rx X c0 m_Mod_readTag 212 [.ref (c0 + 16), .int ((nI acc.length) + 1), .int 0, .int (bi fs), .int 1, .int (hb t q), .int 0, .int 1] [] (upd σ94 16 ((σ94 16) + 1)) τ94 _
                  refine Rx.go (fun _ => rfl) ?_
                  refine Rx.go (fun _ => rfl) ?_
                  show Rx X c0 m_Mod_readTag 214 [.ref (c0 + 16), .int ((nI acc.length) + 1), .int 0, .int 0, .int 1, .int (hb t q), .int 0, .int 1] [] (upd σ94 16 ((σ94 16) + 1)) τ94 _
                  refine Rx.go (fun _ => rfl) ?_
                  refine Rx.go (fun _ => rfl) ?_
                  refine Rx.go (fun _ => rfl) ?_
                  show Rx X c0 m_Mod_readTag 36 [.ref (c0 + 16), .int ((nI acc.length) + 1), .int 0, .int 0, .int 1, .int (hb t q), .int 0, .int 1] [] (upd σ94 16 ((σ94 16) + 1)) τ94 _
                  refine Rx.go (fun _ => rfl) ?_
                  refine Rx.callE rfl rfl rfl rfl (rg_good hS95) ?_
                  show Rx X c0 m_Mod_readTag 40 [.ref (c0 + 16), .int ((nI acc.length) + 1), .int 0, .int 0, .int 1, .int (hb t q), .int 0, .int 1] [.int 0] (upd σ94 16 ((σ94 16) + 1)) τ94 _
                  refine Rx.go (fun _ => rfl) ?_
                  show Rx X c0 m_Mod_readTag 217 [.ref (c0 + 16), .int ((nI acc.length) + 1), .int 0, .int 0, .int 1, .int (hb t q), .int 0, .int 1] [] (upd σ94 16 ((σ94 16) + 1)) τ94 _
                  refine Rx.go (fun _ => rfl) ?_
                  refine Rx.go (fun _ => rfl) ?_
                  refine Rx.get rfl rfl ?_
                  refine Rx.go (fun _ => rfl) ?_
                  refine Rx.go (fun _ => rfl) ?_
                  refine Rx.put rfl (by decide) rfl rfl ?_
                  have hS96 := hS95.up (i := 13) (x := ((upd σ94 16 ((σ94 16) + 1)) 13) + ((nI acc.length) + 1)) (by omega)
                  exact Rx.ret rfl rfl (rQ_f (b := acc) (tg_x hm hlt hgd (by rw [decide_eq_true d20]; rfl)) hS96 (by first | omega | (simp only [List.length_append, List.length_cons, List.length_nil]; omega)) (by omega))
          · replace c43 : ¬ (nI acc.length) = 20 := of_decide_eq_false c43
            have d20 : ¬ acc.length = 20 := fun e => c43 (by rw [e]; rfl)
            show Rx X c0 m_Mod_readTag 125 [.ref (c0 + 16), .int (nI acc.length), .int (nI run), .int (bi fs), .int 1, .int (hb t q), .int 0, .int 1] [] σ τ _
            refine Rx.go (fun _ => rfl) ?_
            refine Rx.go (fun _ => rfl) ?_
            show Rx X c0 m_Mod_readTag 145 [.ref (c0 + 16), .int (nI acc.length), .int (nI run), .int (bi fs), .int 1, .int (hb t q), .int 0, .int 1] [] σ τ _
            refine Rx.go (fun _ => rfl) ?_
            refine Rx.go (fun _ => rfl) ?_
            refine Rx.go (fun _ => rfl) ?_
            refine Rx.go (fun _ => rfl) ?_
            refine Rx.ite (fun c49 => ?_) (fun c49 => ?_)
            · replace c49 : (hb t q) < 65 := of_decide_eq_true c49
              show Rx X c0 m_Mod_readTag 168 [.ref (c0 + 16), .int (nI acc.length), .int (nI run), .int (bi fs), .int 1, .int (hb t q), .int 0, .int 1] [.ref (c0 + 16)] σ τ _
              refine Rx.go (fun _ => rfl) ?_
              refine Rx.top (y := nI (smlN (t.getD q 0))) (by rw [hb_lt hlt]; exact sml_b (hS.z.by q) (Or.inl (by rw [← hb_lt hlt]; exact c49))) ?_
              refine Rx.callP rfl rfl rfl rfl (rs_put (smlN (t.getD q 0)) hS (by first | omega | (simp only [List.length_append, List.length_cons, List.length_nil]; omega))) ?_
              intro σ97 τ97 hS97
              show Rx X c0 m_Mod_readTag 173 [.ref (c0 + 16), .int (nI acc.length), .int (nI run), .int (bi fs), .int 1, .int (hb t q), .int 0, .int 1] [] σ97 τ97 _
              refine Rx.go (fun _ => rfl) ?_
              show Rx X c0 m_Mod_readTag 176 [.ref (c0 + 16), .int ((nI acc.length) + 1), .int (nI run), .int (bi fs), .int 1, .int (hb t q), .int 0, .int 1] [] σ97 τ97 _
              refine Rx.go (fun _ => rfl) ?_
              refine Rx.go (fun _ => rfl) ?_
              refine Rx.get rfl rfl ?_
              refine Rx.top (y := nI q) hS97.f16 ?_
              refine Rx.go (fun _ => rfl) ?_
              refine Rx.go (fun _ => rfl) ?_
              refine Rx.top (y := nI (q + 1)) (nI_1 _) ?_
              refine Rx.put rfl (by decide) rfl rfl ?_
              have hS98 := hS97.at1 hlt
              refine Rx.go (fun _ => rfl) ?_
              refine Rx.go (fun _ => rfl) ?_
              show Rx X c0 m_Mod_readTag 197 [.ref (c0 + 16), .int ((nI acc.length) + 1), .int (nI run), .int (bi fs), .int 1, .int (hb t q), .int 0, .int 1] [] (upd σ97 16 (nI (q + 1))) τ97 _
              refine Rx.go (fun _ => rfl) ?_
              refine Rx.go (fun _ => rfl) ?_
              show Rx X c0 m_Mod_readTag 199 [.ref (c0 + 16), .int ((nI acc.length) + 1), .int 0, .int (bi fs), .int 1, .int (hb t q), .int 0, .int 1] [] (upd σ97 16 (nI (q + 1))) τ97 _
              refine Rx.go (fun _ => rfl) ?_
              refine Rx.go (fun _ => rfl) ?_
              refine Rx.ite (fun c50 => ?_) (fun c50 => ?_)
              · replace c50 : fs = false := bi_eqt c50
                exact Bool.noConfusion (c38.symm.trans c50)
              · replace c50 : fs = true := bi_eqf c50
                show Rx X c0 m_Mod_readTag 203 [.ref (c0 + 16), .int ((nI acc.length) + 1), .int 0, .int (bi fs), .int 1, .int (hb t q), .int 0, .int 1] [] (upd σ97 16 (nI (q + 1))) τ97 _
                refine Rx.go (fun _ => rfl) ?_
                refine Rx.go (fun _ => rfl) ?_
                show Rx X c0 m_Mod_readTag 212 [.ref (c0 + 16), .int ((nI acc.length) + 1), .int 0, .int (bi fs), .int 1, .int (hb t q), .int 0, .int 1] [] (upd σ97 16 (nI (q + 1))) τ97 _
                refine Rx.go (fun _ => rfl) ?_
                refine Rx.go (fun _ => rfl) ?_
                show Rx X c0 m_Mod_readTag 214 [.ref (c0 + 16), .int ((nI acc.length) + 1), .int 0, .int 0, .int 1, .int (hb t q), .int 0, .int 1] [] (upd σ97 16 (nI (q + 1))) τ97 _
                refine Rx.go (fun _ => rfl) ?_
                show Rx X c0 m_Mod_readTag 31 [.ref (c0 + 16), .int ((nI acc.length) + 1), .int 0, .int 0, .int 1, .int (hb t q), .int 0, .int 1] [] (upd σ97 16 (nI (q + 1))) τ97 _
                obtain ⟨m1, rfl⟩ : ∃ m1, m = m1 + 1 := ⟨m - 1, by omega⟩
                have e1 : sT t (m1 + 1) q run fs acc = sT t m1 (q + 1) 0 false (acc ++ [smlN (t.getD q 0)]) := by rw [tg_n hgd (by rw [decide_eq_false d20, hg]; simp), hd]; first | rfl | simp [hg, c38, c50]
                rw [e1, show nI acc.length + 1 = nI (acc ++ [smlN (t.getD q 0)]).length by rw [nI_1, List.length_append]; rfl]
                exact ih m1 (by omega) (q + 1) 0 false (acc ++ [smlN (t.getD q 0)]) _ _ _ _ _ (by omega) (by simp only [List.length_append, List.length_cons, List.length_nil]; omega) (by omega) (by rw [← List.append_assoc]; exact hS98)
            · replace c49 : ¬ (hb t q) < 65 := of_decide_eq_false c49
              show Rx X c0 m_Mod_readTag 153 [.ref (c0 + 16), .int (nI acc.length), .int (nI run), .int (bi fs), .int 1, .int (hb t q), .int 0, .int 1] [.ref (c0 + 16)] σ τ _
              refine Rx.go (fun _ => rfl) ?_
              refine Rx.go (fun _ => rfl) ?_
              refine Rx.go (fun _ => rfl) ?_
              refine Rx.ite (fun c51 => ?_) (fun c51 => ?_)
              · replace c51 : 90 < (hb t q) := of_decide_eq_true c51
                show Rx X c0 m_Mod_readTag 168 [.ref (c0 + 16), .int (nI acc.length), .int (nI run), .int (bi fs), .int 1, .int (hb t q), .int 0, .int 1] [.ref (c0 + 16)] σ τ _
                refine Rx.go (fun _ => rfl) ?_
                refine Rx.top (y := nI (smlN (t.getD q 0))) (by rw [hb_lt hlt]; exact sml_b (hS.z.by q) (Or.inr (by rw [← hb_lt hlt]; exact c51))) ?_
                refine Rx.callP rfl rfl rfl rfl (rs_put (smlN (t.getD q 0)) hS (by first | omega | (simp only [List.length_append, List.length_cons, List.length_nil]; omega))) ?_
                intro σ99 τ99 hS99
                show Rx X c0 m_Mod_readTag 173 [.ref (c0 + 16), .int (nI acc.length), .int (nI run), .int (bi fs), .int 1, .int (hb t q), .int 0, .int 1] [] σ99 τ99 _
                refine Rx.go (fun _ => rfl) ?_
                show Rx X c0 m_Mod_readTag 176 [.ref (c0 + 16), .int ((nI acc.length) + 1), .int (nI run), .int (bi fs), .int 1, .int (hb t q), .int 0, .int 1] [] σ99 τ99 _
                refine Rx.go (fun _ => rfl) ?_
                refine Rx.go (fun _ => rfl) ?_
                refine Rx.get rfl rfl ?_
                refine Rx.top (y := nI q) hS99.f16 ?_
                refine Rx.go (fun _ => rfl) ?_
                refine Rx.go (fun _ => rfl) ?_
                refine Rx.top (y := nI (q + 1)) (nI_1 _) ?_
                refine Rx.put rfl (by decide) rfl rfl ?_
                have hS100 := hS99.at1 hlt
                refine Rx.go (fun _ => rfl) ?_
                refine Rx.go (fun _ => rfl) ?_
                show Rx X c0 m_Mod_readTag 197 [.ref (c0 + 16), .int ((nI acc.length) + 1), .int (nI run), .int (bi fs), .int 1, .int (hb t q), .int 0, .int 1] [] (upd σ99 16 (nI (q + 1))) τ99 _
                refine Rx.go (fun _ => rfl) ?_
                refine Rx.go (fun _ => rfl) ?_
                show Rx X c0 m_Mod_readTag 199 [.ref (c0 + 16), .int ((nI acc.length) + 1), .int 0, .int (bi fs), .int 1, .int (hb t q), .int 0, .int 1] [] (upd σ99 16 (nI (q + 1))) τ99 _
                refine Rx.go (fun _ => rfl) ?_
                refine Rx.go (fun _ => rfl) ?_
                refine Rx.ite (fun c52 => ?_) (fun c52 => ?_)
                · replace c52 : fs = false := bi_eqt c52
                  exact Bool.noConfusion (c38.symm.trans c52)
                · replace c52 : fs = true := bi_eqf c52
                  show Rx X c0 m_Mod_readTag 203 [.ref (c0 + 16), .int ((nI acc.length) + 1), .int 0, .int (bi fs), .int 1, .int (hb t q), .int 0, .int 1] [] (upd σ99 16 (nI (q + 1))) τ99 _
                  refine Rx.go (fun _ => rfl) ?_
                  refine Rx.go (fun _ => rfl) ?_
                  show Rx X c0 m_Mod_readTag 212 [.ref (c0 + 16), .int ((nI acc.length) + 1), .int 0, .int (bi fs), .int 1, .int (hb t q), .int 0, .int 1] [] (upd σ99 16 (nI (q + 1))) τ99 _
                  refine Rx.go (fun _ => rfl) ?_
                  refine Rx.go (fun _ => rfl) ?_
                  show Rx X c0 m_Mod_readTag 214 [.ref (c0 + 16), .int ((nI acc.length) + 1), .int 0, .int 0, .int 1, .int (hb t q), .int 0, .int 1] [] (upd σ99 16 (nI (q + 1))) τ99 _
                  refine Rx.go (fun _ => rfl) ?_
                  show Rx X c0 m_Mod_readTag 31 [.ref (c0 + 16), .int ((nI acc.length) + 1), .int 0, .int 0, .int 1, .int (hb t q), .int 0, .int 1] [] (upd σ99 16 (nI (q + 1))) τ99 _
                  obtain ⟨m1, rfl⟩ : ∃ m1, m = m1 + 1 := ⟨m - 1, by omega⟩
                  have e1 : sT t (m1 + 1) q run fs acc = sT t m1 (q + 1) 0 false (acc ++ [smlN (t.getD q 0)]) := by rw [tg_n hgd (by rw [decide_eq_false d20, hg]; simp), hd]; first | rfl | simp [hg, c38, c52]
                  rw [e1, show nI acc.length + 1 = nI (acc ++ [smlN (t.getD q 0)]).length by rw [nI_1, List.length_append]; rfl]
                  exact ih m1 (by omega) (q + 1) 0 false (acc ++ [smlN (t.getD q 0)]) _ _ _ _ _ (by omega) (by simp only [List.length_append, List.length_cons, List.length_nil]; omega) (by omega) (by rw [← List.append_assoc]; exact hS100)
              · replace c51 : ¬ 90 < (hb t q) := of_decide_eq_false c51
                show Rx X c0 m_Mod_readTag 160 [.ref (c0 + 16), .int (nI acc.length), .int (nI run), .int (bi fs), .int 1, .int (hb t q), .int 0, .int 1] [.ref (c0 + 16)] σ τ _
                refine Rx.go (fun _ => rfl) ?_
                refine Rx.go (fun _ => rfl) ?_
                refine Rx.go (fun _ => rfl) ?_
                refine Rx.go (fun _ => rfl) ?_
                refine Rx.top (y := nI (smlN (t.getD q 0))) (by rw [hb_lt hlt]; exact sml_a (hS.z.by q) (by rw [← hb_lt hlt]; exact c49) (by rw [← hb_lt hlt]; exact c51)) ?_
                refine Rx.callP rfl rfl rfl rfl (rs_put (smlN (t.getD q 0)) hS (by first | omega | (simp only [List.length_append, List.length_cons, List.length_nil]; omega))) ?_
                intro σ101 τ101 hS101
                show Rx X c0 m_Mod_readTag 173 [.ref (c0 + 16), .int (nI acc.length), .int (nI run), .int (bi fs), .int 1, .int (hb t q), .int 0, .int 1] [] σ101 τ101 _
                refine Rx.go (fun _ => rfl) ?_
                show Rx X c0 m_Mod_readTag 176 [.ref (c0 + 16), .int ((nI acc.length) + 1), .int (nI run), .int (bi fs), .int 1, .int (hb t q), .int 0, .int 1] [] σ101 τ101 _
                refine Rx.go (fun _ => rfl) ?_
                refine Rx.go (fun _ => rfl) ?_
                refine Rx.get rfl rfl ?_
                refine Rx.top (y := nI q) hS101.f16 ?_
                refine Rx.go (fun _ => rfl) ?_
                refine Rx.go (fun _ => rfl) ?_
                refine Rx.top (y := nI (q + 1)) (nI_1 _) ?_
                refine Rx.put rfl (by decide) rfl rfl ?_
                have hS102 := hS101.at1 hlt
                refine Rx.go (fun _ => rfl) ?_
                refine Rx.go (fun _ => rfl) ?_
                show Rx X c0 m_Mod_readTag 197 [.ref (c0 + 16), .int ((nI acc.length) + 1), .int (nI run), .int (bi fs), .int 1, .int (hb t q), .int 0, .int 1] [] (upd σ101 16 (nI (q + 1))) τ101 _
                refine Rx.go (fun _ => rfl) ?_
                refine Rx.go (fun _ => rfl) ?_
                show Rx X c0 m_Mod_readTag 199 [.ref (c0 + 16), .int ((nI acc.length) + 1), .int 0, .int (bi fs), .int 1, .int (hb t q), .int 0, .int 1] [] (upd σ101 16 (nI (q + 1))) τ101 _
                refine Rx.go (fun _ => rfl) ?_
                refine Rx.go (fun _ => rfl) ?_
                refine Rx.ite (fun c53 => ?_) (fun c53 => ?_)
                · replace c53 : fs = false := bi_eqt c53
                  exact Bool.noConfusion (c38.symm.trans c53)
                · replace c53 : fs = true := bi_eqf c53
                  show Rx X c0 m_Mod_readTag 203 [.ref (c0 + 16), .int ((nI acc.length) + 1), .int 0, .int (bi fs), .int 1, .int (hb t q), .int 0, .int 1] [] (upd σ101 16 (nI (q + 1))) τ101 _
                  refine Rx.go (fun _ => rfl) ?_
                  refine Rx.go (fun _ => rfl) ?_
                  show Rx X c0 m_Mod_readTag 212 [.ref (c0 + 16), .int ((nI acc.length) + 1), .int 0, .int (bi fs), .int 1, .int (hb t q), .int 0, .int 1] [] (upd σ101 16 (nI (q + 1))) τ101 _
                  refine Rx.go (fun _ => rfl) ?_
                  refine Rx.go (fun _ => rfl) ?_
                  show Rx X c0 m_Mod_readTag 214 [.ref (c0 + 16), .int ((nI acc.length) + 1), .int 0, .int 0, .int 1, .int (hb t q), .int 0, .int 1] [] (upd σ101 16 (nI (q + 1))) τ101 _
                  refine Rx.go (fun _ => rfl) ?_
                  show Rx X c0 m_Mod_readTag 31 [.ref (c0 + 16), .int ((nI acc.length) + 1), .int 0, .int 0, .int 1, .int (hb t q), .int 0, .int 1] [] (upd σ101 16 (nI (q + 1))) τ101 _
                  obtain ⟨m1, rfl⟩ : ∃ m1, m = m1 + 1 := ⟨m - 1, by omega⟩
                  have e1 : sT t (m1 + 1) q run fs acc = sT t m1 (q + 1) 0 false (acc ++ [smlN (t.getD q 0)]) := by rw [tg_n hgd (by rw [decide_eq_false d20, hg]; simp), hd]; first | rfl | simp [hg, c38, c53]
                  rw [e1, show nI acc.length + 1 = nI (acc ++ [smlN (t.getD q 0)]).length by rw [nI_1, List.length_append]; rfl]
                  exact ih m1 (by omega) (q + 1) 0 false (acc ++ [smlN (t.getD q 0)]) _ _ _ _ _ (by omega) (by simp only [List.length_append, List.length_cons, List.length_nil]; omega) (by omega) (by rw [← List.append_assoc]; exact hS102)
    · replace c38 : fs = false := bi_nef c38
      show Rx X c0 m_Mod_readTag 61 [.ref (c0 + 16), .int (nI acc.length), .int (nI run), .int (bi fs), .int 1, .int (hb t q), b6, b7] [] σ τ _
      refine Rx.go (fun _ => rfl) ?_
      refine Rx.scallE rfl rfl rfl rfl (sx_Mod_isDigit X (hb t q)) ?_
      show Rx X c0 m_Mod_readTag 66 [.ref (c0 + 16), .int (nI acc.length), .int (nI run), .int (bi fs), .int 1, .int (hb t q), b6, b7] [.int (bi (isD (hb t q)))] σ τ _
      refine Rx.go (fun _ => rfl) ?_
      refine Rx.ite (fun c54 => ?_) (fun c54 => ?_)
      · replace c54 : (isD (hb t q)) = false := bi_eqt c54
        show Rx X c0 m_Mod_readTag 73 [.ref (c0 + 16), .int (nI acc.length), .int (nI run), .int (bi fs), .int 1, .int (hb t q), b6, b7] [] σ τ _
        refine Rx.go (fun _ => rfl) ?_
        refine Rx.go (fun _ => rfl) ?_
        show Rx X c0 m_Mod_readTag 76 [.ref (c0 + 16), .int (nI acc.length), .int (nI run), .int (bi fs), .int 1, .int (hb t q), .int 0, b7] [] σ τ _
        refine Rx.go (fun _ => rfl) ?_
        refine Rx.go (fun _ => rfl) ?_
        refine Rx.go (fun _ => rfl) ?_
        refine Rx.ite (fun c55 => ?_) (fun c55 => ?_)
        · replace c55 : ¬ (hb t q) = 45 := of_decide_eq_true c55
          show Rx X c0 m_Mod_readTag 91 [.ref (c0 + 16), .int (nI acc.length), .int (nI run), .int (bi fs), .int 1, .int (hb t q), .int 0, b7] [] σ τ _
          refine Rx.go (fun _ => rfl) ?_
          refine Rx.go (fun _ => rfl) ?_
          show Rx X c0 m_Mod_readTag 94 [.ref (c0 + 16), .int (nI acc.length), .int (nI run), .int (bi fs), .int 1, .int (hb t q), .int 0, .int 0] [] σ τ _
          have hg : (isL (hb t q) || (isD (hb t q) && !fs)) = false := by simp [c1, c38, c54]
          have hd : (decide (hb t q = 45) && decide (0 < run)) = false := by simp [c55]
          refine Rx.go (fun _ => rfl) ?_
          refine Rx.go (fun _ => rfl) ?_
          show Rx X c0 m_Mod_readTag 99 [.ref (c0 + 16), .int (nI acc.length), .int (nI run), .int (bi fs), .int 1, .int (hb t q), .int 0, .int 0] [] σ τ _
          refine Rx.go (fun _ => rfl) ?_
          refine Rx.go (fun _ => rfl) ?_
          show Rx X c0 m_Mod_readTag 104 [.ref (c0 + 16), .int (nI acc.length), .int (nI run), .int (bi fs), .int 1, .int (hb t q), .int 0, .int 0] [] σ τ _
          refine Rx.go (fun _ => rfl) ?_
          refine Rx.go (fun _ => rfl) ?_
          refine Rx.ite (fun c56 => ?_) (fun c56 => ?_)
          · replace c56 : ¬ (nI run) = 0 := of_decide_eq_true c56
            have dz : 0 < run := Nat.pos_of_ne_zero (fun e => c56 (by rw [e]; rfl))
            show Rx X c0 m_Mod_readTag 113 [.ref (c0 + 16), .int (nI acc.length), .int (nI run), .int (bi fs), .int 1, .int (hb t q), .int 0, .int 0] [] σ τ _
            refine Rx.go (fun _ => rfl) ?_
            refine Rx.go (fun _ => rfl) ?_
            show Rx X c0 m_Mod_readTag 116 [.ref (c0 + 16), .int (nI acc.length), .int (nI run), .int (bi fs), .int 0, .int (hb t q), .int 0, .int 0] [] σ τ _
            refine Rx.go (fun _ => rfl) ?_
            refine Rx.go (fun _ => rfl) ?_
            refine Rx.go (fun _ => rfl) ?_
            show Rx X c0 m_Mod_readTag 217 [.ref (c0 + 16), .int (nI acc.length), .int (nI run), .int (bi fs), .int 0, .int (hb t q), .int 0, .int 0] [] σ τ _
            refine Rx.go (fun _ => rfl) ?_
            refine Rx.go (fun _ => rfl) ?_
            refine Rx.get rfl rfl ?_
            refine Rx.top (y := nI db) hS.f13 ?_
            refine Rx.go (fun _ => rfl) ?_
            refine Rx.go (fun _ => rfl) ?_
            refine Rx.top (y := nI (db + acc.length)) (nI_add _ _) ?_
            refine Rx.put rfl (by decide) rfl rfl ?_
            have hS103 := hS.db1 (x := (db + acc.length))
            exact Rx.ret rfl rfl (rQ_t (tg_e hm hg hd dz) hS103)
          · replace c56 : (nI run) = 0 := Classical.not_not.mp (of_decide_eq_false c56)
            have dz : run = 0 := (nI_eq (b := 0) (by omega) (by decide)).mp c56
            show Rx X c0 m_Mod_readTag 108 [.ref (c0 + 16), .int (nI acc.length), .int (nI run), .int (bi fs), .int 1, .int (hb t q), .int 0, .int 0] [] σ τ _
            refine Rx.go (fun _ => rfl) ?_
            refine Rx.go (fun _ => rfl) ?_
            refine Rx.callP rfl rfl rfl rfl (rs_ov_f false hS (fun h => Bool.false_ne_true h.2)) ?_
            intro σ104 τ104 hS104
            show Rx X c0 m_Mod_readTag 113 [.ref (c0 + 16), .int (nI acc.length), .int (nI run), .int (bi fs), .int 1, .int (hb t q), .int 0, .int 0] [] σ104 τ104 _
            refine Rx.go (fun _ => rfl) ?_
            refine Rx.go (fun _ => rfl) ?_
            show Rx X c0 m_Mod_readTag 116 [.ref (c0 + 16), .int (nI acc.length), .int (nI run), .int (bi fs), .int 0, .int (hb t q), .int 0, .int 0] [] σ104 τ104 _
            refine Rx.go (fun _ => rfl) ?_
            refine Rx.go (fun _ => rfl) ?_
            refine Rx.go (fun _ => rfl) ?_
            show Rx X c0 m_Mod_readTag 217 [.ref (c0 + 16), .int (nI acc.length), .int (nI run), .int (bi fs), .int 0, .int (hb t q), .int 0, .int 0] [] σ104 τ104 _
            refine Rx.go (fun _ => rfl) ?_
            refine Rx.go (fun _ => rfl) ?_
            refine Rx.get rfl rfl ?_
            refine Rx.go (fun _ => rfl) ?_
            refine Rx.go (fun _ => rfl) ?_
            refine Rx.put rfl (by decide) rfl rfl ?_
            have hS105 := hS104.up (i := 13) (x := (σ104 13) + (nI acc.length)) (by omega)
            exact Rx.ret rfl rfl (rQ_f (b := acc) (tg_f hm hg hd dz) hS105 (by first | omega | (simp only [List.length_append, List.length_cons, List.length_nil]; omega)) (by omega))
        · replace c55 : (hb t q) = 45 := Classical.not_not.mp (of_decide_eq_false c55)
          show Rx X c0 m_Mod_readTag 83 [.ref (c0 + 16), .int (nI acc.length), .int (nI run), .int (bi fs), .int 1, .int (hb t q), .int 0, b7] [] σ τ _
          refine Rx.go (fun _ => rfl) ?_
          refine Rx.go (fun _ => rfl) ?_
          refine Rx.ite (fun c57 => ?_) (fun c57 => ?_)
          · replace c57 : (nI run) ≤ 0 := of_decide_eq_true c57
            have dr : ¬ 0 < run := by have := (nI_leI (b := 0) (by omega) (by decide)).mp c57; omega
            show Rx X c0 m_Mod_readTag 91 [.ref (c0 + 16), .int (nI acc.length), .int (nI run), .int (bi fs), .int 1, .int (hb t q), .int 0, b7] [] σ τ _
            refine Rx.go (fun _ => rfl) ?_
            refine Rx.go (fun _ => rfl) ?_
            show Rx X c0 m_Mod_readTag 94 [.ref (c0 + 16), .int (nI acc.length), .int (nI run), .int (bi fs), .int 1, .int (hb t q), .int 0, .int 0] [] σ τ _
            have hg : (isL (hb t q) || (isD (hb t q) && !fs)) = false := by simp [c1, c38, c54]
            have hd : (decide (hb t q = 45) && decide (0 < run)) = false := by simp [c55, dr]
            refine Rx.go (fun _ => rfl) ?_
            refine Rx.go (fun _ => rfl) ?_
            show Rx X c0 m_Mod_readTag 99 [.ref (c0 + 16), .int (nI acc.length), .int (nI run), .int (bi fs), .int 1, .int (hb t q), .int 0, .int 0] [] σ τ _
            refine Rx.go (fun _ => rfl) ?_
            refine Rx.go (fun _ => rfl) ?_
            show Rx X c0 m_Mod_readTag 104 [.ref (c0 + 16), .int (nI acc.length), .int (nI run), .int (bi fs), .int 1, .int (hb t q), .int 0, .int 0] [] σ τ _
            refine Rx.go (fun _ => rfl) ?_
            refine Rx.go (fun _ => rfl) ?_
            refine Rx.ite (fun c58 => ?_) (fun c58 => ?_)
            · replace c58 : ¬ (nI run) = 0 := of_decide_eq_true c58
              have dz : 0 < run := Nat.pos_of_ne_zero (fun e => c58 (by rw [e]; rfl))
              show Rx X c0 m_Mod_readTag 113 [.ref (c0 + 16), .int (nI acc.length), .int (nI run), .int (bi fs), .int 1, .int (hb t q), .int 0, .int 0] [] σ τ _
              refine Rx.go (fun _ => rfl) ?_
              refine Rx.go (fun _ => rfl) ?_
              show Rx X c0 m_Mod_readTag 116 [.ref (c0 + 16), .int (nI acc.length), .int (nI run), .int (bi fs), .int 0, .int (hb t q), .int 0, .int 0] [] σ τ _
              refine Rx.go (fun _ => rfl) ?_
              refine Rx.go (fun _ => rfl) ?_
              refine Rx.go (fun _ => rfl) ?_
              show Rx X c0 m_Mod_readTag 217 [.ref (c0 + 16), .int (nI acc.length), .int (nI run), .int (bi fs), .int 0, .int (hb t q), .int 0, .int 0] [] σ τ _
              refine Rx.go (fun _ => rfl) ?_
              refine Rx.go (fun _ => rfl) ?_
              refine Rx.get rfl rfl ?_
              refine Rx.top (y := nI db) hS.f13 ?_
              refine Rx.go (fun _ => rfl) ?_
              refine Rx.go (fun _ => rfl) ?_
              refine Rx.top (y := nI (db + acc.length)) (nI_add _ _) ?_
              refine Rx.put rfl (by decide) rfl rfl ?_
              have hS106 := hS.db1 (x := (db + acc.length))
              exact Rx.ret rfl rfl (rQ_t (tg_e hm hg hd dz) hS106)
            · replace c58 : (nI run) = 0 := Classical.not_not.mp (of_decide_eq_false c58)
              have dz : run = 0 := (nI_eq (b := 0) (by omega) (by decide)).mp c58
              show Rx X c0 m_Mod_readTag 108 [.ref (c0 + 16), .int (nI acc.length), .int (nI run), .int (bi fs), .int 1, .int (hb t q), .int 0, .int 0] [] σ τ _
              refine Rx.go (fun _ => rfl) ?_
              refine Rx.go (fun _ => rfl) ?_
              refine Rx.callP rfl rfl rfl rfl (rs_ov_f false hS (fun h => Bool.false_ne_true h.2)) ?_
              intro σ107 τ107 hS107
              show Rx X c0 m_Mod_readTag 113 [.ref (c0 + 16), .int (nI acc.length), .int (nI run), .int (bi fs), .int 1, .int (hb t q), .int 0, .int 0] [] σ107 τ107 _
              refine Rx.go (fun _ => rfl) ?_
              refine Rx.go (fun _ => rfl) ?_
              show Rx X c0 m_Mod_readTag 116 [.ref (c0 + 16), .int (nI acc.length), .int (nI run), .int (bi fs), .int 0, .int (hb t q), .int 0, .int 0] [] σ107 τ107 _
              refine Rx.go (fun _ => rfl) ?_
              refine Rx.go (fun _ => rfl) ?_
              refine Rx.go (fun _ => rfl) ?_
              show Rx X c0 m_Mod_readTag 217 [.ref (c0 + 16), .int (nI acc.length), .int (nI run), .int (bi fs), .int 0, .int (hb t q), .int 0, .int 0] [] σ107 τ107 _
              refine Rx.go (fun _ => rfl) ?_
              refine Rx.go (fun _ => rfl) ?_
              refine Rx.get rfl rfl ?_
              refine Rx.go (fun _ => rfl) ?_
              refine Rx.go (fun _ => rfl) ?_
              refine Rx.put rfl (by decide) rfl rfl ?_
              have hS108 := hS107.up (i := 13) (x := (σ107 13) + (nI acc.length)) (by omega)
              exact Rx.ret rfl rfl (rQ_f (b := acc) (tg_f hm hg hd dz) hS108 (by first | omega | (simp only [List.length_append, List.length_cons, List.length_nil]; omega)) (by omega))
          · replace c57 : ¬ (nI run) ≤ 0 := of_decide_eq_false c57
            have dr : 0 < run := Nat.pos_of_ne_zero (fun e => c57 (by rw [e]; exact Int32.le_refl _))
            show Rx X c0 m_Mod_readTag 87 [.ref (c0 + 16), .int (nI acc.length), .int (nI run), .int (bi fs), .int 1, .int (hb t q), .int 0, b7] [] σ τ _
            refine Rx.go (fun _ => rfl) ?_
            refine Rx.go (fun _ => rfl) ?_
            refine Rx.go (fun _ => rfl) ?_
            show Rx X c0 m_Mod_readTag 94 [.ref (c0 + 16), .int (nI acc.length), .int (nI run), .int (bi fs), .int 1, .int (hb t q), .int 0, .int 1] [] σ τ _
            have hg : (isL (hb t q) || (isD (hb t q) && !fs)) = false := by simp [c1, c38, c54]
            have hd : (decide (hb t q = 45) && decide (0 < run)) = true := by simp [c55, dr]
            have hgd : (isL (hb t q) || (isD (hb t q) && !fs)) = true ∨ (decide (hb t q = 45) && decide (0 < run)) = true := Or.inr hd
            have hlt := tg_lt hgd
            refine Rx.go (fun _ => rfl) ?_
            refine Rx.go (fun _ => rfl) ?_
            show Rx X c0 m_Mod_readTag 99 [.ref (c0 + 16), .int (nI acc.length), .int (nI run), .int (bi fs), .int 1, .int (hb t q), .int 0, .int 1] [] σ τ _
            refine Rx.go (fun _ => rfl) ?_
            refine Rx.go (fun _ => rfl) ?_
            show Rx X c0 m_Mod_readTag 119 [.ref (c0 + 16), .int (nI acc.length), .int (nI run), .int (bi fs), .int 1, .int (hb t q), .int 0, .int 1] [] σ τ _
            refine Rx.go (fun _ => rfl) ?_
            refine Rx.go (fun _ => rfl) ?_
            refine Rx.go (fun _ => rfl) ?_
            refine Rx.ite (fun c59 => ?_) (fun c59 => ?_)
            · replace c59 : (nI acc.length) = 20 := of_decide_eq_true c59
              have d20 : acc.length = 20 := (nI_eq (b := 20) (by omega) (by decide)).mp c59
              show Rx X c0 m_Mod_readTag 136 [.ref (c0 + 16), .int (nI acc.length), .int (nI run), .int (bi fs), .int 1, .int (hb t q), .int 0, .int 1] [] σ τ _
              refine Rx.go (fun _ => rfl) ?_
              refine Rx.go (fun _ => rfl) ?_
              refine Rx.go (fun _ => rfl) ?_
              refine Rx.get rfl rfl ?_
              refine Rx.top (y := nI q) hS.f16 ?_
              refine Rx.callP rfl rfl rfl rfl (rs_fl (wn := q) hS (by decide) rfl) ?_
              intro σ109 τ109 hS109
              show Rx X c0 m_Mod_readTag 145 [.ref (c0 + 16), .int (nI acc.length), .int (nI run), .int (bi fs), .int 1, .int (hb t q), .int 0, .int 1] [] σ109 τ109 _
              refine Rx.go (fun _ => rfl) ?_
              refine Rx.go (fun _ => rfl) ?_
              refine Rx.go (fun _ => rfl) ?_
              refine Rx.go (fun _ => rfl) ?_
              refine Rx.ite (fun c60 => ?_) (fun c60 => ?_)
              · replace c60 : (hb t q) < 65 := of_decide_eq_true c60
                show Rx X c0 m_Mod_readTag 168 [.ref (c0 + 16), .int (nI acc.length), .int (nI run), .int (bi fs), .int 1, .int (hb t q), .int 0, .int 1] [.ref (c0 + 16)] σ109 τ109 _
                refine Rx.go (fun _ => rfl) ?_
                refine Rx.callP rfl rfl rfl rfl (rg_put _ hS109 (by first | omega | (simp only [List.length_append, List.length_cons, List.length_nil]; omega))) ?_
                intro σ110 τ110 hS110
                show Rx X c0 m_Mod_readTag 173 [.ref (c0 + 16), .int (nI acc.length), .int (nI run), .int (bi fs), .int 1, .int (hb t q), .int 0, .int 1] [] σ110 τ110 _
                refine Rx.go (fun _ => rfl) ?_
                show Rx X c0 m_Mod_readTag 176 [.ref (c0 + 16), .int ((nI acc.length) + 1), .int (nI run), .int (bi fs), .int 1, .int (hb t q), .int 0, .int 1] [] σ110 τ110 _
                refine Rx.go (fun _ => rfl) ?_
                refine Rx.go (fun _ => rfl) ?_
                refine Rx.get rfl rfl ?_
                refine Rx.go (fun _ => rfl) ?_
                refine Rx.go (fun _ => rfl) ?_
                refine Rx.put rfl (by decide) rfl rfl ?_
                have hS111 := hS110.at1
                refine Rx.go (fun _ => rfl) ?_
                refine Rx.go (fun _ => rfl) ?_
                show Rx X c0 m_Mod_readTag 197 [.ref (c0 + 16), .int ((nI acc.length) + 1), .int (nI run), .int (bi fs), .int 1, .int (hb t q), .int 0, .int 1] [] (upd σ110 16 ((σ110 16) + 1)) τ110 _
                refine Rx.go (fun _ => rfl) ?_
                refine Rx.go (fun _ => rfl) ?_
                show Rx X c0 m_Mod_readTag 199 [.ref (c0 + 16), .int ((nI acc.length) + 1), .int 0, .int (bi fs), .int 1, .int (hb t q), .int 0, .int 1] [] (upd σ110 16 ((σ110 16) + 1)) τ110 _
                refine Rx.go (fun _ => rfl) ?_
                refine Rx.go (fun _ => rfl) ?_
                refine Rx.ite (fun c61 => ?_) (fun c61 => ?_)
                · replace c61 : fs = false := bi_eqt c61
                  show Rx X c0 m_Mod_readTag 212 [.ref (c0 + 16), .int ((nI acc.length) + 1), .int 0, .int (bi fs), .int 1, .int (hb t q), .int 0, .int 1] [] (upd σ110 16 ((σ110 16) + 1)) τ110 _
                  refine Rx.go (fun _ => rfl) ?_
                  refine Rx.go (fun _ => rfl) ?_
                  show Rx X c0 m_Mod_readTag 214 [.ref (c0 + 16), .int ((nI acc.length) + 1), .int 0, .int 0, .int 1, .int (hb t q), .int 0, .int 1] [] (upd σ110 16 ((σ110 16) + 1)) τ110 _
                  refine Rx.go (fun _ => rfl) ?_
                  refine Rx.go (fun _ => rfl) ?_
                  refine Rx.go (fun _ => rfl) ?_
                  show Rx X c0 m_Mod_readTag 36 [.ref (c0 + 16), .int ((nI acc.length) + 1), .int 0, .int 0, .int 1, .int (hb t q), .int 0, .int 1] [] (upd σ110 16 ((σ110 16) + 1)) τ110 _
                  refine Rx.go (fun _ => rfl) ?_
                  refine Rx.callE rfl rfl rfl rfl (rg_good hS111) ?_
                  show Rx X c0 m_Mod_readTag 40 [.ref (c0 + 16), .int ((nI acc.length) + 1), .int 0, .int 0, .int 1, .int (hb t q), .int 0, .int 1] [.int 0] (upd σ110 16 ((σ110 16) + 1)) τ110 _
                  refine Rx.go (fun _ => rfl) ?_
                  show Rx X c0 m_Mod_readTag 217 [.ref (c0 + 16), .int ((nI acc.length) + 1), .int 0, .int 0, .int 1, .int (hb t q), .int 0, .int 1] [] (upd σ110 16 ((σ110 16) + 1)) τ110 _
                  refine Rx.go (fun _ => rfl) ?_
                  refine Rx.go (fun _ => rfl) ?_
                  refine Rx.get rfl rfl ?_
                  refine Rx.go (fun _ => rfl) ?_
                  refine Rx.go (fun _ => rfl) ?_
                  refine Rx.put rfl (by decide) rfl rfl ?_
                  have hS112 := hS111.up (i := 13) (x := ((upd σ110 16 ((σ110 16) + 1)) 13) + ((nI acc.length) + 1)) (by omega)
                  exact Rx.ret rfl rfl (rQ_f (b := acc) (tg_x hm hlt hgd (by rw [decide_eq_true d20]; rfl)) hS112 (by first | omega | (simp only [List.length_append, List.length_cons, List.length_nil]; omega)) (by omega))
                · replace c61 : fs = true := bi_eqf c61
                  exact Bool.noConfusion (c38.symm.trans c61)
              · replace c60 : ¬ (hb t q) < 65 := of_decide_eq_false c60
                show Rx X c0 m_Mod_readTag 153 [.ref (c0 + 16), .int (nI acc.length), .int (nI run), .int (bi fs), .int 1, .int (hb t q), .int 0, .int 1] [.ref (c0 + 16)] σ109 τ109 _
                refine Rx.go (fun _ => rfl) ?_
                refine Rx.go (fun _ => rfl) ?_
                refine Rx.go (fun _ => rfl) ?_
                refine Rx.ite (fun c62 => ?_) (fun c62 => ?_)
                · replace c62 : 90 < (hb t q) := of_decide_eq_true c62
                  show Rx X c0 m_Mod_readTag 168 [.ref (c0 + 16), .int (nI acc.length), .int (nI run), .int (bi fs), .int 1, .int (hb t q), .int 0, .int 1] [.ref (c0 + 16)] σ109 τ109 _
                  refine Rx.go (fun _ => rfl) ?_
                  refine Rx.callP rfl rfl rfl rfl (rg_put _ hS109 (by first | omega | (simp only [List.length_append, List.length_cons, List.length_nil]; omega))) ?_
                  intro σ113 τ113 hS113
                  show Rx X c0 m_Mod_readTag 173 [.ref (c0 + 16), .int (nI acc.length), .int (nI run), .int (bi fs), .int 1, .int (hb t q), .int 0, .int 1] [] σ113 τ113 _
                  refine Rx.go (fun _ => rfl) ?_
                  show Rx X c0 m_Mod_readTag 176 [.ref (c0 + 16), .int ((nI acc.length) + 1), .int (nI run), .int (bi fs), .int 1, .int (hb t q), .int 0, .int 1] [] σ113 τ113 _
                  refine Rx.go (fun _ => rfl) ?_
                  refine Rx.go (fun _ => rfl) ?_
                  refine Rx.get rfl rfl ?_
                  refine Rx.go (fun _ => rfl) ?_
                  refine Rx.go (fun _ => rfl) ?_
                  refine Rx.put rfl (by decide) rfl rfl ?_
                  have hS114 := hS113.at1
                  refine Rx.go (fun _ => rfl) ?_
                  refine Rx.go (fun _ => rfl) ?_
                  show Rx X c0 m_Mod_readTag 197 [.ref (c0 + 16), .int ((nI acc.length) + 1), .int (nI run), .int (bi fs), .int 1, .int (hb t q), .int 0, .int 1] [] (upd σ113 16 ((σ113 16) + 1)) τ113 _
                  refine Rx.go (fun _ => rfl) ?_
                  refine Rx.go (fun _ => rfl) ?_
                  show Rx X c0 m_Mod_readTag 199 [.ref (c0 + 16), .int ((nI acc.length) + 1), .int 0, .int (bi fs), .int 1, .int (hb t q), .int 0, .int 1] [] (upd σ113 16 ((σ113 16) + 1)) τ113 _
                  refine Rx.go (fun _ => rfl) ?_
                  refine Rx.go (fun _ => rfl) ?_
                  refine Rx.ite (fun c63 => ?_) (fun c63 => ?_)
                  · replace c63 : fs = false := bi_eqt c63
                    show Rx X c0 m_Mod_readTag 212 [.ref (c0 + 16), .int ((nI acc.length) + 1), .int 0, .int (bi fs), .int 1, .int (hb t q), .int 0, .int 1] [] (upd σ113 16 ((σ113 16) + 1)) τ113 _
                    refine Rx.go (fun _ => rfl) ?_
                    refine Rx.go (fun _ => rfl) ?_
                    show Rx X c0 m_Mod_readTag 214 [.ref (c0 + 16), .int ((nI acc.length) + 1), .int 0, .int 0, .int 1, .int (hb t q), .int 0, .int 1] [] (upd σ113 16 ((σ113 16) + 1)) τ113 _
                    refine Rx.go (fun _ => rfl) ?_
                    refine Rx.go (fun _ => rfl) ?_
                    refine Rx.go (fun _ => rfl) ?_
                    show Rx X c0 m_Mod_readTag 36 [.ref (c0 + 16), .int ((nI acc.length) + 1), .int 0, .int 0, .int 1, .int (hb t q), .int 0, .int 1] [] (upd σ113 16 ((σ113 16) + 1)) τ113 _
                    refine Rx.go (fun _ => rfl) ?_
                    refine Rx.callE rfl rfl rfl rfl (rg_good hS114) ?_
                    show Rx X c0 m_Mod_readTag 40 [.ref (c0 + 16), .int ((nI acc.length) + 1), .int 0, .int 0, .int 1, .int (hb t q), .int 0, .int 1] [.int 0] (upd σ113 16 ((σ113 16) + 1)) τ113 _
                    refine Rx.go (fun _ => rfl) ?_
                    show Rx X c0 m_Mod_readTag 217 [.ref (c0 + 16), .int ((nI acc.length) + 1), .int 0, .int 0, .int 1, .int (hb t q), .int 0, .int 1] [] (upd σ113 16 ((σ113 16) + 1)) τ113 _
                    refine Rx.go (fun _ => rfl) ?_
                    refine Rx.go (fun _ => rfl) ?_
                    refine Rx.get rfl rfl ?_
                    refine Rx.go (fun _ => rfl) ?_
                    refine Rx.go (fun _ => rfl) ?_
                    refine Rx.put rfl (by decide) rfl rfl ?_
                    have hS115 := hS114.up (i := 13) (x := ((upd σ113 16 ((σ113 16) + 1)) 13) + ((nI acc.length) + 1)) (by omega)
                    exact Rx.ret rfl rfl (rQ_f (b := acc) (tg_x hm hlt hgd (by rw [decide_eq_true d20]; rfl)) hS115 (by first | omega | (simp only [List.length_append, List.length_cons, List.length_nil]; omega)) (by omega))
                  · replace c63 : fs = true := bi_eqf c63
                    exact Bool.noConfusion (c38.symm.trans c63)
                · replace c62 : ¬ 90 < (hb t q) := of_decide_eq_false c62
                  show Rx X c0 m_Mod_readTag 160 [.ref (c0 + 16), .int (nI acc.length), .int (nI run), .int (bi fs), .int 1, .int (hb t q), .int 0, .int 1] [.ref (c0 + 16)] σ109 τ109 _
                  refine Rx.go (fun _ => rfl) ?_
                  refine Rx.go (fun _ => rfl) ?_
                  refine Rx.go (fun _ => rfl) ?_
                  refine Rx.go (fun _ => rfl) ?_
                  refine Rx.callP rfl rfl rfl rfl (rg_put _ hS109 (by first | omega | (simp only [List.length_append, List.length_cons, List.length_nil]; omega))) ?_
                  intro σ116 τ116 hS116
                  show Rx X c0 m_Mod_readTag 173 [.ref (c0 + 16), .int (nI acc.length), .int (nI run), .int (bi fs), .int 1, .int (hb t q), .int 0, .int 1] [] σ116 τ116 _
                  refine Rx.go (fun _ => rfl) ?_
                  show Rx X c0 m_Mod_readTag 176 [.ref (c0 + 16), .int ((nI acc.length) + 1), .int (nI run), .int (bi fs), .int 1, .int (hb t q), .int 0, .int 1] [] σ116 τ116 _
                  refine Rx.go (fun _ => rfl) ?_
                  refine Rx.go (fun _ => rfl) ?_
                  refine Rx.get rfl rfl ?_
                  refine Rx.go (fun _ => rfl) ?_
                  refine Rx.go (fun _ => rfl) ?_
                  refine Rx.put rfl (by decide) rfl rfl ?_
                  have hS117 := hS116.at1
                  refine Rx.go (fun _ => rfl) ?_
                  refine Rx.go (fun _ => rfl) ?_
                  show Rx X c0 m_Mod_readTag 197 [.ref (c0 + 16), .int ((nI acc.length) + 1), .int (nI run), .int (bi fs), .int 1, .int (hb t q), .int 0, .int 1] [] (upd σ116 16 ((σ116 16) + 1)) τ116 _
                  refine Rx.go (fun _ => rfl) ?_
                  refine Rx.go (fun _ => rfl) ?_
                  show Rx X c0 m_Mod_readTag 199 [.ref (c0 + 16), .int ((nI acc.length) + 1), .int 0, .int (bi fs), .int 1, .int (hb t q), .int 0, .int 1] [] (upd σ116 16 ((σ116 16) + 1)) τ116 _
                  refine Rx.go (fun _ => rfl) ?_
                  refine Rx.go (fun _ => rfl) ?_
                  refine Rx.ite (fun c64 => ?_) (fun c64 => ?_)
                  · replace c64 : fs = false := bi_eqt c64
                    show Rx X c0 m_Mod_readTag 212 [.ref (c0 + 16), .int ((nI acc.length) + 1), .int 0, .int (bi fs), .int 1, .int (hb t q), .int 0, .int 1] [] (upd σ116 16 ((σ116 16) + 1)) τ116 _
                    refine Rx.go (fun _ => rfl) ?_
                    refine Rx.go (fun _ => rfl) ?_
                    show Rx X c0 m_Mod_readTag 214 [.ref (c0 + 16), .int ((nI acc.length) + 1), .int 0, .int 0, .int 1, .int (hb t q), .int 0, .int 1] [] (upd σ116 16 ((σ116 16) + 1)) τ116 _
                    refine Rx.go (fun _ => rfl) ?_
                    refine Rx.go (fun _ => rfl) ?_
                    refine Rx.go (fun _ => rfl) ?_
                    show Rx X c0 m_Mod_readTag 36 [.ref (c0 + 16), .int ((nI acc.length) + 1), .int 0, .int 0, .int 1, .int (hb t q), .int 0, .int 1] [] (upd σ116 16 ((σ116 16) + 1)) τ116 _
                    refine Rx.go (fun _ => rfl) ?_
                    refine Rx.callE rfl rfl rfl rfl (rg_good hS117) ?_
                    show Rx X c0 m_Mod_readTag 40 [.ref (c0 + 16), .int ((nI acc.length) + 1), .int 0, .int 0, .int 1, .int (hb t q), .int 0, .int 1] [.int 0] (upd σ116 16 ((σ116 16) + 1)) τ116 _
                    refine Rx.go (fun _ => rfl) ?_
                    show Rx X c0 m_Mod_readTag 217 [.ref (c0 + 16), .int ((nI acc.length) + 1), .int 0, .int 0, .int 1, .int (hb t q), .int 0, .int 1] [] (upd σ116 16 ((σ116 16) + 1)) τ116 _
                    refine Rx.go (fun _ => rfl) ?_
                    refine Rx.go (fun _ => rfl) ?_
                    refine Rx.get rfl rfl ?_
                    refine Rx.go (fun _ => rfl) ?_
                    refine Rx.go (fun _ => rfl) ?_
                    refine Rx.put rfl (by decide) rfl rfl ?_
                    have hS118 := hS117.up (i := 13) (x := ((upd σ116 16 ((σ116 16) + 1)) 13) + ((nI acc.length) + 1)) (by omega)
                    exact Rx.ret rfl rfl (rQ_f (b := acc) (tg_x hm hlt hgd (by rw [decide_eq_true d20]; rfl)) hS118 (by first | omega | (simp only [List.length_append, List.length_cons, List.length_nil]; omega)) (by omega))
                  · replace c64 : fs = true := bi_eqf c64
                    exact Bool.noConfusion (c38.symm.trans c64)
            · replace c59 : ¬ (nI acc.length) = 20 := of_decide_eq_false c59
              have d20 : ¬ acc.length = 20 := fun e => c59 (by rw [e]; rfl)
              show Rx X c0 m_Mod_readTag 125 [.ref (c0 + 16), .int (nI acc.length), .int (nI run), .int (bi fs), .int 1, .int (hb t q), .int 0, .int 1] [] σ τ _
              refine Rx.go (fun _ => rfl) ?_
              refine Rx.go (fun _ => rfl) ?_
              show Rx X c0 m_Mod_readTag 145 [.ref (c0 + 16), .int (nI acc.length), .int (nI run), .int (bi fs), .int 1, .int (hb t q), .int 0, .int 1] [] σ τ _
              refine Rx.go (fun _ => rfl) ?_
              refine Rx.go (fun _ => rfl) ?_
              refine Rx.go (fun _ => rfl) ?_
              refine Rx.go (fun _ => rfl) ?_
              refine Rx.ite (fun c65 => ?_) (fun c65 => ?_)
              · replace c65 : (hb t q) < 65 := of_decide_eq_true c65
                show Rx X c0 m_Mod_readTag 168 [.ref (c0 + 16), .int (nI acc.length), .int (nI run), .int (bi fs), .int 1, .int (hb t q), .int 0, .int 1] [.ref (c0 + 16)] σ τ _
                refine Rx.go (fun _ => rfl) ?_
                refine Rx.top (y := nI (smlN (t.getD q 0))) (by rw [hb_lt hlt]; exact sml_b (hS.z.by q) (Or.inl (by rw [← hb_lt hlt]; exact c65))) ?_
                refine Rx.callP rfl rfl rfl rfl (rs_put (smlN (t.getD q 0)) hS (by first | omega | (simp only [List.length_append, List.length_cons, List.length_nil]; omega))) ?_
                intro σ119 τ119 hS119
                show Rx X c0 m_Mod_readTag 173 [.ref (c0 + 16), .int (nI acc.length), .int (nI run), .int (bi fs), .int 1, .int (hb t q), .int 0, .int 1] [] σ119 τ119 _
                refine Rx.go (fun _ => rfl) ?_
                show Rx X c0 m_Mod_readTag 176 [.ref (c0 + 16), .int ((nI acc.length) + 1), .int (nI run), .int (bi fs), .int 1, .int (hb t q), .int 0, .int 1] [] σ119 τ119 _
                refine Rx.go (fun _ => rfl) ?_
                refine Rx.go (fun _ => rfl) ?_
                refine Rx.get rfl rfl ?_
                refine Rx.top (y := nI q) hS119.f16 ?_
                refine Rx.go (fun _ => rfl) ?_
                refine Rx.go (fun _ => rfl) ?_
                refine Rx.top (y := nI (q + 1)) (nI_1 _) ?_
                refine Rx.put rfl (by decide) rfl rfl ?_
                have hS120 := hS119.at1 hlt
                refine Rx.go (fun _ => rfl) ?_
                refine Rx.go (fun _ => rfl) ?_
                show Rx X c0 m_Mod_readTag 197 [.ref (c0 + 16), .int ((nI acc.length) + 1), .int (nI run), .int (bi fs), .int 1, .int (hb t q), .int 0, .int 1] [] (upd σ119 16 (nI (q + 1))) τ119 _
                refine Rx.go (fun _ => rfl) ?_
                refine Rx.go (fun _ => rfl) ?_
                show Rx X c0 m_Mod_readTag 199 [.ref (c0 + 16), .int ((nI acc.length) + 1), .int 0, .int (bi fs), .int 1, .int (hb t q), .int 0, .int 1] [] (upd σ119 16 (nI (q + 1))) τ119 _
                refine Rx.go (fun _ => rfl) ?_
                refine Rx.go (fun _ => rfl) ?_
                refine Rx.ite (fun c66 => ?_) (fun c66 => ?_)
                · replace c66 : fs = false := bi_eqt c66
                  show Rx X c0 m_Mod_readTag 212 [.ref (c0 + 16), .int ((nI acc.length) + 1), .int 0, .int (bi fs), .int 1, .int (hb t q), .int 0, .int 1] [] (upd σ119 16 (nI (q + 1))) τ119 _
                  refine Rx.go (fun _ => rfl) ?_
                  refine Rx.go (fun _ => rfl) ?_
                  show Rx X c0 m_Mod_readTag 214 [.ref (c0 + 16), .int ((nI acc.length) + 1), .int 0, .int 0, .int 1, .int (hb t q), .int 0, .int 1] [] (upd σ119 16 (nI (q + 1))) τ119 _
                  refine Rx.go (fun _ => rfl) ?_
                  show Rx X c0 m_Mod_readTag 31 [.ref (c0 + 16), .int ((nI acc.length) + 1), .int 0, .int 0, .int 1, .int (hb t q), .int 0, .int 1] [] (upd σ119 16 (nI (q + 1))) τ119 _
                  obtain ⟨m1, rfl⟩ : ∃ m1, m = m1 + 1 := ⟨m - 1, by omega⟩
                  have e1 : sT t (m1 + 1) q run fs acc = sT t m1 (q + 1) 0 false (acc ++ [smlN (t.getD q 0)]) := by rw [tg_n hgd (by rw [decide_eq_false d20, hg]; simp), hd]; first | rfl | simp [hg, c38, c66]
                  rw [e1, show nI acc.length + 1 = nI (acc ++ [smlN (t.getD q 0)]).length by rw [nI_1, List.length_append]; rfl]
                  exact ih m1 (by omega) (q + 1) 0 false (acc ++ [smlN (t.getD q 0)]) _ _ _ _ _ (by omega) (by simp only [List.length_append, List.length_cons, List.length_nil]; omega) (by omega) (by rw [← List.append_assoc]; exact hS120)
                · replace c66 : fs = true := bi_eqf c66
                  exact Bool.noConfusion (c38.symm.trans c66)
              · replace c65 : ¬ (hb t q) < 65 := of_decide_eq_false c65
                show Rx X c0 m_Mod_readTag 153 [.ref (c0 + 16), .int (nI acc.length), .int (nI run), .int (bi fs), .int 1, .int (hb t q), .int 0, .int 1] [.ref (c0 + 16)] σ τ _
                refine Rx.go (fun _ => rfl) ?_
                refine Rx.go (fun _ => rfl) ?_
                refine Rx.go (fun _ => rfl) ?_
                refine Rx.ite (fun c67 => ?_) (fun c67 => ?_)
                · replace c67 : 90 < (hb t q) := of_decide_eq_true c67
                  show Rx X c0 m_Mod_readTag 168 [.ref (c0 + 16), .int (nI acc.length), .int (nI run), .int (bi fs), .int 1, .int (hb t q), .int 0, .int 1] [.ref (c0 + 16)] σ τ _
                  refine Rx.go (fun _ => rfl) ?_
                  refine Rx.top (y := nI (smlN (t.getD q 0))) (by rw [hb_lt hlt]; exact sml_b (hS.z.by q) (Or.inr (by rw [← hb_lt hlt]; exact c67))) ?_
                  refine Rx.callP rfl rfl rfl rfl (rs_put (smlN (t.getD q 0)) hS (by first | omega | (simp only [List.length_append, List.length_cons, List.length_nil]; omega))) ?_
                  intro σ121 τ121 hS121
                  show Rx X c0 m_Mod_readTag 173 [.ref (c0 + 16), .int (nI acc.length), .int (nI run), .int (bi fs), .int 1, .int (hb t q), .int 0, .int 1] [] σ121 τ121 _
                  refine Rx.go (fun _ => rfl) ?_
                  show Rx X c0 m_Mod_readTag 176 [.ref (c0 + 16), .int ((nI acc.length) + 1), .int (nI run), .int (bi fs), .int 1, .int (hb t q), .int 0, .int 1] [] σ121 τ121 _
                  refine Rx.go (fun _ => rfl) ?_
                  refine Rx.go (fun _ => rfl) ?_
                  refine Rx.get rfl rfl ?_
                  refine Rx.top (y := nI q) hS121.f16 ?_
                  refine Rx.go (fun _ => rfl) ?_
                  refine Rx.go (fun _ => rfl) ?_
                  refine Rx.top (y := nI (q + 1)) (nI_1 _) ?_
                  refine Rx.put rfl (by decide) rfl rfl ?_
                  have hS122 := hS121.at1 hlt
                  refine Rx.go (fun _ => rfl) ?_
                  refine Rx.go (fun _ => rfl) ?_
                  show Rx X c0 m_Mod_readTag 197 [.ref (c0 + 16), .int ((nI acc.length) + 1), .int (nI run), .int (bi fs), .int 1, .int (hb t q), .int 0, .int 1] [] (upd σ121 16 (nI (q + 1))) τ121 _
                  refine Rx.go (fun _ => rfl) ?_
                  refine Rx.go (fun _ => rfl) ?_
                  show Rx X c0 m_Mod_readTag 199 [.ref (c0 + 16), .int ((nI acc.length) + 1), .int 0, .int (bi fs), .int 1, .int (hb t q), .int 0, .int 1] [] (upd σ121 16 (nI (q + 1))) τ121 _
                  refine Rx.go (fun _ => rfl) ?_
                  refine Rx.go (fun _ => rfl) ?_
                  refine Rx.ite (fun c68 => ?_) (fun c68 => ?_)
                  · replace c68 : fs = false := bi_eqt c68
                    show Rx X c0 m_Mod_readTag 212 [.ref (c0 + 16), .int ((nI acc.length) + 1), .int 0, .int (bi fs), .int 1, .int (hb t q), .int 0, .int 1] [] (upd σ121 16 (nI (q + 1))) τ121 _
                    refine Rx.go (fun _ => rfl) ?_
                    refine Rx.go (fun _ => rfl) ?_
                    show Rx X c0 m_Mod_readTag 214 [.ref (c0 + 16), .int ((nI acc.length) + 1), .int 0, .int 0, .int 1, .int (hb t q), .int 0, .int 1] [] (upd σ121 16 (nI (q + 1))) τ121 _
                    refine Rx.go (fun _ => rfl) ?_
                    show Rx X c0 m_Mod_readTag 31 [.ref (c0 + 16), .int ((nI acc.length) + 1), .int 0, .int 0, .int 1, .int (hb t q), .int 0, .int 1] [] (upd σ121 16 (nI (q + 1))) τ121 _
                    obtain ⟨m1, rfl⟩ : ∃ m1, m = m1 + 1 := ⟨m - 1, by omega⟩
                    have e1 : sT t (m1 + 1) q run fs acc = sT t m1 (q + 1) 0 false (acc ++ [smlN (t.getD q 0)]) := by rw [tg_n hgd (by rw [decide_eq_false d20, hg]; simp), hd]; first | rfl | simp [hg, c38, c68]
                    rw [e1, show nI acc.length + 1 = nI (acc ++ [smlN (t.getD q 0)]).length by rw [nI_1, List.length_append]; rfl]
                    exact ih m1 (by omega) (q + 1) 0 false (acc ++ [smlN (t.getD q 0)]) _ _ _ _ _ (by omega) (by simp only [List.length_append, List.length_cons, List.length_nil]; omega) (by omega) (by rw [← List.append_assoc]; exact hS122)
                  · replace c68 : fs = true := bi_eqf c68
                    exact Bool.noConfusion (c38.symm.trans c68)
                · replace c67 : ¬ 90 < (hb t q) := of_decide_eq_false c67
                  show Rx X c0 m_Mod_readTag 160 [.ref (c0 + 16), .int (nI acc.length), .int (nI run), .int (bi fs), .int 1, .int (hb t q), .int 0, .int 1] [.ref (c0 + 16)] σ τ _
                  refine Rx.go (fun _ => rfl) ?_
                  refine Rx.go (fun _ => rfl) ?_
                  refine Rx.go (fun _ => rfl) ?_
                  refine Rx.go (fun _ => rfl) ?_
                  refine Rx.top (y := nI (smlN (t.getD q 0))) (by rw [hb_lt hlt]; exact sml_a (hS.z.by q) (by rw [← hb_lt hlt]; exact c65) (by rw [← hb_lt hlt]; exact c67)) ?_
                  refine Rx.callP rfl rfl rfl rfl (rs_put (smlN (t.getD q 0)) hS (by first | omega | (simp only [List.length_append, List.length_cons, List.length_nil]; omega))) ?_
                  intro σ123 τ123 hS123
                  show Rx X c0 m_Mod_readTag 173 [.ref (c0 + 16), .int (nI acc.length), .int (nI run), .int (bi fs), .int 1, .int (hb t q), .int 0, .int 1] [] σ123 τ123 _
                  refine Rx.go (fun _ => rfl) ?_
                  show Rx X c0 m_Mod_readTag 176 [.ref (c0 + 16), .int ((nI acc.length) + 1), .int (nI run), .int (bi fs), .int 1, .int (hb t q), .int 0, .int 1] [] σ123 τ123 _
                  refine Rx.go (fun _ => rfl) ?_
                  refine Rx.go (fun _ => rfl) ?_
                  refine Rx.get rfl rfl ?_
                  refine Rx.top (y := nI q) hS123.f16 ?_
                  refine Rx.go (fun _ => rfl) ?_
                  refine Rx.go (fun _ => rfl) ?_
                  refine Rx.top (y := nI (q + 1)) (nI_1 _) ?_
                  refine Rx.put rfl (by decide) rfl rfl ?_
                  have hS124 := hS123.at1 hlt
                  refine Rx.go (fun _ => rfl) ?_
                  refine Rx.go (fun _ => rfl) ?_
                  show Rx X c0 m_Mod_readTag 197 [.ref (c0 + 16), .int ((nI acc.length) + 1), .int (nI run), .int (bi fs), .int 1, .int (hb t q), .int 0, .int 1] [] (upd σ123 16 (nI (q + 1))) τ123 _
                  refine Rx.go (fun _ => rfl) ?_
                  refine Rx.go (fun _ => rfl) ?_
                  show Rx X c0 m_Mod_readTag 199 [.ref (c0 + 16), .int ((nI acc.length) + 1), .int 0, .int (bi fs), .int 1, .int (hb t q), .int 0, .int 1] [] (upd σ123 16 (nI (q + 1))) τ123 _
                  refine Rx.go (fun _ => rfl) ?_
                  refine Rx.go (fun _ => rfl) ?_
                  refine Rx.ite (fun c69 => ?_) (fun c69 => ?_)
                  · replace c69 : fs = false := bi_eqt c69
                    show Rx X c0 m_Mod_readTag 212 [.ref (c0 + 16), .int ((nI acc.length) + 1), .int 0, .int (bi fs), .int 1, .int (hb t q), .int 0, .int 1] [] (upd σ123 16 (nI (q + 1))) τ123 _
                    refine Rx.go (fun _ => rfl) ?_
                    refine Rx.go (fun _ => rfl) ?_
                    show Rx X c0 m_Mod_readTag 214 [.ref (c0 + 16), .int ((nI acc.length) + 1), .int 0, .int 0, .int 1, .int (hb t q), .int 0, .int 1] [] (upd σ123 16 (nI (q + 1))) τ123 _
                    refine Rx.go (fun _ => rfl) ?_
                    show Rx X c0 m_Mod_readTag 31 [.ref (c0 + 16), .int ((nI acc.length) + 1), .int 0, .int 0, .int 1, .int (hb t q), .int 0, .int 1] [] (upd σ123 16 (nI (q + 1))) τ123 _
                    obtain ⟨m1, rfl⟩ : ∃ m1, m = m1 + 1 := ⟨m - 1, by omega⟩
                    have e1 : sT t (m1 + 1) q run fs acc = sT t m1 (q + 1) 0 false (acc ++ [smlN (t.getD q 0)]) := by rw [tg_n hgd (by rw [decide_eq_false d20, hg]; simp), hd]; first | rfl | simp [hg, c38, c69]
                    rw [e1, show nI acc.length + 1 = nI (acc ++ [smlN (t.getD q 0)]).length by rw [nI_1, List.length_append]; rfl]
                    exact ih m1 (by omega) (q + 1) 0 false (acc ++ [smlN (t.getD q 0)]) _ _ _ _ _ (by omega) (by simp only [List.length_append, List.length_cons, List.length_nil]; omega) (by omega) (by rw [← List.append_assoc]; exact hS124)
                  · replace c69 : fs = true := bi_eqf c69
                    exact Bool.noConfusion (c38.symm.trans c69)
      · replace c54 : (isD (hb t q)) = true := bi_eqf c54
        show Rx X c0 m_Mod_readTag 69 [.ref (c0 + 16), .int (nI acc.length), .int (nI run), .int (bi fs), .int 1, .int (hb t q), b6, b7] [] σ τ _
        refine Rx.go (fun _ => rfl) ?_
        refine Rx.go (fun _ => rfl) ?_
        refine Rx.go (fun _ => rfl) ?_
        show Rx X c0 m_Mod_readTag 76 [.ref (c0 + 16), .int (nI acc.length), .int (nI run), .int (bi fs), .int 1, .int (hb t q), .int 1, b7] [] σ τ _
        refine Rx.go (fun _ => rfl) ?_
        refine Rx.go (fun _ => rfl) ?_
        refine Rx.go (fun _ => rfl) ?_
        refine Rx.ite (fun c70 => ?_) (fun c70 => ?_)
        · replace c70 : ¬ (hb t q) = 45 := of_decide_eq_true c70
          show Rx X c0 m_Mod_readTag 91 [.ref (c0 + 16), .int (nI acc.length), .int (nI run), .int (bi fs), .int 1, .int (hb t q), .int 1, b7] [] σ τ _
          refine Rx.go (fun _ => rfl) ?_
          refine Rx.go (fun _ => rfl) ?_
          show Rx X c0 m_Mod_readTag 94 [.ref (c0 + 16), .int (nI acc.length), .int (nI run), .int (bi fs), .int 1, .int (hb t q), .int 1, .int 0] [] σ τ _
          have hg : (isL (hb t q) || (isD (hb t q) && !fs)) = true := by simp [c1, c38, c54]
          have hd : (decide (hb t q = 45) && decide (0 < run)) = false := by simp [c70]
          have hgd : (isL (hb t q) || (isD (hb t q) && !fs)) = true ∨ (decide (hb t q = 45) && decide (0 < run)) = true := Or.inl hg
          have hlt := tg_lt hgd
          refine Rx.go (fun _ => rfl) ?_
          refine Rx.go (fun _ => rfl) ?_
          show Rx X c0 m_Mod_readTag 119 [.ref (c0 + 16), .int (nI acc.length), .int (nI run), .int (bi fs), .int 1, .int (hb t q), .int 1, .int 0] [] σ τ _
          refine Rx.go (fun _ => rfl) ?_
          refine Rx.go (fun _ => rfl) ?_
          refine Rx.go (fun _ => rfl) ?_
          refine Rx.ite (fun c71 => ?_) (fun c71 => ?_)
          · replace c71 : (nI acc.length) = 20 := of_decide_eq_true c71
            have d20 : acc.length = 20 := (nI_eq (b := 20) (by omega) (by decide)).mp c71
            show Rx X c0 m_Mod_readTag 136 [.ref (c0 + 16), .int (nI acc.length), .int (nI run), .int (bi fs), .int 1, .int (hb t q), .int 1, .int 0] [] σ τ _
            refine Rx.go (fun _ => rfl) ?_
            refine Rx.go (fun _ => rfl) ?_
            refine Rx.go (fun _ => rfl) ?_
            refine Rx.get rfl rfl ?_
            refine Rx.top (y := nI q) hS.f16 ?_
            refine Rx.callP rfl rfl rfl rfl (rs_fl (wn := q) hS (by decide) rfl) ?_
            intro σ125 τ125 hS125
            show Rx X c0 m_Mod_readTag 145 [.ref (c0 + 16), .int (nI acc.length), .int (nI run), .int (bi fs), .int 1, .int (hb t q), .int 1, .int 0] [] σ125 τ125 _
            refine Rx.go (fun _ => rfl) ?_
            refine Rx.go (fun _ => rfl) ?_
            refine Rx.go (fun _ => rfl) ?_
            refine Rx.go (fun _ => rfl) ?_
            refine Rx.ite (fun c72 => ?_) (fun c72 => ?_)
            · replace c72 : (hb t q) < 65 := of_decide_eq_true c72
              show Rx X c0 m_Mod_readTag 168 [.ref (c0 + 16), .int (nI acc.length), .int (nI run), .int (bi fs), .int 1, .int (hb t q), .int 1, .int 0] [.ref (c0 + 16)] σ125 τ125 _
              refine Rx.go (fun _ => rfl) ?_
              refine Rx.callP rfl rfl rfl rfl (rg_put _ hS125 (by first | omega | (simp only [List.length_append, List.length_cons, List.length_nil]; omega))) ?_
              intro σ126 τ126 hS126
              show Rx X c0 m_Mod_readTag 173 [.ref (c0 + 16), .int (nI acc.length), .int (nI run), .int (bi fs), .int 1, .int (hb t q), .int 1, .int 0] [] σ126 τ126 _
              refine Rx.go (fun _ => rfl) ?_
              show Rx X c0 m_Mod_readTag 176 [.ref (c0 + 16), .int ((nI acc.length) + 1), .int (nI run), .int (bi fs), .int 1, .int (hb t q), .int 1, .int 0] [] σ126 τ126 _
              refine Rx.go (fun _ => rfl) ?_
              refine Rx.go (fun _ => rfl) ?_
              refine Rx.get rfl rfl ?_
              refine Rx.go (fun _ => rfl) ?_
              refine Rx.go (fun _ => rfl) ?_
              refine Rx.put rfl (by decide) rfl rfl ?_
              have hS127 := hS126.at1
              refine Rx.go (fun _ => rfl) ?_
              refine Rx.go (fun _ => rfl) ?_
              show Rx X c0 m_Mod_readTag 191 [.ref (c0 + 16), .int ((nI acc.length) + 1), .int (nI run), .int (bi fs), .int 1, .int (hb t q), .int 1, .int 0] [] (upd σ126 16 ((σ126 16) + 1)) τ126 _
              refine Rx.go (fun _ => rfl) ?_
              refine Rx.go (fun _ => rfl) ?_
              refine Rx.go (fun _ => rfl) ?_
              refine Rx.go (fun _ => rfl) ?_
              refine Rx.go (fun _ => rfl) ?_
              show Rx X c0 m_Mod_readTag 199 [.ref (c0 + 16), .int ((nI acc.length) + 1), .int ((nI run) + 1), .int (bi fs), .int 1, .int (hb t q), .int 1, .int 0] [] (upd σ126 16 ((σ126 16) + 1)) τ126 _
              refine Rx.go (fun _ => rfl) ?_
              refine Rx.go (fun _ => rfl) ?_
              refine Rx.ite (fun c73 => ?_) (fun c73 => ?_)
              · replace c73 : fs = false := bi_eqt c73
                show Rx X c0 m_Mod_readTag 212 [.ref (c0 + 16), .int ((nI acc.length) + 1), .int ((nI run) + 1), .int (bi fs), .int 1, .int (hb t q), .int 1, .int 0] [] (upd σ126 16 ((σ126 16) + 1)) τ126 _
                refine Rx.go (fun _ => rfl) ?_
                refine Rx.go (fun _ => rfl) ?_
                show Rx X c0 m_Mod_readTag 214 [.ref (c0 + 16), .int ((nI acc.length) + 1), .int ((nI run) + 1), .int 0, .int 1, .int (hb t q), .int 1, .int 0] [] (upd σ126 16 ((σ126 16) + 1)) τ126 _
                refine Rx.go (fun _ => rfl) ?_
                refine Rx.go (fun _ => rfl) ?_
                refine Rx.go (fun _ => rfl) ?_
                show Rx X c0 m_Mod_readTag 36 [.ref (c0 + 16), .int ((nI acc.length) + 1), .int ((nI run) + 1), .int 0, .int 1, .int (hb t q), .int 1, .int 0] [] (upd σ126 16 ((σ126 16) + 1)) τ126 _
                refine Rx.go (fun _ => rfl) ?_
                refine Rx.callE rfl rfl rfl rfl (rg_good hS127) ?_
                show Rx X c0 m_Mod_readTag 40 [.ref (c0 + 16), .int ((nI acc.length) + 1), .int ((nI run) + 1), .int 0, .int 1, .int (hb t q), .int 1, .int 0] [.int 0] (upd σ126 16 ((σ126 16) + 1)) τ126 _
                refine Rx.go (fun _ => rfl) ?_
                show Rx X c0 m_Mod_readTag 217 [.ref (c0 + 16), .int ((nI acc.length) + 1), .int ((nI run) + 1), .int 0, .int 1, .int (hb t q), .int 1, .int 0] [] (upd σ126 16 ((σ126 16) + 1)) τ126 _
                refine Rx.go (fun _ => rfl) ?_
                refine Rx.go (fun _ => rfl) ?_
                refine Rx.get rfl rfl ?_
                refine Rx.go (fun _ => rfl) ?_
                refine Rx.go (fun _ => rfl) ?_
                refine Rx.put rfl (by decide) rfl rfl ?_
                have hS128 := hS127.up (i := 13) (x := ((upd σ126 16 ((σ126 16) + 1)) 13) + ((nI acc.length) + 1)) (by omega)
                exact Rx.ret rfl rfl (rQ_f (b := acc) (tg_x hm hlt hgd (by rw [decide_eq_true d20]; rfl)) hS128 (by first | omega | (simp only [List.length_append, List.length_cons, List.length_nil]; omega)) (by omega))
              · replace c73 : fs = true := bi_eqf c73
                exact Bool.noConfusion (c38.symm.trans c73)
            · replace c72 : ¬ (hb t q) < 65 := of_decide_eq_false c72
              show Rx X c0 m_Mod_readTag 153 [.ref (c0 + 16), .int (nI acc.length), .int (nI run), .int (bi fs), .int 1, .int (hb t q), .int 1, .int 0] [.ref (c0 + 16)] σ125 τ125 _
              refine Rx.go (fun _ => rfl) ?_
              refine Rx.go (fun _ => rfl) ?_
              refine Rx.go (fun _ => rfl) ?_
              refine Rx.ite (fun c74 => ?_) (fun c74 => ?_)
              · replace c74 : 90 < (hb t q) := of_decide_eq_true c74
                show Rx X c0 m_Mod_readTag 168 [.ref (c0 + 16), .int (nI acc.length), .int (nI run), .int (bi fs), .int 1, .int (hb t q), .int 1, .int 0] [.ref (c0 + 16)] σ125 τ125 _
                refine Rx.go (fun _ => rfl) ?_
                refine Rx.callP rfl rfl rfl rfl (rg_put _ hS125 (by first | omega | (simp only [List.length_append, List.length_cons, List.length_nil]; omega))) ?_
                intro σ129 τ129 hS129
                show Rx X c0 m_Mod_readTag 173 [.ref (c0 + 16), .int (nI acc.length), .int (nI run), .int (bi fs), .int 1, .int (hb t q), .int 1, .int 0] [] σ129 τ129 _
                refine Rx.go (fun _ => rfl) ?_
                show Rx X c0 m_Mod_readTag 176 [.ref (c0 + 16), .int ((nI acc.length) + 1), .int (nI run), .int (bi fs), .int 1, .int (hb t q), .int 1, .int 0] [] σ129 τ129 _
                refine Rx.go (fun _ => rfl) ?_
                refine Rx.go (fun _ => rfl) ?_
                refine Rx.get rfl rfl ?_
                refine Rx.go (fun _ => rfl) ?_
                refine Rx.go (fun _ => rfl) ?_
                refine Rx.put rfl (by decide) rfl rfl ?_
                have hS130 := hS129.at1
                refine Rx.go (fun _ => rfl) ?_
                refine Rx.go (fun _ => rfl) ?_
                show Rx X c0 m_Mod_readTag 191 [.ref (c0 + 16), .int ((nI acc.length) + 1), .int (nI run), .int (bi fs), .int 1, .int (hb t q), .int 1, .int 0] [] (upd σ129 16 ((σ129 16) + 1)) τ129 _
                refine Rx.go (fun _ => rfl) ?_
                refine Rx.go (fun _ => rfl) ?_
                refine Rx.go (fun _ => rfl) ?_
                refine Rx.go (fun _ => rfl) ?_
                refine Rx.go (fun _ => rfl) ?_
                show Rx X c0 m_Mod_readTag 199 [.ref (c0 + 16), .int ((nI acc.length) + 1), .int ((nI run) + 1), .int (bi fs), .int 1, .int (hb t q), .int 1, .int 0] [] (upd σ129 16 ((σ129 16) + 1)) τ129 _
                refine Rx.go (fun _ => rfl) ?_
                refine Rx.go (fun _ => rfl) ?_
                refine Rx.ite (fun c75 => ?_) (fun c75 => ?_)
                · replace c75 : fs = false := bi_eqt c75
                  show Rx X c0 m_Mod_readTag 212 [.ref (c0 + 16), .int ((nI acc.length) + 1), .int ((nI run) + 1), .int (bi fs), .int 1, .int (hb t q), .int 1, .int 0] [] (upd σ129 16 ((σ129 16) + 1)) τ129 _
                  refine Rx.go (fun _ => rfl) ?_
                  refine Rx.go (fun _ => rfl) ?_
                  show Rx X c0 m_Mod_readTag 214 [.ref (c0 + 16), .int ((nI acc.length) + 1), .int ((nI run) + 1), .int 0, .int 1, .int (hb t q), .int 1, .int 0] [] (upd σ129 16 ((σ129 16) + 1)) τ129 _
                  refine Rx.go (fun _ => rfl) ?_
                  refine Rx.go (fun _ => rfl) ?_
                  refine Rx.go (fun _ => rfl) ?_
                  show Rx X c0 m_Mod_readTag 36 [.ref (c0 + 16), .int ((nI acc.length) + 1), .int ((nI run) + 1), .int 0, .int 1, .int (hb t q), .int 1, .int 0] [] (upd σ129 16 ((σ129 16) + 1)) τ129 _
                  refine Rx.go (fun _ => rfl) ?_
                  refine Rx.callE rfl rfl rfl rfl (rg_good hS130) ?_
                  show Rx X c0 m_Mod_readTag 40 [.ref (c0 + 16), .int ((nI acc.length) + 1), .int ((nI run) + 1), .int 0, .int 1, .int (hb t q), .int 1, .int 0] [.int 0] (upd σ129 16 ((σ129 16) + 1)) τ129 _
                  refine Rx.go (fun _ => rfl) ?_
                  show Rx X c0 m_Mod_readTag 217 [.ref (c0 + 16), .int ((nI acc.length) + 1), .int ((nI run) + 1), .int 0, .int 1, .int (hb t q), .int 1, .int 0] [] (upd σ129 16 ((σ129 16) + 1)) τ129 _
                  refine Rx.go (fun _ => rfl) ?_
                  refine Rx.go (fun _ => rfl) ?_
                  refine Rx.get rfl rfl ?_
                  refine Rx.go (fun _ => rfl) ?_
                  refine Rx.go (fun _ => rfl) ?_
                  refine Rx.put rfl (by decide) rfl rfl ?_
                  have hS131 := hS130.up (i := 13) (x := ((upd σ129 16 ((σ129 16) + 1)) 13) + ((nI acc.length) + 1)) (by omega)
                  exact Rx.ret rfl rfl (rQ_f (b := acc) (tg_x hm hlt hgd (by rw [decide_eq_true d20]; rfl)) hS131 (by first | omega | (simp only [List.length_append, List.length_cons, List.length_nil]; omega)) (by omega))
                · replace c75 : fs = true := bi_eqf c75
                  exact Bool.noConfusion (c38.symm.trans c75)
              · replace c74 : ¬ 90 < (hb t q) := of_decide_eq_false c74
                show Rx X c0 m_Mod_readTag 160 [.ref (c0 + 16), .int (nI acc.length), .int (nI run), .int (bi fs), .int 1, .int (hb t q), .int 1, .int 0] [.ref (c0 + 16)] σ125 τ125 _
                refine Rx.go (fun _ => rfl) ?_
                refine Rx.go (fun _ => rfl) ?_
                refine Rx.go (fun _ => rfl) ?_
                refine Rx.go (fun _ => rfl) ?_
                refine Rx.callP rfl rfl rfl rfl (rg_put _ hS125 (by first | omega | (simp only [List.length_append, List.length_cons, List.length_nil]; omega))) ?_
                intro σ132 τ132 hS132
                show Rx X c0 m_Mod_readTag 173 [.ref (c0 + 16), .int (nI acc.length), .int (nI run), .int (bi fs), .int 1, .int (hb t q), .int 1, .int 0] [] σ132 τ132 _
                refine Rx.go (fun _ => rfl) ?_
                show Rx X c0 m_Mod_readTag 176 [.ref (c0 + 16), .int ((nI acc.length) + 1), .int (nI run), .int (bi fs), .int 1, .int (hb t q), .int 1, .int 0] [] σ132 τ132 _
                refine Rx.go (fun _ => rfl) ?_
                refine Rx.go (fun _ => rfl) ?_
                refine Rx.get rfl rfl ?_
                refine Rx.go (fun _ => rfl) ?_
                refine Rx.go (fun _ => rfl) ?_
                refine Rx.put rfl (by decide) rfl rfl ?_
                have hS133 := hS132.at1
                refine Rx.go (fun _ => rfl) ?_
                refine Rx.go (fun _ => rfl) ?_
                show Rx X c0 m_Mod_readTag 191 [.ref (c0 + 16), .int ((nI acc.length) + 1), .int (nI run), .int (bi fs), .int 1, .int (hb t q), .int 1, .int 0] [] (upd σ132 16 ((σ132 16) + 1)) τ132 _
                refine Rx.go (fun _ => rfl) ?_
                refine Rx.go (fun _ => rfl) ?_
                refine Rx.go (fun _ => rfl) ?_
                refine Rx.go (fun _ => rfl) ?_
                refine Rx.go (fun _ => rfl) ?_
                show Rx X c0 m_Mod_readTag 199 [.ref (c0 + 16), .int ((nI acc.length) + 1), .int ((nI run) + 1), .int (bi fs), .int 1, .int (hb t q), .int 1, .int 0] [] (upd σ132 16 ((σ132 16) + 1)) τ132 _
                refine Rx.go (fun _ => rfl) ?_
                refine Rx.go (fun _ => rfl) ?_
                refine Rx.ite (fun c76 => ?_) (fun c76 => ?_)
                · replace c76 : fs = false := bi_eqt c76
                  show Rx X c0 m_Mod_readTag 212 [.ref (c0 + 16), .int ((nI acc.length) + 1), .int ((nI run) + 1), .int (bi fs), .int 1, .int (hb t q), .int 1, .int 0] [] (upd σ132 16 ((σ132 16) + 1)) τ132 _
                  refine Rx.go (fun _ => rfl) ?_
                  refine Rx.go (fun _ => rfl) ?_
                  show Rx X c0 m_Mod_readTag 214 [.ref (c0 + 16), .int ((nI acc.length) + 1), .int ((nI run) + 1), .int 0, .int 1, .int (hb t q), .int 1, .int 0] [] (upd σ132 16 ((σ132 16) + 1)) τ132 _
                  refine Rx.go (fun _ => rfl) ?_
                  refine Rx.go (fun _ => rfl) ?_
                  refine Rx.go (fun _ => rfl) ?_
                  show Rx X c0 m_Mod_readTag 36 [.ref (c0 + 16), .int ((nI acc.length) + 1), .int ((nI run) + 1), .int 0, .int 1, .int (hb t q), .int 1, .int 0] [] (upd σ132 16 ((σ132 16) + 1)) τ132 _
                  refine Rx.go (fun _ => rfl) ?_
                  refine Rx.callE rfl rfl rfl rfl (rg_good hS133) ?_
                  show Rx X c0 m_Mod_readTag 40 [.ref (c0 + 16), .int ((nI acc.length) + 1), .int ((nI run) + 1), .int 0, .int 1, .int (hb t q), .int 1, .int 0] [.int 0] (upd σ132 16 ((σ132 16) + 1)) τ132 _
                  refine Rx.go (fun _ => rfl) ?_
                  show Rx X c0 m_Mod_readTag 217 [.ref (c0 + 16), .int ((nI acc.length) + 1), .int ((nI run) + 1), .int 0, .int 1, .int (hb t q), .int 1, .int 0] [] (upd σ132 16 ((σ132 16) + 1)) τ132 _
                  refine Rx.go (fun _ => rfl) ?_
                  refine Rx.go (fun _ => rfl) ?_
                  refine Rx.get rfl rfl ?_
                  refine Rx.go (fun _ => rfl) ?_
                  refine Rx.go (fun _ => rfl) ?_
                  refine Rx.put rfl (by decide) rfl rfl ?_
                  have hS134 := hS133.up (i := 13) (x := ((upd σ132 16 ((σ132 16) + 1)) 13) + ((nI acc.length) + 1)) (by omega)
                  exact Rx.ret rfl rfl (rQ_f (b := acc) (tg_x hm hlt hgd (by rw [decide_eq_true d20]; rfl)) hS134 (by first | omega | (simp only [List.length_append, List.length_cons, List.length_nil]; omega)) (by omega))
                · replace c76 : fs = true := bi_eqf c76
                  exact Bool.noConfusion (c38.symm.trans c76)
          · replace c71 : ¬ (nI acc.length) = 20 := of_decide_eq_false c71
            have d20 : ¬ acc.length = 20 := fun e => c71 (by rw [e]; rfl)
            show Rx X c0 m_Mod_readTag 125 [.ref (c0 + 16), .int (nI acc.length), .int (nI run), .int (bi fs), .int 1, .int (hb t q), .int 1, .int 0] [] σ τ _
            refine Rx.go (fun _ => rfl) ?_
            refine Rx.go (fun _ => rfl) ?_
            show Rx X c0 m_Mod_readTag 130 [.ref (c0 + 16), .int (nI acc.length), .int (nI run), .int (bi fs), .int 1, .int (hb t q), .int 1, .int 0] [] σ τ _
            refine Rx.go (fun _ => rfl) ?_
            refine Rx.go (fun _ => rfl) ?_
            refine Rx.go (fun _ => rfl) ?_
            refine Rx.ite (fun c77 => ?_) (fun c77 => ?_)
            · replace c77 : ¬ (nI run) = 8 := of_decide_eq_true c77
              have d8 : ¬ run = 8 := fun e => c77 (by rw [e]; rfl)
              show Rx X c0 m_Mod_readTag 145 [.ref (c0 + 16), .int (nI acc.length), .int (nI run), .int (bi fs), .int 1, .int (hb t q), .int 1, .int 0] [] σ τ _
              refine Rx.go (fun _ => rfl) ?_
              refine Rx.go (fun _ => rfl) ?_
              refine Rx.go (fun _ => rfl) ?_
              refine Rx.go (fun _ => rfl) ?_
              refine Rx.ite (fun c78 => ?_) (fun c78 => ?_)
              · replace c78 : (hb t q) < 65 := of_decide_eq_true c78
                show Rx X c0 m_Mod_readTag 168 [.ref (c0 + 16), .int (nI acc.length), .int (nI run), .int (bi fs), .int 1, .int (hb t q), .int 1, .int 0] [.ref (c0 + 16)] σ τ _
                refine Rx.go (fun _ => rfl) ?_
                refine Rx.top (y := nI (smlN (t.getD q 0))) (by rw [hb_lt hlt]; exact sml_b (hS.z.by q) (Or.inl (by rw [← hb_lt hlt]; exact c78))) ?_
                refine Rx.callP rfl rfl rfl rfl (rs_put (smlN (t.getD q 0)) hS (by first | omega | (simp only [List.length_append, List.length_cons, List.length_nil]; omega))) ?_
                intro σ135 τ135 hS135
                show Rx X c0 m_Mod_readTag 173 [.ref (c0 + 16), .int (nI acc.length), .int (nI run), .int (bi fs), .int 1, .int (hb t q), .int 1, .int 0] [] σ135 τ135 _
                refine Rx.go (fun _ => rfl) ?_
                show Rx X c0 m_Mod_readTag 176 [.ref (c0 + 16), .int ((nI acc.length) + 1), .int (nI run), .int (bi fs), .int 1, .int (hb t q), .int 1, .int 0] [] σ135 τ135 _
                refine Rx.go (fun _ => rfl) ?_
                refine Rx.go (fun _ => rfl) ?_
                refine Rx.get rfl rfl ?_
                refine Rx.top (y := nI q) hS135.f16 ?_
                refine Rx.go (fun _ => rfl) ?_
                refine Rx.go (fun _ => rfl) ?_
                refine Rx.top (y := nI (q + 1)) (nI_1 _) ?_
                refine Rx.put rfl (by decide) rfl rfl ?_
                have hS136 := hS135.at1 hlt
                refine Rx.go (fun _ => rfl) ?_
                refine Rx.go (fun _ => rfl) ?_
                show Rx X c0 m_Mod_readTag 191 [.ref (c0 + 16), .int ((nI acc.length) + 1), .int (nI run), .int (bi fs), .int 1, .int (hb t q), .int 1, .int 0] [] (upd σ135 16 (nI (q + 1))) τ135 _
                refine Rx.go (fun _ => rfl) ?_
                refine Rx.go (fun _ => rfl) ?_
                refine Rx.go (fun _ => rfl) ?_
                refine Rx.go (fun _ => rfl) ?_
                refine Rx.go (fun _ => rfl) ?_
                show Rx X c0 m_Mod_readTag 199 [.ref (c0 + 16), .int ((nI acc.length) + 1), .int ((nI run) + 1), .int (bi fs), .int 1, .int (hb t q), .int 1, .int 0] [] (upd σ135 16 (nI (q + 1))) τ135 _
                refine Rx.go (fun _ => rfl) ?_
                refine Rx.go (fun _ => rfl) ?_
                refine Rx.ite (fun c79 => ?_) (fun c79 => ?_)
                · replace c79 : fs = false := bi_eqt c79
                  show Rx X c0 m_Mod_readTag 212 [.ref (c0 + 16), .int ((nI acc.length) + 1), .int ((nI run) + 1), .int (bi fs), .int 1, .int (hb t q), .int 1, .int 0] [] (upd σ135 16 (nI (q + 1))) τ135 _
                  refine Rx.go (fun _ => rfl) ?_
                  refine Rx.go (fun _ => rfl) ?_
                  show Rx X c0 m_Mod_readTag 214 [.ref (c0 + 16), .int ((nI acc.length) + 1), .int ((nI run) + 1), .int 0, .int 1, .int (hb t q), .int 1, .int 0] [] (upd σ135 16 (nI (q + 1))) τ135 _
                  refine Rx.go (fun _ => rfl) ?_
                  show Rx X c0 m_Mod_readTag 31 [.ref (c0 + 16), .int ((nI acc.length) + 1), .int ((nI run) + 1), .int 0, .int 1, .int (hb t q), .int 1, .int 0] [] (upd σ135 16 (nI (q + 1))) τ135 _
                  rw [show nI run + 1 = nI (run + 1) from nI_1 run]
                  obtain ⟨m1, rfl⟩ : ∃ m1, m = m1 + 1 := ⟨m - 1, by omega⟩
                  have e1 : sT t (m1 + 1) q run fs acc = sT t m1 (q + 1) (run + 1) false (acc ++ [smlN (t.getD q 0)]) := by rw [tg_n hgd (by rw [decide_eq_false d20, decide_eq_false d8]; simp), hd]; first | rfl | simp [hg, c38, c79]
                  rw [e1, show nI acc.length + 1 = nI (acc ++ [smlN (t.getD q 0)]).length by rw [nI_1, List.length_append]; rfl]
                  exact ih m1 (by omega) (q + 1) (run + 1) false (acc ++ [smlN (t.getD q 0)]) _ _ _ _ _ (by omega) (by simp only [List.length_append, List.length_cons, List.length_nil]; omega) (by omega) (by rw [← List.append_assoc]; exact hS136)
                · replace c79 : fs = true := bi_eqf c79
                  exact Bool.noConfusion (c38.symm.trans c79)
              · replace c78 : ¬ (hb t q) < 65 := of_decide_eq_false c78
                show Rx X c0 m_Mod_readTag 153 [.ref (c0 + 16), .int (nI acc.length), .int (nI run), .int (bi fs), .int 1, .int (hb t q), .int 1, .int 0] [.ref (c0 + 16)] σ τ _
                refine Rx.go (fun _ => rfl) ?_
                refine Rx.go (fun _ => rfl) ?_
                refine Rx.go (fun _ => rfl) ?_
                refine Rx.ite (fun c80 => ?_) (fun c80 => ?_)
                · replace c80 : 90 < (hb t q) := of_decide_eq_true c80
                  show Rx X c0 m_Mod_readTag 168 [.ref (c0 + 16), .int (nI acc.length), .int (nI run), .int (bi fs), .int 1, .int (hb t q), .int 1, .int 0] [.ref (c0 + 16)] σ τ _
                  refine Rx.go (fun _ => rfl) ?_
                  refine Rx.top (y := nI (smlN (t.getD q 0))) (by rw [hb_lt hlt]; exact sml_b (hS.z.by q) (Or.inr (by rw [← hb_lt hlt]; exact c80))) ?_
                  refine Rx.callP rfl rfl rfl rfl (rs_put (smlN (t.getD q 0)) hS (by first | omega | (simp only [List.length_append, List.length_cons, List.length_nil]; omega))) ?_
                  intro σ137 τ137 hS137
                  show Rx X c0 m_Mod_readTag 173 [.ref (c0 + 16), .int (nI acc.length), .int (nI run), .int (bi fs), .int 1, .int (hb t q), .int 1, .int 0] [] σ137 τ137 _
                  refine Rx.go (fun _ => rfl) ?_
                  show Rx X c0 m_Mod_readTag 176 [.ref (c0 + 16), .int ((nI acc.length) + 1), .int (nI run), .int (bi fs), .int 1, .int (hb t q), .int 1, .int 0] [] σ137 τ137 _
                  refine Rx.go (fun _ => rfl) ?_
                  refine Rx.go (fun _ => rfl) ?_
                  refine Rx.get rfl rfl ?_
                  refine Rx.top (y := nI q) hS137.f16 ?_
                  refine Rx.go (fun _ => rfl) ?_
                  refine Rx.go (fun _ => rfl) ?_
                  refine Rx.top (y := nI (q + 1)) (nI_1 _) ?_
                  refine Rx.put rfl (by decide) rfl rfl ?_
                  have hS138 := hS137.at1 hlt
                  refine Rx.go (fun _ => rfl) ?_
                  refine Rx.go (fun _ => rfl) ?_
                  show Rx X c0 m_Mod_readTag 191 [.ref (c0 + 16), .int ((nI acc.length) + 1), .int (nI run), .int (bi fs), .int 1, .int (hb t q), .int 1, .int 0] [] (upd σ137 16 (nI (q + 1))) τ137 _
                  refine Rx.go (fun _ => rfl) ?_
                  refine Rx.go (fun _ => rfl) ?_
                  refine Rx.go (fun _ => rfl) ?_
                  refine Rx.go (fun _ => rfl) ?_
                  refine Rx.go (fun _ => rfl) ?_
                  show Rx X c0 m_Mod_readTag 199 [.ref (c0 + 16), .int ((nI acc.length) + 1), .int ((nI run) + 1), .int (bi fs), .int 1, .int (hb t q), .int 1, .int 0] [] (upd σ137 16 (nI (q + 1))) τ137 _
                  refine Rx.go (fun _ => rfl) ?_
                  refine Rx.go (fun _ => rfl) ?_
                  refine Rx.ite (fun c81 => ?_) (fun c81 => ?_)
                  · replace c81 : fs = false := bi_eqt c81
                    show Rx X c0 m_Mod_readTag 212 [.ref (c0 + 16), .int ((nI acc.length) + 1), .int ((nI run) + 1), .int (bi fs), .int 1, .int (hb t q), .int 1, .int 0] [] (upd σ137 16 (nI (q + 1))) τ137 _
                    refine Rx.go (fun _ => rfl) ?_
                    refine Rx.go (fun _ => rfl) ?_
                    show Rx X c0 m_Mod_readTag 214 [.ref (c0 + 16), .int ((nI acc.length) + 1), .int ((nI run) + 1), .int 0, .int 1, .int (hb t q), .int 1, .int 0] [] (upd σ137 16 (nI (q + 1))) τ137 _
                    refine Rx.go (fun _ => rfl) ?_
                    show Rx X c0 m_Mod_readTag 31 [.ref (c0 + 16), .int ((nI acc.length) + 1), .int ((nI run) + 1), .int 0, .int 1, .int (hb t q), .int 1, .int 0] [] (upd σ137 16 (nI (q + 1))) τ137 _
                    rw [show nI run + 1 = nI (run + 1) from nI_1 run]
                    obtain ⟨m1, rfl⟩ : ∃ m1, m = m1 + 1 := ⟨m - 1, by omega⟩
                    have e1 : sT t (m1 + 1) q run fs acc = sT t m1 (q + 1) (run + 1) false (acc ++ [smlN (t.getD q 0)]) := by rw [tg_n hgd (by rw [decide_eq_false d20, decide_eq_false d8]; simp), hd]; first | rfl | simp [hg, c38, c81]
                    rw [e1, show nI acc.length + 1 = nI (acc ++ [smlN (t.getD q 0)]).length by rw [nI_1, List.length_append]; rfl]
                    exact ih m1 (by omega) (q + 1) (run + 1) false (acc ++ [smlN (t.getD q 0)]) _ _ _ _ _ (by omega) (by simp only [List.length_append, List.length_cons, List.length_nil]; omega) (by omega) (by rw [← List.append_assoc]; exact hS138)
                  · replace c81 : fs = true := bi_eqf c81
                    exact Bool.noConfusion (c38.symm.trans c81)
                · replace c80 : ¬ 90 < (hb t q) := of_decide_eq_false c80
                  show Rx X c0 m_Mod_readTag 160 [.ref (c0 + 16), .int (nI acc.length), .int (nI run), .int (bi fs), .int 1, .int (hb t q), .int 1, .int 0] [.ref (c0 + 16)] σ τ _
                  refine Rx.go (fun _ => rfl) ?_
                  refine Rx.go (fun _ => rfl) ?_
                  refine Rx.go (fun _ => rfl) ?_
                  refine Rx.go (fun _ => rfl) ?_
                  refine Rx.top (y := nI (smlN (t.getD q 0))) (by rw [hb_lt hlt]; exact sml_a (hS.z.by q) (by rw [← hb_lt hlt]; exact c78) (by rw [← hb_lt hlt]; exact c80)) ?_
                  refine Rx.callP rfl rfl rfl rfl (rs_put (smlN (t.getD q 0)) hS (by first | omega | (simp only [List.length_append, List.length_cons, List.length_nil]; omega))) ?_
                  intro σ139 τ139 hS139
                  show Rx X c0 m_Mod_readTag 173 [.ref (c0 + 16), .int (nI acc.length), .int (nI run), .int (bi fs), .int 1, .int (hb t q), .int 1, .int 0] [] σ139 τ139 _
                  refine Rx.go (fun _ => rfl) ?_
                  show Rx X c0 m_Mod_readTag 176 [.ref (c0 + 16), .int ((nI acc.length) + 1), .int (nI run), .int (bi fs), .int 1, .int (hb t q), .int 1, .int 0] [] σ139 τ139 _
                  refine Rx.go (fun _ => rfl) ?_
                  refine Rx.go (fun _ => rfl) ?_
                  refine Rx.get rfl rfl ?_
                  refine Rx.top (y := nI q) hS139.f16 ?_
                  refine Rx.go (fun _ => rfl) ?_
                  refine Rx.go (fun _ => rfl) ?_
                  refine Rx.top (y := nI (q + 1)) (nI_1 _) ?_
                  refine Rx.put rfl (by decide) rfl rfl ?_
                  have hS140 := hS139.at1 hlt
                  refine Rx.go (fun _ => rfl) ?_
                  refine Rx.go (fun _ => rfl) ?_
                  show Rx X c0 m_Mod_readTag 191 [.ref (c0 + 16), .int ((nI acc.length) + 1), .int (nI run), .int (bi fs), .int 1, .int (hb t q), .int 1, .int 0] [] (upd σ139 16 (nI (q + 1))) τ139 _
                  refine Rx.go (fun _ => rfl) ?_
                  refine Rx.go (fun _ => rfl) ?_
                  refine Rx.go (fun _ => rfl) ?_
                  refine Rx.go (fun _ => rfl) ?_
                  refine Rx.go (fun _ => rfl) ?_
                  show Rx X c0 m_Mod_readTag 199 [.ref (c0 + 16), .int ((nI acc.length) + 1), .int ((nI run) + 1), .int (bi fs), .int 1, .int (hb t q), .int 1, .int 0] [] (upd σ139 16 (nI (q + 1))) τ139 _
                  refine Rx.go (fun _ => rfl) ?_
                  refine Rx.go (fun _ => rfl) ?_
                  refine Rx.ite (fun c82 => ?_) (fun c82 => ?_)
                  · replace c82 : fs = false := bi_eqt c82
                    show Rx X c0 m_Mod_readTag 212 [.ref (c0 + 16), .int ((nI acc.length) + 1), .int ((nI run) + 1), .int (bi fs), .int 1, .int (hb t q), .int 1, .int 0] [] (upd σ139 16 (nI (q + 1))) τ139 _
                    refine Rx.go (fun _ => rfl) ?_
                    refine Rx.go (fun _ => rfl) ?_
                    show Rx X c0 m_Mod_readTag 214 [.ref (c0 + 16), .int ((nI acc.length) + 1), .int ((nI run) + 1), .int 0, .int 1, .int (hb t q), .int 1, .int 0] [] (upd σ139 16 (nI (q + 1))) τ139 _
                    refine Rx.go (fun _ => rfl) ?_
                    show Rx X c0 m_Mod_readTag 31 [.ref (c0 + 16), .int ((nI acc.length) + 1), .int ((nI run) + 1), .int 0, .int 1, .int (hb t q), .int 1, .int 0] [] (upd σ139 16 (nI (q + 1))) τ139 _
                    rw [show nI run + 1 = nI (run + 1) from nI_1 run]
                    obtain ⟨m1, rfl⟩ : ∃ m1, m = m1 + 1 := ⟨m - 1, by omega⟩
                    have e1 : sT t (m1 + 1) q run fs acc = sT t m1 (q + 1) (run + 1) false (acc ++ [smlN (t.getD q 0)]) := by rw [tg_n hgd (by rw [decide_eq_false d20, decide_eq_false d8]; simp), hd]; first | rfl | simp [hg, c38, c82]
                    rw [e1, show nI acc.length + 1 = nI (acc ++ [smlN (t.getD q 0)]).length by rw [nI_1, List.length_append]; rfl]
                    exact ih m1 (by omega) (q + 1) (run + 1) false (acc ++ [smlN (t.getD q 0)]) _ _ _ _ _ (by omega) (by simp only [List.length_append, List.length_cons, List.length_nil]; omega) (by omega) (by rw [← List.append_assoc]; exact hS140)
                  · replace c82 : fs = true := bi_eqf c82
                    exact Bool.noConfusion (c38.symm.trans c82)
            · replace c77 : (nI run) = 8 := Classical.not_not.mp (of_decide_eq_false c77)
              have d8 : run = 8 := (nI_eq (b := 8) (by omega) (by decide)).mp c77
              show Rx X c0 m_Mod_readTag 136 [.ref (c0 + 16), .int (nI acc.length), .int (nI run), .int (bi fs), .int 1, .int (hb t q), .int 1, .int 0] [] σ τ _
              refine Rx.go (fun _ => rfl) ?_
              refine Rx.go (fun _ => rfl) ?_
              refine Rx.go (fun _ => rfl) ?_
              refine Rx.get rfl rfl ?_
              refine Rx.top (y := nI q) hS.f16 ?_
              refine Rx.callP rfl rfl rfl rfl (rs_fl (wn := q) hS (by decide) rfl) ?_
              intro σ141 τ141 hS141
              show Rx X c0 m_Mod_readTag 145 [.ref (c0 + 16), .int (nI acc.length), .int (nI run), .int (bi fs), .int 1, .int (hb t q), .int 1, .int 0] [] σ141 τ141 _
              refine Rx.go (fun _ => rfl) ?_
              refine Rx.go (fun _ => rfl) ?_
              refine Rx.go (fun _ => rfl) ?_
              refine Rx.go (fun _ => rfl) ?_
              refine Rx.ite (fun c83 => ?_) (fun c83 => ?_)
              · replace c83 : (hb t q) < 65 := of_decide_eq_true c83
                show Rx X c0 m_Mod_readTag 168 [.ref (c0 + 16), .int (nI acc.length), .int (nI run), .int (bi fs), .int 1, .int (hb t q), .int 1, .int 0] [.ref (c0 + 16)] σ141 τ141 _
                refine Rx.go (fun _ => rfl) ?_
                refine Rx.callP rfl rfl rfl rfl (rg_put _ hS141 (by first | omega | (simp only [List.length_append, List.length_cons, List.length_nil]; omega))) ?_
                intro σ142 τ142 hS142
                show Rx X c0 m_Mod_readTag 173 [.ref (c0 + 16), .int (nI acc.length), .int (nI run), .int (bi fs), .int 1, .int (hb t q), .int 1, .int 0] [] σ142 τ142 _
                refine Rx.go (fun _ => rfl) ?_
                show Rx X c0 m_Mod_readTag 176 [.ref (c0 + 16), .int ((nI acc.length) + 1), .int (nI run), .int (bi fs), .int 1, .int (hb t q), .int 1, .int 0] [] σ142 τ142 _
                refine Rx.go (fun _ => rfl) ?_
                refine Rx.go (fun _ => rfl) ?_
                refine Rx.get rfl rfl ?_
                refine Rx.go (fun _ => rfl) ?_
                refine Rx.go (fun _ => rfl) ?_
                refine Rx.put rfl (by decide) rfl rfl ?_
                have hS143 := hS142.at1
                refine Rx.go (fun _ => rfl) ?_
                refine Rx.go (fun _ => rfl) ?_
                show Rx X c0 m_Mod_readTag 191 [.ref (c0 + 16), .int ((nI acc.length) + 1), .int (nI run), .int (bi fs), .int 1, .int (hb t q), .int 1, .int 0] [] (upd σ142 16 ((σ142 16) + 1)) τ142 _
                refine Rx.go (fun _ => rfl) ?_
                refine Rx.go (fun _ => rfl) ?_
                refine Rx.go (fun _ => rfl) ?_
                refine Rx.go (fun _ => rfl) ?_
                refine Rx.go (fun _ => rfl) ?_
                show Rx X c0 m_Mod_readTag 199 [.ref (c0 + 16), .int ((nI acc.length) + 1), .int ((nI run) + 1), .int (bi fs), .int 1, .int (hb t q), .int 1, .int 0] [] (upd σ142 16 ((σ142 16) + 1)) τ142 _
                refine Rx.go (fun _ => rfl) ?_
                refine Rx.go (fun _ => rfl) ?_
                refine Rx.ite (fun c84 => ?_) (fun c84 => ?_)
                · replace c84 : fs = false := bi_eqt c84
                  show Rx X c0 m_Mod_readTag 212 [.ref (c0 + 16), .int ((nI acc.length) + 1), .int ((nI run) + 1), .int (bi fs), .int 1, .int (hb t q), .int 1, .int 0] [] (upd σ142 16 ((σ142 16) + 1)) τ142 _
                  refine Rx.go (fun _ => rfl) ?_
                  refine Rx.go (fun _ => rfl) ?_
                  show Rx X c0 m_Mod_readTag 214 [.ref (c0 + 16), .int ((nI acc.length) + 1), .int ((nI run) + 1), .int 0, .int 1, .int (hb t q), .int 1, .int 0] [] (upd σ142 16 ((σ142 16) + 1)) τ142 _
                  refine Rx.go (fun _ => rfl) ?_
                  refine Rx.go (fun _ => rfl) ?_
                  refine Rx.go (fun _ => rfl) ?_
                  show Rx X c0 m_Mod_readTag 36 [.ref (c0 + 16), .int ((nI acc.length) + 1), .int ((nI run) + 1), .int 0, .int 1, .int (hb t q), .int 1, .int 0] [] (upd σ142 16 ((σ142 16) + 1)) τ142 _
                  refine Rx.go (fun _ => rfl) ?_
                  refine Rx.callE rfl rfl rfl rfl (rg_good hS143) ?_
                  show Rx X c0 m_Mod_readTag 40 [.ref (c0 + 16), .int ((nI acc.length) + 1), .int ((nI run) + 1), .int 0, .int 1, .int (hb t q), .int 1, .int 0] [.int 0] (upd σ142 16 ((σ142 16) + 1)) τ142 _
                  refine Rx.go (fun _ => rfl) ?_
                  show Rx X c0 m_Mod_readTag 217 [.ref (c0 + 16), .int ((nI acc.length) + 1), .int ((nI run) + 1), .int 0, .int 1, .int (hb t q), .int 1, .int 0] [] (upd σ142 16 ((σ142 16) + 1)) τ142 _
                  refine Rx.go (fun _ => rfl) ?_
                  refine Rx.go (fun _ => rfl) ?_
                  refine Rx.get rfl rfl ?_
                  refine Rx.go (fun _ => rfl) ?_
                  refine Rx.go (fun _ => rfl) ?_
                  refine Rx.put rfl (by decide) rfl rfl ?_
                  have hS144 := hS143.up (i := 13) (x := ((upd σ142 16 ((σ142 16) + 1)) 13) + ((nI acc.length) + 1)) (by omega)
                  exact Rx.ret rfl rfl (rQ_f (b := acc) (tg_x hm hlt hgd (by rw [hg, decide_eq_true d8]; simp)) hS144 (by first | omega | (simp only [List.length_append, List.length_cons, List.length_nil]; omega)) (by omega))
                · replace c84 : fs = true := bi_eqf c84
                  exact Bool.noConfusion (c38.symm.trans c84)
              · replace c83 : ¬ (hb t q) < 65 := of_decide_eq_false c83
                show Rx X c0 m_Mod_readTag 153 [.ref (c0 + 16), .int (nI acc.length), .int (nI run), .int (bi fs), .int 1, .int (hb t q), .int 1, .int 0] [.ref (c0 + 16)] σ141 τ141 _
                refine Rx.go (fun _ => rfl) ?_
                refine Rx.go (fun _ => rfl) ?_
                refine Rx.go (fun _ => rfl) ?_
                refine Rx.ite (fun c85 => ?_) (fun c85 => ?_)
                · replace c85 : 90 < (hb t q) := of_decide_eq_true c85
                  show Rx X c0 m_Mod_readTag 168 [.ref (c0 + 16), .int (nI acc.length), .int (nI run), .int (bi fs), .int 1, .int (hb t q), .int 1, .int 0] [.ref (c0 + 16)] σ141 τ141 _
                  refine Rx.go (fun _ => rfl) ?_
                  refine Rx.callP rfl rfl rfl rfl (rg_put _ hS141 (by first | omega | (simp only [List.length_append, List.length_cons, List.length_nil]; omega))) ?_
                  intro σ145 τ145 hS145
                  show Rx X c0 m_Mod_readTag 173 [.ref (c0 + 16), .int (nI acc.length), .int (nI run), .int (bi fs), .int 1, .int (hb t q), .int 1, .int 0] [] σ145 τ145 _
                  refine Rx.go (fun _ => rfl) ?_
                  show Rx X c0 m_Mod_readTag 176 [.ref (c0 + 16), .int ((nI acc.length) + 1), .int (nI run), .int (bi fs), .int 1, .int (hb t q), .int 1, .int 0] [] σ145 τ145 _
                  refine Rx.go (fun _ => rfl) ?_
                  refine Rx.go (fun _ => rfl) ?_
                  refine Rx.get rfl rfl ?_
                  refine Rx.go (fun _ => rfl) ?_
                  refine Rx.go (fun _ => rfl) ?_
                  refine Rx.put rfl (by decide) rfl rfl ?_
                  have hS146 := hS145.at1
                  refine Rx.go (fun _ => rfl) ?_
                  refine Rx.go (fun _ => rfl) ?_
                  show Rx X c0 m_Mod_readTag 191 [.ref (c0 + 16), .int ((nI acc.length) + 1), .int (nI run), .int (bi fs), .int 1, .int (hb t q), .int 1, .int 0] [] (upd σ145 16 ((σ145 16) + 1)) τ145 _
                  refine Rx.go (fun _ => rfl) ?_
                  refine Rx.go (fun _ => rfl) ?_
                  refine Rx.go (fun _ => rfl) ?_
                  refine Rx.go (fun _ => rfl) ?_
                  refine Rx.go (fun _ => rfl) ?_
                  show Rx X c0 m_Mod_readTag 199 [.ref (c0 + 16), .int ((nI acc.length) + 1), .int ((nI run) + 1), .int (bi fs), .int 1, .int (hb t q), .int 1, .int 0] [] (upd σ145 16 ((σ145 16) + 1)) τ145 _
                  refine Rx.go (fun _ => rfl) ?_
                  refine Rx.go (fun _ => rfl) ?_
                  refine Rx.ite (fun c86 => ?_) (fun c86 => ?_)
                  · replace c86 : fs = false := bi_eqt c86
                    show Rx X c0 m_Mod_readTag 212 [.ref (c0 + 16), .int ((nI acc.length) + 1), .int ((nI run) + 1), .int (bi fs), .int 1, .int (hb t q), .int 1, .int 0] [] (upd σ145 16 ((σ145 16) + 1)) τ145 _
                    refine Rx.go (fun _ => rfl) ?_
                    refine Rx.go (fun _ => rfl) ?_
                    show Rx X c0 m_Mod_readTag 214 [.ref (c0 + 16), .int ((nI acc.length) + 1), .int ((nI run) + 1), .int 0, .int 1, .int (hb t q), .int 1, .int 0] [] (upd σ145 16 ((σ145 16) + 1)) τ145 _
                    refine Rx.go (fun _ => rfl) ?_
                    refine Rx.go (fun _ => rfl) ?_
                    refine Rx.go (fun _ => rfl) ?_
                    show Rx X c0 m_Mod_readTag 36 [.ref (c0 + 16), .int ((nI acc.length) + 1), .int ((nI run) + 1), .int 0, .int 1, .int (hb t q), .int 1, .int 0] [] (upd σ145 16 ((σ145 16) + 1)) τ145 _
                    refine Rx.go (fun _ => rfl) ?_
                    refine Rx.callE rfl rfl rfl rfl (rg_good hS146) ?_
                    show Rx X c0 m_Mod_readTag 40 [.ref (c0 + 16), .int ((nI acc.length) + 1), .int ((nI run) + 1), .int 0, .int 1, .int (hb t q), .int 1, .int 0] [.int 0] (upd σ145 16 ((σ145 16) + 1)) τ145 _
                    refine Rx.go (fun _ => rfl) ?_
                    show Rx X c0 m_Mod_readTag 217 [.ref (c0 + 16), .int ((nI acc.length) + 1), .int ((nI run) + 1), .int 0, .int 1, .int (hb t q), .int 1, .int 0] [] (upd σ145 16 ((σ145 16) + 1)) τ145 _
                    refine Rx.go (fun _ => rfl) ?_
                    refine Rx.go (fun _ => rfl) ?_
                    refine Rx.get rfl rfl ?_
                    refine Rx.go (fun _ => rfl) ?_
                    refine Rx.go (fun _ => rfl) ?_
                    refine Rx.put rfl (by decide) rfl rfl ?_
                    have hS147 := hS146.up (i := 13) (x := ((upd σ145 16 ((σ145 16) + 1)) 13) + ((nI acc.length) + 1)) (by omega)
                    exact Rx.ret rfl rfl (rQ_f (b := acc) (tg_x hm hlt hgd (by rw [hg, decide_eq_true d8]; simp)) hS147 (by first | omega | (simp only [List.length_append, List.length_cons, List.length_nil]; omega)) (by omega))
                  · replace c86 : fs = true := bi_eqf c86
                    exact Bool.noConfusion (c38.symm.trans c86)
                · replace c85 : ¬ 90 < (hb t q) := of_decide_eq_false c85
                  show Rx X c0 m_Mod_readTag 160 [.ref (c0 + 16), .int (nI acc.length), .int (nI run), .int (bi fs), .int 1, .int (hb t q), .int 1, .int 0] [.ref (c0 + 16)] σ141 τ141 _
                  refine Rx.go (fun _ => rfl) ?_
                  refine Rx.go (fun _ => rfl) ?_
                  refine Rx.go (fun _ => rfl) ?_
                  refine Rx.go (fun _ => rfl) ?_
                  refine Rx.callP rfl rfl rfl rfl (rg_put _ hS141 (by first | omega | (simp only [List.length_append, List.length_cons, List.length_nil]; omega))) ?_
                  intro σ148 τ148 hS148
                  show Rx X c0 m_Mod_readTag 173 [.ref (c0 + 16), .int (nI acc.length), .int (nI run), .int (bi fs), .int 1, .int (hb t q), .int 1, .int 0] [] σ148 τ148 _
                  refine Rx.go (fun _ => rfl) ?_
                  show Rx X c0 m_Mod_readTag 176 [.ref (c0 + 16), .int ((nI acc.length) + 1), .int (nI run), .int (bi fs), .int 1, .int (hb t q), .int 1, .int 0] [] σ148 τ148 _
                  refine Rx.go (fun _ => rfl) ?_
                  refine Rx.go (fun _ => rfl) ?_
                  refine Rx.get rfl rfl ?_
                  refine Rx.go (fun _ => rfl) ?_
                  refine Rx.go (fun _ => rfl) ?_
                  refine Rx.put rfl (by decide) rfl rfl ?_
                  have hS149 := hS148.at1
                  refine Rx.go (fun _ => rfl) ?_
                  refine Rx.go (fun _ => rfl) ?_
                  show Rx X c0 m_Mod_readTag 191 [.ref (c0 + 16), .int ((nI acc.length) + 1), .int (nI run), .int (bi fs), .int 1, .int (hb t q), .int 1, .int 0] [] (upd σ148 16 ((σ148 16) + 1)) τ148 _
                  refine Rx.go (fun _ => rfl) ?_
                  refine Rx.go (fun _ => rfl) ?_
                  refine Rx.go (fun _ => rfl) ?_
                  refine Rx.go (fun _ => rfl) ?_
                  refine Rx.go (fun _ => rfl) ?_
                  show Rx X c0 m_Mod_readTag 199 [.ref (c0 + 16), .int ((nI acc.length) + 1), .int ((nI run) + 1), .int (bi fs), .int 1, .int (hb t q), .int 1, .int 0] [] (upd σ148 16 ((σ148 16) + 1)) τ148 _
                  refine Rx.go (fun _ => rfl) ?_
                  refine Rx.go (fun _ => rfl) ?_
                  refine Rx.ite (fun c87 => ?_) (fun c87 => ?_)
                  · replace c87 : fs = false := bi_eqt c87
                    show Rx X c0 m_Mod_readTag 212 [.ref (c0 + 16), .int ((nI acc.length) + 1), .int ((nI run) + 1), .int (bi fs), .int 1, .int (hb t q), .int 1, .int 0] [] (upd σ148 16 ((σ148 16) + 1)) τ148 _
                    refine Rx.go (fun _ => rfl) ?_
                    refine Rx.go (fun _ => rfl) ?_
                    show Rx X c0 m_Mod_readTag 214 [.ref (c0 + 16), .int ((nI acc.length) + 1), .int ((nI run) + 1), .int 0, .int 1, .int (hb t q), .int 1, .int 0] [] (upd σ148 16 ((σ148 16) + 1)) τ148 _
                    refine Rx.go (fun _ => rfl) ?_
                    refine Rx.go (fun _ => rfl) ?_
                    refine Rx.go (fun _ => rfl) ?_
                    show Rx X c0 m_Mod_readTag 36 [.ref (c0 + 16), .int ((nI acc.length) + 1), .int ((nI run) + 1), .int 0, .int 1, .int (hb t q), .int 1, .int 0] [] (upd σ148 16 ((σ148 16) + 1)) τ148 _
                    refine Rx.go (fun _ => rfl) ?_
                    refine Rx.callE rfl rfl rfl rfl (rg_good hS149) ?_
                    show Rx X c0 m_Mod_readTag 40 [.ref (c0 + 16), .int ((nI acc.length) + 1), .int ((nI run) + 1), .int 0, .int 1, .int (hb t q), .int 1, .int 0] [.int 0] (upd σ148 16 ((σ148 16) + 1)) τ148 _
                    refine Rx.go (fun _ => rfl) ?_
                    show Rx X c0 m_Mod_readTag 217 [.ref (c0 + 16), .int ((nI acc.length) + 1), .int ((nI run) + 1), .int 0, .int 1, .int (hb t q), .int 1, .int 0] [] (upd σ148 16 ((σ148 16) + 1)) τ148 _
                    refine Rx.go (fun _ => rfl) ?_
                    refine Rx.go (fun _ => rfl) ?_
                    refine Rx.get rfl rfl ?_
                    refine Rx.go (fun _ => rfl) ?_
                    refine Rx.go (fun _ => rfl) ?_
                    refine Rx.put rfl (by decide) rfl rfl ?_
                    have hS150 := hS149.up (i := 13) (x := ((upd σ148 16 ((σ148 16) + 1)) 13) + ((nI acc.length) + 1)) (by omega)
                    exact Rx.ret rfl rfl (rQ_f (b := acc) (tg_x hm hlt hgd (by rw [hg, decide_eq_true d8]; simp)) hS150 (by first | omega | (simp only [List.length_append, List.length_cons, List.length_nil]; omega)) (by omega))
                  · replace c87 : fs = true := bi_eqf c87
                    exact Bool.noConfusion (c38.symm.trans c87)
        · replace c70 : (hb t q) = 45 := Classical.not_not.mp (of_decide_eq_false c70)
          show Rx X c0 m_Mod_readTag 83 [.ref (c0 + 16), .int (nI acc.length), .int (nI run), .int (bi fs), .int 1, .int (hb t q), .int 1, b7] [] σ τ _
          refine Rx.go (fun _ => rfl) ?_
          refine Rx.go (fun _ => rfl) ?_
          refine Rx.ite (fun c88 => ?_) (fun c88 => ?_)
          · replace c88 : (nI run) ≤ 0 := of_decide_eq_true c88
            have dr : ¬ 0 < run := by have := (nI_leI (b := 0) (by omega) (by decide)).mp c88; omega
            show Rx X c0 m_Mod_readTag 91 [.ref (c0 + 16), .int (nI acc.length), .int (nI run), .int (bi fs), .int 1, .int (hb t q), .int 1, b7] [] σ τ _
            refine Rx.go (fun _ => rfl) ?_
            refine Rx.go (fun _ => rfl) ?_
            show Rx X c0 m_Mod_readTag 94 [.ref (c0 + 16), .int (nI acc.length), .int (nI run), .int (bi fs), .int 1, .int (hb t q), .int 1, .int 0] [] σ τ _
            have hg : (isL (hb t q) || (isD (hb t q) && !fs)) = true := by simp [c1, c38, c54]
            have hd : (decide (hb t q = 45) && decide (0 < run)) = false := by simp [c70, dr]
            have hgd : (isL (hb t q) || (isD (hb t q) && !fs)) = true ∨ (decide (hb t q = 45) && decide (0 < run)) = true := Or.inl hg
            have hlt := tg_lt hgd
            refine Rx.go (fun _ => rfl) ?_
            refine Rx.go (fun _ => rfl) ?_
            show Rx X c0 m_Mod_readTag 119 [.ref (c0 + 16), .int (nI acc.length), .int (nI run), .int (bi fs), .int 1, .int (hb t q), .int 1, .int 0] [] σ τ _
            refine Rx.go (fun _ => rfl) ?_
            refine Rx.go (fun _ => rfl) ?_
            refine Rx.go (fun _ => rfl) ?_
            refine Rx.ite (fun c89 => ?_) (fun c89 => ?_)
            · replace c89 : (nI acc.length) = 20 := of_decide_eq_true c89
              have d20 : acc.length = 20 := (nI_eq (b := 20) (by omega) (by decide)).mp c89
              show Rx X c0 m_Mod_readTag 136 [.ref (c0 + 16), .int (nI acc.length), .int (nI run), .int (bi fs), .int 1, .int (hb t q), .int 1, .int 0] [] σ τ _
              refine Rx.go (fun _ => rfl) ?_
              refine Rx.go (fun _ => rfl) ?_
              refine Rx.go (fun _ => rfl) ?_
              refine Rx.get rfl rfl ?_
              refine Rx.top (y := nI q) hS.f16 ?_
              refine Rx.callP rfl rfl rfl rfl (rs_fl (wn := q) hS (by decide) rfl) ?_
              intro σ151 τ151 hS151
              show Rx X c0 m_Mod_readTag 145 [.ref (c0 + 16), .int (nI acc.length), .int (nI run), .int (bi fs), .int 1, .int (hb t q), .int 1, .int 0] [] σ151 τ151 _
              refine Rx.go (fun _ => rfl) ?_
              refine Rx.go (fun _ => rfl) ?_
              refine Rx.go (fun _ => rfl) ?_
              refine Rx.go (fun _ => rfl) ?_
              refine Rx.ite (fun c90 => ?_) (fun c90 => ?_)
              · replace c90 : (hb t q) < 65 := of_decide_eq_true c90
                show Rx X c0 m_Mod_readTag 168 [.ref (c0 + 16), .int (nI acc.length), .int (nI run), .int (bi fs), .int 1, .int (hb t q), .int 1, .int 0] [.ref (c0 + 16)] σ151 τ151 _
                refine Rx.go (fun _ => rfl) ?_
                refine Rx.callP rfl rfl rfl rfl (rg_put _ hS151 (by first | omega | (simp only [List.length_append, List.length_cons, List.length_nil]; omega))) ?_
                intro σ152 τ152 hS152
                show Rx X c0 m_Mod_readTag 173 [.ref (c0 + 16), .int (nI acc.length), .int (nI run), .int (bi fs), .int 1, .int (hb t q), .int 1, .int 0] [] σ152 τ152 _
                refine Rx.go (fun _ => rfl) ?_
                show Rx X c0 m_Mod_readTag 176 [.ref (c0 + 16), .int ((nI acc.length) + 1), .int (nI run), .int (bi fs), .int 1, .int (hb t q), .int 1, .int 0] [] σ152 τ152 _
                refine Rx.go (fun _ => rfl) ?_
                refine Rx.go (fun _ => rfl) ?_
                refine Rx.get rfl rfl ?_
                refine Rx.go (fun _ => rfl) ?_
                refine Rx.go (fun _ => rfl) ?_
                refine Rx.put rfl (by decide) rfl rfl ?_
                have hS153 := hS152.at1
                refine Rx.go (fun _ => rfl) ?_
                refine Rx.go (fun _ => rfl) ?_
                show Rx X c0 m_Mod_readTag 191 [.ref (c0 + 16), .int ((nI acc.length) + 1), .int (nI run), .int (bi fs), .int 1, .int (hb t q), .int 1, .int 0] [] (upd σ152 16 ((σ152 16) + 1)) τ152 _
                refine Rx.go (fun _ => rfl) ?_
                refine Rx.go (fun _ => rfl) ?_
                refine Rx.go (fun _ => rfl) ?_
                refine Rx.go (fun _ => rfl) ?_
                refine Rx.go (fun _ => rfl) ?_
                show Rx X c0 m_Mod_readTag 199 [.ref (c0 + 16), .int ((nI acc.length) + 1), .int ((nI run) + 1), .int (bi fs), .int 1, .int (hb t q), .int 1, .int 0] [] (upd σ152 16 ((σ152 16) + 1)) τ152 _
                refine Rx.go (fun _ => rfl) ?_
                refine Rx.go (fun _ => rfl) ?_
                refine Rx.ite (fun c91 => ?_) (fun c91 => ?_)
                · replace c91 : fs = false := bi_eqt c91
                  show Rx X c0 m_Mod_readTag 212 [.ref (c0 + 16), .int ((nI acc.length) + 1), .int ((nI run) + 1), .int (bi fs), .int 1, .int (hb t q), .int 1, .int 0] [] (upd σ152 16 ((σ152 16) + 1)) τ152 _
                  refine Rx.go (fun _ => rfl) ?_
                  refine Rx.go (fun _ => rfl) ?_
                  show Rx X c0 m_Mod_readTag 214 [.ref (c0 + 16), .int ((nI acc.length) + 1), .int ((nI run) + 1), .int 0, .int 1, .int (hb t q), .int 1, .int 0] [] (upd σ152 16 ((σ152 16) + 1)) τ152 _
                  refine Rx.go (fun _ => rfl) ?_
                  refine Rx.go (fun _ => rfl) ?_
                  refine Rx.go (fun _ => rfl) ?_
                  show Rx X c0 m_Mod_readTag 36 [.ref (c0 + 16), .int ((nI acc.length) + 1), .int ((nI run) + 1), .int 0, .int 1, .int (hb t q), .int 1, .int 0] [] (upd σ152 16 ((σ152 16) + 1)) τ152 _
                  refine Rx.go (fun _ => rfl) ?_
                  refine Rx.callE rfl rfl rfl rfl (rg_good hS153) ?_
                  show Rx X c0 m_Mod_readTag 40 [.ref (c0 + 16), .int ((nI acc.length) + 1), .int ((nI run) + 1), .int 0, .int 1, .int (hb t q), .int 1, .int 0] [.int 0] (upd σ152 16 ((σ152 16) + 1)) τ152 _
                  refine Rx.go (fun _ => rfl) ?_
                  show Rx X c0 m_Mod_readTag 217 [.ref (c0 + 16), .int ((nI acc.length) + 1), .int ((nI run) + 1), .int 0, .int 1, .int (hb t q), .int 1, .int 0] [] (upd σ152 16 ((σ152 16) + 1)) τ152 _
                  refine Rx.go (fun _ => rfl) ?_
                  refine Rx.go (fun _ => rfl) ?_
                  refine Rx.get rfl rfl ?_
                  refine Rx.go (fun _ => rfl) ?_
                  refine Rx.go (fun _ => rfl) ?_
                  refine Rx.put rfl (by decide) rfl rfl ?_
                  have hS154 := hS153.up (i := 13) (x := ((upd σ152 16 ((σ152 16) + 1)) 13) + ((nI acc.length) + 1)) (by omega)
                  exact Rx.ret rfl rfl (rQ_f (b := acc) (tg_x hm hlt hgd (by rw [decide_eq_true d20]; rfl)) hS154 (by first | omega | (simp only [List.length_append, List.length_cons, List.length_nil]; omega)) (by omega))
                · replace c91 : fs = true := bi_eqf c91
                  exact Bool.noConfusion (c38.symm.trans c91)
              · replace c90 : ¬ (hb t q) < 65 := of_decide_eq_false c90
                show Rx X c0 m_Mod_readTag 153 [.ref (c0 + 16), .int (nI acc.length), .int (nI run), .int (bi fs), .int 1, .int (hb t q), .int 1, .int 0] [.ref (c0 + 16)] σ151 τ151 _
                refine Rx.go (fun _ => rfl) ?_
                refine Rx.go (fun _ => rfl) ?_
                refine Rx.go (fun _ => rfl) ?_
                refine Rx.ite (fun c92 => ?_) (fun c92 => ?_)
                · replace c92 : 90 < (hb t q) := of_decide_eq_true c92
                  show Rx X c0 m_Mod_readTag 168 [.ref (c0 + 16), .int (nI acc.length), .int (nI run), .int (bi fs), .int 1, .int (hb t q), .int 1, .int 0] [.ref (c0 + 16)] σ151 τ151 _
                  refine Rx.go (fun _ => rfl) ?_
                  refine Rx.callP rfl rfl rfl rfl (rg_put _ hS151 (by first | omega | (simp only [List.length_append, List.length_cons, List.length_nil]; omega))) ?_
                  intro σ155 τ155 hS155
                  show Rx X c0 m_Mod_readTag 173 [.ref (c0 + 16), .int (nI acc.length), .int (nI run), .int (bi fs), .int 1, .int (hb t q), .int 1, .int 0] [] σ155 τ155 _
                  refine Rx.go (fun _ => rfl) ?_
                  show Rx X c0 m_Mod_readTag 176 [.ref (c0 + 16), .int ((nI acc.length) + 1), .int (nI run), .int (bi fs), .int 1, .int (hb t q), .int 1, .int 0] [] σ155 τ155 _
                  refine Rx.go (fun _ => rfl) ?_
                  refine Rx.go (fun _ => rfl) ?_
                  refine Rx.get rfl rfl ?_
                  refine Rx.go (fun _ => rfl) ?_
                  refine Rx.go (fun _ => rfl) ?_
                  refine Rx.put rfl (by decide) rfl rfl ?_
                  have hS156 := hS155.at1
                  refine Rx.go (fun _ => rfl) ?_
                  refine Rx.go (fun _ => rfl) ?_
                  show Rx X c0 m_Mod_readTag 191 [.ref (c0 + 16), .int ((nI acc.length) + 1), .int (nI run), .int (bi fs), .int 1, .int (hb t q), .int 1, .int 0] [] (upd σ155 16 ((σ155 16) + 1)) τ155 _
                  refine Rx.go (fun _ => rfl) ?_
                  refine Rx.go (fun _ => rfl) ?_
                  refine Rx.go (fun _ => rfl) ?_
                  refine Rx.go (fun _ => rfl) ?_
                  refine Rx.go (fun _ => rfl) ?_
                  show Rx X c0 m_Mod_readTag 199 [.ref (c0 + 16), .int ((nI acc.length) + 1), .int ((nI run) + 1), .int (bi fs), .int 1, .int (hb t q), .int 1, .int 0] [] (upd σ155 16 ((σ155 16) + 1)) τ155 _
                  refine Rx.go (fun _ => rfl) ?_
                  refine Rx.go (fun _ => rfl) ?_
                  refine Rx.ite (fun c93 => ?_) (fun c93 => ?_)
                  · replace c93 : fs = false := bi_eqt c93
                    show Rx X c0 m_Mod_readTag 212 [.ref (c0 + 16), .int ((nI acc.length) + 1), .int ((nI run) + 1), .int (bi fs), .int 1, .int (hb t q), .int 1, .int 0] [] (upd σ155 16 ((σ155 16) + 1)) τ155 _
                    refine Rx.go (fun _ => rfl) ?_
                    refine Rx.go (fun _ => rfl) ?_
                    show Rx X c0 m_Mod_readTag 214 [.ref (c0 + 16), .int ((nI acc.length) + 1), .int ((nI run) + 1), .int 0, .int 1, .int (hb t q), .int 1, .int 0] [] (upd σ155 16 ((σ155 16) + 1)) τ155 _
                    refine Rx.go (fun _ => rfl) ?_
                    refine Rx.go (fun _ => rfl) ?_
                    refine Rx.go (fun _ => rfl) ?_
                    show Rx X c0 m_Mod_readTag 36 [.ref (c0 + 16), .int ((nI acc.length) + 1), .int ((nI run) + 1), .int 0, .int 1, .int (hb t q), .int 1, .int 0] [] (upd σ155 16 ((σ155 16) + 1)) τ155 _
                    refine Rx.go (fun _ => rfl) ?_
                    refine Rx.callE rfl rfl rfl rfl (rg_good hS156) ?_
                    show Rx X c0 m_Mod_readTag 40 [.ref (c0 + 16), .int ((nI acc.length) + 1), .int ((nI run) + 1), .int 0, .int 1, .int (hb t q), .int 1, .int 0] [.int 0] (upd σ155 16 ((σ155 16) + 1)) τ155 _
                    refine Rx.go (fun _ => rfl) ?_
                    show Rx X c0 m_Mod_readTag 217 [.ref (c0 + 16), .int ((nI acc.length) + 1), .int ((nI run) + 1), .int 0, .int 1, .int (hb t q), .int 1, .int 0] [] (upd σ155 16 ((σ155 16) + 1)) τ155 _
                    refine Rx.go (fun _ => rfl) ?_
                    refine Rx.go (fun _ => rfl) ?_
                    refine Rx.get rfl rfl ?_
                    refine Rx.go (fun _ => rfl) ?_
                    refine Rx.go (fun _ => rfl) ?_
                    refine Rx.put rfl (by decide) rfl rfl ?_
                    have hS157 := hS156.up (i := 13) (x := ((upd σ155 16 ((σ155 16) + 1)) 13) + ((nI acc.length) + 1)) (by omega)
                    exact Rx.ret rfl rfl (rQ_f (b := acc) (tg_x hm hlt hgd (by rw [decide_eq_true d20]; rfl)) hS157 (by first | omega | (simp only [List.length_append, List.length_cons, List.length_nil]; omega)) (by omega))
                  · replace c93 : fs = true := bi_eqf c93
                    exact Bool.noConfusion (c38.symm.trans c93)
                · replace c92 : ¬ 90 < (hb t q) := of_decide_eq_false c92
                  show Rx X c0 m_Mod_readTag 160 [.ref (c0 + 16), .int (nI acc.length), .int (nI run), .int (bi fs), .int 1, .int (hb t q), .int 1, .int 0] [.ref (c0 + 16)] σ151 τ151 _
                  refine Rx.go (fun _ => rfl) ?_
                  refine Rx.go (fun _ => rfl) ?_
                  refine Rx.go (fun _ => rfl) ?_
                  refine Rx.go (fun _ => rfl) ?_
                  refine Rx.callP rfl rfl rfl rfl (rg_put _ hS151 (by first | omega | (simp only [List.length_append, List.length_cons, List.length_nil]; omega))) ?_
                  intro σ158 τ158 hS158
                  show Rx X c0 m_Mod_readTag 173 [.ref (c0 + 16), .int (nI acc.length), .int (nI run), .int (bi fs), .int 1, .int (hb t q), .int 1, .int 0] [] σ158 τ158 _
                  refine Rx.go (fun _ => rfl) ?_
                  show Rx X c0 m_Mod_readTag 176 [.ref (c0 + 16), .int ((nI acc.length) + 1), .int (nI run), .int (bi fs), .int 1, .int (hb t q), .int 1, .int 0] [] σ158 τ158 _
                  refine Rx.go (fun _ => rfl) ?_
                  refine Rx.go (fun _ => rfl) ?_
                  refine Rx.get rfl rfl ?_
                  refine Rx.go (fun _ => rfl) ?_
                  refine Rx.go (fun _ => rfl) ?_
                  refine Rx.put rfl (by decide) rfl rfl ?_
                  have hS159 := hS158.at1
                  refine Rx.go (fun _ => rfl) ?_
                  refine Rx.go (fun _ => rfl) ?_
                  show Rx X c0 m_Mod_readTag 191 [.ref (c0 + 16), .int ((nI acc.length) + 1), .int (nI run), .int (bi fs), .int 1, .int (hb t q), .int 1, .int 0] [] (upd σ158 16 ((σ158 16) + 1)) τ158 _
                  refine Rx.go (fun _ => rfl) ?_
                  refine Rx.go (fun _ => rfl) ?_
                  refine Rx.go (fun _ => rfl) ?_
                  refine Rx.go (fun _ => rfl) ?_
                  refine Rx.go (fun _ => rfl) ?_
                  show Rx X c0 m_Mod_readTag 199 [.ref (c0 + 16), .int ((nI acc.length) + 1), .int ((nI run) + 1), .int (bi fs), .int 1, .int (hb t q), .int 1, .int 0] [] (upd σ158 16 ((σ158 16) + 1)) τ158 _
                  refine Rx.go (fun _ => rfl) ?_
                  refine Rx.go (fun _ => rfl) ?_
                  refine Rx.ite (fun c94 => ?_) (fun c94 => ?_)
                  · replace c94 : fs = false := bi_eqt c94
                    show Rx X c0 m_Mod_readTag 212 [.ref (c0 + 16), .int ((nI acc.length) + 1), .int ((nI run) + 1), .int (bi fs), .int 1, .int (hb t q), .int 1, .int 0] [] (upd σ158 16 ((σ158 16) + 1)) τ158 _
                    refine Rx.go (fun _ => rfl) ?_
                    refine Rx.go (fun _ => rfl) ?_
                    show Rx X c0 m_Mod_readTag 214 [.ref (c0 + 16), .int ((nI acc.length) + 1), .int ((nI run) + 1), .int 0, .int 1, .int (hb t q), .int 1, .int 0] [] (upd σ158 16 ((σ158 16) + 1)) τ158 _
                    refine Rx.go (fun _ => rfl) ?_
                    refine Rx.go (fun _ => rfl) ?_
                    refine Rx.go (fun _ => rfl) ?_
                    show Rx X c0 m_Mod_readTag 36 [.ref (c0 + 16), .int ((nI acc.length) + 1), .int ((nI run) + 1), .int 0, .int 1, .int (hb t q), .int 1, .int 0] [] (upd σ158 16 ((σ158 16) + 1)) τ158 _
                    refine Rx.go (fun _ => rfl) ?_
                    refine Rx.callE rfl rfl rfl rfl (rg_good hS159) ?_
                    show Rx X c0 m_Mod_readTag 40 [.ref (c0 + 16), .int ((nI acc.length) + 1), .int ((nI run) + 1), .int 0, .int 1, .int (hb t q), .int 1, .int 0] [.int 0] (upd σ158 16 ((σ158 16) + 1)) τ158 _
                    refine Rx.go (fun _ => rfl) ?_
                    show Rx X c0 m_Mod_readTag 217 [.ref (c0 + 16), .int ((nI acc.length) + 1), .int ((nI run) + 1), .int 0, .int 1, .int (hb t q), .int 1, .int 0] [] (upd σ158 16 ((σ158 16) + 1)) τ158 _
                    refine Rx.go (fun _ => rfl) ?_
                    refine Rx.go (fun _ => rfl) ?_
                    refine Rx.get rfl rfl ?_
                    refine Rx.go (fun _ => rfl) ?_
                    refine Rx.go (fun _ => rfl) ?_
                    refine Rx.put rfl (by decide) rfl rfl ?_
                    have hS160 := hS159.up (i := 13) (x := ((upd σ158 16 ((σ158 16) + 1)) 13) + ((nI acc.length) + 1)) (by omega)
                    exact Rx.ret rfl rfl (rQ_f (b := acc) (tg_x hm hlt hgd (by rw [decide_eq_true d20]; rfl)) hS160 (by first | omega | (simp only [List.length_append, List.length_cons, List.length_nil]; omega)) (by omega))
                  · replace c94 : fs = true := bi_eqf c94
                    exact Bool.noConfusion (c38.symm.trans c94)
            · replace c89 : ¬ (nI acc.length) = 20 := of_decide_eq_false c89
              have d20 : ¬ acc.length = 20 := fun e => c89 (by rw [e]; rfl)
              show Rx X c0 m_Mod_readTag 125 [.ref (c0 + 16), .int (nI acc.length), .int (nI run), .int (bi fs), .int 1, .int (hb t q), .int 1, .int 0] [] σ τ _
              refine Rx.go (fun _ => rfl) ?_
              refine Rx.go (fun _ => rfl) ?_
              show Rx X c0 m_Mod_readTag 130 [.ref (c0 + 16), .int (nI acc.length), .int (nI run), .int (bi fs), .int 1, .int (hb t q), .int 1, .int 0] [] σ τ _
              refine Rx.go (fun _ => rfl) ?_
              refine Rx.go (fun _ => rfl) ?_
              refine Rx.go (fun _ => rfl) ?_
              refine Rx.ite (fun c95 => ?_) (fun c95 => ?_)
              · replace c95 : ¬ (nI run) = 8 := of_decide_eq_true c95
                have d8 : ¬ run = 8 := fun e => c95 (by rw [e]; rfl)
                show Rx X c0 m_Mod_readTag 145 [.ref (c0 + 16), .int (nI acc.length), .int (nI run), .int (bi fs), .int 1, .int (hb t q), .int 1, .int 0] [] σ τ _
                refine Rx.go (fun _ => rfl) ?_
                refine Rx.go (fun _ => rfl) ?_
                refine Rx.go (fun _ => rfl) ?_
                refine Rx.go (fun _ => rfl) ?_
                refine Rx.ite (fun c96 => ?_) (fun c96 => ?_)
                · replace c96 : (hb t q) < 65 := of_decide_eq_true c96
                  show Rx X c0 m_Mod_readTag 168 [.ref (c0 + 16), .int (nI acc.length), .int (nI run), .int (bi fs), .int 1, .int (hb t q), .int 1, .int 0] [.ref (c0 + 16)] σ τ _
                  refine Rx.go (fun _ => rfl) ?_
                  refine Rx.top (y := nI (smlN (t.getD q 0))) (by rw [hb_lt hlt]; exact sml_b (hS.z.by q) (Or.inl (by rw [← hb_lt hlt]; exact c96))) ?_
                  refine Rx.callP rfl rfl rfl rfl (rs_put (smlN (t.getD q 0)) hS (by first | omega | (simp only [List.length_append, List.length_cons, List.length_nil]; omega))) ?_
                  intro σ161 τ161 hS161
                  show Rx X c0 m_Mod_readTag 173 [.ref (c0 + 16), .int (nI acc.length), .int (nI run), .int (bi fs), .int 1, .int (hb t q), .int 1, .int 0] [] σ161 τ161 _
                  refine Rx.go (fun _ => rfl) ?_
                  show Rx X c0 m_Mod_readTag 176 [.ref (c0 + 16), .int ((nI acc.length) + 1), .int (nI run), .int (bi fs), .int 1, .int (hb t q), .int 1, .int 0] [] σ161 τ161 _
                  refine Rx.go (fun _ => rfl) ?_
                  refine Rx.go (fun _ => rfl) ?_
                  refine Rx.get rfl rfl ?_
                  refine Rx.top (y := nI q) hS161.f16 ?_
                  refine Rx.go (fun _ => rfl) ?_
                  refine Rx.go (fun _ => rfl) ?_
                  refine Rx.top (y := nI (q + 1)) (nI_1 _) ?_
                  refine Rx.put rfl (by decide) rfl rfl ?_
                  have hS162 := hS161.at1 hlt
                  refine Rx.go (fun _ => rfl) ?_
                  refine Rx.go (fun _ => rfl) ?_
                  show Rx X c0 m_Mod_readTag 191 [.ref (c0 + 16), .int ((nI acc.length) + 1), .int (nI run), .int (bi fs), .int 1, .int (hb t q), .int 1, .int 0] [] (upd σ161 16 (nI (q + 1))) τ161 _
                  refine Rx.go (fun _ => rfl) ?_
                  refine Rx.go (fun _ => rfl) ?_
                  refine Rx.go (fun _ => rfl) ?_
                  refine Rx.go (fun _ => rfl) ?_
                  refine Rx.go (fun _ => rfl) ?_
                  show Rx X c0 m_Mod_readTag 199 [.ref (c0 + 16), .int ((nI acc.length) + 1), .int ((nI run) + 1), .int (bi fs), .int 1, .int (hb t q), .int 1, .int 0] [] (upd σ161 16 (nI (q + 1))) τ161 _
                  refine Rx.go (fun _ => rfl) ?_
                  refine Rx.go (fun _ => rfl) ?_
                  refine Rx.ite (fun c97 => ?_) (fun c97 => ?_)
                  · replace c97 : fs = false := bi_eqt c97
                    show Rx X c0 m_Mod_readTag 212 [.ref (c0 + 16), .int ((nI acc.length) + 1), .int ((nI run) + 1), .int (bi fs), .int 1, .int (hb t q), .int 1, .int 0] [] (upd σ161 16 (nI (q + 1))) τ161 _
                    refine Rx.go (fun _ => rfl) ?_
                    refine Rx.go (fun _ => rfl) ?_
                    show Rx X c0 m_Mod_readTag 214 [.ref (c0 + 16), .int ((nI acc.length) + 1), .int ((nI run) + 1), .int 0, .int 1, .int (hb t q), .int 1, .int 0] [] (upd σ161 16 (nI (q + 1))) τ161 _
                    refine Rx.go (fun _ => rfl) ?_
                    show Rx X c0 m_Mod_readTag 31 [.ref (c0 + 16), .int ((nI acc.length) + 1), .int ((nI run) + 1), .int 0, .int 1, .int (hb t q), .int 1, .int 0] [] (upd σ161 16 (nI (q + 1))) τ161 _
                    rw [show nI run + 1 = nI (run + 1) from nI_1 run]
                    obtain ⟨m1, rfl⟩ : ∃ m1, m = m1 + 1 := ⟨m - 1, by omega⟩
                    have e1 : sT t (m1 + 1) q run fs acc = sT t m1 (q + 1) (run + 1) false (acc ++ [smlN (t.getD q 0)]) := by rw [tg_n hgd (by rw [decide_eq_false d20, decide_eq_false d8]; simp), hd]; first | rfl | simp [hg, c38, c97]
                    rw [e1, show nI acc.length + 1 = nI (acc ++ [smlN (t.getD q 0)]).length by rw [nI_1, List.length_append]; rfl]
                    exact ih m1 (by omega) (q + 1) (run + 1) false (acc ++ [smlN (t.getD q 0)]) _ _ _ _ _ (by omega) (by simp only [List.length_append, List.length_cons, List.length_nil]; omega) (by omega) (by rw [← List.append_assoc]; exact hS162)
                  · replace c97 : fs = true := bi_eqf c97
                    exact Bool.noConfusion (c38.symm.trans c97)
                · replace c96 : ¬ (hb t q) < 65 := of_decide_eq_false c96
                  show Rx X c0 m_Mod_readTag 153 [.ref (c0 + 16), .int (nI acc.length), .int (nI run), .int (bi fs), .int 1, .int (hb t q), .int 1, .int 0] [.ref (c0 + 16)] σ τ _
                  refine Rx.go (fun _ => rfl) ?_
                  refine Rx.go (fun _ => rfl) ?_
                  refine Rx.go (fun _ => rfl) ?_
                  refine Rx.ite (fun c98 => ?_) (fun c98 => ?_)
                  · replace c98 : 90 < (hb t q) := of_decide_eq_true c98
                    show Rx X c0 m_Mod_readTag 168 [.ref (c0 + 16), .int (nI acc.length), .int (nI run), .int (bi fs), .int 1, .int (hb t q), .int 1, .int 0] [.ref (c0 + 16)] σ τ _
                    refine Rx.go (fun _ => rfl) ?_
                    refine Rx.top (y := nI (smlN (t.getD q 0))) (by rw [hb_lt hlt]; exact sml_b (hS.z.by q) (Or.inr (by rw [← hb_lt hlt]; exact c98))) ?_
                    refine Rx.callP rfl rfl rfl rfl (rs_put (smlN (t.getD q 0)) hS (by first | omega | (simp only [List.length_append, List.length_cons, List.length_nil]; omega))) ?_
                    intro σ163 τ163 hS163
                    show Rx X c0 m_Mod_readTag 173 [.ref (c0 + 16), .int (nI acc.length), .int (nI run), .int (bi fs), .int 1, .int (hb t q), .int 1, .int 0] [] σ163 τ163 _
                    refine Rx.go (fun _ => rfl) ?_
                    show Rx X c0 m_Mod_readTag 176 [.ref (c0 + 16), .int ((nI acc.length) + 1), .int (nI run), .int (bi fs), .int 1, .int (hb t q), .int 1, .int 0] [] σ163 τ163 _
                    refine Rx.go (fun _ => rfl) ?_
                    refine Rx.go (fun _ => rfl) ?_
                    refine Rx.get rfl rfl ?_
                    refine Rx.top (y := nI q) hS163.f16 ?_
                    refine Rx.go (fun _ => rfl) ?_
                    refine Rx.go (fun _ => rfl) ?_
                    refine Rx.top (y := nI (q + 1)) (nI_1 _) ?_
                    refine Rx.put rfl (by decide) rfl rfl ?_
                    have hS164 := hS163.at1 hlt
                    refine Rx.go (fun _ => rfl) ?_
                    refine Rx.go (fun _ => rfl) ?_
                    show Rx X c0 m_Mod_readTag 191 [.ref (c0 + 16), .int ((nI acc.length) + 1), .int (nI run), .int (bi fs), .int 1, .int (hb t q), .int 1, .int 0] [] (upd σ163 16 (nI (q + 1))) τ163 _
                    refine Rx.go (fun _ => rfl) ?_
                    refine Rx.go (fun _ => rfl) ?_
                    refine Rx.go (fun _ => rfl) ?_
                    refine Rx.go (fun _ => rfl) ?_
                    refine Rx.go (fun _ => rfl) ?_
                    show Rx X c0 m_Mod_readTag 199 [.ref (c0 + 16), .int ((nI acc.length) + 1), .int ((nI run) + 1), .int (bi fs), .int 1, .int (hb t q), .int 1, .int 0] [] (upd σ163 16 (nI (q + 1))) τ163 _
                    refine Rx.go (fun _ => rfl) ?_
                    refine Rx.go (fun _ => rfl) ?_
                    refine Rx.ite (fun c99 => ?_) (fun c99 => ?_)
                    · replace c99 : fs = false := bi_eqt c99
                      show Rx X c0 m_Mod_readTag 212 [.ref (c0 + 16), .int ((nI acc.length) + 1), .int ((nI run) + 1), .int (bi fs), .int 1, .int (hb t q), .int 1, .int 0] [] (upd σ163 16 (nI (q + 1))) τ163 _
                      refine Rx.go (fun _ => rfl) ?_
                      refine Rx.go (fun _ => rfl) ?_
                      show Rx X c0 m_Mod_readTag 214 [.ref (c0 + 16), .int ((nI acc.length) + 1), .int ((nI run) + 1), .int 0, .int 1, .int (hb t q), .int 1, .int 0] [] (upd σ163 16 (nI (q + 1))) τ163 _
                      refine Rx.go (fun _ => rfl) ?_
                      show Rx X c0 m_Mod_readTag 31 [.ref (c0 + 16), .int ((nI acc.length) + 1), .int ((nI run) + 1), .int 0, .int 1, .int (hb t q), .int 1, .int 0] [] (upd σ163 16 (nI (q + 1))) τ163 _
                      rw [show nI run + 1 = nI (run + 1) from nI_1 run]
                      obtain ⟨m1, rfl⟩ : ∃ m1, m = m1 + 1 := ⟨m - 1, by omega⟩
                      have e1 : sT t (m1 + 1) q run fs acc = sT t m1 (q + 1) (run + 1) false (acc ++ [smlN (t.getD q 0)]) := by rw [tg_n hgd (by rw [decide_eq_false d20, decide_eq_false d8]; simp), hd]; first | rfl | simp [hg, c38, c99]
                      rw [e1, show nI acc.length + 1 = nI (acc ++ [smlN (t.getD q 0)]).length by rw [nI_1, List.length_append]; rfl]
                      exact ih m1 (by omega) (q + 1) (run + 1) false (acc ++ [smlN (t.getD q 0)]) _ _ _ _ _ (by omega) (by simp only [List.length_append, List.length_cons, List.length_nil]; omega) (by omega) (by rw [← List.append_assoc]; exact hS164)
                    · replace c99 : fs = true := bi_eqf c99
                      exact Bool.noConfusion (c38.symm.trans c99)
                  · replace c98 : ¬ 90 < (hb t q) := of_decide_eq_false c98
                    show Rx X c0 m_Mod_readTag 160 [.ref (c0 + 16), .int (nI acc.length), .int (nI run), .int (bi fs), .int 1, .int (hb t q), .int 1, .int 0] [.ref (c0 + 16)] σ τ _
                    refine Rx.go (fun _ => rfl) ?_
                    refine Rx.go (fun _ => rfl) ?_
                    refine Rx.go (fun _ => rfl) ?_
                    refine Rx.go (fun _ => rfl) ?_
                    refine Rx.top (y := nI (smlN (t.getD q 0))) (by rw [hb_lt hlt]; exact sml_a (hS.z.by q) (by rw [← hb_lt hlt]; exact c96) (by rw [← hb_lt hlt]; exact c98)) ?_
                    refine Rx.callP rfl rfl rfl rfl (rs_put (smlN (t.getD q 0)) hS (by first | omega | (simp only [List.length_append, List.length_cons, List.length_nil]; omega))) ?_
                    intro σ165 τ165 hS165
                    show Rx X c0 m_Mod_readTag 173 [.ref (c0 + 16), .int (nI acc.length), .int (nI run), .int (bi fs), .int 1, .int (hb t q), .int 1, .int 0] [] σ165 τ165 _
                    refine Rx.go (fun _ => rfl) ?_
                    show Rx X c0 m_Mod_readTag 176 [.ref (c0 + 16), .int ((nI acc.length) + 1), .int (nI run), .int (bi fs), .int 1, .int (hb t q), .int 1, .int 0] [] σ165 τ165 _
                    refine Rx.go (fun _ => rfl) ?_
                    refine Rx.go (fun _ => rfl) ?_
                    refine Rx.get rfl rfl ?_
                    refine Rx.top (y := nI q) hS165.f16 ?_
                    refine Rx.go (fun _ => rfl) ?_
                    refine Rx.go (fun _ => rfl) ?_
                    refine Rx.top (y := nI (q + 1)) (nI_1 _) ?_
                    refine Rx.put rfl (by decide) rfl rfl ?_
                    have hS166 := hS165.at1 hlt
                    refine Rx.go (fun _ => rfl) ?_
                    refine Rx.go (fun _ => rfl) ?_
                    show Rx X c0 m_Mod_readTag 191 [.ref (c0 + 16), .int ((nI acc.length) + 1), .int (nI run), .int (bi fs), .int 1, .int (hb t q), .int 1, .int 0] [] (upd σ165 16 (nI (q + 1))) τ165 _
                    refine Rx.go (fun _ => rfl) ?_
                    refine Rx.go (fun _ => rfl) ?_
                    refine Rx.go (fun _ => rfl) ?_
                    refine Rx.go (fun _ => rfl) ?_
                    refine Rx.go (fun _ => rfl) ?_
                    show Rx X c0 m_Mod_readTag 199 [.ref (c0 + 16), .int ((nI acc.length) + 1), .int ((nI run) + 1), .int (bi fs), .int 1, .int (hb t q), .int 1, .int 0] [] (upd σ165 16 (nI (q + 1))) τ165 _
                    refine Rx.go (fun _ => rfl) ?_
                    refine Rx.go (fun _ => rfl) ?_
                    refine Rx.ite (fun c100 => ?_) (fun c100 => ?_)
                    · replace c100 : fs = false := bi_eqt c100
                      show Rx X c0 m_Mod_readTag 212 [.ref (c0 + 16), .int ((nI acc.length) + 1), .int ((nI run) + 1), .int (bi fs), .int 1, .int (hb t q), .int 1, .int 0] [] (upd σ165 16 (nI (q + 1))) τ165 _
                      refine Rx.go (fun _ => rfl) ?_
                      refine Rx.go (fun _ => rfl) ?_
                      show Rx X c0 m_Mod_readTag 214 [.ref (c0 + 16), .int ((nI acc.length) + 1), .int ((nI run) + 1), .int 0, .int 1, .int (hb t q), .int 1, .int 0] [] (upd σ165 16 (nI (q + 1))) τ165 _
                      refine Rx.go (fun _ => rfl) ?_
                      show Rx X c0 m_Mod_readTag 31 [.ref (c0 + 16), .int ((nI acc.length) + 1), .int ((nI run) + 1), .int 0, .int 1, .int (hb t q), .int 1, .int 0] [] (upd σ165 16 (nI (q + 1))) τ165 _
                      rw [show nI run + 1 = nI (run + 1) from nI_1 run]
                      obtain ⟨m1, rfl⟩ : ∃ m1, m = m1 + 1 := ⟨m - 1, by omega⟩
                      have e1 : sT t (m1 + 1) q run fs acc = sT t m1 (q + 1) (run + 1) false (acc ++ [smlN (t.getD q 0)]) := by rw [tg_n hgd (by rw [decide_eq_false d20, decide_eq_false d8]; simp), hd]; first | rfl | simp [hg, c38, c100]
                      rw [e1, show nI acc.length + 1 = nI (acc ++ [smlN (t.getD q 0)]).length by rw [nI_1, List.length_append]; rfl]
                      exact ih m1 (by omega) (q + 1) (run + 1) false (acc ++ [smlN (t.getD q 0)]) _ _ _ _ _ (by omega) (by simp only [List.length_append, List.length_cons, List.length_nil]; omega) (by omega) (by rw [← List.append_assoc]; exact hS166)
                    · replace c100 : fs = true := bi_eqf c100
                      exact Bool.noConfusion (c38.symm.trans c100)
              · replace c95 : (nI run) = 8 := Classical.not_not.mp (of_decide_eq_false c95)
                have d8 : run = 8 := (nI_eq (b := 8) (by omega) (by decide)).mp c95
                show Rx X c0 m_Mod_readTag 136 [.ref (c0 + 16), .int (nI acc.length), .int (nI run), .int (bi fs), .int 1, .int (hb t q), .int 1, .int 0] [] σ τ _
                refine Rx.go (fun _ => rfl) ?_
                refine Rx.go (fun _ => rfl) ?_
                refine Rx.go (fun _ => rfl) ?_
                refine Rx.get rfl rfl ?_
                refine Rx.top (y := nI q) hS.f16 ?_
                refine Rx.callP rfl rfl rfl rfl (rs_fl (wn := q) hS (by decide) rfl) ?_
                intro σ167 τ167 hS167
                show Rx X c0 m_Mod_readTag 145 [.ref (c0 + 16), .int (nI acc.length), .int (nI run), .int (bi fs), .int 1, .int (hb t q), .int 1, .int 0] [] σ167 τ167 _
                refine Rx.go (fun _ => rfl) ?_
                refine Rx.go (fun _ => rfl) ?_
                refine Rx.go (fun _ => rfl) ?_
                refine Rx.go (fun _ => rfl) ?_
                refine Rx.ite (fun c101 => ?_) (fun c101 => ?_)
                · replace c101 : (hb t q) < 65 := of_decide_eq_true c101
                  show Rx X c0 m_Mod_readTag 168 [.ref (c0 + 16), .int (nI acc.length), .int (nI run), .int (bi fs), .int 1, .int (hb t q), .int 1, .int 0] [.ref (c0 + 16)] σ167 τ167 _
                  refine Rx.go (fun _ => rfl) ?_
                  refine Rx.callP rfl rfl rfl rfl (rg_put _ hS167 (by first | omega | (simp only [List.length_append, List.length_cons, List.length_nil]; omega))) ?_
                  intro σ168 τ168 hS168
                  show Rx X c0 m_Mod_readTag 173 [.ref (c0 + 16), .int (nI acc.length), .int (nI run), .int (bi fs), .int 1, .int (hb t q), .int 1, .int 0] [] σ168 τ168 _
                  refine Rx.go (fun _ => rfl) ?_
                  show Rx X c0 m_Mod_readTag 176 [.ref (c0 + 16), .int ((nI acc.length) + 1), .int (nI run), .int (bi fs), .int 1, .int (hb t q), .int 1, .int 0] [] σ168 τ168 _
                  refine Rx.go (fun _ => rfl) ?_
                  refine Rx.go (fun _ => rfl) ?_
                  refine Rx.get rfl rfl ?_
                  refine Rx.go (fun _ => rfl) ?_
                  refine Rx.go (fun _ => rfl) ?_
                  refine Rx.put rfl (by decide) rfl rfl ?_
                  have hS169 := hS168.at1
                  refine Rx.go (fun _ => rfl) ?_
                  refine Rx.go (fun _ => rfl) ?_
                  show Rx X c0 m_Mod_readTag 191 [.ref (c0 + 16), .int ((nI acc.length) + 1), .int (nI run), .int (bi fs), .int 1, .int (hb t q), .int 1, .int 0] [] (upd σ168 16 ((σ168 16) + 1)) τ168 _
                  refine Rx.go (fun _ => rfl) ?_
                  refine Rx.go (fun _ => rfl) ?_
                  refine Rx.go (fun _ => rfl) ?_
                  refine Rx.go (fun _ => rfl) ?_
                  refine Rx.go (fun _ => rfl) ?_
                  show Rx X c0 m_Mod_readTag 199 [.ref (c0 + 16), .int ((nI acc.length) + 1), .int ((nI run) + 1), .int (bi fs), .int 1, .int (hb t q), .int 1, .int 0] [] (upd σ168 16 ((σ168 16) + 1)) τ168 _
                  refine Rx.go (fun _ => rfl) ?_
                  refine Rx.go (fun _ => rfl) ?_
                  refine Rx.ite (fun c102 => ?_) (fun c102 => ?_)
                  · replace c102 : fs = false := bi_eqt c102
                    show Rx X c0 m_Mod_readTag 212 [.ref (c0 + 16), .int ((nI acc.length) + 1), .int ((nI run) + 1), .int (bi fs), .int 1, .int (hb t q), .int 1, .int 0] [] (upd σ168 16 ((σ168 16) + 1)) τ168 _
                    refine Rx.go (fun _ => rfl) ?_
                    refine Rx.go (fun _ => rfl) ?_
                    show Rx X c0 m_Mod_readTag 214 [.ref (c0 + 16), .int ((nI acc.length) + 1), .int ((nI run) + 1), .int 0, .int 1, .int (hb t q), .int 1, .int 0] [] (upd σ168 16 ((σ168 16) + 1)) τ168 _
                    refine Rx.go (fun _ => rfl) ?_
                    refine Rx.go (fun _ => rfl) ?_
                    refine Rx.go (fun _ => rfl) ?_
                    show Rx X c0 m_Mod_readTag 36 [.ref (c0 + 16), .int ((nI acc.length) + 1), .int ((nI run) + 1), .int 0, .int 1, .int (hb t q), .int 1, .int 0] [] (upd σ168 16 ((σ168 16) + 1)) τ168 _
                    refine Rx.go (fun _ => rfl) ?_
                    refine Rx.callE rfl rfl rfl rfl (rg_good hS169) ?_
                    show Rx X c0 m_Mod_readTag 40 [.ref (c0 + 16), .int ((nI acc.length) + 1), .int ((nI run) + 1), .int 0, .int 1, .int (hb t q), .int 1, .int 0] [.int 0] (upd σ168 16 ((σ168 16) + 1)) τ168 _
                    refine Rx.go (fun _ => rfl) ?_
                    show Rx X c0 m_Mod_readTag 217 [.ref (c0 + 16), .int ((nI acc.length) + 1), .int ((nI run) + 1), .int 0, .int 1, .int (hb t q), .int 1, .int 0] [] (upd σ168 16 ((σ168 16) + 1)) τ168 _
                    refine Rx.go (fun _ => rfl) ?_
                    refine Rx.go (fun _ => rfl) ?_
                    refine Rx.get rfl rfl ?_
                    refine Rx.go (fun _ => rfl) ?_
                    refine Rx.go (fun _ => rfl) ?_
                    refine Rx.put rfl (by decide) rfl rfl ?_
                    have hS170 := hS169.up (i := 13) (x := ((upd σ168 16 ((σ168 16) + 1)) 13) + ((nI acc.length) + 1)) (by omega)
                    exact Rx.ret rfl rfl (rQ_f (b := acc) (tg_x hm hlt hgd (by rw [hg, decide_eq_true d8]; simp)) hS170 (by first | omega | (simp only [List.length_append, List.length_cons, List.length_nil]; omega)) (by omega))
                  · replace c102 : fs = true := bi_eqf c102
                    exact Bool.noConfusion (c38.symm.trans c102)
                · replace c101 : ¬ (hb t q) < 65 := of_decide_eq_false c101
                  show Rx X c0 m_Mod_readTag 153 [.ref (c0 + 16), .int (nI acc.length), .int (nI run), .int (bi fs), .int 1, .int (hb t q), .int 1, .int 0] [.ref (c0 + 16)] σ167 τ167 _
                  refine Rx.go (fun _ => rfl) ?_
                  refine Rx.go (fun _ => rfl) ?_
                  refine Rx.go (fun _ => rfl) ?_
                  refine Rx.ite (fun c103 => ?_) (fun c103 => ?_)
                  · replace c103 : 90 < (hb t q) := of_decide_eq_true c103
                    show Rx X c0 m_Mod_readTag 168 [.ref (c0 + 16), .int (nI acc.length), .int (nI run), .int (bi fs), .int 1, .int (hb t q), .int 1, .int 0] [.ref (c0 + 16)] σ167 τ167 _
                    refine Rx.go (fun _ => rfl) ?_
                    refine Rx.callP rfl rfl rfl rfl (rg_put _ hS167 (by first | omega | (simp only [List.length_append, List.length_cons, List.length_nil]; omega))) ?_
                    intro σ171 τ171 hS171
                    show Rx X c0 m_Mod_readTag 173 [.ref (c0 + 16), .int (nI acc.length), .int (nI run), .int (bi fs), .int 1, .int (hb t q), .int 1, .int 0] [] σ171 τ171 _
                    refine Rx.go (fun _ => rfl) ?_
                    show Rx X c0 m_Mod_readTag 176 [.ref (c0 + 16), .int ((nI acc.length) + 1), .int (nI run), .int (bi fs), .int 1, .int (hb t q), .int 1, .int 0] [] σ171 τ171 _
                    refine Rx.go (fun _ => rfl) ?_
                    refine Rx.go (fun _ => rfl) ?_
                    refine Rx.get rfl rfl ?_
                    refine Rx.go (fun _ => rfl) ?_
                    refine Rx.go (fun _ => rfl) ?_
                    refine Rx.put rfl (by decide) rfl rfl ?_
                    have hS172 := hS171.at1
                    refine Rx.go (fun _ => rfl) ?_
                    refine Rx.go (fun _ => rfl) ?_
                    show Rx X c0 m_Mod_readTag 191 [.ref (c0 + 16), .int ((nI acc.length) + 1), .int (nI run), .int (bi fs), .int 1, .int (hb t q), .int 1, .int 0] [] (upd σ171 16 ((σ171 16) + 1)) τ171 _
                    refine Rx.go (fun _ => rfl) ?_
                    refine Rx.go (fun _ => rfl) ?_
                    refine Rx.go (fun _ => rfl) ?_
                    refine Rx.go (fun _ => rfl) ?_
                    refine Rx.go (fun _ => rfl) ?_
                    show Rx X c0 m_Mod_readTag 199 [.ref (c0 + 16), .int ((nI acc.length) + 1), .int ((nI run) + 1), .int (bi fs), .int 1, .int (hb t q), .int 1, .int 0] [] (upd σ171 16 ((σ171 16) + 1)) τ171 _
                    refine Rx.go (fun _ => rfl) ?_
                    refine Rx.go (fun _ => rfl) ?_
                    refine Rx.ite (fun c104 => ?_) (fun c104 => ?_)
                    · replace c104 : fs = false := bi_eqt c104
                      show Rx X c0 m_Mod_readTag 212 [.ref (c0 + 16), .int ((nI acc.length) + 1), .int ((nI run) + 1), .int (bi fs), .int 1, .int (hb t q), .int 1, .int 0] [] (upd σ171 16 ((σ171 16) + 1)) τ171 _
                      refine Rx.go (fun _ => rfl) ?_
                      refine Rx.go (fun _ => rfl) ?_
                      show Rx X c0 m_Mod_readTag 214 [.ref (c0 + 16), .int ((nI acc.length) + 1), .int ((nI run) + 1), .int 0, .int 1, .int (hb t q), .int 1, .int 0] [] (upd σ171 16 ((σ171 16) + 1)) τ171 _
                      refine Rx.go (fun _ => rfl) ?_
                      refine Rx.go (fun _ => rfl) ?_
                      refine Rx.go (fun _ => rfl) ?_
                      show Rx X c0 m_Mod_readTag 36 [.ref (c0 + 16), .int ((nI acc.length) + 1), .int ((nI run) + 1), .int 0, .int 1, .int (hb t q), .int 1, .int 0] [] (upd σ171 16 ((σ171 16) + 1)) τ171 _
                      refine Rx.go (fun _ => rfl) ?_
                      refine Rx.callE rfl rfl rfl rfl (rg_good hS172) ?_
                      show Rx X c0 m_Mod_readTag 40 [.ref (c0 + 16), .int ((nI acc.length) + 1), .int ((nI run) + 1), .int 0, .int 1, .int (hb t q), .int 1, .int 0] [.int 0] (upd σ171 16 ((σ171 16) + 1)) τ171 _
                      refine Rx.go (fun _ => rfl) ?_
                      show Rx X c0 m_Mod_readTag 217 [.ref (c0 + 16), .int ((nI acc.length) + 1), .int ((nI run) + 1), .int 0, .int 1, .int (hb t q), .int 1, .int 0] [] (upd σ171 16 ((σ171 16) + 1)) τ171 _
                      refine Rx.go (fun _ => rfl) ?_
                      refine Rx.go (fun _ => rfl) ?_
                      refine Rx.get rfl rfl ?_
                      refine Rx.go (fun _ => rfl) ?_
                      refine Rx.go (fun _ => rfl) ?_
                      refine Rx.put rfl (by decide) rfl rfl ?_
                      have hS173 := hS172.up (i := 13) (x := ((upd σ171 16 ((σ171 16) + 1)) 13) + ((nI acc.length) + 1)) (by omega)
                      exact Rx.ret rfl rfl (rQ_f (b := acc) (tg_x hm hlt hgd (by rw [hg, decide_eq_true d8]; simp)) hS173 (by first | omega | (simp only [List.length_append, List.length_cons, List.length_nil]; omega)) (by omega))
                    · replace c104 : fs = true := bi_eqf c104
                      exact Bool.noConfusion (c38.symm.trans c104)
                  · replace c103 : ¬ 90 < (hb t q) := of_decide_eq_false c103
                    show Rx X c0 m_Mod_readTag 160 [.ref (c0 + 16), .int (nI acc.length), .int (nI run), .int (bi fs), .int 1, .int (hb t q), .int 1, .int 0] [.ref (c0 + 16)] σ167 τ167 _
                    refine Rx.go (fun _ => rfl) ?_
                    refine Rx.go (fun _ => rfl) ?_
                    refine Rx.go (fun _ => rfl) ?_
                    refine Rx.go (fun _ => rfl) ?_
                    refine Rx.callP rfl rfl rfl rfl (rg_put _ hS167 (by first | omega | (simp only [List.length_append, List.length_cons, List.length_nil]; omega))) ?_
                    intro σ174 τ174 hS174
                    show Rx X c0 m_Mod_readTag 173 [.ref (c0 + 16), .int (nI acc.length), .int (nI run), .int (bi fs), .int 1, .int (hb t q), .int 1, .int 0] [] σ174 τ174 _
                    refine Rx.go (fun _ => rfl) ?_
                    show Rx X c0 m_Mod_readTag 176 [.ref (c0 + 16), .int ((nI acc.length) + 1), .int (nI run), .int (bi fs), .int 1, .int (hb t q), .int 1, .int 0] [] σ174 τ174 _
                    refine Rx.go (fun _ => rfl) ?_
                    refine Rx.go (fun _ => rfl) ?_
                    refine Rx.get rfl rfl ?_
                    refine Rx.go (fun _ => rfl) ?_
                    refine Rx.go (fun _ => rfl) ?_
                    refine Rx.put rfl (by decide) rfl rfl ?_
                    have hS175 := hS174.at1
                    refine Rx.go (fun _ => rfl) ?_
                    refine Rx.go (fun _ => rfl) ?_
                    show Rx X c0 m_Mod_readTag 191 [.ref (c0 + 16), .int ((nI acc.length) + 1), .int (nI run), .int (bi fs), .int 1, .int (hb t q), .int 1, .int 0] [] (upd σ174 16 ((σ174 16) + 1)) τ174 _
                    refine Rx.go (fun _ => rfl) ?_
                    refine Rx.go (fun _ => rfl) ?_
                    refine Rx.go (fun _ => rfl) ?_
                    refine Rx.go (fun _ => rfl) ?_
                    refine Rx.go (fun _ => rfl) ?_
                    show Rx X c0 m_Mod_readTag 199 [.ref (c0 + 16), .int ((nI acc.length) + 1), .int ((nI run) + 1), .int (bi fs), .int 1, .int (hb t q), .int 1, .int 0] [] (upd σ174 16 ((σ174 16) + 1)) τ174 _
                    refine Rx.go (fun _ => rfl) ?_
                    refine Rx.go (fun _ => rfl) ?_
                    refine Rx.ite (fun c105 => ?_) (fun c105 => ?_)
                    · replace c105 : fs = false := bi_eqt c105
                      show Rx X c0 m_Mod_readTag 212 [.ref (c0 + 16), .int ((nI acc.length) + 1), .int ((nI run) + 1), .int (bi fs), .int 1, .int (hb t q), .int 1, .int 0] [] (upd σ174 16 ((σ174 16) + 1)) τ174 _
                      refine Rx.go (fun _ => rfl) ?_
                      refine Rx.go (fun _ => rfl) ?_
                      show Rx X c0 m_Mod_readTag 214 [.ref (c0 + 16), .int ((nI acc.length) + 1), .int ((nI run) + 1), .int 0, .int 1, .int (hb t q), .int 1, .int 0] [] (upd σ174 16 ((σ174 16) + 1)) τ174 _
                      refine Rx.go (fun _ => rfl) ?_
                      refine Rx.go (fun _ => rfl) ?_
                      refine Rx.go (fun _ => rfl) ?_
                      show Rx X c0 m_Mod_readTag 36 [.ref (c0 + 16), .int ((nI acc.length) + 1), .int ((nI run) + 1), .int 0, .int 1, .int (hb t q), .int 1, .int 0] [] (upd σ174 16 ((σ174 16) + 1)) τ174 _
                      refine Rx.go (fun _ => rfl) ?_
                      refine Rx.callE rfl rfl rfl rfl (rg_good hS175) ?_
                      show Rx X c0 m_Mod_readTag 40 [.ref (c0 + 16), .int ((nI acc.length) + 1), .int ((nI run) + 1), .int 0, .int 1, .int (hb t q), .int 1, .int 0] [.int 0] (upd σ174 16 ((σ174 16) + 1)) τ174 _
                      refine Rx.go (fun _ => rfl) ?_
                      show Rx X c0 m_Mod_readTag 217 [.ref (c0 + 16), .int ((nI acc.length) + 1), .int ((nI run) + 1), .int 0, .int 1, .int (hb t q), .int 1, .int 0] [] (upd σ174 16 ((σ174 16) + 1)) τ174 _
                      refine Rx.go (fun _ => rfl) ?_
                      refine Rx.go (fun _ => rfl) ?_
                      refine Rx.get rfl rfl ?_
                      refine Rx.go (fun _ => rfl) ?_
                      refine Rx.go (fun _ => rfl) ?_
                      refine Rx.put rfl (by decide) rfl rfl ?_
                      have hS176 := hS175.up (i := 13) (x := ((upd σ174 16 ((σ174 16) + 1)) 13) + ((nI acc.length) + 1)) (by omega)
                      exact Rx.ret rfl rfl (rQ_f (b := acc) (tg_x hm hlt hgd (by rw [hg, decide_eq_true d8]; simp)) hS176 (by first | omega | (simp only [List.length_append, List.length_cons, List.length_nil]; omega)) (by omega))
                    · replace c105 : fs = true := bi_eqf c105
                      exact Bool.noConfusion (c38.symm.trans c105)
          · replace c88 : ¬ (nI run) ≤ 0 := of_decide_eq_false c88
            have dr : 0 < run := Nat.pos_of_ne_zero (fun e => c88 (by rw [e]; exact Int32.le_refl _))
            show Rx X c0 m_Mod_readTag 87 [.ref (c0 + 16), .int (nI acc.length), .int (nI run), .int (bi fs), .int 1, .int (hb t q), .int 1, b7] [] σ τ _
            refine Rx.go (fun _ => rfl) ?_
            refine Rx.go (fun _ => rfl) ?_
            refine Rx.go (fun _ => rfl) ?_
            show Rx X c0 m_Mod_readTag 94 [.ref (c0 + 16), .int (nI acc.length), .int (nI run), .int (bi fs), .int 1, .int (hb t q), .int 1, .int 1] [] σ τ _
            have hg : (isL (hb t q) || (isD (hb t q) && !fs)) = true := by simp [c1, c38, c54]
            have hd : (decide (hb t q = 45) && decide (0 < run)) = true := by simp [c70, dr]
            exfalso
            rw [c70] at hg
            simp [L45, D45] at hg
set_option maxRecDepth 100000 in
set_option maxHeartbeats 2000000 in
theorem rr_tag {X : ev_X} {c0 : Nat} {σ0 : Nat → Int32} {τ0 : Nat → Nat → Int32} {t : List Nat} {D0 : List Nat} {q k qq db : Nat} {σ : Nat → Int32} {τ : Nat → Nat → Int32} (hD : D0.length ≤ 200) (hdb : db ≤ 1000) (h0 : q < t.length) (hS : RS σ0 τ0 t q D0 k qq db σ τ) : Rx X c0 m_Mod_readTag 0 [.ref (c0 + 16), ev_dead, ev_dead, ev_dead, ev_dead, ev_dead, ev_dead, ev_dead] [] σ τ (rQ σ0 τ0 t (sT t (t.length - (q + 1)) (q + 1) 0 true []) (fun q b σ' τ' => RS σ0 τ0 t q (D0 ++ [64] ++ b) 6 qq (db + b.length) σ' τ')) := by
  have hl := hS.z.tl
  refine Rx.go (fun _ => rfl) ?_
  refine Rx.go (fun _ => rfl) ?_
  refine Rx.put rfl (by decide) rfl rfl ?_
  have hS177 := hS.k1 (x := 6)
  refine Rx.go (fun _ => rfl) ?_
  refine Rx.go (fun _ => rfl) ?_
  refine Rx.callP rfl rfl rfl rfl (rs_put 64 hS177 (by first | omega | (simp only [List.length_append, List.length_cons, List.length_nil]; omega))) ?_
  intro σ178 τ178 hS178
  show Rx X c0 m_Mod_readTag 12 [.ref (c0 + 16), ev_dead, ev_dead, ev_dead, ev_dead, ev_dead, ev_dead, ev_dead] [] σ178 τ178 _
  refine Rx.go (fun _ => rfl) ?_
  refine Rx.go (fun _ => rfl) ?_
  refine Rx.get rfl rfl ?_
  refine Rx.top (y := nI q) hS178.f16 ?_
  refine Rx.go (fun _ => rfl) ?_
  refine Rx.go (fun _ => rfl) ?_
  refine Rx.top (y := nI (q + 1)) (nI_1 _) ?_
  refine Rx.put rfl (by decide) rfl rfl ?_
  have hS179 := hS178.at1 h0
  refine Rx.go (fun _ => rfl) ?_
  refine Rx.go (fun _ => rfl) ?_
  show Rx X c0 m_Mod_readTag 24 [.ref (c0 + 16), .int 0, ev_dead, ev_dead, ev_dead, ev_dead, ev_dead, ev_dead] [] (upd σ178 16 (nI (q + 1))) τ178 _
  refine Rx.go (fun _ => rfl) ?_
  refine Rx.go (fun _ => rfl) ?_
  show Rx X c0 m_Mod_readTag 26 [.ref (c0 + 16), .int 0, .int 0, ev_dead, ev_dead, ev_dead, ev_dead, ev_dead] [] (upd σ178 16 (nI (q + 1))) τ178 _
  refine Rx.go (fun _ => rfl) ?_
  refine Rx.go (fun _ => rfl) ?_
  show Rx X c0 m_Mod_readTag 28 [.ref (c0 + 16), .int 0, .int 0, .int 1, ev_dead, ev_dead, ev_dead, ev_dead] [] (upd σ178 16 (nI (q + 1))) τ178 _
  refine Rx.go (fun _ => rfl) ?_
  refine Rx.go (fun _ => rfl) ?_
  show Rx X c0 m_Mod_readTag 31 [.ref (c0 + 16), .int 0, .int 0, .int 1, .int 1, ev_dead, ev_dead, ev_dead] [] (upd σ178 16 (nI (q + 1))) τ178 _
  show Rx X c0 m_Mod_readTag 31 [.ref (c0 + 16), .int 0, .int 0, .int 1, .int 1, ev_dead, ev_dead, ev_dead] [] (upd σ178 16 (nI (q + 1))) τ178 _
  exact rr_tg_l hD hdb (t.length - (q + 1)) (q + 1) 0 true [] _ _ _ _ _ (by omega) (by decide) (by omega) (by rw [List.append_nil]; exact hS179)
