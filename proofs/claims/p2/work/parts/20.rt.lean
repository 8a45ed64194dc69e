/-! The reference's table as a list of terms: (kind, written bytes, quote). -/
abbrev RT : Type := List (Nat × List Nat × Nat)
/-- where term i's bytes begin -/
def off : RT → Nat → Nat
  | _, 0 => 0
  | [], _ + 1 => 0
  | t :: ts, i + 1 => t.2.1.length + off ts i
def bys (ts : RT) (i : Nat) : List Nat := (ts.getD i (0, [], 0)).2.1
def knd (ts : RT) (i : Nat) : Nat := (ts.getD i (0, [], 0)).1
def quo (ts : RT) (i : Nat) : Nat := (ts.getD i (0, [], 0)).2.2
theorem off_succ (ts : RT) : ∀ i, i < ts.length → off ts (i + 1) = off ts i + (bys ts i).length := by
  induction ts with
  | nil => intro i h; simp at h
  | cons t ts ih =>
    intro i h
    cases i with
    | zero => simp [off, bys]
    | succ i =>
      have := ih i (by simpa using h)
      simp only [off, bys, List.getD_cons_succ] at this ⊢
      omega
theorem off_le (ts : RT) : ∀ i j, i ≤ j → j ≤ ts.length → off ts i ≤ off ts j := by
  intro i j hij hj
  induction hij with
  | refl => exact Nat.le_refl _
  | step h ih => exact Nat.le_trans (ih (by omega)) (by rw [off_succ ts _ (by omega)]; omega)
def okb (ts : RT) (i : Nat) : Prop := (∀ k, (bys ts i).getD k 0 < 256) ∧ knd ts i < 16 ∧ (bys ts i).length ≤ 260 ∧ quo ts i ≤ 260
/-- the arrays hold the list -/
def rt (σ : Nat → Int32) (τ : Nat → Nat → Int32) (ts : RT) : Prop := σ 7 = nI ts.length ∧ ts.length ≤ 2000 ∧ off ts ts.length ≤ 132000 ∧ (∀ i, i ≤ ts.length → τ 4 (i + 1) = nI (off ts i)) ∧ (∀ i, i < ts.length → τ 5 (i + 1) = nI (knd ts i) ∧ τ 6 (i + 1) = nI (quo ts i) ∧ (∀ k, k < (bys ts i).length → τ 3 (off ts i + k) = nI ((bys ts i).getD k 0)) ∧ okb ts i)
theorem nI_ix {n N : Nat} (h : n < N) (hN : N ≤ 2 ^ 31) : ¬ (nI n < 0 ∨ N ≤ (nI n).toNatClampNeg) := by
  have hn : n < 2 ^ 31 := Nat.lt_of_lt_of_le h hN
  rintro (q | q)
  · exact nI_pos hn q
  · rw [nI_clamp hn] at q; omega
theorem rt_f {σ : Nat → Int32} {τ : Nat → Nat → Int32} {ts : RT} (h : rt σ τ ts) {i : Nat} (hi : i ≤ ts.length) : τ 4 (nI (i + 1)).toNatClampNeg = nI (off ts i) := by
  rw [nI_clamp (by have := h.2.1; omega)]; exact h.2.2.2.1 i hi
theorem rt_k {σ : Nat → Int32} {τ : Nat → Nat → Int32} {ts : RT} (h : rt σ τ ts) {i : Nat} (hi : i < ts.length) : τ 5 (nI (i + 1)).toNatClampNeg = nI (knd ts i) := by
  rw [nI_clamp (by have := h.2.1; omega)]; exact (h.2.2.2.2 i hi).1
theorem rt_q {σ : Nat → Int32} {τ : Nat → Nat → Int32} {ts : RT} (h : rt σ τ ts) {i : Nat} (hi : i < ts.length) : τ 6 (nI (i + 1)).toNatClampNeg = nI (quo ts i) := by
  rw [nI_clamp (by have := h.2.1; omega)]; exact (h.2.2.2.2 i hi).2.1
theorem rt_o {σ : Nat → Int32} {τ : Nat → Nat → Int32} {ts : RT} (h : rt σ τ ts) {i : Nat} (hi : i ≤ ts.length) : off ts i ≤ 132000 := Nat.le_trans (off_le ts i _ hi (Nat.le_refl _)) h.2.2.1
theorem rt_b {σ : Nat → Int32} {τ : Nat → Nat → Int32} {ts : RT} (h : rt σ τ ts) {i k : Nat} (hi : i < ts.length) (hk : k < (bys ts i).length) : off ts i + k < 132000 ∧ τ 3 (nI (off ts i + k)).toNatClampNeg = nI ((bys ts i).getD k 0) := by
  have h1 := off_succ ts i hi
  have h2 := rt_o h (i := i + 1) hi
  refine ⟨by omega, ?_⟩
  rw [nI_clamp (by omega)]; exact (h.2.2.2.2 i hi).2.2.1 k hk
theorem rt_ok {σ : Nat → Int32} {τ : Nat → Nat → Int32} {ts : RT} (h : rt σ τ ts) {i : Nat} (hi : i < ts.length) : okb ts i := (h.2.2.2.2 i hi).2.2.2
/-- the draft holds a list of bytes -/
def drf (σ : Nat → Int32) (τ : Nat → Nat → Int32) (d : List Nat) : Prop := σ 10 = nI d.length ∧ d.length ≤ 260 ∧ (∀ k, k < d.length → τ 9 k = nI (d.getD k 0)) ∧ ∀ k, d.getD k 0 < 256
theorem drf_v {σ : Nat → Int32} {τ : Nat → Nat → Int32} {d : List Nat} (h : drf σ τ d) {k : Nat} (hk : k < d.length) : τ 9 (nI k).toNatClampNeg = nI (d.getD k 0) := by
  rw [nI_clamp (by have := h.2.1; omega)]; exact h.2.2.1 k hk
theorem getD_ext0 {l l' : List Nat} (h : l.length = l'.length) (hh : ∀ j, j < l.length → l.getD j 0 = l'.getD j 0) : l = l' := by
  refine List.ext_getElem h (fun j j1 j2 => ?_)
  have := hh j j1
  rw [List.getD_eq_getElem?_getD, List.getD_eq_getElem?_getD, List.getElem?_eq_getElem j1, List.getElem?_eq_getElem j2] at this
  exact this
