/-! The soundness of the evaluator: what ev_run answers, the machine does. -/
def ev_mchk (a : Nat) : Bool := decide (lw_tbl[(pg_p a).getD 1 0]? = some (.initialized (pg_y a).cls)) && (if pg_s a then decide (lw_tbl[(pg_p a).getD 2 0]? = some (.static (pg_y a))) else decide (lw_tbl[(pg_p a).getD 2 0]? = some (.instanceMethod (pg_y a)))) && decide ((pg_y a).cls ≠ "java/lang/invoke/MethodHandle") && decide ((pg_y a).cls ≠ "java/lang/invoke/VarHandle") && decide ((parseMethodDescriptor (pg_y a).desc).map (fun d => d.parameters.length) = some (pg_n a)) && plainName (pg_y a).cls && (pg_s a || decide ((pg_y a).name = "<init>") || (decide (lw_tbl[(pg_p a).getD 3 0]? = some (.selects (pg_y a).cls (pg_y a) (pg_y a))) && (if pg_c a = 90 then decide ((pg_y a).cls = "java/lang/String") else decide ((pg_cl[pg_c a]?).map (fun q => q.1) = some (pg_y a).cls))))
set_option maxRecDepth 100000 in
theorem pg_mall : (List.range 157).all (fun a => decide (a ∈ pg_sp) || ev_mchk a) = true := by decide +kernel
theorem pg_mok {a : Nat} (h1 : a < 157) (h2 : a ∉ pg_sp) : ev_mchk a = true := by
  have h := List.all_eq_true.mp pg_mall a (List.mem_range.mpr h1)
  simp only [Bool.or_eq_true, decide_eq_true_eq] at h
  exact h.resolve_left h2
theorem ev_fc {α : Type} {P : Nat → α → Prop} {k : Nat} {x : α} {l : List α} (h : P k x) (t : ∀ (j : Nat) (y : α), l[j]? = some y → P (k + 1 + j) y) : ∀ (j : Nat) (y : α), (x :: l)[j]? = some y → P (k + j) y := by
  intro j y hj
  cases j with
  | zero => cases hj; exact h
  | succ j =>
    have := t j y (by simpa using hj)
    rw [show k + (j + 1) = k + 1 + j by omega]
    exact this
def ev_kP (k : Nat) (y : List (Nat × ev_R)) : Prop := y.all (ev_chk k) = true
set_option maxRecDepth 100000 in
set_option maxHeartbeats 4000000 in
theorem pg_kall : ∀ (j : Nat) (y : List (Nat × ev_R)), pg_O[j]? = some y → ev_kP (0 + j) y := ev_fc (P := ev_kP) pg_k0 (ev_fc (P := ev_kP) pg_k1 (ev_fc (P := ev_kP) pg_k2 (ev_fc (P := ev_kP) pg_k3 (ev_fc (P := ev_kP) pg_k4 (ev_fc (P := ev_kP) pg_k5 (ev_fc (P := ev_kP) pg_k6 (ev_fc (P := ev_kP) pg_k7 (ev_fc (P := ev_kP) pg_k8 (ev_fc (P := ev_kP) pg_k9 (ev_fc (P := ev_kP) pg_k10 (ev_fc (P := ev_kP) pg_k11 (ev_fc (P := ev_kP) pg_k12 (ev_fc (P := ev_kP) pg_k13 (ev_fc (P := ev_kP) pg_k14 (ev_fc (P := ev_kP) pg_k15 (ev_fc (P := ev_kP) pg_k16 (ev_fc (P := ev_kP) pg_k17 (ev_fc (P := ev_kP) pg_k18 (ev_fc (P := ev_kP) pg_k19 (ev_fc (P := ev_kP) pg_k20 (ev_fc (P := ev_kP) pg_k21 (ev_fc (P := ev_kP) pg_k22 (ev_fc (P := ev_kP) pg_k23 (ev_fc (P := ev_kP) pg_k24 (ev_fc (P := ev_kP) pg_k25 (ev_fc (P := ev_kP) pg_k26 (ev_fc (P := ev_kP) pg_k27 (ev_fc (P := ev_kP) pg_k28 (ev_fc (P := ev_kP) pg_k29 (ev_fc (P := ev_kP) pg_k30 (ev_fc (P := ev_kP) pg_k31 (ev_fc (P := ev_kP) pg_k32 (ev_fc (P := ev_kP) pg_k33 (ev_fc (P := ev_kP) pg_k34 (ev_fc (P := ev_kP) pg_k35 (ev_fc (P := ev_kP) pg_k36 (ev_fc (P := ev_kP) pg_k37 (ev_fc (P := ev_kP) pg_k38 (ev_fc (P := ev_kP) pg_k39 (ev_fc (P := ev_kP) pg_k40 (ev_fc (P := ev_kP) pg_k41 (ev_fc (P := ev_kP) pg_k42 (ev_fc (P := ev_kP) pg_k43 (ev_fc (P := ev_kP) pg_k44 (ev_fc (P := ev_kP) pg_k45 (ev_fc (P := ev_kP) pg_k46 (ev_fc (P := ev_kP) pg_k47 (ev_fc (P := ev_kP) pg_k48 (ev_fc (P := ev_kP) pg_k49 (ev_fc (P := ev_kP) pg_k50 (ev_fc (P := ev_kP) pg_k51 (ev_fc (P := ev_kP) pg_k52 (ev_fc (P := ev_kP) pg_k53 (ev_fc (P := ev_kP) pg_k54 (ev_fc (P := ev_kP) pg_k55 (ev_fc (P := ev_kP) pg_k56 (ev_fc (P := ev_kP) pg_k57 (ev_fc (P := ev_kP) pg_k58 (ev_fc (P := ev_kP) pg_k59 (ev_fc (P := ev_kP) pg_k60 (ev_fc (P := ev_kP) pg_k61 (ev_fc (P := ev_kP) pg_k62 (ev_fc (P := ev_kP) pg_k63 (ev_fc (P := ev_kP) pg_k64 (ev_fc (P := ev_kP) pg_k65 (ev_fc (P := ev_kP) pg_k66 (ev_fc (P := ev_kP) pg_k67 (ev_fc (P := ev_kP) pg_k68 (ev_fc (P := ev_kP) pg_k69 (ev_fc (P := ev_kP) pg_k70 (ev_fc (P := ev_kP) pg_k71 (ev_fc (P := ev_kP) pg_k72 (ev_fc (P := ev_kP) pg_k73 (ev_fc (P := ev_kP) pg_k74 (ev_fc (P := ev_kP) pg_k75 (ev_fc (P := ev_kP) pg_k76 (ev_fc (P := ev_kP) pg_k77 (ev_fc (P := ev_kP) pg_k78 (ev_fc (P := ev_kP) pg_k79 (ev_fc (P := ev_kP) pg_k80 (ev_fc (P := ev_kP) pg_k81 (ev_fc (P := ev_kP) pg_k82 (ev_fc (P := ev_kP) pg_k83 (ev_fc (P := ev_kP) pg_k84 (ev_fc (P := ev_kP) pg_k85 (ev_fc (P := ev_kP) pg_k86 (ev_fc (P := ev_kP) pg_k87 (ev_fc (P := ev_kP) pg_k88 (ev_fc (P := ev_kP) pg_k89 (ev_fc (P := ev_kP) pg_k90 (ev_fc (P := ev_kP) pg_k91 (ev_fc (P := ev_kP) pg_k92 (ev_fc (P := ev_kP) pg_k93 (ev_fc (P := ev_kP) pg_k94 (ev_fc (P := ev_kP) pg_k95 (ev_fc (P := ev_kP) pg_k96 (ev_fc (P := ev_kP) pg_k97 (ev_fc (P := ev_kP) pg_k98 (ev_fc (P := ev_kP) pg_k99 (ev_fc (P := ev_kP) pg_k100 (ev_fc (P := ev_kP) pg_k101 (ev_fc (P := ev_kP) pg_k102 (ev_fc (P := ev_kP) pg_k103 (ev_fc (P := ev_kP) pg_k104 (ev_fc (P := ev_kP) pg_k105 (ev_fc (P := ev_kP) pg_k106 (ev_fc (P := ev_kP) pg_k107 (ev_fc (P := ev_kP) pg_k108 (ev_fc (P := ev_kP) pg_k109 (ev_fc (P := ev_kP) pg_k110 (ev_fc (P := ev_kP) pg_k111 (ev_fc (P := ev_kP) pg_k112 (ev_fc (P := ev_kP) pg_k113 (ev_fc (P := ev_kP) pg_k114 (ev_fc (P := ev_kP) pg_k115 (ev_fc (P := ev_kP) pg_k116 (ev_fc (P := ev_kP) pg_k117 (ev_fc (P := ev_kP) pg_k118 (ev_fc (P := ev_kP) pg_k119 (ev_fc (P := ev_kP) pg_k120 (ev_fc (P := ev_kP) pg_k121 (ev_fc (P := ev_kP) pg_k122 (ev_fc (P := ev_kP) pg_k123 (ev_fc (P := ev_kP) pg_k124 (ev_fc (P := ev_kP) pg_k125 (ev_fc (P := ev_kP) pg_k126 (ev_fc (P := ev_kP) pg_k127 (ev_fc (P := ev_kP) pg_k128 (ev_fc (P := ev_kP) pg_k129 (ev_fc (P := ev_kP) pg_k130 (ev_fc (P := ev_kP) pg_k131 (ev_fc (P := ev_kP) pg_k132 (ev_fc (P := ev_kP) pg_k133 (ev_fc (P := ev_kP) pg_k134 (ev_fc (P := ev_kP) pg_k135 (ev_fc (P := ev_kP) pg_k136 (ev_fc (P := ev_kP) pg_k137 (ev_fc (P := ev_kP) pg_k138 (ev_fc (P := ev_kP) pg_k139 (ev_fc (P := ev_kP) pg_k140 (ev_fc (P := ev_kP) pg_k141 (ev_fc (P := ev_kP) pg_k142 (ev_fc (P := ev_kP) pg_k143 (ev_fc (P := ev_kP) pg_k144 (ev_fc (P := ev_kP) pg_k145 (ev_fc (P := ev_kP) pg_k146 (ev_fc (P := ev_kP) pg_k147 (ev_fc (P := ev_kP) pg_k148 (ev_fc (P := ev_kP) pg_k149 (ev_fc (P := ev_kP) pg_k150 (ev_fc (P := ev_kP) pg_k151 (ev_fc (P := ev_kP) pg_k152 (ev_fc (P := ev_kP) pg_k153 (ev_fc (P := ev_kP) pg_k154 (ev_fc (P := ev_kP) pg_k155 (ev_fc (P := ev_kP) pg_k156 (ev_fc (P := ev_kP) pg_k157 (fun j y h => by simp at h))))))))))))))))))))))))))))))))))))))))))))))))))))))))))))))))))))))))))))))))))))))))))))))))))))))))))))))))))))))))))))))))))))))))))))))))))))))))))))))
theorem pg_ok {M pc : Nat} {q : ev_R} (h : pg_ops M pc = some q) : ev_chk M (pc, q) = true := by
  unfold pg_ops at h
  split at h
  · next x hx =>
    cases h
    have h1 := List.find?_some hx
    have h2 := List.mem_of_find?_eq_some hx
    have h3 : x.1 = pc := by simpa using h1
    have h4 : (pg_O.getD M []).all (ev_chk M) = true := by
      rw [List.getD_eq_getElem?_getD]
      cases hM : pg_O[M]? with
      | none => rfl
      | some y =>
        have := pg_kall M y hM
        rw [Nat.zero_add] at this
        exact this
    have h5 := List.all_eq_true.mp h4 x h2
    rw [← h3]
    exact h5
  · cases h
def pg_wsm (a : Nat) : List Cond := .code (pg_y a) (pg_b a) (pg_L a) (pg_r a) :: pg_ws
def pg_wP (k : Nat) (q : pg_MT) : Prop := k < 157 → Cond.code q.1 q.2.1 q.2.2.1 q.2.2.2.1 ∈ pg_ws
set_option maxRecDepth 100000 in
set_option maxHeartbeats 4000000 in
theorem pg_wall : ∀ (j : Nat) (q : pg_MT), pg_M[j]? = some q → pg_wP (0 + j) q := ev_fc (P := pg_wP) (fun _ => pg_ws_of pg_w0 rfl) (ev_fc (P := pg_wP) (fun _ => pg_ws_of pg_w1 rfl) (ev_fc (P := pg_wP) (fun _ => pg_ws_of pg_w2 rfl) (ev_fc (P := pg_wP) (fun _ => pg_ws_of pg_w3 rfl) (ev_fc (P := pg_wP) (fun _ => pg_ws_of pg_w4 rfl) (ev_fc (P := pg_wP) (fun _ => pg_ws_of pg_w5 rfl) (ev_fc (P := pg_wP) (fun _ => pg_ws_of pg_w6 rfl) (ev_fc (P := pg_wP) (fun _ => pg_ws_of pg_w7 rfl) (ev_fc (P := pg_wP) (fun _ => pg_ws_of pg_w8 rfl) (ev_fc (P := pg_wP) (fun _ => pg_ws_of pg_w9 rfl) (ev_fc (P := pg_wP) (fun _ => pg_ws_of pg_w10 rfl) (ev_fc (P := pg_wP) (fun _ => pg_ws_of pg_w11 rfl) (ev_fc (P := pg_wP) (fun _ => pg_ws_of pg_w12 rfl) (ev_fc (P := pg_wP) (fun _ => pg_ws_of pg_w13 rfl) (ev_fc (P := pg_wP) (fun _ => pg_ws_of pg_w14 rfl) (ev_fc (P := pg_wP) (fun _ => pg_ws_of pg_w15 rfl) (ev_fc (P := pg_wP) (fun _ => pg_ws_of pg_w16 rfl) (ev_fc (P := pg_wP) (fun _ => pg_ws_of pg_w17 rfl) (ev_fc (P := pg_wP) (fun _ => pg_ws_of pg_w18 rfl) (ev_fc (P := pg_wP) (fun _ => pg_ws_of pg_w19 rfl) (ev_fc (P := pg_wP) (fun _ => pg_ws_of pg_w20 rfl) (ev_fc (P := pg_wP) (fun _ => pg_ws_of pg_w21 rfl) (ev_fc (P := pg_wP) (fun _ => pg_ws_of pg_w22 rfl) (ev_fc (P := pg_wP) (fun _ => pg_ws_of pg_w23 rfl) (ev_fc (P := pg_wP) (fun _ => pg_ws_of pg_w24 rfl) (ev_fc (P := pg_wP) (fun _ => pg_ws_of pg_w25 rfl) (ev_fc (P := pg_wP) (fun _ => pg_ws_of pg_w26 rfl) (ev_fc (P := pg_wP) (fun _ => pg_ws_of pg_w27 rfl) (ev_fc (P := pg_wP) (fun _ => pg_ws_of pg_w28 rfl) (ev_fc (P := pg_wP) (fun _ => pg_ws_of pg_w29 rfl) (ev_fc (P := pg_wP) (fun _ => pg_ws_of pg_w30 rfl) (ev_fc (P := pg_wP) (fun _ => pg_ws_of pg_w31 rfl) (ev_fc (P := pg_wP) (fun _ => pg_ws_of pg_w32 rfl) (ev_fc (P := pg_wP) (fun _ => pg_ws_of pg_w33 rfl) (ev_fc (P := pg_wP) (fun _ => pg_ws_of pg_w34 rfl) (ev_fc (P := pg_wP) (fun _ => pg_ws_of pg_w35 rfl) (ev_fc (P := pg_wP) (fun _ => pg_ws_of pg_w36 rfl) (ev_fc (P := pg_wP) (fun _ => pg_ws_of pg_w37 rfl) (ev_fc (P := pg_wP) (fun _ => pg_ws_of pg_w38 rfl) (ev_fc (P := pg_wP) (fun _ => pg_ws_of pg_w39 rfl) (ev_fc (P := pg_wP) (fun _ => pg_ws_of pg_w40 rfl) (ev_fc (P := pg_wP) (fun _ => pg_ws_of pg_w41 rfl) (ev_fc (P := pg_wP) (fun _ => pg_ws_of pg_w42 rfl) (ev_fc (P := pg_wP) (fun _ => pg_ws_of pg_w43 rfl) (ev_fc (P := pg_wP) (fun _ => pg_ws_of pg_w44 rfl) (ev_fc (P := pg_wP) (fun _ => pg_ws_of pg_w45 rfl) (ev_fc (P := pg_wP) (fun _ => pg_ws_of pg_w46 rfl) (ev_fc (P := pg_wP) (fun _ => pg_ws_of pg_w47 rfl) (ev_fc (P := pg_wP) (fun _ => pg_ws_of pg_w48 rfl) (ev_fc (P := pg_wP) (fun _ => pg_ws_of pg_w49 rfl) (ev_fc (P := pg_wP) (fun _ => pg_ws_of pg_w50 rfl) (ev_fc (P := pg_wP) (fun _ => pg_ws_of pg_w51 rfl) (ev_fc (P := pg_wP) (fun _ => pg_ws_of pg_w52 rfl) (ev_fc (P := pg_wP) (fun _ => pg_ws_of pg_w53 rfl) (ev_fc (P := pg_wP) (fun _ => pg_ws_of pg_w54 rfl) (ev_fc (P := pg_wP) (fun _ => pg_ws_of pg_w55 rfl) (ev_fc (P := pg_wP) (fun _ => pg_ws_of pg_w56 rfl) (ev_fc (P := pg_wP) (fun _ => pg_ws_of pg_w57 rfl) (ev_fc (P := pg_wP) (fun _ => pg_ws_of pg_w58 rfl) (ev_fc (P := pg_wP) (fun _ => pg_ws_of pg_w59 rfl) (ev_fc (P := pg_wP) (fun _ => pg_ws_of pg_w60 rfl) (ev_fc (P := pg_wP) (fun _ => pg_ws_of pg_w61 rfl) (ev_fc (P := pg_wP) (fun _ => pg_ws_of pg_w62 rfl) (ev_fc (P := pg_wP) (fun _ => pg_ws_of pg_w63 rfl) (ev_fc (P := pg_wP) (fun _ => pg_ws_of pg_w64 rfl) (ev_fc (P := pg_wP) (fun _ => pg_ws_of pg_w65 rfl) (ev_fc (P := pg_wP) (fun _ => pg_ws_of pg_w66 rfl) (ev_fc (P := pg_wP) (fun _ => pg_ws_of pg_w67 rfl) (ev_fc (P := pg_wP) (fun _ => pg_ws_of pg_w68 rfl) (ev_fc (P := pg_wP) (fun _ => pg_ws_of pg_w69 rfl) (ev_fc (P := pg_wP) (fun _ => pg_ws_of pg_w70 rfl) (ev_fc (P := pg_wP) (fun _ => pg_ws_of pg_w71 rfl) (ev_fc (P := pg_wP) (fun _ => pg_ws_of pg_w72 rfl) (ev_fc (P := pg_wP) (fun _ => pg_ws_of pg_w73 rfl) (ev_fc (P := pg_wP) (fun _ => pg_ws_of pg_w74 rfl) (ev_fc (P := pg_wP) (fun _ => pg_ws_of pg_w75 rfl) (ev_fc (P := pg_wP) (fun _ => pg_ws_of pg_w76 rfl) (ev_fc (P := pg_wP) (fun _ => pg_ws_of pg_w77 rfl) (ev_fc (P := pg_wP) (fun _ => pg_ws_of pg_w78 rfl) (ev_fc (P := pg_wP) (fun _ => pg_ws_of pg_w79 rfl) (ev_fc (P := pg_wP) (fun _ => pg_ws_of pg_w80 rfl) (ev_fc (P := pg_wP) (fun _ => pg_ws_of pg_w81 rfl) (ev_fc (P := pg_wP) (fun _ => pg_ws_of pg_w82 rfl) (ev_fc (P := pg_wP) (fun _ => pg_ws_of pg_w83 rfl) (ev_fc (P := pg_wP) (fun _ => pg_ws_of pg_w84 rfl) (ev_fc (P := pg_wP) (fun _ => pg_ws_of pg_w85 rfl) (ev_fc (P := pg_wP) (fun _ => pg_ws_of pg_w86 rfl) (ev_fc (P := pg_wP) (fun _ => pg_ws_of pg_w87 rfl) (ev_fc (P := pg_wP) (fun _ => pg_ws_of pg_w88 rfl) (ev_fc (P := pg_wP) (fun _ => pg_ws_of pg_w89 rfl) (ev_fc (P := pg_wP) (fun _ => pg_ws_of pg_w90 rfl) (ev_fc (P := pg_wP) (fun _ => pg_ws_of pg_w91 rfl) (ev_fc (P := pg_wP) (fun _ => pg_ws_of pg_w92 rfl) (ev_fc (P := pg_wP) (fun _ => pg_ws_of pg_w93 rfl) (ev_fc (P := pg_wP) (fun _ => pg_ws_of pg_w94 rfl) (ev_fc (P := pg_wP) (fun _ => pg_ws_of pg_w95 rfl) (ev_fc (P := pg_wP) (fun _ => pg_ws_of pg_w96 rfl) (ev_fc (P := pg_wP) (fun _ => pg_ws_of pg_w97 rfl) (ev_fc (P := pg_wP) (fun _ => pg_ws_of pg_w98 rfl) (ev_fc (P := pg_wP) (fun _ => pg_ws_of pg_w99 rfl) (ev_fc (P := pg_wP) (fun _ => pg_ws_of pg_w100 rfl) (ev_fc (P := pg_wP) (fun _ => pg_ws_of pg_w101 rfl) (ev_fc (P := pg_wP) (fun _ => pg_ws_of pg_w102 rfl) (ev_fc (P := pg_wP) (fun _ => pg_ws_of pg_w103 rfl) (ev_fc (P := pg_wP) (fun _ => pg_ws_of pg_w104 rfl) (ev_fc (P := pg_wP) (fun _ => pg_ws_of pg_w105 rfl) (ev_fc (P := pg_wP) (fun _ => pg_ws_of pg_w106 rfl) (ev_fc (P := pg_wP) (fun _ => pg_ws_of pg_w107 rfl) (ev_fc (P := pg_wP) (fun _ => pg_ws_of pg_w108 rfl) (ev_fc (P := pg_wP) (fun _ => pg_ws_of pg_w109 rfl) (ev_fc (P := pg_wP) (fun _ => pg_ws_of pg_w110 rfl) (ev_fc (P := pg_wP) (fun _ => pg_ws_of pg_w111 rfl) (ev_fc (P := pg_wP) (fun _ => pg_ws_of pg_w112 rfl) (ev_fc (P := pg_wP) (fun _ => pg_ws_of pg_w113 rfl) (ev_fc (P := pg_wP) (fun _ => pg_ws_of pg_w114 rfl) (ev_fc (P := pg_wP) (fun _ => pg_ws_of pg_w115 rfl) (ev_fc (P := pg_wP) (fun _ => pg_ws_of pg_w116 rfl) (ev_fc (P := pg_wP) (fun _ => pg_ws_of pg_w117 rfl) (ev_fc (P := pg_wP) (fun _ => pg_ws_of pg_w118 rfl) (ev_fc (P := pg_wP) (fun _ => pg_ws_of pg_w119 rfl) (ev_fc (P := pg_wP) (fun _ => pg_ws_of pg_w120 rfl) (ev_fc (P := pg_wP) (fun _ => pg_ws_of pg_w121 rfl) (ev_fc (P := pg_wP) (fun _ => pg_ws_of pg_w122 rfl) (ev_fc (P := pg_wP) (fun _ => pg_ws_of pg_w123 rfl) (ev_fc (P := pg_wP) (fun _ => pg_ws_of pg_w124 rfl) (ev_fc (P := pg_wP) (fun _ => pg_ws_of pg_w125 rfl) (ev_fc (P := pg_wP) (fun _ => pg_ws_of pg_w126 rfl) (ev_fc (P := pg_wP) (fun _ => pg_ws_of pg_w127 rfl) (ev_fc (P := pg_wP) (fun _ => pg_ws_of pg_w128 rfl) (ev_fc (P := pg_wP) (fun _ => pg_ws_of pg_w129 rfl) (ev_fc (P := pg_wP) (fun _ => pg_ws_of pg_w130 rfl) (ev_fc (P := pg_wP) (fun _ => pg_ws_of pg_w131 rfl) (ev_fc (P := pg_wP) (fun _ => pg_ws_of pg_w132 rfl) (ev_fc (P := pg_wP) (fun _ => pg_ws_of pg_w133 rfl) (ev_fc (P := pg_wP) (fun _ => pg_ws_of pg_w134 rfl) (ev_fc (P := pg_wP) (fun _ => pg_ws_of pg_w135 rfl) (ev_fc (P := pg_wP) (fun _ => pg_ws_of pg_w136 rfl) (ev_fc (P := pg_wP) (fun _ => pg_ws_of pg_w137 rfl) (ev_fc (P := pg_wP) (fun _ => pg_ws_of pg_w138 rfl) (ev_fc (P := pg_wP) (fun _ => pg_ws_of pg_w139 rfl) (ev_fc (P := pg_wP) (fun _ => pg_ws_of pg_w140 rfl) (ev_fc (P := pg_wP) (fun _ => pg_ws_of pg_w141 rfl) (ev_fc (P := pg_wP) (fun _ => pg_ws_of pg_w142 rfl) (ev_fc (P := pg_wP) (fun _ => pg_ws_of pg_w143 rfl) (ev_fc (P := pg_wP) (fun _ => pg_ws_of pg_w144 rfl) (ev_fc (P := pg_wP) (fun _ => pg_ws_of pg_w145 rfl) (ev_fc (P := pg_wP) (fun _ => pg_ws_of pg_w146 rfl) (ev_fc (P := pg_wP) (fun _ => pg_ws_of pg_w147 rfl) (ev_fc (P := pg_wP) (fun _ => pg_ws_of pg_w148 rfl) (ev_fc (P := pg_wP) (fun _ => pg_ws_of pg_w149 rfl) (ev_fc (P := pg_wP) (fun _ => pg_ws_of pg_w150 rfl) (ev_fc (P := pg_wP) (fun _ => pg_ws_of pg_w151 rfl) (ev_fc (P := pg_wP) (fun _ => pg_ws_of pg_w152 rfl) (ev_fc (P := pg_wP) (fun _ => pg_ws_of pg_w153 rfl) (ev_fc (P := pg_wP) (fun _ => pg_ws_of pg_w154 rfl) (ev_fc (P := pg_wP) (fun _ => pg_ws_of pg_w155 rfl) (ev_fc (P := pg_wP) (fun _ => pg_ws_of pg_w156 rfl) (ev_fc (P := pg_wP) (fun h => absurd h (by decide)) (fun j y h => by simp at h))))))))))))))))))))))))))))))))))))))))))))))))))))))))))))))))))))))))))))))))))))))))))))))))))))))))))))))))))))))))))))))))))))))))))))))))))))))))))))))
theorem pg_good {a : Nat} (h : a < 157) : GoodIn pg_ws (pg_wsm a) := by
  intro w hw
  rcases List.mem_cons.mp hw with rfl | hw
  · refine ⟨?_, Or.inl rfl⟩
    have hl : a < pg_M.length := Nat.lt_of_lt_of_le h (by decide +kernel)
    have h1 := pg_wall a pg_M[a] (List.getElem?_eq_getElem hl) (by rw [Nat.zero_add]; exact h)
    have h2 : pg_m a = pg_M[a] := by unfold pg_m; rw [List.getD_eq_getElem?_getD, List.getElem?_eq_getElem hl]; rfl
    unfold pg_y pg_b pg_L pg_r
    rw [h2]
    exact h1
  · exact ⟨hw, good_of_word (List.mem_filter.mp hw).2⟩
-- heaps only grow
theorem ev_hp_mono {X : ev_X} {i : Instr} {a b : Nat} {st st' : List Value} {h h' : ev_H} (hh : ev_hp X i a b st h = some (st', h')) : h.1 ≤ h'.1 ∧ h.2.1 ≤ h'.2.1 := by
  cases i <;> simp only [ev_hp] at hh <;> first
    | cases hh; done
    | (simp only [ev_get] at hh; repeat' (split at hh)
       all_goals (first | cases hh; done | (cases hh; exact ⟨Nat.le_refl _, Nat.le_refl _⟩)))
    | (simp only [ev_put] at hh; repeat' (split at hh)
       all_goals (first | cases hh; done | (cases hh; exact ⟨Nat.le_refl _, Nat.le_refl _⟩)))
    | (simp only [ev_iald] at hh; repeat' (split at hh)
       all_goals (first | cases hh; done | (cases hh; exact ⟨Nat.le_refl _, Nat.le_refl _⟩)))
    | (simp only [ev_bald] at hh; repeat' (split at hh)
       all_goals (first | cases hh; done | (cases hh; exact ⟨Nat.le_refl _, Nat.le_refl _⟩)))
    | (simp only [ev_aald] at hh; repeat' (split at hh)
       all_goals (first | cases hh; done | (cases hh; exact ⟨Nat.le_refl _, Nat.le_refl _⟩)))
    | (simp only [ev_iast] at hh; repeat' (split at hh)
       all_goals (first | cases hh; done | (cases hh; exact ⟨Nat.le_refl _, Nat.le_refl _⟩)))
    | (simp only [ev_bast] at hh; repeat' (split at hh)
       all_goals (first | cases hh; done | (cases hh; exact ⟨Nat.le_refl _, Nat.le_refl _⟩)))
    | (simp only [ev_aast] at hh; repeat' (split at hh)
       all_goals (first | cases hh; done | (cases hh; exact ⟨Nat.le_refl _, Nat.le_refl _⟩)))
    | (simp only [ev_alen] at hh; repeat' (split at hh)
       all_goals (first | cases hh; done | (cases hh; exact ⟨Nat.le_refl _, Nat.le_refl _⟩)))
    | (simp only [ev_newa] at hh; repeat' (split at hh)
       all_goals (first | cases hh; done | (cases hh; exact ⟨Nat.le_succ _, Nat.le_add_right _ _⟩)))
    | (simp only [ev_anew] at hh; repeat' (split at hh)
       all_goals (first | cases hh; done | (cases hh; exact ⟨Nat.le_succ _, Nat.le_add_right _ _⟩)))
    | (simp only [ev_newo] at hh; repeat' (split at hh)
       all_goals (first | cases hh; done | (cases hh; exact ⟨Nat.le_succ _, Nat.le_add_right _ _⟩)))
    | (simp only [ev_math] at hh; repeat' (split at hh)
       all_goals (first | cases hh; done | (cases hh; exact ⟨Nat.le_refl _, Nat.le_refl _⟩)))
    | (simp only [ev_oini] at hh; repeat' (split at hh)
       all_goals (first | cases hh; done | (cases hh; exact ⟨Nat.le_refl _, Nat.le_refl _⟩)))
    | (cases hh; exact ⟨Nat.le_refl _, Nat.le_refl _⟩)
    | (split at hh
       all_goals (first | cases hh; done | (cases hh; exact ⟨Nat.le_refl _, Nat.le_refl _⟩)))
theorem ev_one_mono {X : ev_X} {i : Instr} {pc nx a b pc' : Nat} {A A' st st' : List Value} {h h' : ev_H} (hh : ev_one X i pc nx a b A st h = some (pc', A', st', h')) : h.1 ≤ h'.1 ∧ h.2.1 ≤ h'.2.1 := by
  unfold ev_one at hh
  split at hh
  · cases hh; exact ⟨Nat.le_refl _, Nat.le_refl _⟩
  · split at hh
    · cases hh; exact ⟨Nat.le_refl _, Nat.le_refl _⟩
    · split at hh
      · cases hh; exact ⟨Nat.le_refl _, Nat.le_refl _⟩
      · split at hh
        · next hp => cases hh; exact ev_hp_mono hp
        · cases hh
theorem ev_mono (X : ev_X) : ∀ (n M pc : Nat) (A st : List Value) (h : ev_H) (r : Option Value) (h' : ev_H), ev_run X n M pc A st h = some (r, h') → h.1 ≤ h'.1 ∧ h.2.1 ≤ h'.2.1 := by
  intro n
  induction n with
  | zero => intro M pc A st h r h' hr; cases hr
  | succ n ih =>
    intro M pc A st h r h' hr
    rw [ev_run] at hr
    split at hr
    · cases hr
    · split at hr
      · cases hr; exact ⟨Nat.le_refl _, Nat.le_refl _⟩
      · split at hr
        · split at hr
          · split at hr
            · next v h1 hc =>
              have e1 := ih _ _ _ _ _ _ _ hc
              have e2 := ih _ _ _ _ _ _ _ hr
              exact ⟨Nat.le_trans e1.1 e2.1, Nat.le_trans e1.2 e2.2⟩
            · cases hr
          · cases hr
        · split at hr
          · next ho =>
            have e1 := ev_one_mono ho
            have e2 := ih _ _ _ _ _ _ _ hr
            exact ⟨Nat.le_trans e1.1 e2.1, Nat.le_trans e1.2 e2.2⟩
          · cases hr
def ev_Q (D : va_G) (dA : Nat → ClassId) (H0 : Heap) (r : Option Value) (h' : ev_H) : Array Value → State → Outcome → State → Prop := fun _ _ o t => o = .returned r ∧ ev_HR D dA H0 h' t.heap
/-- how a walk of method M ends, when its answer is r and its heap h' -/
def ev_Fin (p : Program) (l : Launch) (e : Env) (R : Room) (s : State) (m : MethodId) (args : Array Value) (below : List Frame) (meth : Method) (c : Code) (Q : State → Prop) (D : va_G) (dA : Nat → ClassId) (H0 : Heap) (M : Nat) (r : Option Value) (h' : ev_H) : Prop :=
  ∀ (i : Instr) (pc : Nat) (st : List Value) (H : Heap) (locs : List Loc) (cells slots : Nat) (ls : Array Slot), decode (pg_b M) pc = .ok (i, 1) → ev_ret M i st = some r → ev_HR D dA H0 h' H → (∀ q ∈ locs, H0.size ≤ q.base) → cells ≤ R.cells → slots ≤ R.slots → W p l e R s m args below meth c H locs cells slots Q (F0 m pc ls st)
def ev_S0 (D : va_G) (dA : Nat → ClassId) (X : ev_X) (H0 : Heap) (n : Nat) : Prop :=
  ∀ (M pc : Nat) (A st : List Value) (h : ev_H) (r : Option Value) (h' : ev_H), ev_run X n M pc A st h = some (r, h') →
    ∀ (p : Program) (l : Launch) (e : Env) (R : Room) (s : State) (m : MethodId) (args : Array Value) (below : List Frame) (meth : Method) (c : Code) (Q : State → Prop), ev_Cx D dA X H0 p R s m args meth c M → ev_Fin p l e R s m args below meth c Q D dA H0 M r h' →
    ∀ (H : Heap) (locs : List Loc) (cells slots : Nat) (ls : Array Slot), ev_HR D dA H0 h H → ev_L ls (pg_L M) A → (∀ q ∈ locs, H0.size ≤ q.base) → cells + h'.1 ≤ R.cells + h.1 → slots + h'.2.1 ≤ R.slots + h.2.1 →
    W p l e R s m args below meth c H locs cells slots Q (F0 m pc ls st)
theorem ev_ret_len {M : Nat} {i : Instr} {st : List Value} {r : Option Value} (h : ev_ret M i st = some r) : ev_len i = 1 ∧ ev_sw i = false := by
  cases i <;> first | exact ⟨rfl, rfl⟩ | cases h
section EV5
variable {p : Program} {l : Launch} {e : Env} {R : Room} {s : State} {m : MethodId} {args : Array Value} {below : List Frame} {meth : Method} {c : Code} {H : Heap} {locs : List Loc} {cells slots : Nat} {Q : State → Prop}
variable {D : va_G} {dA : Nat → ClassId} {X : ev_X} {H0 : Heap} {M pc pc' nx a b w : Nat} {ls : Array Slot} {A A' st st' : List Value} {h h' : ev_H} {i : Instr}
theorem ev_met {n : Nat} {as A0 : List Value} {v : Option Value} {h1 : ev_H} (ih : ev_S0 D dA X H0 n) (hrun : ev_run X n a 0 A0 [] h = some (v, h1)) (hent : ev_ent (pg_L a) as = some A0) (hm : ev_mchk a = true) (l : Launch) :
    Met l (pg_y a) (pg_wsm a) { frames := pg_f a, cells := h1.1 - h.1, slots := h1.2.1 - h.2.1, locals := pg_w a } (va_Pc as (fun U => ev_HR D dA H0 h U.heap ∧ ev_K D dA X H0 U)) (ev_Q D dA H0 v h1) (h1.1 - h.1) (h1.2.1 - h.2.1) (ev_A H0) := by
  have hm' := hm
  unfold ev_mchk at hm'
  simp only [Bool.and_eq_true, decide_eq_true_eq] at hm'
  have hmono := ev_mono _ _ _ _ _ _ _ _ _ hrun
  refine Met.ofW (cc := pg_b a) (maxL := pg_L a) (ret := pg_r a) hm'.1.2 rfl ?_
  intro p e s m args below meth c s₁ B hml hv
  obtain ⟨rfl, hH, hK⟩ := hv
  have hts0 := atoms_spec (ws := pg_wsm a) B.pre
  rw [lg_entry_eq]
  refine ih a 0 A0 [] h v h1 hrun p l e _ s m _ below meth c _ ⟨B.exec, B.bytes, B.returns, hml, findClass_of_methodNamed B.named, fun w hw => hts0 w (List.mem_cons_of_mem _ hw), B.notSynchronized, fun hq => by rw [(name_of_methodNamed B.named B.method).1]; exact hq, hK, Nat.le_refl _, Nat.le_refl _⟩ ?_ s.heap [] 0 0 _ hH (ev_entry hent) (fun q hq => by cases hq) (by show 0 + h1.1 ≤ (h1.1 - h.1) + h.1; omega) (by show 0 + h1.2.1 ≤ (h1.2.1 - h.2.1) + h.2.1; omega)
  intro i pc st H locs cells slots ls hd hret hH1 hl hc hs
  have hlocks := B.notSynchronized
  refine W.widen (k := h1.1 - h.1) (n := h1.2.1 - h.2.1) hc hs ?_
  have hq : ∀ t : State, t.heap = H → s.WarmedH t.vm → ev_Q D dA H0 v h1 as.toArray s (.returned v) t := fun t ht _ => ⟨rfl, by rw [ht]; exact hH1⟩
  unfold ev_ret at hret
  split at hret
  · split at hret
    · split at hret
      · next ty hty =>
        split at hret
        · next hn => cases hret; exact W.zret B.exec B.bytes (B.returns.trans hty) hn hq hl hd
        · cases hret
      · cases hret
    · cases hret
  · split at hret
    · split at hret
      · next hty => cases hret; exact W.lret B.exec B.bytes (B.returns.trans hty) hq hl hd
      · cases hret
    · cases hret
  · split at hret
    · next cn hty =>
      split at hret
      · cases hret; exact W.aret B.exec B.bytes (B.returns.trans hty) (Or.inl ⟨_, rfl⟩) (Or.inr ⟨_, rfl⟩) hq hl hd
      · cases hret; exact W.aret B.exec B.bytes (B.returns.trans hty) (Or.inl ⟨_, rfl⟩) (Or.inl rfl) hq hl hd
      · cases hret
    · cases hret
  · split at hret
    · split at hret
      · next hty => cases hret; exact W.vret B.exec B.bytes (B.returns.trans hty) hq hl hd
      · cases hret
    · cases hret
  · cases hret
theorem ev_wcall {v : Option Value} {h1 : ev_H} {mc ms : Nat} {rest : List Value} {aa : Array Value} (hr : va_Run p l e R s m args below meth c H locs cells slots mc ms (F0 m pc ls st) rest (ev_Q D dA H0 v h1 aa) (ev_A H0)) (hl : ∀ q ∈ locs, H0.size ≤ q.base)
    (kk : ∀ (H1 : Heap) (locs1 : List Loc), ev_HR D dA H0 h1 H1 → (∀ q ∈ locs1, H0.size ≤ q.base) → W p l e R s m args below meth c H1 locs1 (cells + mc) (slots + ms) Q (F0 m (pc + 3) ls (v.toList ++ rest))) : W p l e R s m args below meth c H locs cells slots Q (F0 m pc ls st) := by
  intro T hT X
  obtain ⟨v', st₀, t, T', L, h0, X', hL, e1, e2, ⟨hv, hq⟩, st⟩ := hr T hT X
  cases hv
  obtain ⟨t2, a1, b1⟩ := kk T'.heap (locs ++ L) (by rw [e1]; exact hq) (fun q hq => (List.mem_append.mp hq).elim (hl q) (hL q)) T' rfl X'
  exact ⟨t2, st t2 a1, b1⟩
end EV5
