/-! Static methods: bytes. (rows laid by wip/whole/rx1.py) -/
set_option maxRecDepth 100000 in
set_option maxHeartbeats 1000000 in
theorem sx_Reader_isDigit (X : ev_X) (b : Int32) : Sx X m_Reader_isDigit 0 [.int b] [] (fun r => r = some (.int (bi (isD b)))) := by
  refine Sx.go (fun _ => rfl) ?_
  refine Sx.go (fun _ => rfl) ?_
  refine Sx.go (fun _ => rfl) ?_
  refine Sx.ite (fun c1 => ?_) (fun c1 => ?_)
  · replace c1 : b < 48 := of_decide_eq_true c1
    show Sx X m_Reader_isDigit 16 [.int b] [] _
    refine Sx.go (fun _ => rfl) ?_
    exact Sx.ret rfl rfl (ret_0 (by simp [isD, Int32.not_le, Int32.not_lt, c1]))
  · replace c1 : ¬ b < 48 := of_decide_eq_false c1
    show Sx X m_Reader_isDigit 6 [.int b] [] _
    refine Sx.go (fun _ => rfl) ?_
    refine Sx.go (fun _ => rfl) ?_
    refine Sx.go (fun _ => rfl) ?_
    refine Sx.ite (fun c2 => ?_) (fun c2 => ?_)
    · replace c2 : 57 < b := of_decide_eq_true c2
      show Sx X m_Reader_isDigit 16 [.int b] [] _
      refine Sx.go (fun _ => rfl) ?_
      simp only [Int32.not_le, Int32.not_lt] at c1; exact Sx.ret rfl rfl (ret_0 (by simp [isD, Int32.not_le, Int32.not_lt, c1, c2]))
    · replace c2 : ¬ 57 < b := of_decide_eq_false c2
      show Sx X m_Reader_isDigit 12 [.int b] [] _
      refine Sx.go (fun _ => rfl) ?_
      refine Sx.go (fun _ => rfl) ?_
      simp only [Int32.not_le, Int32.not_lt] at c1; simp only [Int32.not_le, Int32.not_lt] at c2; exact Sx.ret rfl rfl (ret_1 (by simp [isD, Int32.not_le, Int32.not_lt, c1, c2]))
set_option maxRecDepth 100000 in
set_option maxHeartbeats 1000000 in
theorem sx_Reader_isLetter (X : ev_X) (b : Int32) : Sx X m_Reader_isLetter 0 [.int b] [] (fun r => r = some (.int (bi (isL b)))) := by
  refine Sx.go (fun _ => rfl) ?_
  refine Sx.go (fun _ => rfl) ?_
  refine Sx.go (fun _ => rfl) ?_
  refine Sx.ite (fun c1 => ?_) (fun c1 => ?_)
  · replace c1 : b < 97 := of_decide_eq_true c1
    show Sx X m_Reader_isLetter 12 [.int b] [] _
    refine Sx.go (fun _ => rfl) ?_
    refine Sx.go (fun _ => rfl) ?_
    refine Sx.go (fun _ => rfl) ?_
    refine Sx.ite (fun c2 => ?_) (fun c2 => ?_)
    · replace c2 : b < 65 := of_decide_eq_true c2
      show Sx X m_Reader_isLetter 28 [.int b] [] _
      refine Sx.go (fun _ => rfl) ?_
      exact Sx.ret rfl rfl (ret_0 (by simp [isL, Int32.not_le, Int32.not_lt, c1, c2]))
    · replace c2 : ¬ b < 65 := of_decide_eq_false c2
      show Sx X m_Reader_isLetter 18 [.int b] [] _
      refine Sx.go (fun _ => rfl) ?_
      refine Sx.go (fun _ => rfl) ?_
      refine Sx.go (fun _ => rfl) ?_
      refine Sx.ite (fun c3 => ?_) (fun c3 => ?_)
      · replace c3 : 90 < b := of_decide_eq_true c3
        show Sx X m_Reader_isLetter 28 [.int b] [] _
        refine Sx.go (fun _ => rfl) ?_
        simp only [Int32.not_le, Int32.not_lt] at c2; exact Sx.ret rfl rfl (ret_0 (by simp [isL, Int32.not_le, Int32.not_lt, c1, c2, c3]))
      · replace c3 : ¬ 90 < b := of_decide_eq_false c3
        show Sx X m_Reader_isLetter 24 [.int b] [] _
        refine Sx.go (fun _ => rfl) ?_
        refine Sx.go (fun _ => rfl) ?_
        simp only [Int32.not_le, Int32.not_lt] at c2; simp only [Int32.not_le, Int32.not_lt] at c3; exact Sx.ret rfl rfl (ret_1 (by simp [isL, Int32.not_le, Int32.not_lt, c1, c2, c3]))
  · replace c1 : ¬ b < 97 := of_decide_eq_false c1
    show Sx X m_Reader_isLetter 6 [.int b] [] _
    refine Sx.go (fun _ => rfl) ?_
    refine Sx.go (fun _ => rfl) ?_
    refine Sx.go (fun _ => rfl) ?_
    refine Sx.ite (fun c4 => ?_) (fun c4 => ?_)
    · replace c4 : b ≤ 122 := of_decide_eq_true c4
      show Sx X m_Reader_isLetter 24 [.int b] [] _
      refine Sx.go (fun _ => rfl) ?_
      refine Sx.go (fun _ => rfl) ?_
      simp only [Int32.not_le, Int32.not_lt] at c1; exact Sx.ret rfl rfl (ret_1 (by simp [isL, Int32.not_le, Int32.not_lt, c1, c4]))
    · replace c4 : ¬ b ≤ 122 := of_decide_eq_false c4
      show Sx X m_Reader_isLetter 12 [.int b] [] _
      refine Sx.go (fun _ => rfl) ?_
      refine Sx.go (fun _ => rfl) ?_
      refine Sx.go (fun _ => rfl) ?_
      refine Sx.ite (fun c5 => ?_) (fun c5 => ?_)
      · replace c5 : b < 65 := of_decide_eq_true c5
        show Sx X m_Reader_isLetter 28 [.int b] [] _
        refine Sx.go (fun _ => rfl) ?_
        simp only [Int32.not_le, Int32.not_lt] at c1; simp only [Int32.not_le, Int32.not_lt] at c4; exact Sx.ret rfl rfl (ret_0 (by simp [isL, Int32.not_le, Int32.not_lt, c1, c4, c5]))
      · replace c5 : ¬ b < 65 := of_decide_eq_false c5
        show Sx X m_Reader_isLetter 18 [.int b] [] _
        refine Sx.go (fun _ => rfl) ?_
        refine Sx.go (fun _ => rfl) ?_
        refine Sx.go (fun _ => rfl) ?_
        refine Sx.ite (fun c6 => ?_) (fun c6 => ?_)
        · replace c6 : 90 < b := of_decide_eq_true c6
          show Sx X m_Reader_isLetter 28 [.int b] [] _
          refine Sx.go (fun _ => rfl) ?_
          simp only [Int32.not_le, Int32.not_lt] at c1; simp only [Int32.not_le, Int32.not_lt] at c4; simp only [Int32.not_le, Int32.not_lt] at c5; exact Sx.ret rfl rfl (ret_0 (by simp [isL, Int32.not_le, Int32.not_lt, c1, c4, c5, c6]))
        · replace c6 : ¬ 90 < b := of_decide_eq_false c6
          show Sx X m_Reader_isLetter 24 [.int b] [] _
          refine Sx.go (fun _ => rfl) ?_
          refine Sx.go (fun _ => rfl) ?_
          simp only [Int32.not_le, Int32.not_lt] at c1; simp only [Int32.not_le, Int32.not_lt] at c4; simp only [Int32.not_le, Int32.not_lt] at c5; simp only [Int32.not_le, Int32.not_lt] at c6; exact Sx.ret rfl rfl (ret_1 (by simp [isL, Int32.not_le, Int32.not_lt, c1, c4, c5, c6]))
set_option maxRecDepth 100000 in
set_option maxHeartbeats 1000000 in
theorem sx_Reader_isW (X : ev_X) (b : Int32) : Sx X m_Reader_isWordByte 0 [.int b] [] (fun r => r = some (.int (bi (isW b)))) := by
  refine Sx.go (fun _ => rfl) ?_
  refine Sx.scall rfl rfl rfl rfl (sx_Reader_isLetter X b) ?_
  rintro _ rfl
  show Sx X m_Reader_isWordByte 4 [.int b] [.int (bi (isL b))] _
  refine Sx.go (fun _ => rfl) ?_
  refine Sx.ite (fun c1 => ?_) (fun c1 => ?_)
  · replace c1 : isL b = true := bi_net c1
    show Sx X m_Reader_isWordByte 20 [.int b] [] _
    refine Sx.go (fun _ => rfl) ?_
    refine Sx.go (fun _ => rfl) ?_
    exact Sx.ret rfl rfl (ret_1 (by simp [isW, Int32.not_le, Int32.not_lt, c1]))
  · replace c1 : isL b = false := bi_nef c1
    show Sx X m_Reader_isWordByte 7 [.int b] [] _
    refine Sx.go (fun _ => rfl) ?_
    refine Sx.scall rfl rfl rfl rfl (sx_Reader_isDigit X b) ?_
    rintro _ rfl
    show Sx X m_Reader_isWordByte 11 [.int b] [.int (bi (isD b))] _
    refine Sx.go (fun _ => rfl) ?_
    refine Sx.ite (fun c2 => ?_) (fun c2 => ?_)
    · replace c2 : isD b = true := bi_net c2
      show Sx X m_Reader_isWordByte 20 [.int b] [] _
      refine Sx.go (fun _ => rfl) ?_
      refine Sx.go (fun _ => rfl) ?_
      exact Sx.ret rfl rfl (ret_1 (by simp [isW, Int32.not_le, Int32.not_lt, c1, c2]))
    · replace c2 : isD b = false := bi_nef c2
      show Sx X m_Reader_isWordByte 14 [.int b] [] _
      refine Sx.go (fun _ => rfl) ?_
      refine Sx.go (fun _ => rfl) ?_
      refine Sx.go (fun _ => rfl) ?_
      refine Sx.ite (fun c3 => ?_) (fun c3 => ?_)
      · replace c3 : ¬ b = 95 := of_decide_eq_true c3
        show Sx X m_Reader_isWordByte 24 [.int b] [] _
        refine Sx.go (fun _ => rfl) ?_
        exact Sx.ret rfl rfl (ret_0 (by simp [isW, Int32.not_le, Int32.not_lt, c1, c2, c3]))
      · replace c3 : b = 95 := Classical.not_not.mp (of_decide_eq_false c3)
        show Sx X m_Reader_isWordByte 20 [.int b] [] _
        refine Sx.go (fun _ => rfl) ?_
        refine Sx.go (fun _ => rfl) ?_
        exact Sx.ret rfl rfl (ret_1 (by simp [isW, Int32.not_le, Int32.not_lt, c1, c2, c3]))
set_option maxRecDepth 100000 in
set_option maxHeartbeats 1000000 in
theorem sx_Mod_isDigit (X : ev_X) (b : Int32) : Sx X m_Mod_isDigit 0 [.int b] [] (fun r => r = some (.int (bi (isD b)))) := by
  refine Sx.go (fun _ => rfl) ?_
  refine Sx.go (fun _ => rfl) ?_
  refine Sx.go (fun _ => rfl) ?_
  refine Sx.ite (fun c1 => ?_) (fun c1 => ?_)
  · replace c1 : b < 48 := of_decide_eq_true c1
    show Sx X m_Mod_isDigit 16 [.int b] [] _
    refine Sx.go (fun _ => rfl) ?_
    exact Sx.ret rfl rfl (ret_0 (by simp [isD, Int32.not_le, Int32.not_lt, c1]))
  · replace c1 : ¬ b < 48 := of_decide_eq_false c1
    show Sx X m_Mod_isDigit 6 [.int b] [] _
    refine Sx.go (fun _ => rfl) ?_
    refine Sx.go (fun _ => rfl) ?_
    refine Sx.go (fun _ => rfl) ?_
    refine Sx.ite (fun c2 => ?_) (fun c2 => ?_)
    · replace c2 : 57 < b := of_decide_eq_true c2
      show Sx X m_Mod_isDigit 16 [.int b] [] _
      refine Sx.go (fun _ => rfl) ?_
      simp only [Int32.not_le, Int32.not_lt] at c1; exact Sx.ret rfl rfl (ret_0 (by simp [isD, Int32.not_le, Int32.not_lt, c1, c2]))
    · replace c2 : ¬ 57 < b := of_decide_eq_false c2
      show Sx X m_Mod_isDigit 12 [.int b] [] _
      refine Sx.go (fun _ => rfl) ?_
      refine Sx.go (fun _ => rfl) ?_
      simp only [Int32.not_le, Int32.not_lt] at c1; simp only [Int32.not_le, Int32.not_lt] at c2; exact Sx.ret rfl rfl (ret_1 (by simp [isD, Int32.not_le, Int32.not_lt, c1, c2]))
set_option maxRecDepth 100000 in
set_option maxHeartbeats 1000000 in
theorem sx_Mod_isLetter (X : ev_X) (b : Int32) : Sx X m_Mod_isLetter 0 [.int b] [] (fun r => r = some (.int (bi (isL b)))) := by
  refine Sx.go (fun _ => rfl) ?_
  refine Sx.go (fun _ => rfl) ?_
  refine Sx.go (fun _ => rfl) ?_
  refine Sx.ite (fun c1 => ?_) (fun c1 => ?_)
  · replace c1 : b < 97 := of_decide_eq_true c1
    show Sx X m_Mod_isLetter 12 [.int b] [] _
    refine Sx.go (fun _ => rfl) ?_
    refine Sx.go (fun _ => rfl) ?_
    refine Sx.go (fun _ => rfl) ?_
    refine Sx.ite (fun c2 => ?_) (fun c2 => ?_)
    · replace c2 : b < 65 := of_decide_eq_true c2
      show Sx X m_Mod_isLetter 28 [.int b] [] _
      refine Sx.go (fun _ => rfl) ?_
      exact Sx.ret rfl rfl (ret_0 (by simp [isL, Int32.not_le, Int32.not_lt, c1, c2]))
    · replace c2 : ¬ b < 65 := of_decide_eq_false c2
      show Sx X m_Mod_isLetter 18 [.int b] [] _
      refine Sx.go (fun _ => rfl) ?_
      refine Sx.go (fun _ => rfl) ?_
      refine Sx.go (fun _ => rfl) ?_
      refine Sx.ite (fun c3 => ?_) (fun c3 => ?_)
      · replace c3 : 90 < b := of_decide_eq_true c3
        show Sx X m_Mod_isLetter 28 [.int b] [] _
        refine Sx.go (fun _ => rfl) ?_
        simp only [Int32.not_le, Int32.not_lt] at c2; exact Sx.ret rfl rfl (ret_0 (by simp [isL, Int32.not_le, Int32.not_lt, c1, c2, c3]))
      · replace c3 : ¬ 90 < b := of_decide_eq_false c3
        show Sx X m_Mod_isLetter 24 [.int b] [] _
        refine Sx.go (fun _ => rfl) ?_
        refine Sx.go (fun _ => rfl) ?_
        simp only [Int32.not_le, Int32.not_lt] at c2; simp only [Int32.not_le, Int32.not_lt] at c3; exact Sx.ret rfl rfl (ret_1 (by simp [isL, Int32.not_le, Int32.not_lt, c1, c2, c3]))
  · replace c1 : ¬ b < 97 := of_decide_eq_false c1
    show Sx X m_Mod_isLetter 6 [.int b] [] _
    refine Sx.go (fun _ => rfl) ?_
    refine Sx.go (fun _ => rfl) ?_
    refine Sx.go (fun _ => rfl) ?_
    refine Sx.ite (fun c4 => ?_) (fun c4 => ?_)
    · replace c4 : b ≤ 122 := of_decide_eq_true c4
      show Sx X m_Mod_isLetter 24 [.int b] [] _
      refine Sx.go (fun _ => rfl) ?_
      refine Sx.go (fun _ => rfl) ?_
      simp only [Int32.not_le, Int32.not_lt] at c1; exact Sx.ret rfl rfl (ret_1 (by simp [isL, Int32.not_le, Int32.not_lt, c1, c4]))
    · replace c4 : ¬ b ≤ 122 := of_decide_eq_false c4
      show Sx X m_Mod_isLetter 12 [.int b] [] _
      refine Sx.go (fun _ => rfl) ?_
      refine Sx.go (fun _ => rfl) ?_
      refine Sx.go (fun _ => rfl) ?_
      refine Sx.ite (fun c5 => ?_) (fun c5 => ?_)
      · replace c5 : b < 65 := of_decide_eq_true c5
        show Sx X m_Mod_isLetter 28 [.int b] [] _
        refine Sx.go (fun _ => rfl) ?_
        simp only [Int32.not_le, Int32.not_lt] at c1; simp only [Int32.not_le, Int32.not_lt] at c4; exact Sx.ret rfl rfl (ret_0 (by simp [isL, Int32.not_le, Int32.not_lt, c1, c4, c5]))
      · replace c5 : ¬ b < 65 := of_decide_eq_false c5
        show Sx X m_Mod_isLetter 18 [.int b] [] _
        refine Sx.go (fun _ => rfl) ?_
        refine Sx.go (fun _ => rfl) ?_
        refine Sx.go (fun _ => rfl) ?_
        refine Sx.ite (fun c6 => ?_) (fun c6 => ?_)
        · replace c6 : 90 < b := of_decide_eq_true c6
          show Sx X m_Mod_isLetter 28 [.int b] [] _
          refine Sx.go (fun _ => rfl) ?_
          simp only [Int32.not_le, Int32.not_lt] at c1; simp only [Int32.not_le, Int32.not_lt] at c4; simp only [Int32.not_le, Int32.not_lt] at c5; exact Sx.ret rfl rfl (ret_0 (by simp [isL, Int32.not_le, Int32.not_lt, c1, c4, c5, c6]))
        · replace c6 : ¬ 90 < b := of_decide_eq_false c6
          show Sx X m_Mod_isLetter 24 [.int b] [] _
          refine Sx.go (fun _ => rfl) ?_
          refine Sx.go (fun _ => rfl) ?_
          simp only [Int32.not_le, Int32.not_lt] at c1; simp only [Int32.not_le, Int32.not_lt] at c4; simp only [Int32.not_le, Int32.not_lt] at c5; simp only [Int32.not_le, Int32.not_lt] at c6; exact Sx.ret rfl rfl (ret_1 (by simp [isL, Int32.not_le, Int32.not_lt, c1, c4, c5, c6]))
set_option maxRecDepth 100000 in
set_option maxHeartbeats 1000000 in
theorem sx_Mod_isW (X : ev_X) (b : Int32) : Sx X m_Mod_isWord 0 [.int b] [] (fun r => r = some (.int (bi (isW b)))) := by
  refine Sx.go (fun _ => rfl) ?_
  refine Sx.scall rfl rfl rfl rfl (sx_Mod_isLetter X b) ?_
  rintro _ rfl
  show Sx X m_Mod_isWord 4 [.int b] [.int (bi (isL b))] _
  refine Sx.go (fun _ => rfl) ?_
  refine Sx.ite (fun c1 => ?_) (fun c1 => ?_)
  · replace c1 : isL b = true := bi_net c1
    show Sx X m_Mod_isWord 20 [.int b] [] _
    refine Sx.go (fun _ => rfl) ?_
    refine Sx.go (fun _ => rfl) ?_
    exact Sx.ret rfl rfl (ret_1 (by simp [isW, Int32.not_le, Int32.not_lt, c1]))
  · replace c1 : isL b = false := bi_nef c1
    show Sx X m_Mod_isWord 7 [.int b] [] _
    refine Sx.go (fun _ => rfl) ?_
    refine Sx.scall rfl rfl rfl rfl (sx_Mod_isDigit X b) ?_
    rintro _ rfl
    show Sx X m_Mod_isWord 11 [.int b] [.int (bi (isD b))] _
    refine Sx.go (fun _ => rfl) ?_
    refine Sx.ite (fun c2 => ?_) (fun c2 => ?_)
    · replace c2 : isD b = true := bi_net c2
      show Sx X m_Mod_isWord 20 [.int b] [] _
      refine Sx.go (fun _ => rfl) ?_
      refine Sx.go (fun _ => rfl) ?_
      exact Sx.ret rfl rfl (ret_1 (by simp [isW, Int32.not_le, Int32.not_lt, c1, c2]))
    · replace c2 : isD b = false := bi_nef c2
      show Sx X m_Mod_isWord 14 [.int b] [] _
      refine Sx.go (fun _ => rfl) ?_
      refine Sx.go (fun _ => rfl) ?_
      refine Sx.go (fun _ => rfl) ?_
      refine Sx.ite (fun c3 => ?_) (fun c3 => ?_)
      · replace c3 : ¬ b = 95 := of_decide_eq_true c3
        show Sx X m_Mod_isWord 24 [.int b] [] _
        refine Sx.go (fun _ => rfl) ?_
        exact Sx.ret rfl rfl (ret_0 (by simp [isW, Int32.not_le, Int32.not_lt, c1, c2, c3]))
      · replace c3 : b = 95 := Classical.not_not.mp (of_decide_eq_false c3)
        show Sx X m_Mod_isWord 20 [.int b] [] _
        refine Sx.go (fun _ => rfl) ?_
        refine Sx.go (fun _ => rfl) ?_
        exact Sx.ret rfl rfl (ret_1 (by simp [isW, Int32.not_le, Int32.not_lt, c1, c2, c3]))
set_option maxRecDepth 100000 in
set_option maxHeartbeats 1000000 in
theorem sx_Mod_isLiteral (X : ev_X) (b : Int32) : Sx X m_Mod_isLiteral 0 [.int b] [] (fun r => r = some (.int (bi (decide (2 < b))))) := by
  refine Sx.go (fun _ => rfl) ?_
  refine Sx.go (fun _ => rfl) ?_
  refine Sx.go (fun _ => rfl) ?_
  refine Sx.ite (fun c1 => ?_) (fun c1 => ?_)
  · replace c1 : b ≤ 2 := of_decide_eq_true c1
    show Sx X m_Mod_isLiteral 9 [.int b] [] _
    refine Sx.go (fun _ => rfl) ?_
    exact Sx.ret rfl rfl (ret_0 (by simp [Int32.not_le, Int32.not_lt, c1]))
  · replace c1 : ¬ b ≤ 2 := of_decide_eq_false c1
    show Sx X m_Mod_isLiteral 5 [.int b] [] _
    refine Sx.go (fun _ => rfl) ?_
    refine Sx.go (fun _ => rfl) ?_
    simp only [Int32.not_le, Int32.not_lt] at c1; exact Sx.ret rfl rfl (ret_1 (by simp [Int32.not_le, Int32.not_lt, c1]))
set_option maxRecDepth 100000 in
set_option maxHeartbeats 1000000 in
theorem sx_Reader_isSign (X : ev_X) (b : Int32) : Sx X m_Reader_isSign 0 [.int b] [] (fun r => r = some (.int (bi (decide (b = 43) || decide (b = 45))))) := by
  refine Sx.go (fun _ => rfl) ?_
  refine Sx.go (fun _ => rfl) ?_
  refine Sx.go (fun _ => rfl) ?_
  refine Sx.ite (fun c1 => ?_) (fun c1 => ?_)
  · replace c1 : b = 43 := of_decide_eq_true c1
    show Sx X m_Reader_isSign 12 [.int b] [] _
    refine Sx.go (fun _ => rfl) ?_
    refine Sx.go (fun _ => rfl) ?_
    exact Sx.ret rfl rfl (ret_1 (by simp [Int32.not_le, Int32.not_lt, c1]))
  · replace c1 : ¬ b = 43 := of_decide_eq_false c1
    show Sx X m_Reader_isSign 6 [.int b] [] _
    refine Sx.go (fun _ => rfl) ?_
    refine Sx.go (fun _ => rfl) ?_
    refine Sx.go (fun _ => rfl) ?_
    refine Sx.ite (fun c2 => ?_) (fun c2 => ?_)
    · replace c2 : ¬ b = 45 := of_decide_eq_true c2
      show Sx X m_Reader_isSign 16 [.int b] [] _
      refine Sx.go (fun _ => rfl) ?_
      exact Sx.ret rfl rfl (ret_0 (by simp [Int32.not_le, Int32.not_lt, c1, c2]))
    · replace c2 : b = 45 := Classical.not_not.mp (of_decide_eq_false c2)
      show Sx X m_Reader_isSign 12 [.int b] [] _
      refine Sx.go (fun _ => rfl) ?_
      refine Sx.go (fun _ => rfl) ?_
      exact Sx.ret rfl rfl (ret_1 (by simp [Int32.not_le, Int32.not_lt, c1, c2]))
def sgn (b : Int32) : Int32 := if 0 ≤ b then (if b ≤ 0 then 0 else 1) else -1
set_option maxRecDepth 100000 in
set_option maxHeartbeats 1000000 in
theorem sx_Mod_sign (X : ev_X) (b : Int32) : Sx X m_Mod_sign 0 [.int b] [] (fun r => r = some (.int (sgn b))) := by
  refine Sx.go (fun _ => rfl) ?_
  refine Sx.go (fun _ => rfl) ?_
  refine Sx.ite (fun c1 => ?_) (fun c1 => ?_)
  · replace c1 : 0 ≤ b := of_decide_eq_true c1
    show Sx X m_Mod_sign 8 [.int b] [] _
    refine Sx.go (fun _ => rfl) ?_
    refine Sx.go (fun _ => rfl) ?_
    refine Sx.ite (fun c2 => ?_) (fun c2 => ?_)
    · replace c2 : b ≤ 0 := of_decide_eq_true c2
      show Sx X m_Mod_sign 16 [.int b] [] _
      refine Sx.go (fun _ => rfl) ?_
      exact Sx.ret rfl (ev_reti rfl) (by simp [sgn, c1, c2])
    · replace c2 : ¬ b ≤ 0 := of_decide_eq_false c2
      show Sx X m_Mod_sign 12 [.int b] [] _
      refine Sx.go (fun _ => rfl) ?_
      refine Sx.go (fun _ => rfl) ?_
      exact Sx.ret rfl (ev_reti rfl) (by simp [sgn, c1, c2])
  · replace c1 : ¬ 0 ≤ b := of_decide_eq_false c1
    show Sx X m_Mod_sign 4 [.int b] [] _
    refine Sx.go (fun _ => rfl) ?_
    refine Sx.go (fun _ => rfl) ?_
    exact Sx.ret rfl (ev_reti rfl) (by simp [sgn, c1])
def sml (b : Int32) : Int32 := if b < 65 then b else if 90 < b then b else b + 32
set_option maxRecDepth 100000 in
set_option maxHeartbeats 1000000 in
theorem sx_Reader_small (X : ev_X) (b : Int32) : Sx X m_Reader_small 0 [.int b] [] (fun r => r = some (.int (sml b))) := by
  refine Sx.go (fun _ => rfl) ?_
  refine Sx.go (fun _ => rfl) ?_
  refine Sx.go (fun _ => rfl) ?_
  refine Sx.ite (fun c1 => ?_) (fun c1 => ?_)
  · replace c1 : b < 65 := of_decide_eq_true c1
    show Sx X m_Reader_small 19 [.int b] [] _
    refine Sx.go (fun _ => rfl) ?_
    exact Sx.ret rfl (ev_reti rfl) (by simp [sml, c1])
  · replace c1 : ¬ b < 65 := of_decide_eq_false c1
    show Sx X m_Reader_small 6 [.int b] [] _
    refine Sx.go (fun _ => rfl) ?_
    refine Sx.go (fun _ => rfl) ?_
    refine Sx.go (fun _ => rfl) ?_
    refine Sx.ite (fun c2 => ?_) (fun c2 => ?_)
    · replace c2 : 90 < b := of_decide_eq_true c2
      show Sx X m_Reader_small 19 [.int b] [] _
      refine Sx.go (fun _ => rfl) ?_
      exact Sx.ret rfl (ev_reti rfl) (by simp [sml, c1, c2])
    · replace c2 : ¬ 90 < b := of_decide_eq_false c2
      show Sx X m_Reader_small 12 [.int b] [] _
      refine Sx.go (fun _ => rfl) ?_
      refine Sx.go (fun _ => rfl) ?_
      refine Sx.go (fun _ => rfl) ?_
      refine Sx.go (fun _ => rfl) ?_
      exact Sx.ret rfl (ev_reti rfl) (by simp [sml, c1, c2])
