def cBlank (c : Int32) : Bool := decide (c = 9) || decide (c = 10) || decide (c = 12) || decide (c = 13) || decide (c = 32)
def cBar (c : Int32) : Bool := decide (c = 40) || decide (c = 41) || decide (c = 47) || decide (c = 60) || decide (c = 62) || decide (c = 91) || decide (c = 93) || decide (c = 123) || decide (c = 125)
def cDig (c : Int32) : Bool := decide (48 ≤ c) && decide (c ≤ 57)
def cSgn (c : Int32) : Bool := decide (c = 43) || decide (c = 45)
def cTok (c : Int32) : Bool := !decide (c = 37) && !cBlank c && !cBar c
def bI (b : Bool) : Int32 := if b = true then 1 else 0
theorem bI_01 {b : Bool} : bI b = 0 ∨ bI b = 1 := by cases b <;> simp [bI]
theorem bI_0 {b : Bool} : (bI b = 0) = (b = false) := by cases b <;> simp [bI]
theorem l_lt {x y : Int64} : (x < y) = (x.toInt < y.toInt) := propext Int64.lt_iff_toInt_lt
theorem l_le {x y : Int64} : (x ≤ y) = (x.toInt ≤ y.toInt) := propext Int64.le_iff_toInt_le
theorem lg_3 (x y : Int64) : (x.toInt < y.toInt ∧ lg_cmp x y = -1) ∨ (x.toInt = y.toInt ∧ lg_cmp x y = 0) ∨ (y.toInt < x.toInt ∧ lg_cmp x y = 1) := by
  unfold lg_cmp
  by_cases h1 : x > y
  · exact Or.inr (Or.inr ⟨Int64.lt_iff_toInt_lt.mp h1, if_pos h1⟩)
  · by_cases h2 : x = y
    · exact Or.inr (Or.inl ⟨by rw [h2], by rw [if_neg h1, if_pos h2]⟩)
    · refine Or.inl ⟨?_, by rw [if_neg h1, if_neg h2]⟩
      have h3 : ¬ y.toInt < x.toInt := fun z => h1 (Int64.lt_iff_toInt_lt.mpr z)
      have h4 : ¬ x.toInt = y.toInt := fun z => h2 (Int64.toInt_inj.mp z)
      omega
theorem lg_lt {x y : Int64} : (lg_cmp x y < 0) = (x < y) := by
  rw [l_lt]
  rcases lg_3 x y with ⟨h1, h2⟩ | ⟨h1, h2⟩ | ⟨h1, h2⟩ <;> rw [h2] <;> simp <;> first | omega | decide
theorem lg_gt {x y : Int64} : (0 < lg_cmp x y) = (y < x) := by
  rw [l_lt]
  rcases lg_3 x y with ⟨h1, h2⟩ | ⟨h1, h2⟩ | ⟨h1, h2⟩ <;> rw [h2] <;> simp <;> first | omega | decide
theorem lg_le {x y : Int64} : (lg_cmp x y ≤ 0) = (x ≤ y) := by
  rw [l_le]
  rcases lg_3 x y with ⟨h1, h2⟩ | ⟨h1, h2⟩ | ⟨h1, h2⟩ <;> rw [h2] <;> simp <;> first | omega | decide
theorem lg_ge {x y : Int64} : (0 ≤ lg_cmp x y) = (y ≤ x) := by
  rw [l_le]
  rcases lg_3 x y with ⟨h1, h2⟩ | ⟨h1, h2⟩ | ⟨h1, h2⟩ <;> rw [h2] <;> simp <;> first | omega | decide
theorem lg_eq {x y : Int64} : (lg_cmp x y = 0) = (x = y) := by
  rw [← Int64.toInt_inj]
  rcases lg_3 x y with ⟨h1, h2⟩ | ⟨h1, h2⟩ | ⟨h1, h2⟩ <;> rw [h2] <;> simp <;> first | omega | decide
section LF
variable {d : Nat} {I : Nat → Nat → Int32} {L : Nat → Nat → Int64}
theorem c_blank {c : Int32} : X d none 22 (0, [some (.int c)], [], (xSH, I, L, xR0)) = some (some (.int (bI (cBlank c))), (xSH, I, L, xR0)) := by
  simp only [e_22_0, e_22_1, e_22_3, e_22_6, e_22_7, e_22_9, e_22_12, e_22_13, e_22_15, e_22_18, e_22_19, e_22_21, e_22_24, e_22_25, e_22_27, e_22_30, e_22_31, e_22_34, e_22_35z, e_22_35o, e_22_35]
  unfold cBlank bI
  repeat' split
  all_goals simp_all
theorem c_barred {c : Int32} : X d none 23 (0, [some (.int c)], [], (xSH, I, L, xR0)) = some (some (.int (bI (cBar c))), (xSH, I, L, xR0)) := by
  simp only [e_23_0, e_23_1, e_23_84, e_23_85, e_23_86, e_23_87]
  unfold cBar bI
  repeat' split
  all_goals simp_all
theorem i_nlt {x y : Int32} : (¬ x < y) = (y ≤ x) := by rw [Int32.not_lt]
theorem c_digit {c : Int32} : X d none 26 (0, [some (.int c)], [], (xSH, I, L, xR0)) = some (some (.int (bI (cDig c))), (xSH, I, L, xR0)) := by
  simp only [e_26_0, e_26_1, e_26_3, e_26_6, e_26_7, e_26_9, e_26_12, e_26_13, e_26_16, e_26_17z, e_26_17o, e_26_17]
  unfold cDig bI
  by_cases h1 : c < 48
  · have h2 : ¬ 48 ≤ c := Int32.not_le.mpr h1
    simp [h1, h2]
  · have h2 : 48 ≤ c := Int32.not_lt.mp h1
    by_cases h3 : 57 < c
    · have h4 : ¬ c ≤ 57 := Int32.not_le.mpr h3
      simp [h1, h2, h3, h4]
    · have h4 : c ≤ 57 := Int32.not_lt.mp h3
      simp [h1, h2, h3, h4]
theorem c_sign {c : Int32} : X d none 27 (0, [some (.int c)], [], (xSH, I, L, xR0)) = some (some (.int (bI (cSgn c))), (xSH, I, L, xR0)) := by
  simp only [e_27_0, e_27_1, e_27_3, e_27_6, e_27_7, e_27_9, e_27_12, e_27_13, e_27_16, e_27_17z, e_27_17o, e_27_17]
  unfold cSgn bI
  repeat' split
  all_goals simp_all
theorem c_begins {c : Int32} : X (d + 1) none 25 (0, [some (.int c)], [], (xSH, I, L, xR0)) = some (some (.int (bI (cDig c || cSgn c))), (xSH, I, L, xR0)) := by
  simp only [e_25_0, e_25_1, e_25_4, e_25_7, e_25_8, e_25_11, e_25_14, e_25_15, e_25_18, e_25_19z, e_25_19o, e_25_19, c_digit, c_sign, Option.bind_some, Option.toList_some, List.cons_append, List.nil_append]
  cases cDig c <;> cases cSgn c <;> simp [bI]
theorem c_tokenPart {c : Int32} : X (d + 1) none 21 (0, [some (.int c)], [], (xSH, I, L, xR0)) = some (some (.int (bI (cTok c))), (xSH, I, L, xR0)) := by
  simp only [e_21_0, e_21_1, e_21_3, e_21_6, e_21_7, e_21_10, e_21_13, e_21_14, e_21_17, e_21_20, e_21_21, e_21_24, e_21_25z, e_21_25o, e_21_25, c_blank, c_barred, Option.bind_some, Option.toList_some, List.cons_append, List.nil_append]
  unfold cTok
  by_cases h : c = 37
  · simp [h, bI]
  · cases cBlank c <;> cases cBar c <;> simp [h, bI]
theorem c_within {x : Int64} {l : Int32} : X d none 41 (0, [some (.long x), none, some (.int l)], [], (xSH, I, L, xR0)) = some (some (.int (bI (decide ((-l).toInt64 ≤ x) && decide (x ≤ l.toInt64)))), (xSH, I, L, xR0)) := by
  simp only [e_41_0, e_41_1, e_41_2, e_41_3, e_41_4, e_41_5, e_41_8, e_41_9, e_41_10, e_41_11, e_41_12, e_41_15, e_41_16, e_41_19, e_41_20z, e_41_20o, e_41_20, lg_lt, lg_gt]
  by_cases h1 : x < (-l).toInt64
  · have h2 : ¬ (-l).toInt64 ≤ x := Int64.not_le.mpr h1
    simp [h1, h2, bI]
  · have h2 : (-l).toInt64 ≤ x := Int64.not_lt.mp h1
    by_cases h3 : l.toInt64 < x
    · have h4 : ¬ x ≤ l.toInt64 := Int64.not_le.mpr h3
      simp [h1, h2, h3, h4, bI]
    · have h4 : x ≤ l.toInt64 := Int64.not_lt.mp h3
      simp [h1, h2, h3, h4, bI]
end LF
