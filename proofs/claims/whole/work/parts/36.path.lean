def cHold (I : Nat → Nat → Int32) (e : Nat) (x y : Int32) : Nat → Nat → Int32 := xu (xu (xu (xu (xu I 7 e (I 6 10)) 8 e (I 6 11)) 9 e x) 10 e y) 6 5 (nI (e + 1))
def cEdge (I : Nat → Nat → Int32) (e : Nat) (x y : Int32) : Nat → Nat → Int32 := xu (xu (xu (cHold I e x y) 6 6 (I 6 6 + 1)) 6 10 x) 6 11 y
def cEndS (I : Nat → Nat → Int32) (e : Nat) : Nat → Nat → Int32 := if I 6 10 = I 6 8 ∧ I 6 11 = I 6 9 then I else cHold I e (I 6 8) (I 6 9)
def cBegin (I : Nat → Nat → Int32) (e : Nat) (x y : Int32) : Nat → Nat → Int32 := xu (xu (xu (xu (xu (cEndS I e) 6 7 1) 6 8 x) 6 9 y) 6 10 x) 6 11 y
def cDrop (I : Nat → Nat → Int32) : Nat → Nat → Int32 := xu (xu (xu (xu (xu I 6 5 0) 6 6 0) 6 7 0) 6 10 (I 6 8)) 6 11 (I 6 9)
def cEnd (I : Nat → Nat → Int32) (e : Nat) : Nat := if I 6 10 = I 6 8 ∧ I 6 11 = I 6 9 then e else e + 1
section PA
variable {d : Nat} {I : Nat → Nat → Int32} {L : Nat → Nat → Int64}
theorem c_hold {e : Nat} {x y : Int32} (he : I 6 5 = nI e) (h : e < 120) : X d none 50 (0, [some (.ref 6), some (.int x), some (.int y)], [], (xSH, I, L, xR0)) = some (none, (xSH, cHold I e x y, L, xR0)) := by
  have hc : (nI e).toNatClampNeg = e := nI_clamp (by omega)
  have h1 : ¬ (120 : Int32) ≤ nI e := nI_ge (a := e) (b := 120) h (by decide)
  have h2 : ¬ (nI e < 0 ∨ 120 ≤ e) := q_in h (by decide)
  simp (decide := true) only [e_50_0, e_50_1, e_50_4, e_50_6, e_50_9, e_50_10, e_50_13, e_50_14, e_50_17, e_50_18, e_50_21, e_50_22, e_50_23, e_50_26, e_50_27, e_50_30, e_50_31, e_50_34, e_50_35, e_50_36, e_50_39, e_50_40, e_50_43, e_50_44, e_50_45, e_50_46, e_50_49, e_50_50, e_50_53, e_50_54, e_50_55, e_50_56, e_50_57, e_50_60, e_50_61, e_50_62, e_50_65, xu_ne, xu_eq, xs_ne, xs_at, ne_eq, reduceIte, if_true, if_false, not_false_eq_true, he, hc, h1, h2, nI_1]
  rfl
theorem c_edgeTo {e : Nat} {x y : Int32} (he : I 6 5 = nI e) (h : e < 120) : X (d + 1) none 51 (0, [some (.ref 6), some (.int x), some (.int y)], [], (xSH, I, L, xR0)) = some (none, (xSH, cEdge I e x y, L, xR0)) := by
  have e1 : cHold I e x y 6 6 = I 6 6 := by simp (decide := true) only [cHold, xu_ne, xu_eq, xs_ne, xs_at, ne_eq, reduceIte, if_true, if_false, not_false_eq_true]
  simp only [e_51_0, e_51_1, e_51_2, e_51_3, e_51_6, e_51_7, e_51_8, e_51_11, e_51_12, e_51_13, e_51_16, e_51_17, e_51_18, e_51_21, e_51_22, e_51_23, e_51_26, c_hold he h, Option.bind_some, Option.toList_some, Option.toList_none, List.cons_append, List.nil_append, e1]
  rfl
theorem c_endSubpath {e : Nat} (he : I 6 5 = nI e) (h : cEnd I e ≤ 120) : X (d + 1) none 49 (0, [some (.ref 6)], [], (xSH, I, L, xR0)) = some (none, (xSH, cEndS I e, L, xR0)) := by
  unfold cEnd at h
  unfold cEndS
  by_cases h3 : I 6 10 = I 6 8 ∧ I 6 11 = I 6 9
  · rw [if_pos h3]
    simp only [e_49_0, e_49_1, e_49_4, e_49_5, e_49_8, e_49_11, e_49_12, e_49_15, e_49_16, e_49_19, e_49_22, e_49_23, e_49_24, e_49_27, e_49_28, e_49_31, e_49_34, h3.1, h3.2, if_true]
  · rw [if_neg h3] at h
    rw [if_neg h3]
    simp only [e_49_0, e_49_1, e_49_4, e_49_5, e_49_8, e_49_11, e_49_12, e_49_15, e_49_16, e_49_19, e_49_22, e_49_23, e_49_24, e_49_27, e_49_28, e_49_31, e_49_34, c_hold he (show e < 120 by omega), Option.bind_some, Option.toList_some, Option.toList_none, List.cons_append, List.nil_append]
    by_cases h1 : I 6 10 = I 6 8
    · by_cases h2 : I 6 11 = I 6 9
      · exact absurd ⟨h1, h2⟩ h3
      · simp [h1, h2]
    · simp [h1]
theorem c_begin {e : Nat} {x y : Int32} (he : I 6 5 = nI e) (h : cEnd I e ≤ 120) : X (d + 2) none 48 (0, [some (.ref 6), some (.int x), some (.int y)], [], (xSH, I, L, xR0)) = some (none, (xSH, cBegin I e x y, L, xR0)) := by
  simp only [e_48_0, e_48_1, e_48_4, e_48_5, e_48_6, e_48_9, e_48_10, e_48_11, e_48_14, e_48_15, e_48_16, e_48_19, e_48_20, e_48_21, e_48_24, e_48_25, e_48_26, e_48_29, c_endSubpath he h, Option.bind_some, Option.toList_some, Option.toList_none, List.cons_append, List.nil_append]
  rfl
theorem c_drop : X d none 16 (0, [some (.ref 6)], [], (xSH, I, L, xR0)) = some (none, (xSH, cDrop I, L, xR0)) := by
  simp (decide := true) only [e_16_0, e_16_1, e_16_2, e_16_5, e_16_6, e_16_7, e_16_10, e_16_11, e_16_12, e_16_15, e_16_16, e_16_17, e_16_20, e_16_23, e_16_24, e_16_25, e_16_28, e_16_31, xu_ne, xu_eq, xs_ne, xs_at, ne_eq, reduceIte, if_true, if_false, not_false_eq_true]
  rfl
end PA
def mFarX (L : Nat → Nat → Int64) (x y : Int32) : Int64 := L 42 0 * x.toInt64 + L 42 2 * y.toInt64 + L 42 4
def mFarY (L : Nat → Nat → Int64) (x y : Int32) : Int64 := L 42 1 * x.toInt64 + L 42 3 * y.toInt64 + L 42 5
def mFarL (L : Nat → Nat → Int64) (x y : Int32) : Nat → Nat → Int64 := xu (xu L 38 32 (mFarX L x y)) 38 33 (mFarY L x y)
def fOut (p : Int64) : Bool := decide (p < -32767) || decide (32767 < p)
def mEdI (I : Nat → Nat → Int32) (e : Nat) (c : Bool) : Nat → Nat → Int32 := if c = true then xu (xu I 38 16 (nI (e + 1))) 38 17 (I 38 17 + 1) else xu I 38 16 (nI (e + 1))
def mEdL (L : Nat → Nat → Int64) (e : Nat) (x y : Int64) : Nat → Nat → Int64 := xu (xu (xu (xu (xu (xu L 46 e (L 38 22)) 47 e (L 38 23)) 48 e x) 49 e y) 38 22 x) 38 23 y
section PM
variable {d : Nat} {I : Nat → Nat → Int32} {L : Nat → Nat → Int64}
theorem m_far {x y : Int32} : X d none 90 (0, [some (.ref 38), some (.int x), some (.int y)], [], (xSH, I, L, xR0)) = some (some (.int (bI (fOut (mFarX L x y) || fOut (mFarY L x y)))), (xSH, I, mFarL L x y, xR0)) := by
  simp (decide := true) only [e_90_0, e_90_1, e_90_2, e_90_5, e_90_6, e_90_7, e_90_8, e_90_9, e_90_10, e_90_11, e_90_14, e_90_15, e_90_16, e_90_17, e_90_18, e_90_19, e_90_20, e_90_21, e_90_24, e_90_25, e_90_26, e_90_27, e_90_30, e_90_31, e_90_32, e_90_35, e_90_36, e_90_37, e_90_38, e_90_39, e_90_40, e_90_41, e_90_44, e_90_45, e_90_46, e_90_47, e_90_48, e_90_49, e_90_50, e_90_51, e_90_54, e_90_55, e_90_56, e_90_57, e_90_60, e_90_61, e_90_64, e_90_67, e_90_68, e_90_71, e_90_72, e_90_75, e_90_78, e_90_79, e_90_82, e_90_83, e_90_86, e_90_89, e_90_90, e_90_93, e_90_94, e_90_97, e_90_100, e_90_101, e_90_104, e_90_105, e_90_108, e_90_109z, e_90_109o, e_90_109, xu_ne, xu_eq, xs_ne, xs_at, ne_eq, reduceIte, if_true, if_false, not_false_eq_true, lg_lt, lg_gt, lg_le]
  unfold fOut
  have e1 : L 42 0 * x.toInt64 + L 42 2 * y.toInt64 + L 42 4 = mFarX L x y := rfl
  have e2 : L 42 1 * x.toInt64 + L 42 3 * y.toInt64 + L 42 5 = mFarY L x y := rfl
  rw [e1, e2]
  have e3 : xu (xu L 38 32 (mFarX L x y)) 38 33 (mFarY L x y) = mFarL L x y := rfl
  rw [e3]
  by_cases h1 : mFarX L x y < -32767
  · simp [h1, bI]
  · by_cases h2 : 32767 < mFarX L x y
    · simp [h1, h2, bI]
    · by_cases h3 : mFarY L x y < -32767
      · simp [h1, h2, h3, bI]
      · by_cases h4 : mFarY L x y ≤ 32767
        · have h5 : ¬ 32767 < mFarY L x y := Int64.not_lt.mpr h4
          simp [h1, h2, h3, h4, h5, bI]
        · have h5 : 32767 < mFarY L x y := Int64.not_le.mp h4
          simp [h1, h2, h3, h4, h5, bI]
theorem m_edge {e : Nat} {x y : Int64} {c : Bool} (he : I 38 16 = nI e) (h : e < 130) : X d none 97 (0, [some (.ref 38), some (.long x), none, some (.long y), none, some (.int (bI c))], [], (xSH, I, L, xR0)) = some (none, (xSH, mEdI I e c, mEdL L e x y, xR0)) := by
  have hc : (nI e).toNatClampNeg = e := nI_clamp (by omega)
  have h2 : ¬ (nI e < 0 ∨ 130 ≤ e) := q_in h (by decide)
  simp (decide := true) only [e_97_0, e_97_1, e_97_4, e_97_5, e_97_8, e_97_9, e_97_12, e_97_13, e_97_14, e_97_17, e_97_18, e_97_21, e_97_22, e_97_25, e_97_26, e_97_27, e_97_30, e_97_31, e_97_34, e_97_35, e_97_36, e_97_37, e_97_40, e_97_41, e_97_44, e_97_45, e_97_46, e_97_47, e_97_48, e_97_51, e_97_52, e_97_53, e_97_56, e_97_58, e_97_61, e_97_62, e_97_63, e_97_66, e_97_67, e_97_68, e_97_71, e_97_72, e_97_73, e_97_76, e_97_77, e_97_78, e_97_81, xu_ne, xu_eq, xs_ne, xs_at, ne_eq, reduceIte, if_true, if_false, not_false_eq_true, he, hc, h2, nI_1, bI_0]
  unfold mEdI mEdL
  cases c <;> simp
end PM
