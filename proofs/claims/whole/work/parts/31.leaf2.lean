theorem ite_sv {p : Prop} [Decidable p] {a b : Int32} {h : xHp} : (if p then some (some (Value.int a), h) else some (some (Value.int b), h)) = some (some (Value.int (if p then a else b)), h) := by split <;> rfl
section LG
variable {d : Nat} {I : Nat → Nat → Int32} {L : Nat → Nat → Int64}
theorem c_codeIn {w i : Int32} : X d none 9 (0, [some (.int w), some (.int i)], [], (xSH, I, L, xR0)) = some (some (.int ((w >>> ((8 * i) &&& 31)) &&& 255)), (xSH, I, L, xR0)) := by
  simp only [e_9_0, e_9_1, e_9_3, e_9_4, e_9_5, e_9_6, e_9_9, e_9_10]
theorem c_max {x y : Int32} : X d none 46 (0, [some (.int x), some (.int y)], [], (xSH, I, L, xR0)) = some (some (.int (if x < y then y else x)), (xSH, I, L, xR0)) := by
  simp only [e_46_0, e_46_1, e_46_2, e_46_5, e_46_6, e_46_9, e_46_10, ite_sv]
theorem m_blank {c : Int32} : X d none 79 (0, [some (.int c)], [], (xSH, I, L, xR0)) = some (some (.int (bI (cBlank c))), (xSH, I, L, xR0)) := by
  simp only [e_79_0, e_79_1, e_79_3, e_79_6, e_79_7, e_79_9, e_79_12, e_79_13, e_79_15, e_79_18, e_79_19, e_79_21, e_79_24, e_79_25, e_79_27, e_79_30, e_79_31, e_79_34, e_79_35z, e_79_35o, e_79_35]
  unfold cBlank bI
  repeat' split
  all_goals simp_all
theorem m_barred {c : Int32} : X d none 81 (0, [some (.int c)], [], (xSH, I, L, xR0)) = some (some (.int (bI (cBar c))), (xSH, I, L, xR0)) := by
  simp only [e_81_0, e_81_1, e_81_3, e_81_6, e_81_7, e_81_9, e_81_12, e_81_13, e_81_15, e_81_18, e_81_19, e_81_21, e_81_24, e_81_25, e_81_27, e_81_30, e_81_31, e_81_33, e_81_36, e_81_37, e_81_39, e_81_42, e_81_43, e_81_45, e_81_48, e_81_49, e_81_51, e_81_54, e_81_55, e_81_58, e_81_59z, e_81_59o, e_81_59]
  unfold cBar bI
  repeat' split
  all_goals simp_all
theorem m_digit {c : Int32} : X d none 84 (0, [some (.int c)], [], (xSH, I, L, xR0)) = some (some (.int (bI (cDig c))), (xSH, I, L, xR0)) := by
  simp only [e_84_0, e_84_1, e_84_3, e_84_6, e_84_7, e_84_9, e_84_12, e_84_13, e_84_16, e_84_17z, e_84_17o, e_84_17]
  unfold cDig bI
  by_cases h1 : c < 48
  · have h2 : ¬ 48 ≤ c := Int32.not_le.mpr h1
    simp [h1, h2]
  · have h2 : 48 ≤ c := Int32.not_lt.mp h1
    by_cases h3 : 57 < c
    · have h4 : ¬ c ≤ 57 := Int32.not_le.mpr h3
      simp [h1, h2, h3, h4]
    · have h4 : c ≤ 57 := Int32.not_lt.mp h3
      simp [h1, h2, h3, h4]
def cNeed (o : Int32) : Int32 := if o = 81 then 0 else if o = 87 then 0 else if o = 99 then 6 else if o = 102 then 0 else if o = 103 then 1 else if o = 104 then 0 else if o = 108 then 2 else if o = 109 then 2 else if o = 110 then 0 else if o = 113 then 0 else if o = 10839 then 0 else if o = 10854 then 0 else if o = 25970 then 4 else if o = 28003 then 6 else -1
theorem c_operandsOf {o : Int32} : X d none 34 (0, [some (.int o)], [], (xSH, I, L, xR0)) = some (some (.int (cNeed o)), (xSH, I, L, xR0)) := by
  simp only [e_34_0, e_34_1, e_34_124, e_34_125, e_34_126, e_34_127, e_34_128, e_34_129, e_34_130, e_34_131, e_34_132, e_34_134, e_34_135, e_34_136, ite_sv]
  rfl
def cNP (o : Int32) : Bool := decide (o = 87) || decide (o = 99) || decide (o = 102) || decide (o = 104) || decide (o = 108) || decide (o = 110) || decide (o = 10839) || decide (o = 10854)
theorem c_needsPath {o : Int32} : X d none 36 (0, [some (.int o)], [], (xSH, I, L, xR0)) = some (some (.int (bI (cNP o))), (xSH, I, L, xR0)) := by
  simp only [e_36_0, e_36_1, e_36_76, e_36_77, e_36_78, e_36_79]
  unfold cNP bI
  repeat' split
  all_goals simp_all
def cEd (o : Int32) : Int32 := if o = 99 then 4 else if o = 104 then 1 else if o = 108 then 1 else if o = 25970 then 4 else 0
theorem c_edgesOf {o : Int32} : X d none 43 (0, [some (.int o)], [], (xSH, I, L, xR0)) = some (some (.int (cEd o)), (xSH, I, L, xR0)) := by
  simp only [e_43_0, e_43_1, e_43_44, e_43_45, e_43_46, e_43_47, e_43_48, e_43_49, ite_sv]
  rfl
def cOut (o : Int32) (ex rule : Int32) : Bool := if o = 81 then decide (ex = 1) else if o = 102 then false else if o = 103 then decide (ex = 1) else if o = 110 then false else if o = 113 then decide (ex = 1) else if o = 10854 then false else if o = 28003 then decide (ex = 1) else !decide (rule = 0)
theorem bI_x {x : Int32} (h : x = 0 ∨ x = 1) : x = bI (decide (x = 1)) := by rcases h with rfl | rfl <;> decide
theorem c_outOfPlace {o : Int32} (hx : I 6 7 = 0 ∨ I 6 7 = 1) : X d none 35 (0, [some (.ref 3), some (.int o)], [], (xSH, I, L, xR0)) = some (some (.int (bI (cOut o (I 6 7) (I 3 9)))), (xSH, I, L, xR0)) := by
  have e0 : ∀ {p : Prop} [Decidable p] {a b : Bool}, bI (if p then a else b) = if p then bI a else bI b := by intro p _ a b; split <;> rfl
  simp only [e_35_0, e_35_1, e_35_68, e_35_69, e_35_70, e_35_71, e_35_74, e_35_77z, e_35_77o, e_35_77, e_35_78, e_35_79, e_35_82, e_35_85, e_35_86, e_35_89, e_35_90z, e_35_90o, e_35_90, hx, ite_sv]
  unfold cOut
  simp only [e0, ← bI_x hx]
  refine congrArg (fun z => some (some (Value.int z), ((xSH, I, L, xR0) : xHp))) ?_
  refine ite_congr rfl (fun _ => rfl) fun _ => ite_congr rfl (fun _ => rfl) fun _ => ite_congr rfl (fun _ => rfl) fun _ => ite_congr rfl (fun _ => rfl) fun _ => ite_congr rfl (fun _ => rfl) fun _ => ite_congr rfl (fun _ => rfl) fun _ => ite_congr rfl (fun _ => rfl) fun _ => ?_
  by_cases h : I 3 9 = 0 <;> simp [h, bI]
theorem c_faultAtEnd : X d none 60 (0, [some (.ref 3)], [], (xSH, I, L, xR0)) = some (some (.int (if 0 < I 3 7 then 3 else if I 6 7 = 0 then (if 0 < I 3 8 then 9 else 0) else 11)), (xSH, I, L, xR0)) := by
  simp only [e_60_0, e_60_1, e_60_4, e_60_7, e_60_8, e_60_9, e_60_10, e_60_13, e_60_16, e_60_19, e_60_21, e_60_22, e_60_23, e_60_26, e_60_29, e_60_31, e_60_34, e_60_35, ite_sv]
  by_cases h1 : I 3 7 ≤ 0
  · have h2 : ¬ 0 < I 3 7 := Int32.not_lt.mpr h1
    by_cases h3 : I 3 8 ≤ 0
    · have h4 : ¬ 0 < I 3 8 := Int32.not_lt.mpr h3
      simp [h1, h2, h3, h4]
    · have h4 : 0 < I 3 8 := Int32.not_le.mp h3
      simp [h1, h2, h3, h4]
  · have h2 : 0 < I 3 7 := Int32.not_le.mp h1
    simp [h1, h2]
theorem c_tell {n p : Int32} : X d none 24 (0, [some (.ref 3), some (.int n), some (.int p)], [], (xSH, I, L, xR0)) = some (none, (xSH, (if n = 0 then I else xu (xu I 3 10 n) 3 11 p), L, xR0)) := by
  simp only [e_24_0, e_24_1, e_24_4, e_24_5, e_24_6, e_24_9, e_24_10, e_24_11, e_24_14]
  split <;> rfl
theorem m_fail {n p : Int32} : X d none 82 (0, [some (.ref 38), some (.int n), some (.int p)], [], (xSH, I, L, xR0)) = some (none, (xSH, xu (xu I 38 26 n) 38 27 p, L, xR0)) := by
  simp only [e_82_0, e_82_1, e_82_2, e_82_5, e_82_6, e_82_7, e_82_10]
theorem c_state {s : Nat} (hs : s < 7) (h : I 3 8 = nI s) : X d none 17 (0, [some (.ref 3)], [], (xSH, I, L, xR0)) = some (some (.ref (17 + 3 * s)), (xSH, I, L, xR0)) := by
  have hb : s < 2 ^ 31 := Nat.lt_trans hs (by decide)
  simp only [e_17_0, e_17_1, e_17_4, e_17_5, e_17_8, e_17_9, h, nI_clamp hb, (xSt_of s hs).2, va_rf]
  rw [if_neg (fun z => z.elim (nI_pos hb) (Nat.not_le.mpr hs))]
theorem c_pageX {a : Nat} {x y : Int64} (ha : xSt a) : X d none 39 (0, [some (.ref a), some (.long x), none, some (.long y), none], [], (xSH, I, L, xR0)) = some (some (.long ((I (a + 1) 0).toInt64 * x + (I (a + 1) 2).toInt64 * y + (I (a + 1) 4).toInt64)), (xSH, I, L, xR0)) := by
  simp only [e_39_0, e_39_1 ha, e_39_4, e_39_5 ha, e_39_6, e_39_7, e_39_8, e_39_9, e_39_10 ha, e_39_13, e_39_14 ha, e_39_15, e_39_16, e_39_17, e_39_18, e_39_19, e_39_20 ha, e_39_23, e_39_24 ha, e_39_25, e_39_26, e_39_27]
theorem c_pageY {a : Nat} {x y : Int64} (ha : xSt a) : X d none 40 (0, [some (.ref a), some (.long x), none, some (.long y), none], [], (xSH, I, L, xR0)) = some (some (.long ((I (a + 1) 1).toInt64 * x + (I (a + 1) 3).toInt64 * y + (I (a + 1) 5).toInt64)), (xSH, I, L, xR0)) := by
  simp only [e_40_0, e_40_1 ha, e_40_4, e_40_5 ha, e_40_6, e_40_7, e_40_8, e_40_9, e_40_10 ha, e_40_13, e_40_14 ha, e_40_15, e_40_16, e_40_17, e_40_18, e_40_19, e_40_20 ha, e_40_23, e_40_24 ha, e_40_25, e_40_26, e_40_27]
end LG
