def xSH : xSh := [(4, 2), (9, 2), (0, 400), (5, 15), (6, 3), (0, 400), (7, 12), (0, 120), (0, 120), (0, 120), (0, 120), (0, 20), (3, 7), (0, 6), (0, 4), (0, 4), (0, 6), (8, 3), (0, 6), (0, 20), (8, 3), (0, 6), (0, 20), (8, 3), (0, 6), (0, 20), (8, 3), (0, 6), (0, 20), (8, 3), (0, 6), (0, 20), (8, 3), (0, 6), (0, 20), (8, 3), (0, 6), (0, 20), (10, 34), (0, 400), (0, 400), (1, 400), (2, 6), (2, 36), (0, 6), (1, 2400), (2, 130), (2, 130), (2, 130), (2, 130), (0, 400)]
theorem sh_0 : xSH[0]? = some (4, 2) := rfl
theorem sh_1 : xSH[1]? = some (9, 2) := rfl
theorem sh_2 : xSH[2]? = some (0, 400) := rfl
theorem sh_3 : xSH[3]? = some (5, 15) := rfl
theorem sh_4 : xSH[4]? = some (6, 3) := rfl
theorem sh_5 : xSH[5]? = some (0, 400) := rfl
theorem sh_6 : xSH[6]? = some (7, 12) := rfl
theorem sh_7 : xSH[7]? = some (0, 120) := rfl
theorem sh_8 : xSH[8]? = some (0, 120) := rfl
theorem sh_9 : xSH[9]? = some (0, 120) := rfl
theorem sh_10 : xSH[10]? = some (0, 120) := rfl
theorem sh_11 : xSH[11]? = some (0, 20) := rfl
theorem sh_12 : xSH[12]? = some (3, 7) := rfl
theorem sh_13 : xSH[13]? = some (0, 6) := rfl
theorem sh_14 : xSH[14]? = some (0, 4) := rfl
theorem sh_15 : xSH[15]? = some (0, 4) := rfl
theorem sh_16 : xSH[16]? = some (0, 6) := rfl
theorem sh_17 : xSH[17]? = some (8, 3) := rfl
theorem sh_18 : xSH[18]? = some (0, 6) := rfl
theorem sh_19 : xSH[19]? = some (0, 20) := rfl
theorem sh_20 : xSH[20]? = some (8, 3) := rfl
theorem sh_21 : xSH[21]? = some (0, 6) := rfl
theorem sh_22 : xSH[22]? = some (0, 20) := rfl
theorem sh_23 : xSH[23]? = some (8, 3) := rfl
theorem sh_24 : xSH[24]? = some (0, 6) := rfl
theorem sh_25 : xSH[25]? = some (0, 20) := rfl
theorem sh_26 : xSH[26]? = some (8, 3) := rfl
theorem sh_27 : xSH[27]? = some (0, 6) := rfl
theorem sh_28 : xSH[28]? = some (0, 20) := rfl
theorem sh_29 : xSH[29]? = some (8, 3) := rfl
theorem sh_30 : xSH[30]? = some (0, 6) := rfl
theorem sh_31 : xSH[31]? = some (0, 20) := rfl
theorem sh_32 : xSH[32]? = some (8, 3) := rfl
theorem sh_33 : xSH[33]? = some (0, 6) := rfl
theorem sh_34 : xSH[34]? = some (0, 20) := rfl
theorem sh_35 : xSH[35]? = some (8, 3) := rfl
theorem sh_36 : xSH[36]? = some (0, 6) := rfl
theorem sh_37 : xSH[37]? = some (0, 20) := rfl
theorem sh_38 : xSH[38]? = some (10, 34) := rfl
theorem sh_39 : xSH[39]? = some (0, 400) := rfl
theorem sh_40 : xSH[40]? = some (0, 400) := rfl
theorem sh_41 : xSH[41]? = some (1, 400) := rfl
theorem sh_42 : xSH[42]? = some (2, 6) := rfl
theorem sh_43 : xSH[43]? = some (2, 36) := rfl
theorem sh_44 : xSH[44]? = some (0, 6) := rfl
theorem sh_45 : xSH[45]? = some (1, 2400) := rfl
theorem sh_46 : xSH[46]? = some (2, 130) := rfl
theorem sh_47 : xSH[47]? = some (2, 130) := rfl
theorem sh_48 : xSH[48]? = some (2, 130) := rfl
theorem sh_49 : xSH[49]? = some (2, 130) := rfl
theorem sh_50 : xSH[50]? = some (0, 400) := rfl
def xRl : List (Nat × Nat × Nat) := [(0, 0, 1), (0, 1, 3), (1, 0, 2), (3, 0, 4), (3, 1, 6), (3, 2, 12), (3, 3, 13), (3, 4, 14), (3, 5, 15), (3, 6, 16), (4, 0, 5), (6, 0, 7), (6, 1, 8), (6, 2, 9), (6, 3, 10), (6, 4, 11), (12, 0, 17), (12, 1, 20), (12, 2, 23), (12, 3, 26), (12, 4, 29), (12, 5, 32), (12, 6, 35), (17, 0, 18), (17, 1, 19), (20, 0, 21), (20, 1, 22), (23, 0, 24), (23, 1, 25), (26, 0, 27), (26, 1, 28), (29, 0, 30), (29, 1, 31), (32, 0, 33), (32, 1, 34), (35, 0, 36), (35, 1, 37), (38, 0, 39), (38, 4, 40), (38, 5, 41), (38, 6, 42), (38, 8, 43), (38, 9, 44), (38, 10, 45), (38, 12, 46), (38, 13, 47), (38, 14, 48), (38, 15, 49), (38, 24, 50)]
def xR0 (a k : Nat) : Option Nat := (xRl.find? (fun r => r.1 == a && r.2.1 == k)).map (fun r => r.2.2)
theorem rr_0_0 : xR0 0 0 = some 1 := by decide +kernel
theorem rr_0_1 : xR0 0 1 = some 3 := by decide +kernel
theorem rr_1_0 : xR0 1 0 = some 2 := by decide +kernel
theorem rr_3_0 : xR0 3 0 = some 4 := by decide +kernel
theorem rr_3_1 : xR0 3 1 = some 6 := by decide +kernel
theorem rr_3_2 : xR0 3 2 = some 12 := by decide +kernel
theorem rr_3_3 : xR0 3 3 = some 13 := by decide +kernel
theorem rr_3_4 : xR0 3 4 = some 14 := by decide +kernel
theorem rr_3_5 : xR0 3 5 = some 15 := by decide +kernel
theorem rr_3_6 : xR0 3 6 = some 16 := by decide +kernel
theorem rr_4_0 : xR0 4 0 = some 5 := by decide +kernel
theorem rr_6_0 : xR0 6 0 = some 7 := by decide +kernel
theorem rr_6_1 : xR0 6 1 = some 8 := by decide +kernel
theorem rr_6_2 : xR0 6 2 = some 9 := by decide +kernel
theorem rr_6_3 : xR0 6 3 = some 10 := by decide +kernel
theorem rr_6_4 : xR0 6 4 = some 11 := by decide +kernel
theorem rr_12_0 : xR0 12 0 = some 17 := by decide +kernel
theorem rr_12_1 : xR0 12 1 = some 20 := by decide +kernel
theorem rr_12_2 : xR0 12 2 = some 23 := by decide +kernel
theorem rr_12_3 : xR0 12 3 = some 26 := by decide +kernel
theorem rr_12_4 : xR0 12 4 = some 29 := by decide +kernel
theorem rr_12_5 : xR0 12 5 = some 32 := by decide +kernel
theorem rr_12_6 : xR0 12 6 = some 35 := by decide +kernel
theorem rr_17_0 : xR0 17 0 = some 18 := by decide +kernel
theorem rr_17_1 : xR0 17 1 = some 19 := by decide +kernel
theorem rr_20_0 : xR0 20 0 = some 21 := by decide +kernel
theorem rr_20_1 : xR0 20 1 = some 22 := by decide +kernel
theorem rr_23_0 : xR0 23 0 = some 24 := by decide +kernel
theorem rr_23_1 : xR0 23 1 = some 25 := by decide +kernel
theorem rr_26_0 : xR0 26 0 = some 27 := by decide +kernel
theorem rr_26_1 : xR0 26 1 = some 28 := by decide +kernel
theorem rr_29_0 : xR0 29 0 = some 30 := by decide +kernel
theorem rr_29_1 : xR0 29 1 = some 31 := by decide +kernel
theorem rr_32_0 : xR0 32 0 = some 33 := by decide +kernel
theorem rr_32_1 : xR0 32 1 = some 34 := by decide +kernel
theorem rr_35_0 : xR0 35 0 = some 36 := by decide +kernel
theorem rr_35_1 : xR0 35 1 = some 37 := by decide +kernel
theorem rr_38_0 : xR0 38 0 = some 39 := by decide +kernel
theorem rr_38_4 : xR0 38 4 = some 40 := by decide +kernel
theorem rr_38_5 : xR0 38 5 = some 41 := by decide +kernel
theorem rr_38_6 : xR0 38 6 = some 42 := by decide +kernel
theorem rr_38_8 : xR0 38 8 = some 43 := by decide +kernel
theorem rr_38_9 : xR0 38 9 = some 44 := by decide +kernel
theorem rr_38_10 : xR0 38 10 = some 45 := by decide +kernel
theorem rr_38_12 : xR0 38 12 = some 46 := by decide +kernel
theorem rr_38_13 : xR0 38 13 = some 47 := by decide +kernel
theorem rr_38_14 : xR0 38 14 = some 48 := by decide +kernel
theorem rr_38_15 : xR0 38 15 = some 49 := by decide +kernel
theorem rr_38_24 : xR0 38 24 = some 50 := by decide +kernel
def xSt (a : Nat) : Prop := xSH[a]? = some (8, 3) ∧ xR0 a 0 = some (a + 1) ∧ xR0 a 1 = some (a + 2) ∧ xSH[a + 1]? = some (0, 6) ∧ xSH[a + 2]? = some (0, 20)
theorem xSt_of : ∀ s, s < 7 → xSt (17 + 3 * s) ∧ xR0 12 s = some (17 + 3 * s) := by unfold xSt; decide +kernel
