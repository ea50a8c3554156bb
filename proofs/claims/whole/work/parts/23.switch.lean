theorem e_0_32 {d : Nat} {scr : xScr} {I : Nat → Nat → Int32} {L : Nat → Nat → Int64} {x3 : Int32} {y0 : Int32} : X d scr 0 (32, [some (.ref xS), some (.ref 0), some (.ref 38), some (.int x3)], [.int y0], (xSH, I, L, xR0)) = if y0 = 0 then X d scr 0 (96, [some (.ref xS), some (.ref 0), some (.ref 38), some (.int x3)], [], (xSH, I, L, xR0)) else if y0 = 1 then X d scr 0 (119, [some (.ref xS), some (.ref 0), some (.ref 38), some (.int x3)], [], (xSH, I, L, xR0)) else if y0 = 2 then X d scr 0 (132, [some (.ref xS), some (.ref 0), some (.ref 38), some (.int x3)], [], (xSH, I, L, xR0)) else if y0 = 3 then X d scr 0 (143, [some (.ref xS), some (.ref 0), some (.ref 38), some (.int x3)], [], (xSH, I, L, xR0)) else if y0 = 4 then X d scr 0 (176, [some (.ref xS), some (.ref 0), some (.ref 38), some (.int x3)], [], (xSH, I, L, xR0)) else if y0 = 5 then X d scr 0 (189, [some (.ref xS), some (.ref 0), some (.ref 38), some (.int x3)], [], (xSH, I, L, xR0)) else if y0 = 6 then X d scr 0 (202, [some (.ref xS), some (.ref 0), some (.ref 38), some (.int x3)], [], (xSH, I, L, xR0)) else if y0 = 7 then X d scr 0 (235, [some (.ref xS), some (.ref 0), some (.ref 38), some (.int x3)], [], (xSH, I, L, xR0)) else if y0 = 8 then X d scr 0 (258, [some (.ref xS), some (.ref 0), some (.ref 38), some (.int x3)], [], (xSH, I, L, xR0)) else if y0 = 9 then X d scr 0 (271, [some (.ref xS), some (.ref 0), some (.ref 38), some (.int x3)], [], (xSH, I, L, xR0)) else if y0 = 10 then X d scr 0 (284, [some (.ref xS), some (.ref 0), some (.ref 38), some (.int x3)], [], (xSH, I, L, xR0)) else if y0 = 11 then X d scr 0 (297, [some (.ref xS), some (.ref 0), some (.ref 38), some (.int x3)], [], (xSH, I, L, xR0)) else X d scr 0 (310, [some (.ref xS), some (.ref 0), some (.ref 38), some (.int x3)], [], (xSH, I, L, xR0)) := by
  by_cases h0 : y0 = 0
  · subst h0; rw [if_pos rfl]; exact X_sw (off := 64) d_0_32 rfl (by decide) (by decide) (by decide)
  rw [if_neg h0]
  have n0 : ¬ (0 : Int) = y0.toInt := fun z => h0 (Int32.toInt_inj.mp (z.symm.trans (by decide)))
  by_cases h1 : y0 = 1
  · subst h1; rw [if_pos rfl]; exact X_sw (off := 87) d_0_32 rfl (by decide) (by decide) (by decide)
  rw [if_neg h1]
  have n1 : ¬ (1 : Int) = y0.toInt := fun z => h1 (Int32.toInt_inj.mp (z.symm.trans (by decide)))
  by_cases h2 : y0 = 2
  · subst h2; rw [if_pos rfl]; exact X_sw (off := 100) d_0_32 rfl (by decide) (by decide) (by decide)
  rw [if_neg h2]
  have n2 : ¬ (2 : Int) = y0.toInt := fun z => h2 (Int32.toInt_inj.mp (z.symm.trans (by decide)))
  by_cases h3 : y0 = 3
  · subst h3; rw [if_pos rfl]; exact X_sw (off := 111) d_0_32 rfl (by decide) (by decide) (by decide)
  rw [if_neg h3]
  have n3 : ¬ (3 : Int) = y0.toInt := fun z => h3 (Int32.toInt_inj.mp (z.symm.trans (by decide)))
  by_cases h4 : y0 = 4
  · subst h4; rw [if_pos rfl]; exact X_sw (off := 144) d_0_32 rfl (by decide) (by decide) (by decide)
  rw [if_neg h4]
  have n4 : ¬ (4 : Int) = y0.toInt := fun z => h4 (Int32.toInt_inj.mp (z.symm.trans (by decide)))
  by_cases h5 : y0 = 5
  · subst h5; rw [if_pos rfl]; exact X_sw (off := 157) d_0_32 rfl (by decide) (by decide) (by decide)
  rw [if_neg h5]
  have n5 : ¬ (5 : Int) = y0.toInt := fun z => h5 (Int32.toInt_inj.mp (z.symm.trans (by decide)))
  by_cases h6 : y0 = 6
  · subst h6; rw [if_pos rfl]; exact X_sw (off := 170) d_0_32 rfl (by decide) (by decide) (by decide)
  rw [if_neg h6]
  have n6 : ¬ (6 : Int) = y0.toInt := fun z => h6 (Int32.toInt_inj.mp (z.symm.trans (by decide)))
  by_cases h7 : y0 = 7
  · subst h7; rw [if_pos rfl]; exact X_sw (off := 203) d_0_32 rfl (by decide) (by decide) (by decide)
  rw [if_neg h7]
  have n7 : ¬ (7 : Int) = y0.toInt := fun z => h7 (Int32.toInt_inj.mp (z.symm.trans (by decide)))
  by_cases h8 : y0 = 8
  · subst h8; rw [if_pos rfl]; exact X_sw (off := 226) d_0_32 rfl (by decide) (by decide) (by decide)
  rw [if_neg h8]
  have n8 : ¬ (8 : Int) = y0.toInt := fun z => h8 (Int32.toInt_inj.mp (z.symm.trans (by decide)))
  by_cases h9 : y0 = 9
  · subst h9; rw [if_pos rfl]; exact X_sw (off := 239) d_0_32 rfl (by decide) (by decide) (by decide)
  rw [if_neg h9]
  have n9 : ¬ (9 : Int) = y0.toInt := fun z => h9 (Int32.toInt_inj.mp (z.symm.trans (by decide)))
  by_cases h10 : y0 = 10
  · subst h10; rw [if_pos rfl]; exact X_sw (off := 252) d_0_32 rfl (by decide) (by decide) (by decide)
  rw [if_neg h10]
  have n10 : ¬ (10 : Int) = y0.toInt := fun z => h10 (Int32.toInt_inj.mp (z.symm.trans (by decide)))
  by_cases h11 : y0 = 11
  · subst h11; rw [if_pos rfl]; exact X_sw (off := 265) d_0_32 rfl (by decide) (by decide) (by decide)
  rw [if_neg h11]
  have n11 : ¬ (11 : Int) = y0.toInt := fun z => h11 (Int32.toInt_inj.mp (z.symm.trans (by decide)))
  exact X_so d_0_32 rfl (by omega) (by decide)
theorem e_23_1 {d : Nat} {scr : xScr} {I : Nat → Nat → Int32} {L : Nat → Nat → Int64} {x0 : Int32} {y0 : Int32} : X d scr 23 (1, [some (.int x0)], [.int y0], (xSH, I, L, xR0)) = if y0 = 40 then X d scr 23 (84, [some (.int x0)], [], (xSH, I, L, xR0)) else if y0 = 41 then X d scr 23 (84, [some (.int x0)], [], (xSH, I, L, xR0)) else if y0 = 47 then X d scr 23 (84, [some (.int x0)], [], (xSH, I, L, xR0)) else if y0 = 60 then X d scr 23 (84, [some (.int x0)], [], (xSH, I, L, xR0)) else if y0 = 62 then X d scr 23 (84, [some (.int x0)], [], (xSH, I, L, xR0)) else if y0 = 91 then X d scr 23 (84, [some (.int x0)], [], (xSH, I, L, xR0)) else if y0 = 93 then X d scr 23 (84, [some (.int x0)], [], (xSH, I, L, xR0)) else if y0 = 123 then X d scr 23 (84, [some (.int x0)], [], (xSH, I, L, xR0)) else if y0 = 125 then X d scr 23 (84, [some (.int x0)], [], (xSH, I, L, xR0)) else X d scr 23 (86, [some (.int x0)], [], (xSH, I, L, xR0)) := by
  by_cases h0 : y0 = 40
  · subst h0; rw [if_pos rfl]; exact X_lk (off := 83) d_23_1 rfl (by decide) (by decide) (by decide)
  rw [if_neg h0]
  have n0 : ¬ (40 : Int) = y0.toInt := fun z => h0 (Int32.toInt_inj.mp (z.symm.trans (by decide)))
  by_cases h1 : y0 = 41
  · subst h1; rw [if_pos rfl]; exact X_lk (off := 83) d_23_1 rfl (by decide) (by decide) (by decide)
  rw [if_neg h1]
  have n1 : ¬ (41 : Int) = y0.toInt := fun z => h1 (Int32.toInt_inj.mp (z.symm.trans (by decide)))
  by_cases h2 : y0 = 47
  · subst h2; rw [if_pos rfl]; exact X_lk (off := 83) d_23_1 rfl (by decide) (by decide) (by decide)
  rw [if_neg h2]
  have n2 : ¬ (47 : Int) = y0.toInt := fun z => h2 (Int32.toInt_inj.mp (z.symm.trans (by decide)))
  by_cases h3 : y0 = 60
  · subst h3; rw [if_pos rfl]; exact X_lk (off := 83) d_23_1 rfl (by decide) (by decide) (by decide)
  rw [if_neg h3]
  have n3 : ¬ (60 : Int) = y0.toInt := fun z => h3 (Int32.toInt_inj.mp (z.symm.trans (by decide)))
  by_cases h4 : y0 = 62
  · subst h4; rw [if_pos rfl]; exact X_lk (off := 83) d_23_1 rfl (by decide) (by decide) (by decide)
  rw [if_neg h4]
  have n4 : ¬ (62 : Int) = y0.toInt := fun z => h4 (Int32.toInt_inj.mp (z.symm.trans (by decide)))
  by_cases h5 : y0 = 91
  · subst h5; rw [if_pos rfl]; exact X_lk (off := 83) d_23_1 rfl (by decide) (by decide) (by decide)
  rw [if_neg h5]
  have n5 : ¬ (91 : Int) = y0.toInt := fun z => h5 (Int32.toInt_inj.mp (z.symm.trans (by decide)))
  by_cases h6 : y0 = 93
  · subst h6; rw [if_pos rfl]; exact X_lk (off := 83) d_23_1 rfl (by decide) (by decide) (by decide)
  rw [if_neg h6]
  have n6 : ¬ (93 : Int) = y0.toInt := fun z => h6 (Int32.toInt_inj.mp (z.symm.trans (by decide)))
  by_cases h7 : y0 = 123
  · subst h7; rw [if_pos rfl]; exact X_lk (off := 83) d_23_1 rfl (by decide) (by decide) (by decide)
  rw [if_neg h7]
  have n7 : ¬ (123 : Int) = y0.toInt := fun z => h7 (Int32.toInt_inj.mp (z.symm.trans (by decide)))
  by_cases h8 : y0 = 125
  · subst h8; rw [if_pos rfl]; exact X_lk (off := 83) d_23_1 rfl (by decide) (by decide) (by decide)
  rw [if_neg h8]
  have n8 : ¬ (125 : Int) = y0.toInt := fun z => h8 (Int32.toInt_inj.mp (z.symm.trans (by decide)))
  refine X_lk (off := 85) d_23_1 rfl (by decide) ?_ (by decide)
  show Op.lookupswitch.offset [(40, 83), (41, 83), (47, 83), (60, 83), (62, 83), (91, 83), (93, 83), (123, 83), (125, 83)] 85 y0.toInt = 85
  rw [Op.lookupswitch.offset_cons, if_neg n0, Op.lookupswitch.offset_cons, if_neg n1, Op.lookupswitch.offset_cons, if_neg n2, Op.lookupswitch.offset_cons, if_neg n3, Op.lookupswitch.offset_cons, if_neg n4, Op.lookupswitch.offset_cons, if_neg n5, Op.lookupswitch.offset_cons, if_neg n6, Op.lookupswitch.offset_cons, if_neg n7, Op.lookupswitch.offset_cons, if_neg n8, Op.lookupswitch.offset_nil]
theorem e_34_1 {d : Nat} {scr : xScr} {I : Nat → Nat → Int32} {L : Nat → Nat → Int64} {x0 : Int32} {y0 : Int32} : X d scr 34 (1, [some (.int x0)], [.int y0], (xSH, I, L, xR0)) = if y0 = 81 then X d scr 34 (124, [some (.int x0)], [], (xSH, I, L, xR0)) else if y0 = 87 then X d scr 34 (124, [some (.int x0)], [], (xSH, I, L, xR0)) else if y0 = 99 then X d scr 34 (132, [some (.int x0)], [], (xSH, I, L, xR0)) else if y0 = 102 then X d scr 34 (124, [some (.int x0)], [], (xSH, I, L, xR0)) else if y0 = 103 then X d scr 34 (126, [some (.int x0)], [], (xSH, I, L, xR0)) else if y0 = 104 then X d scr 34 (124, [some (.int x0)], [], (xSH, I, L, xR0)) else if y0 = 108 then X d scr 34 (128, [some (.int x0)], [], (xSH, I, L, xR0)) else if y0 = 109 then X d scr 34 (128, [some (.int x0)], [], (xSH, I, L, xR0)) else if y0 = 110 then X d scr 34 (124, [some (.int x0)], [], (xSH, I, L, xR0)) else if y0 = 113 then X d scr 34 (124, [some (.int x0)], [], (xSH, I, L, xR0)) else if y0 = 10839 then X d scr 34 (124, [some (.int x0)], [], (xSH, I, L, xR0)) else if y0 = 10854 then X d scr 34 (124, [some (.int x0)], [], (xSH, I, L, xR0)) else if y0 = 25970 then X d scr 34 (130, [some (.int x0)], [], (xSH, I, L, xR0)) else if y0 = 28003 then X d scr 34 (132, [some (.int x0)], [], (xSH, I, L, xR0)) else X d scr 34 (135, [some (.int x0)], [], (xSH, I, L, xR0)) := by
  by_cases h0 : y0 = 81
  · subst h0; rw [if_pos rfl]; exact X_lk (off := 123) d_34_1 rfl (by decide) (by decide) (by decide)
  rw [if_neg h0]
  have n0 : ¬ (81 : Int) = y0.toInt := fun z => h0 (Int32.toInt_inj.mp (z.symm.trans (by decide)))
  by_cases h1 : y0 = 87
  · subst h1; rw [if_pos rfl]; exact X_lk (off := 123) d_34_1 rfl (by decide) (by decide) (by decide)
  rw [if_neg h1]
  have n1 : ¬ (87 : Int) = y0.toInt := fun z => h1 (Int32.toInt_inj.mp (z.symm.trans (by decide)))
  by_cases h2 : y0 = 99
  · subst h2; rw [if_pos rfl]; exact X_lk (off := 131) d_34_1 rfl (by decide) (by decide) (by decide)
  rw [if_neg h2]
  have n2 : ¬ (99 : Int) = y0.toInt := fun z => h2 (Int32.toInt_inj.mp (z.symm.trans (by decide)))
  by_cases h3 : y0 = 102
  · subst h3; rw [if_pos rfl]; exact X_lk (off := 123) d_34_1 rfl (by decide) (by decide) (by decide)
  rw [if_neg h3]
  have n3 : ¬ (102 : Int) = y0.toInt := fun z => h3 (Int32.toInt_inj.mp (z.symm.trans (by decide)))
  by_cases h4 : y0 = 103
  · subst h4; rw [if_pos rfl]; exact X_lk (off := 125) d_34_1 rfl (by decide) (by decide) (by decide)
  rw [if_neg h4]
  have n4 : ¬ (103 : Int) = y0.toInt := fun z => h4 (Int32.toInt_inj.mp (z.symm.trans (by decide)))
  by_cases h5 : y0 = 104
  · subst h5; rw [if_pos rfl]; exact X_lk (off := 123) d_34_1 rfl (by decide) (by decide) (by decide)
  rw [if_neg h5]
  have n5 : ¬ (104 : Int) = y0.toInt := fun z => h5 (Int32.toInt_inj.mp (z.symm.trans (by decide)))
  by_cases h6 : y0 = 108
  · subst h6; rw [if_pos rfl]; exact X_lk (off := 127) d_34_1 rfl (by decide) (by decide) (by decide)
  rw [if_neg h6]
  have n6 : ¬ (108 : Int) = y0.toInt := fun z => h6 (Int32.toInt_inj.mp (z.symm.trans (by decide)))
  by_cases h7 : y0 = 109
  · subst h7; rw [if_pos rfl]; exact X_lk (off := 127) d_34_1 rfl (by decide) (by decide) (by decide)
  rw [if_neg h7]
  have n7 : ¬ (109 : Int) = y0.toInt := fun z => h7 (Int32.toInt_inj.mp (z.symm.trans (by decide)))
  by_cases h8 : y0 = 110
  · subst h8; rw [if_pos rfl]; exact X_lk (off := 123) d_34_1 rfl (by decide) (by decide) (by decide)
  rw [if_neg h8]
  have n8 : ¬ (110 : Int) = y0.toInt := fun z => h8 (Int32.toInt_inj.mp (z.symm.trans (by decide)))
  by_cases h9 : y0 = 113
  · subst h9; rw [if_pos rfl]; exact X_lk (off := 123) d_34_1 rfl (by decide) (by decide) (by decide)
  rw [if_neg h9]
  have n9 : ¬ (113 : Int) = y0.toInt := fun z => h9 (Int32.toInt_inj.mp (z.symm.trans (by decide)))
  by_cases h10 : y0 = 10839
  · subst h10; rw [if_pos rfl]; exact X_lk (off := 123) d_34_1 rfl (by decide) (by decide) (by decide)
  rw [if_neg h10]
  have n10 : ¬ (10839 : Int) = y0.toInt := fun z => h10 (Int32.toInt_inj.mp (z.symm.trans (by decide)))
  by_cases h11 : y0 = 10854
  · subst h11; rw [if_pos rfl]; exact X_lk (off := 123) d_34_1 rfl (by decide) (by decide) (by decide)
  rw [if_neg h11]
  have n11 : ¬ (10854 : Int) = y0.toInt := fun z => h11 (Int32.toInt_inj.mp (z.symm.trans (by decide)))
  by_cases h12 : y0 = 25970
  · subst h12; rw [if_pos rfl]; exact X_lk (off := 129) d_34_1 rfl (by decide) (by decide) (by decide)
  rw [if_neg h12]
  have n12 : ¬ (25970 : Int) = y0.toInt := fun z => h12 (Int32.toInt_inj.mp (z.symm.trans (by decide)))
  by_cases h13 : y0 = 28003
  · subst h13; rw [if_pos rfl]; exact X_lk (off := 131) d_34_1 rfl (by decide) (by decide) (by decide)
  rw [if_neg h13]
  have n13 : ¬ (28003 : Int) = y0.toInt := fun z => h13 (Int32.toInt_inj.mp (z.symm.trans (by decide)))
  refine X_lk (off := 134) d_34_1 rfl (by decide) ?_ (by decide)
  show Op.lookupswitch.offset [(81, 123), (87, 123), (99, 131), (102, 123), (103, 125), (104, 123), (108, 127), (109, 127), (110, 123), (113, 123), (10839, 123), (10854, 123), (25970, 129), (28003, 131)] 134 y0.toInt = 134
  rw [Op.lookupswitch.offset_cons, if_neg n0, Op.lookupswitch.offset_cons, if_neg n1, Op.lookupswitch.offset_cons, if_neg n2, Op.lookupswitch.offset_cons, if_neg n3, Op.lookupswitch.offset_cons, if_neg n4, Op.lookupswitch.offset_cons, if_neg n5, Op.lookupswitch.offset_cons, if_neg n6, Op.lookupswitch.offset_cons, if_neg n7, Op.lookupswitch.offset_cons, if_neg n8, Op.lookupswitch.offset_cons, if_neg n9, Op.lookupswitch.offset_cons, if_neg n10, Op.lookupswitch.offset_cons, if_neg n11, Op.lookupswitch.offset_cons, if_neg n12, Op.lookupswitch.offset_cons, if_neg n13, Op.lookupswitch.offset_nil]
theorem e_35_1 {d : Nat} {scr : xScr} {I : Nat → Nat → Int32} {L : Nat → Nat → Int64} {x1 : Int32} {y0 : Int32} : X d scr 35 (1, [some (.ref 3), some (.int x1)], [.int y0], (xSH, I, L, xR0)) = if y0 = 81 then X d scr 35 (70, [some (.ref 3), some (.int x1)], [], (xSH, I, L, xR0)) else if y0 = 102 then X d scr 35 (68, [some (.ref 3), some (.int x1)], [], (xSH, I, L, xR0)) else if y0 = 103 then X d scr 35 (70, [some (.ref 3), some (.int x1)], [], (xSH, I, L, xR0)) else if y0 = 110 then X d scr 35 (68, [some (.ref 3), some (.int x1)], [], (xSH, I, L, xR0)) else if y0 = 113 then X d scr 35 (70, [some (.ref 3), some (.int x1)], [], (xSH, I, L, xR0)) else if y0 = 10854 then X d scr 35 (68, [some (.ref 3), some (.int x1)], [], (xSH, I, L, xR0)) else if y0 = 28003 then X d scr 35 (70, [some (.ref 3), some (.int x1)], [], (xSH, I, L, xR0)) else X d scr 35 (78, [some (.ref 3), some (.int x1)], [], (xSH, I, L, xR0)) := by
  by_cases h0 : y0 = 81
  · subst h0; rw [if_pos rfl]; exact X_lk (off := 69) d_35_1 rfl (by decide) (by decide) (by decide)
  rw [if_neg h0]
  have n0 : ¬ (81 : Int) = y0.toInt := fun z => h0 (Int32.toInt_inj.mp (z.symm.trans (by decide)))
  by_cases h1 : y0 = 102
  · subst h1; rw [if_pos rfl]; exact X_lk (off := 67) d_35_1 rfl (by decide) (by decide) (by decide)
  rw [if_neg h1]
  have n1 : ¬ (102 : Int) = y0.toInt := fun z => h1 (Int32.toInt_inj.mp (z.symm.trans (by decide)))
  by_cases h2 : y0 = 103
  · subst h2; rw [if_pos rfl]; exact X_lk (off := 69) d_35_1 rfl (by decide) (by decide) (by decide)
  rw [if_neg h2]
  have n2 : ¬ (103 : Int) = y0.toInt := fun z => h2 (Int32.toInt_inj.mp (z.symm.trans (by decide)))
  by_cases h3 : y0 = 110
  · subst h3; rw [if_pos rfl]; exact X_lk (off := 67) d_35_1 rfl (by decide) (by decide) (by decide)
  rw [if_neg h3]
  have n3 : ¬ (110 : Int) = y0.toInt := fun z => h3 (Int32.toInt_inj.mp (z.symm.trans (by decide)))
  by_cases h4 : y0 = 113
  · subst h4; rw [if_pos rfl]; exact X_lk (off := 69) d_35_1 rfl (by decide) (by decide) (by decide)
  rw [if_neg h4]
  have n4 : ¬ (113 : Int) = y0.toInt := fun z => h4 (Int32.toInt_inj.mp (z.symm.trans (by decide)))
  by_cases h5 : y0 = 10854
  · subst h5; rw [if_pos rfl]; exact X_lk (off := 67) d_35_1 rfl (by decide) (by decide) (by decide)
  rw [if_neg h5]
  have n5 : ¬ (10854 : Int) = y0.toInt := fun z => h5 (Int32.toInt_inj.mp (z.symm.trans (by decide)))
  by_cases h6 : y0 = 28003
  · subst h6; rw [if_pos rfl]; exact X_lk (off := 69) d_35_1 rfl (by decide) (by decide) (by decide)
  rw [if_neg h6]
  have n6 : ¬ (28003 : Int) = y0.toInt := fun z => h6 (Int32.toInt_inj.mp (z.symm.trans (by decide)))
  refine X_lk (off := 77) d_35_1 rfl (by decide) ?_ (by decide)
  show Op.lookupswitch.offset [(81, 69), (102, 67), (103, 69), (110, 67), (113, 69), (10854, 67), (28003, 69)] 77 y0.toInt = 77
  rw [Op.lookupswitch.offset_cons, if_neg n0, Op.lookupswitch.offset_cons, if_neg n1, Op.lookupswitch.offset_cons, if_neg n2, Op.lookupswitch.offset_cons, if_neg n3, Op.lookupswitch.offset_cons, if_neg n4, Op.lookupswitch.offset_cons, if_neg n5, Op.lookupswitch.offset_cons, if_neg n6, Op.lookupswitch.offset_nil]
theorem e_36_1 {d : Nat} {scr : xScr} {I : Nat → Nat → Int32} {L : Nat → Nat → Int64} {x0 : Int32} {y0 : Int32} : X d scr 36 (1, [some (.int x0)], [.int y0], (xSH, I, L, xR0)) = if y0 = 87 then X d scr 36 (76, [some (.int x0)], [], (xSH, I, L, xR0)) else if y0 = 99 then X d scr 36 (76, [some (.int x0)], [], (xSH, I, L, xR0)) else if y0 = 102 then X d scr 36 (76, [some (.int x0)], [], (xSH, I, L, xR0)) else if y0 = 104 then X d scr 36 (76, [some (.int x0)], [], (xSH, I, L, xR0)) else if y0 = 108 then X d scr 36 (76, [some (.int x0)], [], (xSH, I, L, xR0)) else if y0 = 110 then X d scr 36 (76, [some (.int x0)], [], (xSH, I, L, xR0)) else if y0 = 10839 then X d scr 36 (76, [some (.int x0)], [], (xSH, I, L, xR0)) else if y0 = 10854 then X d scr 36 (76, [some (.int x0)], [], (xSH, I, L, xR0)) else X d scr 36 (78, [some (.int x0)], [], (xSH, I, L, xR0)) := by
  by_cases h0 : y0 = 87
  · subst h0; rw [if_pos rfl]; exact X_lk (off := 75) d_36_1 rfl (by decide) (by decide) (by decide)
  rw [if_neg h0]
  have n0 : ¬ (87 : Int) = y0.toInt := fun z => h0 (Int32.toInt_inj.mp (z.symm.trans (by decide)))
  by_cases h1 : y0 = 99
  · subst h1; rw [if_pos rfl]; exact X_lk (off := 75) d_36_1 rfl (by decide) (by decide) (by decide)
  rw [if_neg h1]
  have n1 : ¬ (99 : Int) = y0.toInt := fun z => h1 (Int32.toInt_inj.mp (z.symm.trans (by decide)))
  by_cases h2 : y0 = 102
  · subst h2; rw [if_pos rfl]; exact X_lk (off := 75) d_36_1 rfl (by decide) (by decide) (by decide)
  rw [if_neg h2]
  have n2 : ¬ (102 : Int) = y0.toInt := fun z => h2 (Int32.toInt_inj.mp (z.symm.trans (by decide)))
  by_cases h3 : y0 = 104
  · subst h3; rw [if_pos rfl]; exact X_lk (off := 75) d_36_1 rfl (by decide) (by decide) (by decide)
  rw [if_neg h3]
  have n3 : ¬ (104 : Int) = y0.toInt := fun z => h3 (Int32.toInt_inj.mp (z.symm.trans (by decide)))
  by_cases h4 : y0 = 108
  · subst h4; rw [if_pos rfl]; exact X_lk (off := 75) d_36_1 rfl (by decide) (by decide) (by decide)
  rw [if_neg h4]
  have n4 : ¬ (108 : Int) = y0.toInt := fun z => h4 (Int32.toInt_inj.mp (z.symm.trans (by decide)))
  by_cases h5 : y0 = 110
  · subst h5; rw [if_pos rfl]; exact X_lk (off := 75) d_36_1 rfl (by decide) (by decide) (by decide)
  rw [if_neg h5]
  have n5 : ¬ (110 : Int) = y0.toInt := fun z => h5 (Int32.toInt_inj.mp (z.symm.trans (by decide)))
  by_cases h6 : y0 = 10839
  · subst h6; rw [if_pos rfl]; exact X_lk (off := 75) d_36_1 rfl (by decide) (by decide) (by decide)
  rw [if_neg h6]
  have n6 : ¬ (10839 : Int) = y0.toInt := fun z => h6 (Int32.toInt_inj.mp (z.symm.trans (by decide)))
  by_cases h7 : y0 = 10854
  · subst h7; rw [if_pos rfl]; exact X_lk (off := 75) d_36_1 rfl (by decide) (by decide) (by decide)
  rw [if_neg h7]
  have n7 : ¬ (10854 : Int) = y0.toInt := fun z => h7 (Int32.toInt_inj.mp (z.symm.trans (by decide)))
  refine X_lk (off := 77) d_36_1 rfl (by decide) ?_ (by decide)
  show Op.lookupswitch.offset [(87, 75), (99, 75), (102, 75), (104, 75), (108, 75), (110, 75), (10839, 75), (10854, 75)] 77 y0.toInt = 77
  rw [Op.lookupswitch.offset_cons, if_neg n0, Op.lookupswitch.offset_cons, if_neg n1, Op.lookupswitch.offset_cons, if_neg n2, Op.lookupswitch.offset_cons, if_neg n3, Op.lookupswitch.offset_cons, if_neg n4, Op.lookupswitch.offset_cons, if_neg n5, Op.lookupswitch.offset_cons, if_neg n6, Op.lookupswitch.offset_cons, if_neg n7, Op.lookupswitch.offset_nil]
theorem e_37_1 {d : Nat} {scr : xScr} {I : Nat → Nat → Int32} {L : Nat → Nat → Int64} {x1 : Int32} {y0 : Int32} : X d scr 37 (1, [some (.ref 3), some (.int x1), none, none], [.int y0], (xSH, I, L, xR0)) = if y0 = 99 then X d scr 37 (110, [some (.ref 3), some (.int x1), none, none], [], (xSH, I, L, xR0)) else if y0 = 103 then X d scr 37 (60, [some (.ref 3), some (.int x1), none, none], [], (xSH, I, L, xR0)) else if y0 = 108 then X d scr 37 (92, [some (.ref 3), some (.int x1), none, none], [], (xSH, I, L, xR0)) else if y0 = 109 then X d scr 37 (92, [some (.ref 3), some (.int x1), none, none], [], (xSH, I, L, xR0)) else if y0 = 25970 then X d scr 37 (176, [some (.ref 3), some (.int x1), none, none], [], (xSH, I, L, xR0)) else if y0 = 28003 then X d scr 37 (87, [some (.ref 3), some (.int x1), none, none], [], (xSH, I, L, xR0)) else X d scr 37 (270, [some (.ref 3), some (.int x1), none, none], [], (xSH, I, L, xR0)) := by
  by_cases h0 : y0 = 99
  · subst h0; rw [if_pos rfl]; exact X_lk (off := 109) d_37_1 rfl (by decide) (by decide) (by decide)
  rw [if_neg h0]
  have n0 : ¬ (99 : Int) = y0.toInt := fun z => h0 (Int32.toInt_inj.mp (z.symm.trans (by decide)))
  by_cases h1 : y0 = 103
  · subst h1; rw [if_pos rfl]; exact X_lk (off := 59) d_37_1 rfl (by decide) (by decide) (by decide)
  rw [if_neg h1]
  have n1 : ¬ (103 : Int) = y0.toInt := fun z => h1 (Int32.toInt_inj.mp (z.symm.trans (by decide)))
  by_cases h2 : y0 = 108
  · subst h2; rw [if_pos rfl]; exact X_lk (off := 91) d_37_1 rfl (by decide) (by decide) (by decide)
  rw [if_neg h2]
  have n2 : ¬ (108 : Int) = y0.toInt := fun z => h2 (Int32.toInt_inj.mp (z.symm.trans (by decide)))
  by_cases h3 : y0 = 109
  · subst h3; rw [if_pos rfl]; exact X_lk (off := 91) d_37_1 rfl (by decide) (by decide) (by decide)
  rw [if_neg h3]
  have n3 : ¬ (109 : Int) = y0.toInt := fun z => h3 (Int32.toInt_inj.mp (z.symm.trans (by decide)))
  by_cases h4 : y0 = 25970
  · subst h4; rw [if_pos rfl]; exact X_lk (off := 175) d_37_1 rfl (by decide) (by decide) (by decide)
  rw [if_neg h4]
  have n4 : ¬ (25970 : Int) = y0.toInt := fun z => h4 (Int32.toInt_inj.mp (z.symm.trans (by decide)))
  by_cases h5 : y0 = 28003
  · subst h5; rw [if_pos rfl]; exact X_lk (off := 86) d_37_1 rfl (by decide) (by decide) (by decide)
  rw [if_neg h5]
  have n5 : ¬ (28003 : Int) = y0.toInt := fun z => h5 (Int32.toInt_inj.mp (z.symm.trans (by decide)))
  refine X_lk (off := 269) d_37_1 rfl (by decide) ?_ (by decide)
  show Op.lookupswitch.offset [(99, 109), (103, 59), (108, 91), (109, 91), (25970, 175), (28003, 86)] 269 y0.toInt = 269
  rw [Op.lookupswitch.offset_cons, if_neg n0, Op.lookupswitch.offset_cons, if_neg n1, Op.lookupswitch.offset_cons, if_neg n2, Op.lookupswitch.offset_cons, if_neg n3, Op.lookupswitch.offset_cons, if_neg n4, Op.lookupswitch.offset_cons, if_neg n5, Op.lookupswitch.offset_nil]
theorem e_43_1 {d : Nat} {scr : xScr} {I : Nat → Nat → Int32} {L : Nat → Nat → Int64} {x0 : Int32} {y0 : Int32} : X d scr 43 (1, [some (.int x0)], [.int y0], (xSH, I, L, xR0)) = if y0 = 99 then X d scr 43 (46, [some (.int x0)], [], (xSH, I, L, xR0)) else if y0 = 104 then X d scr 43 (44, [some (.int x0)], [], (xSH, I, L, xR0)) else if y0 = 108 then X d scr 43 (44, [some (.int x0)], [], (xSH, I, L, xR0)) else if y0 = 25970 then X d scr 43 (46, [some (.int x0)], [], (xSH, I, L, xR0)) else X d scr 43 (48, [some (.int x0)], [], (xSH, I, L, xR0)) := by
  by_cases h0 : y0 = 99
  · subst h0; rw [if_pos rfl]; exact X_lk (off := 45) d_43_1 rfl (by decide) (by decide) (by decide)
  rw [if_neg h0]
  have n0 : ¬ (99 : Int) = y0.toInt := fun z => h0 (Int32.toInt_inj.mp (z.symm.trans (by decide)))
  by_cases h1 : y0 = 104
  · subst h1; rw [if_pos rfl]; exact X_lk (off := 43) d_43_1 rfl (by decide) (by decide) (by decide)
  rw [if_neg h1]
  have n1 : ¬ (104 : Int) = y0.toInt := fun z => h1 (Int32.toInt_inj.mp (z.symm.trans (by decide)))
  by_cases h2 : y0 = 108
  · subst h2; rw [if_pos rfl]; exact X_lk (off := 43) d_43_1 rfl (by decide) (by decide) (by decide)
  rw [if_neg h2]
  have n2 : ¬ (108 : Int) = y0.toInt := fun z => h2 (Int32.toInt_inj.mp (z.symm.trans (by decide)))
  by_cases h3 : y0 = 25970
  · subst h3; rw [if_pos rfl]; exact X_lk (off := 45) d_43_1 rfl (by decide) (by decide) (by decide)
  rw [if_neg h3]
  have n3 : ¬ (25970 : Int) = y0.toInt := fun z => h3 (Int32.toInt_inj.mp (z.symm.trans (by decide)))
  refine X_lk (off := 47) d_43_1 rfl (by decide) ?_ (by decide)
  show Op.lookupswitch.offset [(99, 45), (104, 43), (108, 43), (25970, 45)] 47 y0.toInt = 47
  rw [Op.lookupswitch.offset_cons, if_neg n0, Op.lookupswitch.offset_cons, if_neg n1, Op.lookupswitch.offset_cons, if_neg n2, Op.lookupswitch.offset_cons, if_neg n3, Op.lookupswitch.offset_nil]
theorem e_44_1 {d : Nat} {scr : xScr} {I : Nat → Nat → Int32} {L : Nat → Nat → Int64} {x1 : Int32} {y0 : Int32} : X d scr 44 (1, [some (.ref 3), some (.int x1)], [.int y0], (xSH, I, L, xR0)) = if y0 = 81 then X d scr 44 (95, [some (.ref 3), some (.int x1)], [], (xSH, I, L, xR0)) else if y0 = 103 then X d scr 44 (129, [some (.ref 3), some (.int x1)], [], (xSH, I, L, xR0)) else if y0 = 113 then X d scr 44 (44, [some (.ref 3), some (.int x1)], [], (xSH, I, L, xR0)) else if y0 = 28003 then X d scr 44 (108, [some (.ref 3), some (.int x1)], [], (xSH, I, L, xR0)) else X d scr 44 (145, [some (.ref 3), some (.int x1)], [], (xSH, I, L, xR0)) := by
  by_cases h0 : y0 = 81
  · subst h0; rw [if_pos rfl]; exact X_lk (off := 94) d_44_1 rfl (by decide) (by decide) (by decide)
  rw [if_neg h0]
  have n0 : ¬ (81 : Int) = y0.toInt := fun z => h0 (Int32.toInt_inj.mp (z.symm.trans (by decide)))
  by_cases h1 : y0 = 103
  · subst h1; rw [if_pos rfl]; exact X_lk (off := 128) d_44_1 rfl (by decide) (by decide) (by decide)
  rw [if_neg h1]
  have n1 : ¬ (103 : Int) = y0.toInt := fun z => h1 (Int32.toInt_inj.mp (z.symm.trans (by decide)))
  by_cases h2 : y0 = 113
  · subst h2; rw [if_pos rfl]; exact X_lk (off := 43) d_44_1 rfl (by decide) (by decide) (by decide)
  rw [if_neg h2]
  have n2 : ¬ (113 : Int) = y0.toInt := fun z => h2 (Int32.toInt_inj.mp (z.symm.trans (by decide)))
  by_cases h3 : y0 = 28003
  · subst h3; rw [if_pos rfl]; exact X_lk (off := 107) d_44_1 rfl (by decide) (by decide) (by decide)
  rw [if_neg h3]
  have n3 : ¬ (28003 : Int) = y0.toInt := fun z => h3 (Int32.toInt_inj.mp (z.symm.trans (by decide)))
  refine X_lk (off := 144) d_44_1 rfl (by decide) ?_ (by decide)
  show Op.lookupswitch.offset [(81, 94), (103, 128), (113, 43), (28003, 107)] 144 y0.toInt = 144
  rw [Op.lookupswitch.offset_cons, if_neg n0, Op.lookupswitch.offset_cons, if_neg n1, Op.lookupswitch.offset_cons, if_neg n2, Op.lookupswitch.offset_cons, if_neg n3, Op.lookupswitch.offset_nil]
theorem e_47_1 {d : Nat} {scr : xScr} {I : Nat → Nat → Int32} {L : Nat → Nat → Int64} {x1 : Int32} {y0 : Int32} : X d scr 47 (1, [some (.ref 3), some (.int x1)], [.int y0], (xSH, I, L, xR0)) = if y0 = 99 then X d scr 47 (220, [some (.ref 3), some (.int x1)], [], (xSH, I, L, xR0)) else if y0 = 104 then X d scr 47 (96, [some (.ref 3), some (.int x1)], [], (xSH, I, L, xR0)) else if y0 = 108 then X d scr 47 (74, [some (.ref 3), some (.int x1)], [], (xSH, I, L, xR0)) else if y0 = 109 then X d scr 47 (52, [some (.ref 3), some (.int x1)], [], (xSH, I, L, xR0)) else if y0 = 25970 then X d scr 47 (120, [some (.ref 3), some (.int x1)], [], (xSH, I, L, xR0)) else X d scr 47 (241, [some (.ref 3), some (.int x1)], [], (xSH, I, L, xR0)) := by
  by_cases h0 : y0 = 99
  · subst h0; rw [if_pos rfl]; exact X_lk (off := 219) d_47_1 rfl (by decide) (by decide) (by decide)
  rw [if_neg h0]
  have n0 : ¬ (99 : Int) = y0.toInt := fun z => h0 (Int32.toInt_inj.mp (z.symm.trans (by decide)))
  by_cases h1 : y0 = 104
  · subst h1; rw [if_pos rfl]; exact X_lk (off := 95) d_47_1 rfl (by decide) (by decide) (by decide)
  rw [if_neg h1]
  have n1 : ¬ (104 : Int) = y0.toInt := fun z => h1 (Int32.toInt_inj.mp (z.symm.trans (by decide)))
  by_cases h2 : y0 = 108
  · subst h2; rw [if_pos rfl]; exact X_lk (off := 73) d_47_1 rfl (by decide) (by decide) (by decide)
  rw [if_neg h2]
  have n2 : ¬ (108 : Int) = y0.toInt := fun z => h2 (Int32.toInt_inj.mp (z.symm.trans (by decide)))
  by_cases h3 : y0 = 109
  · subst h3; rw [if_pos rfl]; exact X_lk (off := 51) d_47_1 rfl (by decide) (by decide) (by decide)
  rw [if_neg h3]
  have n3 : ¬ (109 : Int) = y0.toInt := fun z => h3 (Int32.toInt_inj.mp (z.symm.trans (by decide)))
  by_cases h4 : y0 = 25970
  · subst h4; rw [if_pos rfl]; exact X_lk (off := 119) d_47_1 rfl (by decide) (by decide) (by decide)
  rw [if_neg h4]
  have n4 : ¬ (25970 : Int) = y0.toInt := fun z => h4 (Int32.toInt_inj.mp (z.symm.trans (by decide)))
  refine X_lk (off := 240) d_47_1 rfl (by decide) ?_ (by decide)
  show Op.lookupswitch.offset [(99, 219), (104, 95), (108, 73), (109, 51), (25970, 119)] 240 y0.toInt = 240
  rw [Op.lookupswitch.offset_cons, if_neg n0, Op.lookupswitch.offset_cons, if_neg n1, Op.lookupswitch.offset_cons, if_neg n2, Op.lookupswitch.offset_cons, if_neg n3, Op.lookupswitch.offset_cons, if_neg n4, Op.lookupswitch.offset_nil]
theorem e_55_1 {d : Nat} {scr : xScr} {I : Nat → Nat → Int32} {L : Nat → Nat → Int64} {x1 : Int32} {y0 : Int32} : X d scr 55 (1, [some (.ref 3), some (.int x1)], [.int y0], (xSH, I, L, xR0)) = if y0 = 87 then X d scr 55 (52, [some (.ref 3), some (.int x1)], [], (xSH, I, L, xR0)) else if y0 = 102 then X d scr 55 (68, [some (.ref 3), some (.int x1)], [], (xSH, I, L, xR0)) else if y0 = 110 then X d scr 55 (84, [some (.ref 3), some (.int x1)], [], (xSH, I, L, xR0)) else if y0 = 10839 then X d scr 55 (60, [some (.ref 3), some (.int x1)], [], (xSH, I, L, xR0)) else if y0 = 10854 then X d scr 55 (76, [some (.ref 3), some (.int x1)], [], (xSH, I, L, xR0)) else X d scr 55 (92, [some (.ref 3), some (.int x1)], [], (xSH, I, L, xR0)) := by
  by_cases h0 : y0 = 87
  · subst h0; rw [if_pos rfl]; exact X_lk (off := 51) d_55_1 rfl (by decide) (by decide) (by decide)
  rw [if_neg h0]
  have n0 : ¬ (87 : Int) = y0.toInt := fun z => h0 (Int32.toInt_inj.mp (z.symm.trans (by decide)))
  by_cases h1 : y0 = 102
  · subst h1; rw [if_pos rfl]; exact X_lk (off := 67) d_55_1 rfl (by decide) (by decide) (by decide)
  rw [if_neg h1]
  have n1 : ¬ (102 : Int) = y0.toInt := fun z => h1 (Int32.toInt_inj.mp (z.symm.trans (by decide)))
  by_cases h2 : y0 = 110
  · subst h2; rw [if_pos rfl]; exact X_lk (off := 83) d_55_1 rfl (by decide) (by decide) (by decide)
  rw [if_neg h2]
  have n2 : ¬ (110 : Int) = y0.toInt := fun z => h2 (Int32.toInt_inj.mp (z.symm.trans (by decide)))
  by_cases h3 : y0 = 10839
  · subst h3; rw [if_pos rfl]; exact X_lk (off := 59) d_55_1 rfl (by decide) (by decide) (by decide)
  rw [if_neg h3]
  have n3 : ¬ (10839 : Int) = y0.toInt := fun z => h3 (Int32.toInt_inj.mp (z.symm.trans (by decide)))
  by_cases h4 : y0 = 10854
  · subst h4; rw [if_pos rfl]; exact X_lk (off := 75) d_55_1 rfl (by decide) (by decide) (by decide)
  rw [if_neg h4]
  have n4 : ¬ (10854 : Int) = y0.toInt := fun z => h4 (Int32.toInt_inj.mp (z.symm.trans (by decide)))
  refine X_lk (off := 91) d_55_1 rfl (by decide) ?_ (by decide)
  show Op.lookupswitch.offset [(87, 51), (102, 67), (110, 83), (10839, 59), (10854, 75)] 91 y0.toInt = 91
  rw [Op.lookupswitch.offset_cons, if_neg n0, Op.lookupswitch.offset_cons, if_neg n1, Op.lookupswitch.offset_cons, if_neg n2, Op.lookupswitch.offset_cons, if_neg n3, Op.lookupswitch.offset_cons, if_neg n4, Op.lookupswitch.offset_nil]
theorem e_92_6 {d : Nat} {scr : xScr} {I : Nat → Nat → Int32} {L : Nat → Nat → Int64} {x1 : Int32} {y0 : Int32} : X d scr 92 (6, [some (.ref 38), some (.int x1), some (.ref 50), none, none, none, none, none, none, none, none, none, none, none, none], [.int y0], (xSH, I, L, xR0)) = if y0 = 0 then X d scr 92 (64, [some (.ref 38), some (.int x1), some (.ref 50), none, none, none, none, none, none, none, none, none, none, none, none], [], (xSH, I, L, xR0)) else if y0 = 1 then X d scr 92 (71, [some (.ref 38), some (.int x1), some (.ref 50), none, none, none, none, none, none, none, none, none, none, none, none], [], (xSH, I, L, xR0)) else if y0 = 2 then X d scr 92 (78, [some (.ref 38), some (.int x1), some (.ref 50), none, none, none, none, none, none, none, none, none, none, none, none], [], (xSH, I, L, xR0)) else if y0 = 3 then X d scr 92 (169, [some (.ref 38), some (.int x1), some (.ref 50), none, none, none, none, none, none, none, none, none, none, none, none], [], (xSH, I, L, xR0)) else if y0 = 4 then X d scr 92 (179, [some (.ref 38), some (.int x1), some (.ref 50), none, none, none, none, none, none, none, none, none, none, none, none], [], (xSH, I, L, xR0)) else if y0 = 5 then X d scr 92 (192, [some (.ref 38), some (.int x1), some (.ref 50), none, none, none, none, none, none, none, none, none, none, none, none], [], (xSH, I, L, xR0)) else if y0 = 6 then X d scr 92 (205, [some (.ref 38), some (.int x1), some (.ref 50), none, none, none, none, none, none, none, none, none, none, none, none], [], (xSH, I, L, xR0)) else if y0 = 7 then X d scr 92 (221, [some (.ref 38), some (.int x1), some (.ref 50), none, none, none, none, none, none, none, none, none, none, none, none], [], (xSH, I, L, xR0)) else if y0 = 8 then X d scr 92 (293, [some (.ref 38), some (.int x1), some (.ref 50), none, none, none, none, none, none, none, none, none, none, none, none], [], (xSH, I, L, xR0)) else if y0 = 9 then X d scr 92 (300, [some (.ref 38), some (.int x1), some (.ref 50), none, none, none, none, none, none, none, none, none, none, none, none], [], (xSH, I, L, xR0)) else if y0 = 10 then X d scr 92 (308, [some (.ref 38), some (.int x1), some (.ref 50), none, none, none, none, none, none, none, none, none, none, none, none], [], (xSH, I, L, xR0)) else X d scr 92 (316, [some (.ref 38), some (.int x1), some (.ref 50), none, none, none, none, none, none, none, none, none, none, none, none], [], (xSH, I, L, xR0)) := by
  by_cases h0 : y0 = 0
  · subst h0; rw [if_pos rfl]; exact X_sw (off := 58) d_92_6 rfl (by decide) (by decide) (by decide)
  rw [if_neg h0]
  have n0 : ¬ (0 : Int) = y0.toInt := fun z => h0 (Int32.toInt_inj.mp (z.symm.trans (by decide)))
  by_cases h1 : y0 = 1
  · subst h1; rw [if_pos rfl]; exact X_sw (off := 65) d_92_6 rfl (by decide) (by decide) (by decide)
  rw [if_neg h1]
  have n1 : ¬ (1 : Int) = y0.toInt := fun z => h1 (Int32.toInt_inj.mp (z.symm.trans (by decide)))
  by_cases h2 : y0 = 2
  · subst h2; rw [if_pos rfl]; exact X_sw (off := 72) d_92_6 rfl (by decide) (by decide) (by decide)
  rw [if_neg h2]
  have n2 : ¬ (2 : Int) = y0.toInt := fun z => h2 (Int32.toInt_inj.mp (z.symm.trans (by decide)))
  by_cases h3 : y0 = 3
  · subst h3; rw [if_pos rfl]; exact X_sw (off := 163) d_92_6 rfl (by decide) (by decide) (by decide)
  rw [if_neg h3]
  have n3 : ¬ (3 : Int) = y0.toInt := fun z => h3 (Int32.toInt_inj.mp (z.symm.trans (by decide)))
  by_cases h4 : y0 = 4
  · subst h4; rw [if_pos rfl]; exact X_sw (off := 173) d_92_6 rfl (by decide) (by decide) (by decide)
  rw [if_neg h4]
  have n4 : ¬ (4 : Int) = y0.toInt := fun z => h4 (Int32.toInt_inj.mp (z.symm.trans (by decide)))
  by_cases h5 : y0 = 5
  · subst h5; rw [if_pos rfl]; exact X_sw (off := 186) d_92_6 rfl (by decide) (by decide) (by decide)
  rw [if_neg h5]
  have n5 : ¬ (5 : Int) = y0.toInt := fun z => h5 (Int32.toInt_inj.mp (z.symm.trans (by decide)))
  by_cases h6 : y0 = 6
  · subst h6; rw [if_pos rfl]; exact X_sw (off := 199) d_92_6 rfl (by decide) (by decide) (by decide)
  rw [if_neg h6]
  have n6 : ¬ (6 : Int) = y0.toInt := fun z => h6 (Int32.toInt_inj.mp (z.symm.trans (by decide)))
  by_cases h7 : y0 = 7
  · subst h7; rw [if_pos rfl]; exact X_sw (off := 215) d_92_6 rfl (by decide) (by decide) (by decide)
  rw [if_neg h7]
  have n7 : ¬ (7 : Int) = y0.toInt := fun z => h7 (Int32.toInt_inj.mp (z.symm.trans (by decide)))
  by_cases h8 : y0 = 8
  · subst h8; rw [if_pos rfl]; exact X_sw (off := 287) d_92_6 rfl (by decide) (by decide) (by decide)
  rw [if_neg h8]
  have n8 : ¬ (8 : Int) = y0.toInt := fun z => h8 (Int32.toInt_inj.mp (z.symm.trans (by decide)))
  by_cases h9 : y0 = 9
  · subst h9; rw [if_pos rfl]; exact X_sw (off := 294) d_92_6 rfl (by decide) (by decide) (by decide)
  rw [if_neg h9]
  have n9 : ¬ (9 : Int) = y0.toInt := fun z => h9 (Int32.toInt_inj.mp (z.symm.trans (by decide)))
  by_cases h10 : y0 = 10
  · subst h10; rw [if_pos rfl]; exact X_sw (off := 302) d_92_6 rfl (by decide) (by decide) (by decide)
  rw [if_neg h10]
  have n10 : ¬ (10 : Int) = y0.toInt := fun z => h10 (Int32.toInt_inj.mp (z.symm.trans (by decide)))
  exact X_so d_92_6 rfl (by omega) (by decide)
