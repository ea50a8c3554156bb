section SQ
variable {d : Nat} {C M K : Nat → Nat → Int32} {L L' L1 : Nat → Nat → Int64} {n w h s c p : Nat} {q o : Int32} {x3 x4 : Option Value}
theorem c_rs_bar (hI : C 1 1 = nI n) (hn : n ≤ 400) (hp : p < n) (h10 : C 3 10 = 0) (hb : cBar (C 2 p) = true) : X (d + 5) none 19 (2, [some (.ref 3), some (.ref 1), some (.int (nI p)), x3, x4], [], (xSH, C, L, xR0)) = X (d + 5) none 19 (2, [some (.ref 3), some (.ref 1), some (.int (nI (tEnd (C 2) n p))), some (.int (C 2 p)), some (.int (nI (tEnd (C 2) n p)))], [], (xSH, xu (xu C 3 10 1) 3 11 (nI p), L, xR0)) := by
  have hc : (nI p).toNatClampNeg = p := nI_clamp (by omega)
  have h2 : ¬ (nI p < 0 ∨ 400 ≤ p) := q_in (by omega) (by decide)
  have h1 : ¬ nI n ≤ nI p := q_nle hp (by omega)
  have h3 : ¬ nI (tEnd (C 2) n p) < nI (p + 1) := nI_nlt (tEnd_le hp).1 (by have := (@tEnd_le n p (C 2) hp).2; omega)
  rw [e_19_2]
  simp (decide := true) only [e_19_0, e_19_1, e_19_3, e_19_4, e_19_7, e_19_10, e_19_11, e_19_14, e_19_17, e_19_18, e_19_21, e_19_22, e_19_23, e_19_24, e_19_25, e_19_26, e_19_29, e_19_31, e_19_32, e_19_35, e_19_38, e_19_39, e_19_40, e_19_41, e_19_44, e_19_47, e_19_48, e_19_51, e_19_54, e_19_55, e_19_56, e_19_57, e_19_59, e_19_62, e_19_65, e_19_66, e_19_69, e_19_72, e_19_73, e_19_74, e_19_75, e_19_77, e_19_80, e_19_81, e_19_84, e_19_86, e_19_87, e_19_88, e_19_89, e_19_92, e_19_93, e_19_96, e_19_97, e_19_100, e_19_103, e_19_104, e_19_105, e_19_108, e_19_109, e_19_112, e_19_115, hI, h10, hc, h1, h2, h3, c_endOfPiece hI hn hp, c_barred, c_tell, c_max, hb, Option.bind_some, Option.toList_some, Option.toList_none, List.cons_append, List.nil_append, bI_0, nI_1, if_true, if_false]
theorem c_rs_num (hI : C 1 1 = nI n) (hn : n ≤ 400) (hp : p < n) (h10 : C 3 10 = 0) (hb : cBar (C 2 p) = false) (hd : (cDig (C 2 p) || cSgn (C 2 p)) = true) (hK : X (d + 4) none 28 (0, [some (.ref 3), some (.ref 1), some (.int (nI p)), some (.int (nI (tEnd (C 2) n p)))], [], (xSH, C, L, xR0)) = some (none, (xSH, K, L, xR0))) : X (d + 5) none 19 (2, [some (.ref 3), some (.ref 1), some (.int (nI p)), x3, x4], [], (xSH, C, L, xR0)) = X (d + 5) none 19 (2, [some (.ref 3), some (.ref 1), some (.int (nI (tEnd (C 2) n p))), some (.int (C 2 p)), some (.int (nI (tEnd (C 2) n p)))], [], (xSH, K, L, xR0)) := by
  have hc : (nI p).toNatClampNeg = p := nI_clamp (by omega)
  have h2 : ¬ (nI p < 0 ∨ 400 ≤ p) := q_in (by omega) (by decide)
  have h1 : ¬ nI n ≤ nI p := q_nle hp (by omega)
  have h3 : ¬ nI (tEnd (C 2) n p) < nI (p + 1) := nI_nlt (tEnd_le hp).1 (by have := (@tEnd_le n p (C 2) hp).2; omega)
  rw [e_19_2]
  simp (decide := true) only [e_19_0, e_19_1, e_19_3, e_19_4, e_19_7, e_19_10, e_19_11, e_19_14, e_19_17, e_19_18, e_19_21, e_19_22, e_19_23, e_19_24, e_19_25, e_19_26, e_19_29, e_19_31, e_19_32, e_19_35, e_19_38, e_19_39, e_19_40, e_19_41, e_19_44, e_19_47, e_19_48, e_19_51, e_19_54, e_19_55, e_19_56, e_19_57, e_19_59, e_19_62, e_19_65, e_19_66, e_19_69, e_19_72, e_19_73, e_19_74, e_19_75, e_19_77, e_19_80, e_19_81, e_19_84, e_19_86, e_19_87, e_19_88, e_19_89, e_19_92, e_19_93, e_19_96, e_19_97, e_19_100, e_19_103, e_19_104, e_19_105, e_19_108, e_19_109, e_19_112, e_19_115, hI, h10, hc, h1, h2, h3, c_endOfPiece hI hn hp, c_barred, c_begins, hK, c_max, hb, hd, Option.bind_some, Option.toList_some, Option.toList_none, List.cons_append, List.nil_append, bI_0, nI_1, if_true, if_false]
theorem c_rs_skip (hI : C 1 1 = nI n) (hn : n ≤ 400) (hp : p < n) (h10 : C 3 10 = 0) (hb : cBar (C 2 p) = false) (hd : (cDig (C 2 p) || cSgn (C 2 p)) = false) (ht : cTok (C 2 p) = false) : X (d + 5) none 19 (2, [some (.ref 3), some (.ref 1), some (.int (nI p)), x3, x4], [], (xSH, C, L, xR0)) = X (d + 5) none 19 (2, [some (.ref 3), some (.ref 1), some (.int (nI (tEnd (C 2) n p))), some (.int (C 2 p)), some (.int (nI (tEnd (C 2) n p)))], [], (xSH, C, L, xR0)) := by
  have hc : (nI p).toNatClampNeg = p := nI_clamp (by omega)
  have h2 : ¬ (nI p < 0 ∨ 400 ≤ p) := q_in (by omega) (by decide)
  have h1 : ¬ nI n ≤ nI p := q_nle hp (by omega)
  have h3 : ¬ nI (tEnd (C 2) n p) < nI (p + 1) := nI_nlt (tEnd_le hp).1 (by have := (@tEnd_le n p (C 2) hp).2; omega)
  rw [e_19_2]
  simp (decide := true) only [e_19_0, e_19_1, e_19_3, e_19_4, e_19_7, e_19_10, e_19_11, e_19_14, e_19_17, e_19_18, e_19_21, e_19_22, e_19_23, e_19_24, e_19_25, e_19_26, e_19_29, e_19_31, e_19_32, e_19_35, e_19_38, e_19_39, e_19_40, e_19_41, e_19_44, e_19_47, e_19_48, e_19_51, e_19_54, e_19_55, e_19_56, e_19_57, e_19_59, e_19_62, e_19_65, e_19_66, e_19_69, e_19_72, e_19_73, e_19_74, e_19_75, e_19_77, e_19_80, e_19_81, e_19_84, e_19_86, e_19_87, e_19_88, e_19_89, e_19_92, e_19_93, e_19_96, e_19_97, e_19_100, e_19_103, e_19_104, e_19_105, e_19_108, e_19_109, e_19_112, e_19_115, hI, h10, hc, h1, h2, h3, c_endOfPiece hI hn hp, c_barred, c_begins, c_tokenPart, c_max, hb, hd, ht, Option.bind_some, Option.toList_some, Option.toList_none, List.cons_append, List.nil_append, bI_0, nI_1, if_true, if_false]
theorem c_rs_op (hI : C 1 1 = nI n) (hn : n ≤ 400) (hp : p < n) (h10 : C 3 10 = 0) (hb : cBar (C 2 p) = false) (hd : (cDig (C 2 p) || cSgn (C 2 p)) = false) (ht : cTok (C 2 p) = true) (hK : X (d + 4) none 32 (0, [some (.ref 3), some (.int (cOp (C 2) p (tEnd (C 2) n p))), some (.int (nI p)), none], [], (xSH, C, L, xR0)) = some (none, (xSH, K, L, xR0))) : X (d + 5) none 19 (2, [some (.ref 3), some (.ref 1), some (.int (nI p)), x3, x4], [], (xSH, C, L, xR0)) = X (d + 5) none 19 (2, [some (.ref 3), some (.ref 1), some (.int (nI (tEnd (C 2) n p))), some (.int (C 2 p)), some (.int (nI (tEnd (C 2) n p)))], [], (xSH, K, L, xR0)) := by
  have he1 : p < tEnd (C 2) n p := (tEnd_le hp).1
  have he2 : tEnd (C 2) n p ≤ 400 := Nat.le_trans (tEnd_le hp).2 hn
  have hc : (nI p).toNatClampNeg = p := nI_clamp (by omega)
  have h2 : ¬ (nI p < 0 ∨ 400 ≤ p) := q_in (by omega) (by decide)
  have h1 : ¬ nI n ≤ nI p := q_nle hp (by omega)
  have h3 : ¬ nI (tEnd (C 2) n p) < nI (p + 1) := nI_nlt (tEnd_le hp).1 (by have := (@tEnd_le n p (C 2) hp).2; omega)
  rw [e_19_2]
  simp (decide := true) only [e_19_0, e_19_1, e_19_3, e_19_4, e_19_7, e_19_10, e_19_11, e_19_14, e_19_17, e_19_18, e_19_21, e_19_22, e_19_23, e_19_24, e_19_25, e_19_26, e_19_29, e_19_31, e_19_32, e_19_35, e_19_38, e_19_39, e_19_40, e_19_41, e_19_44, e_19_47, e_19_48, e_19_51, e_19_54, e_19_55, e_19_56, e_19_57, e_19_59, e_19_62, e_19_65, e_19_66, e_19_69, e_19_72, e_19_73, e_19_74, e_19_75, e_19_77, e_19_80, e_19_81, e_19_84, e_19_86, e_19_87, e_19_88, e_19_89, e_19_92, e_19_93, e_19_96, e_19_97, e_19_100, e_19_103, e_19_104, e_19_105, e_19_108, e_19_109, e_19_112, e_19_115, hI, h10, hc, h1, h2, h3, c_endOfPiece hI hn hp, c_barred, c_begins, c_tokenPart, c_operatorIn he1 he2, hK, c_max, hb, hd, ht, Option.bind_some, Option.toList_some, Option.toList_none, List.cons_append, List.nil_append, bI_0, nI_1, if_true, if_false]
theorem m_tk_blank (hn : n ≤ 400) (hp : p < n) (hb : cBlank (M 39 p) = true) : X (d + 4) none 78 (0, [some (.ref 38), some (.int (nI p)), none, none, none, none], [], (xSH, M, L, xR0)) = some (some (.int (nI (p + 1))), (xSH, M, L, xR0)) := by
  have hc : (nI p).toNatClampNeg = p := nI_clamp (by omega)
  have h2 : ¬ (nI p < 0 ∨ 400 ≤ p) := q_in (by omega) (by decide)
  simp (decide := true) only [e_78_0, e_78_1, e_78_4, e_78_5, e_78_6, e_78_7, e_78_8, e_78_11, e_78_14, e_78_15, e_78_16, e_78_17, e_78_18, e_78_19, e_78_21, e_78_24, e_78_25, e_78_26, e_78_29, e_78_30, e_78_31, e_78_34, e_78_37, e_78_38, e_78_39, e_78_40, e_78_43, e_78_44, e_78_45, e_78_46, e_78_47, e_78_50, e_78_51, e_78_52, e_78_55, e_78_58, e_78_59, e_78_61, e_78_64, e_78_65, e_78_67, e_78_70, e_78_71, e_78_72, e_78_73, e_78_76, e_78_78, e_78_80, e_78_83, e_78_86, e_78_87, e_78_88, e_78_89, e_78_92, e_78_93, e_78_96, e_78_97, e_78_100, e_78_102, e_78_103, e_78_104, e_78_105, e_78_108, e_78_109, e_78_110, e_78_113, e_78_114, e_78_115, e_78_116, e_78_117, e_78_118, e_78_121, e_78_123, e_78_124, e_78_126, e_78_129, e_78_131, e_78_133, e_78_136, e_78_137, e_78_139, e_78_140, e_78_143, e_78_146, e_78_147, e_78_149, e_78_152, e_78_153, e_78_154, e_78_157, e_78_158, hc, h2, m_blank, hb, Option.bind_some, Option.toList_some, Option.toList_none, List.cons_append, List.nil_append, bI_0, nI_1, if_true, if_false]
theorem m_tk_rem (hI : M 38 1 = nI n) (hn : n ≤ 400) (hp : p < n) (ht : M 39 p = 37) : X (d + 4) none 78 (0, [some (.ref 38), some (.int (nI p)), none, none, none, none], [], (xSH, M, L, xR0)) = some (some (.int (nI (tEnd (M 39) n p))), (xSH, M, L, xR0)) := by
  have hc : (nI p).toNatClampNeg = p := nI_clamp (by omega)
  have h2 : ¬ (nI p < 0 ∨ 400 ≤ p) := q_in (by omega) (by decide)
  have hb : cBlank (M 39 p) = false := by rw [ht]; decide
  simp (decide := true) only [e_78_0, e_78_1, e_78_4, e_78_5, e_78_6, e_78_7, e_78_8, e_78_11, e_78_14, e_78_15, e_78_16, e_78_17, e_78_18, e_78_19, e_78_21, e_78_24, e_78_25, e_78_26, e_78_29, e_78_30, e_78_31, e_78_34, e_78_37, e_78_38, e_78_39, e_78_40, e_78_43, e_78_44, e_78_45, e_78_46, e_78_47, e_78_50, e_78_51, e_78_52, e_78_55, e_78_58, e_78_59, e_78_61, e_78_64, e_78_65, e_78_67, e_78_70, e_78_71, e_78_72, e_78_73, e_78_76, e_78_78, e_78_80, e_78_83, e_78_86, e_78_87, e_78_88, e_78_89, e_78_92, e_78_93, e_78_96, e_78_97, e_78_100, e_78_102, e_78_103, e_78_104, e_78_105, e_78_108, e_78_109, e_78_110, e_78_113, e_78_114, e_78_115, e_78_116, e_78_117, e_78_118, e_78_121, e_78_123, e_78_124, e_78_126, e_78_129, e_78_131, e_78_133, e_78_136, e_78_137, e_78_139, e_78_140, e_78_143, e_78_146, e_78_147, e_78_149, e_78_152, e_78_153, e_78_154, e_78_157, e_78_158, hc, h2, m_blank, hb, m_behind hI hn hp ht, Option.bind_some, Option.toList_some, Option.toList_none, List.cons_append, List.nil_append, bI_0, nI_1, if_true, if_false]
  rw [if_pos ht]
theorem m_tk_bar (hn : n ≤ 400) (hp : p < n) (hb : cBlank (M 39 p) = false) (h37 : ¬ M 39 p = 37) (hr : cBar (M 39 p) = true) : X (d + 4) none 78 (0, [some (.ref 38), some (.int (nI p)), none, none, none, none], [], (xSH, M, L, xR0)) = some (some (.int (nI p)), (xSH, xu (xu M 38 26 1) 38 27 (nI p), L, xR0)) := by
  have hc : (nI p).toNatClampNeg = p := nI_clamp (by omega)
  have h2 : ¬ (nI p < 0 ∨ 400 ≤ p) := q_in (by omega) (by decide)
  simp (decide := true) only [e_78_0, e_78_1, e_78_4, e_78_5, e_78_6, e_78_7, e_78_8, e_78_11, e_78_14, e_78_15, e_78_16, e_78_17, e_78_18, e_78_19, e_78_21, e_78_24, e_78_25, e_78_26, e_78_29, e_78_30, e_78_31, e_78_34, e_78_37, e_78_38, e_78_39, e_78_40, e_78_43, e_78_44, e_78_45, e_78_46, e_78_47, e_78_50, e_78_51, e_78_52, e_78_55, e_78_58, e_78_59, e_78_61, e_78_64, e_78_65, e_78_67, e_78_70, e_78_71, e_78_72, e_78_73, e_78_76, e_78_78, e_78_80, e_78_83, e_78_86, e_78_87, e_78_88, e_78_89, e_78_92, e_78_93, e_78_96, e_78_97, e_78_100, e_78_102, e_78_103, e_78_104, e_78_105, e_78_108, e_78_109, e_78_110, e_78_113, e_78_114, e_78_115, e_78_116, e_78_117, e_78_118, e_78_121, e_78_123, e_78_124, e_78_126, e_78_129, e_78_131, e_78_133, e_78_136, e_78_137, e_78_139, e_78_140, e_78_143, e_78_146, e_78_147, e_78_149, e_78_152, e_78_153, e_78_154, e_78_157, e_78_158, hc, h2, m_blank, hb, h37, m_barred, hr, m_fail, Option.bind_some, Option.toList_some, Option.toList_none, List.cons_append, List.nil_append, bI_0, nI_1, if_true, if_false]
theorem tk_num (x : Int32) (A B : Option (Option Value × xHp)) (hx : (cDig x || cSgn x) = true) : (if cDig x = false then (if x = 43 then A else if x = 45 then A else B) else A) = A := by
  unfold cSgn at hx
  cases h1 : cDig x
  · rw [h1, Bool.false_or, Bool.or_eq_true, decide_eq_true_eq, decide_eq_true_eq] at hx
    rcases hx with z | z
    · simp [z]
    · simp [z]
  · simp
theorem tk_op (x : Int32) (A B : Option (Option Value × xHp)) (hx : (cDig x || cSgn x) = false) : (if cDig x = false then (if x = 43 then A else if x = 45 then A else B) else A) = B := by
  unfold cSgn at hx
  cases h1 : cDig x
  · rw [h1, Bool.false_or, Bool.or_eq_false_iff, decide_eq_false_iff_not, decide_eq_false_iff_not] at hx
    simp [hx]
  · rw [h1] at hx
    simp at hx
theorem m_tk_num (hI : M 38 1 = nI n) (hn : n ≤ 400) (hp : p < n) (ht : cTok (M 39 p) = true) (hd : (cDig (M 39 p) || cSgn (M 39 p)) = true) (hk : numOk (M 39) p (tEnd (M 39) n p) = true) (hc5 : M 38 25 = nI c) (hc4 : c < 400) : X (d + 4) none 78 (0, [some (.ref 38), some (.int (nI p)), none, none, none, none], [], (xSH, M, L, xR0)) = some (some (.int (nI (tEnd (M 39) n p))), (xSH, xu (xu M 50 c (numR (M 39) p (tEnd (M 39) n p))) 38 25 (nI (c + 1)), L, xR0)) := by
  have he1 : p < tEnd (M 39) n p := (tEnd_le hp).1
  have he2 : tEnd (M 39) n p ≤ 400 := Nat.le_trans (tEnd_le hp).2 hn
  have hc : (nI p).toNatClampNeg = p := nI_clamp (by omega)
  have h2 : ¬ (nI p < 0 ∨ 400 ≤ p) := q_in (by omega) (by decide)
  have h3 : (nI c).toNatClampNeg = c := nI_clamp (by omega)
  have h4 : ¬ (nI c < 0 ∨ 400 ≤ c) := q_in (by omega) (by decide)
  have ht' := ht
  unfold cTok at ht'
  simp only [Bool.and_eq_true, Bool.not_eq_true', decide_eq_false_iff_not] at ht'
  obtain ⟨⟨t1, t2⟩, t3⟩ := ht'
  have hk' := numR_ne hk
  simp (decide := true) only [e_78_0, e_78_1, e_78_4, e_78_5, e_78_6, e_78_7, e_78_8, e_78_11, e_78_14, e_78_15, e_78_16, e_78_17, e_78_18, e_78_19, e_78_21, e_78_24, e_78_25, e_78_26, e_78_29, e_78_30, e_78_31, e_78_34, e_78_37, e_78_38, e_78_39, e_78_40, e_78_43, e_78_44, e_78_45, e_78_46, e_78_47, e_78_50, e_78_51, e_78_52, e_78_55, e_78_58, e_78_59, e_78_61, e_78_64, e_78_65, e_78_67, e_78_70, e_78_71, e_78_72, e_78_73, e_78_76, e_78_78, e_78_80, e_78_83, e_78_86, e_78_87, e_78_88, e_78_89, e_78_92, e_78_93, e_78_96, e_78_97, e_78_100, e_78_102, e_78_103, e_78_104, e_78_105, e_78_108, e_78_109, e_78_110, e_78_113, e_78_114, e_78_115, e_78_116, e_78_117, e_78_118, e_78_121, e_78_123, e_78_124, e_78_126, e_78_129, e_78_131, e_78_133, e_78_136, e_78_137, e_78_139, e_78_140, e_78_143, e_78_146, e_78_147, e_78_149, e_78_152, e_78_153, e_78_154, e_78_157, e_78_158, hc, h2, m_blank, t1, t2, t3, m_barred, m_tokenEnd hI hn hp ht, m_digit, m_number he1 he2 hd, hk, hk', hc5, h3, h4, Option.bind_some, Option.toList_some, Option.toList_none, List.cons_append, List.nil_append, bI_0, xu_ne, xu_eq, xs_ne, xs_at, ne_eq, reduceIte, if_true, if_false, not_false_eq_true, nI_1, if_true, if_false]
  exact tk_num _ _ _ hd
theorem m_tk_bad (hI : M 38 1 = nI n) (hn : n ≤ 400) (hp : p < n) (ht : cTok (M 39 p) = true) (hd : (cDig (M 39 p) || cSgn (M 39 p)) = true) (hk : numOk (M 39) p (tEnd (M 39) n p) = false) (hc5 : M 38 25 = nI c) (hc4 : c < 400) : X (d + 4) none 78 (0, [some (.ref 38), some (.int (nI p)), none, none, none, none], [], (xSH, M, L, xR0)) = some (some (.int (nI (tEnd (M 39) n p))), (xSH, xu (xu (xu (xu M 38 26 1) 38 27 (nI p)) 50 c 20000) 38 25 (nI (c + 1)), L, xR0)) := by
  have he1 : p < tEnd (M 39) n p := (tEnd_le hp).1
  have he2 : tEnd (M 39) n p ≤ 400 := Nat.le_trans (tEnd_le hp).2 hn
  have hc : (nI p).toNatClampNeg = p := nI_clamp (by omega)
  have h2 : ¬ (nI p < 0 ∨ 400 ≤ p) := q_in (by omega) (by decide)
  have h3 : (nI c).toNatClampNeg = c := nI_clamp (by omega)
  have h4 : ¬ (nI c < 0 ∨ 400 ≤ c) := q_in (by omega) (by decide)
  have ht' := ht
  unfold cTok at ht'
  simp only [Bool.and_eq_true, Bool.not_eq_true', decide_eq_false_iff_not] at ht'
  obtain ⟨⟨t1, t2⟩, t3⟩ := ht'
  simp (decide := true) only [e_78_0, e_78_1, e_78_4, e_78_5, e_78_6, e_78_7, e_78_8, e_78_11, e_78_14, e_78_15, e_78_16, e_78_17, e_78_18, e_78_19, e_78_21, e_78_24, e_78_25, e_78_26, e_78_29, e_78_30, e_78_31, e_78_34, e_78_37, e_78_38, e_78_39, e_78_40, e_78_43, e_78_44, e_78_45, e_78_46, e_78_47, e_78_50, e_78_51, e_78_52, e_78_55, e_78_58, e_78_59, e_78_61, e_78_64, e_78_65, e_78_67, e_78_70, e_78_71, e_78_72, e_78_73, e_78_76, e_78_78, e_78_80, e_78_83, e_78_86, e_78_87, e_78_88, e_78_89, e_78_92, e_78_93, e_78_96, e_78_97, e_78_100, e_78_102, e_78_103, e_78_104, e_78_105, e_78_108, e_78_109, e_78_110, e_78_113, e_78_114, e_78_115, e_78_116, e_78_117, e_78_118, e_78_121, e_78_123, e_78_124, e_78_126, e_78_129, e_78_131, e_78_133, e_78_136, e_78_137, e_78_139, e_78_140, e_78_143, e_78_146, e_78_147, e_78_149, e_78_152, e_78_153, e_78_154, e_78_157, e_78_158, hc, h2, m_blank, t1, t2, t3, m_barred, m_tokenEnd hI hn hp ht, m_digit, m_number he1 he2 hd, m_fail, hk, hc5, h3, h4, Option.bind_some, Option.toList_some, Option.toList_none, List.cons_append, List.nil_append, bI_0, xu_ne, xu_eq, xs_ne, xs_at, ne_eq, reduceIte, if_true, if_false, not_false_eq_true, nI_1, if_true, if_false]
  exact tk_num _ _ _ hd
theorem m_tk_flt {f : Int32} (hI : M 38 1 = nI n) (hn : n ≤ 400) (hp : p < n) (ht : cTok (M 39 p) = true) (hd : (cDig (M 39 p) || cSgn (M 39 p)) = false) (hw : X (d + 3) none 87 (0, [some (.ref 38), some (.int (mOp (M 39) p (tEnd (M 39) n p))), none], [], (xSH, M, L, xR0)) = some (some (.int f), (xSH, M, L1, xR0))) (hf : ¬ f ≤ 0) : X (d + 4) none 78 (0, [some (.ref 38), some (.int (nI p)), none, none, none, none], [], (xSH, M, L, xR0)) = some (some (.int (nI (tEnd (M 39) n p))), (xSH, xu (xu M 38 26 f) 38 27 (nI p), L1, xR0)) := by
  have he1 : p < tEnd (M 39) n p := (tEnd_le hp).1
  have he2 : tEnd (M 39) n p ≤ 400 := Nat.le_trans (tEnd_le hp).2 hn
  have hc : (nI p).toNatClampNeg = p := nI_clamp (by omega)
  have h2 : ¬ (nI p < 0 ∨ 400 ≤ p) := q_in (by omega) (by decide)
  have ht' := ht
  unfold cTok at ht'
  simp only [Bool.and_eq_true, Bool.not_eq_true', decide_eq_false_iff_not] at ht'
  obtain ⟨⟨t1, t2⟩, t3⟩ := ht'
  simp (decide := true) only [e_78_0, e_78_1, e_78_4, e_78_5, e_78_6, e_78_7, e_78_8, e_78_11, e_78_14, e_78_15, e_78_16, e_78_17, e_78_18, e_78_19, e_78_21, e_78_24, e_78_25, e_78_26, e_78_29, e_78_30, e_78_31, e_78_34, e_78_37, e_78_38, e_78_39, e_78_40, e_78_43, e_78_44, e_78_45, e_78_46, e_78_47, e_78_50, e_78_51, e_78_52, e_78_55, e_78_58, e_78_59, e_78_61, e_78_64, e_78_65, e_78_67, e_78_70, e_78_71, e_78_72, e_78_73, e_78_76, e_78_78, e_78_80, e_78_83, e_78_86, e_78_87, e_78_88, e_78_89, e_78_92, e_78_93, e_78_96, e_78_97, e_78_100, e_78_102, e_78_103, e_78_104, e_78_105, e_78_108, e_78_109, e_78_110, e_78_113, e_78_114, e_78_115, e_78_116, e_78_117, e_78_118, e_78_121, e_78_123, e_78_124, e_78_126, e_78_129, e_78_131, e_78_133, e_78_136, e_78_137, e_78_139, e_78_140, e_78_143, e_78_146, e_78_147, e_78_149, e_78_152, e_78_153, e_78_154, e_78_157, e_78_158, hc, h2, m_blank, t1, t2, t3, m_barred, m_tokenEnd hI hn hp ht, m_digit, m_fail, m_operator he1 he2, hw, hf, Option.bind_some, Option.toList_some, Option.toList_none, List.cons_append, List.nil_append, bI_0, xu_ne, xu_eq, xs_ne, xs_at, ne_eq, reduceIte, if_true, if_false, not_false_eq_true, nI_1, if_true, if_false]
  exact tk_op _ _ _ hd
theorem m_tk_act (hI : M 38 1 = nI n) (hn : n ≤ 400) (hp : p < n) (ht : cTok (M 39 p) = true) (hd : (cDig (M 39 p) || cSgn (M 39 p)) = false) (hw : X (d + 3) none 87 (0, [some (.ref 38), some (.int (mOp (M 39) p (tEnd (M 39) n p))), none], [], (xSH, M, L, xR0)) = some (some (.int 0), (xSH, M, L1, xR0))) (ha : X (d + 3) none 92 (0, [some (.ref 38), some (.int (mOp (M 39) p (tEnd (M 39) n p))), none, none, none, none, none, none, none, none, none, none, none, none, none], [], (xSH, M, L1, xR0)) = some (none, (xSH, K, L', xR0))) : X (d + 4) none 78 (0, [some (.ref 38), some (.int (nI p)), none, none, none, none], [], (xSH, M, L, xR0)) = some (some (.int (nI (tEnd (M 39) n p))), (xSH, xu K 38 25 0, L', xR0)) := by
  have he1 : p < tEnd (M 39) n p := (tEnd_le hp).1
  have he2 : tEnd (M 39) n p ≤ 400 := Nat.le_trans (tEnd_le hp).2 hn
  have hc : (nI p).toNatClampNeg = p := nI_clamp (by omega)
  have h2 : ¬ (nI p < 0 ∨ 400 ≤ p) := q_in (by omega) (by decide)
  have ht' := ht
  unfold cTok at ht'
  simp only [Bool.and_eq_true, Bool.not_eq_true', decide_eq_false_iff_not] at ht'
  obtain ⟨⟨t1, t2⟩, t3⟩ := ht'
  simp (decide := true) only [e_78_0, e_78_1, e_78_4, e_78_5, e_78_6, e_78_7, e_78_8, e_78_11, e_78_14, e_78_15, e_78_16, e_78_17, e_78_18, e_78_19, e_78_21, e_78_24, e_78_25, e_78_26, e_78_29, e_78_30, e_78_31, e_78_34, e_78_37, e_78_38, e_78_39, e_78_40, e_78_43, e_78_44, e_78_45, e_78_46, e_78_47, e_78_50, e_78_51, e_78_52, e_78_55, e_78_58, e_78_59, e_78_61, e_78_64, e_78_65, e_78_67, e_78_70, e_78_71, e_78_72, e_78_73, e_78_76, e_78_78, e_78_80, e_78_83, e_78_86, e_78_87, e_78_88, e_78_89, e_78_92, e_78_93, e_78_96, e_78_97, e_78_100, e_78_102, e_78_103, e_78_104, e_78_105, e_78_108, e_78_109, e_78_110, e_78_113, e_78_114, e_78_115, e_78_116, e_78_117, e_78_118, e_78_121, e_78_123, e_78_124, e_78_126, e_78_129, e_78_131, e_78_133, e_78_136, e_78_137, e_78_139, e_78_140, e_78_143, e_78_146, e_78_147, e_78_149, e_78_152, e_78_153, e_78_154, e_78_157, e_78_158, hc, h2, m_blank, t1, t2, t3, m_barred, m_tokenEnd hI hn hp ht, m_digit, m_fail, m_operator he1 he2, hw, ha, Option.bind_some, Option.toList_some, Option.toList_none, List.cons_append, List.nil_append, bI_0, xu_ne, xu_eq, xs_ne, xs_at, ne_eq, reduceIte, if_true, if_false, not_false_eq_true, nI_1, if_true, if_false]
  exact tk_op _ _ _ hd
end SQ
