def eF (a b c : Int32) : Int32 := if 0 < a then 3 else if b = 0 then (if 0 < c then 9 else 0) else 11
section LO
variable {d : Nat} {C C' M M' K : Nat → Nat → Int32} {L L' L0 L1 : Nat → Nat → Int64} {n w h s c p : Nat} {q o wI hI : Int32} {x3 x4 : Option Value}
theorem c_halt {P : Int32} (hf : ¬ C 3 10 = 0) : X (d + 5) none 19 (2, [some (.ref 3), some (.ref 1), some (.int P), x3, x4], [], (xSH, C, L0, xR0)) = some (none, (xSH, C, L0, xR0)) := by
  rw [e_19_2]
  simp (decide := true) only [e_19_0, e_19_1, e_19_3, e_19_4, e_19_7, e_19_10, e_19_11, e_19_14, e_19_17, e_19_18, e_19_21, e_19_22, e_19_23, e_19_24, e_19_25, e_19_26, e_19_29, e_19_31, e_19_32, e_19_35, e_19_38, e_19_39, e_19_40, e_19_41, e_19_44, e_19_47, e_19_48, e_19_51, e_19_54, e_19_55, e_19_56, e_19_57, e_19_59, e_19_62, e_19_65, e_19_66, e_19_69, e_19_72, e_19_73, e_19_74, e_19_75, e_19_77, e_19_80, e_19_81, e_19_84, e_19_86, e_19_87, e_19_88, e_19_89, e_19_92, e_19_93, e_19_96, e_19_97, e_19_100, e_19_103, e_19_104, e_19_105, e_19_108, e_19_109, e_19_112, e_19_115, hf, if_true, if_false, ite_self]
theorem m_halt {P R : Int32} (hf : ¬ M 38 26 = 0) : X (d + 5) none 77 (159, [some (.ref 38), some (.int wI), some (.int hI), some (.int P), some (.int R)], [], (xSH, M, L, xR0)) = some (some (.int (M 38 26)), (xSH, M, L, xR0)) := by
  rw [e_77_159]
  simp (decide := true) only [e_77_0, e_77_1, e_77_2, e_77_5, e_77_6, e_77_8, e_77_11, e_77_12, e_77_13, e_77_16, e_77_17, e_77_19, e_77_22, e_77_23, e_77_24, e_77_25, e_77_26, e_77_29, e_77_30, e_77_31, e_77_34, e_77_35, e_77_37, e_77_40, e_77_43, e_77_44, e_77_47, e_77_48, e_77_51, e_77_52, e_77_53, e_77_56, e_77_57, e_77_58, e_77_59, e_77_62, e_77_65, e_77_66, e_77_68, e_77_70, e_77_73, e_77_74, e_77_77, e_77_78, e_77_79, e_77_82, e_77_83, e_77_84, e_77_87, e_77_88, e_77_91, e_77_92, e_77_93, e_77_96, e_77_99, e_77_100, e_77_101, e_77_104, e_77_105, e_77_106, e_77_109, e_77_110, e_77_111, e_77_114, e_77_115, e_77_116, e_77_119, e_77_120, e_77_121, e_77_124, e_77_125, e_77_126, e_77_129, e_77_130, e_77_131, e_77_134, e_77_135, e_77_136, e_77_139, e_77_140, e_77_141, e_77_144, e_77_145, e_77_146, e_77_149, e_77_150, e_77_151, e_77_154, e_77_155, e_77_156, e_77_157, e_77_161, e_77_164, e_77_167, e_77_168, e_77_169, e_77_172, e_77_175, e_77_176, e_77_179, e_77_182, e_77_183, e_77_184, e_77_187, e_77_188, e_77_191, e_77_194, e_77_195, e_77_198, e_77_201, e_77_202, e_77_205, e_77_208, e_77_209, e_77_210, e_77_211, e_77_214, e_77_217, e_77_220, e_77_221, e_77_224, e_77_227, e_77_228, e_77_230, e_77_231, e_77_234, e_77_237, e_77_240, e_77_241, e_77_244, e_77_247, e_77_248, e_77_250, e_77_251, e_77_254, e_77_257, e_77_258, e_77_261, hf, if_true, if_false, ite_self]
theorem c_last (hI : C 1 1 = nI n) (hn : n ≤ 400) (hf : C 3 10 = 0) : X (d + 5) none 19 (2, [some (.ref 3), some (.ref 1), some (.int (nI n)), x3, x4], [], (xSH, C, L0, xR0)) = some (none, (xSH, (if eF (C 3 7) (C 6 7) (C 3 8) = 0 then C else xu (xu C 3 10 (eF (C 3 7) (C 6 7) (C 3 8))) 3 11 (nI n)), L0, xR0)) := by
  have h1 : nI n ≤ nI n := q_le (Nat.le_refl _) (by omega)
  rw [e_19_2]
  simp (decide := true) only [e_19_0, e_19_1, e_19_3, e_19_4, e_19_7, e_19_10, e_19_11, e_19_14, e_19_17, e_19_18, e_19_21, e_19_22, e_19_23, e_19_24, e_19_25, e_19_26, e_19_29, e_19_31, e_19_32, e_19_35, e_19_38, e_19_39, e_19_40, e_19_41, e_19_44, e_19_47, e_19_48, e_19_51, e_19_54, e_19_55, e_19_56, e_19_57, e_19_59, e_19_62, e_19_65, e_19_66, e_19_69, e_19_72, e_19_73, e_19_74, e_19_75, e_19_77, e_19_80, e_19_81, e_19_84, e_19_86, e_19_87, e_19_88, e_19_89, e_19_92, e_19_93, e_19_96, e_19_97, e_19_100, e_19_103, e_19_104, e_19_105, e_19_108, e_19_109, e_19_112, e_19_115, hI, hf, h1, c_faultAtEnd, c_tell, Option.bind_some, Option.toList_some, Option.toList_none, List.cons_append, List.nil_append, if_true, if_false]
  rfl
theorem m_last {r : Nat} (hI' : M 38 1 = nI n) (hn : n ≤ 400) (hf : M 38 26 = 0) : X (d + 5) none 77 (159, [some (.ref 38), some (.int wI), some (.int hI), some (.int (nI n)), some (.int (nI r))], [], (xSH, M, L, xR0)) = some (some (.int (eF (M 38 25) (M 38 18) (M 38 11))), (xSH, (if eF (M 38 25) (M 38 18) (M 38 11) = 0 then M else xu (xu M 38 26 (eF (M 38 25) (M 38 18) (M 38 11))) 38 27 (nI n)), L, xR0)) := by
  have h1 : nI n ≤ nI n := q_le (Nat.le_refl _) (by omega)
  rw [e_77_159]
  simp (decide := true) only [e_77_0, e_77_1, e_77_2, e_77_5, e_77_6, e_77_8, e_77_11, e_77_12, e_77_13, e_77_16, e_77_17, e_77_19, e_77_22, e_77_23, e_77_24, e_77_25, e_77_26, e_77_29, e_77_30, e_77_31, e_77_34, e_77_35, e_77_37, e_77_40, e_77_43, e_77_44, e_77_47, e_77_48, e_77_51, e_77_52, e_77_53, e_77_56, e_77_57, e_77_58, e_77_59, e_77_62, e_77_65, e_77_66, e_77_68, e_77_70, e_77_73, e_77_74, e_77_77, e_77_78, e_77_79, e_77_82, e_77_83, e_77_84, e_77_87, e_77_88, e_77_91, e_77_92, e_77_93, e_77_96, e_77_99, e_77_100, e_77_101, e_77_104, e_77_105, e_77_106, e_77_109, e_77_110, e_77_111, e_77_114, e_77_115, e_77_116, e_77_119, e_77_120, e_77_121, e_77_124, e_77_125, e_77_126, e_77_129, e_77_130, e_77_131, e_77_134, e_77_135, e_77_136, e_77_139, e_77_140, e_77_141, e_77_144, e_77_145, e_77_146, e_77_149, e_77_150, e_77_151, e_77_154, e_77_155, e_77_156, e_77_157, e_77_161, e_77_164, e_77_167, e_77_168, e_77_169, e_77_172, e_77_175, e_77_176, e_77_179, e_77_182, e_77_183, e_77_184, e_77_187, e_77_188, e_77_191, e_77_194, e_77_195, e_77_198, e_77_201, e_77_202, e_77_205, e_77_208, e_77_209, e_77_210, e_77_211, e_77_214, e_77_217, e_77_220, e_77_221, e_77_224, e_77_227, e_77_228, e_77_230, e_77_231, e_77_234, e_77_237, e_77_240, e_77_241, e_77_244, e_77_247, e_77_248, e_77_250, e_77_251, e_77_254, e_77_257, e_77_258, e_77_261, hI', hf, h1, m_fail, Option.bind_some, Option.toList_some, Option.toList_none, List.cons_append, List.nil_append, xu_ne, xu_eq, xs_ne, xs_at, ne_eq, reduceIte, if_true, if_false, not_false_eq_true, if_true, if_false, ite_self]
  unfold eF
  by_cases z1 : M 38 25 ≤ 0
  · have y1 : ¬ 0 < M 38 25 := Int32.not_lt.mpr z1
    by_cases z2 : M 38 18 = 0
    · by_cases z3 : M 38 11 ≤ 0
      · have y3 : ¬ 0 < M 38 11 := Int32.not_lt.mpr z3
        simp (decide := true) only [z1, y1, z2, z3, y3, hf, if_true, if_false]
      · have y3 : 0 < M 38 11 := Int32.not_le.mp z3
        simp (decide := true) only [z1, y1, z2, z3, y3, hf, if_true, if_false]
    · simp (decide := true) only [z1, y1, z2, hf, if_true, if_false]
  · have y1 : 0 < M 38 25 := Int32.not_le.mp z1
    simp (decide := true) only [z1, y1, hf, if_true, if_false]
theorem loop (L0 : Nat → Nat → Int64) : ∀ (m : Nat) (C M : Nat → Nat → Int32) (L : Nat → Nat → Int64) (s c p r : Nat) (x3 x4 : Option Value), n ≤ p + m → r ≤ p → rD C M L n w h s c p → ∃ C' M' L' s', X (d + 5) none 19 (2, [some (.ref 3), some (.ref 1), some (.int (nI p)), x3, x4], [], (xSH, C, L0, xR0)) = some (none, (xSH, C', L0, xR0)) ∧ X (d + 6) none 77 (159, [some (.ref 38), some (.int wI), some (.int hI), some (.int (nI p)), some (.int (nI r))], [], (xSH, M, L, xR0)) = some (some (.int (M' 38 26)), (xSH, M', L', xR0)) ∧ (∀ a, 38 ≤ a → C' a = C a) ∧ (∀ a, a < 38 → M' a = M a) ∧ rRest C' M' n w h s' := by
  intro m
  induction m with
  | zero =>
    intro C M L s c p r x3 x4 hm hr hD
    obtain ⟨hR, hf, hS, hO, hN, hcp, hcut, hcr, hpa⟩ := id hD
    obtain ⟨hT, hV, hP, h38, hs7, hcl, hdr, hg⟩ := id hR
    obtain rfl : p = n := by have := hcp.2; omega
    have hmf : M 38 26 = 0 := by rw [← hV.1]; exact hf
    have e1 := c_last (d := d) (L0 := L0) (x3 := x3) (x4 := x4) hT.1 hT.2.2.1 hf
    have e2 := m_last (d := d + 1) (L := L) (r := r) (wI := wI) (hI := hI) hT.2.1 hT.2.2.1 hmf
    rw [hN.2.1, ← hpa.1, hS.1] at e2
    rw [hN.1, h38] at e1
    by_cases z : eF (nI c) (C 6 7) (nI s) = 0
    · rw [z, if_pos rfl] at e1 e2
      refine ⟨C, M, L, s, e1, ?_, fun _ _ => rfl, fun _ _ => rfl, hR⟩
      rw [e2, hmf]
    · rw [if_neg z] at e1 e2
      refine ⟨_, xu (xu M 38 26 (eF (nI c) (C 6 7) (nI s))) 38 27 (nI p), L, s, e1, ?_, fun a ha => ?_, fun a ha => ?_, rR_flt hR (fun a h1 _ _ _ => ?_) (fun k _ h2 h3 => ?_) (fun a h1 _ => ?_) (fun k _ h2 h3 => ?_) ?_ ?_⟩
      · rw [e2]
        simp (decide := true) only [xu_ne, xu_eq, xs_ne, xs_at, ne_eq, reduceIte, if_true, if_false, not_false_eq_true]
      · rw [xu_ne (by omega), xu_ne (by omega)]
      · rw [xu_ne (by omega), xu_ne (by omega)]
      · rw [xu_ne h1, xu_ne h1]
      · rw [xu_eq, if_neg h3, xu_eq, if_neg h2]
      · rw [xu_ne h1, xu_ne h1]
      · rw [xu_eq, if_neg h3, xu_eq, if_neg h2]
      · simp (decide := true) only [xu_ne, xu_eq, xs_ne, xs_at, ne_eq, reduceIte, if_true, if_false, not_false_eq_true]
      · simp (decide := true) only [xu_ne, xu_eq, xs_ne, xs_at, ne_eq, reduceIte, if_true, if_false, not_false_eq_true]
  | succ m ih =>
    intro C M L s c p r x3 x4 hm hr hD
    by_cases hp : p < n
    · obtain ⟨hR, hf, hS, hO, hN, hcp, hcut, hcr, hpa⟩ := id hD
      obtain ⟨hT, hV, hP, h38, hs7, hcl, hdr, hg⟩ := id hR
      have hmf : M 38 26 = 0 := by rw [← hV.1]; exact hf
      have hn := hT.2.2.1
      obtain ⟨C', M', L', s', p', p'', y3, y4, r1, r2, r3, r4, r5⟩ := step (d := d) L0 x3 x4 hD hp
      have g1 : ¬ (500 : Int32) ≤ nI r := q_nle (a := 500) (by omega) (by decide)
      have g2 : ¬ nI n ≤ nI p := q_nle hp (by omega)
      have e2 : X (d + 6) none 77 (159, [some (.ref 38), some (.int wI), some (.int hI), some (.int (nI p)), some (.int (nI r))], [], (xSH, M, L, xR0)) = X (d + 6) none 77 (159, [some (.ref 38), some (.int wI), some (.int hI), some (.int (nI p'')), some (.int (nI (r + 1)))], [], (xSH, M', L', xR0)) := by
        rw [e_77_159]
        simp (decide := true) only [e_77_0, e_77_1, e_77_2, e_77_5, e_77_6, e_77_8, e_77_11, e_77_12, e_77_13, e_77_16, e_77_17, e_77_19, e_77_22, e_77_23, e_77_24, e_77_25, e_77_26, e_77_29, e_77_30, e_77_31, e_77_34, e_77_35, e_77_37, e_77_40, e_77_43, e_77_44, e_77_47, e_77_48, e_77_51, e_77_52, e_77_53, e_77_56, e_77_57, e_77_58, e_77_59, e_77_62, e_77_65, e_77_66, e_77_68, e_77_70, e_77_73, e_77_74, e_77_77, e_77_78, e_77_79, e_77_82, e_77_83, e_77_84, e_77_87, e_77_88, e_77_91, e_77_92, e_77_93, e_77_96, e_77_99, e_77_100, e_77_101, e_77_104, e_77_105, e_77_106, e_77_109, e_77_110, e_77_111, e_77_114, e_77_115, e_77_116, e_77_119, e_77_120, e_77_121, e_77_124, e_77_125, e_77_126, e_77_129, e_77_130, e_77_131, e_77_134, e_77_135, e_77_136, e_77_139, e_77_140, e_77_141, e_77_144, e_77_145, e_77_146, e_77_149, e_77_150, e_77_151, e_77_154, e_77_155, e_77_156, e_77_157, e_77_161, e_77_164, e_77_167, e_77_168, e_77_169, e_77_172, e_77_175, e_77_176, e_77_179, e_77_182, e_77_183, e_77_184, e_77_187, e_77_188, e_77_191, e_77_194, e_77_195, e_77_198, e_77_201, e_77_202, e_77_205, e_77_208, e_77_209, e_77_210, e_77_211, e_77_214, e_77_217, e_77_220, e_77_221, e_77_224, e_77_227, e_77_228, e_77_230, e_77_231, e_77_234, e_77_237, e_77_240, e_77_241, e_77_244, e_77_247, e_77_248, e_77_250, e_77_251, e_77_254, e_77_257, e_77_258, e_77_261, hT.2.1, hmf, g1, g2, r2, Option.bind_some, Option.toList_some, Option.toList_none, List.cons_append, List.nil_append, nI_1, if_true, if_false]
      rcases r5 with ⟨c', hD', rfl, hlt⟩ | ⟨hR', hf'⟩
      · obtain ⟨C2, M2, L2, s2, q1, q2, q3, q4, q5⟩ := ih C' M' L' s' c' p'' (r + 1) y3 y4 (by omega) (by omega) hD'
        exact ⟨C2, M2, L2, s2, r1.trans q1, e2.trans q2, fun a ha => (q3 a ha).trans (r3 a ha), fun a ha => (q4 a ha).trans (r4 a ha), q5⟩
      · have hmf' : ¬ M' 38 26 = 0 := by rw [← hR'.2.1.1]; exact hf'
        exact ⟨C', M', L', s', r1.trans (c_halt hf'), e2.trans (m_halt hmf'), r3, r4, hR'⟩
    · exact ih C M L s c p r x3 x4 (by omega) hr hD
end LO
