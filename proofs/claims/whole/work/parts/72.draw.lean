section DR
variable {d : Nat} {C J I M M0 : Nat → Nat → Int32} {L L' : Nat → Nat → Int64} {n w h s w0 h0 : Nat} {a b : Int32}
theorem rR_mg (hR : rRest C M n w h s) (hC : ∀ a, a < 38 → J a = C a) (hM : ∀ a, 38 ≤ a → J a = M a) : rRest J J n w h s := by
  obtain ⟨hT, hV, hP, h38, hs7, hcl, hdr, hg⟩ := hR
  refine ⟨rT_fr hT (hC 1 (by decide)) (hC 2 (by decide)) (by rw [hM 38 (by decide)]) (hM 39 (by decide)), rV_fr hV (fun k _ _ => by rw [hC 3 (by decide)]) (fun k _ _ => by rw [hM 38 (by decide)]), rP_fr hP (hC 4 (by decide)) (hC 5 (by decide)) (by rw [hM 38 (by decide)]) (by rw [hM 38 (by decide)]) (hM 40 (by decide)), ?_, hs7, ?_, ?_, ?_⟩
  · rw [hC 3 (by decide)]
    exact h38
  · rw [hC _ (by omega), hM 41 (by decide)]
    exact hcl
  · rw [hM 38 (by decide)]
    exact hdr
  · rw [hM 38 (by decide)]
    exact hg
theorem clR_st {cl mc : Nat → Int32} (hw : w ≤ 20) (hh : h ≤ 20) (h1 : ∀ q, q < 20 → cl q = if q < h then nI (2 ^ w - 1) else 0) (h2 : ∀ q, q < 400 → mc q = 1) : clR cl mc w h := by
  have hp : 2 ^ w ≤ 2 ^ 20 := Nat.pow_le_pow_right (by decide) hw
  have hp0 : 0 < 2 ^ w := Nat.pow_pos (by decide)
  refine ⟨⟨fun q => if q < h then 2 ^ w - 1 else 0, fun q hq => ⟨?_, ?_, fun x => ?_⟩⟩, fun q hq => Or.inr (h2 q hq)⟩
  · rw [h1 q hq]
    show (if _ then _ else _) = nI (if _ then _ else _)
    split
    · rfl
    · rfl
  · show (if _ then _ else _) < _
    split
    · exact Nat.lt_of_lt_of_le (Nat.sub_lt hp0 (by decide)) hp
    · decide
  · show Nat.testBit (if _ then _ else _) x = _
    by_cases z : q < h
    · rw [if_pos z, Nat.testBit_two_pow_sub_one]
      by_cases y : x < w
      · simp only [y, z, h2 (20 * q + x) (by omega), decide_true, Bool.and_true]
      · simp only [y, decide_false, Bool.false_and, Bool.and_false]
    · rw [if_neg z, Nat.zero_testBit]
      simp only [z, decide_false, Bool.false_and]
theorem both (hR : rRest C M0 n w0 h0 s) (hw1 : 1 ≤ w) (hw : w ≤ 20) (hh1 : 1 ≤ h) (hh : h ≤ 20) : ∃ C', X (d + 6) none 12 (0, [some (.ref 0), some (.int (nI w)), some (.int (nI h))], [], (xSH, C, L, xR0)) = some (some (.int (C' 3 10)), (xSH, C', L, xR0)) ∧ (∀ a, 38 ≤ a → C' a = C a) ∧ ∀ (M : Nat → Nat → Int32) (L1 : Nat → Nat → Int64), (∀ a, 38 ≤ a → M a = M0 a) → ∃ M' L2 s', X (d + 6) none 77 (0, [some (.ref 38), some (.int (nI w)), some (.int (nI h)), none, none], [], (xSH, M, L1, xR0)) = some (some (.int (C' 3 10)), (xSH, M', L2, xR0)) ∧ (∀ a, a < 38 → M' a = M a) ∧ rRest C' M' n w h s' := by
  obtain ⟨hT, -, -, -, -, -, -, hg⟩ := hR
  obtain ⟨J, hJ, j0, j1, j2, j3, j4, j5, j6, j7, j8, j9, j10, j11, j12, j13, j14, j15, j16, j17, j18, j19, j20, j21⟩ := c_start (d := d + 3) (I := C) (L := L) hw hh
  have hrD : ∀ (M : Nat → Nat → Int32) (L1 : Nat → Nat → Int64), (∀ a, 38 ≤ a → M a = M0 a) → ∃ K L2, X (d + 6) none 77 (0, [some (.ref 38), some (.int (nI w)), some (.int (nI h)), none, none], [], (xSH, M, L1, xR0)) = X (d + 6) none 77 (159, [some (.ref 38), some (.int (nI w)), some (.int (nI h)), some (.int (nI 0)), some (.int (nI 0))], [], (xSH, K, L2, xR0)) ∧ (∀ a, a < 38 → K a = M a) ∧ rD J K L2 n w h 0 0 0 := fun M L1 hM => by
    obtain ⟨K, L2, hK, k0, k1, k2, k3, k4, k5, k6, k7, k8, k9, k10, k11, k12, k13, k14, k15, k16, k17, k18, k19⟩ := m_pre (d := d + 6) (I := M) (L := L1) hw1 hw hh1 hh
    refine ⟨K, L2, hK, k0, ⟨⟨rT_fr hT j1 j2 (k2.trans (by rw [hM 38 (by decide)])) (k1.trans (hM 39 (by decide))), ⟨j6.trans k13.symm, j7.trans k14.symm, j8.trans k15.symm, j9.trans k16.symm, j10.trans k17.symm⟩, ⟨j11, k3, j12, k4, hw, hh, fun z hz => (j13 z hz).trans (k5 z hz).symm⟩, j4, by decide, clR_st hw hh j21 k6, fun _ => k18, ?_⟩, j6, ⟨k8, fun k hk => ?_, j20.trans k7.symm⟩, fun i hi => absurd hi (by omega), rN_0 j3 k12, ⟨by omega, by omega⟩, j5.trans k11.symm, Or.inl j5, j16.trans k10.symm, Or.inl ⟨j16, j14, j15, j17, j18, j5⟩⟩⟩
    · rw [k9, hM 38 (by decide)]
      exact hg
    · rw [k19 k hk]
      show _ = (J 18 k).toInt64
      rw [j19 k hk]
      split
      · rfl
      · rfl
  obtain ⟨K0, L20, -, -, hD0⟩ := hrD M0 L (fun _ _ => rfl)
  obtain ⟨C', -, -, -, q1, -, q3, -, -⟩ := loop (d := d) (wI := nI w) (hI := nI h) L n J K0 L20 0 0 0 0 none none (by omega) (by omega) hD0
  have hrun : X (d + 5) none 19 (0, [some (.ref 3), some (.ref 1), none, none, none], [], (xSH, J, L, xR0)) = some (none, (xSH, C', L, xR0)) := by
    rw [e_19_0, e_19_1]
    exact q1
  have g1 : ¬ nI w < 1 := nI_nlt (b := 1) hw1 (by omega)
  have g2 : ¬ 20 < nI w := nI_nlt (a := 20) hw (by decide)
  have g3 : ¬ nI h < 1 := nI_nlt (b := 1) hh1 (by omega)
  have g4 : nI h ≤ 20 := q_le (b := 20) hh (by decide)
  refine ⟨C', ?_, fun a ha => (q3 a ha).trans (j0 a ha), fun M L1 hM => ?_⟩
  · simp (decide := true) only [e_12_0, e_12_1, e_12_2, e_12_5, e_12_6, e_12_8, e_12_11, e_12_12, e_12_13, e_12_16, e_12_17, e_12_19, e_12_22, e_12_23, e_12_24, e_12_25, e_12_28, e_12_29, e_12_30, e_12_33, e_12_34, e_12_37, e_12_38, e_12_41, e_12_44, e_12_45, e_12_48, e_12_51, g1, g2, g3, g4, hJ, hrun, Option.bind_some, Option.toList_some, Option.toList_none, List.cons_append, List.nil_append, if_true, if_false]
  · obtain ⟨K, L2, hK, k0, hD⟩ := hrD M L1 hM
    obtain ⟨C2, M', L', s', r1, r2, r3, r4, r5⟩ := loop (d := d) (wI := nI w) (hI := nI h) L n J K L2 0 0 0 0 none none (by omega) (by omega) hD
    have e : C2 = C' := by
      have := r1.symm.trans q1
      simp only [Option.some.injEq, Prod.mk.injEq, true_and, and_true] at this
      exact this
    subst e
    refine ⟨M', L', s', ?_, fun a ha => (r4 a ha).trans (k0 a ha), r5⟩
    rw [hK, r2, r5.2.1.1]
theorem draw_out (hh : a < 1 ∨ 20 < a ∨ b < 1 ∨ 20 < b) : X (d + 6) none 12 (0, [some (.ref 0), some (.int a), some (.int b)], [], (xSH, I, L, xR0)) = some (some (.int (-1)), (xSH, I, L, xR0)) ∧ X (d + 6) none 77 (0, [some (.ref 38), some (.int a), some (.int b), none, none], [], (xSH, I, L, xR0)) = some (some (.int (-1)), (xSH, I, L, xR0)) := by
  have z : ¬ (¬ a < 1 ∧ ¬ 20 < a ∧ ¬ b < 1 ∧ b ≤ 20) := fun y => by
    rcases hh with h1 | h1 | h1 | h1
    · exact y.1 h1
    · exact y.2.1 h1
    · exact y.2.2.1 h1
    · exact Int32.not_le.mpr h1 y.2.2.2
  by_cases z1 : a < 1
  · simp (decide := true) only [e_12_0, e_12_1, e_12_2, e_12_5, e_12_6, e_12_8, e_12_11, e_12_12, e_12_13, e_12_16, e_12_17, e_12_19, e_12_22, e_12_23, e_12_24, e_12_25, e_12_28, e_12_29, e_12_30, e_12_33, e_12_34, e_12_37, e_12_38, e_12_41, e_12_44, e_12_45, e_12_48, e_12_51, e_77_0, e_77_1, e_77_2, e_77_5, e_77_6, e_77_8, e_77_11, e_77_12, e_77_13, e_77_16, e_77_17, e_77_19, e_77_22, e_77_23, e_77_24, e_77_25, e_77_26, e_77_29, e_77_30, e_77_31, e_77_34, e_77_35, e_77_37, e_77_40, e_77_43, e_77_44, e_77_47, e_77_48, e_77_51, e_77_52, e_77_53, e_77_56, e_77_57, e_77_58, e_77_59, e_77_62, e_77_65, e_77_66, e_77_68, e_77_70, e_77_73, e_77_74, e_77_77, e_77_78, e_77_79, e_77_82, e_77_83, e_77_84, e_77_87, e_77_88, e_77_91, e_77_92, e_77_93, e_77_96, e_77_99, e_77_100, e_77_101, e_77_104, e_77_105, e_77_106, e_77_109, e_77_110, e_77_111, e_77_114, e_77_115, e_77_116, e_77_119, e_77_120, e_77_121, e_77_124, e_77_125, e_77_126, e_77_129, e_77_130, e_77_131, e_77_134, e_77_135, e_77_136, e_77_139, e_77_140, e_77_141, e_77_144, e_77_145, e_77_146, e_77_149, e_77_150, e_77_151, e_77_154, e_77_155, e_77_156, e_77_157, e_77_161, e_77_164, e_77_167, e_77_168, e_77_169, e_77_172, e_77_175, e_77_176, e_77_179, e_77_182, e_77_183, e_77_184, e_77_187, e_77_188, e_77_191, e_77_194, e_77_195, e_77_198, e_77_201, e_77_202, e_77_205, e_77_208, e_77_209, e_77_210, e_77_211, e_77_214, e_77_217, e_77_220, e_77_221, e_77_224, e_77_227, e_77_228, e_77_230, e_77_231, e_77_234, e_77_237, e_77_240, e_77_241, e_77_244, e_77_247, e_77_248, e_77_250, e_77_251, e_77_254, e_77_257, e_77_258, e_77_261, z1, Option.bind_some, Option.toList_some, Option.toList_none, List.cons_append, List.nil_append, if_true, if_false, and_self]
  · by_cases z2 : 20 < a
    · simp (decide := true) only [e_12_0, e_12_1, e_12_2, e_12_5, e_12_6, e_12_8, e_12_11, e_12_12, e_12_13, e_12_16, e_12_17, e_12_19, e_12_22, e_12_23, e_12_24, e_12_25, e_12_28, e_12_29, e_12_30, e_12_33, e_12_34, e_12_37, e_12_38, e_12_41, e_12_44, e_12_45, e_12_48, e_12_51, e_77_0, e_77_1, e_77_2, e_77_5, e_77_6, e_77_8, e_77_11, e_77_12, e_77_13, e_77_16, e_77_17, e_77_19, e_77_22, e_77_23, e_77_24, e_77_25, e_77_26, e_77_29, e_77_30, e_77_31, e_77_34, e_77_35, e_77_37, e_77_40, e_77_43, e_77_44, e_77_47, e_77_48, e_77_51, e_77_52, e_77_53, e_77_56, e_77_57, e_77_58, e_77_59, e_77_62, e_77_65, e_77_66, e_77_68, e_77_70, e_77_73, e_77_74, e_77_77, e_77_78, e_77_79, e_77_82, e_77_83, e_77_84, e_77_87, e_77_88, e_77_91, e_77_92, e_77_93, e_77_96, e_77_99, e_77_100, e_77_101, e_77_104, e_77_105, e_77_106, e_77_109, e_77_110, e_77_111, e_77_114, e_77_115, e_77_116, e_77_119, e_77_120, e_77_121, e_77_124, e_77_125, e_77_126, e_77_129, e_77_130, e_77_131, e_77_134, e_77_135, e_77_136, e_77_139, e_77_140, e_77_141, e_77_144, e_77_145, e_77_146, e_77_149, e_77_150, e_77_151, e_77_154, e_77_155, e_77_156, e_77_157, e_77_161, e_77_164, e_77_167, e_77_168, e_77_169, e_77_172, e_77_175, e_77_176, e_77_179, e_77_182, e_77_183, e_77_184, e_77_187, e_77_188, e_77_191, e_77_194, e_77_195, e_77_198, e_77_201, e_77_202, e_77_205, e_77_208, e_77_209, e_77_210, e_77_211, e_77_214, e_77_217, e_77_220, e_77_221, e_77_224, e_77_227, e_77_228, e_77_230, e_77_231, e_77_234, e_77_237, e_77_240, e_77_241, e_77_244, e_77_247, e_77_248, e_77_250, e_77_251, e_77_254, e_77_257, e_77_258, e_77_261, z1, z2, Option.bind_some, Option.toList_some, Option.toList_none, List.cons_append, List.nil_append, if_true, if_false, and_self]
    · by_cases z3 : b < 1
      · simp (decide := true) only [e_12_0, e_12_1, e_12_2, e_12_5, e_12_6, e_12_8, e_12_11, e_12_12, e_12_13, e_12_16, e_12_17, e_12_19, e_12_22, e_12_23, e_12_24, e_12_25, e_12_28, e_12_29, e_12_30, e_12_33, e_12_34, e_12_37, e_12_38, e_12_41, e_12_44, e_12_45, e_12_48, e_12_51, e_77_0, e_77_1, e_77_2, e_77_5, e_77_6, e_77_8, e_77_11, e_77_12, e_77_13, e_77_16, e_77_17, e_77_19, e_77_22, e_77_23, e_77_24, e_77_25, e_77_26, e_77_29, e_77_30, e_77_31, e_77_34, e_77_35, e_77_37, e_77_40, e_77_43, e_77_44, e_77_47, e_77_48, e_77_51, e_77_52, e_77_53, e_77_56, e_77_57, e_77_58, e_77_59, e_77_62, e_77_65, e_77_66, e_77_68, e_77_70, e_77_73, e_77_74, e_77_77, e_77_78, e_77_79, e_77_82, e_77_83, e_77_84, e_77_87, e_77_88, e_77_91, e_77_92, e_77_93, e_77_96, e_77_99, e_77_100, e_77_101, e_77_104, e_77_105, e_77_106, e_77_109, e_77_110, e_77_111, e_77_114, e_77_115, e_77_116, e_77_119, e_77_120, e_77_121, e_77_124, e_77_125, e_77_126, e_77_129, e_77_130, e_77_131, e_77_134, e_77_135, e_77_136, e_77_139, e_77_140, e_77_141, e_77_144, e_77_145, e_77_146, e_77_149, e_77_150, e_77_151, e_77_154, e_77_155, e_77_156, e_77_157, e_77_161, e_77_164, e_77_167, e_77_168, e_77_169, e_77_172, e_77_175, e_77_176, e_77_179, e_77_182, e_77_183, e_77_184, e_77_187, e_77_188, e_77_191, e_77_194, e_77_195, e_77_198, e_77_201, e_77_202, e_77_205, e_77_208, e_77_209, e_77_210, e_77_211, e_77_214, e_77_217, e_77_220, e_77_221, e_77_224, e_77_227, e_77_228, e_77_230, e_77_231, e_77_234, e_77_237, e_77_240, e_77_241, e_77_244, e_77_247, e_77_248, e_77_250, e_77_251, e_77_254, e_77_257, e_77_258, e_77_261, z1, z2, z3, Option.bind_some, Option.toList_some, Option.toList_none, List.cons_append, List.nil_append, if_true, if_false, and_self]
      · by_cases z4 : b ≤ 20
        · exact absurd ⟨z1, z2, z3, z4⟩ z
        · simp (decide := true) only [e_12_0, e_12_1, e_12_2, e_12_5, e_12_6, e_12_8, e_12_11, e_12_12, e_12_13, e_12_16, e_12_17, e_12_19, e_12_22, e_12_23, e_12_24, e_12_25, e_12_28, e_12_29, e_12_30, e_12_33, e_12_34, e_12_37, e_12_38, e_12_41, e_12_44, e_12_45, e_12_48, e_12_51, e_77_0, e_77_1, e_77_2, e_77_5, e_77_6, e_77_8, e_77_11, e_77_12, e_77_13, e_77_16, e_77_17, e_77_19, e_77_22, e_77_23, e_77_24, e_77_25, e_77_26, e_77_29, e_77_30, e_77_31, e_77_34, e_77_35, e_77_37, e_77_40, e_77_43, e_77_44, e_77_47, e_77_48, e_77_51, e_77_52, e_77_53, e_77_56, e_77_57, e_77_58, e_77_59, e_77_62, e_77_65, e_77_66, e_77_68, e_77_70, e_77_73, e_77_74, e_77_77, e_77_78, e_77_79, e_77_82, e_77_83, e_77_84, e_77_87, e_77_88, e_77_91, e_77_92, e_77_93, e_77_96, e_77_99, e_77_100, e_77_101, e_77_104, e_77_105, e_77_106, e_77_109, e_77_110, e_77_111, e_77_114, e_77_115, e_77_116, e_77_119, e_77_120, e_77_121, e_77_124, e_77_125, e_77_126, e_77_129, e_77_130, e_77_131, e_77_134, e_77_135, e_77_136, e_77_139, e_77_140, e_77_141, e_77_144, e_77_145, e_77_146, e_77_149, e_77_150, e_77_151, e_77_154, e_77_155, e_77_156, e_77_157, e_77_161, e_77_164, e_77_167, e_77_168, e_77_169, e_77_172, e_77_175, e_77_176, e_77_179, e_77_182, e_77_183, e_77_184, e_77_187, e_77_188, e_77_191, e_77_194, e_77_195, e_77_198, e_77_201, e_77_202, e_77_205, e_77_208, e_77_209, e_77_210, e_77_211, e_77_214, e_77_217, e_77_220, e_77_221, e_77_224, e_77_227, e_77_228, e_77_230, e_77_231, e_77_234, e_77_237, e_77_240, e_77_241, e_77_244, e_77_247, e_77_248, e_77_250, e_77_251, e_77_254, e_77_257, e_77_258, e_77_261, z1, z2, z3, z4, Option.bind_some, Option.toList_some, Option.toList_none, List.cons_append, List.nil_append, if_true, if_false, and_self]
theorem draw_eq (hR : rRest I I n w h s) (a b : Int32) : ∃ v I1 I2 L2 w' h' s', X (d + 6) none 12 (0, [some (.ref 0), some (.int a), some (.int b)], [], (xSH, I, L, xR0)) = some (some (.int v), (xSH, I1, L, xR0)) ∧ X (d + 6) none 77 (0, [some (.ref 38), some (.int a), some (.int b), none, none], [], (xSH, I1, L, xR0)) = some (some (.int v), (xSH, I2, L2, xR0)) ∧ rRest I2 I2 n w' h' s' := by
  by_cases hh : a < 1 ∨ 20 < a ∨ b < 1 ∨ 20 < b
  · exact ⟨-1, I, I, L, w, h, s, (draw_out hh).1, (draw_out hh).2, hR⟩
  · have k1 : ¬ a < 1 := fun z => hh (Or.inl z)
    have k2 : ¬ 20 < a := fun z => hh (Or.inr (Or.inl z))
    have k3 : ¬ b < 1 := fun z => hh (Or.inr (Or.inr (Or.inl z)))
    have k4 : ¬ 20 < b := fun z => hh (Or.inr (Or.inr (Or.inr z)))
    have nn : ∀ x : Int32, ¬ x < 1 → ¬ 20 < x → ∃ m : Nat, 1 ≤ m ∧ m ≤ 20 ∧ x = nI m := fun x h1 h2 => by
      have e1 : (1 : Int32).toInt = 1 := by decide
      have e20 : (20 : Int32).toInt = 20 := by decide
      have e0 : (0 : Int32).toInt = 0 := by decide
      rw [Int32.lt_iff_toInt_lt] at h1 h2
      have h3 : ¬ x < 0 := fun z => by
        rw [Int32.lt_iff_toInt_lt] at z
        omega
      obtain ⟨m, hm, rfl⟩ := nI_of h3
      rw [nI_toInt hm] at h1 h2
      exact ⟨m, by omega, by omega, rfl⟩
    obtain ⟨w', w1, w2, rfl⟩ := nn a k1 k2
    obtain ⟨h', h1, h2, rfl⟩ := nn b k3 k4
    obtain ⟨C', q1, q2, q3⟩ := both (d := d) (L := L) hR w1 w2 h1 h2
    obtain ⟨M', L2, s', r1, r2, r3⟩ := q3 C' L q2
    exact ⟨_, C', M', L2, w', h', s', q1, r1, rR_mg r3 r2 (fun _ _ => rfl)⟩
end DR
