section MS
variable {d : Nat} {I : Nat → Nat → Int32} {L : Nat → Nat → Int64}
theorem m_d_1 {w h : Int32} : ∀ (m k : Nat) (I : Nat → Nat → Int32), k + m = 400 → ∃ J, X d none 77 (36, [some (.ref 38), some (.int w), some (.int h), some (.int (nI k)), none], [], (xSH, I, L, xR0)) = X d none 77 (65, [some (.ref 38), some (.int w), some (.int h), some (.int (nI 400)), none], [], (xSH, J, L, xR0)) ∧ (∀ a, a ≠ 40 → a ≠ 41 → J a = I a) ∧ (∀ q, J 40 q = if k ≤ q ∧ q < 400 then 255 else I 40 q) ∧ (∀ q, J 41 q = if k ≤ q ∧ q < 400 then 1 else I 41 q) := by
  intro m
  induction m with
  | zero =>
    intro k I hk
    obtain rfl : k = 400 := by omega
    refine ⟨I, ?_, fun _ _ _ => rfl, fun q => by rw [if_neg (by omega)], fun q => by rw [if_neg (by omega)]⟩
    rw [e_77_36]
    simp only [e_77_37, e_77_40]
    rw [if_pos (show (400 : Int32) ≤ nI 400 by decide)]
  | succ m ih =>
    intro k I hk
    have h1 : ¬ (400 : Int32) ≤ nI k := nI_ge (a := k) (b := 400) (by omega) (by decide)
    have hc : (nI k).toNatClampNeg = k := nI_clamp (by omega)
    have h3 : ¬ (nI k < 0 ∨ 400 ≤ k) := q_in (by omega) (by decide)
    have v1 : vp_nar .boolean 1 = 1 := rfl
    obtain ⟨J, j1, j2, j3, j4⟩ := ih (k + 1) (xu (xu I 40 k 255) 41 k 1) (by omega)
    refine ⟨J, ?_, fun a a1 a2 => by rw [j2 a a1 a2, xu_ne a2, xu_ne a1], fun q => ?_, fun q => ?_⟩
    · rw [← j1, e_77_36]
      simp only [e_77_37, e_77_40, e_77_43, e_77_44, e_77_47, e_77_48, e_77_51, e_77_52, e_77_53, e_77_56, e_77_57, e_77_58, e_77_59, e_77_62, hc, h1, h3, if_false, nI_1, v1]
    · rw [j3, xu_ne (by decide), xu_eq]
      by_cases g1 : q = k
      · subst g1
        rw [if_neg (by omega), if_pos rfl, if_pos (c := q ≤ q ∧ q < 400) (by omega)]
      · by_cases g2 : k + 1 ≤ q ∧ q < 400
        · rw [if_pos g2, if_pos (c := k ≤ q ∧ q < 400) (by omega)]
        · rw [if_neg g2, if_neg g1, if_neg (by omega)]
    · rw [j4, xu_eq, xu_ne (by decide)]
      by_cases g1 : q = k
      · subst g1
        rw [if_neg (by omega), if_pos rfl, if_pos (c := q ≤ q ∧ q < 400) (by omega)]
      · by_cases g2 : k + 1 ≤ q ∧ q < 400
        · rw [if_pos g2, if_pos (c := k ≤ q ∧ q < 400) (by omega)]
        · rw [if_neg g2, if_neg g1, if_neg (by omega)]
theorem m_d_2 {w h : Int32} {k : Nat} (hk : k < 6) : X d none 77 (67, [some (.ref 38), some (.int w), some (.int h), some (.int (nI k)), none], [], (xSH, I, L, xR0)) = X d none 77 (67, [some (.ref 38), some (.int w), some (.int h), some (.int (nI (k + 1))), none], [], (xSH, I, xu L 42 k (if k = 0 ∨ k = 3 then 1 else 0), xR0)) := by
  have h1 : ¬ (6 : Int32) ≤ nI k := nI_ge (a := k) (b := 6) hk (by decide)
  have hc : (nI k).toNatClampNeg = k := nI_clamp (by omega)
  have h3 : ¬ (nI k < 0 ∨ 6 ≤ k) := q_in hk (by decide)
  have e0 : (nI k = 0) = (k = 0) := propext (nI_eq (a := k) (b := 0) (by omega) (by decide))
  have e3 : (nI k = 3) = (k = 3) := propext (nI_eq (a := k) (b := 3) (by omega) (by decide))
  rw [e_77_67]
  simp only [e_77_68, e_77_70, e_77_73, e_77_74, e_77_77, e_77_78, e_77_79, e_77_82, e_77_83, e_77_84, e_77_87, e_77_88, e_77_91, e_77_92, e_77_93, e_77_96, hc, h1, h3, e0, e3, if_false, nI_1]
  by_cases g0 : k = 0
  · simp [g0]
  · by_cases g3 : k = 3
    · simp [g3]
    · simp [g0, g3]
theorem m_pre {w h : Nat} (hw1 : 1 ≤ w) (hw : w ≤ 20) (hh1 : 1 ≤ h) (hh : h ≤ 20) : ∃ J L', X d none 77 (0, [some (.ref 38), some (.int (nI w)), some (.int (nI h)), none, none], [], (xSH, I, L, xR0)) = X d none 77 (159, [some (.ref 38), some (.int (nI w)), some (.int (nI h)), some (.int (nI 0)), some (.int (nI 0))], [], (xSH, J, L', xR0)) ∧ (∀ a, a < 38 → J a = I a) ∧ J 39 = I 39 ∧ J 38 1 = I 38 1 ∧ J 38 2 = nI w ∧ J 38 3 = nI h ∧ (∀ q, q < 400 → J 40 q = 255) ∧ (∀ q, q < 400 → J 41 q = 1) ∧ J 38 7 = 0 ∧ J 38 11 = 0 ∧ J 38 17 = I 38 17 ∧ J 38 18 = 0 ∧ J 38 19 = 0 ∧ J 38 25 = 0 ∧ J 38 26 = 0 ∧ J 38 27 = -1 ∧ J 38 28 = 0 ∧ J 38 29 = 0 ∧ J 38 30 = 0 ∧ J 38 31 = 1 ∧ (∀ q, q < 6 → L' 42 q = if q = 0 ∨ q = 3 then 1 else 0) := by
  have a1 : ¬ nI w < 1 := nI_nlt (a := w) (b := 1) hw1 (by omega)
  have a2 : ¬ (20 : Int32) < nI w := nI_nlt (a := 20) (b := w) hw (by decide)
  have a3 : ¬ nI h < 1 := nI_nlt (a := h) (b := 1) hh1 (by omega)
  have a4 : nI h ≤ 20 := nI_le (a := h) (b := 20) hh (by decide)
  obtain ⟨K, k1, k2, k3, k4⟩ := m_d_1 (d := d) (L := L) (w := nI w) (h := nI h) 400 0 (xu (xu I 38 2 (nI w)) 38 3 (nI h)) (by omega)
  have h6 : (6 : Int32) ≤ nI 6 := by decide
  have K38 : K 38 = xu (xu I 38 2 (nI w)) 38 3 (nI h) 38 := k2 38 (by decide) (by decide)
  have main : X d none 77 (0, [some (.ref 38), some (.int (nI w)), some (.int (nI h)), none, none], [], (xSH, I, L, xR0)) = X d none 77 (159, [some (.ref 38), some (.int (nI w)), some (.int (nI h)), some (.int (nI 0)), some (.int (nI 0))], [], (xSH, xu (xu (xu (xu (xu (xu (xu (xu (xu (xu (xu K 38 7 0) 38 11 0) 38 18 0) 38 19 0) 38 25 0) 38 28 0) 38 29 0) 38 30 0) 38 31 1) 38 26 0) 38 27 (-1), xu (xu (xu (xu (xu (xu L 42 0 1) 42 1 0) 42 2 0) 42 3 1) 42 4 0) 42 5 0, xR0)) := by
    simp only [e_77_0, e_77_1, e_77_2, e_77_5, e_77_6, e_77_8, e_77_11, e_77_12, e_77_13, e_77_16, e_77_17, e_77_19, e_77_24, e_77_25, e_77_26, e_77_29, e_77_30, e_77_31, e_77_34, e_77_35, a1, a2, a3, a4, if_true, if_false]
    rw [show (0 : Int32) = nI 0 from rfl, k1]
    simp only [e_77_65, e_77_66]
    rw [show (0 : Int32) = nI 0 from rfl, m_d_2 (by decide), m_d_2 (by decide), m_d_2 (by decide), m_d_2 (by decide), m_d_2 (by decide), m_d_2 (by decide), e_77_67]
    simp only [e_77_0, e_77_1, e_77_2, e_77_5, e_77_6, e_77_8, e_77_11, e_77_12, e_77_13, e_77_16, e_77_17, e_77_19, e_77_22, e_77_23, e_77_24, e_77_25, e_77_26, e_77_29, e_77_30, e_77_31, e_77_34, e_77_35, e_77_37, e_77_40, e_77_43, e_77_44, e_77_47, e_77_48, e_77_51, e_77_52, e_77_53, e_77_56, e_77_57, e_77_58, e_77_59, e_77_62, e_77_65, e_77_66, e_77_68, e_77_70, e_77_73, e_77_74, e_77_77, e_77_78, e_77_79, e_77_82, e_77_83, e_77_84, e_77_87, e_77_88, e_77_91, e_77_92, e_77_93, e_77_96, e_77_99, e_77_100, e_77_101, e_77_104, e_77_105, e_77_106, e_77_109, e_77_110, e_77_111, e_77_114, e_77_115, e_77_116, e_77_119, e_77_120, e_77_121, e_77_124, e_77_125, e_77_126, e_77_129, e_77_130, e_77_131, e_77_134, e_77_135, e_77_136, e_77_139, e_77_140, e_77_141, e_77_144, e_77_145, e_77_146, e_77_149, e_77_150, e_77_151, e_77_154, e_77_155, e_77_156, e_77_157, e_77_161, e_77_164, e_77_167, e_77_168, e_77_169, e_77_172, e_77_175, e_77_176, e_77_179, e_77_182, e_77_183, e_77_184, e_77_187, e_77_188, e_77_191, e_77_194, e_77_195, e_77_198, e_77_201, e_77_202, e_77_205, e_77_208, e_77_209, e_77_210, e_77_211, e_77_214, e_77_217, e_77_220, e_77_221, e_77_224, e_77_227, e_77_228, e_77_230, e_77_231, e_77_234, e_77_237, e_77_240, e_77_241, e_77_244, e_77_247, e_77_248, e_77_250, e_77_251, e_77_254, e_77_257, e_77_258, e_77_261, h6, if_true]
    rfl
  refine ⟨_, _, main, fun a ha => ?_, ?_, ?_, ?_, ?_, fun q hq => ?_, fun q hq => ?_, ?_, ?_, ?_, ?_, ?_, ?_, ?_, ?_, ?_, ?_, ?_, ?_, fun q hq => ?_⟩
  · rw [xu_ne (by omega), xu_ne (by omega), xu_ne (by omega), xu_ne (by omega), xu_ne (by omega), xu_ne (by omega), xu_ne (by omega), xu_ne (by omega), xu_ne (by omega), xu_ne (by omega), xu_ne (by omega), k2 a (by omega) (by omega), xu_ne (by omega), xu_ne (by omega)]
  · rw [xu_ne (by decide), xu_ne (by decide), xu_ne (by decide), xu_ne (by decide), xu_ne (by decide), xu_ne (by decide), xu_ne (by decide), xu_ne (by decide), xu_ne (by decide), xu_ne (by decide), xu_ne (by decide), k2 39 (by decide) (by decide), xu_ne (by decide), xu_ne (by decide)]
  · simp (decide := true) only [xu_ne, xu_eq, xs_ne, xs_at, ne_eq, reduceIte, if_true, if_false, not_false_eq_true, K38]
  · simp (decide := true) only [xu_ne, xu_eq, xs_ne, xs_at, ne_eq, reduceIte, if_true, if_false, not_false_eq_true, K38]
  · simp (decide := true) only [xu_ne, xu_eq, xs_ne, xs_at, ne_eq, reduceIte, if_true, if_false, not_false_eq_true, K38]
  · simp (decide := true) only [xu_ne, xu_eq, xs_ne, xs_at, ne_eq, reduceIte, if_true, if_false, not_false_eq_true, k3]
    rw [if_pos ⟨Nat.zero_le _, hq⟩]
  · simp (decide := true) only [xu_ne, xu_eq, xs_ne, xs_at, ne_eq, reduceIte, if_true, if_false, not_false_eq_true, k4]
    rw [if_pos ⟨Nat.zero_le _, hq⟩]
  · simp (decide := true) only [xu_ne, xu_eq, xs_ne, xs_at, ne_eq, reduceIte, if_true, if_false, not_false_eq_true, K38]
  · simp (decide := true) only [xu_ne, xu_eq, xs_ne, xs_at, ne_eq, reduceIte, if_true, if_false, not_false_eq_true, K38]
  · simp (decide := true) only [xu_ne, xu_eq, xs_ne, xs_at, ne_eq, reduceIte, if_true, if_false, not_false_eq_true, K38]
  · simp (decide := true) only [xu_ne, xu_eq, xs_ne, xs_at, ne_eq, reduceIte, if_true, if_false, not_false_eq_true, K38]
  · simp (decide := true) only [xu_ne, xu_eq, xs_ne, xs_at, ne_eq, reduceIte, if_true, if_false, not_false_eq_true, K38]
  · simp (decide := true) only [xu_ne, xu_eq, xs_ne, xs_at, ne_eq, reduceIte, if_true, if_false, not_false_eq_true, K38]
  · simp (decide := true) only [xu_ne, xu_eq, xs_ne, xs_at, ne_eq, reduceIte, if_true, if_false, not_false_eq_true, K38]
  · simp (decide := true) only [xu_ne, xu_eq, xs_ne, xs_at, ne_eq, reduceIte, if_true, if_false, not_false_eq_true, K38]
  · simp (decide := true) only [xu_ne, xu_eq, xs_ne, xs_at, ne_eq, reduceIte, if_true, if_false, not_false_eq_true, K38]
  · simp (decide := true) only [xu_ne, xu_eq, xs_ne, xs_at, ne_eq, reduceIte, if_true, if_false, not_false_eq_true, K38]
  · simp (decide := true) only [xu_ne, xu_eq, xs_ne, xs_at, ne_eq, reduceIte, if_true, if_false, not_false_eq_true, K38]
  · simp (decide := true) only [xu_ne, xu_eq, xs_ne, xs_at, ne_eq, reduceIte, if_true, if_false, not_false_eq_true, K38]
  · obtain rfl | rfl | rfl | rfl | rfl | rfl : q = 0 ∨ q = 1 ∨ q = 2 ∨ q = 3 ∨ q = 4 ∨ q = 5 := by omega
    all_goals simp (decide := true) only [xu_ne, xu_eq, xs_ne, xs_at, ne_eq, reduceIte, if_true, if_false, not_false_eq_true]
end MS
