section MF
variable {d : Nat} {I : Nat → Nat → Int32} {L : Nat → Nat → Int64}
theorem m_inside0 {e : Nat} {x y : Int32} (he : I 38 16 = nI e) (h : e < 130) : X d none 102 (0, [some (.ref 38), some (.int x), some (.int y), some (.int 0), none, none, none, none, none, none, none, none, none], [], (xSH, I, L, xR0)) = some (some (.int (bI (mIns L e x y false))), (xSH, I, L, xR0)) := m_inside (odd := false) he h
theorem m_inside1 {e : Nat} {x y : Int32} (he : I 38 16 = nI e) (h : e < 130) : X d none 102 (0, [some (.ref 38), some (.int x), some (.int y), some (.int 1), none, none, none, none, none, none, none, none, none], [], (xSH, I, L, xR0)) = some (some (.int (bI (mIns L e x y true))), (xSH, I, L, xR0)) := m_inside (odd := true) he h
def mfCtx (I : Nat → Nat → Int32) (w h e : Nat) (cut : Int32) : Prop := I 38 2 = nI w ∧ I 38 3 = nI h ∧ I 38 19 = cut ∧ I 38 16 = nI e ∧ w ≤ 20 ∧ h ≤ 20 ∧ e < 130
def hitM (I : Nat → Nat → Int32) (L : Nat → Nat → Int64) (e : Nat) (o : Int32) (x y : Nat) : Bool := decide (o < 13) && (!decide (I 41 (20 * y + x) = 0) && mIns L e (nI x) (nI y) (decide (o = 12)))
def cutM (I : Nat → Nat → Int32) (L : Nat → Nat → Int64) (e : Nat) (cut : Int32) (x y : Nat) : Bool := decide (0 < cut) && (!decide (I 41 (20 * y + x) = 0) && !mIns L e (nI x) (nI y) (decide (cut = 2)))
set_option maxHeartbeats 2000000 in
theorem m_pix {w h e x y : Nat} {o cut : Int32} {x4 : Option Value} (hc : mfCtx I w h e cut) (hx : x < w) (hy : y < h) : ∃ J y4, X (d + 1) none 101 (51, [some (.ref 38), some (.int o), some (.int (nI y)), some (.int (nI x)), x4], [], (xSH, I, L, xR0)) = X (d + 1) none 101 (51, [some (.ref 38), some (.int o), some (.int (nI y)), some (.int (nI (x + 1))), y4], [], (xSH, J, L, xR0)) ∧ (∀ a, a ≠ 40 → a ≠ 41 → J a = I a) ∧ (∀ z, J 40 z = if z = 20 * y + x ∧ hitM I L e o x y = true then I 38 7 else I 40 z) ∧ (∀ z, J 41 z = if z = 20 * y + x ∧ cutM I L e cut x y = true then 0 else I 41 z) := by
  obtain ⟨h1, h2, h3, h4, hw, hh, he⟩ := hc
  have g1 : ¬ nI w ≤ nI x := q_nle hx (by omega)
  have e1 : 20 * nI y + nI x = nI (20 * y + x) := by rw [show (20 : Int32) = nI 20 from rfl, pk_mul, nI_add]
  have hcl : (nI (20 * y + x)).toNatClampNeg = 20 * y + x := nI_clamp (by omega)
  have g2 : ¬ (nI (20 * y + x) < 0 ∨ 400 ≤ 20 * y + x) := q_in (by omega) (by decide)
  have v0 : vp_nar .boolean 0 = 0 := rfl
  have k38 : ∀ (a k : Nat) (v : Int32), a ≠ 38 → xu I a k v 38 = I 38 := fun a k v h => xu_ne (Ne.symm h)
  have k41 : ∀ (k : Nat) (v : Int32), xu I 40 k v 41 = I 41 := fun k v => xu_ne (by decide)
  have j0 : ∀ (k : Nat) (v : Int32), xu I 40 k v 38 16 = nI e := fun k v => by rw [xu_ne (by decide)]; exact h4
  have hin0 := m_inside0 (d := d) (L := L) (x := nI x) (y := nI y) h4 he
  have hin1 := m_inside1 (d := d) (L := L) (x := nI x) (y := nI y) h4 he
  have hjn0 := m_inside0 (d := d) (L := L) (x := nI x) (y := nI y) (j0 (20 * y + x) (I 38 7)) he
  have hjn1 := m_inside1 (d := d) (L := L) (x := nI x) (y := nI y) (j0 (20 * y + x) (I 38 7)) he
  have tail : ∀ K : Nat → Nat → Int32, (K = I ∨ K = xu I 40 (20 * y + x) (I 38 7)) → ∃ J, X (d + 1) none 101 (114, [some (.ref 38), some (.int o), some (.int (nI y)), some (.int (nI x)), some (.int (nI (20 * y + x)))], [], (xSH, K, L, xR0)) = X (d + 1) none 101 (51, [some (.ref 38), some (.int o), some (.int (nI y)), some (.int (nI (x + 1))), some (.int (nI (20 * y + x)))], [], (xSH, J, L, xR0)) ∧ (∀ a, a ≠ 41 → J a = K a) ∧ (∀ z, J 41 z = if z = 20 * y + x ∧ cutM I L e cut x y = true then 0 else I 41 z) := by
    intro K hK
    have K38 : K 38 = I 38 := by rcases hK with rfl | rfl; · rfl
                                 · exact xu_ne (by decide)
    have K41 : K 41 = I 41 := by rcases hK with rfl | rfl; · rfl
                                 · exact xu_ne (by decide)
    have kin0 := m_inside0 (d := d) (I := K) (L := L) (x := nI x) (y := nI y) (by rw [K38]; exact h4) he
    have kin1 := m_inside1 (d := d) (I := K) (L := L) (x := nI x) (y := nI y) (by rw [K38]; exact h4) he
    unfold cutM
    by_cases q1 : cut ≤ 0
    · have q1' : ¬ 0 < cut := Int32.not_lt.mpr q1
      simp only [e_101_0, e_101_1, e_101_4, e_101_5, e_101_8, e_101_9, e_101_12, e_101_15, e_101_16, e_101_17, e_101_20, e_101_23, e_101_24, e_101_26, e_101_29, e_101_30, e_101_31, e_101_34, e_101_35, e_101_36, e_101_39, e_101_40, e_101_42, e_101_43, e_101_46, e_101_49, e_101_50, e_101_52, e_101_53, e_101_56, e_101_59, e_101_61, e_101_62, e_101_63, e_101_64, e_101_65, e_101_67, e_101_68, e_101_70, e_101_73, e_101_74, e_101_77, e_101_79, e_101_80, e_101_83, e_101_84, e_101_85, e_101_86, e_101_87, e_101_89, e_101_92, e_101_93, e_101_96, e_101_97, e_101_100, e_101_103, e_101_104, e_101_107, e_101_109, e_101_110, e_101_113, e_101_114, e_101_115, e_101_118, e_101_121, e_101_122, e_101_125, e_101_127, e_101_128, e_101_131, e_101_132, e_101_133, e_101_134, e_101_135, e_101_138, e_101_139, e_101_142, e_101_143, e_101_146, e_101_147, e_101_150, e_101_153, e_101_154, e_101_157, e_101_159, e_101_160, e_101_161, e_101_164, e_101_167, e_101_170, e_101_173, e_101_174, e_101_175, e_101_178, e_101_179, e_101_180, e_101_183, K38, h3, q1, if_true, nI_1]
      exact ⟨K, rfl, fun _ _ => rfl, fun z => by rw [K41]; simp [q1']⟩
    · have q1' : 0 < cut := Int32.not_le.mp q1
      by_cases q2 : I 41 (20 * y + x) = 0
      · simp only [e_101_0, e_101_1, e_101_4, e_101_5, e_101_8, e_101_9, e_101_12, e_101_15, e_101_16, e_101_17, e_101_20, e_101_23, e_101_24, e_101_26, e_101_29, e_101_30, e_101_31, e_101_34, e_101_35, e_101_36, e_101_39, e_101_40, e_101_42, e_101_43, e_101_46, e_101_49, e_101_50, e_101_52, e_101_53, e_101_56, e_101_59, e_101_61, e_101_62, e_101_63, e_101_64, e_101_65, e_101_67, e_101_68, e_101_70, e_101_73, e_101_74, e_101_77, e_101_79, e_101_80, e_101_83, e_101_84, e_101_85, e_101_86, e_101_87, e_101_89, e_101_92, e_101_93, e_101_96, e_101_97, e_101_100, e_101_103, e_101_104, e_101_107, e_101_109, e_101_110, e_101_113, e_101_114, e_101_115, e_101_118, e_101_121, e_101_122, e_101_125, e_101_127, e_101_128, e_101_131, e_101_132, e_101_133, e_101_134, e_101_135, e_101_138, e_101_139, e_101_142, e_101_143, e_101_146, e_101_147, e_101_150, e_101_153, e_101_154, e_101_157, e_101_159, e_101_160, e_101_161, e_101_164, e_101_167, e_101_170, e_101_173, e_101_174, e_101_175, e_101_178, e_101_179, e_101_180, e_101_183, K38, K41, h3, q1, q2, hcl, g2, if_true, if_false, nI_1]
        exact ⟨K, rfl, fun _ _ => rfl, fun z => by rw [K41]; simp [q2]⟩
      · by_cases q3 : cut = 2
        · cases q4 : mIns L e (nI x) (nI y) true
          · simp only [e_101_0, e_101_1, e_101_4, e_101_5, e_101_8, e_101_9, e_101_12, e_101_15, e_101_16, e_101_17, e_101_20, e_101_23, e_101_24, e_101_26, e_101_29, e_101_30, e_101_31, e_101_34, e_101_35, e_101_36, e_101_39, e_101_40, e_101_42, e_101_43, e_101_46, e_101_49, e_101_50, e_101_52, e_101_53, e_101_56, e_101_59, e_101_61, e_101_62, e_101_63, e_101_64, e_101_65, e_101_67, e_101_68, e_101_70, e_101_73, e_101_74, e_101_77, e_101_79, e_101_80, e_101_83, e_101_84, e_101_85, e_101_86, e_101_87, e_101_89, e_101_92, e_101_93, e_101_96, e_101_97, e_101_100, e_101_103, e_101_104, e_101_107, e_101_109, e_101_110, e_101_113, e_101_114, e_101_115, e_101_118, e_101_121, e_101_122, e_101_125, e_101_127, e_101_128, e_101_131, e_101_132, e_101_133, e_101_134, e_101_135, e_101_138, e_101_139, e_101_142, e_101_143, e_101_146, e_101_147, e_101_150, e_101_153, e_101_154, e_101_157, e_101_159, e_101_160, e_101_161, e_101_164, e_101_167, e_101_170, e_101_173, e_101_174, e_101_175, e_101_178, e_101_179, e_101_180, e_101_183, K38, K41, h3, q1, q2, q3, hcl, g2, kin1, q4, Option.bind_some, Option.toList_some, Option.toList_none, List.cons_append, List.nil_append, bI_0, if_true, if_false, nI_1, v0]
            refine ⟨_, rfl, fun a ha => xu_ne ha, fun z => ?_⟩
            rw [xu_eq, K41]
            simp (decide := true) [q2, q4]
          · simp only [e_101_0, e_101_1, e_101_4, e_101_5, e_101_8, e_101_9, e_101_12, e_101_15, e_101_16, e_101_17, e_101_20, e_101_23, e_101_24, e_101_26, e_101_29, e_101_30, e_101_31, e_101_34, e_101_35, e_101_36, e_101_39, e_101_40, e_101_42, e_101_43, e_101_46, e_101_49, e_101_50, e_101_52, e_101_53, e_101_56, e_101_59, e_101_61, e_101_62, e_101_63, e_101_64, e_101_65, e_101_67, e_101_68, e_101_70, e_101_73, e_101_74, e_101_77, e_101_79, e_101_80, e_101_83, e_101_84, e_101_85, e_101_86, e_101_87, e_101_89, e_101_92, e_101_93, e_101_96, e_101_97, e_101_100, e_101_103, e_101_104, e_101_107, e_101_109, e_101_110, e_101_113, e_101_114, e_101_115, e_101_118, e_101_121, e_101_122, e_101_125, e_101_127, e_101_128, e_101_131, e_101_132, e_101_133, e_101_134, e_101_135, e_101_138, e_101_139, e_101_142, e_101_143, e_101_146, e_101_147, e_101_150, e_101_153, e_101_154, e_101_157, e_101_159, e_101_160, e_101_161, e_101_164, e_101_167, e_101_170, e_101_173, e_101_174, e_101_175, e_101_178, e_101_179, e_101_180, e_101_183, K38, K41, h3, q1, q2, q3, hcl, g2, kin1, q4, Option.bind_some, Option.toList_some, Option.toList_none, List.cons_append, List.nil_append, bI_0, if_true, if_false, nI_1, Bool.true_eq_false]
            exact ⟨K, rfl, fun _ _ => rfl, fun z => by rw [K41]; simp [q4]⟩
        · cases q4 : mIns L e (nI x) (nI y) false
          · simp only [e_101_0, e_101_1, e_101_4, e_101_5, e_101_8, e_101_9, e_101_12, e_101_15, e_101_16, e_101_17, e_101_20, e_101_23, e_101_24, e_101_26, e_101_29, e_101_30, e_101_31, e_101_34, e_101_35, e_101_36, e_101_39, e_101_40, e_101_42, e_101_43, e_101_46, e_101_49, e_101_50, e_101_52, e_101_53, e_101_56, e_101_59, e_101_61, e_101_62, e_101_63, e_101_64, e_101_65, e_101_67, e_101_68, e_101_70, e_101_73, e_101_74, e_101_77, e_101_79, e_101_80, e_101_83, e_101_84, e_101_85, e_101_86, e_101_87, e_101_89, e_101_92, e_101_93, e_101_96, e_101_97, e_101_100, e_101_103, e_101_104, e_101_107, e_101_109, e_101_110, e_101_113, e_101_114, e_101_115, e_101_118, e_101_121, e_101_122, e_101_125, e_101_127, e_101_128, e_101_131, e_101_132, e_101_133, e_101_134, e_101_135, e_101_138, e_101_139, e_101_142, e_101_143, e_101_146, e_101_147, e_101_150, e_101_153, e_101_154, e_101_157, e_101_159, e_101_160, e_101_161, e_101_164, e_101_167, e_101_170, e_101_173, e_101_174, e_101_175, e_101_178, e_101_179, e_101_180, e_101_183, K38, K41, h3, q1, q2, q3, hcl, g2, kin0, q4, Option.bind_some, Option.toList_some, Option.toList_none, List.cons_append, List.nil_append, bI_0, if_true, if_false, nI_1, v0]
            refine ⟨_, rfl, fun a ha => xu_ne ha, fun z => ?_⟩
            rw [xu_eq, K41]
            simp [q1', q2, q3, q4]
          · simp only [e_101_0, e_101_1, e_101_4, e_101_5, e_101_8, e_101_9, e_101_12, e_101_15, e_101_16, e_101_17, e_101_20, e_101_23, e_101_24, e_101_26, e_101_29, e_101_30, e_101_31, e_101_34, e_101_35, e_101_36, e_101_39, e_101_40, e_101_42, e_101_43, e_101_46, e_101_49, e_101_50, e_101_52, e_101_53, e_101_56, e_101_59, e_101_61, e_101_62, e_101_63, e_101_64, e_101_65, e_101_67, e_101_68, e_101_70, e_101_73, e_101_74, e_101_77, e_101_79, e_101_80, e_101_83, e_101_84, e_101_85, e_101_86, e_101_87, e_101_89, e_101_92, e_101_93, e_101_96, e_101_97, e_101_100, e_101_103, e_101_104, e_101_107, e_101_109, e_101_110, e_101_113, e_101_114, e_101_115, e_101_118, e_101_121, e_101_122, e_101_125, e_101_127, e_101_128, e_101_131, e_101_132, e_101_133, e_101_134, e_101_135, e_101_138, e_101_139, e_101_142, e_101_143, e_101_146, e_101_147, e_101_150, e_101_153, e_101_154, e_101_157, e_101_159, e_101_160, e_101_161, e_101_164, e_101_167, e_101_170, e_101_173, e_101_174, e_101_175, e_101_178, e_101_179, e_101_180, e_101_183, K38, K41, h3, q1, q2, q3, hcl, g2, kin0, q4, Option.bind_some, Option.toList_some, Option.toList_none, List.cons_append, List.nil_append, bI_0, if_true, if_false, nI_1, Bool.true_eq_false]
            exact ⟨K, rfl, fun _ _ => rfl, fun z => by rw [K41]; simp [q3, q4]⟩
  have fin : ∀ K : Nat → Nat → Int32, (K = I ∨ K = xu I 40 (20 * y + x) (I 38 7)) → (∀ z, K 40 z = if z = 20 * y + x ∧ hitM I L e o x y = true then I 38 7 else I 40 z) → X (d + 1) none 101 (51, [some (.ref 38), some (.int o), some (.int (nI y)), some (.int (nI x)), x4], [], (xSH, I, L, xR0)) = X (d + 1) none 101 (114, [some (.ref 38), some (.int o), some (.int (nI y)), some (.int (nI x)), some (.int (nI (20 * y + x)))], [], (xSH, K, L, xR0)) → ∃ J y4, X (d + 1) none 101 (51, [some (.ref 38), some (.int o), some (.int (nI y)), some (.int (nI x)), x4], [], (xSH, I, L, xR0)) = X (d + 1) none 101 (51, [some (.ref 38), some (.int o), some (.int (nI y)), some (.int (nI (x + 1))), y4], [], (xSH, J, L, xR0)) ∧ (∀ a, a ≠ 40 → a ≠ 41 → J a = I a) ∧ (∀ z, J 40 z = if z = 20 * y + x ∧ hitM I L e o x y = true then I 38 7 else I 40 z) ∧ (∀ z, J 41 z = if z = 20 * y + x ∧ cutM I L e cut x y = true then 0 else I 41 z) := by
    intro K hK hz hX
    obtain ⟨J, j1, j2, j3⟩ := tail K hK
    refine ⟨J, _, hX.trans j1, fun a a1 a2 => ?_, fun z => ?_, j3⟩
    · rw [j2 a a2]
      rcases hK with rfl | rfl
      · rfl
      · exact xu_ne a1
    · rw [j2 40 (by decide)]
      exact hz z
  have pre : X (d + 1) none 101 (51, [some (.ref 38), some (.int o), some (.int (nI y)), some (.int (nI x)), x4], [], (xSH, I, L, xR0)) = X (d + 1) none 101 (67, [some (.ref 38), some (.int o), some (.int (nI y)), some (.int (nI x)), some (.int (nI (20 * y + x)))], [], (xSH, I, L, xR0)) := by
    rw [e_101_51]
    simp only [e_101_52, e_101_53, e_101_56, e_101_59, e_101_61, e_101_62, e_101_63, e_101_64, e_101_65, h1, g1, if_false, e1]
  unfold hitM at fin ⊢
  by_cases q1 : 13 ≤ o
  · have q1' : ¬ o < 13 := Int32.not_lt.mpr q1
    refine fin I (Or.inl rfl) (fun z => by simp [q1']) (pre.trans ?_)
    simp only [e_101_67, e_101_68, e_101_70, q1, if_true]
  · have q1' : o < 13 := Int32.not_le.mp q1
    by_cases q2 : I 41 (20 * y + x) = 0
    · refine fin I (Or.inl rfl) (fun z => by simp [q2]) (pre.trans ?_)
      simp only [e_101_67, e_101_68, e_101_70, e_101_73, e_101_74, e_101_77, e_101_79, e_101_80, q1, q2, hcl, g2, if_true, if_false]
    · by_cases q3 : o = 12
      · cases q4 : mIns L e (nI x) (nI y) true
        · refine fin I (Or.inl rfl) (fun z => by simp [q3, q4]) (pre.trans ?_)
          simp only [e_101_67, e_101_68, e_101_70, e_101_73, e_101_74, e_101_77, e_101_79, e_101_80, e_101_83, e_101_84, e_101_85, e_101_86, e_101_87, e_101_89, e_101_92, e_101_93, e_101_97, e_101_100, q1, q2, hcl, g2, q3, hin1, q4, Option.bind_some, Option.toList_some, Option.toList_none, List.cons_append, List.nil_append, bI_0, if_true, if_false]
          simp (decide := true)
        · refine fin (xu I 40 (20 * y + x) (I 38 7)) (Or.inr rfl) (fun z => by rw [xu_eq]; simp (decide := true) [q2, q3, q4]) (pre.trans ?_)
          simp only [e_101_67, e_101_68, e_101_70, e_101_73, e_101_74, e_101_77, e_101_79, e_101_80, e_101_83, e_101_84, e_101_85, e_101_86, e_101_87, e_101_89, e_101_92, e_101_93, e_101_97, e_101_100, e_101_103, e_101_104, e_101_107, e_101_109, e_101_110, e_101_113, q1, q2, hcl, g2, q3, hin1, q4, Option.bind_some, Option.toList_some, Option.toList_none, List.cons_append, List.nil_append, bI_0, if_true, if_false, Bool.true_eq_false]
          simp (decide := true)
      · cases q4 : mIns L e (nI x) (nI y) false
        · refine fin I (Or.inl rfl) (fun z => by simp [q3, q4]) (pre.trans ?_)
          simp only [e_101_67, e_101_68, e_101_70, e_101_73, e_101_74, e_101_77, e_101_79, e_101_80, e_101_83, e_101_84, e_101_85, e_101_86, e_101_87, e_101_89, e_101_96, e_101_97, e_101_100, q1, q2, hcl, g2, q3, hin0, q4, Option.bind_some, Option.toList_some, Option.toList_none, List.cons_append, List.nil_append, bI_0, if_true, if_false]
        · refine fin (xu I 40 (20 * y + x) (I 38 7)) (Or.inr rfl) (fun z => by rw [xu_eq]; simp [q1', q2, q3, q4]) (pre.trans ?_)
          simp only [e_101_67, e_101_68, e_101_70, e_101_73, e_101_74, e_101_77, e_101_79, e_101_80, e_101_83, e_101_84, e_101_85, e_101_86, e_101_87, e_101_89, e_101_96, e_101_97, e_101_100, e_101_103, e_101_104, e_101_107, e_101_109, e_101_110, e_101_113, q1, q2, hcl, g2, q3, hin0, q4, Option.bind_some, Option.toList_some, Option.toList_none, List.cons_append, List.nil_append, bI_0, if_true, if_false, Bool.true_eq_false]
end MF
