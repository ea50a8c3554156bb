def ptX (m : Nat → Int32) (x y : Int32) : Int64 := (m 0).toInt64 * x.toInt64 + (m 2).toInt64 * y.toInt64 + (m 4).toInt64
def ptY (m : Nat → Int32) (x y : Int32) : Int64 := (m 1).toInt64 * x.toInt64 + (m 3).toInt64 * y.toInt64 + (m 5).toInt64
def wIn (l : Int32) (p : Int64) : Bool := decide ((-l).toInt64 ≤ p) && decide (p ≤ l.toInt64)
def ptOk (m : Nat → Int32) (x y : Int32) : Bool := wIn 32767 (ptX m x y) && wIn 32767 (ptY m x y)
def cMat (I : Nat → Nat → Int32) (s : Nat) : Nat → Int32 := I (17 + 3 * s + 1)
theorem cMat_xu {I : Nat → Nat → Int32} {s a k : Nat} {v : Int32} (h : a ≤ 17) : cMat (xu I a k v) s = cMat I s := xu_ne (by omega)
theorem cMat_xs {I : Nat → Nat → Int32} {s a : Nat} {f : Nat → Int32} (h : a ≤ 17) : cMat (xs I a f) s = cMat I s := xs_ne (by omega)
def cPt (I : Nat → Nat → Int32) (s i : Nat) (x y : Int32) : Nat → Nat → Int32 := xu (xu I 14 i (ptX (cMat I s) x y).toInt32) 15 i (ptY (cMat I s) x y).toInt32
section PR
variable {d : Nat} {I : Nat → Nat → Int32} {L : Nat → Nat → Int64}
theorem c_within' {x : Int64} {l : Int32} : X d none 41 (0, [some (.long x), none, some (.int l)], [], (xSH, I, L, xR0)) = some (some (.int (bI (wIn l x))), (xSH, I, L, xR0)) := c_within
theorem c_preparePoint {s i : Nat} {x y : Int32} (hs : s < 7) (h : I 3 8 = nI s) (hi : i < 4) : X (d + 1) none 42 (0, [some (.ref 3), some (.int (nI i)), some (.int x), some (.int y), none, none, none, none], [], (xSH, I, L, xR0)) = some (some (.int (bI (ptOk (cMat I s) x y))), (xSH, cPt I s i x y, L, xR0)) := by
  have ha := (xSt_of s hs).1
  have hc : (nI i).toNatClampNeg = i := nI_clamp (by omega)
  have h2 : ¬ (nI i < 0 ∨ 4 ≤ i) := q_in hi (by decide)
  simp only [e_42_0, e_42_1, e_42_4, e_42_5, e_42_6, e_42_7, e_42_8 ha, e_42_11, e_42_13, e_42_14, e_42_17, e_42_18, e_42_19, e_42_20, e_42_21 ha, e_42_24, e_42_26, e_42_27, e_42_30, e_42_31, e_42_33, e_42_34, e_42_35, e_42_36, e_42_39, e_42_40, e_42_42, e_42_43, e_42_44, e_42_46, e_42_49, e_42_52, e_42_55, e_42_57, e_42_60, e_42_63, e_42_66, e_42_67, e_42_70, e_42_71z, e_42_71o, e_42_71, c_state hs h, c_pageX ha, c_pageY ha, c_within', Option.bind_some, Option.toList_some, Option.toList_none, List.cons_append, List.nil_append, hc, h2, if_false, bI_0]
  unfold ptOk cPt
  have e1 : (I (17 + 3 * s + 1) 0).toInt64 * x.toInt64 + (I (17 + 3 * s + 1) 2).toInt64 * y.toInt64 + (I (17 + 3 * s + 1) 4).toInt64 = ptX (cMat I s) x y := rfl
  have e2 : (I (17 + 3 * s + 1) 1).toInt64 * x.toInt64 + (I (17 + 3 * s + 1) 3).toInt64 * y.toInt64 + (I (17 + 3 * s + 1) 5).toInt64 = ptY (cMat I s) x y := rfl
  rw [e1, e2]
  cases wIn 32767 (ptX (cMat I s) x y) <;> cases wIn 32767 (ptY (cMat I s) x y) <;> simp [bI]
def mxX (m : Nat → Int32) (i : Nat) (x y : Int32) : Int64 := ptX m x y - (if i < 4 then (m 4).toInt64 else 0)
def mxY (m : Nat → Int32) (i : Nat) (x y : Int32) : Int64 := ptY m x y - (if i < 4 then (m 5).toInt64 else 0)
def mxOk (m : Nat → Int32) (i : Nat) (x y : Int32) : Bool := wIn 1000000 (mxX m i x y) && wIn 1000000 (mxY m i x y)
def cMx (I : Nat → Nat → Int32) (s i : Nat) : Nat → Nat → Int32 := xu (xu I 16 i (mxX (cMat I s) i (I 13 i) (I 13 (i + 1))).toInt32) 16 (i + 1) (mxY (cMat I s) i (I 13 i) (I 13 (i + 1))).toInt32
theorem c_pm_h {s i : Nat} {b : Bool} {x4 x5 x6 x7 : Option Value} (hs : s < 7) (hi : i + 1 < 6) : X (d + 1) none 38 (9, [some (.ref 3), some (.ref (17 + 3 * s)), some (.int (bI b)), some (.int (nI i)), x4, x5, x6, x7], [], (xSH, I, L, xR0)) = X (d + 1) none 38 (9, [some (.ref 3), some (.ref (17 + 3 * s)), some (.int (bI (b && mxOk (cMat I s) i (I 13 i) (I 13 (i + 1))))), some (.int (nI (i + 2))), some (.long (mxX (cMat I s) i (I 13 i) (I 13 (i + 1)))), none, some (.long (mxY (cMat I s) i (I 13 i) (I 13 (i + 1)))), none], [], (xSH, cMx I s i, L, xR0)) := by
  have ha := (xSt_of s hs).1
  have hc : (nI i).toNatClampNeg = i := nI_clamp (by omega)
  have hc1 : (nI (i + 1)).toNatClampNeg = i + 1 := nI_clamp (by omega)
  have h2 : ¬ (nI i < 0 ∨ 6 ≤ i) := q_in (by omega) (by decide)
  have h3 : ¬ (nI (i + 1) < 0 ∨ 6 ≤ i + 1) := q_in hi (by decide)
  have h4 : ¬ (6 : Int32) ≤ nI i := nI_ge (a := i) (b := 6) (by omega) (by decide)
  have h5 : ((4 : Int32) ≤ nI i) = (4 ≤ i) := propext (nI_leI (a := 4) (b := i) (by decide) (by omega))
  have h6 : nI i + 2 = nI (i + 2) := nI_add i 2
  rw [e_38_9]
  simp only [e_38_0, e_38_1, e_38_4, e_38_5, e_38_6, e_38_7, e_38_8, e_38_10, e_38_12, e_38_15, e_38_16, e_38_17, e_38_20, e_38_21, e_38_22, e_38_23, e_38_24, e_38_27, e_38_28, e_38_29, e_38_30, e_38_31, e_38_32 ha, e_38_35, e_38_36, e_38_37, e_38_40, e_38_41 ha, e_38_44, e_38_45 ha, e_38_46, e_38_49, e_38_50, e_38_51, e_38_52, e_38_54, e_38_55, e_38_56, e_38_59, e_38_60, e_38_61, e_38_62, e_38_63, e_38_66, e_38_67, e_38_68, e_38_69, e_38_70, e_38_71 ha, e_38_74, e_38_75, e_38_76, e_38_79, e_38_80 ha, e_38_83, e_38_84 ha, e_38_85, e_38_88, e_38_89, e_38_90, e_38_91, e_38_93, e_38_94, e_38_97, e_38_98, e_38_100, e_38_101, e_38_102, e_38_103, e_38_106, e_38_107, e_38_108, e_38_109, e_38_111, e_38_112, e_38_113, e_38_114, e_38_117, e_38_119, e_38_121, e_38_124, e_38_127, e_38_129, e_38_131, e_38_134, e_38_137, e_38_138, e_38_141, e_38_142, e_38_143, e_38_146, e_38_149, e_38_150z, e_38_150o, e_38_150, c_pageX ha, c_pageY ha, c_within', Option.bind_some, Option.toList_some, Option.toList_none, List.cons_append, List.nil_append, hc, hc1, h2, h3, h4, h5, h6, nI_1, if_false, bI_0]
  have e1 : ∀ x y : Int32, (I (17 + 3 * s + 1) 0).toInt64 * x.toInt64 + (I (17 + 3 * s + 1) 2).toInt64 * y.toInt64 + (I (17 + 3 * s + 1) 4).toInt64 = ptX (cMat I s) x y := fun _ _ => rfl
  have e2 : ∀ x y : Int32, (I (17 + 3 * s + 1) 1).toInt64 * x.toInt64 + (I (17 + 3 * s + 1) 3).toInt64 * y.toInt64 + (I (17 + 3 * s + 1) 5).toInt64 = ptY (cMat I s) x y := fun _ _ => rfl
  simp only [e1, e2]
  unfold mxOk cMx mxX mxY
  by_cases g : 4 ≤ i
  · have g' : ¬ i < 4 := by omega
    simp only [g, g', if_true, if_false, show (0 : Int32).toInt64 = 0 from rfl]
    cases b <;> cases wIn 1000000 (ptX (cMat I s) (I 13 i) (I 13 (i + 1)) - 0) <;> cases wIn 1000000 (ptY (cMat I s) (I 13 i) (I 13 (i + 1)) - 0) <;> simp [bI]
  · have g' : i < 4 := by omega
    simp only [g, g', if_true, if_false]
    have e3 : (I (17 + 3 * s + 1) 4).toInt64 = (cMat I s 4).toInt64 := rfl
    have e4 : (I (17 + 3 * s + 1) 5).toInt64 = (cMat I s 5).toInt64 := rfl
    rw [e3, e4]
    cases b <;> cases wIn 1000000 (ptX (cMat I s) (I 13 i) (I 13 (i + 1)) - (cMat I s 4).toInt64) <;> cases wIn 1000000 (ptY (cMat I s) (I 13 i) (I 13 (i + 1)) - (cMat I s 5).toInt64) <;> simp [bI]
theorem cMx_13 {s i k : Nat} : cMx I s i 13 k = I 13 k := by simp (decide := true) only [cMx, xu_ne, xu_eq, xs_ne, xs_at, ne_eq, reduceIte, if_true, if_false, not_false_eq_true]
theorem cMx_mat {s i s' : Nat} : cMat (cMx I s i) s' = cMat I s' := by unfold cMx; rw [cMat_xu (by decide), cMat_xu (by decide)]
def cMxs (I : Nat → Nat → Int32) (s : Nat) : Nat → Nat → Int32 := cMx (cMx (cMx I s 0) s 2) s 4
def cMxOk (I : Nat → Nat → Int32) (s : Nat) : Bool := mxOk (cMat I s) 0 (I 13 0) (I 13 1) && mxOk (cMat I s) 2 (I 13 2) (I 13 3) && mxOk (cMat I s) 4 (I 13 4) (I 13 5)
theorem c_prepareMatrix {s : Nat} (hs : s < 7) (h : I 3 8 = nI s) : X (d + 1) none 38 (0, [some (.ref 3), none, none, none, none, none, none, none], [], (xSH, I, L, xR0)) = some (some (.int (bI (cMxOk I s))), (xSH, cMxs I s, L, xR0)) := by
  have h6 : (6 : Int32) ≤ nI 6 := by decide
  simp only [e_38_0, e_38_1, e_38_4, e_38_5, e_38_6, e_38_7, e_38_8, c_state hs h, Option.bind_some, Option.toList_some, Option.toList_none, List.cons_append, List.nil_append]
  rw [show (1 : Int32) = bI true from rfl, show (0 : Int32) = nI 0 from rfl, c_pm_h hs (by decide), c_pm_h hs (by decide), c_pm_h hs (by decide), e_38_9]
  simp only [e_38_10, e_38_12, e_38_149, e_38_150, bI_01, h6, if_true, cMx_13, cMx_mat, Bool.true_and]
  rfl
theorem cPt_13 {s i k : Nat} {x y : Int32} : cPt I s i x y 13 k = I 13 k := by simp (decide := true) only [cPt, xu_ne, xu_eq, xs_ne, xs_at, ne_eq, reduceIte, if_true, if_false, not_false_eq_true]
theorem cPt_3 {s i k : Nat} {x y : Int32} : cPt I s i x y 3 k = I 3 k := by simp (decide := true) only [cPt, xu_ne, xu_eq, xs_ne, xs_at, ne_eq, reduceIte, if_true, if_false, not_false_eq_true]
theorem cPt_mat {s i s' : Nat} {x y : Int32} : cMat (cPt I s i x y) s' = cMat I s' := by unfold cPt; rw [cMat_xu (by decide), cMat_xu (by decide)]
def cOk (I : Nat → Nat → Int32) (s : Nat) (o : Int32) : Bool := if o = 99 then ptOk (cMat I s) (I 13 0) (I 13 1) && ptOk (cMat I s) (I 13 2) (I 13 3) && ptOk (cMat I s) (I 13 4) (I 13 5) else if o = 103 then decide (0 ≤ I 13 0) && decide (I 13 0 ≤ 255) else if o = 108 then ptOk (cMat I s) (I 13 0) (I 13 1) else if o = 109 then ptOk (cMat I s) (I 13 0) (I 13 1) else if o = 25970 then ptOk (cMat I s) (I 13 0) (I 13 1) && ptOk (cMat I s) (I 13 0 + I 13 2) (I 13 1) && ptOk (cMat I s) (I 13 0 + I 13 2) (I 13 1 + I 13 3) && ptOk (cMat I s) (I 13 0) (I 13 1 + I 13 3) else if o = 28003 then cMxOk I s else true
def cPr (I : Nat → Nat → Int32) (s : Nat) (o : Int32) : Nat → Nat → Int32 := if o = 99 then cPt (cPt (cPt I s 0 (I 13 0) (I 13 1)) s 1 (I 13 2) (I 13 3)) s 2 (I 13 4) (I 13 5) else if o = 108 then cPt I s 0 (I 13 0) (I 13 1) else if o = 109 then cPt I s 0 (I 13 0) (I 13 1) else if o = 25970 then cPt (cPt (cPt (cPt I s 0 (I 13 0) (I 13 1)) s 1 (I 13 0 + I 13 2) (I 13 1)) s 2 (I 13 0 + I 13 2) (I 13 1 + I 13 3)) s 3 (I 13 0) (I 13 1 + I 13 3) else if o = 28003 then cMxs I s else I
theorem cPt_fr {s i a : Nat} {x y : Int32} (h1 : a ≠ 14) (h2 : a ≠ 15) : cPt I s i x y a = I a := by unfold cPt; rw [xu_ne h2, xu_ne h1]
theorem cMx_fr {s i a : Nat} (h : a ≠ 16) : cMx I s i a = I a := by unfold cMx; rw [xu_ne h, xu_ne h]
theorem c_pp0 {s : Nat} {x y : Int32} (hs : s < 7) (h : I 3 8 = nI s) : X (d + 1) none 42 (0, [some (.ref 3), some (.int 0), some (.int x), some (.int y), none, none, none, none], [], (xSH, I, L, xR0)) = some (some (.int (bI (ptOk (cMat I s) x y))), (xSH, cPt I s 0 x y, L, xR0)) := c_preparePoint (i := 0) hs h (by decide)
theorem c_pp1 {s : Nat} {x y : Int32} (hs : s < 7) (h : I 3 8 = nI s) : X (d + 1) none 42 (0, [some (.ref 3), some (.int 1), some (.int x), some (.int y), none, none, none, none], [], (xSH, I, L, xR0)) = some (some (.int (bI (ptOk (cMat I s) x y))), (xSH, cPt I s 1 x y, L, xR0)) := c_preparePoint (i := 1) hs h (by decide)
theorem c_pp2 {s : Nat} {x y : Int32} (hs : s < 7) (h : I 3 8 = nI s) : X (d + 1) none 42 (0, [some (.ref 3), some (.int 2), some (.int x), some (.int y), none, none, none, none], [], (xSH, I, L, xR0)) = some (some (.int (bI (ptOk (cMat I s) x y))), (xSH, cPt I s 2 x y, L, xR0)) := c_preparePoint (i := 2) hs h (by decide)
theorem c_pp3 {s : Nat} {x y : Int32} (hs : s < 7) (h : I 3 8 = nI s) : X (d + 1) none 42 (0, [some (.ref 3), some (.int 3), some (.int x), some (.int y), none, none, none, none], [], (xSH, I, L, xR0)) = some (some (.int (bI (ptOk (cMat I s) x y))), (xSH, cPt I s 3 x y, L, xR0)) := c_preparePoint (i := 3) hs h (by decide)
theorem c_prepare {s : Nat} {o : Int32} (hs : s < 7) (h : I 3 8 = nI s) : ∃ J, X (d + 2) none 37 (0, [some (.ref 3), some (.int o), none, none], [], (xSH, I, L, xR0)) = some (some (.int (bI (cOk I s o))), (xSH, J, L, xR0)) ∧ (∀ a, a ≠ 14 → a ≠ 15 → a ≠ 16 → J a = I a) ∧ (cOk I s o = true → J = cPr I s o) := by
  by_cases g1 : o = 99
  · subst g1
    have k1 : cPt I s 0 (I 13 0) (I 13 1) 3 8 = nI s := by rw [cPt_3]; exact h
    have k2 : cPt (cPt I s 0 (I 13 0) (I 13 1)) s 1 (I 13 2) (I 13 3) 3 8 = nI s := by rw [cPt_3]; exact k1
    simp (decide := true) only [e_37_0, e_37_1, e_37_60, e_37_61, e_37_64, e_37_65, e_37_66, e_37_69, e_37_70, e_37_73, e_37_74, e_37_75, e_37_78, e_37_81, e_37_82, e_37_85, e_37_86z, e_37_86o, e_37_86, e_37_87, e_37_88, e_37_91z, e_37_91o, e_37_91, e_37_92, e_37_93, e_37_94, e_37_95, e_37_98, e_37_99, e_37_100, e_37_101, e_37_104, e_37_105, e_37_106, e_37_109z, e_37_109o, e_37_109, e_37_110, e_37_111, e_37_112, e_37_113, e_37_116, e_37_117, e_37_118, e_37_119, e_37_122, e_37_123, e_37_124, e_37_127, e_37_130, e_37_131, e_37_132, e_37_133, e_37_136, e_37_137, e_37_138, e_37_139, e_37_142, e_37_143, e_37_144, e_37_147, e_37_150, e_37_151, e_37_152, e_37_153, e_37_156, e_37_157, e_37_158, e_37_159, e_37_162, e_37_163, e_37_164, e_37_167, e_37_170, e_37_171, e_37_174, e_37_175z, e_37_175o, e_37_175, e_37_176, e_37_177, e_37_180, e_37_181, e_37_182, e_37_183, e_37_186, e_37_187, e_37_188, e_37_189, e_37_190, e_37_191, e_37_194, e_37_195, e_37_196, e_37_197, e_37_200, e_37_201, e_37_202, e_37_203, e_37_204, e_37_205, e_37_206, e_37_207, e_37_210, e_37_211, e_37_212, e_37_213, e_37_216, e_37_217, e_37_218, e_37_221, e_37_224, e_37_225, e_37_226, e_37_227, e_37_228, e_37_231, e_37_232, e_37_233, e_37_236, e_37_239, e_37_240, e_37_241, e_37_242, e_37_243, e_37_246, e_37_249, e_37_250, e_37_251, e_37_252, e_37_255, e_37_256, e_37_257, e_37_258, e_37_261, e_37_264, e_37_265, e_37_268, e_37_269z, e_37_269o, e_37_269, e_37_270, e_37_271, c_pp0 hs h, cPt_13, c_pp1 hs k1, c_pp2 hs k2, Option.bind_some, Option.toList_some, Option.toList_none, List.cons_append, List.nil_append, bI_0, cPt_mat, if_true, if_false, reduceIte]
    unfold cOk cPr
    simp only [if_true]
    cases ptOk (cMat I s) (I 13 0) (I 13 1)
    · exact ⟨_, rfl, fun a h1 h2 h3 => by rw [cPt_fr h1 h2], fun z => by cases z⟩
    · cases ptOk (cMat I s) (I 13 2) (I 13 3)
      · exact ⟨_, rfl, fun a h1 h2 h3 => by rw [cPt_fr h1 h2, cPt_fr h1 h2], fun z => by cases z⟩
      · cases ptOk (cMat I s) (I 13 4) (I 13 5)
        · exact ⟨_, rfl, fun a h1 h2 h3 => by rw [cPt_fr h1 h2, cPt_fr h1 h2, cPt_fr h1 h2], fun z => by cases z⟩
        · exact ⟨_, rfl, fun a h1 h2 h3 => by rw [cPt_fr h1 h2, cPt_fr h1 h2, cPt_fr h1 h2], fun _ => rfl⟩
  · by_cases g2 : o = 103
    · subst g2
      simp (decide := true) only [e_37_0, e_37_1, e_37_60, e_37_61, e_37_64, e_37_65, e_37_66, e_37_69, e_37_70, e_37_73, e_37_74, e_37_75, e_37_78, e_37_81, e_37_82, e_37_85, e_37_86z, e_37_86o, e_37_86, e_37_87, e_37_88, e_37_91z, e_37_91o, e_37_91, e_37_92, e_37_93, e_37_94, e_37_95, e_37_98, e_37_99, e_37_100, e_37_101, e_37_104, e_37_105, e_37_106, e_37_109z, e_37_109o, e_37_109, e_37_110, e_37_111, e_37_112, e_37_113, e_37_116, e_37_117, e_37_118, e_37_119, e_37_122, e_37_123, e_37_124, e_37_127, e_37_130, e_37_131, e_37_132, e_37_133, e_37_136, e_37_137, e_37_138, e_37_139, e_37_142, e_37_143, e_37_144, e_37_147, e_37_150, e_37_151, e_37_152, e_37_153, e_37_156, e_37_157, e_37_158, e_37_159, e_37_162, e_37_163, e_37_164, e_37_167, e_37_170, e_37_171, e_37_174, e_37_175z, e_37_175o, e_37_175, e_37_176, e_37_177, e_37_180, e_37_181, e_37_182, e_37_183, e_37_186, e_37_187, e_37_188, e_37_189, e_37_190, e_37_191, e_37_194, e_37_195, e_37_196, e_37_197, e_37_200, e_37_201, e_37_202, e_37_203, e_37_204, e_37_205, e_37_206, e_37_207, e_37_210, e_37_211, e_37_212, e_37_213, e_37_216, e_37_217, e_37_218, e_37_221, e_37_224, e_37_225, e_37_226, e_37_227, e_37_228, e_37_231, e_37_232, e_37_233, e_37_236, e_37_239, e_37_240, e_37_241, e_37_242, e_37_243, e_37_246, e_37_249, e_37_250, e_37_251, e_37_252, e_37_255, e_37_256, e_37_257, e_37_258, e_37_261, e_37_264, e_37_265, e_37_268, e_37_269z, e_37_269o, e_37_269, e_37_270, e_37_271, if_true, if_false, reduceIte]
      unfold cOk cPr
      refine ⟨I, ?_, fun _ _ _ _ => rfl, fun _ => by simp⟩
      by_cases q1 : I 13 0 < 0
      · have q2 : ¬ 0 ≤ I 13 0 := Int32.not_le.mpr q1
        simp [q1, q2, bI]
      · have q2 : 0 ≤ I 13 0 := Int32.not_lt.mp q1
        by_cases q3 : 255 < I 13 0
        · have q4 : ¬ I 13 0 ≤ 255 := Int32.not_le.mpr q3
          simp [q1, q2, q3, q4, bI]
        · have q4 : I 13 0 ≤ 255 := Int32.not_lt.mp q3
          simp [q1, q2, q3, q4, bI]
    · by_cases g3 : o = 108
      · subst g3
        simp (decide := true) only [e_37_0, e_37_1, e_37_60, e_37_61, e_37_64, e_37_65, e_37_66, e_37_69, e_37_70, e_37_73, e_37_74, e_37_75, e_37_78, e_37_81, e_37_82, e_37_85, e_37_86z, e_37_86o, e_37_86, e_37_87, e_37_88, e_37_91z, e_37_91o, e_37_91, e_37_92, e_37_93, e_37_94, e_37_95, e_37_98, e_37_99, e_37_100, e_37_101, e_37_104, e_37_105, e_37_106, e_37_109z, e_37_109o, e_37_109, e_37_110, e_37_111, e_37_112, e_37_113, e_37_116, e_37_117, e_37_118, e_37_119, e_37_122, e_37_123, e_37_124, e_37_127, e_37_130, e_37_131, e_37_132, e_37_133, e_37_136, e_37_137, e_37_138, e_37_139, e_37_142, e_37_143, e_37_144, e_37_147, e_37_150, e_37_151, e_37_152, e_37_153, e_37_156, e_37_157, e_37_158, e_37_159, e_37_162, e_37_163, e_37_164, e_37_167, e_37_170, e_37_171, e_37_174, e_37_175z, e_37_175o, e_37_175, e_37_176, e_37_177, e_37_180, e_37_181, e_37_182, e_37_183, e_37_186, e_37_187, e_37_188, e_37_189, e_37_190, e_37_191, e_37_194, e_37_195, e_37_196, e_37_197, e_37_200, e_37_201, e_37_202, e_37_203, e_37_204, e_37_205, e_37_206, e_37_207, e_37_210, e_37_211, e_37_212, e_37_213, e_37_216, e_37_217, e_37_218, e_37_221, e_37_224, e_37_225, e_37_226, e_37_227, e_37_228, e_37_231, e_37_232, e_37_233, e_37_236, e_37_239, e_37_240, e_37_241, e_37_242, e_37_243, e_37_246, e_37_249, e_37_250, e_37_251, e_37_252, e_37_255, e_37_256, e_37_257, e_37_258, e_37_261, e_37_264, e_37_265, e_37_268, e_37_269z, e_37_269o, e_37_269, e_37_270, e_37_271, c_pp0 hs h, Option.bind_some, Option.toList_some, Option.toList_none, List.cons_append, List.nil_append, bI_01, if_true, if_false, reduceIte]
        unfold cOk cPr
        exact ⟨_, rfl, fun a h1 h2 h3 => by rw [cPt_fr h1 h2], fun _ => by simp⟩
      · by_cases g4 : o = 109
        · subst g4
          simp (decide := true) only [e_37_0, e_37_1, e_37_60, e_37_61, e_37_64, e_37_65, e_37_66, e_37_69, e_37_70, e_37_73, e_37_74, e_37_75, e_37_78, e_37_81, e_37_82, e_37_85, e_37_86z, e_37_86o, e_37_86, e_37_87, e_37_88, e_37_91z, e_37_91o, e_37_91, e_37_92, e_37_93, e_37_94, e_37_95, e_37_98, e_37_99, e_37_100, e_37_101, e_37_104, e_37_105, e_37_106, e_37_109z, e_37_109o, e_37_109, e_37_110, e_37_111, e_37_112, e_37_113, e_37_116, e_37_117, e_37_118, e_37_119, e_37_122, e_37_123, e_37_124, e_37_127, e_37_130, e_37_131, e_37_132, e_37_133, e_37_136, e_37_137, e_37_138, e_37_139, e_37_142, e_37_143, e_37_144, e_37_147, e_37_150, e_37_151, e_37_152, e_37_153, e_37_156, e_37_157, e_37_158, e_37_159, e_37_162, e_37_163, e_37_164, e_37_167, e_37_170, e_37_171, e_37_174, e_37_175z, e_37_175o, e_37_175, e_37_176, e_37_177, e_37_180, e_37_181, e_37_182, e_37_183, e_37_186, e_37_187, e_37_188, e_37_189, e_37_190, e_37_191, e_37_194, e_37_195, e_37_196, e_37_197, e_37_200, e_37_201, e_37_202, e_37_203, e_37_204, e_37_205, e_37_206, e_37_207, e_37_210, e_37_211, e_37_212, e_37_213, e_37_216, e_37_217, e_37_218, e_37_221, e_37_224, e_37_225, e_37_226, e_37_227, e_37_228, e_37_231, e_37_232, e_37_233, e_37_236, e_37_239, e_37_240, e_37_241, e_37_242, e_37_243, e_37_246, e_37_249, e_37_250, e_37_251, e_37_252, e_37_255, e_37_256, e_37_257, e_37_258, e_37_261, e_37_264, e_37_265, e_37_268, e_37_269z, e_37_269o, e_37_269, e_37_270, e_37_271, c_pp0 hs h, Option.bind_some, Option.toList_some, Option.toList_none, List.cons_append, List.nil_append, bI_01, if_true, if_false, reduceIte]
          unfold cOk cPr
          exact ⟨_, rfl, fun a h1 h2 h3 => by rw [cPt_fr h1 h2], fun _ => by simp⟩
        · by_cases g5 : o = 25970
          · subst g5
            have k1 : cPt I s 0 (I 13 0) (I 13 1) 3 8 = nI s := by rw [cPt_3]; exact h
            have k2 : cPt (cPt I s 0 (I 13 0) (I 13 1)) s 1 (I 13 0 + I 13 2) (I 13 1) 3 8 = nI s := by rw [cPt_3]; exact k1
            have k3 : cPt (cPt (cPt I s 0 (I 13 0) (I 13 1)) s 1 (I 13 0 + I 13 2) (I 13 1)) s 2 (I 13 0 + I 13 2) (I 13 1 + I 13 3) 3 8 = nI s := by rw [cPt_3]; exact k2
            simp (decide := true) only [e_37_0, e_37_1, e_37_60, e_37_61, e_37_64, e_37_65, e_37_66, e_37_69, e_37_70, e_37_73, e_37_74, e_37_75, e_37_78, e_37_81, e_37_82, e_37_85, e_37_86z, e_37_86o, e_37_86, e_37_87, e_37_88, e_37_91z, e_37_91o, e_37_91, e_37_92, e_37_93, e_37_94, e_37_95, e_37_98, e_37_99, e_37_100, e_37_101, e_37_104, e_37_105, e_37_106, e_37_109z, e_37_109o, e_37_109, e_37_110, e_37_111, e_37_112, e_37_113, e_37_116, e_37_117, e_37_118, e_37_119, e_37_122, e_37_123, e_37_124, e_37_127, e_37_130, e_37_131, e_37_132, e_37_133, e_37_136, e_37_137, e_37_138, e_37_139, e_37_142, e_37_143, e_37_144, e_37_147, e_37_150, e_37_151, e_37_152, e_37_153, e_37_156, e_37_157, e_37_158, e_37_159, e_37_162, e_37_163, e_37_164, e_37_167, e_37_170, e_37_171, e_37_174, e_37_175z, e_37_175o, e_37_175, e_37_176, e_37_177, e_37_180, e_37_181, e_37_182, e_37_183, e_37_186, e_37_187, e_37_188, e_37_189, e_37_190, e_37_191, e_37_194, e_37_195, e_37_196, e_37_197, e_37_200, e_37_201, e_37_202, e_37_203, e_37_204, e_37_205, e_37_206, e_37_207, e_37_210, e_37_211, e_37_212, e_37_213, e_37_216, e_37_217, e_37_218, e_37_221, e_37_224, e_37_225, e_37_226, e_37_227, e_37_228, e_37_231, e_37_232, e_37_233, e_37_236, e_37_239, e_37_240, e_37_241, e_37_242, e_37_243, e_37_246, e_37_249, e_37_250, e_37_251, e_37_252, e_37_255, e_37_256, e_37_257, e_37_258, e_37_261, e_37_264, e_37_265, e_37_268, e_37_269z, e_37_269o, e_37_269, e_37_270, e_37_271, c_pp0 hs h, cPt_13, c_pp1 hs k1, c_pp2 hs k2, c_pp3 hs k3, Option.bind_some, Option.toList_some, Option.toList_none, List.cons_append, List.nil_append, bI_0, cPt_mat, if_true, if_false, reduceIte]
            unfold cOk cPr
            cases ptOk (cMat I s) (I 13 0) (I 13 1)
            · exact ⟨_, rfl, fun a h1 h2 h3 => by rw [cPt_fr h1 h2], fun z => by simp at z⟩
            · cases ptOk (cMat I s) (I 13 0 + I 13 2) (I 13 1)
              · exact ⟨_, rfl, fun a h1 h2 h3 => by rw [cPt_fr h1 h2, cPt_fr h1 h2], fun z => by simp at z⟩
              · cases ptOk (cMat I s) (I 13 0 + I 13 2) (I 13 1 + I 13 3)
                · exact ⟨_, rfl, fun a h1 h2 h3 => by rw [cPt_fr h1 h2, cPt_fr h1 h2, cPt_fr h1 h2], fun z => by simp at z⟩
                · cases ptOk (cMat I s) (I 13 0) (I 13 1 + I 13 3)
                  · exact ⟨_, rfl, fun a h1 h2 h3 => by rw [cPt_fr h1 h2, cPt_fr h1 h2, cPt_fr h1 h2, cPt_fr h1 h2], fun z => by simp at z⟩
                  · exact ⟨_, rfl, fun a h1 h2 h3 => by rw [cPt_fr h1 h2, cPt_fr h1 h2, cPt_fr h1 h2, cPt_fr h1 h2], fun _ => by simp⟩
          · by_cases g6 : o = 28003
            · subst g6
              simp (decide := true) only [e_37_0, e_37_1, e_37_60, e_37_61, e_37_64, e_37_65, e_37_66, e_37_69, e_37_70, e_37_73, e_37_74, e_37_75, e_37_78, e_37_81, e_37_82, e_37_85, e_37_86z, e_37_86o, e_37_86, e_37_87, e_37_88, e_37_91z, e_37_91o, e_37_91, e_37_92, e_37_93, e_37_94, e_37_95, e_37_98, e_37_99, e_37_100, e_37_101, e_37_104, e_37_105, e_37_106, e_37_109z, e_37_109o, e_37_109, e_37_110, e_37_111, e_37_112, e_37_113, e_37_116, e_37_117, e_37_118, e_37_119, e_37_122, e_37_123, e_37_124, e_37_127, e_37_130, e_37_131, e_37_132, e_37_133, e_37_136, e_37_137, e_37_138, e_37_139, e_37_142, e_37_143, e_37_144, e_37_147, e_37_150, e_37_151, e_37_152, e_37_153, e_37_156, e_37_157, e_37_158, e_37_159, e_37_162, e_37_163, e_37_164, e_37_167, e_37_170, e_37_171, e_37_174, e_37_175z, e_37_175o, e_37_175, e_37_176, e_37_177, e_37_180, e_37_181, e_37_182, e_37_183, e_37_186, e_37_187, e_37_188, e_37_189, e_37_190, e_37_191, e_37_194, e_37_195, e_37_196, e_37_197, e_37_200, e_37_201, e_37_202, e_37_203, e_37_204, e_37_205, e_37_206, e_37_207, e_37_210, e_37_211, e_37_212, e_37_213, e_37_216, e_37_217, e_37_218, e_37_221, e_37_224, e_37_225, e_37_226, e_37_227, e_37_228, e_37_231, e_37_232, e_37_233, e_37_236, e_37_239, e_37_240, e_37_241, e_37_242, e_37_243, e_37_246, e_37_249, e_37_250, e_37_251, e_37_252, e_37_255, e_37_256, e_37_257, e_37_258, e_37_261, e_37_264, e_37_265, e_37_268, e_37_269z, e_37_269o, e_37_269, e_37_270, e_37_271, c_prepareMatrix hs h, Option.bind_some, Option.toList_some, Option.toList_none, List.cons_append, List.nil_append, bI_01, if_true, if_false, reduceIte]
              unfold cOk cPr
              exact ⟨_, rfl, fun a h1 h2 h3 => by unfold cMxs; rw [cMx_fr h3, cMx_fr h3, cMx_fr h3], fun _ => by simp⟩
            · simp only [e_37_0, e_37_1, e_37_60, e_37_61, e_37_64, e_37_65, e_37_66, e_37_69, e_37_70, e_37_73, e_37_74, e_37_75, e_37_78, e_37_81, e_37_82, e_37_85, e_37_86z, e_37_86o, e_37_86, e_37_87, e_37_88, e_37_91z, e_37_91o, e_37_91, e_37_92, e_37_93, e_37_94, e_37_95, e_37_98, e_37_99, e_37_100, e_37_101, e_37_104, e_37_105, e_37_106, e_37_109z, e_37_109o, e_37_109, e_37_110, e_37_111, e_37_112, e_37_113, e_37_116, e_37_117, e_37_118, e_37_119, e_37_122, e_37_123, e_37_124, e_37_127, e_37_130, e_37_131, e_37_132, e_37_133, e_37_136, e_37_137, e_37_138, e_37_139, e_37_142, e_37_143, e_37_144, e_37_147, e_37_150, e_37_151, e_37_152, e_37_153, e_37_156, e_37_157, e_37_158, e_37_159, e_37_162, e_37_163, e_37_164, e_37_167, e_37_170, e_37_171, e_37_174, e_37_175z, e_37_175o, e_37_175, e_37_176, e_37_177, e_37_180, e_37_181, e_37_182, e_37_183, e_37_186, e_37_187, e_37_188, e_37_189, e_37_190, e_37_191, e_37_194, e_37_195, e_37_196, e_37_197, e_37_200, e_37_201, e_37_202, e_37_203, e_37_204, e_37_205, e_37_206, e_37_207, e_37_210, e_37_211, e_37_212, e_37_213, e_37_216, e_37_217, e_37_218, e_37_221, e_37_224, e_37_225, e_37_226, e_37_227, e_37_228, e_37_231, e_37_232, e_37_233, e_37_236, e_37_239, e_37_240, e_37_241, e_37_242, e_37_243, e_37_246, e_37_249, e_37_250, e_37_251, e_37_252, e_37_255, e_37_256, e_37_257, e_37_258, e_37_261, e_37_264, e_37_265, e_37_268, e_37_269z, e_37_269o, e_37_269, e_37_270, e_37_271, g1, g2, g3, g4, g5, g6, if_false]
              unfold cOk cPr
              simp only [g1, g2, g3, g4, g5, g6, if_false]
              exact ⟨_, rfl, fun _ _ _ _ => rfl, fun _ => rfl⟩
end PR
