def fdv (x y : Int32) : Int32 := if 0 ≤ x ^^^ y then x / y else if x / y * y = x then x / y else x / y - 1
def cvC (k st : Int32) (p : Nat → Int32) : Int32 := fdv (st * (4 - k) * (4 - k) * (4 - k) + 3 * p 0 * k * (4 - k) * (4 - k) + 3 * p 1 * k * k * (4 - k) + p 2 * k * k * k + 32) 64
def alg (p0 p1 p2 p3 k : Int64) : Int64 := (p0 * (4 - k) * (4 - k) * (4 - k) + 3 * p1 * k * (4 - k) * (4 - k) + 3 * p2 * k * k * (4 - k) + p3 * k * k * k + 32) >>> ((6 : Int32).toInt64 &&& 63)
section CV
variable {d : Nat} {I : Nat → Nat → Int32} {L : Nat → Nat → Int64}
theorem c_floorDiv {x y : Int32} (hy : ¬ y = 0) : X d none 54 (0, [some (.int x), some (.int y), none], [], (xSH, I, L, xR0)) = some (some (.int (fdv x y)), (xSH, I, L, xR0)) := by
  simp only [e_54_0, e_54_1, e_54_2 hy, e_54_3, e_54_4, e_54_5, e_54_6, e_54_7, e_54_10, e_54_11, e_54_12, e_54_13, e_54_14, e_54_17, e_54_18, e_54_19, e_54_20, e_54_21, e_54_22, ite_sv]
  rfl
theorem c_curveAt {k st : Int32} {a : Nat} (ha : xSH[a]? = some (0, 4)) : X (d + 1) none 53 (0, [some (.int k), some (.int st), some (.ref a), none, none], [], (xSH, I, L, xR0)) = some (some (.int (cvC k st (I a))), (xSH, I, L, xR0)) := by
  simp only [e_53_0, e_53_1, e_53_2, e_53_3, e_53_4, e_53_5, e_53_6, e_53_7, e_53_8, e_53_9, e_53_10, e_53_11, e_53_12, e_53_13, e_53_14 ha, e_53_15, e_53_16, e_53_17, e_53_18, e_53_19, e_53_20, e_53_21, e_53_22, e_53_23, e_53_24, e_53_25, e_53_26 ha, e_53_27, e_53_28, e_53_29, e_53_30, e_53_31, e_53_32, e_53_33, e_53_34, e_53_35, e_53_36, e_53_37 ha, e_53_38, e_53_39, e_53_40, e_53_41, e_53_42, e_53_43, e_53_44, e_53_45, e_53_47, e_53_49, e_53_51, e_53_52, e_53_54, e_53_57, c_floorDiv (show ¬ (64 : Int32) = 0 by decide), Option.bind_some, Option.toList_some, Option.toList_none, List.cons_append, List.nil_append]
  rfl
theorem m_along {p0 p1 p2 p3 k : Int64} : X d none 100 (0, [some (.long p0), none, some (.long p1), none, some (.long p2), none, some (.long p3), none, some (.long k), none, none, none, none, none], [], (xSH, I, L, xR0)) = some (some (.long (alg p0 p1 p2 p3 k)), (xSH, I, L, xR0)) := by
  simp only [e_100_0, e_100_3, e_100_5, e_100_6, e_100_8, e_100_9, e_100_11, e_100_12, e_100_14, e_100_15, e_100_17, e_100_18, e_100_21, e_100_22, e_100_23, e_100_25, e_100_26, e_100_28, e_100_29, e_100_31, e_100_32, e_100_33, e_100_36, e_100_38, e_100_39, e_100_41, e_100_42, e_100_44, e_100_45, e_100_47, e_100_48, e_100_49, e_100_51, e_100_53, e_100_54, e_100_56, e_100_57, e_100_59, e_100_60, e_100_61, e_100_64, e_100_65, e_100_67, e_100_69, e_100_71, e_100_72]
  rfl
theorem c_addC_h {k e : Nat} {x y : Int32} (hk : k ≤ 4) (he : I 6 5 = nI e) (h : e < 120) : X (d + 2) none 52 (2, [some (.ref 3), some (.int x), some (.int y), some (.int (nI k))], [], (xSH, I, L, xR0)) = X (d + 2) none 52 (2, [some (.ref 3), some (.int x), some (.int y), some (.int (nI (k + 1)))], [], (xSH, cEdge I e (cvC (nI k) x (I 14)) (cvC (nI k) y (I 15)), L, xR0)) := by
  have h4 : ¬ (4 : Int32) < nI k := nI_nlt (a := 4) (b := k) hk (by decide)
  rw [e_52_2]
  simp only [e_52_0, e_52_1, e_52_3, e_52_4, e_52_7, e_52_8, e_52_11, e_52_12, e_52_13, e_52_14, e_52_17, e_52_20, e_52_21, e_52_22, e_52_23, e_52_26, e_52_29, e_52_32, e_52_35, e_52_38, c_curveAt sh_14, c_curveAt sh_15, c_edgeTo he h, Option.bind_some, Option.toList_some, Option.toList_none, List.cons_append, List.nil_append, h4, if_false, nI_1]
theorem cEdge_5 {e : Nat} {x y : Int32} : cEdge I e x y 6 5 = nI (e + 1) := by simp (decide := true) only [cEdge, cHold, xu_ne, xu_eq, xs_ne, xs_at, ne_eq, reduceIte, if_true, if_false, not_false_eq_true]
theorem cEdge_fr {e a : Nat} {x y : Int32} (h6 : a ≠ 6) (h7 : a ≠ 7) (h8 : a ≠ 8) (h9 : a ≠ 9) (h10 : a ≠ 10) : cEdge I e x y a = I a := by
  unfold cEdge cHold
  rw [xu_ne h6, xu_ne h6, xu_ne h6, xu_ne h6, xu_ne h10, xu_ne h9, xu_ne h8, xu_ne h7]
def cCurve (I : Nat → Nat → Int32) (e : Nat) (x y : Int32) : Nat → Nat → Int32 := cEdge (cEdge (cEdge (cEdge I e (cvC 1 x (I 14)) (cvC 1 y (I 15))) (e + 1) (cvC 2 x (I 14)) (cvC 2 y (I 15))) (e + 2) (cvC 3 x (I 14)) (cvC 3 y (I 15))) (e + 3) (cvC 4 x (I 14)) (cvC 4 y (I 15))
theorem c_addCurve {e : Nat} {x y : Int32} (he : I 6 5 = nI e) (h : e + 3 < 120) : X (d + 2) none 52 (0, [some (.ref 3), some (.int x), some (.int y), none], [], (xSH, I, L, xR0)) = some (none, (xSH, cCurve I e x y, L, xR0)) := by
  have h5 : (4 : Int32) < nI 5 := by decide
  have a14 : ∀ (J : Nat → Nat → Int32) (e : Nat) (x y : Int32), cEdge J e x y 14 = J 14 := fun J e x y => cEdge_fr (by decide) (by decide) (by decide) (by decide) (by decide)
  have a15 : ∀ (J : Nat → Nat → Int32) (e : Nat) (x y : Int32), cEdge J e x y 15 = J 15 := fun J e x y => cEdge_fr (by decide) (by decide) (by decide) (by decide) (by decide)
  simp only [e_52_0, e_52_1]
  rw [show (1 : Int32) = nI 1 from rfl, c_addC_h (by decide) he (by omega), c_addC_h (by decide) cEdge_5 (by omega), c_addC_h (by decide) cEdge_5 (by omega), c_addC_h (by decide) cEdge_5 (by omega), e_52_2]
  simp only [e_52_3, e_52_4, e_52_38, h5, if_true, a14, a15]
  rfl
end CV
section ME
variable {d : Nat} {I : Nat → Nat → Int32} {L : Nat → Nat → Int64}
theorem m_edge0 {e : Nat} {x y : Int64} (he : I 38 16 = nI e) (h : e < 130) : X d none 97 (0, [some (.ref 38), some (.long x), none, some (.long y), none, some (.int 0)], [], (xSH, I, L, xR0)) = some (none, (xSH, mEdI I e false, mEdL L e x y, xR0)) := m_edge (c := false) he h
theorem m_edge1 {e : Nat} {x y : Int64} (he : I 38 16 = nI e) (h : e < 130) : X d none 97 (0, [some (.ref 38), some (.long x), none, some (.long y), none, some (.int 1)], [], (xSH, I, L, xR0)) = some (none, (xSH, mEdI I e true, mEdL L e x y, xR0)) := m_edge (c := true) he h
theorem m_close {e : Nat} (hp : ¬ I 38 18 = 0) (he : I 38 16 = nI e) (h : e < 130) : X (d + 1) none 96 (0, [some (.ref 38)], [], (xSH, I, L, xR0)) = some (none, (xSH, (if L 38 22 = L 38 20 ∧ L 38 23 = L 38 21 then I else mEdI I e false), (if L 38 22 = L 38 20 ∧ L 38 23 = L 38 21 then L else mEdL L e (L 38 20) (L 38 21)), xR0)) := by
  simp only [e_96_0, e_96_1, e_96_4, e_96_7, e_96_8, e_96_11, e_96_12, e_96_15, e_96_16, e_96_19, e_96_20, e_96_23, e_96_24, e_96_27, e_96_28, e_96_31, e_96_32, e_96_33, e_96_36, e_96_37, e_96_40, e_96_41, e_96_44, m_edge0 he h, Option.bind_some, Option.toList_some, Option.toList_none, List.cons_append, List.nil_append, hp, if_false, lg_eq]
  by_cases h1 : L 38 22 = L 38 20 <;> by_cases h2 : L 38 23 = L 38 21 <;> simp [h1, h2]
theorem m_line {e : Nat} {x y : Int32} (he : I 38 16 = nI e) (h : e < 130) : X (d + 1) none 98 (0, [some (.ref 38), some (.int x), some (.int y), none], [], (xSH, I, L, xR0)) = some (none, (xSH, mEdI I e true, mEdL (mFarL L x y) e (mFarX L x y) (mFarY L x y), xR0)) := by
  have e1 : mFarL L x y 38 32 = mFarX L x y := by simp (decide := true) only [mFarL, xu_ne, xu_eq, xs_ne, xs_at, ne_eq, reduceIte, if_true, if_false, not_false_eq_true]
  have e2 : mFarL L x y 38 33 = mFarY L x y := by simp (decide := true) only [mFarL, xu_ne, xu_eq, xs_ne, xs_at, ne_eq, reduceIte, if_true, if_false, not_false_eq_true]
  simp only [e_98_0, e_98_1, e_98_2, e_98_3, e_98_6, e_98_7, e_98_8, e_98_9, e_98_12, e_98_13, e_98_16, e_98_17, e_98_20, m_far', m_edge1 he h, Option.bind_some, Option.toList_some, Option.toList_none, List.cons_append, List.nil_append, e1, e2]
def mMvL (L : Nat → Nat → Int64) (x y : Int32) : Nat → Nat → Int64 := xu (xu (xu (xu (mFarL L x y) 38 20 (mFarX L x y)) 38 21 (mFarY L x y)) 38 22 (mFarX L x y)) 38 23 (mFarY L x y)
def mMv (L : Nat → Nat → Int64) (e : Nat) : Nat → Nat → Int64 := if L 38 22 = L 38 20 ∧ L 38 23 = L 38 21 then L else mEdL L e (L 38 20) (L 38 21)
theorem m_move0 {x y : Int32} (hp : I 38 18 = 0) : X (d + 2) none 95 (0, [some (.ref 38), some (.int x), some (.int y), none], [], (xSH, I, L, xR0)) = some (none, (xSH, xu (xu (xu I 38 16 0) 38 17 0) 38 18 1, mMvL L x y, xR0)) := by
  have e1 : mFarL L x y 38 32 = mFarX L x y := by simp (decide := true) only [mFarL, xu_ne, xu_eq, xs_ne, xs_at, ne_eq, reduceIte, if_true, if_false, not_false_eq_true]
  have e2 : mFarL L x y 38 33 = mFarY L x y := by simp (decide := true) only [mFarL, xu_ne, xu_eq, xs_ne, xs_at, ne_eq, reduceIte, if_true, if_false, not_false_eq_true]
  simp (decide := true) only [e_95_0, e_95_1, e_95_4, e_95_7, e_95_8, e_95_11, e_95_14, e_95_15, e_95_16, e_95_19, e_95_20, e_95_21, e_95_24, e_95_25, e_95_26, e_95_29, e_95_30, e_95_31, e_95_32, e_95_35, e_95_36, e_95_37, e_95_38, e_95_41, e_95_44, e_95_45, e_95_46, e_95_49, e_95_52, e_95_53, e_95_54, e_95_57, e_95_60, e_95_61, e_95_62, e_95_65, e_95_68, m_far', Option.bind_some, Option.toList_some, Option.toList_none, List.cons_append, List.nil_append, hp, if_true, xu_ne, xu_eq, xs_ne, xs_at, ne_eq, reduceIte, if_true, if_false, not_false_eq_true, e1, e2]
  rfl
theorem m_move1 {e : Nat} {x y : Int32} (hp : ¬ I 38 18 = 0) (he : I 38 16 = nI e) (h : e < 130) : X (d + 2) none 95 (0, [some (.ref 38), some (.int x), some (.int y), none], [], (xSH, I, L, xR0)) = some (none, (xSH, xu (if L 38 22 = L 38 20 ∧ L 38 23 = L 38 21 then I else mEdI I e false) 38 18 1, mMvL (mMv L e) x y, xR0)) := by
  have e1 : ∀ L : Nat → Nat → Int64, mFarL L x y 38 32 = mFarX L x y := fun L => by simp (decide := true) only [mFarL, xu_ne, xu_eq, xs_ne, xs_at, ne_eq, reduceIte, if_true, if_false, not_false_eq_true]
  have e2 : ∀ L : Nat → Nat → Int64, mFarL L x y 38 33 = mFarY L x y := fun L => by simp (decide := true) only [mFarL, xu_ne, xu_eq, xs_ne, xs_at, ne_eq, reduceIte, if_true, if_false, not_false_eq_true]
  simp (decide := true) only [e_95_0, e_95_1, e_95_4, e_95_7, e_95_8, e_95_11, e_95_14, e_95_15, e_95_16, e_95_19, e_95_20, e_95_21, e_95_24, e_95_25, e_95_26, e_95_29, e_95_30, e_95_31, e_95_32, e_95_35, e_95_36, e_95_37, e_95_38, e_95_41, e_95_44, e_95_45, e_95_46, e_95_49, e_95_52, e_95_53, e_95_54, e_95_57, e_95_60, e_95_61, e_95_62, e_95_65, e_95_68, m_close hp he h, m_far', Option.bind_some, Option.toList_some, Option.toList_none, List.cons_append, List.nil_append, hp, if_false, xu_ne, xu_eq, xs_ne, xs_at, ne_eq, reduceIte, if_true, if_false, not_false_eq_true, e1, e2]
  rfl
end ME
