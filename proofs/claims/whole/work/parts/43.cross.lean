def aC (h ex : Int64) (xi : Int32) : Bool := decide ((2 * xi + 1).toInt64 * h < ex)
def aRise (I : Nat → Nat → Int32) (i : Nat) : Int64 := (I 10 i).toInt64 - (I 8 i).toInt64
def aShift (I : Nat → Nat → Int32) (i : Nat) : Int64 := (I 9 i).toInt64 - (I 7 i).toInt64
def aEX (I : Nat → Nat → Int32) (i : Nat) (y dir : Int32) : Int64 := dir.toInt64 * ((2 * I 7 i).toInt64 * aRise I i + aShift I i * (2 * (y - I 8 i) + 1).toInt64)
def aH (I : Nat → Nat → Int32) (i : Nat) (dir : Int32) : Int64 := dir.toInt64 * aRise I i
def aStop (I : Nat → Nat → Int32) (i w : Nat) (y dir : Int32) : Nat := scan (aC (aH I i dir) (aEX I i y dir)) nI w 0
section CR
variable {d : Nat} {I : Nat → Nat → Int32} {L : Nat → Nat → Int64}
theorem c_add_h {w : Nat} {i y dir : Int32} {r sh ex hh : Int64} (hw : w ≤ 20) : ∀ (m q : Nat) (I : Nat → Nat → Int32), q + m = w → X d none 58 (80, [some (.ref 6), some (.int i), some (.int y), some (.int (nI w)), some (.int dir), some (.long r), none, some (.long sh), none, some (.long ex), none, some (.long hh), none, some (.int (nI q))], [], (xSH, I, L, xR0)) = some (none, (xSH, xs I 11 (fun x => if q ≤ x ∧ x < scan (aC hh ex) nI m q then I 11 x + dir else I 11 x), L, xR0)) := by
  intro m
  induction m with
  | zero =>
    intro q I hq
    obtain rfl : q = w := by omega
    rw [e_58_80]
    simp only [e_58_0, e_58_1, e_58_4, e_58_5, e_58_6, e_58_7, e_58_8, e_58_11, e_58_12, e_58_13, e_58_14, e_58_15, e_58_17, e_58_18, e_58_21, e_58_22, e_58_23, e_58_24, e_58_25, e_58_28, e_58_29, e_58_30, e_58_31, e_58_32, e_58_34, e_58_36, e_58_37, e_58_38, e_58_39, e_58_42, e_58_43, e_58_44, e_58_45, e_58_46, e_58_48, e_58_49, e_58_51, e_58_52, e_58_53, e_58_54, e_58_57, e_58_58, e_58_59, e_58_60, e_58_61, e_58_62, e_58_63, e_58_64, e_58_65, e_58_66, e_58_67, e_58_69, e_58_71, e_58_72, e_58_74, e_58_75, e_58_77, e_58_78, e_58_82, e_58_83, e_58_86, e_58_87, e_58_89, e_58_90, e_58_91, e_58_92, e_58_93, e_58_95, e_58_96, e_58_98, e_58_99, e_58_102, e_58_103, e_58_106, e_58_108, e_58_109, e_58_110, e_58_112, e_58_113, e_58_114, e_58_117, e_58_120]
    rw [if_pos (q_le (Nat.le_refl _) (by omega))]
    have e : (fun x => if q ≤ x ∧ x < scan (aC hh ex) nI 0 q then I 11 x + dir else I 11 x) = I 11 := by
      funext x
      rw [if_neg (by rw [scan]; omega)]
    rw [e, xs_self]
  | succ m ih =>
    intro q I hq
    have hc : (nI q).toNatClampNeg = q := nI_clamp (by omega)
    have h2 : ¬ (nI q < 0 ∨ 20 ≤ q) := q_in (by omega) (by decide)
    have h1 : ¬ nI w ≤ nI q := q_nle (by omega) (by omega)
    rw [e_58_80, scan]
    simp only [e_58_0, e_58_1, e_58_4, e_58_5, e_58_6, e_58_7, e_58_8, e_58_11, e_58_12, e_58_13, e_58_14, e_58_15, e_58_17, e_58_18, e_58_21, e_58_22, e_58_23, e_58_24, e_58_25, e_58_28, e_58_29, e_58_30, e_58_31, e_58_32, e_58_34, e_58_36, e_58_37, e_58_38, e_58_39, e_58_42, e_58_43, e_58_44, e_58_45, e_58_46, e_58_48, e_58_49, e_58_51, e_58_52, e_58_53, e_58_54, e_58_57, e_58_58, e_58_59, e_58_60, e_58_61, e_58_62, e_58_63, e_58_64, e_58_65, e_58_66, e_58_67, e_58_69, e_58_71, e_58_72, e_58_74, e_58_75, e_58_77, e_58_78, e_58_82, e_58_83, e_58_86, e_58_87, e_58_89, e_58_90, e_58_91, e_58_92, e_58_93, e_58_95, e_58_96, e_58_98, e_58_99, e_58_102, e_58_103, e_58_106, e_58_108, e_58_109, e_58_110, e_58_112, e_58_113, e_58_114, e_58_117, e_58_120, hc, h1, h2, if_false, nI_1, lg_ge]
    by_cases g : ex ≤ (2 * nI q + 1).toInt64 * hh
    · have g' : aC hh ex (nI q) = false := by
        unfold aC
        exact decide_eq_false (Int64.not_lt.mpr g)
      rw [if_pos g, g']
      have e : (fun x => if q ≤ x ∧ x < (if false = true then scan (aC hh ex) nI m (q + 1) else q) then I 11 x + dir else I 11 x) = I 11 := by
        funext x
        rw [if_neg (by simp)]
      rw [e, xs_self]
    · have g' : aC hh ex (nI q) = true := by
        unfold aC
        exact decide_eq_true (Int64.not_le.mp g)
      rw [if_neg g, g', if_pos rfl, ih (q + 1) _ (by omega), xs_xu]
      have hs := (scan_le (p := aC hh ex) (t := nI) m (q + 1)).1
      refine congrArg (fun z => some ((none : Option Value), ((xSH, xs I 11 z, L, xR0) : xHp))) (funext fun x => ?_)
      rw [xu_eq]
      by_cases g1 : x = q
      · subst g1
        rw [if_neg (by omega), if_pos rfl, if_pos (by omega)]
      · by_cases g2 : q + 1 ≤ x ∧ x < scan (aC hh ex) nI m (q + 1)
        · rw [if_pos g2, if_neg g1, if_pos (by omega)]
        · rw [if_neg g2, if_neg g1, if_neg (by omega)]
theorem c_addCrossings {w i : Nat} {y dir : Int32} (hw : w ≤ 20) (hi : i < 120) : X d none 58 (0, [some (.ref 6), some (.int (nI i)), some (.int y), some (.int (nI w)), some (.int dir), none, none, none, none, none, none, none, none, none], [], (xSH, I, L, xR0)) = some (none, (xSH, xs I 11 (fun x => if x < aStop I i w y dir then I 11 x + dir else I 11 x), L, xR0)) := by
  have hc : (nI i).toNatClampNeg = i := nI_clamp (by omega)
  have h2 : ¬ (nI i < 0 ∨ 120 ≤ i) := q_in hi (by decide)
  simp only [e_58_0, e_58_1, e_58_4, e_58_5, e_58_6, e_58_7, e_58_8, e_58_11, e_58_12, e_58_13, e_58_14, e_58_15, e_58_17, e_58_18, e_58_21, e_58_22, e_58_23, e_58_24, e_58_25, e_58_28, e_58_29, e_58_30, e_58_31, e_58_32, e_58_34, e_58_36, e_58_37, e_58_38, e_58_39, e_58_42, e_58_43, e_58_44, e_58_45, e_58_46, e_58_48, e_58_49, e_58_51, e_58_52, e_58_53, e_58_54, e_58_57, e_58_58, e_58_59, e_58_60, e_58_61, e_58_62, e_58_63, e_58_64, e_58_65, e_58_66, e_58_67, e_58_69, e_58_71, e_58_72, e_58_74, e_58_75, e_58_77, e_58_78, e_58_82, e_58_83, e_58_86, e_58_87, e_58_89, e_58_90, e_58_91, e_58_92, e_58_93, e_58_95, e_58_96, e_58_98, e_58_99, e_58_102, e_58_103, e_58_106, e_58_108, e_58_109, e_58_110, e_58_112, e_58_113, e_58_114, e_58_117, e_58_120, hc, h2, if_false]
  rw [show (0 : Int32) = nI 0 from rfl, c_add_h hw w 0 I (by omega)]
  simp only [Nat.zero_le, true_and]
  rfl
def cUpS (I : Nat → Nat → Int32) (y : Int32) (i : Nat) : Bool := decide (I 8 i ≤ y) && decide (y < I 10 i)
def cDnS (I : Nat → Nat → Int32) (y : Int32) (i : Nat) : Bool := decide (I 10 i ≤ y) && decide (y < I 8 i)
def cCon (I : Nat → Nat → Int32) (w : Nat) (y : Int32) (i x : Nat) : Int32 := if cUpS I y i = true then (if x < aStop I i w y 1 then 1 else 0) else if cDnS I y i = true then (if x < aStop I i w y (-1) then -1 else 0) else 0
def cWnd (I : Nat → Nat → Int32) (w : Nat) (y : Int32) : Nat → Nat → Int32
  | 0, _ => 0
  | i + 1, x => cWnd I w y i x + cCon I w y i x
theorem aStop_xs {w i : Nat} {y dir : Int32} {f : Nat → Int32} : aStop (xs I 11 f) i w y dir = aStop I i w y dir := by
  unfold aStop aH aEX aRise aShift
  simp (decide := true) only [xu_ne, xu_eq, xs_ne, xs_at, ne_eq, reduceIte, if_true, if_false, not_false_eq_true]
theorem cUpS_xs {i : Nat} {y : Int32} {f : Nat → Int32} : cUpS (xs I 11 f) y i = cUpS I y i := by
  unfold cUpS
  simp (decide := true) only [xu_ne, xu_eq, xs_ne, xs_at, ne_eq, reduceIte, if_true, if_false, not_false_eq_true]
theorem cDnS_xs {i : Nat} {y : Int32} {f : Nat → Int32} : cDnS (xs I 11 f) y i = cDnS I y i := by
  unfold cDnS
  simp (decide := true) only [xu_ne, xu_eq, xs_ne, xs_at, ne_eq, reduceIte, if_true, if_false, not_false_eq_true]
theorem c_row_h {w e i : Nat} {y r : Int32} {f : Nat → Int32} {x5 x6 : Option Value} (hw : w ≤ 20) (he : I 6 5 = nI e) (h : e ≤ 120) (hi : i < e) : X (d + 1) none 57 (11, [some (.ref 6), some (.int y), some (.int (nI w)), some (.int r), some (.int (nI i)), none, none], [], (xSH, xs I 11 f, L, xR0)) = X (d + 1) none 57 (11, [some (.ref 6), some (.int y), some (.int (nI w)), some (.int r), some (.int (nI (i + 1))), none, none], [], (xSH, xs I 11 (fun x => f x + cCon I w y i x), L, xR0)) := by
  have hc : (nI i).toNatClampNeg = i := nI_clamp (by omega)
  have h2 : ¬ (nI i < 0 ∨ 120 ≤ i) := q_in (by omega) (by decide)
  have h1 : ¬ nI e ≤ nI i := q_nle hi (by omega)
  have a6 : xs I 11 f 6 = I 6 := xs_ne (by decide)
  have a8 : xs I 11 f 8 = I 8 := xs_ne (by decide)
  have a10 : xs I 11 f 10 = I 10 := xs_ne (by decide)
  rw [e_57_11]
  simp only [e_57_0, e_57_1, e_57_4, e_57_5, e_57_8, e_57_9, e_57_13, e_57_14, e_57_17, e_57_20, e_57_21, e_57_24, e_57_26, e_57_27, e_57_28, e_57_31, e_57_32, e_57_33, e_57_36, e_57_38, e_57_39, e_57_42, e_57_43, e_57_45, e_57_46, e_57_47, e_57_48, e_57_51, e_57_54, e_57_55, e_57_58, e_57_60, e_57_61, e_57_62, e_57_65, e_57_66, e_57_67, e_57_70, e_57_72, e_57_73, e_57_76, e_57_77, e_57_79, e_57_80, e_57_81, e_57_82, e_57_85, e_57_88, e_57_91, e_57_92, e_57_93, e_57_96, e_57_97, e_57_100, e_57_101, e_57_103, e_57_104, e_57_106, e_57_107, e_57_111, e_57_112, e_57_115, e_57_116, e_57_119, e_57_121, e_57_122, e_57_124, e_57_125, e_57_128, e_57_130, e_57_131, e_57_133, e_57_134, e_57_135, e_57_137, e_57_140, e_57_143, e_57_145, a6, a8, a10, he, hc, h1, h2, if_false, nI_1, c_addCrossings hw (show i < 120 by omega), Option.bind_some, Option.toList_some, Option.toList_none, List.cons_append, List.nil_append, xs_at, xs_xs, aStop_xs]
  have r1 : ∀ g : Nat → Int32, (∀ x, g x = f x + cCon I w y i x) → xs I 11 g = xs I 11 (fun x => f x + cCon I w y i x) := fun g hg => by rw [funext hg]
  have z0 : ∀ x : Int32, x + 0 = x := fun x => Int32.add_zero x
  by_cases g1 : y < I 8 i
  · have g1' : ¬ I 8 i ≤ y := Int32.not_le.mpr g1
    by_cases g3 : y < I 10 i
    · have g3' : ¬ I 10 i ≤ y := Int32.not_le.mpr g3
      have k1 : cUpS I y i = false := by simp [cUpS, g1']
      have k2 : cDnS I y i = false := by simp [cDnS, g3']
      simp only [g1, g3, if_true]
      rw [← r1 f (fun x => by simp [cCon, k1, k2])]
    · have g3' : I 10 i ≤ y := Int32.not_lt.mp g3
      have k1 : cUpS I y i = false := by simp [cUpS, g1']
      have k2 : cDnS I y i = true := by simp [cDnS, g3', g1]
      simp only [g1, g3, g1', if_true, if_false]
      rw [r1 _ (fun x => by simp only [cCon, k1, k2, Bool.false_eq_true, if_true, if_false]; split <;> simp)]
  · have g1' : I 8 i ≤ y := Int32.not_lt.mp g1
    by_cases g3 : I 10 i ≤ y
    · have g3' : ¬ y < I 10 i := Int32.not_lt.mpr g3
      have k1 : cUpS I y i = false := by simp [cUpS, g3']
      have k2 : cDnS I y i = false := by simp [cDnS, g1]
      simp only [g1, g3, g3', g1', if_true, if_false]
      rw [← r1 f (fun x => by simp [cCon, k1, k2])]
    · have g3' : y < I 10 i := Int32.not_le.mp g3
      have k1 : cUpS I y i = true := by simp [cUpS, g1', g3']
      simp only [g1, g3, if_false]
      rw [r1 _ (fun x => by simp only [cCon, k1, if_true]; split <;> simp)]
end CR
