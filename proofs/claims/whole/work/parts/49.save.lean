def xt (L : Nat → Nat → Int64) (a : Nat) (f : Nat → Int64) : Nat → Nat → Int64 := fun x => if x = a then f else L x
theorem xt_at {L : Nat → Nat → Int64} {a : Nat} {f : Nat → Int64} : xt L a f a = f := if_pos rfl
theorem xt_ne {L : Nat → Nat → Int64} {a b : Nat} {f : Nat → Int64} (h : b ≠ a) : xt L a f b = L b := if_neg h
theorem xt_xu {L : Nat → Nat → Int64} {a k : Nat} {v : Int64} {f : Nat → Int64} : xt (xu L a k v) a f = xt L a f := by
  funext x
  unfold xt
  split
  · rfl
  · next h => rw [xu_ne h]
theorem xt_self {L : Nat → Nat → Int64} {a : Nat} : xt L a (L a) = L := by
  funext x
  unfold xt
  split
  · next h => rw [h]
  · rfl
theorem nar01 {x : Int32} (h : x = 0 ∨ x = 1) : vp_nar .boolean x = x := by rcases h with rfl | rfl <;> rfl
section SV
variable {d : Nat} {I : Nat → Nat → Int32} {L : Nat → Nat → Int64}
theorem m_sav_m {s : Nat} (hs : s < 6) (hI : I 38 11 = nI s) : ∀ (m k : Nat) (L : Nat → Nat → Int64), k + m = 6 → X d none 93 (2, [some (.ref 38), some (.int (nI k))], [], (xSH, I, L, xR0)) = X d none 93 (34, [some (.ref 38), some (.int (nI 6))], [], (xSH, I, xt L 43 (fun q => if 6 * s + k ≤ q ∧ q < 6 * s + 6 then L 42 (q - 6 * s) else L 43 q), xR0)) := by
  intro m
  induction m with
  | zero =>
    intro k L hk
    obtain rfl : k = 6 := by omega
    rw [e_93_2]
    simp only [e_93_3, e_93_5]
    rw [if_pos (show (6 : Int32) ≤ nI 6 by decide)]
    have e : (fun q => if 6 * s + 6 ≤ q ∧ q < 6 * s + 6 then L 42 (q - 6 * s) else L 43 q) = L 43 := by
      funext q
      rw [if_neg (by omega)]
    rw [e, xt_self]
  | succ m ih =>
    intro k L hk
    have h1 : ¬ (6 : Int32) ≤ nI k := nI_ge (a := k) (b := 6) (by omega) (by decide)
    have e1 : 6 * nI s + nI k = nI (6 * s + k) := by rw [show (6 : Int32) = nI 6 from rfl, pk_mul, nI_add]
    have hc : (nI (6 * s + k)).toNatClampNeg = 6 * s + k := nI_clamp (by omega)
    have hc2 : (nI k).toNatClampNeg = k := nI_clamp (by omega)
    have h2 : ¬ (nI (6 * s + k) < 0 ∨ 36 ≤ 6 * s + k) := q_in (by omega) (by decide)
    have h3 : ¬ (nI k < 0 ∨ 6 ≤ k) := q_in (by omega) (by decide)
    rw [e_93_2]
    simp only [e_93_3, e_93_5, e_93_8, e_93_9, e_93_12, e_93_14, e_93_15, e_93_18, e_93_19, e_93_20, e_93_21, e_93_22, e_93_25, e_93_26, e_93_27, e_93_28, e_93_31, hI, h1, h2, h3, e1, hc, hc2, if_false, nI_1]
    rw [ih (k + 1) _ (by omega), xt_xu]
    refine congrArg (fun z => X d none 93 (34, [some (.ref 38), some (.int (nI 6))], [], (xSH, I, xt L 43 z, xR0))) (funext fun q => ?_)
    rw [xu_eq, xu_ne (show 42 ≠ 43 by decide)]
    by_cases g1 : q = 6 * s + k
    · subst g1
      rw [if_neg (by omega), if_pos rfl, if_pos (by omega), Nat.add_sub_cancel_left]
    · by_cases g2 : 6 * s + (k + 1) ≤ q ∧ q < 6 * s + 6
      · rw [if_pos g2, if_pos (by omega)]
      · rw [if_neg g2, if_neg g1, if_neg (by omega)]
theorem m_sav_c {s : Nat} (hs : s < 6) : ∀ (m k : Nat) (I : Nat → Nat → Int32), k + m = 400 → I 38 11 = nI s → (∀ q, q < 400 → I 41 q = 0 ∨ I 41 q = 1) → X d none 93 (36, [some (.ref 38), some (.int (nI k))], [], (xSH, I, L, xR0)) = X d none 93 (70, [some (.ref 38), some (.int (nI 400))], [], (xSH, xs I 45 (fun q => if 400 * s + k ≤ q ∧ q < 400 * s + 400 then I 41 (q - 400 * s) else I 45 q), L, xR0)) := by
  intro m
  induction m with
  | zero =>
    intro k I hk hI h01
    obtain rfl : k = 400 := by omega
    rw [e_93_36]
    simp only [e_93_37, e_93_40]
    rw [if_pos (show (400 : Int32) ≤ nI 400 by decide)]
    have e : (fun q => if 400 * s + 400 ≤ q ∧ q < 400 * s + 400 then I 41 (q - 400 * s) else I 45 q) = I 45 := by
      funext q
      rw [if_neg (by omega)]
    rw [e, xs_self]
  | succ m ih =>
    intro k I hk hI h01
    have h1 : ¬ (400 : Int32) ≤ nI k := nI_ge (a := k) (b := 400) (by omega) (by decide)
    have e1 : 400 * nI s + nI k = nI (400 * s + k) := by rw [show (400 : Int32) = nI 400 from rfl, pk_mul, nI_add]
    have hc : (nI (400 * s + k)).toNatClampNeg = 400 * s + k := nI_clamp (by omega)
    have hc2 : (nI k).toNatClampNeg = k := nI_clamp (by omega)
    have h2 : ¬ (nI (400 * s + k) < 0 ∨ 2400 ≤ 400 * s + k) := q_in (by omega) (by decide)
    have h3 : ¬ (nI k < 0 ∨ 400 ≤ k) := q_in (by omega) (by decide)
    have n45 : 41 ≠ 45 := by decide
    rw [e_93_36]
    simp only [e_93_37, e_93_40, e_93_43, e_93_44, e_93_47, e_93_50, e_93_51, e_93_54, e_93_55, e_93_56, e_93_57, e_93_58, e_93_61, e_93_62, e_93_63, e_93_64, e_93_67, hI, h1, h2, h3, e1, hc, hc2, if_false, nI_1, nar01 (h01 k (by omega))]
    rw [ih (k + 1) _ (by omega) (by rw [xu_ne (by decide)]; exact hI) (fun q hq => by rw [xu_ne n45]; exact h01 q hq), xs_xu]
    refine congrArg (fun z => X d none 93 (70, [some (.ref 38), some (.int (nI 400))], [], (xSH, xs I 45 z, L, xR0))) (funext fun q => ?_)
    rw [xu_eq, xu_ne n45]
    by_cases g1 : q = 400 * s + k
    · subst g1
      rw [if_neg (by omega), if_pos rfl, if_pos (by omega), Nat.add_sub_cancel_left]
    · by_cases g2 : 400 * s + (k + 1) ≤ q ∧ q < 400 * s + 400
      · rw [if_pos g2, if_pos (by omega)]
      · rw [if_neg g2, if_neg g1, if_neg (by omega)]
def mSavI (I : Nat → Nat → Int32) (s : Nat) : Nat → Nat → Int32 := xu (xu (xu (xs I 45 (fun q => if 400 * s ≤ q ∧ q < 400 * s + 400 then I 41 (q - 400 * s) else I 45 q)) 44 s (I 38 7)) 38 11 (nI (s + 1))) 38 30 (if nI (s + 1) ≤ I 38 30 then I 38 30 else nI (s + 1))
def mSavL (L : Nat → Nat → Int64) (s : Nat) : Nat → Nat → Int64 := xt L 43 (fun q => if 6 * s ≤ q ∧ q < 6 * s + 6 then L 42 (q - 6 * s) else L 43 q)
theorem xu_same {f : Nat → Nat → Int32} {a k : Nat} : xu f a k (f a k) = f := by
  funext x
  by_cases h : x = a
  · subst h
    rw [xu_at]
    funext q
    unfold va_up
    split
    · next h => rw [h]
    · rfl
  · rw [xu_ne h]
theorem m_save {s : Nat} (hs : s < 6) (hI : I 38 11 = nI s) (h01 : ∀ q, q < 400 → I 41 q = 0 ∨ I 41 q = 1) : X d none 93 (0, [some (.ref 38), none], [], (xSH, I, L, xR0)) = some (none, (xSH, mSavI I s, mSavL L s, xR0)) := by
  have hc : (nI s).toNatClampNeg = s := nI_clamp (by omega)
  have h2 : ¬ (nI s < 0 ∨ 6 ≤ s) := q_in hs (by decide)
  simp only [e_93_0, e_93_1]
  rw [show (0 : Int32) = nI 0 from rfl, m_sav_m hs hI 6 0 L (by omega)]
  simp only [e_93_34, e_93_35]
  rw [show (0 : Int32) = nI 0 from rfl, m_sav_c hs 400 0 I (by omega) hI h01]
  simp only [Nat.add_zero]
  simp (decide := true) only [e_93_0, e_93_1, e_93_3, e_93_5, e_93_8, e_93_9, e_93_12, e_93_14, e_93_15, e_93_18, e_93_19, e_93_20, e_93_21, e_93_22, e_93_25, e_93_26, e_93_27, e_93_28, e_93_31, e_93_34, e_93_35, e_93_37, e_93_40, e_93_43, e_93_44, e_93_47, e_93_50, e_93_51, e_93_54, e_93_55, e_93_56, e_93_57, e_93_58, e_93_61, e_93_62, e_93_63, e_93_64, e_93_67, e_93_70, e_93_71, e_93_74, e_93_75, e_93_78, e_93_79, e_93_82, e_93_83, e_93_84, e_93_85, e_93_88, e_93_89, e_93_90, e_93_93, e_93_94, e_93_97, e_93_98, e_93_101, e_93_104, e_93_105, e_93_106, e_93_109, e_93_112, xu_ne, xu_eq, xs_ne, xs_at, ne_eq, reduceIte, if_true, if_false, not_false_eq_true, hI, hc, h2, nI_1]
  unfold mSavI mSavL
  by_cases g : nI (s + 1) ≤ I 38 30
  · rw [if_pos g, if_pos g]
    have e : ∀ J : Nat → Nat → Int32, J 38 30 = I 38 30 → xu J 38 30 (I 38 30) = J := fun J hJ => by rw [← hJ]; exact xu_same
    rw [e]
    simp (decide := true) only [xu_ne, xu_eq, xs_ne, xs_at, ne_eq, reduceIte, if_true, if_false, not_false_eq_true]
  · rw [if_neg g, if_neg g]
theorem m_res_m {s : Nat} (hs : s < 6) (hI : I 38 11 = nI s) : ∀ (m k : Nat) (L : Nat → Nat → Int64), k + m = 6 → X d none 94 (12, [some (.ref 38), some (.int (nI k))], [], (xSH, I, L, xR0)) = X d none 94 (44, [some (.ref 38), some (.int (nI 6))], [], (xSH, I, xt L 42 (fun q => if k ≤ q ∧ q < 6 then L 43 (6 * s + q) else L 42 q), xR0)) := by
  intro m
  induction m with
  | zero =>
    intro k L hk
    obtain rfl : k = 6 := by omega
    rw [e_94_12]
    simp only [e_94_13, e_94_15]
    rw [if_pos (show (6 : Int32) ≤ nI 6 by decide)]
    have e : (fun q => if 6 ≤ q ∧ q < 6 then L 43 (6 * s + q) else L 42 q) = L 42 := by
      funext q
      rw [if_neg (by omega)]
    rw [e, xt_self]
  | succ m ih =>
    intro k L hk
    have h1 : ¬ (6 : Int32) ≤ nI k := nI_ge (a := k) (b := 6) (by omega) (by decide)
    have e1 : 6 * nI s + nI k = nI (6 * s + k) := by rw [show (6 : Int32) = nI 6 from rfl, pk_mul, nI_add]
    have hc : (nI (6 * s + k)).toNatClampNeg = 6 * s + k := nI_clamp (by omega)
    have hc2 : (nI k).toNatClampNeg = k := nI_clamp (by omega)
    have h2 : ¬ (nI (6 * s + k) < 0 ∨ 36 ≤ 6 * s + k) := q_in (by omega) (by decide)
    have h3 : ¬ (nI k < 0 ∨ 6 ≤ k) := q_in (by omega) (by decide)
    rw [e_94_12]
    simp only [e_94_13, e_94_15, e_94_18, e_94_19, e_94_22, e_94_23, e_94_24, e_94_27, e_94_29, e_94_30, e_94_33, e_94_34, e_94_35, e_94_36, e_94_37, e_94_38, e_94_41, hI, h1, h2, h3, e1, hc, hc2, if_false, nI_1]
    rw [ih (k + 1) _ (by omega), xt_xu]
    refine congrArg (fun z => X d none 94 (44, [some (.ref 38), some (.int (nI 6))], [], (xSH, I, xt L 42 z, xR0))) (funext fun q => ?_)
    rw [xu_eq, xu_ne (show 43 ≠ 42 by decide)]
    by_cases g1 : q = k
    · subst g1
      rw [if_neg (by omega), if_pos rfl, if_pos (by omega)]
    · by_cases g2 : k + 1 ≤ q ∧ q < 6
      · rw [if_pos g2, if_pos (by omega)]
      · rw [if_neg g2, if_neg g1, if_neg (by omega)]
theorem m_res_c {s : Nat} (hs : s < 6) : ∀ (m k : Nat) (I : Nat → Nat → Int32), k + m = 400 → I 38 11 = nI s → (∀ q, q < 400 → I 45 (400 * s + q) = 0 ∨ I 45 (400 * s + q) = 1) → X d none 94 (46, [some (.ref 38), some (.int (nI k))], [], (xSH, I, L, xR0)) = X d none 94 (80, [some (.ref 38), some (.int (nI 400))], [], (xSH, xs I 41 (fun q => if k ≤ q ∧ q < 400 then I 45 (400 * s + q) else I 41 q), L, xR0)) := by
  intro m
  induction m with
  | zero =>
    intro k I hk hI h01
    obtain rfl : k = 400 := by omega
    rw [e_94_46]
    simp only [e_94_47, e_94_50]
    rw [if_pos (show (400 : Int32) ≤ nI 400 by decide)]
    have e : (fun q => if 400 ≤ q ∧ q < 400 then I 45 (400 * s + q) else I 41 q) = I 41 := by
      funext q
      rw [if_neg (by omega)]
    rw [e, xs_self]
  | succ m ih =>
    intro k I hk hI h01
    have h1 : ¬ (400 : Int32) ≤ nI k := nI_ge (a := k) (b := 400) (by omega) (by decide)
    have e1 : 400 * nI s + nI k = nI (400 * s + k) := by rw [show (400 : Int32) = nI 400 from rfl, pk_mul, nI_add]
    have hc : (nI (400 * s + k)).toNatClampNeg = 400 * s + k := nI_clamp (by omega)
    have hc2 : (nI k).toNatClampNeg = k := nI_clamp (by omega)
    have h2 : ¬ (nI (400 * s + k) < 0 ∨ 2400 ≤ 400 * s + k) := q_in (by omega) (by decide)
    have h3 : ¬ (nI k < 0 ∨ 400 ≤ k) := q_in (by omega) (by decide)
    have n45 : 45 ≠ 41 := by decide
    rw [e_94_46]
    simp only [e_94_47, e_94_50, e_94_53, e_94_54, e_94_57, e_94_58, e_94_59, e_94_62, e_94_65, e_94_66, e_94_69, e_94_70, e_94_71, e_94_72, e_94_73, e_94_74, e_94_77, hI, h1, h2, h3, e1, hc, hc2, if_false, nI_1, nar01 (h01 k (by omega))]
    rw [ih (k + 1) _ (by omega) (by rw [xu_ne (by decide)]; exact hI) (fun q hq => by rw [xu_ne n45]; exact h01 q hq), xs_xu]
    refine congrArg (fun z => X d none 94 (80, [some (.ref 38), some (.int (nI 400))], [], (xSH, xs I 41 z, L, xR0))) (funext fun q => ?_)
    rw [xu_eq, xu_ne n45]
    by_cases g1 : q = k
    · subst g1
      rw [if_neg (by omega), if_pos rfl, if_pos (by omega)]
    · by_cases g2 : k + 1 ≤ q ∧ q < 400
      · rw [if_pos g2, if_pos (by omega)]
      · rw [if_neg g2, if_neg g1, if_neg (by omega)]
def mResI (I : Nat → Nat → Int32) (s : Nat) : Nat → Nat → Int32 := xu (xs (xu I 38 11 (nI s)) 41 (fun q => if q < 400 then I 45 (400 * s + q) else I 41 q)) 38 7 (I 44 s)
def mResL (L : Nat → Nat → Int64) (s : Nat) : Nat → Nat → Int64 := xt L 42 (fun q => if q < 6 then L 43 (6 * s + q) else L 42 q)
theorem m_restore {s : Nat} (hs : s < 6) (hI : I 38 11 = nI (s + 1)) (h01 : ∀ q, q < 400 → I 45 (400 * s + q) = 0 ∨ I 45 (400 * s + q) = 1) : X d none 94 (0, [some (.ref 38), none], [], (xSH, I, L, xR0)) = some (none, (xSH, mResI I s, mResL L s, xR0)) := by
  have hc : (nI s).toNatClampNeg = s := nI_clamp (by omega)
  have h2 : ¬ (nI s < 0 ∨ 6 ≤ s) := q_in hs (by decide)
  have e1 : nI (s + 1) - 1 = nI s := nI_pred s
  have a38 : xu I 38 11 (nI s) 38 11 = nI s := by rw [xu_eq, if_pos rfl]
  simp only [e_94_0, e_94_1, e_94_2, e_94_5, e_94_6, e_94_7, e_94_10, e_94_11, hI, e1]
  rw [show (0 : Int32) = nI 0 from rfl, m_res_m hs a38 6 0 L (by omega)]
  simp only [e_94_44, e_94_45]
  rw [show (0 : Int32) = nI 0 from rfl, m_res_c hs 400 0 _ (by omega) a38 (fun q hq => by rw [xu_ne (by decide)]; exact h01 q hq)]
  simp only [Nat.zero_le, true_and]
  simp (decide := true) only [e_94_0, e_94_1, e_94_2, e_94_5, e_94_6, e_94_7, e_94_10, e_94_11, e_94_13, e_94_15, e_94_18, e_94_19, e_94_22, e_94_23, e_94_24, e_94_27, e_94_29, e_94_30, e_94_33, e_94_34, e_94_35, e_94_36, e_94_37, e_94_38, e_94_41, e_94_44, e_94_45, e_94_47, e_94_50, e_94_53, e_94_54, e_94_57, e_94_58, e_94_59, e_94_62, e_94_65, e_94_66, e_94_69, e_94_70, e_94_71, e_94_72, e_94_73, e_94_74, e_94_77, e_94_80, e_94_81, e_94_82, e_94_85, e_94_86, e_94_89, e_94_90, e_94_93, xu_ne, xu_eq, xs_ne, xs_at, ne_eq, reduceIte, if_true, if_false, not_false_eq_true, hc, h2]
  rfl
end SV
