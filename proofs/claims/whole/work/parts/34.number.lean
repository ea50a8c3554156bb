def allD (t : Nat → Int32) : Nat → Nat → Bool
  | 0, _ => true
  | m + 1, q => cDig (t q) && allD t m (q + 1)
def numV (t : Nat → Int32) : Nat → Nat → Int32 → Int32
  | 0, _, v => v
  | m + 1, q, v => numV t m (q + 1) (10 * v + t q - 48)
def nFrom (t : Nat → Int32) (s : Nat) : Nat := if cSgn (t s) = true then s + 1 else s
def numOk (t : Nat → Int32) (s e : Nat) : Bool := decide (1 ≤ e - nFrom t s) && decide (e - nFrom t s ≤ 4) && allD t (e - nFrom t s) (nFrom t s)
def numA (t : Nat → Int32) (s e : Nat) : Int32 := numV t (e - nFrom t s) (nFrom t s) 0
def numR (t : Nat → Int32) (s e : Nat) : Int32 := if t s = 45 then -numA t s e else numA t s e
section NU
variable {d : Nat} {I : Nat → Nat → Int32} {L : Nat → Nat → Int64}
theorem c_isn_h {s f e : Nat} (he : e ≤ 400) : ∀ m q, q + m = e → X (d + 1) none 29 (39, [some (.ref 1), some (.int (nI s)), some (.int (nI e)), some (.int (nI f)), some (.int (nI q))], [], (xSH, I, L, xR0)) = some (some (.int (bI (allD (I 2) m q))), (xSH, I, L, xR0))
  | 0, q, h => by
    obtain rfl : q = e := by omega
    rw [e_29_39]
    simp only [e_29_0, e_29_1, e_29_4, e_29_5, e_29_6, e_29_9, e_29_12, e_29_13, e_29_14, e_29_15, e_29_18, e_29_19, e_29_20, e_29_21, e_29_22, e_29_23, e_29_24, e_29_27, e_29_28, e_29_29, e_29_30, e_29_31, e_29_34, e_29_35, e_29_36, e_29_37, e_29_41, e_29_42, e_29_45, e_29_46, e_29_49, e_29_51, e_29_52, e_29_55, e_29_58, e_29_59, e_29_60, e_29_63, e_29_66, e_29_67]
    rw [if_pos (q_le (Nat.le_refl _) (by omega))]
    rfl
  | m + 1, q, h => by
    have hc : (nI q).toNatClampNeg = q := nI_clamp (by omega)
    have h2 : ¬ (nI q < 0 ∨ 400 ≤ q) := q_in (by omega) (by decide)
    have h1 : ¬ nI e ≤ nI q := q_nle (by omega) (by omega)
    rw [e_29_39]
    simp only [e_29_0, e_29_1, e_29_4, e_29_5, e_29_6, e_29_9, e_29_12, e_29_13, e_29_14, e_29_15, e_29_18, e_29_19, e_29_20, e_29_21, e_29_22, e_29_23, e_29_24, e_29_27, e_29_28, e_29_29, e_29_30, e_29_31, e_29_34, e_29_35, e_29_36, e_29_37, e_29_41, e_29_42, e_29_45, e_29_46, e_29_49, e_29_51, e_29_52, e_29_55, e_29_58, e_29_59, e_29_60, e_29_63, e_29_66, e_29_67, hc, h1, h2, if_false, nI_1, c_digit, Option.bind_some, Option.toList_some, Option.toList_none, List.cons_append, List.nil_append, bI_0]
    rw [c_isn_h he m (q + 1) (by omega), allD]
    cases cDig (I 2 q) <;> simp [bI]
theorem c_isNumber {s e : Nat} (hs : s < e) (he : e ≤ 400) : X (d + 1) none 29 (0, [some (.ref 1), some (.int (nI s)), some (.int (nI e)), none, none], [], (xSH, I, L, xR0)) = some (some (.int (bI (numOk (I 2) s e))), (xSH, I, L, xR0)) := by
  have hc : (nI s).toNatClampNeg = s := nI_clamp (by omega)
  have h2 : ¬ (nI s < 0 ∨ 400 ≤ s) := q_in (by omega) (by decide)
  have key : ∀ f, f ≤ e → f ≤ s + 1 → X (d + 1) none 29 (20, [some (.ref 1), some (.int (nI s)), some (.int (nI e)), some (.int (nI f)), none], [], (xSH, I, L, xR0)) = some (some (.int (bI (decide (1 ≤ e - f) && decide (e - f ≤ 4) && allD (I 2) (e - f) f))), (xSH, I, L, xR0)) := by
    intro f hf hf2
    simp only [e_29_0, e_29_1, e_29_4, e_29_5, e_29_6, e_29_9, e_29_12, e_29_13, e_29_14, e_29_15, e_29_18, e_29_19, e_29_20, e_29_21, e_29_22, e_29_23, e_29_24, e_29_27, e_29_28, e_29_29, e_29_30, e_29_31, e_29_34, e_29_35, e_29_36, e_29_37, e_29_41, e_29_42, e_29_45, e_29_46, e_29_49, e_29_51, e_29_52, e_29_55, e_29_58, e_29_59, e_29_60, e_29_63, e_29_66, e_29_67, pk_sub hf]
    rw [c_isn_h he (e - f) f (by omega)]
    by_cases g1 : 1 ≤ e - f
    · rw [if_neg (show ¬ nI (e - f) < 1 from nI_nlt (a := e - f) (b := 1) g1 (by omega))]
      by_cases g2 : e - f ≤ 4
      · rw [if_pos (show nI (e - f) ≤ 4 from nI_le (a := e - f) (b := 4) g2 (by decide))]
        simp [g1, g2]
      · rw [if_neg (show ¬ nI (e - f) ≤ 4 from nI_ge (a := 4) (b := e - f) (by omega) (by omega))]
        simp [g2, bI]
    · rw [if_pos (show nI (e - f) < 1 from nI_lt (a := e - f) (b := 1) (by omega) (by decide))]
      simp [g1, bI]
  simp only [e_29_0, e_29_1, e_29_4, e_29_5, e_29_6, e_29_9, e_29_12, e_29_13, e_29_14, e_29_15, e_29_18, e_29_19, hc, h2, if_false, c_sign, Option.bind_some, Option.toList_some, Option.toList_none, List.cons_append, List.nil_append, bI_0, nI_1]
  unfold numOk nFrom
  cases cSgn (I 2 s)
  · simp only [if_true]
    rw [key s (by omega) (by omega)]
    simp
  · simp only [Bool.true_eq_false, if_false]
    rw [key (s + 1) (by omega) (by omega)]
    simp
theorem c_num_h {s e : Nat} (hs : s < 400) (he : e ≤ 400) : ∀ m q v, q + m = e → X (d + 1) none 30 (23, [some (.ref 1), some (.int (nI s)), some (.int (nI e)), some (.int v), some (.int (nI q))], [], (xSH, I, L, xR0)) = some (some (.int (if I 2 s = 45 then -numV (I 2) m q v else numV (I 2) m q v)), (xSH, I, L, xR0))
  | 0, q, v, h => by
    obtain rfl : q = e := by omega
    have hc : (nI s).toNatClampNeg = s := nI_clamp (by omega)
    have h2 : ¬ (nI s < 0 ∨ 400 ≤ s) := q_in (by omega) (by decide)
    rw [e_30_23]
    simp only [e_30_0, e_30_1, e_30_2, e_30_3, e_30_6, e_30_7, e_30_8, e_30_11, e_30_14, e_30_15, e_30_16, e_30_17, e_30_20, e_30_21, e_30_25, e_30_26, e_30_29, e_30_31, e_30_32, e_30_33, e_30_34, e_30_37, e_30_39, e_30_40, e_30_41, e_30_43, e_30_44, e_30_45, e_30_48, e_30_51, e_30_52, e_30_55, e_30_56, e_30_57, e_30_59, e_30_62, e_30_63, e_30_64, e_30_67, e_30_68, hc, h2, if_false, ite_sv]
    rw [if_pos (q_le (Nat.le_refl _) (by omega))]
    rfl
  | m + 1, q, v, h => by
    have hc : (nI q).toNatClampNeg = q := nI_clamp (by omega)
    have h2 : ¬ (nI q < 0 ∨ 400 ≤ q) := q_in (by omega) (by decide)
    have h1 : ¬ nI e ≤ nI q := q_nle (by omega) (by omega)
    rw [e_30_23]
    simp only [e_30_25, e_30_26, e_30_29, e_30_31, e_30_32, e_30_33, e_30_34, e_30_37, e_30_39, e_30_40, e_30_41, e_30_43, e_30_44, e_30_45, e_30_48, hc, h1, h2, if_false, nI_1]
    rw [c_num_h hs he m (q + 1) _ (by omega), numV]
theorem c_numberIn {s e : Nat} (hs : s < e) (he : e ≤ 400) : X (d + 1) none 30 (0, [some (.ref 1), some (.int (nI s)), some (.int (nI e)), none, none], [], (xSH, I, L, xR0)) = some (some (.int (numR (I 2) s e)), (xSH, I, L, xR0)) := by
  have hc : (nI s).toNatClampNeg = s := nI_clamp (by omega)
  have h2 : ¬ (nI s < 0 ∨ 400 ≤ s) := q_in (by omega) (by decide)
  simp only [e_30_0, e_30_1, e_30_2, e_30_3, e_30_6, e_30_7, e_30_8, e_30_11, e_30_14, e_30_15, e_30_16, e_30_17, e_30_20, e_30_21, hc, h2, if_false, c_sign, Option.bind_some, Option.toList_some, Option.toList_none, List.cons_append, List.nil_append, bI_0, nI_1]
  unfold numR numA nFrom
  cases cSgn (I 2 s)
  · simp only [if_true]
    rw [c_num_h (by omega) he (e - s) s _ (by omega)]
    simp
  · simp only [Bool.true_eq_false, if_false]
    rw [c_num_h (by omega) he (e - (s + 1)) (s + 1) _ (by omega)]
    simp
theorem m_num_h {s f e : Nat} (hs : s < 400) (he : e ≤ 400) : ∀ m q v, q + m = e → X (d + 1) none 85 (44, [some (.ref 38), some (.int (nI s)), some (.int (nI e)), some (.int (nI f)), some (.int v), some (.int (nI q))], [], (xSH, I, L, xR0)) = some (some (.int (if allD (I 39) m q = true then (if I 39 s = 45 then -numV (I 39) m q v else numV (I 39) m q v) else 20000)), (xSH, I, L, xR0))
  | 0, q, v, h => by
    obtain rfl : q = e := by omega
    have hc : (nI s).toNatClampNeg = s := nI_clamp (by omega)
    have h2 : ¬ (nI s < 0 ∨ 400 ≤ s) := q_in (by omega) (by decide)
    rw [e_85_44]
    simp only [e_85_0, e_85_1, e_85_4, e_85_5, e_85_6, e_85_9, e_85_12, e_85_13, e_85_16, e_85_17, e_85_18, e_85_19, e_85_20, e_85_21, e_85_22, e_85_23, e_85_24, e_85_27, e_85_28, e_85_29, e_85_30, e_85_31, e_85_34, e_85_37, e_85_38, e_85_39, e_85_41, e_85_42, e_85_46, e_85_47, e_85_50, e_85_51, e_85_54, e_85_56, e_85_57, e_85_60, e_85_63, e_85_66, e_85_67, e_85_69, e_85_71, e_85_72, e_85_73, e_85_76, e_85_78, e_85_79, e_85_80, e_85_82, e_85_83, e_85_85, e_85_88, e_85_91, e_85_92, e_85_95, e_85_96, e_85_97, e_85_99, e_85_102, e_85_104, e_85_105, e_85_108, e_85_110, hc, h2, if_false, ite_sv]
    rw [if_pos (q_le (Nat.le_refl _) (by omega))]
    rfl
  | m + 1, q, v, h => by
    have hc : (nI q).toNatClampNeg = q := nI_clamp (by omega)
    have h2 : ¬ (nI q < 0 ∨ 400 ≤ q) := q_in (by omega) (by decide)
    have h1 : ¬ nI e ≤ nI q := q_nle (by omega) (by omega)
    rw [e_85_44]
    simp only [e_85_46, e_85_47, e_85_50, e_85_51, e_85_54, e_85_56, e_85_57, e_85_60, e_85_63, e_85_66, e_85_67, e_85_69, e_85_71, e_85_72, e_85_73, e_85_76, e_85_78, e_85_79, e_85_80, e_85_82, e_85_83, e_85_85, e_85_88, hc, h1, h2, if_false, nI_1, m_digit, Option.bind_some, Option.toList_some, Option.toList_none, List.cons_append, List.nil_append, bI_0]
    rw [m_num_h hs he m (q + 1) _ (by omega), numV, allD]
    cases cDig (I 39 q) <;> simp
theorem dig_sgn {c : Int32} (h : (cDig c || cSgn c) = true) : cDig c = !cSgn c := by
  by_cases h1 : c = 43
  · subst h1; decide
  · by_cases h2 : c = 45
    · subst h2; decide
    · have h3 : cSgn c = false := by simp [cSgn, h1, h2]
      rw [h3] at h ⊢
      simpa using h
theorem m_number {s e : Nat} (hs : s < e) (he : e ≤ 400) (hb : (cDig (I 39 s) || cSgn (I 39 s)) = true) : X (d + 1) none 85 (0, [some (.ref 38), some (.int (nI s)), some (.int (nI e)), none, none, none], [], (xSH, I, L, xR0)) = some (some (.int (if numOk (I 39) s e = true then numR (I 39) s e else 20000)), (xSH, I, L, xR0)) := by
  have hc : (nI s).toNatClampNeg = s := nI_clamp (by omega)
  have h2 : ¬ (nI s < 0 ∨ 400 ≤ s) := q_in (by omega) (by decide)
  have key : ∀ f, f ≤ e → f ≤ s + 1 → X (d + 1) none 85 (20, [some (.ref 38), some (.int (nI s)), some (.int (nI e)), some (.int (nI f)), none, none], [], (xSH, I, L, xR0)) = some (some (.int (if (decide (1 ≤ e - f) && decide (e - f ≤ 4) && allD (I 39) (e - f) f) = true then (if I 39 s = 45 then -numV (I 39) (e - f) f 0 else numV (I 39) (e - f) f 0) else 20000)), (xSH, I, L, xR0)) := by
    intro f hf hf2
    simp only [e_85_0, e_85_1, e_85_4, e_85_5, e_85_6, e_85_9, e_85_12, e_85_13, e_85_16, e_85_17, e_85_18, e_85_19, e_85_20, e_85_21, e_85_22, e_85_23, e_85_24, e_85_27, e_85_28, e_85_29, e_85_30, e_85_31, e_85_34, e_85_37, e_85_38, e_85_39, e_85_41, e_85_42, e_85_46, e_85_47, e_85_50, e_85_51, e_85_54, e_85_56, e_85_57, e_85_60, e_85_63, e_85_66, e_85_67, e_85_69, e_85_71, e_85_72, e_85_73, e_85_76, e_85_78, e_85_79, e_85_80, e_85_82, e_85_83, e_85_85, e_85_88, e_85_91, e_85_92, e_85_95, e_85_96, e_85_97, e_85_99, e_85_102, e_85_104, e_85_105, e_85_108, e_85_110, pk_sub hf]
    rw [m_num_h (by omega) he (e - f) f _ (by omega)]
    by_cases g1 : 1 ≤ e - f
    · rw [if_neg (show ¬ nI (e - f) < 1 from nI_nlt (a := e - f) (b := 1) g1 (by omega))]
      by_cases g2 : e - f ≤ 4
      · rw [if_pos (show nI (e - f) ≤ 4 from nI_le (a := e - f) (b := 4) g2 (by decide))]
        simp [g1, g2]
      · rw [if_neg (show ¬ nI (e - f) ≤ 4 from nI_ge (a := 4) (b := e - f) (by omega) (by omega))]
        simp [g2]
    · rw [if_pos (show nI (e - f) < 1 from nI_lt (a := e - f) (b := 1) (by omega) (by decide))]
      simp [g1]
  simp only [e_85_0, e_85_1, e_85_4, e_85_5, e_85_6, e_85_9, e_85_12, e_85_13, e_85_16, e_85_17, e_85_18, e_85_19, hc, h2, if_false, m_digit, Option.bind_some, Option.toList_some, Option.toList_none, List.cons_append, List.nil_append, bI_0, nI_1]
  unfold numOk numR numA nFrom
  rw [dig_sgn hb]
  cases cSgn (I 39 s)
  · simp only [Bool.not_false, Bool.true_eq_false, if_false]
    rw [key s (by omega) (by omega)]
    simp
  · simp only [Bool.not_true, if_true]
    rw [key (s + 1) (by omega) (by omega)]
end NU
