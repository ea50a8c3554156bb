theorem shl2 : ∀ w, w < 21 → (1 : Int32) <<< (nI w &&& 31) - 1 = nI (2 ^ w - 1) := by decide +kernel
section SS
variable {d : Nat} {I : Nat → Nat → Int32} {L : Nat → Nat → Int64}
theorem c_ss_h {s w h : Nat} (hs : s < 7) (hw : w ≤ 20) (hh : h ≤ 20) : ∀ (m y : Nat) (I : Nat → Nat → Int32), y + m = 20 → X d none 18 (29, [some (.ref (17 + 3 * s)), some (.int (nI w)), some (.int (nI h)), some (.int (nI y))], [], (xSH, I, L, xR0)) = some (none, (xSH, xs I (17 + 3 * s + 2) (fun q => if y ≤ q ∧ q < 20 then (if q < h then nI (2 ^ w - 1) else 0) else I (17 + 3 * s + 2) q), L, xR0)) := by
  intro m
  have ha := (xSt_of s hs).1
  induction m with
  | zero =>
    intro y I hy
    obtain rfl : y = 20 := by omega
    rw [e_18_29]
    simp only [e_18_0, e_18_1 ha, e_18_4, e_18_5, e_18_8, e_18_9 ha, e_18_12, e_18_13, e_18_14 ha, e_18_15, e_18_16 ha, e_18_19, e_18_20, e_18_21 ha, e_18_22, e_18_23, e_18_24 ha, e_18_27, e_18_28, e_18_30, e_18_32, e_18_35, e_18_36 ha, e_18_39, e_18_40, e_18_41, e_18_42, e_18_45, e_18_46, e_18_47, e_18_48, e_18_49, e_18_50, e_18_53, e_18_54 ha, e_18_55, e_18_58, e_18_61]
    rw [if_pos (show (20 : Int32) ≤ nI 20 by decide)]
    have e : (fun q => if 20 ≤ q ∧ q < 20 then (if q < h then nI (2 ^ w - 1) else 0) else I (17 + 3 * s + 2) q) = I (17 + 3 * s + 2) := by
      funext q
      rw [if_neg (by omega)]
    rw [e, xs_self]
  | succ m ih =>
    intro y I hy
    have hc : (nI y).toNatClampNeg = y := nI_clamp (by omega)
    have g2 : ¬ (nI y < 0 ∨ 20 ≤ y) := q_in (by omega) (by decide)
    have g1 : ¬ (20 : Int32) ≤ nI y := nI_ge (a := y) (b := 20) (by omega) (by decide)
    have e3 : (nI h ≤ nI y) = (h ≤ y) := propext (nI_leI (by omega) (by omega))
    have step : X d none 18 (29, [some (.ref (17 + 3 * s)), some (.int (nI w)), some (.int (nI h)), some (.int (nI y))], [], (xSH, I, L, xR0)) = X d none 18 (29, [some (.ref (17 + 3 * s)), some (.int (nI w)), some (.int (nI h)), some (.int (nI (y + 1)))], [], (xSH, xu I (17 + 3 * s + 2) y (if y < h then nI (2 ^ w - 1) else 0), L, xR0)) := by
      rw [e_18_29]
      by_cases g : h ≤ y
      · have g' : ¬ y < h := by omega
        simp only [e_18_0, e_18_1 ha, e_18_4, e_18_5, e_18_8, e_18_9 ha, e_18_12, e_18_13, e_18_14 ha, e_18_15, e_18_16 ha, e_18_19, e_18_20, e_18_21 ha, e_18_22, e_18_23, e_18_24 ha, e_18_27, e_18_28, e_18_30, e_18_32, e_18_35, e_18_36 ha, e_18_39, e_18_40, e_18_41, e_18_42, e_18_45, e_18_46, e_18_47, e_18_48, e_18_49, e_18_50, e_18_53, e_18_54 ha, e_18_55, e_18_58, e_18_61, hc, g1, g2, e3, g, g', if_true, if_false, nI_1]
      · have g' : y < h := by omega
        simp only [e_18_0, e_18_1 ha, e_18_4, e_18_5, e_18_8, e_18_9 ha, e_18_12, e_18_13, e_18_14 ha, e_18_15, e_18_16 ha, e_18_19, e_18_20, e_18_21 ha, e_18_22, e_18_23, e_18_24 ha, e_18_27, e_18_28, e_18_30, e_18_32, e_18_35, e_18_36 ha, e_18_39, e_18_40, e_18_41, e_18_42, e_18_45, e_18_46, e_18_47, e_18_48, e_18_49, e_18_50, e_18_53, e_18_54 ha, e_18_55, e_18_58, e_18_61, hc, g1, g2, e3, g, g', if_true, if_false, nI_1, shl2 w (by omega)]
    rw [step, ih (y + 1) _ (by omega), xs_xu]
    refine congrArg (fun z => some ((none : Option Value), ((xSH, xs I (17 + 3 * s + 2) z, L, xR0) : xHp))) (funext fun q => ?_)
    rw [xu_eq]
    by_cases z1 : q = y
    · subst z1
      rw [if_neg (by omega), if_pos rfl, if_pos (c := q ≤ q ∧ q < 20) (by omega)]
    · by_cases z2 : y + 1 ≤ q ∧ q < 20
      · rw [if_pos z2, if_pos (c := y ≤ q ∧ q < 20) (by omega)]
      · rw [if_neg z2, if_neg z1, if_neg (by omega)]
def cSSt (I : Nat → Nat → Int32) (s w h : Nat) : Nat → Nat → Int32 := xs (xu (xu (xu (xs I (17 + 3 * s + 1) (fun q => if q < 6 then 0 else I (17 + 3 * s + 1) q)) (17 + 3 * s + 1) 0 1) (17 + 3 * s + 1) 3 1) (17 + 3 * s) 2 0) (17 + 3 * s + 2) (fun q => if q < 20 then (if q < h then nI (2 ^ w - 1) else 0) else I (17 + 3 * s + 2) q)
theorem c_sStart {s w h : Nat} (hs : s < 7) (hw : w ≤ 20) (hh : h ≤ 20) : X (d + 1) none 18 (0, [some (.ref (17 + 3 * s)), some (.int (nI w)), some (.int (nI h)), none], [], (xSH, I, L, xR0)) = some (none, (xSH, cSSt I s w h, L, xR0)) := by
  have ha := (xSt_of s hs).1
  simp only [e_18_0, e_18_1 ha, e_18_4, e_18_5, e_18_8, e_18_9 ha, e_18_12, e_18_13, e_18_14 ha, e_18_15, e_18_16 ha, e_18_19, e_18_20, e_18_21 ha, e_18_22, e_18_23, e_18_24 ha, e_18_27, e_18_28, c_fill ha.2.2.2.1 (show 6 < 2 ^ 31 by decide), Option.bind_some, Option.toList_some, Option.toList_none, List.cons_append, List.nil_append]
  rw [show (0 : Int32) = nI 0 from rfl, c_ss_h hs hw hh 20 0 _ (by omega)]
  unfold cSSt
  have e1 : ∀ J : Nat → Nat → Int32, xu (xu (xu (xs J (17 + 3 * s + 1) (fun q => if q < 6 then 0 else J (17 + 3 * s + 1) q)) (17 + 3 * s + 1) 0 1) (17 + 3 * s + 1) 3 1) (17 + 3 * s) 2 0 (17 + 3 * s + 2) = J (17 + 3 * s + 2) := fun J => by
    rw [xu_ne (by omega), xu_ne (by omega), xu_ne (by omega), xs_ne (by omega)]
  simp only [Nat.zero_le, true_and, show nI 0 = (0 : Int32) from rfl, e1]
theorem c_pStart {w h : Nat} : X (d + 1) none 14 (0, [some (.ref 4), some (.int (nI w)), some (.int (nI h))], [], (xSH, I, L, xR0)) = some (none, (xSH, xs (xu (xu I 4 1 (nI w)) 4 2 (nI h)) 5 (fun q => if q < 400 then 255 else I 5 q), L, xR0)) := by
  have e1 : xu (xu I 4 1 (nI w)) 4 2 (nI h) 5 = I 5 := by rw [xu_ne (by decide), xu_ne (by decide)]
  simp only [e_14_0, e_14_1, e_14_2, e_14_5, e_14_6, e_14_7, e_14_10, e_14_11, e_14_14, e_14_17, e_14_20, c_fill sh_5 (show 400 < 2 ^ 31 by decide), Option.bind_some, Option.toList_some, Option.toList_none, List.cons_append, List.nil_append, e1]
theorem c_start {w h : Nat} (hw : w ≤ 20) (hh : h ≤ 20) : ∃ J, X (d + 2) none 13 (0, [some (.ref 3), some (.int (nI w)), some (.int (nI h))], [], (xSH, I, L, xR0)) = some (none, (xSH, J, L, xR0)) ∧ (∀ a, 38 ≤ a → J a = I a) ∧ J 1 = I 1 ∧ J 2 = I 2 ∧ J 3 7 = 0 ∧ J 3 8 = 0 ∧ J 3 9 = 0 ∧ J 3 10 = 0 ∧ J 3 11 = -1 ∧ J 3 12 = 0 ∧ J 3 13 = 0 ∧ J 3 14 = 0 ∧ J 4 1 = nI w ∧ J 4 2 = nI h ∧ (∀ q, q < 400 → J 5 q = 255) ∧ J 6 5 = 0 ∧ J 6 6 = 0 ∧ J 6 7 = 0 ∧ J 6 10 = J 6 8 ∧ J 6 11 = J 6 9 ∧ (∀ q, q < 6 → J 18 q = if q = 0 ∨ q = 3 then 1 else 0) ∧ J 17 2 = 0 ∧ (∀ q, q < 20 → J 19 q = if q < h then nI (2 ^ w - 1) else 0) := by
  have main : X (d + 2) none 13 (0, [some (.ref 3), some (.int (nI w)), some (.int (nI h))], [], (xSH, I, L, xR0)) = some (none, (xSH, cSSt (xu (xu (xu (xu (xu (xu (xu (xu (cDrop (xs (xu (xu I 4 1 (nI w)) 4 2 (nI h)) 5 (fun q => if q < 400 then 255 else I 5 q))) 3 7 0) 3 8 0) 3 9 0) 3 10 0) 3 11 (-1)) 3 12 0) 3 13 0) 3 14 0) 0 w h, L, xR0)) := by
    have hst : ∀ J : Nat → Nat → Int32, J 3 8 = nI 0 → X (d + 1) none 17 (0, [some (.ref 3)], [], (xSH, J, L, xR0)) = some (some (.ref (17 + 3 * 0)), (xSH, J, L, xR0)) := fun J hJ => c_state (by decide) hJ
    have hss := fun J : Nat → Nat → Int32 => c_sStart (d := d) (I := J) (L := L) (s := 0) (by decide) hw hh
    have ha := (xSt_of 0 (by decide)).1
    simp only [e_13_0, e_13_1, e_13_4, e_13_5, e_13_6, e_13_9, e_13_10, e_13_13, e_13_16, e_13_17, e_13_18, e_13_21, e_13_22, e_13_23, e_13_26, e_13_27, e_13_28, e_13_31, e_13_32, e_13_33, e_13_36, e_13_37, e_13_38, e_13_41, e_13_42, e_13_43, e_13_46, e_13_47, e_13_48, e_13_51, e_13_52, e_13_53, e_13_56, e_13_57, e_13_60, e_13_61, e_13_62 ha, e_13_65, c_pStart, c_drop, Option.bind_some, Option.toList_some, Option.toList_none, List.cons_append, List.nil_append]
    rw [hst _ (by simp (decide := true) only [xu_ne, xu_eq, xs_ne, xs_at, ne_eq, reduceIte, if_true, if_false, not_false_eq_true])]
    simp only [Option.bind_some, Option.toList_some, Option.toList_none, List.cons_append, List.nil_append, e_13_0, e_13_1, e_13_4, e_13_5, e_13_6, e_13_9, e_13_10, e_13_13, e_13_16, e_13_17, e_13_18, e_13_21, e_13_22, e_13_23, e_13_26, e_13_27, e_13_28, e_13_31, e_13_32, e_13_33, e_13_36, e_13_37, e_13_38, e_13_41, e_13_42, e_13_43, e_13_46, e_13_47, e_13_48, e_13_51, e_13_52, e_13_53, e_13_56, e_13_57, e_13_60, e_13_61, e_13_62 ha, e_13_65, hss]
  refine ⟨_, main, fun a ha => ?_, ?_, ?_, ?_, ?_, ?_, ?_, ?_, ?_, ?_, ?_, ?_, ?_, fun q hq => ?_, ?_, ?_, ?_, ?_, ?_, fun q hq => ?_, ?_, fun q hq => ?_⟩
  · unfold cSSt cDrop
    rw [xs_ne (by omega), xu_ne (by omega), xu_ne (by omega), xu_ne (by omega), xs_ne (by omega), xu_ne (by omega), xu_ne (by omega), xu_ne (by omega), xu_ne (by omega), xu_ne (by omega), xu_ne (by omega), xu_ne (by omega), xu_ne (by omega), xu_ne (by omega), xu_ne (by omega), xu_ne (by omega), xu_ne (by omega), xu_ne (by omega), xs_ne (by omega), xu_ne (by omega), xu_ne (by omega)]
  all_goals simp (decide := true) only [cSSt, cDrop, xu_ne, xu_eq, xs_ne, xs_at, ne_eq, reduceIte, if_true, if_false, not_false_eq_true]
  · rw [if_pos hq]
  · by_cases z1 : q = 3
    · simp [z1]
    · by_cases z2 : q = 0
      · simp [z2]
      · simp [z1, z2, hq]
  · rw [if_pos hq]
end SS
