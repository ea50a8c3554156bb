theorem nI_and {a b : Nat} (ha : a < 2 ^ 31) (hb : b < 2 ^ 31) : nI a &&& nI b = nI (a &&& b) := by
  apply Int32.toBitVec_inj.mp
  apply BitVec.eq_of_toNat_eq
  rw [Int32.toBitVec_and, BitVec.toNat_and, pk_tn (by omega), pk_tn (by omega), pk_tn (by have := Nat.and_lt_two_pow a hb; omega)]
def eSame (I J : Nat → Nat → Int32) : Prop := J 7 = I 7 ∧ J 8 = I 8 ∧ J 9 = I 9 ∧ J 10 = I 10
theorem aStop_same {I J : Nat → Nat → Int32} (h : eSame I J) {w i : Nat} {y dir : Int32} : aStop J i w y dir = aStop I i w y dir := by
  unfold aStop aH aEX aRise aShift
  rw [h.1, h.2.1, h.2.2.1, h.2.2.2]
theorem cCon_same {I J : Nat → Nat → Int32} (h : eSame I J) {w i x : Nat} {y : Int32} : cCon J w y i x = cCon I w y i x := by
  unfold cCon cUpS cDnS
  rw [aStop_same h, aStop_same h, h.2.1, h.2.2.2]
theorem cWnd_same {I J : Nat → Nat → Int32} (h : eSame I J) {w x : Nat} {y : Int32} : ∀ i, cWnd J w y i x = cWnd I w y i x
  | 0 => rfl
  | i + 1 => by rw [cWnd, cWnd, cWnd_same h i, cCon_same h]
theorem cIns_same {I J : Nat → Nat → Int32} (h : eSame I J) {w e : Nat} {y r : Int32} : cIns J w y r e = cIns I w y r e := by
  funext x
  unfold cIns
  rw [cWnd_same h]
section FI
variable {d : Nat} {I : Nat → Nat → Int32} {L : Nat → Nat → Int64}
def finCtx (I : Nat → Nat → Int32) (s w h e : Nat) (cr : Int32) : Prop := I 4 1 = nI w ∧ I 4 2 = nI h ∧ I 3 9 = cr ∧ I 6 5 = nI e ∧ w ≤ 20 ∧ h ≤ 20 ∧ e ≤ 120 ∧ s < 7
theorem c_fin_row {s w h e y b : Nat} {r cr : Int32} (hc : finCtx I s w h e cr) (hy : y < h) (hb : b < 2 ^ 20) (hcl : I (17 + 3 * s + 2) y = nI b) : ∃ J, X (d + 2) none 56 (14, [some (.ref 3), some (.int r), some (.ref (17 + 3 * s)), some (.int (nI y))], [], (xSH, I, L, xR0)) = X (d + 2) none 56 (14, [some (.ref 3), some (.int r), some (.ref (17 + 3 * s)), some (.int (nI (y + 1)))], [], (xSH, J, L, xR0)) ∧ (∀ a, a ≠ 5 → a ≠ 11 → a ≠ 17 + 3 * s + 2 → J a = I a) ∧ (∀ z, J 5 z = if ¬ r = 0 ∧ 20 * y ≤ z ∧ z < 20 * y + w ∧ (bts (cIns I w (nI y) r e) w &&& b).testBit (z - 20 * y) = true then I (17 + 3 * s) 2 else I 5 z) ∧ (∀ q, J (17 + 3 * s + 2) q = if q = y ∧ ¬ cr = 0 then nI (b &&& bts (cIns I w (nI y) cr e) w) else I (17 + 3 * s + 2) q) := by
  obtain ⟨h1, h2, h3, h4, hw, hh, he, hs⟩ := hc
  have ha := (xSt_of s hs).1
  have hcl' : (nI y).toNatClampNeg = y := nI_clamp (by omega)
  have g2 : ¬ (nI y < 0 ∨ 20 ≤ y) := q_in (by omega) (by decide)
  have g1 : ¬ nI h ≤ nI y := q_nle hy (by omega)
  have hp : 2 ^ w ≤ 2 ^ 20 := Nat.pow_le_pow_right (by decide) hw
  have b1 := bts_lt (cIns I w (nI y) r e) w
  have b2 := bts_lt (cIns I w (nI y) cr e) w
  obtain ⟨f, hf⟩ := c_insideOfRow (d := d) (I := I) (L := L) (y := nI y) (r := r) hw h4 he
  have n3 : 3 ≠ 11 := by decide
  have n4 : 4 ≠ 11 := by decide
  have n6 : 6 ≠ 11 := by decide
  have nc : 17 + 3 * s + 2 ≠ 11 := by omega
  have ng : 17 + 3 * s ≠ 11 := by omega
  have m3 : 3 ≠ 5 := by decide
  have m4 : 4 ≠ 5 := by decide
  have m6 : 6 ≠ 5 := by decide
  have m11 : 5 ≠ 11 := by decide
  have mc : 17 + 3 * s + 2 ≠ 5 := by omega
  rw [e_56_14]
  by_cases gr : r = 0
  · by_cases gc : cr = 0
    · refine ⟨I, ?_, fun _ _ _ _ => rfl, fun z => by rw [if_neg (fun z => z.1 gr)], fun q => by rw [if_neg (fun z => z.2 gc)]⟩
      subst gr
      simp only [e_56_0, e_56_1, e_56_4, e_56_7, e_56_8, e_56_11, e_56_12, e_56_13, e_56_15, e_56_16, e_56_19, e_56_22, e_56_25, e_56_26, e_56_29, e_56_30, e_56_33, e_56_34, e_56_35, e_56_38, e_56_39, e_56_40, e_56_43, e_56_46, e_56_47, e_56_50, e_56_51 ha, e_56_54, e_56_55 ha, e_56_56, e_56_57, e_56_58 ha, e_56_61, e_56_64, e_56_65, e_56_68, e_56_71, e_56_72 ha, e_56_75, e_56_76, e_56_77 ha, e_56_78, e_56_79, e_56_82, e_56_83, e_56_84, e_56_87, e_56_90, e_56_91, e_56_94, e_56_97, e_56_98 ha, e_56_99, e_56_102, e_56_105, e_56_106, e_56_107, e_56_110, e_56_111, e_56_114, e_56_115, e_56_118, e_56_119, e_56_120, e_56_123, e_56_124, e_56_125, e_56_128, e_56_129, e_56_132, e_56_135, e_56_138, e_56_141, e_56_142, e_56_143, e_56_146, e_56_147, e_56_150, e_56_153, h2, h3, g1, gc, if_true, if_false, nI_1]
    · obtain ⟨f', hf'⟩ := c_insideOfRow (d := d) (I := I) (L := L) (y := nI y) (r := cr) hw h4 he
      refine ⟨xu (xs I 11 f') (17 + 3 * s + 2) y (nI (b &&& bts (cIns I w (nI y) cr e) w)), ?_, fun a a1 a2 a3 => by rw [xu_ne a3, xs_ne a2], fun z => by rw [if_neg (fun z => z.1 gr), xu_ne (Ne.symm mc), xs_ne m11], fun q => ?_⟩
      · subst gr
        simp only [e_56_0, e_56_1, e_56_4, e_56_7, e_56_8, e_56_11, e_56_12, e_56_13, e_56_15, e_56_16, e_56_19, e_56_22, e_56_25, e_56_26, e_56_29, e_56_30, e_56_33, e_56_34, e_56_35, e_56_38, e_56_39, e_56_40, e_56_43, e_56_46, e_56_47, e_56_50, e_56_51 ha, e_56_54, e_56_55 ha, e_56_56, e_56_57, e_56_58 ha, e_56_61, e_56_64, e_56_65, e_56_68, e_56_71, e_56_72 ha, e_56_75, e_56_76, e_56_77 ha, e_56_78, e_56_79, e_56_82, e_56_83, e_56_84, e_56_87, e_56_90, e_56_91, e_56_94, e_56_97, e_56_98 ha, e_56_99, e_56_102, e_56_105, e_56_106, e_56_107, e_56_110, e_56_111, e_56_114, e_56_115, e_56_118, e_56_119, e_56_120, e_56_123, e_56_124, e_56_125, e_56_128, e_56_129, e_56_132, e_56_135, e_56_138, e_56_141, e_56_142, e_56_143, e_56_146, e_56_147, e_56_150, e_56_153, h1, h2, h3, g1, g2, gc, hcl', hcl, hf', Option.bind_some, Option.toList_some, Option.toList_none, List.cons_append, List.nil_append, if_true, if_false, nI_1, nI_and (show b < 2 ^ 31 by omega) (show bts (cIns I w (nI y) cr e) w < 2 ^ 31 by omega)]
      · rw [xu_eq, xs_ne nc]
        by_cases z : q = y <;> simp [z, gc]
  · have e1 : (bts (cIns I w (nI y) r e) w &&& b) < 2 ^ 31 := by have := Nat.and_lt_two_pow (bts (cIns I w (nI y) r e) w) hb; omega
    have hpt := c_paintRow (d := d + 1) (I := xs I 11 f) (L := L) (g := I (17 + 3 * s) 2) hw (show y < 20 by omega) e1 (by rw [xs_ne n4]; exact h1)
    have hand := nI_and (a := bts (cIns I w (nI y) r e) w) (b := b) (by omega) (by omega)
    by_cases gc : cr = 0
    · refine ⟨xs (xs I 11 f) 5 (fun z => if 20 * y ≤ z ∧ z < 20 * y + w ∧ (bts (cIns I w (nI y) r e) w &&& b).testBit (z - 20 * y) = true then I (17 + 3 * s) 2 else xs I 11 f 5 z), ?_, fun a a1 a2 a3 => ?_, fun z => ?_, fun q => ?_⟩
      · simp only [e_56_0, e_56_1, e_56_4, e_56_7, e_56_8, e_56_11, e_56_12, e_56_13, e_56_15, e_56_16, e_56_19, e_56_22, e_56_25, e_56_26, e_56_29, e_56_30, e_56_33, e_56_34, e_56_35, e_56_38, e_56_39, e_56_40, e_56_43, e_56_46, e_56_47, e_56_50, e_56_51 ha, e_56_54, e_56_55 ha, e_56_56, e_56_57, e_56_58 ha, e_56_61, e_56_64, e_56_65, e_56_68, e_56_71, e_56_72 ha, e_56_75, e_56_76, e_56_77 ha, e_56_78, e_56_79, e_56_82, e_56_83, e_56_84, e_56_87, e_56_90, e_56_91, e_56_94, e_56_97, e_56_98 ha, e_56_99, e_56_102, e_56_105, e_56_106, e_56_107, e_56_110, e_56_111, e_56_114, e_56_115, e_56_118, e_56_119, e_56_120, e_56_123, e_56_124, e_56_125, e_56_128, e_56_129, e_56_132, e_56_135, e_56_138, e_56_141, e_56_142, e_56_143, e_56_146, e_56_147, e_56_150, e_56_153, h1, h2, h3, g1, g2, gr, gc, hcl', hf, xs_ne nc, xs_ne ng, xs_ne n3, hcl, hand, hpt, xs_ne m3, Option.bind_some, Option.toList_some, Option.toList_none, List.cons_append, List.nil_append, if_true, if_false, nI_1]
      · rw [xs_ne a1, xs_ne a2]
      · rw [xs_at, xs_ne m11]
        simp only [gr, not_false_eq_true, true_and]
      · rw [if_neg (fun z => z.2 gc), xs_ne mc, xs_ne nc]
    · obtain ⟨f', hf'⟩ := c_insideOfRow (d := d) (I := xs (xs I 11 f) 5 (fun z => if 20 * y ≤ z ∧ z < 20 * y + w ∧ (bts (cIns I w (nI y) r e) w &&& b).testBit (z - 20 * y) = true then I (17 + 3 * s) 2 else xs I 11 f 5 z)) (L := L) (y := nI y) (r := cr) hw (by rw [xs_ne m6, xs_ne n6]; exact h4) he
      have es : eSame I (xs (xs I 11 f) 5 (fun z => if 20 * y ≤ z ∧ z < 20 * y + w ∧ (bts (cIns I w (nI y) r e) w &&& b).testBit (z - 20 * y) = true then I (17 + 3 * s) 2 else xs I 11 f 5 z)) := by
        refine ⟨?_, ?_, ?_, ?_⟩ <;> rw [xs_ne (by decide), xs_ne (by decide)]
      rw [cIns_same es] at hf'
      refine ⟨xu (xs (xs (xs I 11 f) 5 (fun z => if 20 * y ≤ z ∧ z < 20 * y + w ∧ (bts (cIns I w (nI y) r e) w &&& b).testBit (z - 20 * y) = true then I (17 + 3 * s) 2 else xs I 11 f 5 z)) 11 f') (17 + 3 * s + 2) y (nI (b &&& bts (cIns I w (nI y) cr e) w)), ?_, fun a a1 a2 a3 => ?_, fun z => ?_, fun q => ?_⟩
      · simp only [e_56_0, e_56_1, e_56_4, e_56_7, e_56_8, e_56_11, e_56_12, e_56_13, e_56_15, e_56_16, e_56_19, e_56_22, e_56_25, e_56_26, e_56_29, e_56_30, e_56_33, e_56_34, e_56_35, e_56_38, e_56_39, e_56_40, e_56_43, e_56_46, e_56_47, e_56_50, e_56_51 ha, e_56_54, e_56_55 ha, e_56_56, e_56_57, e_56_58 ha, e_56_61, e_56_64, e_56_65, e_56_68, e_56_71, e_56_72 ha, e_56_75, e_56_76, e_56_77 ha, e_56_78, e_56_79, e_56_82, e_56_83, e_56_84, e_56_87, e_56_90, e_56_91, e_56_94, e_56_97, e_56_98 ha, e_56_99, e_56_102, e_56_105, e_56_106, e_56_107, e_56_110, e_56_111, e_56_114, e_56_115, e_56_118, e_56_119, e_56_120, e_56_123, e_56_124, e_56_125, e_56_128, e_56_129, e_56_132, e_56_135, e_56_138, e_56_141, e_56_142, e_56_143, e_56_146, e_56_147, e_56_150, e_56_153, h1, h2, h3, g1, g2, gr, gc, hcl', hf, hf', xs_ne nc, xs_ne ng, xs_ne n3, xs_ne n4, xs_ne m4, hcl, hand, hpt, xs_ne m3, xs_ne mc, Option.bind_some, Option.toList_some, Option.toList_none, List.cons_append, List.nil_append, if_true, if_false, nI_1, nI_and (show b < 2 ^ 31 by omega) (show bts (cIns I w (nI y) cr e) w < 2 ^ 31 by omega)]
      · rw [xu_ne a3, xs_ne a2, xs_ne a1, xs_ne a2]
      · rw [xu_ne (Ne.symm mc), xs_ne m11, xs_at, xs_ne m11]
        simp only [gr, not_false_eq_true, true_and]
      · rw [xu_eq, xs_ne nc, xs_ne mc, xs_ne nc]
        by_cases z : q = y <;> simp [z, gc]
end FI
