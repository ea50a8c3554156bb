def vAt (P : Nat → Int32) (w h : Nat) (x y : Int32) : Int32 := if x < 0 then -1 else if nI w ≤ x then -1 else if y < 0 then -1 else if y < nI h then P (20 * y + x).toNatClampNeg else -1
def cnt2 (Q : Nat → Nat → Bool) (w : Nat) : Nat → Nat
  | 0 => 0
  | y + 1 => cnt2 Q w y + cnt (Q y) w
theorem cnt2_le (Q : Nat → Nat → Bool) (w : Nat) : ∀ y, cnt2 Q w y ≤ w * y
  | 0 => Nat.le_refl _
  | y + 1 => by
    have h1 := cnt2_le Q w y
    have h2 := cnt_le (Q y) w
    rw [cnt2, Nat.mul_add, Nat.mul_one]
    omega
theorem cnt_congr {P Q : Nat → Bool} : ∀ w, (∀ x, x < w → P x = Q x) → cnt P w = cnt Q w
  | 0, _ => rfl
  | w + 1, h => by rw [cnt, cnt, cnt_congr w (fun x hx => h x (by omega)), h w (by omega)]
theorem cnt_zero {P : Nat → Bool} : ∀ w, (∀ x, x < w → P x = false) → cnt P w = 0
  | 0, _ => rfl
  | w + 1, h => by
    rw [cnt, cnt_zero w (fun x hx => h x (by omega)), h w (by omega)]
    rfl
theorem cnt_ext {P : Nat → Bool} {w : Nat} : ∀ m, (∀ x, w ≤ x → P x = false) → cnt P (w + m) = cnt P w
  | 0, _ => rfl
  | m + 1, h => by
    rw [← Nat.add_assoc, cnt, cnt_ext m h, h (w + m) (by omega)]
    simp
section CO
variable {d : Nat} {I : Nat → Nat → Int32} {L : Nat → Nat → Int64}
theorem v_in {w h : Nat} {x y : Int32} (hw : w ≤ 20) (hh : h ≤ 20) (h1 : ¬ x < 0) (h2 : ¬ nI w ≤ x) (h3 : ¬ y < 0) (h4 : y < nI h) : ¬ (20 * y + x < 0 ∨ 400 ≤ (20 * y + x).toNatClampNeg) ∧ y * 20 + x = 20 * y + x := by
  obtain ⟨a, a1, rfl⟩ := nI_of h1
  obtain ⟨b, b1, rfl⟩ := nI_of h3
  have a2 : a < w := by
    have := (nI_ltI (a := a) (b := w) a1 (by omega)).mp (Int32.not_le.mp h2)
    omega
  have b2 : b < h := (nI_ltI b1 (by omega)).mp h4
  have e1 : 20 * nI b + nI a = nI (20 * b + a) := by rw [show (20 : Int32) = nI 20 from rfl, pk_mul, nI_add]
  have e2 : nI b * 20 + nI a = nI (20 * b + a) := by rw [show (20 : Int32) = nI 20 from rfl, pk_mul, nI_add, Nat.mul_comm]
  rw [e1, e2, nI_clamp (by omega)]
  exact ⟨q_in (by omega) (by decide), rfl⟩
theorem c_valueAt {w h : Nat} {x y : Int32} (hw : w ≤ 20) (hh : h ≤ 20) (h1 : I 4 1 = nI w) (h2 : I 4 2 = nI h) : X d none 64 (0, [some (.ref 4), some (.int x), some (.int y)], [], (xSH, I, L, xR0)) = some (some (.int (vAt (I 5) w h x y)), (xSH, I, L, xR0)) := by
  unfold vAt
  by_cases g1 : x < 0
  · simp only [e_64_0, e_64_1, e_64_4, e_64_5, e_64_6, e_64_9, e_64_12, e_64_13, e_64_16, e_64_17, e_64_18, e_64_21, e_64_24, e_64_25, e_64_26, e_64_27, e_64_30, e_64_31, e_64_33, e_64_34, e_64_35, e_64_36, e_64_37, h1, h2, g1, if_true]
  · by_cases g2 : nI w ≤ x
    · simp only [e_64_0, e_64_1, e_64_4, e_64_5, e_64_6, e_64_9, e_64_12, e_64_13, e_64_16, e_64_17, e_64_18, e_64_21, e_64_24, e_64_25, e_64_26, e_64_27, e_64_30, e_64_31, e_64_33, e_64_34, e_64_35, e_64_36, e_64_37, h1, h2, g1, g2, if_true, if_false]
    · by_cases g3 : y < 0
      · simp only [e_64_0, e_64_1, e_64_4, e_64_5, e_64_6, e_64_9, e_64_12, e_64_13, e_64_16, e_64_17, e_64_18, e_64_21, e_64_24, e_64_25, e_64_26, e_64_27, e_64_30, e_64_31, e_64_33, e_64_34, e_64_35, e_64_36, e_64_37, h1, h2, g1, g2, g3, if_true, if_false]
      · by_cases g4 : y < nI h
        · obtain ⟨k1, k2⟩ := v_in hw hh g1 g2 g3 g4
          simp only [e_64_0, e_64_1, e_64_4, e_64_5, e_64_6, e_64_9, e_64_12, e_64_13, e_64_16, e_64_17, e_64_18, e_64_21, e_64_24, e_64_25, e_64_26, e_64_27, e_64_30, e_64_31, e_64_33, e_64_34, e_64_35, e_64_36, e_64_37, h1, h2, g1, g2, g3, g4, k2, k1, if_true, if_false]
        · simp only [e_64_0, e_64_1, e_64_4, e_64_5, e_64_6, e_64_9, e_64_12, e_64_13, e_64_16, e_64_17, e_64_18, e_64_21, e_64_24, e_64_25, e_64_26, e_64_27, e_64_30, e_64_31, e_64_33, e_64_34, e_64_35, e_64_36, e_64_37, h1, h2, g1, g2, g3, g4, if_true, if_false]
theorem m_pixel {w h : Nat} {x y : Int32} (hw : w ≤ 20) (hh : h ≤ 20) (h1 : I 38 2 = nI w) (h2 : I 38 3 = nI h) : X d none 105 (0, [some (.ref 38), some (.int x), some (.int y)], [], (xSH, I, L, xR0)) = some (some (.int (vAt (I 40) w h x y)), (xSH, I, L, xR0)) := by
  unfold vAt
  by_cases g1 : x < 0
  · simp only [e_105_0, e_105_1, e_105_4, e_105_5, e_105_6, e_105_9, e_105_12, e_105_13, e_105_16, e_105_17, e_105_18, e_105_21, e_105_24, e_105_25, e_105_28, e_105_29, e_105_32, e_105_34, e_105_35, e_105_36, e_105_37, e_105_38, e_105_39, h1, h2, g1, if_true]
  · by_cases g2 : nI w ≤ x
    · simp only [e_105_0, e_105_1, e_105_4, e_105_5, e_105_6, e_105_9, e_105_12, e_105_13, e_105_16, e_105_17, e_105_18, e_105_21, e_105_24, e_105_25, e_105_28, e_105_29, e_105_32, e_105_34, e_105_35, e_105_36, e_105_37, e_105_38, e_105_39, h1, h2, g1, g2, if_true, if_false]
    · by_cases g3 : y < 0
      · simp only [e_105_0, e_105_1, e_105_4, e_105_5, e_105_6, e_105_9, e_105_12, e_105_13, e_105_16, e_105_17, e_105_18, e_105_21, e_105_24, e_105_25, e_105_28, e_105_29, e_105_32, e_105_34, e_105_35, e_105_36, e_105_37, e_105_38, e_105_39, h1, h2, g1, g2, g3, if_true, if_false]
      · by_cases g4 : y < nI h
        · obtain ⟨k1, k2⟩ := v_in hw hh g1 g2 g3 g4
          simp only [e_105_0, e_105_1, e_105_4, e_105_5, e_105_6, e_105_9, e_105_12, e_105_13, e_105_16, e_105_17, e_105_18, e_105_21, e_105_24, e_105_25, e_105_28, e_105_29, e_105_32, e_105_34, e_105_35, e_105_36, e_105_37, e_105_38, e_105_39, h1, h2, g1, g2, g3, g4, k1, if_true, if_false]
        · simp only [e_105_0, e_105_1, e_105_4, e_105_5, e_105_6, e_105_9, e_105_12, e_105_13, e_105_16, e_105_17, e_105_18, e_105_21, e_105_24, e_105_25, e_105_28, e_105_29, e_105_32, e_105_34, e_105_35, e_105_36, e_105_37, e_105_38, e_105_39, h1, h2, g1, g2, g3, g4, if_true, if_false]
def pQ (P : Nat → Int32) (v : Int32) (y x : Nat) : Bool := decide (P (20 * y + x) = v)
theorem c_cnt_x {w h y c : Nat} {v : Int32} (hw : w ≤ 20) (hh : h ≤ 20) (h1 : I 4 1 = nI w) (hy : y < h) : ∀ x, x ≤ w → X d none 66 (15, [some (.ref 4), some (.int v), some (.int (nI c)), some (.int (nI y)), some (.int (nI 0))], [], (xSH, I, L, xR0)) = X d none 66 (15, [some (.ref 4), some (.int v), some (.int (nI (c + cnt (pQ (I 5) v y) x))), some (.int (nI y)), some (.int (nI x))], [], (xSH, I, L, xR0))
  | 0, _ => rfl
  | x + 1, hx => by
    have e2 : nI y * 20 + nI x = nI (20 * y + x) := by rw [show (20 : Int32) = nI 20 from rfl, pk_mul, nI_add, Nat.mul_comm]
    have hc : (nI (20 * y + x)).toNatClampNeg = 20 * y + x := nI_clamp (by omega)
    have g2 : ¬ (nI (20 * y + x) < 0 ∨ 400 ≤ 20 * y + x) := q_in (by omega) (by decide)
    have g1 : ¬ nI w ≤ nI x := q_nle (by omega) (by omega)
    rw [c_cnt_x hw hh h1 hy x (by omega), e_66_15, cnt]
    unfold pQ
    by_cases g : I 5 (20 * y + x) = v
    · simp only [e_66_0, e_66_1, e_66_2, e_66_3, e_66_5, e_66_6, e_66_9, e_66_12, e_66_13, e_66_17, e_66_18, e_66_21, e_66_24, e_66_25, e_66_28, e_66_29, e_66_31, e_66_32, e_66_34, e_66_35, e_66_36, e_66_37, e_66_40, e_66_43, e_66_46, e_66_49, e_66_52, e_66_55, e_66_56, h1, g1, e2, hc, g2, g, if_true, if_false, nI_1, decide_true]
      rfl
    · simp only [e_66_0, e_66_1, e_66_2, e_66_3, e_66_5, e_66_6, e_66_9, e_66_12, e_66_13, e_66_17, e_66_18, e_66_21, e_66_24, e_66_25, e_66_28, e_66_29, e_66_31, e_66_32, e_66_34, e_66_35, e_66_36, e_66_37, e_66_40, e_66_43, e_66_46, e_66_49, e_66_52, e_66_55, e_66_56, h1, g1, e2, hc, g2, g, if_true, if_false, nI_1, decide_false, Bool.false_eq_true, Nat.add_zero]
theorem c_cnt_y {w h : Nat} {v : Int32} (hw : w ≤ 20) (hh : h ≤ 20) (h1 : I 4 1 = nI w) (h2 : I 4 2 = nI h) : ∀ y, y ≤ h → ∃ o, X d none 66 (4, [some (.ref 4), some (.int v), some (.int (nI 0)), some (.int (nI 0)), none], [], (xSH, I, L, xR0)) = X d none 66 (4, [some (.ref 4), some (.int v), some (.int (nI (cnt2 (pQ (I 5) v) w y))), some (.int (nI y)), o], [], (xSH, I, L, xR0))
  | 0, _ => ⟨none, rfl⟩
  | y + 1, hy => by
    obtain ⟨o, ho⟩ := c_cnt_y hw hh h1 h2 y (by omega)
    have g1 : ¬ nI h ≤ nI y := q_nle (by omega) (by omega)
    refine ⟨some (.int (nI w)), ?_⟩
    rw [ho, e_66_4]
    simp only [e_66_5, e_66_6, e_66_9, e_66_12, e_66_13, h2, g1, if_false]
    rw [show (0 : Int32) = nI 0 from rfl, c_cnt_x hw hh h1 (show y < h by omega) w (Nat.le_refl _), e_66_15]
    simp only [e_66_17, e_66_18, e_66_21, e_66_49, e_66_52, h1, nI_1]
    rw [if_pos (q_le (Nat.le_refl _) (by omega))]
    rfl
theorem c_countOf {w h : Nat} {v : Int32} (hw : w ≤ 20) (hh : h ≤ 20) (h1 : I 4 1 = nI w) (h2 : I 4 2 = nI h) : X d none 66 (0, [some (.ref 4), some (.int v), none, none, none], [], (xSH, I, L, xR0)) = some (some (.int (nI (cnt2 (pQ (I 5) v) w h))), (xSH, I, L, xR0)) := by
  obtain ⟨o, ho⟩ := c_cnt_y (d := d) (L := L) (v := v) hw hh h1 h2 h (Nat.le_refl _)
  simp only [e_66_0, e_66_1, e_66_2, e_66_3]
  rw [show (0 : Int32) = nI 0 from rfl, ho, e_66_4]
  simp only [e_66_5, e_66_6, e_66_9, e_66_55, e_66_56, h2]
  rw [if_pos (q_le (Nat.le_refl _) (by omega))]
theorem m_cnt_x {w h y c : Nat} {v : Int32} (hw : w ≤ 20) (hh : h ≤ 20) (h1 : I 38 2 = nI w) (hy : y < h) : ∀ x, x ≤ w → X d none 106 (15, [some (.ref 38), some (.int v), some (.int (nI c)), some (.int (nI y)), some (.int (nI 0))], [], (xSH, I, L, xR0)) = X d none 106 (15, [some (.ref 38), some (.int v), some (.int (nI (c + cnt (pQ (I 40) v y) x))), some (.int (nI y)), some (.int (nI x))], [], (xSH, I, L, xR0))
  | 0, _ => rfl
  | x + 1, hx => by
    have e2 : 20 * nI y + nI x = nI (20 * y + x) := by rw [show (20 : Int32) = nI 20 from rfl, pk_mul, nI_add]
    have hc : (nI (20 * y + x)).toNatClampNeg = 20 * y + x := nI_clamp (by omega)
    have g2 : ¬ (nI (20 * y + x) < 0 ∨ 400 ≤ 20 * y + x) := q_in (by omega) (by decide)
    have g1 : ¬ nI w ≤ nI x := q_nle (by omega) (by omega)
    rw [m_cnt_x hw hh h1 hy x (by omega), e_106_15, cnt]
    unfold pQ
    by_cases g : I 40 (20 * y + x) = v
    · simp only [e_106_0, e_106_1, e_106_2, e_106_3, e_106_5, e_106_6, e_106_9, e_106_12, e_106_13, e_106_17, e_106_18, e_106_21, e_106_24, e_106_25, e_106_28, e_106_30, e_106_31, e_106_32, e_106_34, e_106_35, e_106_36, e_106_37, e_106_40, e_106_43, e_106_46, e_106_49, e_106_52, e_106_55, e_106_56, h1, g1, e2, hc, g2, g, if_true, if_false, nI_1, decide_true]
      rfl
    · simp only [e_106_0, e_106_1, e_106_2, e_106_3, e_106_5, e_106_6, e_106_9, e_106_12, e_106_13, e_106_17, e_106_18, e_106_21, e_106_24, e_106_25, e_106_28, e_106_30, e_106_31, e_106_32, e_106_34, e_106_35, e_106_36, e_106_37, e_106_40, e_106_43, e_106_46, e_106_49, e_106_52, e_106_55, e_106_56, h1, g1, e2, hc, g2, g, if_true, if_false, nI_1, decide_false, Bool.false_eq_true, Nat.add_zero]
theorem m_cnt_y {w h : Nat} {v : Int32} (hw : w ≤ 20) (hh : h ≤ 20) (h1 : I 38 2 = nI w) (h2 : I 38 3 = nI h) : ∀ y, y ≤ h → ∃ o, X d none 106 (4, [some (.ref 38), some (.int v), some (.int (nI 0)), some (.int (nI 0)), none], [], (xSH, I, L, xR0)) = X d none 106 (4, [some (.ref 38), some (.int v), some (.int (nI (cnt2 (pQ (I 40) v) w y))), some (.int (nI y)), o], [], (xSH, I, L, xR0))
  | 0, _ => ⟨none, rfl⟩
  | y + 1, hy => by
    obtain ⟨o, ho⟩ := m_cnt_y hw hh h1 h2 y (by omega)
    have g1 : ¬ nI h ≤ nI y := q_nle (by omega) (by omega)
    refine ⟨some (.int (nI w)), ?_⟩
    rw [ho, e_106_4]
    simp only [e_106_5, e_106_6, e_106_9, e_106_12, e_106_13, h2, g1, if_false]
    rw [show (0 : Int32) = nI 0 from rfl, m_cnt_x hw hh h1 (show y < h by omega) w (Nat.le_refl _), e_106_15]
    simp only [e_106_17, e_106_18, e_106_21, e_106_49, e_106_52, h1, nI_1]
    rw [if_pos (q_le (Nat.le_refl _) (by omega))]
    rfl
theorem m_area {w h : Nat} {v : Int32} (hw : w ≤ 20) (hh : h ≤ 20) (h1 : I 38 2 = nI w) (h2 : I 38 3 = nI h) : X d none 106 (0, [some (.ref 38), some (.int v), none, none, none], [], (xSH, I, L, xR0)) = some (some (.int (nI (cnt2 (pQ (I 40) v) w h))), (xSH, I, L, xR0)) := by
  obtain ⟨o, ho⟩ := m_cnt_y (d := d) (L := L) (v := v) hw hh h1 h2 h (Nat.le_refl _)
  simp only [e_106_0, e_106_1, e_106_2, e_106_3]
  rw [show (0 : Int32) = nI 0 from rfl, ho, e_106_4]
  simp only [e_106_5, e_106_6, e_106_9, e_106_55, e_106_56, h2]
  rw [if_pos (q_le (Nat.le_refl _) (by omega))]
def kQ (P : Nat → Int32) (dr : Int32) (y x : Nat) : Bool := !decide (dr = 0) && !decide (P (20 * y + x) = 0)
theorem m_clp_x {w h y c : Nat} (hw : w ≤ 20) (hh : h ≤ 20) (h1 : I 38 2 = nI w) (hy : y < h) : ∀ x, x ≤ w → X d none 110 (14, [some (.ref 38), some (.int (nI c)), some (.int (nI y)), some (.int (nI 0))], [], (xSH, I, L, xR0)) = X d none 110 (14, [some (.ref 38), some (.int (nI (c + cnt (kQ (I 41) (I 38 31) y) x))), some (.int (nI y)), some (.int (nI x))], [], (xSH, I, L, xR0))
  | 0, _ => rfl
  | x + 1, hx => by
    have e2 : 20 * nI y + nI x = nI (20 * y + x) := by rw [show (20 : Int32) = nI 20 from rfl, pk_mul, nI_add]
    have hc : (nI (20 * y + x)).toNatClampNeg = 20 * y + x := nI_clamp (by omega)
    have g2 : ¬ (nI (20 * y + x) < 0 ∨ 400 ≤ 20 * y + x) := q_in (by omega) (by decide)
    have g1 : ¬ nI w ≤ nI x := q_nle (by omega) (by omega)
    rw [m_clp_x hw hh h1 hy x (by omega), e_110_14, cnt]
    unfold kQ
    by_cases g3 : I 38 31 = 0
    · simp only [e_110_0, e_110_1, e_110_2, e_110_3, e_110_5, e_110_6, e_110_9, e_110_12, e_110_13, e_110_15, e_110_16, e_110_19, e_110_22, e_110_23, e_110_26, e_110_29, e_110_30, e_110_33, e_110_35, e_110_36, e_110_37, e_110_38, e_110_39, e_110_40, e_110_43, e_110_46, e_110_49, e_110_52, e_110_55, e_110_58, e_110_59, h1, g1, g3, if_true, if_false, nI_1, decide_true, Bool.not_true, Bool.false_and, Bool.false_eq_true, Nat.add_zero]
    · by_cases g : I 41 (20 * y + x) = 0
      · simp only [e_110_0, e_110_1, e_110_2, e_110_3, e_110_5, e_110_6, e_110_9, e_110_12, e_110_13, e_110_15, e_110_16, e_110_19, e_110_22, e_110_23, e_110_26, e_110_29, e_110_30, e_110_33, e_110_35, e_110_36, e_110_37, e_110_38, e_110_39, e_110_40, e_110_43, e_110_46, e_110_49, e_110_52, e_110_55, e_110_58, e_110_59, h1, g1, e2, hc, g2, g3, g, if_true, if_false, nI_1, decide_true, decide_false, Bool.not_true, Bool.not_false, Bool.true_and, Bool.false_eq_true, Nat.add_zero]
      · simp only [e_110_0, e_110_1, e_110_2, e_110_3, e_110_5, e_110_6, e_110_9, e_110_12, e_110_13, e_110_15, e_110_16, e_110_19, e_110_22, e_110_23, e_110_26, e_110_29, e_110_30, e_110_33, e_110_35, e_110_36, e_110_37, e_110_38, e_110_39, e_110_40, e_110_43, e_110_46, e_110_49, e_110_52, e_110_55, e_110_58, e_110_59, h1, g1, e2, hc, g2, g3, g, if_true, if_false, nI_1, decide_false, Bool.not_false, Bool.true_and]
        rfl
theorem m_clp_y {w h : Nat} (hw : w ≤ 20) (hh : h ≤ 20) (h1 : I 38 2 = nI w) (h2 : I 38 3 = nI h) : ∀ y, y ≤ h → ∃ o, X d none 110 (4, [some (.ref 38), some (.int (nI 0)), some (.int (nI 0)), none], [], (xSH, I, L, xR0)) = X d none 110 (4, [some (.ref 38), some (.int (nI (cnt2 (kQ (I 41) (I 38 31)) w y))), some (.int (nI y)), o], [], (xSH, I, L, xR0))
  | 0, _ => ⟨none, rfl⟩
  | y + 1, hy => by
    obtain ⟨o, ho⟩ := m_clp_y hw hh h1 h2 y (by omega)
    have g1 : ¬ nI h ≤ nI y := q_nle (by omega) (by omega)
    refine ⟨some (.int (nI w)), ?_⟩
    rw [ho, e_110_4]
    simp only [e_110_5, e_110_6, e_110_9, e_110_12, e_110_13, h2, g1, if_false]
    rw [show (0 : Int32) = nI 0 from rfl, m_clp_x hw hh h1 (show y < h by omega) w (Nat.le_refl _), e_110_14]
    simp only [e_110_15, e_110_16, e_110_19, e_110_52, e_110_55, h1, nI_1]
    rw [if_pos (q_le (Nat.le_refl _) (by omega))]
    rfl
theorem m_clipped {w h : Nat} (hw : w ≤ 20) (hh : h ≤ 20) (h1 : I 38 2 = nI w) (h2 : I 38 3 = nI h) : X d none 110 (0, [some (.ref 38), none, none, none], [], (xSH, I, L, xR0)) = some (some (.int (nI (cnt2 (kQ (I 41) (I 38 31)) w h))), (xSH, I, L, xR0)) := by
  obtain ⟨o, ho⟩ := m_clp_y (d := d) (L := L) hw hh h1 h2 h (Nat.le_refl _)
  simp only [e_110_0, e_110_1, e_110_2, e_110_3]
  rw [show (0 : Int32) = nI 0 from rfl, ho, e_110_4]
  simp only [e_110_5, e_110_6, e_110_9, e_110_58, e_110_59, h2]
  rw [if_pos (q_le (Nat.le_refl _) (by omega))]
theorem c_csz_h {s : Nat} {cb : Nat → Nat} (hs : s < 7) (hcl : ∀ q, q < 20 → I (17 + 3 * s + 2) q = nI (cb q) ∧ cb q < 2 ^ 20) : ∀ y, y ≤ 20 → X (d + 1) none 71 (4, [some (.ref (17 + 3 * s)), some (.int (nI 0)), some (.int (nI 0))], [], (xSH, I, L, xR0)) = X (d + 1) none 71 (4, [some (.ref (17 + 3 * s)), some (.int (nI (cnt2 (fun y x => (cb y).testBit x) 20 y))), some (.int (nI y))], [], (xSH, I, L, xR0))
  | 0, _ => rfl
  | y + 1, hy => by
    have ha := (xSt_of s hs).1
    have hc : (nI y).toNatClampNeg = y := nI_clamp (by omega)
    have g2 : ¬ (nI y < 0 ∨ 20 ≤ y) := q_in (by omega) (by decide)
    have g1 : ¬ (20 : Int32) ≤ nI y := nI_ge (a := y) (b := 20) (by omega) (by decide)
    obtain ⟨k1, k2⟩ := hcl y (by omega)
    rw [c_csz_h hs hcl y (by omega), e_71_4]
    simp only [e_71_0, e_71_1, e_71_2, e_71_3, e_71_5, e_71_7, e_71_10, e_71_11, e_71_12 ha, e_71_15, e_71_16 ha, e_71_17, e_71_20, e_71_21, e_71_22, e_71_25, e_71_28, e_71_29, hc, g1, g2, k1, c_bitCount k2, Option.bind_some, Option.toList_some, Option.toList_none, List.cons_append, List.nil_append, if_false, nI_1, nI_add]
    rfl
theorem c_clipSize {s : Nat} {cb : Nat → Nat} (hs : s < 7) (hcl : ∀ q, q < 20 → I (17 + 3 * s + 2) q = nI (cb q) ∧ cb q < 2 ^ 20) : X (d + 1) none 71 (0, [some (.ref (17 + 3 * s)), none, none], [], (xSH, I, L, xR0)) = some (some (.int (nI (cnt2 (fun y x => (cb y).testBit x) 20 20))), (xSH, I, L, xR0)) := by
  simp only [e_71_0, e_71_1, e_71_2, e_71_3]
  rw [show (0 : Int32) = nI 0 from rfl, c_csz_h hs hcl 20 (Nat.le_refl _), e_71_4]
  simp only [e_71_5, e_71_7, e_71_28, e_71_29]
  rw [if_pos (show (20 : Int32) ≤ nI 20 by decide)]
end CO
