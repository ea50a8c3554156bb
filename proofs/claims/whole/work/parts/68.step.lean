section SP
variable {d : Nat} {C C' M M' : Nat → Nat → Int32} {L L' L0 : Nat → Nat → Int64} {n w h s c p e : Nat} {q o : Int32}
theorem f_all (hD : rD C M L n w h s c p) (o : Int32) : cF C s o = mF M L (opM o) := by
  rcases op_15 o with ⟨z1, z2⟩ | rfl | rfl | rfl | rfl | rfl | rfl | rfl | rfl | rfl | rfl | rfl | rfl | rfl | rfl
  · rw [z2, (f_un (C := C) (M := M) (L := L) (s := s) z1).1, (f_un (C := C) (M := M) (L := L) (s := s) z1).2]
  · exact f_113 hD
  · exact f_81 hD
  · exact f_28003 hD
  · exact f_103 hD
  · exact f_109 hD
  · exact f_108 hD
  · exact f_104 hD
  · exact f_25970 hD
  · exact f_99 hD
  · exact f_87 hD
  · exact f_10839 hD
  · exact f_102 hD
  · exact f_10854 hD
  · exact f_110 hD
theorem w_all (o : Int32) : ∃ L', X (d + 2) none 87 (0, [some (.ref 38), some (.int (opM o)), none], [], (xSH, M, L, xR0)) = some (some (.int (mF M L (opM o))), (xSH, M, L', xR0)) ∧ frL L L' := by
  rcases op_15 o with ⟨z1, z2⟩ | rfl | rfl | rfl | rfl | rfl | rfl | rfl | rfl | rfl | rfl | rfl | rfl | rfl | rfl
  · rw [z2]
    exact m_wrong_n
  · exact m_wrong_0
  · exact m_wrong_1
  · exact m_wrong_2
  · exact m_wrong_3
  · exact m_wrong_4
  · exact m_wrong_5
  · exact m_wrong_6
  · exact m_wrong_7
  · exact m_wrong_8
  · exact m_wrong_9
  · exact m_wrong_10
  · exact m_wrong_11
  · exact m_wrong_12
  · exact m_wrong_13
theorem o_all (hD : rD C M L n w h s c p) (h0 : cF C s o = 0) : opS d C M L n w h p o (opM o) q := by
  rcases op_15 o with ⟨z1, z2⟩ | rfl | rfl | rfl | rfl | rfl | rfl | rfl | rfl | rfl | rfl | rfl | rfl | rfl | rfl
  · rw [(f_un (C := C) (M := M) (L := L) (s := s) z1).1] at h0
    exact absurd h0 (by decide)
  · exact opS_q hD h0
  · exact opS_Q hD h0
  · exact opS_cm hD h0
  · exact opS_g hD h0
  · exact opS_m hD h0
  · exact opS_l hD h0
  · exact opS_h hD h0
  · exact opS_re hD h0
  · exact opS_c hD h0
  · exact opS_W hD h0
  · exact opS_Ws hD h0
  · exact opS_f hD h0
  · exact opS_fs hD h0
  · exact opS_n hD h0
theorem cF_pos : cF C s o = 0 ∨ 0 < cF C s o := by
  unfold cF
  repeat' split
  all_goals first | exact Or.inl rfl | exact Or.inr (by decide)
theorem tEnd_le {t : Nat → Int32} (hp : p < n) : p + 1 ≤ tEnd t n p ∧ tEnd t n p ≤ n := by
  have h1 := @scan_le pNl t (n - (p + 1)) (p + 1)
  have h2 := @scan_le cTok t (n - (p + 1)) (p + 1)
  unfold tEnd
  repeat' split
  all_goals omega
theorem numV_b {t : Nat → Int32} : ∀ m q (v : Int32), allD t m q = true → 0 ≤ v.toInt → v.toInt * 10 ^ m + (10 ^ m - 1) ≤ 9999 → 0 ≤ (numV t m q v).toInt ∧ (numV t m q v).toInt ≤ 9999
  | 0, q, v, _, h1, h2 => by
    rw [numV]
    simp at h2
    omega
  | m + 1, q, v, ha, h1, h2 => by
    rw [allD, Bool.and_eq_true] at ha
    obtain ⟨hd, ha⟩ := ha
    unfold cDig at hd
    simp only [Bool.and_eq_true, decide_eq_true_eq, Int32.le_iff_toInt_le] at hd
    have e1 : (48 : Int32).toInt = 48 := by decide
    have e2 : (57 : Int32).toInt = 57 := by decide
    have e3 : (10 : Int32).toInt = 10 := by decide
    rw [e1, e2] at hd
    have hP : (1 : Int) ≤ 10 ^ m := Int.pow_pos (n := 10) (m := m) (by decide)
    rw [Int.pow_succ] at h2
    generalize hPP : (10 : Int) ^ m = P at *
    have hv : v.toInt ≤ 9999 := by
      have : v.toInt * 1 ≤ v.toInt * (P * 10) := Int.mul_le_mul_of_nonneg_left (by omega) h1
      omega
    have k1 : (10 * v).toInt = 10 * v.toInt := by rw [i_mul (by rw [e3]; omega) (by rw [e3]; omega), e3]
    have k2 : (10 * v + t q).toInt = 10 * v.toInt + (t q).toInt := by rw [i_add (by rw [k1]; omega) (by rw [k1]; omega), k1]
    have k3 : (10 * v + t q - 48).toInt = 10 * v.toInt + (t q).toInt - 48 := by rw [i_sub (by rw [k2, e1]; omega) (by rw [k2, e1]; omega), k2, e1]
    rw [numV]
    refine numV_b m (q + 1) _ ha (by rw [k3]; omega) ?_
    rw [k3, hPP]
    have : (10 * v.toInt + (t q).toInt - 48) * P ≤ (10 * v.toInt + 9) * P := Int.mul_le_mul_of_nonneg_right (by omega) (by omega)
    have e4 : (10 * v.toInt + 9) * P = v.toInt * (P * 10) + 9 * P := by grind
    omega
theorem numR_ne {t : Nat → Int32} (hh : numOk t p e = true) : ¬ numR t p e = 20000 := by
  unfold numOk at hh
  simp only [Bool.and_eq_true, decide_eq_true_eq] at hh
  obtain ⟨⟨h1, h2⟩, h3⟩ := hh
  have h4 : ((10 : Int) ^ (e - nFrom t p)) ≤ 10000 := by
    generalize e - nFrom t p = m at *
    obtain rfl | rfl | rfl | rfl : m = 1 ∨ m = 2 ∨ m = 3 ∨ m = 4 := by omega
    all_goals decide
  have e0 : (0 : Int32).toInt = 0 := by decide
  have hb := numV_b (e - nFrom t p) (nFrom t p) 0 h3 (by rw [e0]; omega) (by rw [e0]; omega)
  have e2 : (20000 : Int32).toInt = 20000 := by decide
  intro z
  unfold numR at z
  split at z
  · have := congrArg Int32.toInt z
    have e5 : (-numA t p e).toInt = -(numA t p e).toInt := by
      unfold numA
      rw [Int32.toInt_neg]
      exact Int.bmod_eq_of_le (by omega) (by omega)
    rw [e5, e2] at this
    unfold numA at this
    omega
  · have := congrArg Int32.toInt z
    rw [e2] at this
    unfold numA at this
    omega
theorem c_tn_bad (hp : p < e) (he : e ≤ 400) (hk : numOk (C 2) p e = false) : X (d + 2) none 28 (0, [some (.ref 3), some (.ref 1), some (.int (nI p)), some (.int (nI e))], [], (xSH, C, L, xR0)) = some (none, (xSH, xu (xu C 3 10 1) 3 11 (nI p), L, xR0)) := by
  simp (decide := true) only [e_28_0, e_28_1, e_28_2, e_28_3, e_28_6, e_28_9, e_28_10, e_28_11, e_28_12, e_28_15, e_28_16, e_28_17, e_28_20, e_28_22, e_28_25, e_28_26, e_28_29, e_28_30, e_28_33, e_28_34, e_28_35, e_28_36, e_28_39, e_28_40, e_28_41, e_28_42, e_28_45, e_28_46, e_28_47, e_28_50, c_isNumber hp he, c_tell, hk, Option.bind_some, Option.toList_some, Option.toList_none, List.cons_append, List.nil_append, bI_0, if_true, if_false]
theorem c_tn_ok (hp : p < e) (he : e ≤ 400) (hk : numOk (C 2) p e = true) (hc : C 3 7 = nI c) (hc4 : c ≤ 400) : X (d + 2) none 28 (0, [some (.ref 3), some (.ref 1), some (.int (nI p)), some (.int (nI e))], [], (xSH, C, L, xR0)) = some (none, (xSH, xu (if c < 6 then xu C 13 c (numR (C 2) p e) else C) 3 7 (nI (c + 1)), L, xR0)) := by
  by_cases h6 : c < 6
  · have h1 : ¬ (6 : Int32) ≤ nI c := q_nle (a := 6) h6 (by decide)
    have h2 : ¬ (nI c < 0 ∨ 6 ≤ c) := q_in h6 (by decide)
    have hcl : (nI c).toNatClampNeg = c := nI_clamp (by omega)
    simp (decide := true) only [e_28_0, e_28_1, e_28_2, e_28_3, e_28_6, e_28_9, e_28_10, e_28_11, e_28_12, e_28_15, e_28_16, e_28_17, e_28_20, e_28_22, e_28_25, e_28_26, e_28_29, e_28_30, e_28_33, e_28_34, e_28_35, e_28_36, e_28_39, e_28_40, e_28_41, e_28_42, e_28_45, e_28_46, e_28_47, e_28_50, c_isNumber hp he, c_numberIn hp he, hk, hc, h1, h2, hcl, Option.bind_some, Option.toList_some, Option.toList_none, List.cons_append, List.nil_append, bI_0, if_true, if_false, h6, xu_ne, xu_eq, xs_ne, xs_at, ne_eq, reduceIte, if_true, if_false, not_false_eq_true, nI_1]
  · have h1 : (6 : Int32) ≤ nI c := q_le (a := 6) (by omega) (by omega)
    simp (decide := true) only [e_28_0, e_28_1, e_28_2, e_28_3, e_28_6, e_28_9, e_28_10, e_28_11, e_28_12, e_28_15, e_28_16, e_28_17, e_28_20, e_28_22, e_28_25, e_28_26, e_28_29, e_28_30, e_28_33, e_28_34, e_28_35, e_28_36, e_28_39, e_28_40, e_28_41, e_28_42, e_28_45, e_28_46, e_28_47, e_28_50, c_isNumber hp he, hk, hc, h1, Option.bind_some, Option.toList_some, Option.toList_none, List.cons_append, List.nil_append, bI_0, if_true, if_false, h6, nI_1]
end SP
