theorem cv_C {K st : Int32} {p : Nat → Int32} {k : Int} (hK : K.toInt = k) (hk : k = 1 ∨ k = 2 ∨ k = 3 ∨ k = 4) (h0 : sm st) (h1 : sm (p 0)) (h2 : sm (p 1)) (h3 : sm (p 2)) : (cvC K st p).toInt = (cvS k st.toInt (p 0).toInt (p 1).toInt (p 2).toInt + 32) / 64 := by
  obtain ⟨a1, a2⟩ := h0
  obtain ⟨b1, b2⟩ := h1
  obtain ⟨c1, c2⟩ := h2
  obtain ⟨d1, d2⟩ := h3
  have e3 : (3 : Int32).toInt = 3 := by decide
  have e4 : (4 : Int32).toInt = 4 := by decide
  have e32 : (32 : Int32).toInt = 32 := by decide
  have kb : 1 ≤ k ∧ k ≤ 4 := by omega
  have hR : (4 - K).toInt = 4 - k := by rw [i_sub, e4, hK] <;> rw [e4, hK] <;> omega
  obtain ⟨p1, p2, p3⟩ := t_small (a := st) (b := 4 - K) 32767 3 (by omega) (by omega) (by rw [hR]; omega) (by rw [hR]; omega) (by decide)
  obtain ⟨p4, p5, p6⟩ := t_small (a := st * (4 - K)) (b := 4 - K) 98301 3 (by omega) (by omega) (by rw [hR]; omega) (by rw [hR]; omega) (by decide)
  obtain ⟨p7, p8, p9⟩ := t_small (a := st * (4 - K) * (4 - K)) (b := 4 - K) 294903 3 (by omega) (by omega) (by rw [hR]; omega) (by rw [hR]; omega) (by decide)
  obtain ⟨q1, q2, q3⟩ := t_small (a := 3) (b := p 0) 3 32767 (by rw [e3]; omega) (by rw [e3]; omega) (by omega) (by omega) (by decide)
  obtain ⟨q4, q5, q6⟩ := t_small (a := 3 * p 0) (b := K) 98301 4 (by omega) (by omega) (by rw [hK]; omega) (by rw [hK]; omega) (by decide)
  obtain ⟨q7, q8, q9⟩ := t_small (a := 3 * p 0 * K) (b := 4 - K) 393204 3 (by omega) (by omega) (by rw [hR]; omega) (by rw [hR]; omega) (by decide)
  obtain ⟨r1, r2, r3⟩ := t_small (a := 3 * p 0 * K * (4 - K)) (b := 4 - K) 1179612 3 (by omega) (by omega) (by rw [hR]; omega) (by rw [hR]; omega) (by decide)
  obtain ⟨s1, s2, s3⟩ := t_small (a := 3) (b := p 1) 3 32767 (by rw [e3]; omega) (by rw [e3]; omega) (by omega) (by omega) (by decide)
  obtain ⟨s4, s5, s6⟩ := t_small (a := 3 * p 1) (b := K) 98301 4 (by omega) (by omega) (by rw [hK]; omega) (by rw [hK]; omega) (by decide)
  obtain ⟨s7, s8, s9⟩ := t_small (a := 3 * p 1 * K) (b := K) 393204 4 (by omega) (by omega) (by rw [hK]; omega) (by rw [hK]; omega) (by decide)
  obtain ⟨t1, t2, t3⟩ := t_small (a := 3 * p 1 * K * K) (b := 4 - K) 1572816 3 (by omega) (by omega) (by rw [hR]; omega) (by rw [hR]; omega) (by decide)
  obtain ⟨u1, u2, u3⟩ := t_small (a := p 2) (b := K) 32767 4 (by omega) (by omega) (by rw [hK]; omega) (by rw [hK]; omega) (by decide)
  obtain ⟨u4, u5, u6⟩ := t_small (a := p 2 * K) (b := K) 131068 4 (by omega) (by omega) (by rw [hK]; omega) (by rw [hK]; omega) (by decide)
  obtain ⟨u7, u8, u9⟩ := t_small (a := p 2 * K * K) (b := K) 524272 4 (by omega) (by omega) (by rw [hK]; omega) (by rw [hK]; omega) (by decide)
  have v1 : (st * (4 - K) * (4 - K) * (4 - K) + 3 * p 0 * K * (4 - K) * (4 - K)).toInt = (st * (4 - K) * (4 - K) * (4 - K)).toInt + (3 * p 0 * K * (4 - K) * (4 - K)).toInt := i_add (by omega) (by omega)
  have v2 : (st * (4 - K) * (4 - K) * (4 - K) + 3 * p 0 * K * (4 - K) * (4 - K) + 3 * p 1 * K * K * (4 - K)).toInt = (st * (4 - K) * (4 - K) * (4 - K)).toInt + (3 * p 0 * K * (4 - K) * (4 - K)).toInt + (3 * p 1 * K * K * (4 - K)).toInt := by rw [i_add, v1] <;> rw [v1] <;> omega
  have v3 : (st * (4 - K) * (4 - K) * (4 - K) + 3 * p 0 * K * (4 - K) * (4 - K) + 3 * p 1 * K * K * (4 - K) + p 2 * K * K * K).toInt = (st * (4 - K) * (4 - K) * (4 - K)).toInt + (3 * p 0 * K * (4 - K) * (4 - K)).toInt + (3 * p 1 * K * K * (4 - K)).toInt + (p 2 * K * K * K).toInt := by rw [i_add, v2] <;> rw [v2] <;> omega
  have eS : (st * (4 - K) * (4 - K) * (4 - K)).toInt + (3 * p 0 * K * (4 - K) * (4 - K)).toInt + (3 * p 1 * K * K * (4 - K)).toInt + (p 2 * K * K * K).toInt = cvS k st.toInt (p 0).toInt (p 1).toInt (p 2).toInt := by
    rw [p7, p4, p1, r1, q7, q4, q1, t1, s7, s4, s1, u7, u4, u1, hR, hK, e3]
    rfl
  have v4 : (st * (4 - K) * (4 - K) * (4 - K) + 3 * p 0 * K * (4 - K) * (4 - K) + 3 * p 1 * K * K * (4 - K) + p 2 * K * K * K + 32).toInt = cvS k st.toInt (p 0).toInt (p 1).toInt (p 2).toInt + 32 := by rw [i_add, v3, eS, e32] <;> rw [v3, e32] <;> omega
  have bd := cv_in (a := st.toInt) (b := (p 0).toInt) (c := (p 1).toInt) (dd := (p 2).toInt) hk ⟨a1, a2⟩ ⟨b1, b2⟩ ⟨c1, c2⟩ ⟨d1, d2⟩
  unfold cvC
  rw [t_fdv (by rw [v4]; omega) (by rw [v4]; omega), v4]
theorem cv_L {K x0 x1 x2 x3 : Int64} {k : Int} (hK : K.toInt = k) (hk : k = 1 ∨ k = 2 ∨ k = 3 ∨ k = 4) (h0 : -32767 ≤ x0.toInt ∧ x0.toInt ≤ 32767) (h1 : -32767 ≤ x1.toInt ∧ x1.toInt ≤ 32767) (h2 : -32767 ≤ x2.toInt ∧ x2.toInt ≤ 32767) (h3 : -32767 ≤ x3.toInt ∧ x3.toInt ≤ 32767) : (alg x0 x1 x2 x3 K).toInt = (cvS k x0.toInt x1.toInt x2.toInt x3.toInt + 32) / 64 := by
  obtain ⟨a1, a2⟩ := h0
  obtain ⟨b1, b2⟩ := h1
  obtain ⟨c1, c2⟩ := h2
  obtain ⟨d1, d2⟩ := h3
  have e3 : (3 : Int64).toInt = 3 := by decide
  have e4 : (4 : Int64).toInt = 4 := by decide
  have e32 : (32 : Int64).toInt = 32 := by decide
  have kb : 1 ≤ k ∧ k ≤ 4 := by omega
  have hR : (4 - K).toInt = 4 - k := by rw [l_sub, e4, hK] <;> rw [e4, hK] <;> omega
  obtain ⟨p1, p2, p3⟩ := t_smalL (a := x0) (b := 4 - K) 32767 3 (by omega) (by omega) (by rw [hR]; omega) (by rw [hR]; omega) (by decide)
  obtain ⟨p4, p5, p6⟩ := t_smalL (a := x0 * (4 - K)) (b := 4 - K) 98301 3 (by omega) (by omega) (by rw [hR]; omega) (by rw [hR]; omega) (by decide)
  obtain ⟨p7, p8, p9⟩ := t_smalL (a := x0 * (4 - K) * (4 - K)) (b := 4 - K) 294903 3 (by omega) (by omega) (by rw [hR]; omega) (by rw [hR]; omega) (by decide)
  obtain ⟨q1, q2, q3⟩ := t_smalL (a := 3) (b := x1) 3 32767 (by rw [e3]; omega) (by rw [e3]; omega) (by omega) (by omega) (by decide)
  obtain ⟨q4, q5, q6⟩ := t_smalL (a := 3 * x1) (b := K) 98301 4 (by omega) (by omega) (by rw [hK]; omega) (by rw [hK]; omega) (by decide)
  obtain ⟨q7, q8, q9⟩ := t_smalL (a := 3 * x1 * K) (b := 4 - K) 393204 3 (by omega) (by omega) (by rw [hR]; omega) (by rw [hR]; omega) (by decide)
  obtain ⟨r1, r2, r3⟩ := t_smalL (a := 3 * x1 * K * (4 - K)) (b := 4 - K) 1179612 3 (by omega) (by omega) (by rw [hR]; omega) (by rw [hR]; omega) (by decide)
  obtain ⟨s1, s2, s3⟩ := t_smalL (a := 3) (b := x2) 3 32767 (by rw [e3]; omega) (by rw [e3]; omega) (by omega) (by omega) (by decide)
  obtain ⟨s4, s5, s6⟩ := t_smalL (a := 3 * x2) (b := K) 98301 4 (by omega) (by omega) (by rw [hK]; omega) (by rw [hK]; omega) (by decide)
  obtain ⟨s7, s8, s9⟩ := t_smalL (a := 3 * x2 * K) (b := K) 393204 4 (by omega) (by omega) (by rw [hK]; omega) (by rw [hK]; omega) (by decide)
  obtain ⟨t1, t2, t3⟩ := t_smalL (a := 3 * x2 * K * K) (b := 4 - K) 1572816 3 (by omega) (by omega) (by rw [hR]; omega) (by rw [hR]; omega) (by decide)
  obtain ⟨u1, u2, u3⟩ := t_smalL (a := x3) (b := K) 32767 4 (by omega) (by omega) (by rw [hK]; omega) (by rw [hK]; omega) (by decide)
  obtain ⟨u4, u5, u6⟩ := t_smalL (a := x3 * K) (b := K) 131068 4 (by omega) (by omega) (by rw [hK]; omega) (by rw [hK]; omega) (by decide)
  obtain ⟨u7, u8, u9⟩ := t_smalL (a := x3 * K * K) (b := K) 524272 4 (by omega) (by omega) (by rw [hK]; omega) (by rw [hK]; omega) (by decide)
  have v1 : (x0 * (4 - K) * (4 - K) * (4 - K) + 3 * x1 * K * (4 - K) * (4 - K)).toInt = (x0 * (4 - K) * (4 - K) * (4 - K)).toInt + (3 * x1 * K * (4 - K) * (4 - K)).toInt := l_add (by omega) (by omega)
  have v2 : (x0 * (4 - K) * (4 - K) * (4 - K) + 3 * x1 * K * (4 - K) * (4 - K) + 3 * x2 * K * K * (4 - K)).toInt = (x0 * (4 - K) * (4 - K) * (4 - K)).toInt + (3 * x1 * K * (4 - K) * (4 - K)).toInt + (3 * x2 * K * K * (4 - K)).toInt := by rw [l_add, v1] <;> rw [v1] <;> omega
  have v3 : (x0 * (4 - K) * (4 - K) * (4 - K) + 3 * x1 * K * (4 - K) * (4 - K) + 3 * x2 * K * K * (4 - K) + x3 * K * K * K).toInt = (x0 * (4 - K) * (4 - K) * (4 - K)).toInt + (3 * x1 * K * (4 - K) * (4 - K)).toInt + (3 * x2 * K * K * (4 - K)).toInt + (x3 * K * K * K).toInt := by rw [l_add, v2] <;> rw [v2] <;> omega
  have eS : (x0 * (4 - K) * (4 - K) * (4 - K)).toInt + (3 * x1 * K * (4 - K) * (4 - K)).toInt + (3 * x2 * K * K * (4 - K)).toInt + (x3 * K * K * K).toInt = cvS k x0.toInt x1.toInt x2.toInt x3.toInt := by
    rw [p7, p4, p1, r1, q7, q4, q1, t1, s7, s4, s1, u7, u4, u1, hR, hK, e3]
    rfl
  have v4 : (x0 * (4 - K) * (4 - K) * (4 - K) + 3 * x1 * K * (4 - K) * (4 - K) + 3 * x2 * K * K * (4 - K) + x3 * K * K * K + 32).toInt = cvS k x0.toInt x1.toInt x2.toInt x3.toInt + 32 := by rw [l_add, v3, eS, e32] <;> rw [v3, e32] <;> omega
  unfold alg
  rw [l_shr6, v4]
theorem cv_eq {K st : Int32} {p : Nat → Int32} {K' : Int64} {k : Int} (hK : K.toInt = k) (hK' : K'.toInt = k) (hk : k = 1 ∨ k = 2 ∨ k = 3 ∨ k = 4) (h0 : sm st) (h1 : sm (p 0)) (h2 : sm (p 1)) (h3 : sm (p 2)) : (cvC K st p).toInt64 = alg st.toInt64 (p 0).toInt64 (p 1).toInt64 (p 2).toInt64 K' ∧ sm (cvC K st p) := by
  have e1 := cv_C hK hk h0 h1 h2 h3
  have e2 := cv_L (x0 := st.toInt64) (x1 := (p 0).toInt64) (x2 := (p 1).toInt64) (x3 := (p 2).toInt64) hK' hk (by rw [i_l]; exact h0) (by rw [i_l]; exact h1) (by rw [i_l]; exact h2) (by rw [i_l]; exact h3)
  have bd := cv_in (a := st.toInt) (b := (p 0).toInt) (c := (p 1).toInt) (dd := (p 2).toInt) hk h0 h1 h2 h3
  refine ⟨?_, ?_, ?_⟩
  · apply Int64.toInt_inj.mp
    rw [i_l, e1, e2, i_l, i_l, i_l, i_l]
  · rw [e1]; omega
  · rw [e1]; omega
