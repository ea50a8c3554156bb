def rT (C M : Nat → Nat → Int32) (n : Nat) : Prop := C 1 1 = nI n ∧ M 38 1 = nI n ∧ n ≤ 400 ∧ (∀ q, C 2 q = M 39 q) ∧ tOk (C 2) n
def rV (C M : Nat → Nat → Int32) : Prop := C 3 10 = M 38 26 ∧ C 3 11 = M 38 27 ∧ C 3 12 = M 38 28 ∧ C 3 13 = M 38 29 ∧ C 3 14 = M 38 30
def rP (C M : Nat → Nat → Int32) (w h : Nat) : Prop := C 4 1 = nI w ∧ M 38 2 = nI w ∧ C 4 2 = nI h ∧ M 38 3 = nI h ∧ w ≤ 20 ∧ h ≤ 20 ∧ (∀ z, z < 400 → C 5 z = M 40 z)
def clR (cl mc : Nat → Int32) (w h : Nat) : Prop := (∃ cb : Nat → Nat, ∀ q, q < 20 → cl q = nI (cb q) ∧ cb q < 2 ^ 20 ∧ ∀ x, (cb q).testBit x = (decide (q < h) && (decide (x < w) && decide (mc (20 * q + x) = 1)))) ∧ (∀ q, q < 400 → mc q = 0 ∨ mc q = 1)
def rRest (C M : Nat → Nat → Int32) (n w h s : Nat) : Prop := rT C M n ∧ rV C M ∧ rP C M w h ∧ C 3 8 = nI s ∧ s < 7 ∧ clR (C (17 + 3 * s + 2)) (M 41) w h ∧ (0 < h → M 38 31 = 1) ∧ (∃ g, g ≤ 60 ∧ M 38 17 = nI g)
def rS (C M : Nat → Nat → Int32) (L : Nat → Nat → Int64) (s : Nat) : Prop := M 38 11 = nI s ∧ (∀ k, k < 6 → L 42 k = (C (17 + 3 * s + 1) k).toInt64) ∧ C (17 + 3 * s) 2 = M 38 7
def rO1 (C M : Nat → Nat → Int32) (L : Nat → Nat → Int64) (w h i : Nat) : Prop := (∀ k, k < 6 → L 43 (6 * i + k) = (C (17 + 3 * i + 1) k).toInt64) ∧ C (17 + 3 * i) 2 = M 44 i ∧ clR (C (17 + 3 * i + 2)) (fun q => M 45 (400 * i + q)) w h
def rO (C M : Nat → Nat → Int32) (L : Nat → Nat → Int64) (s w h : Nat) : Prop := ∀ i, i < s → rO1 C M L w h i
def rN (C M : Nat → Nat → Int32) (c : Nat) : Prop := C 3 7 = nI c ∧ M 38 25 = nI c ∧ (∀ k, k < c → k < 6 → C 13 k = M 50 k)
def rPe (C M : Nat → Nat → Int32) (L : Nat → Nat → Int64) (e g : Nat) : Prop := C 6 5 = nI e ∧ M 38 16 = nI e ∧ C 6 6 = nI g ∧ M 38 17 = nI g ∧ g ≤ 60 ∧ cEnd C e ≤ 2 * g ∧ edgeR C L e ∧ L 38 20 = (C 6 8).toInt64 ∧ L 38 21 = (C 6 9).toInt64 ∧ L 38 22 = (C 6 10).toInt64 ∧ L 38 23 = (C 6 11).toInt64 ∧ sm (C 6 8) ∧ sm (C 6 9) ∧ sm (C 6 10) ∧ sm (C 6 11)
def rPa (C M : Nat → Nat → Int32) (L : Nat → Nat → Int64) : Prop := C 6 7 = M 38 18 ∧ ((C 6 7 = 0 ∧ C 6 5 = 0 ∧ C 6 6 = 0 ∧ C 6 10 = C 6 8 ∧ C 6 11 = C 6 9 ∧ C 3 9 = 0) ∨ (C 6 7 = 1 ∧ ∃ e g, rPe C M L e g))
def rD (C M : Nat → Nat → Int32) (L : Nat → Nat → Int64) (n w h s c p : Nat) : Prop := rRest C M n w h s ∧ C 3 10 = 0 ∧ rS C M L s ∧ rO C M L s w h ∧ rN C M c ∧ (c ≤ p ∧ p ≤ n) ∧ C 3 9 = M 38 19 ∧ (C 3 9 = 0 ∨ C 3 9 = 1 ∨ C 3 9 = 2) ∧ rPa C M L
theorem f_wIn (p : Int64) : wIn 32767 p = !fOut p := by
  unfold wIn fOut
  have e1 : (-(32767 : Int32)).toInt64 = -32767 := by decide
  have e2 : (32767 : Int32).toInt64 = 32767 := by decide
  rw [e1, e2]
  by_cases h1 : p < -32767
  · have h2 : ¬ -32767 ≤ p := Int64.not_le.mpr h1
    simp [h1, h2]
  · have h2 : -32767 ≤ p := Int64.not_lt.mp h1
    by_cases h3 : 32767 < p
    · have h4 : ¬ p ≤ 32767 := Int64.not_le.mpr h3
      simp [h1, h2, h3, h4]
    · have h4 : p ≤ 32767 := Int64.not_lt.mp h3
      simp [h1, h2, h3, h4]
theorem j_wIn (p : Int64) : wIn 1000000 p = !jOut p := by
  unfold wIn jOut
  have e1 : (-(1000000 : Int32)).toInt64 = -1000000 := by decide
  have e2 : (1000000 : Int32).toInt64 = 1000000 := by decide
  rw [e1, e2]
  by_cases h1 : p < -1000000
  · have h2 : ¬ -1000000 ≤ p := Int64.not_le.mpr h1
    simp [h1, h2]
  · have h2 : -1000000 ≤ p := Int64.not_lt.mp h1
    by_cases h3 : 1000000 < p
    · have h4 : ¬ p ≤ 1000000 := Int64.not_le.mpr h3
      simp [h1, h2, h3, h4]
    · have h4 : p ≤ 1000000 := Int64.not_lt.mp h3
      simp [h1, h2, h3, h4]
section RE
variable {C M : Nat → Nat → Int32} {L : Nat → Nat → Int64} {n w h s c p : Nat}
theorem far_eq (hS : rS C M L s) {x y : Int32} : ptX (cMat C s) x y = mFarX L x y ∧ ptY (cMat C s) x y = mFarY L x y := by
  obtain ⟨-, h1, -⟩ := hS
  unfold ptX ptY mFarX mFarY cMat
  rw [h1 0 (by decide), h1 1 (by decide), h1 2 (by decide), h1 3 (by decide), h1 4 (by decide), h1 5 (by decide)]
  exact ⟨rfl, rfl⟩
theorem pt_eq (hS : rS C M L s) {x y : Int32} : ptOk (cMat C s) x y = !mFar L x y := by
  unfold ptOk mFar
  rw [(far_eq hS).1, (far_eq hS).2, f_wIn, f_wIn, Bool.not_or]
theorem l_cancel (a b : Int64) : a + b - b = a := by grind
theorem l_sub0 (a : Int64) : a - 0 = a := by grind
theorem mx_eq (hS : rS C M L s) (ho : ∀ k, k < 6 → C 13 k = M 50 k) : cMxOk C s = !(jOut (jn (L 42) (M 50) 0) || (jOut (jn (L 42) (M 50) 1) || (jOut (jn (L 42) (M 50) 2) || (jOut (jn (L 42) (M 50) 3) || (jOut (jn (L 42) (M 50) 4) || jOut (jn (L 42) (M 50) 5)))))) := by
  obtain ⟨-, h1, -⟩ := hS
  have g0 : mxX (cMat C s) 0 (C 13 0) (C 13 1) = jn (L 42) (M 50) 0 := by
    unfold mxX ptX cMat jn
    rw [h1 0 (by decide), h1 2 (by decide), ho 0 (by decide), ho 1 (by decide), if_pos (by decide), if_pos rfl, l_cancel]
  have g1 : mxY (cMat C s) 0 (C 13 0) (C 13 1) = jn (L 42) (M 50) 1 := by
    unfold mxY ptY cMat jn
    rw [h1 1 (by decide), h1 3 (by decide), ho 0 (by decide), ho 1 (by decide), if_pos (by decide), if_neg (by decide), if_pos rfl, l_cancel]
  have g2 : mxX (cMat C s) 2 (C 13 2) (C 13 3) = jn (L 42) (M 50) 2 := by
    unfold mxX ptX cMat jn
    rw [h1 0 (by decide), h1 2 (by decide), ho 2 (by decide), ho 3 (by decide), if_pos (by decide), if_neg (by decide), if_neg (by decide), if_pos rfl, l_cancel]
  have g3 : mxY (cMat C s) 2 (C 13 2) (C 13 3) = jn (L 42) (M 50) 3 := by
    unfold mxY ptY cMat jn
    rw [h1 1 (by decide), h1 3 (by decide), ho 2 (by decide), ho 3 (by decide), if_pos (by decide), if_neg (by decide), if_neg (by decide), if_neg (by decide), if_pos rfl, l_cancel]
  have g4 : mxX (cMat C s) 4 (C 13 4) (C 13 5) = jn (L 42) (M 50) 4 := by
    unfold mxX ptX cMat jn
    rw [h1 0 (by decide), h1 2 (by decide), h1 4 (by decide), ho 4 (by decide), ho 5 (by decide), if_neg (by decide), if_neg (by decide), if_neg (by decide), if_neg (by decide), if_neg (by decide), if_pos rfl, l_sub0]
  have g5 : mxY (cMat C s) 4 (C 13 4) (C 13 5) = jn (L 42) (M 50) 5 := by
    unfold mxY ptY cMat jn
    rw [h1 1 (by decide), h1 3 (by decide), h1 5 (by decide), ho 4 (by decide), ho 5 (by decide), if_neg (by decide), if_neg (by decide), if_neg (by decide), if_neg (by decide), if_neg (by decide), if_neg (by decide), l_sub0]
  unfold cMxOk mxOk
  rw [g0, g1, g2, g3, g4, g5, j_wIn, j_wIn, j_wIn, j_wIn, j_wIn, j_wIn]
  cases jOut (jn (L 42) (M 50) 0) <;> cases jOut (jn (L 42) (M 50) 1) <;> cases jOut (jn (L 42) (M 50) 2) <;> cases jOut (jn (L 42) (M 50) 3) <;> cases jOut (jn (L 42) (M 50) 4) <;> cases jOut (jn (L 42) (M 50) 5) <;> rfl
theorem ok_eq (hS : rS C M L s) (o : Int32) (k : Nat) (hk : cNeed o = nI k) (hk6 : k ≤ 6) (ho : ∀ q, q < k → q < 6 → C 13 q = M 50 q) : cOk C s o = !mOut M L (opM o) := by
  by_cases g1 : o = 99
  · subst g1
    obtain rfl : k = 6 := by
      have : nI k = nI 6 := hk.symm.trans (by decide)
      exact (nI_eq (by omega) (by decide)).mp this
    have e : opM 99 = 8 := by decide
    rw [e]
    unfold cOk mOut
    simp (decide := true) only [reduceIte, pt_eq hS, ho 0 (by decide) (by decide), ho 1 (by decide) (by decide), ho 2 (by decide) (by decide), ho 3 (by decide) (by decide), ho 4 (by decide) (by decide), ho 5 (by decide) (by decide)]
    cases mFar L (M 50 0) (M 50 1) <;> cases mFar L (M 50 2) (M 50 3) <;> cases mFar L (M 50 4) (M 50 5) <;> rfl
  · by_cases g2 : o = 103
    · subst g2
      obtain rfl : k = 1 := by
        have : nI k = nI 1 := hk.symm.trans (by decide)
        exact (nI_eq (by omega) (by decide)).mp this
      have e : opM 103 = 3 := by decide
      rw [e]
      unfold cOk mOut
      simp (decide := true) only [reduceIte, ho 0 (by decide) (by decide)]
      by_cases q1 : M 50 0 < 0
      · have q2 : ¬ 0 ≤ M 50 0 := Int32.not_le.mpr q1
        simp [q1, q2]
      · have q2 : 0 ≤ M 50 0 := Int32.not_lt.mp q1
        by_cases q3 : 255 < M 50 0
        · have q4 : ¬ M 50 0 ≤ 255 := Int32.not_le.mpr q3
          simp [q1, q2, q3, q4]
        · have q4 : M 50 0 ≤ 255 := Int32.not_lt.mp q3
          simp [q1, q2, q3, q4]
    · by_cases g3 : o = 108
      · subst g3
        obtain rfl : k = 2 := by
          have : nI k = nI 2 := hk.symm.trans (by decide)
          exact (nI_eq (by omega) (by decide)).mp this
        have e : opM 108 = 5 := by decide
        rw [e]
        unfold cOk mOut
        simp (decide := true) only [reduceIte, pt_eq hS, ho 0 (by decide) (by decide), ho 1 (by decide) (by decide)]
      · by_cases g4 : o = 109
        · subst g4
          obtain rfl : k = 2 := by
            have : nI k = nI 2 := hk.symm.trans (by decide)
            exact (nI_eq (by omega) (by decide)).mp this
          have e : opM 109 = 4 := by decide
          rw [e]
          unfold cOk mOut
          simp (decide := true) only [reduceIte, pt_eq hS, ho 0 (by decide) (by decide), ho 1 (by decide) (by decide)]
        · by_cases g5 : o = 25970
          · subst g5
            obtain rfl : k = 4 := by
              have : nI k = nI 4 := hk.symm.trans (by decide)
              exact (nI_eq (by omega) (by decide)).mp this
            have e : opM 25970 = 7 := by decide
            rw [e]
            unfold cOk mOut
            simp (decide := true) only [reduceIte, pt_eq hS, ho 0 (by decide) (by decide), ho 1 (by decide) (by decide), ho 2 (by decide) (by decide), ho 3 (by decide) (by decide)]
            cases mFar L (M 50 0) (M 50 1) <;> cases mFar L (M 50 0 + M 50 2) (M 50 1) <;> cases mFar L (M 50 0 + M 50 2) (M 50 1 + M 50 3) <;> cases mFar L (M 50 0) (M 50 1 + M 50 3) <;> rfl
          · by_cases g6 : o = 28003
            · subst g6
              obtain rfl : k = 6 := by
                have : nI k = nI 6 := hk.symm.trans (by decide)
                exact (nI_eq (by omega) (by decide)).mp this
              have e : opM 28003 = 2 := by decide
              rw [e]
              unfold cOk mOut
              simp (decide := true) only [reduceIte]
              rw [mx_eq hS (fun q hq => ho q hq hq)]
            · have e : mOut M L (opM o) = false := by
                unfold opM
                repeat' split
                all_goals first | contradiction | (unfold mOut; simp (decide := true) only [reduceIte])
              rw [e]
              unfold cOk
              simp only [g1, g2, g3, g4, g5, g6, if_false, Bool.not_false]
end RE
