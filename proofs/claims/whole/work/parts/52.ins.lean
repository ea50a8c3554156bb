def eOne (C : Nat → Nat → Int32) (L : Nat → Nat → Int64) (k : Nat) : Prop := (L 46 k = (C 7 k).toInt64 ∧ L 47 k = (C 8 k).toInt64 ∧ L 48 k = (C 9 k).toInt64 ∧ L 49 k = (C 10 k).toInt64) ∧ sm (C 7 k) ∧ sm (C 8 k) ∧ sm (C 9 k) ∧ sm (C 10 k)
def edgeR (C : Nat → Nat → Int32) (L : Nat → Nat → Int64) (e : Nat) : Prop := ∀ k, k < e → eOne C L k
def eE (C : Nat → Nat → Int32) (i y : Nat) : Int := 2 * (C 7 i).toInt * ((C 10 i).toInt - (C 8 i).toInt) + ((C 9 i).toInt - (C 7 i).toInt) * (2 * ((y : Int) - (C 8 i).toInt) + 1)
section IE
variable {C : Nat → Nat → Int32} {L : Nat → Nat → Int64} {i x y w : Nat}
theorem t_rise (h8 : sm (C 8 i)) (h10 : sm (C 10 i)) : (aRise C i).toInt = (C 10 i).toInt - (C 8 i).toInt := by
  obtain ⟨a1, a2⟩ := h8
  obtain ⟨b1, b2⟩ := h10
  unfold aRise
  rw [l_sub, i_l, i_l] <;> rw [i_l, i_l] <;> omega
theorem t_shift (h7 : sm (C 7 i)) (h9 : sm (C 9 i)) : (aShift C i).toInt = (C 9 i).toInt - (C 7 i).toInt := by
  obtain ⟨a1, a2⟩ := h7
  obtain ⟨b1, b2⟩ := h9
  unfold aShift
  rw [l_sub, i_l, i_l] <;> rw [i_l, i_l] <;> omega
theorem t_two {a : Int32} (h : -100000 ≤ a.toInt ∧ a.toInt ≤ 100000) : (2 * a).toInt = 2 * a.toInt := by
  have e : (2 : Int32).toInt = 2 := by decide
  rw [i_mul, e] <;> rw [e] <;> omega
theorem t_odd {a : Int32} (h : -100000 ≤ a.toInt ∧ a.toInt ≤ 100000) : (2 * a + 1).toInt = 2 * a.toInt + 1 := by
  have e : (1 : Int32).toInt = 1 := by decide
  rw [i_add, t_two h, e] <;> rw [t_two h, e] <;> omega
theorem t_ex0 (hy : y < 20) (h7 : sm (C 7 i)) (h8 : sm (C 8 i)) (h9 : sm (C 9 i)) (h10 : sm (C 10 i)) : ((2 * C 7 i).toInt64 * aRise C i + aShift C i * (2 * (nI y - C 8 i) + 1).toInt64).toInt = eE C i y ∧ -17200000000 ≤ eE C i y ∧ eE C i y ≤ 17200000000 := by
  have r1 := t_rise h8 h10
  have r2 := t_shift h7 h9
  have ny : (nI y).toInt = (y : Int) := nI_toInt (by omega)
  obtain ⟨a1, a2⟩ := h7
  obtain ⟨b1, b2⟩ := h8
  obtain ⟨c1, c2⟩ := h9
  obtain ⟨d1, d2⟩ := h10
  have r3 : (nI y - C 8 i).toInt = (y : Int) - (C 8 i).toInt := by rw [i_sub, ny] <;> rw [ny] <;> omega
  have r4 : (2 * (nI y - C 8 i) + 1).toInt = 2 * ((y : Int) - (C 8 i).toInt) + 1 := by rw [t_odd (by rw [r3]; omega), r3]
  have r5 : (2 * C 7 i).toInt = 2 * (C 7 i).toInt := t_two (by omega)
  have m1 := mul_bd (a := 2 * (C 7 i).toInt) (b := (C 10 i).toInt - (C 8 i).toInt) 65534 65534 (by omega) (by omega) (by omega) (by omega)
  have m2 := mul_bd (a := (C 9 i).toInt - (C 7 i).toInt) (b := 2 * ((y : Int) - (C 8 i).toInt) + 1) 65534 65600 (by omega) (by omega) (by omega) (by omega)
  have e1 : ((2 * C 7 i).toInt64 * aRise C i).toInt = 2 * (C 7 i).toInt * ((C 10 i).toInt - (C 8 i).toInt) := by
    rw [l_mul, i_l, r5, r1] <;> rw [i_l, r5, r1] <;> omega
  have e2 : (aShift C i * (2 * (nI y - C 8 i) + 1).toInt64).toInt = ((C 9 i).toInt - (C 7 i).toInt) * (2 * ((y : Int) - (C 8 i).toInt) + 1) := by
    rw [l_mul, i_l, r2, r4] <;> rw [i_l, r2, r4] <;> omega
  unfold eE
  refine ⟨?_, by omega, by omega⟩
  rw [l_add, e1, e2] <;> rw [e1, e2] <;> omega
theorem t_aC (hx : x < 20) (hy : y < 20) (h7 : sm (C 7 i)) (h8 : sm (C 8 i)) (h9 : sm (C 9 i)) (h10 : sm (C 10 i)) : (aC (aH C i 1) (aEX C i (nI y) 1) (nI x) = decide ((2 * (x : Int) + 1) * ((C 10 i).toInt - (C 8 i).toInt) < eE C i y)) ∧ (aC (aH C i (-1)) (aEX C i (nI y) (-1)) (nI x) = decide (eE C i y < (2 * (x : Int) + 1) * ((C 10 i).toInt - (C 8 i).toInt))) := by
  have r1 := t_rise h8 h10
  obtain ⟨e0, e1, e2⟩ := t_ex0 hy h7 h8 h9 h10
  have nx : (nI x).toInt = (x : Int) := nI_toInt (by omega)
  obtain ⟨b1, b2⟩ := h8
  obtain ⟨d1, d2⟩ := h10
  have o1 : ((1 : Int32).toInt64).toInt = 1 := by decide
  have o2 : ((-1 : Int32).toInt64).toInt = -1 := by decide
  have rx : (2 * nI x + 1).toInt = 2 * (x : Int) + 1 := by rw [t_odd (by rw [nx]; omega), nx]
  have m1 := mul_bd (a := 2 * (x : Int) + 1) (b := (C 10 i).toInt - (C 8 i).toInt) 41 65534 (by omega) (by omega) (by omega) (by omega)
  have q1 : (aH C i 1).toInt = (C 10 i).toInt - (C 8 i).toInt := by
    unfold aH
    rw [l_mul, o1, r1] <;> (try rw [o1, r1]) <;> omega
  have q2 : (aH C i (-1)).toInt = -((C 10 i).toInt - (C 8 i).toInt) := by
    unfold aH
    rw [l_mul, o2, r1] <;> (try rw [o2, r1]) <;> omega
  have q3 : (aEX C i (nI y) 1).toInt = eE C i y := by
    unfold aEX
    rw [l_mul, o1, e0] <;> (try rw [o1, e0]) <;> omega
  have q4 : (aEX C i (nI y) (-1)).toInt = -eE C i y := by
    unfold aEX
    rw [l_mul, o2, e0] <;> (try rw [o2, e0]) <;> omega
  have m2 : (2 * (x : Int) + 1) * -((C 10 i).toInt - (C 8 i).toInt) = -((2 * (x : Int) + 1) * ((C 10 i).toInt - (C 8 i).toInt)) := Int.mul_neg _ _
  unfold aC
  constructor
  · refine decide_eq_decide.mpr ?_
    rw [Int64.lt_iff_toInt_lt, q3, l_mul, i_l, rx, q1] <;> rw [i_l, rx, q1] <;> omega
  · refine decide_eq_decide.mpr ?_
    rw [Int64.lt_iff_toInt_lt, q4, l_mul, i_l, rx, q2, m2]
    · omega
    · rw [i_l, rx, q2, m2]; omega
    · rw [i_l, rx, q2, m2]; omega
theorem t_stop {h ex : Int64} (hx : x < w) (hm : ∀ a b, a ≤ b → b < w → aC h ex (nI b) = true → aC h ex (nI a) = true) : decide (x < scan (aC h ex) nI w 0) = aC h ex (nI x) := by
  by_cases g : x < scan (aC h ex) nI w 0
  · rw [scan_lo w 0 x (Nat.zero_le _) g]
    simp [g]
  · cases q : aC h ex (nI x)
    · simp [g]
    · have h1 := hm (scan (aC h ex) nI w 0) x (by omega) hx q
      have h2 := scan_hi (p := aC h ex) (t := nI) w 0 (by omega)
      rw [h1] at h2
      cases h2
theorem t_mRt (he : eOne C L i) (hx : x < 20) (hy : y < 20) : (mRt (L 46 i) (L 47 i) (L 48 i) (L 49 i) (nI x) (nI y)).toInt = eE C i y - (2 * (x : Int) + 1) * ((C 10 i).toInt - (C 8 i).toInt) := by
  obtain ⟨⟨l1, l2, l3, l4⟩, ⟨a1, a2⟩, ⟨b1, b2⟩, ⟨c1, c2⟩, ⟨d1, d2⟩⟩ := he
  have nx : (nI x).toInt = (x : Int) := nI_toInt (by omega)
  have ny : (nI y).toInt = (y : Int) := nI_toInt (by omega)
  have o2 : (2 : Int64).toInt = 2 := by decide
  have o1 : (1 : Int64).toInt = 1 := by decide
  have rx : (2 * nI x).toInt = 2 * (x : Int) := by rw [t_two (by rw [nx]; omega), nx]
  have ry : (2 * nI y + 1).toInt = 2 * (y : Int) + 1 := by rw [t_odd (by rw [ny]; omega), ny]
  have m1 := mul_bd (a := 2 * (C 7 i).toInt - 2 * (x : Int) - 1) (b := (C 10 i).toInt - (C 8 i).toInt) 65600 65534 (by omega) (by omega) (by omega) (by omega)
  have m2 := mul_bd (a := (C 9 i).toInt - (C 7 i).toInt) (b := 2 * (y : Int) + 1 - 2 * (C 8 i).toInt) 65534 65600 (by omega) (by omega) (by omega) (by omega)
  have s1 : (2 * (C 7 i).toInt64).toInt = 2 * (C 7 i).toInt := by rw [l_mul, o2, i_l] <;> rw [o2, i_l] <;> omega
  have s2 : (2 * (C 8 i).toInt64).toInt = 2 * (C 8 i).toInt := by rw [l_mul, o2, i_l] <;> rw [o2, i_l] <;> omega
  have s3 : (2 * (C 7 i).toInt64 - (2 * nI x).toInt64).toInt = 2 * (C 7 i).toInt - 2 * (x : Int) := by rw [l_sub, s1, i_l, rx] <;> rw [s1, i_l, rx] <;> omega
  have s4 : (2 * (C 7 i).toInt64 - (2 * nI x).toInt64 - 1).toInt = 2 * (C 7 i).toInt - 2 * (x : Int) - 1 := by rw [l_sub, s3, o1] <;> rw [s3, o1] <;> omega
  have s5 : ((C 10 i).toInt64 - (C 8 i).toInt64).toInt = (C 10 i).toInt - (C 8 i).toInt := by rw [l_sub, i_l, i_l] <;> rw [i_l, i_l] <;> omega
  have s6 : ((C 9 i).toInt64 - (C 7 i).toInt64).toInt = (C 9 i).toInt - (C 7 i).toInt := by rw [l_sub, i_l, i_l] <;> rw [i_l, i_l] <;> omega
  have s7 : ((2 * nI y + 1).toInt64 - 2 * (C 8 i).toInt64).toInt = 2 * (y : Int) + 1 - 2 * (C 8 i).toInt := by rw [l_sub, i_l, ry, s2] <;> rw [i_l, ry, s2] <;> omega
  unfold mRt eE
  rw [l1, l2, l3, l4, ← ring1]
  have t1 : ((2 * (C 7 i).toInt64 - (2 * nI x).toInt64 - 1) * ((C 10 i).toInt64 - (C 8 i).toInt64)).toInt = (2 * (C 7 i).toInt - 2 * (x : Int) - 1) * ((C 10 i).toInt - (C 8 i).toInt) := by rw [l_mul, s4, s5] <;> rw [s4, s5] <;> omega
  have t2 : (((C 9 i).toInt64 - (C 7 i).toInt64) * ((2 * nI y + 1).toInt64 - 2 * (C 8 i).toInt64)).toInt = ((C 9 i).toInt - (C 7 i).toInt) * (2 * (y : Int) + 1 - 2 * (C 8 i).toInt) := by rw [l_mul, s6, s7] <;> rw [s6, s7] <;> omega
  rw [l_add, t1, t2] <;> rw [t1, t2] <;> omega
theorem t_con (he : eOne C L i) (hx : x < w) (hw : w ≤ 20) (hy : y < 20) : cCon C w (nI y) i x = (if mU L (nI x) (nI y) i = true then 1 else if mD L (nI x) (nI y) i = true then -1 else 0) ∧ ¬ (mU L (nI x) (nI y) i = true ∧ mD L (nI x) (nI y) i = true) := by
  have hr := t_mRt he (show x < 20 by omega) hy
  obtain ⟨⟨l1, l2, l3, l4⟩, h7, h8, h9, h10⟩ := he
  have ny : (nI y).toInt = (y : Int) := nI_toInt (by omega)
  have z0 : (0 : Int64).toInt = 0 := by decide
  have a1 : aStop C i w (nI y) 1 = scan (aC (aH C i 1) (aEX C i (nI y) 1)) nI w 0 := rfl
  have a2 : aStop C i w (nI y) (-1) = scan (aC (aH C i (-1)) (aEX C i (nI y) (-1))) nI w 0 := rfl
  have tx := t_aC (C := C) (i := i) (show x < 20 by omega) hy h7 h8 h9 h10
  have sp : mSpan (L 47 i) (L 49 i) (nI y) = (decide ((C 8 i).toInt ≤ (y : Int) ∧ (y : Int) < (C 10 i).toInt) || decide ((C 10 i).toInt ≤ (y : Int) ∧ (y : Int) < (C 8 i).toInt)) := by
    unfold mSpan
    rw [l2, l4]
    by_cases g : (C 10 i).toInt64 ≤ (C 8 i).toInt64
    · rw [if_pos g, if_pos g]
      have g' : (C 10 i).toInt ≤ (C 8 i).toInt := by
        have := Int64.le_iff_toInt_le.mp g
        rwa [i_l, i_l] at this
      have e1 : (decide ((nI y).toInt64 < (C 10 i).toInt64)) = decide ((y : Int) < (C 10 i).toInt) := decide_eq_decide.mpr (by rw [Int64.lt_iff_toInt_lt, i_l, i_l, ny])
      have e2 : (decide ((nI y).toInt64 < (C 8 i).toInt64)) = decide ((y : Int) < (C 8 i).toInt) := decide_eq_decide.mpr (by rw [Int64.lt_iff_toInt_lt, i_l, i_l, ny])
      rw [e1, e2]
      by_cases q1 : (y : Int) < (C 10 i).toInt
      · have q2 : ¬ ((C 8 i).toInt ≤ (y : Int) ∧ (y : Int) < (C 10 i).toInt) := by omega
        have q3 : ¬ ((C 10 i).toInt ≤ (y : Int) ∧ (y : Int) < (C 8 i).toInt) := by omega
        rw [decide_eq_true q1, decide_eq_false q2, decide_eq_false q3]
        rfl
      · have q2 : ¬ ((C 8 i).toInt ≤ (y : Int) ∧ (y : Int) < (C 10 i).toInt) := by omega
        have q3 : ((C 10 i).toInt ≤ (y : Int) ∧ (y : Int) < (C 8 i).toInt) ↔ (y : Int) < (C 8 i).toInt := by omega
        rw [decide_eq_false q1, decide_eq_false q2, decide_eq_decide.mpr q3]
        rfl
    · rw [if_neg g, if_neg g]
      have g' : (C 8 i).toInt < (C 10 i).toInt := by
        have := Int64.lt_iff_toInt_lt.mp (Int64.not_le.mp g)
        rwa [i_l, i_l] at this
      have e1 : (decide ((nI y).toInt64 < (C 10 i).toInt64)) = decide ((y : Int) < (C 10 i).toInt) := decide_eq_decide.mpr (by rw [Int64.lt_iff_toInt_lt, i_l, i_l, ny])
      have e2 : (decide ((nI y).toInt64 < (C 8 i).toInt64)) = decide ((y : Int) < (C 8 i).toInt) := decide_eq_decide.mpr (by rw [Int64.lt_iff_toInt_lt, i_l, i_l, ny])
      rw [e1, e2]
      by_cases q1 : (y : Int) < (C 8 i).toInt
      · have q2 : ¬ ((C 8 i).toInt ≤ (y : Int) ∧ (y : Int) < (C 10 i).toInt) := by omega
        have q3 : ¬ ((C 10 i).toInt ≤ (y : Int) ∧ (y : Int) < (C 8 i).toInt) := by omega
        rw [decide_eq_true q1, decide_eq_false q2, decide_eq_false q3]
        rfl
      · have q2 : ((C 8 i).toInt ≤ (y : Int) ∧ (y : Int) < (C 10 i).toInt) ↔ (y : Int) < (C 10 i).toInt := by omega
        have q3 : ¬ ((C 10 i).toInt ≤ (y : Int) ∧ (y : Int) < (C 8 i).toInt) := by omega
        rw [decide_eq_false q1, decide_eq_false q3, decide_eq_decide.mpr q2, Bool.or_false]
        rfl
  have u1 : decide (L 47 i < L 49 i) = decide ((C 8 i).toInt < (C 10 i).toInt) := decide_eq_decide.mpr (by rw [l2, l4, Int64.lt_iff_toInt_lt, i_l, i_l])
  have u2 : decide (L 49 i < L 47 i) = decide ((C 10 i).toInt < (C 8 i).toInt) := decide_eq_decide.mpr (by rw [l2, l4, Int64.lt_iff_toInt_lt, i_l, i_l])
  have u3 : decide (0 < mRt (L 46 i) (L 47 i) (L 48 i) (L 49 i) (nI x) (nI y)) = decide ((2 * (x : Int) + 1) * ((C 10 i).toInt - (C 8 i).toInt) < eE C i y) := decide_eq_decide.mpr (by rw [Int64.lt_iff_toInt_lt, hr, z0]; omega)
  have u4 : decide (mRt (L 46 i) (L 47 i) (L 48 i) (L 49 i) (nI x) (nI y) < 0) = decide (eE C i y < (2 * (x : Int) + 1) * ((C 10 i).toInt - (C 8 i).toInt)) := decide_eq_decide.mpr (by rw [Int64.lt_iff_toInt_lt, hr, z0]; omega)
  have c1 : cUpS C (nI y) i = decide ((C 8 i).toInt ≤ (y : Int) ∧ (y : Int) < (C 10 i).toInt) := by
    unfold cUpS
    rw [Bool.decide_and]
    congr 1
    · exact decide_eq_decide.mpr (by rw [Int32.le_iff_toInt_le, ny])
    · exact decide_eq_decide.mpr (by rw [Int32.lt_iff_toInt_lt, ny])
  have c2 : cDnS C (nI y) i = decide ((C 10 i).toInt ≤ (y : Int) ∧ (y : Int) < (C 8 i).toInt) := by
    unfold cDnS
    rw [Bool.decide_and]
    congr 1
    · exact decide_eq_decide.mpr (by rw [Int32.le_iff_toInt_le, ny])
    · exact decide_eq_decide.mpr (by rw [Int32.lt_iff_toInt_lt, ny])
  unfold cCon mU mD mUp mDn
  rw [sp, u1, u2, u3, u4, c1, c2]
  by_cases up : (C 8 i).toInt ≤ (y : Int) ∧ (y : Int) < (C 10 i).toInt
  · have p1 : (C 8 i).toInt < (C 10 i).toInt := by omega
    have p2 : ¬ (C 10 i).toInt < (C 8 i).toInt := by omega
    have st := t_stop (h := aH C i 1) (ex := aEX C i (nI y) 1) hx (fun a b hab hb q => by
      rw [(t_aC (C := C) (i := i) (show b < 20 by omega) hy h7 h8 h9 h10).1] at q
      rw [(t_aC (C := C) (i := i) (show a < 20 by omega) hy h7 h8 h9 h10).1]
      have q := of_decide_eq_true q
      have q2 := Int.mul_le_mul_of_nonneg_right (show 2 * (a : Int) + 1 ≤ 2 * (b : Int) + 1 by omega) (show 0 ≤ (C 10 i).toInt - (C 8 i).toInt by omega)
      exact decide_eq_true (by omega))
    rw [tx.1] at st
    rw [a1]
    have st' : (x < scan (aC (aH C i 1) (aEX C i (nI y) 1)) nI w 0) = ((2 * (x : Int) + 1) * ((C 10 i).toInt - (C 8 i).toInt) < eE C i y) := propext (decide_eq_decide.mp st)
    simp only [up, p1, p2, st', decide_true, decide_false, Bool.true_or, Bool.true_and, Bool.false_and, if_true, Bool.and_false, Bool.false_eq_true, if_false, and_false, not_false_eq_true, and_true, decide_eq_true_eq, and_self]
  · by_cases dn : (C 10 i).toInt ≤ (y : Int) ∧ (y : Int) < (C 8 i).toInt
    · have p1 : ¬ (C 8 i).toInt < (C 10 i).toInt := by omega
      have p2 : (C 10 i).toInt < (C 8 i).toInt := by omega
      have st := t_stop (h := aH C i (-1)) (ex := aEX C i (nI y) (-1)) hx (fun a b hab hb q => by
        rw [(t_aC (C := C) (i := i) (show b < 20 by omega) hy h7 h8 h9 h10).2] at q
        rw [(t_aC (C := C) (i := i) (show a < 20 by omega) hy h7 h8 h9 h10).2]
        have q := of_decide_eq_true q
        have q2 := Int.mul_le_mul_of_nonneg_right (show 2 * (a : Int) + 1 ≤ 2 * (b : Int) + 1 by omega) (show 0 ≤ -((C 10 i).toInt - (C 8 i).toInt) by omega)
        rw [Int.mul_neg, Int.mul_neg] at q2
        exact decide_eq_true (by omega))
      rw [tx.2] at st
      rw [a2]
      have st' : (x < scan (aC (aH C i (-1)) (aEX C i (nI y) (-1))) nI w 0) = (eE C i y < (2 * (x : Int) + 1) * ((C 10 i).toInt - (C 8 i).toInt)) := propext (decide_eq_decide.mp st)
      simp only [up, dn, p1, p2, st', decide_true, decide_false, Bool.false_or, Bool.true_and, Bool.false_and, if_true, Bool.and_false, Bool.false_eq_true, if_false, false_and, not_false_eq_true, and_true, decide_eq_true_eq, and_self]
    · simp only [up, dn, decide_false, Bool.or_false, Bool.false_and, Bool.false_eq_true, if_false, false_and, not_false_eq_true, and_self]
end IE
