theorem l_shr6 (a : Int64) : (a >>> ((6 : Int32).toInt64 &&& 63)).toInt = a.toInt / 64 := by
  have h : ((((6 : Int32).toInt64 &&& 63) : Int64).toBitVec.smod 64).toNat = 6 := by decide
  show (a >>> ((6 : Int32).toInt64 &&& 63)).toBitVec.toInt = _
  rw [Int64.toBitVec_shiftRight]
  show (a.toBitVec.sshiftRight' _).toInt = _
  rw [BitVec.sshiftRight_eq', BitVec.toInt_sshiftRight, h, Int.shiftRight_eq_div_pow]
  rfl
theorem xor_neg (x : Int32) : decide ((x ^^^ 64).toInt < 0) = decide (x.toInt < 0) := by
  show decide ((x ^^^ 64).toBitVec.toInt < 0) = decide (x.toBitVec.toInt < 0)
  rw [← BitVec.msb_eq_toInt, ← BitVec.msb_eq_toInt, Int32.toBitVec_xor, BitVec.msb_xor, show (64 : Int32).toBitVec.msb = false by decide, Bool.xor_false]
theorem t_fdv {x : Int32} (h1 : -100000000 ≤ x.toInt) (h2 : x.toInt ≤ 100000000) : (fdv x 64).toInt = x.toInt / 64 := by
  have e64 : (64 : Int32).toInt = 64 := by decide
  have e1 : (1 : Int32).toInt = 1 := by decide
  have e0 : (0 : Int32).toInt = 0 := by decide
  have hd : (x / 64).toInt = x.toInt.tdiv 64 := by rw [Int32.toInt_div_of_ne_right x 64 (by decide), e64]
  have hx := xor_neg x
  unfold fdv
  by_cases g : x.toInt < 0
  · have g2 : (x ^^^ 64).toInt < 0 := by
      rw [decide_eq_true g] at hx
      exact of_decide_eq_true hx
    have g3 : ¬ 0 ≤ x ^^^ 64 := by rw [Int32.le_iff_toInt_le, e0]; omega
    have t1 : x.toInt.tdiv 64 = -((-x.toInt) / 64) := by
      have : x.toInt = -(-x.toInt) := by omega
      rw [this, Int.neg_tdiv, Int.tdiv_eq_ediv_of_nonneg (by omega)]
      omega
    have hm : (x / 64 * 64).toInt = x.toInt.tdiv 64 * 64 := by
      rw [i_mul, hd, e64] <;> rw [hd, e64, t1] <;> omega
    rw [if_neg g3]
    by_cases q : x / 64 * 64 = x
    · rw [if_pos q, hd]
      have := congrArg Int32.toInt q
      rw [hm, t1] at this
      rw [t1]
      omega
    · rw [if_neg q, i_sub, hd, e1, t1]
      · have : ¬ (x / 64 * 64).toInt = x.toInt := fun z => q (Int32.toInt_inj.mp z)
        rw [hm, t1] at this
        omega
      · rw [hd, e1, t1]; omega
      · rw [hd, e1, t1]; omega
  · have g2 : ¬ (x ^^^ 64).toInt < 0 := by
      rw [decide_eq_false g] at hx
      exact of_decide_eq_false hx
    have g3 : 0 ≤ x ^^^ 64 := by rw [Int32.le_iff_toInt_le, e0]; omega
    rw [if_pos g3, hd, Int.tdiv_eq_ediv_of_nonneg (by omega)]
def cvS (k a b c dd : Int) : Int := a * (4 - k) * (4 - k) * (4 - k) + 3 * b * k * (4 - k) * (4 - k) + 3 * c * k * k * (4 - k) + dd * k * k * k
theorem t_small {a b : Int32} (A B : Nat) (h1 : -(A : Int) ≤ a.toInt) (h2 : a.toInt ≤ A) (h3 : -(B : Int) ≤ b.toInt) (h4 : b.toInt ≤ B) (h : A * B < 2147483648) : (a * b).toInt = a.toInt * b.toInt ∧ -((A * B : Nat) : Int) ≤ (a * b).toInt ∧ (a * b).toInt ≤ ((A * B : Nat) : Int) := by
  have m := mul_bd (a := a.toInt) (b := b.toInt) A B h1 h2 h3 h4
  have e : (a * b).toInt = a.toInt * b.toInt := i_mul (by omega) (by omega)
  exact ⟨e, by rw [e]; exact m.1, by rw [e]; exact m.2⟩
theorem t_smalL {a b : Int64} (A B : Nat) (h1 : -(A : Int) ≤ a.toInt) (h2 : a.toInt ≤ A) (h3 : -(B : Int) ≤ b.toInt) (h4 : b.toInt ≤ B) (h : A * B < 2147483648) : (a * b).toInt = a.toInt * b.toInt ∧ -((A * B : Nat) : Int) ≤ (a * b).toInt ∧ (a * b).toInt ≤ ((A * B : Nat) : Int) := by
  have m := mul_bd (a := a.toInt) (b := b.toInt) A B h1 h2 h3 h4
  have e : (a * b).toInt = a.toInt * b.toInt := l_mul (by omega) (by omega)
  exact ⟨e, by rw [e]; exact m.1, by rw [e]; exact m.2⟩
theorem cv_in {k a b c dd : Int} (hk : k = 1 ∨ k = 2 ∨ k = 3 ∨ k = 4) (ha : -32767 ≤ a ∧ a ≤ 32767) (hb : -32767 ≤ b ∧ b ≤ 32767) (hc : -32767 ≤ c ∧ c ≤ 32767) (hd : -32767 ≤ dd ∧ dd ≤ 32767) : -2097088 ≤ cvS k a b c dd ∧ cvS k a b c dd ≤ 2097088 := by
  unfold cvS
  rcases hk with rfl | rfl | rfl | rfl <;> omega
