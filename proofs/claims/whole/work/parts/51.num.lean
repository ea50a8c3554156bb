theorem mul_bd {a b : Int} (A B : Nat) (ha : -(A : Int) ≤ a) (ha' : a ≤ A) (hb : -(B : Int) ≤ b) (hb' : b ≤ B) : -((A * B : Nat) : Int) ≤ a * b ∧ a * b ≤ ((A * B : Nat) : Int) := by
  have h1 : a.natAbs ≤ A := by omega
  have h2 : b.natAbs ≤ B := by omega
  have h3 : (a * b).natAbs ≤ A * B := by rw [Int.natAbs_mul]; exact Nat.mul_le_mul h1 h2
  omega
theorem l_add {a b : Int64} (h1 : -9223372036854775808 ≤ a.toInt + b.toInt) (h2 : a.toInt + b.toInt < 9223372036854775808) : (a + b).toInt = a.toInt + b.toInt := by
  rw [Int64.toInt_add]
  exact Int.bmod_eq_of_le (by omega) (by omega)
theorem l_sub {a b : Int64} (h1 : -9223372036854775808 ≤ a.toInt - b.toInt) (h2 : a.toInt - b.toInt < 9223372036854775808) : (a - b).toInt = a.toInt - b.toInt := by
  rw [Int64.toInt_sub]
  exact Int.bmod_eq_of_le (by omega) (by omega)
theorem l_mul {a b : Int64} (h1 : -9223372036854775808 ≤ a.toInt * b.toInt) (h2 : a.toInt * b.toInt < 9223372036854775808) : (a * b).toInt = a.toInt * b.toInt := by
  rw [Int64.toInt_mul]
  exact Int.bmod_eq_of_le (by omega) (by omega)
theorem i_add {a b : Int32} (h1 : -2147483648 ≤ a.toInt + b.toInt) (h2 : a.toInt + b.toInt < 2147483648) : (a + b).toInt = a.toInt + b.toInt := by
  rw [Int32.toInt_add]
  exact Int.bmod_eq_of_le (by omega) (by omega)
theorem i_sub {a b : Int32} (h1 : -2147483648 ≤ a.toInt - b.toInt) (h2 : a.toInt - b.toInt < 2147483648) : (a - b).toInt = a.toInt - b.toInt := by
  rw [Int32.toInt_sub]
  exact Int.bmod_eq_of_le (by omega) (by omega)
theorem i_mul {a b : Int32} (h1 : -2147483648 ≤ a.toInt * b.toInt) (h2 : a.toInt * b.toInt < 2147483648) : (a * b).toInt = a.toInt * b.toInt := by
  rw [Int32.toInt_mul]
  exact Int.bmod_eq_of_le (by omega) (by omega)
theorem i_l (a : Int32) : a.toInt64.toInt = a.toInt := Int32.toInt_toInt64 a
theorem scan_lo {p : Int32 → Bool} {t : Nat → Int32} : ∀ m q x, q ≤ x → x < scan p t m q → p (t x) = true
  | 0, q, x, h1, h2 => by rw [scan] at h2; omega
  | m + 1, q, x, h1, h2 => by
    rw [scan] at h2
    split at h2
    · next h =>
      by_cases hx : x = q
      · subst hx; exact h
      · exact scan_lo m (q + 1) x (by omega) h2
    · omega
theorem scan_hi {p : Int32 → Bool} {t : Nat → Int32} : ∀ m q, scan p t m q < q + m → p (t (scan p t m q)) = false
  | 0, q, h => by rw [scan] at h; omega
  | m + 1, q, h => by
    rw [scan] at h ⊢
    split
    · next hp =>
      rw [if_pos hp] at h
      exact scan_hi m (q + 1) (by omega)
    · next hp => simpa using hp
def sm (x : Int32) : Prop := -32767 ≤ x.toInt ∧ x.toInt ≤ 32767
theorem ring1 (fx fy tx ty X Y : Int) : (2 * fx - 2 * X - 1) * (ty - fy) + (tx - fx) * (2 * Y + 1 - 2 * fy) = (2 * fx * (ty - fy) + (tx - fx) * (2 * (Y - fy) + 1)) - (2 * X + 1) * (ty - fy) := by grind
