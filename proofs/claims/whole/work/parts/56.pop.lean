theorem b_land {q r q' r' : Nat} (h : r < 256) (h' : r' < 256) : (256 * q + r) &&& (256 * q' + r') = 256 * (q &&& q') + (r &&& r') := by
  apply Nat.eq_of_testBit_eq
  intro i
  have h1 : r < 2 ^ 8 := h
  have h2 : r' < 2 ^ 8 := h'
  have h3 : r &&& r' < 2 ^ 8 := Nat.and_lt_two_pow _ h2
  rw [Nat.testBit_and, show (256 : Nat) = 2 ^ 8 from rfl, Nat.testBit_two_pow_mul_add _ h1, Nat.testBit_two_pow_mul_add _ h2, Nat.testBit_two_pow_mul_add _ h3]
  split <;> simp [Nat.testBit_and]
def b_s1 (n : Nat) : Nat := n - (n / 2 &&& 85)
def b_s2 (n : Nat) : Nat := (n &&& 51) + (n / 4 &&& 51)
def b_s3 (n : Nat) : Nat := (n + n / 16) &&& 15
theorem b_t1 : ∀ n, n < 256 → (n / 2 &&& 85) ≤ n ∧ (n / 2 + 128) &&& 85 = n / 2 &&& 85 := by decide +kernel
theorem b_t2 : ∀ n, n < 256 → (n / 4 + 64) &&& 51 = n / 4 &&& 51 ∧ (n / 4 + 128) &&& 51 = n / 4 &&& 51 ∧ (n / 4 + 192) &&& 51 = n / 4 &&& 51 ∧ (n &&& 51) ≤ 51 ∧ (n / 4 &&& 51) ≤ 51 := by decide +kernel
theorem b_t3 : ∀ n, n < 256 → b_s2 (b_s1 n) ≤ 68 ∧ b_s3 (b_s2 (b_s1 n)) = cnt (fun x => n.testBit x) 8 ∧ b_s2 (b_s1 n) % 16 ≤ 4 := by decide +kernel
theorem b_t4 {c r : Nat} : (c + c / 16 + 16 * r) &&& 15 = b_s3 c := by
  unfold b_s3
  rw [show (15 : Nat) = 2 ^ 4 - 1 from rfl, Nat.and_two_pow_sub_one_eq_mod, Nat.and_two_pow_sub_one_eq_mod]
  omega
theorem cnt_lt8 (P : Nat → Bool) : cnt P 8 ≤ 8 := cnt_le P 8
theorem b_and3 {a0 a1 a2 m : Nat} (h0 : a0 < 256) (h1 : a1 < 256) (h2 : a2 < 256) (hm : m < 256) (M : Nat) (hM : M = m + 256 * (m + 256 * (m + 256 * m))) : (a0 + 256 * (a1 + 256 * a2)) &&& M = (a0 &&& m) + 256 * ((a1 &&& m) + 256 * (a2 &&& m)) := by
  have e0 := b_land (q := a1 + 256 * a2) (r := a0) (q' := m + 256 * (m + 256 * m)) (r' := m) h0 hm
  have e1 := b_land (q := a2) (r := a1) (q' := m + 256 * m) (r' := m) h1 hm
  have e2 := b_land (q := 0) (r := a2) (q' := m) (r' := m) h2 hm
  rw [Nat.zero_and, Nat.mul_zero, Nat.zero_add, Nat.zero_add] at e2
  rw [hM, show a0 + 256 * (a1 + 256 * a2) = 256 * (a1 + 256 * a2) + a0 by omega, show m + 256 * (m + 256 * (m + 256 * m)) = 256 * (m + 256 * (m + 256 * m)) + m by omega, e0, show a1 + 256 * a2 = 256 * a2 + a1 by omega, show m + 256 * (m + 256 * m) = 256 * (m + 256 * m) + m by omega, e1, show m + 256 * m = 256 * m + m by omega, e2]
  omega
section PO
variable {d : Nat} {I : Nat → Nat → Int32} {L : Nat → Nat → Int64}
theorem us1 {n : Nat} (h : n < 2 ^ 31) : ((nI n).toUInt32 >>> ((1 : Int32).toUInt32 &&& Int32.toUInt32 31)).toInt32 = nI (n / 2) := pk_ushrN (by omega) 1 1 (by decide)
theorem us2 {n : Nat} (h : n < 2 ^ 31) : ((nI n).toUInt32 >>> ((2 : Int32).toUInt32 &&& Int32.toUInt32 31)).toInt32 = nI (n / 4) := pk_ushrN (by omega) 2 2 (by decide)
theorem us4 {n : Nat} (h : n < 2 ^ 31) : ((nI n).toUInt32 >>> ((4 : Int32).toUInt32 &&& Int32.toUInt32 31)).toInt32 = nI (n / 16) := pk_ushrN (by omega) 4 4 (by decide)
theorem us8 {n : Nat} (h : n < 2 ^ 31) : ((nI n).toUInt32 >>> ((8 : Int32).toUInt32 &&& Int32.toUInt32 31)).toInt32 = nI (n / 256) := pk_ushrN (by omega) 8 8 (by decide)
theorem us16 {n : Nat} (h : n < 2 ^ 31) : ((nI n).toUInt32 >>> ((16 : Int32).toUInt32 &&& Int32.toUInt32 31)).toInt32 = nI (n / 65536) := pk_ushrN (by omega) 16 16 (by decide)
theorem b_1 {b0 b1 b2 : Nat} (h0 : b0 < 256) (h1 : b1 < 256) (h2 : b2 < 256) : (b0 + 256 * (b1 + 256 * b2)) / 2 &&& 1431655765 = (b0 / 2 &&& 85) + 256 * ((b1 / 2 &&& 85) + 256 * (b2 / 2 &&& 85)) := by
  have e : (b0 + 256 * (b1 + 256 * b2)) / 2 = (b0 / 2 + 128 * (b1 % 2)) + 256 * ((b1 / 2 + 128 * (b2 % 2)) + 256 * (b2 / 2)) := by omega
  have k : ∀ n r, n < 256 → r < 2 → (n / 2 + 128 * r) &&& 85 = n / 2 &&& 85 := by
    intro n r hn hr
    obtain rfl | rfl : r = 0 ∨ r = 1 := by omega
    · rfl
    · exact (b_t1 n hn).2
  rw [e, b_and3 (m := 85) (by omega) (by omega) (by omega) (by decide) 1431655765 (by decide), k b0 _ h0 (by omega), k b1 _ h1 (by omega)]
theorem b_2 {b0 b1 b2 : Nat} (h0 : b0 < 256) (h1 : b1 < 256) (h2 : b2 < 256) : (b0 + 256 * (b1 + 256 * b2)) / 4 &&& 858993459 = (b0 / 4 &&& 51) + 256 * ((b1 / 4 &&& 51) + 256 * (b2 / 4 &&& 51)) := by
  have e : (b0 + 256 * (b1 + 256 * b2)) / 4 = (b0 / 4 + 64 * (b1 % 4)) + 256 * ((b1 / 4 + 64 * (b2 % 4)) + 256 * (b2 / 4)) := by omega
  have k : ∀ n r, n < 256 → r < 4 → (n / 4 + 64 * r) &&& 51 = n / 4 &&& 51 := by
    intro n r hn hr
    obtain rfl | rfl | rfl | rfl : r = 0 ∨ r = 1 ∨ r = 2 ∨ r = 3 := by omega
    · rfl
    · exact (b_t2 n hn).1
    · exact (b_t2 n hn).2.1
    · exact (b_t2 n hn).2.2.1
  rw [e, b_and3 (m := 51) (by omega) (by omega) (by omega) (by decide) 858993459 (by decide), k b0 _ h0 (by omega), k b1 _ h1 (by omega)]
theorem cnt_split {b0 b1 b2 : Nat} (h0 : b0 < 256) (h1 : b1 < 256) (h2 : b2 < 16) : cnt (fun x => (b0 + 256 * (b1 + 256 * b2)).testBit x) 20 = cnt (fun x => b0.testBit x) 8 + cnt (fun x => b1.testBit x) 8 + cnt (fun x => b2.testBit x) 8 := by
  have t0 : ∀ x, (b0 + 256 * (b1 + 256 * b2)).testBit x = if x < 8 then b0.testBit x else (b1 + 256 * b2).testBit (x - 8) := by
    intro x
    rw [Nat.add_comm, show (256 : Nat) = 2 ^ 8 from rfl, Nat.testBit_two_pow_mul_add _ (show b0 < 2 ^ 8 from h0)]
  have t1 : ∀ x, (b1 + 256 * b2).testBit x = if x < 8 then b1.testBit x else b2.testBit (x - 8) := by
    intro x
    rw [Nat.add_comm, show (256 : Nat) = 2 ^ 8 from rfl, Nat.testBit_two_pow_mul_add _ (show b1 < 2 ^ 8 from h1)]
  have t2 : ∀ x, 4 ≤ x → b2.testBit x = false := fun x hx => Nat.testBit_lt_two_pow (Nat.lt_of_lt_of_le h2 (Nat.pow_le_pow_right (n := 2) (by decide) hx))
  simp only [cnt, t0, t1]
  have u4 := t2 4 (by decide)
  have u5 := t2 5 (by decide)
  have u6 := t2 6 (by decide)
  have u7 := t2 7 (by decide)
  simp (decide := true) only [u4, u5, u6, u7, if_true, if_false, reduceIte, Nat.reduceSub]
  omega
theorem b_end {u v w : Nat} (hu : u ≤ 8) (hv : v ≤ 8) (hw : w ≤ 8) : (u + 256 * (v + 256 * w) + (u + 256 * (v + 256 * w)) / 256 + (u + 256 * (v + 256 * w) + (u + 256 * (v + 256 * w)) / 256) / 65536) % 2 ^ 6 = u + v + w := by
  have e1 : (u + 256 * (v + 256 * w)) / 256 = v + 256 * w := by omega
  rw [e1]
  have e2 : (u + 256 * (v + 256 * w) + (v + 256 * w)) / 65536 = w := by omega
  rw [e2]
  omega
theorem c_bitCount {b : Nat} (hb : b < 2 ^ 20) : X d none 72 (0, [some (.int (nI b))], [], (xSH, I, L, xR0)) = some (some (.int (nI (cnt (fun x => b.testBit x) 20))), (xSH, I, L, xR0)) := by
  obtain ⟨b0, b1, b2, h0, h1, h2, rfl⟩ : ∃ b0 b1 b2, b0 < 256 ∧ b1 < 256 ∧ b2 < 16 ∧ b = b0 + 256 * (b1 + 256 * b2) := ⟨b % 256, b / 256 % 256, b / 65536, by omega, by omega, by omega, by omega⟩
  have h2' : b2 < 256 := by omega
  have a0 := (b_t1 b0 h0).1
  have a1 := (b_t1 b1 h1).1
  have a2 := (b_t1 b2 h2').1
  obtain ⟨c0, p0, d0⟩ := b_t3 b0 h0
  obtain ⟨c1, p1, d1⟩ := b_t3 b1 h1
  obtain ⟨c2, p2, d2⟩ := b_t3 b2 h2'
  have s0 : b_s1 b0 < 256 := by unfold b_s1; omega
  have s1 : b_s1 b1 < 256 := by unfold b_s1; omega
  have s2 : b_s1 b2 < 256 := by unfold b_s1; omega
  have q0 := cnt_lt8 (fun x => b0.testBit x)
  have q1 := cnt_lt8 (fun x => b1.testBit x)
  have q2 := cnt_lt8 (fun x => b2.testBit x)
  have k55 : (1431655765 : Int32) = nI 1431655765 := rfl
  have k33 : (858993459 : Int32) = nI 858993459 := rfl
  have k0f : (252645135 : Int32) = nI 252645135 := rfl
  have m1 : b_s1 b0 = b0 - (b0 / 2 &&& 85) := rfl
  have m2 : b_s1 b1 = b1 - (b1 / 2 &&& 85) := rfl
  have m3 : b_s1 b2 = b2 - (b2 / 2 &&& 85) := rfl
  have step1 : nI (b0 + 256 * (b1 + 256 * b2)) - (nI ((b0 + 256 * (b1 + 256 * b2)) / 2) &&& nI 1431655765) = nI (b_s1 b0 + 256 * (b_s1 b1 + 256 * b_s1 b2)) := by
    rw [nI_and (by omega) (by decide), b_1 h0 h1 h2', pk_sub (by omega)]
    congr 1
    omega
  have n1 := (b_t2 (b_s1 b0) s0).2.2.2
  have n2 := (b_t2 (b_s1 b1) s1).2.2.2
  have n3 := (b_t2 (b_s1 b2) s2).2.2.2
  have step2 : (nI (b_s1 b0 + 256 * (b_s1 b1 + 256 * b_s1 b2)) &&& nI 858993459) + (nI ((b_s1 b0 + 256 * (b_s1 b1 + 256 * b_s1 b2)) / 4) &&& nI 858993459) = nI (b_s2 (b_s1 b0) + 256 * (b_s2 (b_s1 b1) + 256 * b_s2 (b_s1 b2))) := by
    rw [nI_and (by omega) (by decide), nI_and (by omega) (by decide), b_2 s0 s1 s2, b_and3 (m := 51) s0 s1 s2 (by decide) 858993459 (by decide), nI_add]
    congr 1
    unfold b_s2
    omega
  have step3 : (nI (b_s2 (b_s1 b0) + 256 * (b_s2 (b_s1 b1) + 256 * b_s2 (b_s1 b2))) + nI ((b_s2 (b_s1 b0) + 256 * (b_s2 (b_s1 b1) + 256 * b_s2 (b_s1 b2))) / 16)) &&& nI 252645135 = nI (cnt (fun x => b0.testBit x) 8 + 256 * (cnt (fun x => b1.testBit x) 8 + 256 * cnt (fun x => b2.testBit x) 8)) := by
    rw [nI_add]
    have e : b_s2 (b_s1 b0) + 256 * (b_s2 (b_s1 b1) + 256 * b_s2 (b_s1 b2)) + (b_s2 (b_s1 b0) + 256 * (b_s2 (b_s1 b1) + 256 * b_s2 (b_s1 b2))) / 16 = (b_s2 (b_s1 b0) + b_s2 (b_s1 b0) / 16 + 16 * (b_s2 (b_s1 b1) % 16)) + 256 * ((b_s2 (b_s1 b1) + b_s2 (b_s1 b1) / 16 + 16 * (b_s2 (b_s1 b2) % 16)) + 256 * (b_s2 (b_s1 b2) + b_s2 (b_s1 b2) / 16 + 16 * 0)) := by omega
    rw [e, nI_and (by omega) (by decide), b_and3 (m := 15) (by omega) (by omega) (by omega) (by decide) 252645135 (by decide), b_t4, b_t4, b_t4, p0, p1, p2]
  simp only [e_72_0, e_72_1, e_72_2, e_72_3, e_72_4, e_72_7, e_72_8, e_72_9, e_72_10, e_72_11, e_72_14, e_72_15, e_72_16, e_72_17, e_72_18, e_72_21, e_72_22, e_72_23, e_72_24, e_72_25, e_72_26, e_72_27, e_72_28, e_72_29, e_72_32, e_72_33, e_72_34, e_72_35, e_72_36, e_72_38, e_72_39, e_72_40, e_72_41, e_72_42, e_72_43, e_72_45, e_72_46, e_72_47, e_72_48, e_72_49, e_72_51, e_72_52]
  simp only [k55, k33, k0f]
  rw [us1 (by omega), step1, us2 (by omega), step2, us4 (by omega), step3, us8 (by omega), nI_add, us16 (by omega), nI_add, pk_andN (by omega) 6 (by decide), cnt_split h0 h1 h2, b_end q0 q1 q2]
end PO
