def cOp (t : Nat → Int32) (s e : Nat) : Int32 := if e - s = 1 then t s else if e - s = 2 then t s + 256 * t (s + 1) else 0
def mOp1 (a : Int32) : Int32 := if a = 113 then 0 else if a = 81 then 1 else if a = 103 then 3 else if a = 109 then 4 else if a = 108 then 5 else if a = 104 then 6 else if a = 99 then 8 else if a = 87 then 9 else if a = 102 then 11 else if a = 110 then 13 else -1
def mOp2 (a b : Int32) : Int32 := if a = 99 ∧ b = 109 then 2 else if a = 114 ∧ b = 101 then 7 else if a = 87 ∧ b = 42 then 10 else if a = 102 ∧ b = 42 then 12 else -1
def mOp (t : Nat → Int32) (s e : Nat) : Int32 := if e - s = 1 then mOp1 (t s) else if e - s = 2 then mOp2 (t s) (t (s + 1)) else -1
def opM (c : Int32) : Int32 := if c = 113 then 0 else if c = 81 then 1 else if c = 28003 then 2 else if c = 103 then 3 else if c = 109 then 4 else if c = 108 then 5 else if c = 104 then 6 else if c = 25970 then 7 else if c = 99 then 8 else if c = 87 then 9 else if c = 10839 then 10 else if c = 102 then 11 else if c = 10854 then 12 else if c = 110 then 13 else -1
theorem ite_and2 {p q : Prop} [Decidable p] [Decidable q] {α : Type} {x y : α} : (if p then (if q then x else y) else y) = if p ∧ q then x else y := by
  by_cases hp : p <;> by_cases hq : q <;> simp [hp, hq]
section OP
variable {d : Nat} {I : Nat → Nat → Int32} {L : Nat → Nat → Int64}
theorem c_operatorIn {s e : Nat} (hs : s < e) (he : e ≤ 400) : X d none 31 (0, [some (.ref 1), some (.int (nI s)), some (.int (nI e))], [], (xSH, I, L, xR0)) = some (some (.int (cOp (I 2) s e)), (xSH, I, L, xR0)) := by
  have hc : (nI s).toNatClampNeg = s := nI_clamp (by omega)
  have hc1 : (nI (s + 1)).toNatClampNeg = s + 1 := nI_clamp (by omega)
  have h2 : ¬ (nI s < 0 ∨ 400 ≤ s) := q_in (by omega) (by decide)
  have e1 : (nI (e - s) = 1) = (e - s = 1) := propext (nI_eq (a := e - s) (b := 1) (by omega) (by decide))
  have e2 : (nI (e - s) = 2) = (e - s = 2) := propext (nI_eq (a := e - s) (b := 2) (by omega) (by decide))
  simp only [e_31_0, e_31_1, e_31_2, e_31_3, e_31_4, e_31_7, e_31_8, e_31_11, e_31_12, e_31_13, e_31_14, e_31_15, e_31_16, e_31_17, e_31_18, e_31_21, e_31_22, e_31_25, e_31_26, e_31_27, e_31_30, e_31_31, e_31_34, e_31_35, e_31_36, e_31_37, e_31_38, e_31_39, e_31_40, e_31_41, e_31_42, hc, h2, if_false, nI_1, hc1, pk_sub (Nat.le_of_lt hs), e1, e2]
  unfold cOp
  by_cases g1 : e - s = 1
  · rw [if_pos g1, if_pos g1]
  · rw [if_neg g1, if_neg g1]
    by_cases g2 : e - s = 2
    · rw [if_pos g2, if_pos g2, if_neg (q_in (show s + 1 < 400 by omega) (by decide))]
    · rw [if_neg g2, if_neg g2]
theorem m_operator {s e : Nat} (hs : s < e) (he : e ≤ 400) : X d none 86 (0, [some (.ref 38), some (.int (nI s)), some (.int (nI e)), none, none], [], (xSH, I, L, xR0)) = some (some (.int (mOp (I 39) s e)), (xSH, I, L, xR0)) := by
  have hc : (nI s).toNatClampNeg = s := nI_clamp (by omega)
  have hc1 : (nI (s + 1)).toNatClampNeg = s + 1 := nI_clamp (by omega)
  have h2 : ¬ (nI s < 0 ∨ 400 ≤ s) := q_in (by omega) (by decide)
  have e1 : (nI (e - s) = 1) = (e - s = 1) := propext (nI_eq (a := e - s) (b := 1) (by omega) (by decide))
  have e2 : (nI (e - s) = 2) = (e - s = 2) := propext (nI_eq (a := e - s) (b := 2) (by omega) (by decide))
  simp only [e_86_0, e_86_1, e_86_4, e_86_5, e_86_6, e_86_7, e_86_8, e_86_9, e_86_10, e_86_11, e_86_14, e_86_15, e_86_17, e_86_20, e_86_21, e_86_22, e_86_23, e_86_25, e_86_28, e_86_29, e_86_30, e_86_31, e_86_33, e_86_36, e_86_37, e_86_38, e_86_39, e_86_41, e_86_44, e_86_45, e_86_46, e_86_47, e_86_49, e_86_52, e_86_53, e_86_54, e_86_55, e_86_57, e_86_60, e_86_62, e_86_63, e_86_64, e_86_66, e_86_69, e_86_71, e_86_72, e_86_73, e_86_75, e_86_78, e_86_80, e_86_81, e_86_82, e_86_84, e_86_87, e_86_89, e_86_90, e_86_91, e_86_93, e_86_96, e_86_98, e_86_101, e_86_102, e_86_103, e_86_104, e_86_107, e_86_108, e_86_109, e_86_110, e_86_111, e_86_113, e_86_114, e_86_115, e_86_116, e_86_117, e_86_120, e_86_121, e_86_122, e_86_123, e_86_125, e_86_128, e_86_130, e_86_132, e_86_135, e_86_136, e_86_137, e_86_138, e_86_140, e_86_143, e_86_145, e_86_147, e_86_150, e_86_152, e_86_153, e_86_154, e_86_156, e_86_159, e_86_161, e_86_163, e_86_166, e_86_168, e_86_169, e_86_170, e_86_172, e_86_175, e_86_177, e_86_179, e_86_182, e_86_184, e_86_187, e_86_188, hc, h2, if_false, nI_1, hc1, pk_sub (Nat.le_of_lt hs), e1, e2, ite_and2, ite_sv]
  unfold mOp
  by_cases g1 : e - s = 1
  · rw [if_pos g1, if_pos g1]
    rfl
  · rw [if_neg g1, if_neg g1, if_neg (q_in (show s + 1 < 400 by omega) (by decide))]
    by_cases g2 : e - s = 2
    · rw [if_pos g2, if_pos g2]
      rfl
    · rw [if_neg g2, if_neg g2]
end OP
def tOk (t : Nat → Int32) (n : Nat) : Prop := ∀ q, q < n → ∃ c, 0 < c ∧ c < 256 ∧ t q = nI c
theorem op_1 : ∀ c, c < 256 → opM (nI c) = mOp1 (nI c) := by decide +kernel
theorem op_2 {a b : Nat} (ha : a < 256) (h0 : 0 < b) (hb : b < 256) : opM (nI a + 256 * nI b) = mOp2 (nI a) (nI b) := by
  have e : nI a + 256 * nI b = nI (a + 256 * b) := by
    rw [show (256 : Int32) = nI 256 from rfl, pk_mul, nI_add]
  have q0 : ∀ k, k < 256 → (nI (a + 256 * b) = nI k) = False := fun k hk => propext (by
    rw [nI_eq (by omega) (by omega)]
    constructor
    · intro z; omega
    · intro z; exact z.elim)
  have q : ∀ u v, u < 256 → v < 256 → (nI (a + 256 * b) = nI (u + 256 * v)) = (a = u ∧ b = v) := fun u v hu hv => propext (by
    rw [nI_eq (by omega) (by omega)]
    omega)
  have r : ∀ k, k < 256 → (nI a = nI k) = (a = k) := fun k hk => propext (nI_eq (by omega) (by omega))
  have r' : ∀ k, k < 256 → (nI b = nI k) = (b = k) := fun k hk => propext (nI_eq (by omega) (by omega))
  rw [e]
  unfold opM mOp2
  simp only [show (113 : Int32) = nI 113 from rfl, show (81 : Int32) = nI 81 from rfl, show (28003 : Int32) = nI (99 + 256 * 109) from rfl, show (103 : Int32) = nI 103 from rfl, show (109 : Int32) = nI 109 from rfl, show (108 : Int32) = nI 108 from rfl, show (104 : Int32) = nI 104 from rfl, show (25970 : Int32) = nI (114 + 256 * 101) from rfl, show (99 : Int32) = nI 99 from rfl, show (87 : Int32) = nI 87 from rfl, show (10839 : Int32) = nI (87 + 256 * 42) from rfl, show (102 : Int32) = nI 102 from rfl, show (10854 : Int32) = nI (102 + 256 * 42) from rfl, show (110 : Int32) = nI 110 from rfl, show (114 : Int32) = nI 114 from rfl, show (101 : Int32) = nI 101 from rfl, show (42 : Int32) = nI 42 from rfl]
  simp only [q0 113 (by decide), q0 81 (by decide), q0 103 (by decide), q0 109 (by decide), q0 108 (by decide), q0 104 (by decide), q0 99 (by decide), q0 87 (by decide), q0 102 (by decide), q0 110 (by decide), q 99 109 (by decide) (by decide), q 114 101 (by decide) (by decide), q 87 42 (by decide) (by decide), q 102 42 (by decide) (by decide), r 99 (by decide), r 114 (by decide), r 87 (by decide), r 102 (by decide), r' 109 (by decide), r' 101 (by decide), r' 42 (by decide), if_false]
theorem op_eq {t : Nat → Int32} {n s e : Nat} (ht : tOk t n) (hs : s < e) (he : e ≤ n) : opM (cOp t s e) = mOp t s e := by
  unfold cOp mOp
  obtain ⟨a, a0, a1, ha⟩ := ht s (by omega)
  by_cases g1 : e - s = 1
  · rw [if_pos g1, if_pos g1, ha, op_1 a a1]
  · rw [if_neg g1, if_neg g1]
    by_cases g2 : e - s = 2
    · obtain ⟨b, b0, b1, hb⟩ := ht (s + 1) (by omega)
      rw [if_pos g2, if_pos g2, ha, hb, op_2 a1 b0 b1]
    · rw [if_neg g2, if_neg g2]
      decide
