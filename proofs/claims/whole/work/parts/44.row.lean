def bts (P : Nat → Bool) : Nat → Nat
  | 0 => 0
  | x + 1 => bts P x + (if P x = true then 2 ^ x else 0)
theorem bts_lt (P : Nat → Bool) : ∀ w, bts P w < 2 ^ w
  | 0 => by simp [bts]
  | w + 1 => by
    have := bts_lt P w
    rw [bts, Nat.pow_succ]
    split <;> omega
theorem bts_bit (P : Nat → Bool) : ∀ w x, (bts P w).testBit x = (decide (x < w) && P x)
  | 0, x => by simp [bts]
  | w + 1, x => by
    have hl := bts_lt P w
    have ih := bts_bit P w
    have e : bts P (w + 1) = 2 ^ w * (if P w = true then 1 else 0) + bts P w := by
      rw [bts]
      split
      · omega
      · omega
    rw [e, Nat.testBit_two_pow_mul_add _ hl]
    by_cases h : x < w
    · rw [if_pos h, ih x]
      have h' : x < w + 1 := by omega
      simp [h, h']
    · rw [if_neg h]
      by_cases h2 : x = w
      · subst h2
        rw [Nat.sub_self]
        cases P x <;> simp
      · have h3 : ¬ x < w + 1 := by omega
        have h4 : x - w = (x - w - 1) + 1 := by omega
        rw [h4, Nat.testBit_succ]
        have h5 : (if P w = true then 1 else 0) / 2 = 0 := by split <;> rfl
        rw [h5]
        simp [h3]
theorem nI_or {a b : Nat} (ha : a < 2 ^ 31) (hb : b < 2 ^ 31) : nI a ||| nI b = nI (a ||| b) := by
  apply Int32.toBitVec_inj.mp
  apply BitVec.eq_of_toNat_eq
  rw [Int32.toBitVec_or, BitVec.toNat_or, pk_tn (by omega), pk_tn (by omega), pk_tn (by have := Nat.or_lt_two_pow ha hb; omega)]
theorem shl1 : ∀ x, x < 20 → (1 : Int32) <<< (nI x &&& 31) = nI (2 ^ x) := by decide +kernel
theorem or_add {b x : Nat} (h : b < 2 ^ x) : b ||| 2 ^ x = b + 2 ^ x := by
  have := Nat.two_pow_add_eq_or_of_lt h 1
  rw [Nat.mul_one] at this
  rw [Nat.or_comm, ← this, Nat.add_comm]
def cMask (r : Int32) : Int32 := if r = 2 then 1 else -1
def cIns (I : Nat → Nat → Int32) (w : Nat) (y r : Int32) (e x : Nat) : Bool := !decide (cWnd I w y e x &&& cMask r = 0)
section RW
variable {d : Nat} {I : Nat → Nat → Int32} {L : Nat → Nat → Int64}
def cWf (I : Nat → Nat → Int32) (w : Nat) (y : Int32) (f : Nat → Int32) : Nat → Nat → Int32
  | 0, x => f x
  | i + 1, x => cWf I w y f i x + cCon I w y i x
theorem cWf_eq {w : Nat} {y : Int32} {f : Nat → Int32} {x : Nat} (h : f x = 0) : ∀ i, cWf I w y f i x = cWnd I w y i x
  | 0 => h
  | i + 1 => by rw [cWf, cWnd, cWf_eq h i]
theorem c_row_l {w e : Nat} {y r : Int32} {f : Nat → Int32} (hw : w ≤ 20) (he : I 6 5 = nI e) (h : e ≤ 120) : ∀ i, i ≤ e → X (d + 1) none 57 (11, [some (.ref 6), some (.int y), some (.int (nI w)), some (.int r), some (.int (nI 0)), none, none], [], (xSH, xs I 11 f, L, xR0)) = X (d + 1) none 57 (11, [some (.ref 6), some (.int y), some (.int (nI w)), some (.int r), some (.int (nI i)), none, none], [], (xSH, xs I 11 (cWf I w y f i), L, xR0))
  | 0, _ => rfl
  | i + 1, hi => by
    rw [c_row_l hw he h i (by omega), c_row_h (x5 := none) (x6 := none) hw he h (show i < e by omega)]
    rfl
theorem c_bit_h {w : Nat} {y r mk : Int32} {f : Nat → Int32} (hw : w ≤ 20) : ∀ (m q : Nat), q + m = w → X d none 57 (109, [some (.ref 6), some (.int y), some (.int (nI w)), some (.int r), some (.int mk), some (.int (nI (bts (fun x => !decide (f x &&& mk = 0)) q))), some (.int (nI q))], [], (xSH, xs I 11 f, L, xR0)) = some (some (.int (nI (bts (fun x => !decide (f x &&& mk = 0)) w))), (xSH, xs I 11 f, L, xR0)) := by
  intro m
  induction m with
  | zero =>
    intro q hq
    obtain rfl : q = w := by omega
    rw [e_57_109]
    simp only [e_57_0, e_57_1, e_57_4, e_57_5, e_57_8, e_57_9, e_57_13, e_57_14, e_57_17, e_57_20, e_57_21, e_57_24, e_57_26, e_57_27, e_57_28, e_57_31, e_57_32, e_57_33, e_57_36, e_57_38, e_57_39, e_57_42, e_57_43, e_57_45, e_57_46, e_57_47, e_57_48, e_57_51, e_57_54, e_57_55, e_57_58, e_57_60, e_57_61, e_57_62, e_57_65, e_57_66, e_57_67, e_57_70, e_57_72, e_57_73, e_57_76, e_57_77, e_57_79, e_57_80, e_57_81, e_57_82, e_57_85, e_57_88, e_57_91, e_57_92, e_57_93, e_57_96, e_57_97, e_57_100, e_57_101, e_57_103, e_57_104, e_57_106, e_57_107, e_57_111, e_57_112, e_57_115, e_57_116, e_57_119, e_57_121, e_57_122, e_57_124, e_57_125, e_57_128, e_57_130, e_57_131, e_57_133, e_57_134, e_57_135, e_57_137, e_57_140, e_57_143, e_57_145]
    rw [if_pos (q_le (Nat.le_refl _) (by omega))]
  | succ m ih =>
    intro q hq
    have hc : (nI q).toNatClampNeg = q := nI_clamp (by omega)
    have h2 : ¬ (nI q < 0 ∨ 20 ≤ q) := q_in (by omega) (by decide)
    have h1 : ¬ nI w ≤ nI q := q_nle (by omega) (by omega)
    have hb := bts_lt (fun x => !decide (f x &&& mk = 0)) q
    have hq2 : 2 ^ q < 2 ^ 20 := Nat.pow_lt_pow_right (by decide) (by omega)
    rw [e_57_109]
    simp only [e_57_0, e_57_1, e_57_4, e_57_5, e_57_8, e_57_9, e_57_13, e_57_14, e_57_17, e_57_20, e_57_21, e_57_24, e_57_26, e_57_27, e_57_28, e_57_31, e_57_32, e_57_33, e_57_36, e_57_38, e_57_39, e_57_42, e_57_43, e_57_45, e_57_46, e_57_47, e_57_48, e_57_51, e_57_54, e_57_55, e_57_58, e_57_60, e_57_61, e_57_62, e_57_65, e_57_66, e_57_67, e_57_70, e_57_72, e_57_73, e_57_76, e_57_77, e_57_79, e_57_80, e_57_81, e_57_82, e_57_85, e_57_88, e_57_91, e_57_92, e_57_93, e_57_96, e_57_97, e_57_100, e_57_101, e_57_103, e_57_104, e_57_106, e_57_107, e_57_111, e_57_112, e_57_115, e_57_116, e_57_119, e_57_121, e_57_122, e_57_124, e_57_125, e_57_128, e_57_130, e_57_131, e_57_133, e_57_134, e_57_135, e_57_137, e_57_140, e_57_143, e_57_145, hc, h1, h2, if_false, nI_1, xs_at, shl1 q (by omega), nI_or (show bts (fun x => !decide (f x &&& mk = 0)) q < 2 ^ 31 by omega) (show 2 ^ q < 2 ^ 31 by omega), or_add hb]
    have ih' := ih (q + 1) (by omega)
    rw [bts] at ih'
    by_cases g : f q &&& mk = 0
    · rw [if_pos g]
      simp only [g, decide_true, Bool.not_true, Bool.false_eq_true, if_false, Nat.add_zero] at ih'
      exact ih'
    · rw [if_neg g]
      simp only [g, decide_false, Bool.not_false, if_true] at ih'
      exact ih'
theorem bts_congr {P Q : Nat → Bool} : ∀ w, (∀ x, x < w → P x = Q x) → bts P w = bts Q w
  | 0, _ => rfl
  | w + 1, h => by rw [bts, bts, bts_congr w (fun x hx => h x (by omega)), h w (by omega)]
theorem c_insideOfRow {w e : Nat} {y r : Int32} (hw : w ≤ 20) (he : I 6 5 = nI e) (h : e ≤ 120) : ∃ f, X (d + 1) none 57 (0, [some (.ref 6), some (.int y), some (.int (nI w)), some (.int r), none, none, none], [], (xSH, I, L, xR0)) = some (some (.int (nI (bts (cIns I w y r e) w))), (xSH, xs I 11 f, L, xR0)) := by
  refine ⟨cWf I w y (fun q => if q < 20 then 0 else I 11 q) e, ?_⟩
  simp only [e_57_0, e_57_1, e_57_4, e_57_5, e_57_8, e_57_9, c_fill sh_11 (show 20 < 2 ^ 31 by decide), Option.bind_some, Option.toList_some, Option.toList_none, List.cons_append, List.nil_append]
  rw [show (0 : Int32) = nI 0 from rfl, c_row_l hw he h e (Nat.le_refl _), e_57_11]
  simp only [e_57_13, e_57_14, e_57_17, e_57_91, e_57_92, e_57_93, e_57_96, e_57_97, e_57_100, e_57_101, e_57_103, e_57_104, e_57_106, e_57_107, xs_ne (show 6 ≠ 11 by decide), he]
  rw [if_pos (q_le (Nat.le_refl _) (by omega))]
  have key : ∀ mk, X (d + 1) none 57 (109, [some (.ref 6), some (.int y), some (.int (nI w)), some (.int r), some (.int mk), some (.int 0), some (.int 0)], [], (xSH, xs I 11 (cWf I w y (fun q => if q < 20 then nI 0 else I 11 q) e), L, xR0)) = some (some (.int (nI (bts (fun x => !decide (cWnd I w y e x &&& mk = 0)) w))), (xSH, xs I 11 (cWf I w y (fun q => if q < 20 then nI 0 else I 11 q) e), L, xR0)) := by
    intro mk
    have k := c_bit_h (d := d + 1) (I := I) (L := L) (y := y) (r := r) (mk := mk) (f := cWf I w y (fun q => if q < 20 then nI 0 else I 11 q) e) hw w 0 (by omega)
    have e2 : bts (fun x => !decide (cWf I w y (fun q => if q < 20 then nI 0 else I 11 q) e x &&& mk = 0)) w = bts (fun x => !decide (cWnd I w y e x &&& mk = 0)) w := bts_congr w (fun x hx => by rw [cWf_eq (if_pos (by omega))])
    rw [e2] at k
    exact k
  unfold cIns cMask
  by_cases g : r = 2
  · rw [if_pos g, key 1]
    simp only [g, if_true]
  · rw [if_neg g, key (-1)]
    simp only [g, if_false]
theorem sh_r {b q : Nat} (hb : b < 2 ^ 31) (hq : q < 20) : (nI b >>> (nI q &&& 31)) &&& 1 = nI (b / 2 ^ q % 2) := by
  have hs : ∀ q, q < 20 → ((nI q &&& 31).toBitVec.smod 32).toNat = q := by decide +kernel
  rw [pk_shrN hb _ q (hs q hq), pk_andN (by have := Nat.div_le_self b (2 ^ q); omega) 1 (by decide)]
theorem c_paint_h {w y b : Nat} {g : Int32} (hw : w ≤ 20) (hy : y < 20) (hb : b < 2 ^ 31) : ∀ (m q : Nat) (I : Nat → Nat → Int32), q + m = w → I 4 1 = nI w → X d none 59 (3, [some (.ref 4), some (.int (nI y)), some (.int (nI b)), some (.int g), some (.int (nI q))], [], (xSH, I, L, xR0)) = some (none, (xSH, xs I 5 (fun z => if 20 * y + q ≤ z ∧ z < 20 * y + w ∧ b.testBit (z - 20 * y) = true then g else I 5 z), L, xR0)) := by
  intro m
  induction m with
  | zero =>
    intro q I hq hI
    obtain rfl : q = w := by omega
    rw [e_59_3]
    simp only [e_59_0, e_59_1, e_59_5, e_59_6, e_59_9, e_59_12, e_59_13, e_59_15, e_59_16, e_59_17, e_59_18, e_59_21, e_59_22, e_59_25, e_59_26, e_59_28, e_59_29, e_59_31, e_59_32, e_59_33, e_59_34, e_59_37, e_59_40, hI]
    rw [if_pos (q_le (Nat.le_refl _) (by omega))]
    have e : (fun z => if 20 * y + q ≤ z ∧ z < 20 * y + q ∧ b.testBit (z - 20 * y) = true then g else I 5 z) = I 5 := by
      funext z
      rw [if_neg (by omega)]
    rw [e, xs_self]
  | succ m ih =>
    intro q I hq hI
    have h1 : ¬ nI w ≤ nI q := q_nle (by omega) (by omega)
    have e1 : nI y * 20 + nI q = nI (20 * y + q) := by
      rw [show (20 : Int32) = nI 20 from rfl, pk_mul, nI_add, Nat.mul_comm]
    have hc : (nI (20 * y + q)).toNatClampNeg = 20 * y + q := nI_clamp (by omega)
    have h2 : ¬ (nI (20 * y + q) < 0 ∨ 400 ≤ 20 * y + q) := q_in (by omega) (by decide)
    rw [e_59_3]
    simp only [e_59_0, e_59_1, e_59_5, e_59_6, e_59_9, e_59_12, e_59_13, e_59_15, e_59_16, e_59_17, e_59_18, e_59_21, e_59_22, e_59_25, e_59_26, e_59_28, e_59_29, e_59_31, e_59_32, e_59_33, e_59_34, e_59_37, e_59_40, hI, h1, if_false, nI_1, sh_r hb (show q < 20 by omega), e1, hc, h2]
    have tb : b.testBit q = decide (b / 2 ^ q % 2 = 1) := Nat.testBit_eq_decide_div_mod_eq
    by_cases t : b / 2 ^ q % 2 = 0
    · rw [if_pos (show nI (b / 2 ^ q % 2) = 0 by rw [t]; rfl), ih (q + 1) I (by omega) hI]
      have tb' : b.testBit q = false := by rw [tb]; simp [t]
      refine congrArg (fun z => some ((none : Option Value), ((xSH, xs I 5 z, L, xR0) : xHp))) (funext fun z => ?_)
      by_cases z1 : z = 20 * y + q
      · subst z1
        rw [if_neg (by omega), if_neg (by rw [Nat.add_sub_cancel_left, tb']; simp)]
      · by_cases z2 : 20 * y + (q + 1) ≤ z ∧ z < 20 * y + w ∧ b.testBit (z - 20 * y) = true
        · rw [if_pos z2, if_pos ⟨by omega, z2.2⟩]
        · rw [if_neg z2, if_neg (fun z3 => z2 ⟨by omega, z3.2⟩)]
    · have t1 : b / 2 ^ q % 2 = 1 := by omega
      rw [if_neg (show ¬ nI (b / 2 ^ q % 2) = 0 by rw [t1]; decide), ih (q + 1) _ (by omega) (by rw [xu_ne (by decide)]; exact hI), xs_xu]
      have tb' : b.testBit q = true := by rw [tb]; simp [t1]
      refine congrArg (fun z => some ((none : Option Value), ((xSH, xs I 5 z, L, xR0) : xHp))) (funext fun z => ?_)
      rw [xu_eq]
      by_cases z1 : z = 20 * y + q
      · subst z1
        rw [if_neg (by omega), if_pos rfl, if_pos ⟨by omega, by omega, by rw [Nat.add_sub_cancel_left]; exact tb'⟩]
      · by_cases z2 : 20 * y + (q + 1) ≤ z ∧ z < 20 * y + w ∧ b.testBit (z - 20 * y) = true
        · rw [if_pos z2, if_pos ⟨by omega, z2.2⟩]
        · rw [if_neg z2, if_neg z1, if_neg (fun z3 => z2 ⟨by omega, z3.2⟩)]
theorem c_paintRow {w y b : Nat} {g : Int32} (hw : w ≤ 20) (hy : y < 20) (hb : b < 2 ^ 31) (hI : I 4 1 = nI w) : X d none 59 (0, [some (.ref 4), some (.int (nI y)), some (.int (nI b)), some (.int g), none], [], (xSH, I, L, xR0)) = some (none, (xSH, xs I 5 (fun z => if 20 * y ≤ z ∧ z < 20 * y + w ∧ b.testBit (z - 20 * y) = true then g else I 5 z), L, xR0)) := by
  simp only [e_59_0, e_59_1]
  rw [show (0 : Int32) = nI 0 from rfl, c_paint_h hw hy hb w 0 I (by omega) hI]
  rfl
end RW
