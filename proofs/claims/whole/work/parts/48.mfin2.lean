section MG
variable {d : Nat} {I : Nat → Nat → Int32} {L : Nat → Nat → Int64}
theorem mfCtx_fr {J : Nat → Nat → Int32} {w h e : Nat} {cut : Int32} (hc : mfCtx I w h e cut) (hj : J 38 = I 38) : mfCtx J w h e cut := by
  unfold mfCtx at *
  rw [hj]
  exact hc
theorem m_fin_x {w h e y : Nat} {o cut : Int32} (hy : y < h) : ∀ (m x : Nat) (I : Nat → Nat → Int32) (x4 : Option Value), x + m = w → mfCtx I w h e cut → ∃ J y4, X (d + 1) none 101 (51, [some (.ref 38), some (.int o), some (.int (nI y)), some (.int (nI x)), x4], [], (xSH, I, L, xR0)) = X (d + 1) none 101 (167, [some (.ref 38), some (.int o), some (.int (nI y)), some (.int (nI w)), y4], [], (xSH, J, L, xR0)) ∧ (∀ a, a ≠ 40 → a ≠ 41 → J a = I a) ∧ (∀ z, J 40 z = if 20 * y + x ≤ z ∧ z < 20 * y + w ∧ hitM I L e o (z - 20 * y) y = true then I 38 7 else I 40 z) ∧ (∀ z, J 41 z = if 20 * y + x ≤ z ∧ z < 20 * y + w ∧ cutM I L e cut (z - 20 * y) y = true then 0 else I 41 z) := by
  intro m
  induction m with
  | zero =>
    intro x I x4 hx hc
    obtain rfl : x = w := by omega
    refine ⟨I, x4, ?_, fun _ _ _ => rfl, fun z => by rw [if_neg (by omega)], fun z => by rw [if_neg (by omega)]⟩
    obtain ⟨h1, h2, h3, h4, hw, hh, he⟩ := hc
    rw [e_101_51]
    simp only [e_101_52, e_101_53, e_101_56, h1]
    rw [if_pos (q_le (Nat.le_refl _) (by omega))]
  | succ m ih =>
    intro x I x4 hx hc
    obtain ⟨J, y4, j1, j2, j3, j4⟩ := m_pix (d := d) (L := L) (o := o) (x4 := x4) hc (show x < w by omega) hy
    have j38 : J 38 = I 38 := j2 38 (by decide) (by decide)
    obtain ⟨K, z4, k1, k2, k3, k4⟩ := ih (x + 1) J y4 (by omega) (mfCtx_fr hc j38)
    have hh : ∀ z, 20 * y + (x + 1) ≤ z → hitM J L e o (z - 20 * y) y = hitM I L e o (z - 20 * y) y := by
      intro z hz
      unfold hitM
      rw [j4, if_neg (by omega)]
    have hcu : ∀ z, 20 * y + (x + 1) ≤ z → cutM J L e cut (z - 20 * y) y = cutM I L e cut (z - 20 * y) y := by
      intro z hz
      unfold cutM
      rw [j4, if_neg (by omega)]
    refine ⟨K, z4, j1.trans k1, fun a a1 a2 => (k2 a a1 a2).trans (j2 a a1 a2), fun z => ?_, fun z => ?_⟩
    · rw [k3, j3, j38]
      by_cases z1 : z = 20 * y + x
      · subst z1
        rw [if_neg (c := 20 * y + (x + 1) ≤ 20 * y + x ∧ _) (by omega), Nat.add_sub_cancel_left]
        by_cases z2 : hitM I L e o x y = true
        · rw [if_pos ⟨rfl, z2⟩, if_pos ⟨by omega, by omega, z2⟩]
        · rw [if_neg (fun z => z2 z.2), if_neg (fun z => z2 z.2.2)]
      · rw [if_neg (c := z = 20 * y + x ∧ _) (fun q => z1 q.1)]
        by_cases z2 : 20 * y + (x + 1) ≤ z
        · rw [hh z z2]
          by_cases z3 : z < 20 * y + w ∧ hitM I L e o (z - 20 * y) y = true
          · rw [if_pos ⟨z2, z3⟩, if_pos ⟨by omega, z3⟩]
          · rw [if_neg (fun q => z3 q.2), if_neg (fun q => z3 q.2)]
        · rw [if_neg (fun q => z2 q.1), if_neg (by omega)]
    · rw [k4, j4]
      by_cases z1 : z = 20 * y + x
      · subst z1
        rw [if_neg (c := 20 * y + (x + 1) ≤ 20 * y + x ∧ _) (by omega), Nat.add_sub_cancel_left]
        by_cases z2 : cutM I L e cut x y = true
        · rw [if_pos ⟨rfl, z2⟩, if_pos ⟨by omega, by omega, z2⟩]
        · rw [if_neg (fun z => z2 z.2), if_neg (fun z => z2 z.2.2)]
      · rw [if_neg (c := z = 20 * y + x ∧ _) (fun q => z1 q.1)]
        by_cases z2 : 20 * y + (x + 1) ≤ z
        · rw [hcu z z2]
          by_cases z3 : z < 20 * y + w ∧ cutM I L e cut (z - 20 * y) y = true
          · rw [if_pos ⟨z2, z3⟩, if_pos ⟨by omega, z3⟩]
          · rw [if_neg (fun q => z3 q.2), if_neg (fun q => z3 q.2)]
        · rw [if_neg (fun q => z2 q.1), if_neg (by omega)]
theorem m_fin_y {w h e : Nat} {o cut : Int32} : ∀ (m y : Nat) (I : Nat → Nat → Int32) (x3 x4 : Option Value), y + m = h → mfCtx I w h e cut → ∃ J y3 y4, X (d + 1) none 101 (41, [some (.ref 38), some (.int o), some (.int (nI y)), x3, x4], [], (xSH, I, L, xR0)) = X (d + 1) none 101 (173, [some (.ref 38), some (.int o), some (.int (nI h)), y3, y4], [], (xSH, J, L, xR0)) ∧ (∀ a, a ≠ 40 → a ≠ 41 → J a = I a) ∧ (∀ z, J 40 z = if y ≤ z / 20 ∧ z / 20 < h ∧ z % 20 < w ∧ hitM I L e o (z % 20) (z / 20) = true then I 38 7 else I 40 z) ∧ (∀ z, J 41 z = if y ≤ z / 20 ∧ z / 20 < h ∧ z % 20 < w ∧ cutM I L e cut (z % 20) (z / 20) = true then 0 else I 41 z) := by
  intro m
  induction m with
  | zero =>
    intro y I x3 x4 hy hc
    obtain rfl : y = h := by omega
    refine ⟨I, x3, x4, ?_, fun _ _ _ => rfl, fun z => by rw [if_neg (by omega)], fun z => by rw [if_neg (by omega)]⟩
    obtain ⟨h1, h2, h3, h4, hw, hh, he⟩ := hc
    rw [e_101_41]
    simp only [e_101_42, e_101_43, e_101_46, h2]
    rw [if_pos (q_le (Nat.le_refl _) (by omega))]
  | succ m ih =>
    intro y I x3 x4 hy hc
    have hw20 : w ≤ 20 := hc.2.2.2.2.1
    have hh20 : h ≤ 20 := hc.2.2.2.2.2.1
    obtain ⟨J, y4, j1, j2, j3, j4⟩ := m_fin_x (d := d) (L := L) (o := o) (show y < h by omega) w 0 I x4 (by omega) hc
    have j38 : J 38 = I 38 := j2 38 (by decide) (by decide)
    obtain ⟨K, w3, w4, k1, k2, k3, k4⟩ := ih (y + 1) J (some (.int (nI w))) y4 (by omega) (mfCtx_fr hc j38)
    have s1 : X (d + 1) none 101 (41, [some (.ref 38), some (.int o), some (.int (nI y)), x3, x4], [], (xSH, I, L, xR0)) = X (d + 1) none 101 (51, [some (.ref 38), some (.int o), some (.int (nI y)), some (.int (nI 0)), x4], [], (xSH, I, L, xR0)) := by
      rw [e_101_41]
      simp only [e_101_42, e_101_43, e_101_46, e_101_49, e_101_50, hc.2.1]
      rw [if_neg (q_nle (show y < h by omega) (by omega))]
      rfl
    have s2 : X (d + 1) none 101 (167, [some (.ref 38), some (.int o), some (.int (nI y)), some (.int (nI w)), y4], [], (xSH, J, L, xR0)) = X (d + 1) none 101 (41, [some (.ref 38), some (.int o), some (.int (nI (y + 1))), some (.int (nI w)), y4], [], (xSH, J, L, xR0)) := by
      simp only [e_101_167, e_101_170, nI_1]
    have hh : ∀ z, y + 1 ≤ z / 20 → z % 20 < 20 → hitM J L e o (z % 20) (z / 20) = hitM I L e o (z % 20) (z / 20) := by
      intro z hz hz2
      unfold hitM
      rw [j4, if_neg (by omega)]
    have hcu : ∀ z, y + 1 ≤ z / 20 → z % 20 < 20 → cutM J L e cut (z % 20) (z / 20) = cutM I L e cut (z % 20) (z / 20) := by
      intro z hz hz2
      unfold cutM
      rw [j4, if_neg (by omega)]
    refine ⟨K, w3, w4, s1.trans (j1.trans (s2.trans k1)), fun a a1 a2 => (k2 a a1 a2).trans (j2 a a1 a2), fun z => ?_, fun z => ?_⟩
    · have hm : z % 20 < 20 := Nat.mod_lt _ (by decide)
      rw [k3, j3, j38]
      by_cases z1 : z / 20 = y
      · have e1 : z - 20 * y = z % 20 := by omega
        rw [if_neg (c := y + 1 ≤ z / 20 ∧ _) (by omega), e1, z1]
        by_cases z2 : z % 20 < w ∧ hitM I L e o (z % 20) y = true
        · rw [if_pos ⟨by omega, by omega, z2.2⟩, if_pos ⟨by omega, by omega, z2⟩]
        · rw [if_neg (fun q => z2 ⟨by omega, q.2.2⟩), if_neg (fun q => z2 q.2.2)]
      · rw [if_neg (c := 20 * y + 0 ≤ z ∧ _) (by omega)]
        by_cases z2 : y + 1 ≤ z / 20
        · rw [hh z z2 hm]
          by_cases z3 : z / 20 < h ∧ z % 20 < w ∧ hitM I L e o (z % 20) (z / 20) = true
          · rw [if_pos ⟨z2, z3⟩, if_pos ⟨by omega, z3⟩]
          · rw [if_neg (fun q => z3 q.2), if_neg (fun q => z3 q.2)]
        · rw [if_neg (fun q => z2 q.1), if_neg (by omega)]
    · have hm : z % 20 < 20 := Nat.mod_lt _ (by decide)
      rw [k4, j4]
      by_cases z1 : z / 20 = y
      · have e1 : z - 20 * y = z % 20 := by omega
        rw [if_neg (c := y + 1 ≤ z / 20 ∧ _) (by omega), e1, z1]
        by_cases z2 : z % 20 < w ∧ cutM I L e cut (z % 20) y = true
        · rw [if_pos ⟨by omega, by omega, z2.2⟩, if_pos ⟨by omega, by omega, z2⟩]
        · rw [if_neg (fun q => z2 ⟨by omega, q.2.2⟩), if_neg (fun q => z2 q.2.2)]
      · rw [if_neg (c := 20 * y + 0 ≤ z ∧ _) (by omega)]
        by_cases z2 : y + 1 ≤ z / 20
        · rw [hcu z z2 hm]
          by_cases z3 : z / 20 < h ∧ z % 20 < w ∧ cutM I L e cut (z % 20) (z / 20) = true
          · rw [if_pos ⟨z2, z3⟩, if_pos ⟨by omega, z3⟩]
          · rw [if_neg (fun q => z3 q.2), if_neg (fun q => z3 q.2)]
        · rw [if_neg (fun q => z2 q.1), if_neg (by omega)]
def mSame (L : Nat → Nat → Int64) : Prop := L 38 22 = L 38 20 ∧ L 38 23 = L 38 21
def mEnd (L : Nat → Nat → Int64) (e : Nat) : Nat := if L 38 22 = L 38 20 ∧ L 38 23 = L 38 21 then e else e + 1
theorem m_finish {w h e : Nat} {o cut : Int32} (hp : ¬ I 38 18 = 0) (h1 : I 38 2 = nI w) (h2 : I 38 3 = nI h) (h3 : I 38 19 = cut) (h4 : I 38 16 = nI e) (hw : w ≤ 20) (hh : h ≤ 20) (he : e < 129) : ∃ J, X (d + 2) none 101 (0, [some (.ref 38), some (.int o), none, none, none], [], (xSH, I, L, xR0)) = some (none, (xSH, J, mMv L e, xR0)) ∧ (∀ a, a ≠ 38 → a ≠ 40 → a ≠ 41 → J a = I a) ∧ (∀ k, k ≠ 16 → k ≠ 18 → k ≠ 19 → k ≠ 28 → k ≠ 29 → J 38 k = I 38 k) ∧ J 38 18 = 0 ∧ J 38 19 = 0 ∧ J 38 28 = I 38 28 + (if o < 13 then 1 else 0) ∧ J 38 29 = (if I 38 17 ≤ I 38 29 then I 38 29 else I 38 17) ∧ (∀ z, J 40 z = if z / 20 < h ∧ z % 20 < w ∧ hitM I (mMv L e) (mEnd L e) o (z % 20) (z / 20) = true then I 38 7 else I 40 z) ∧ (∀ z, J 41 z = if z / 20 < h ∧ z % 20 < w ∧ cutM I (mMv L e) (mEnd L e) cut (z % 20) (z / 20) = true then 0 else I 41 z) := by
  have hE : ∃ I1 : Nat → Nat → Int32, (if L 38 22 = L 38 20 ∧ L 38 23 = L 38 21 then I else mEdI I e false) = I1 ∧ (∀ a, a ≠ 38 → I1 a = I a) ∧ (∀ k, k ≠ 16 → I1 38 k = I 38 k) ∧ I1 38 16 = nI (mEnd L e) := by
    refine ⟨_, rfl, fun a ha => ?_, fun k hk => ?_, ?_⟩
    · split
      · rfl
      · unfold mEdI; rw [if_neg (by decide), xu_ne ha]
    · split
      · rfl
      · unfold mEdI; rw [if_neg (by decide), xu_eq, if_neg hk]
    · unfold mEnd
      split
      · exact h4
      · unfold mEdI; rw [if_neg (by decide), xu_eq, if_pos rfl]
  obtain ⟨I1, hI1, f1, f2, f3⟩ := hE
  have hend : mEnd L e < 130 := by unfold mEnd; split <;> omega
  have hL1 : (if L 38 22 = L 38 20 ∧ L 38 23 = L 38 21 then L else mEdL L e (L 38 20) (L 38 21)) = mMv L e := rfl
  have hcl := m_close (d := d) (L := L) hp h4 (show e < 130 by omega)
  rw [hI1, hL1] at hcl
  obtain ⟨I2, hI2, g1, g2, g3, g4⟩ : ∃ I2 : Nat → Nat → Int32, X (d + 2) none 101 (0, [some (.ref 38), some (.int o), none, none, none], [], (xSH, I, L, xR0)) = X (d + 2) none 101 (41, [some (.ref 38), some (.int o), some (.int (nI 0)), none, none], [], (xSH, I2, mMv L e, xR0)) ∧ (∀ a, a ≠ 38 → I2 a = I a) ∧ (∀ k, k ≠ 16 → k ≠ 28 → k ≠ 29 → I2 38 k = I 38 k) ∧ I2 38 16 = nI (mEnd L e) ∧ I2 38 28 = I 38 28 + (if o < 13 then 1 else 0) ∧ I2 38 29 = (if I 38 17 ≤ I 38 29 then I 38 29 else I 38 17) := by
    have a17 : I1 38 17 = I 38 17 := f2 17 (by decide)
    have a29 : I1 38 29 = I 38 29 := f2 29 (by decide)
    have a28 : I1 38 28 = I 38 28 := f2 28 (by decide)
    have z0 : ∀ x : Int32, x + 0 = x := fun x => Int32.add_zero x
    by_cases q1 : I 38 17 ≤ I 38 29
    · by_cases q2 : 13 ≤ o
      · have q2' : ¬ o < 13 := Int32.not_lt.mpr q2
        refine ⟨I1, ?_, f1, fun k k1 _ _ => f2 k k1, f3, by rw [a28, if_neg q2', z0], by rw [a29, if_pos q1]⟩
        simp (decide := true) only [e_101_0, e_101_1, e_101_4, e_101_5, e_101_8, e_101_9, e_101_12, e_101_15, e_101_16, e_101_17, e_101_20, e_101_23, e_101_24, e_101_26, e_101_29, e_101_30, e_101_31, e_101_34, e_101_35, e_101_36, e_101_39, e_101_40, e_101_42, e_101_43, e_101_46, e_101_49, e_101_50, e_101_52, e_101_53, e_101_56, e_101_59, e_101_61, e_101_62, e_101_63, e_101_64, e_101_65, e_101_67, e_101_68, e_101_70, e_101_73, e_101_74, e_101_77, e_101_79, e_101_80, e_101_83, e_101_84, e_101_85, e_101_86, e_101_87, e_101_89, e_101_92, e_101_93, e_101_96, e_101_97, e_101_100, e_101_103, e_101_104, e_101_107, e_101_109, e_101_110, e_101_113, e_101_114, e_101_115, e_101_118, e_101_121, e_101_122, e_101_125, e_101_127, e_101_128, e_101_131, e_101_132, e_101_133, e_101_134, e_101_135, e_101_138, e_101_139, e_101_142, e_101_143, e_101_146, e_101_147, e_101_150, e_101_153, e_101_154, e_101_157, e_101_159, e_101_160, e_101_161, e_101_164, e_101_167, e_101_170, e_101_173, e_101_174, e_101_175, e_101_178, e_101_179, e_101_180, e_101_183, hcl, Option.bind_some, Option.toList_some, Option.toList_none, List.cons_append, List.nil_append, a17, a29, q1, q2, xu_ne, xu_eq, xs_ne, xs_at, ne_eq, reduceIte, if_true, if_false, not_false_eq_true]
        rfl
      · have q2' : o < 13 := Int32.not_le.mp q2
        refine ⟨xu I1 38 28 (I 38 28 + 1), ?_, fun a ha => by rw [xu_ne ha, f1 a ha], fun k k1 k2 _ => by rw [xu_eq, if_neg k2, f2 k k1], by rw [xu_eq, if_neg (by decide), f3], by rw [xu_eq, if_pos rfl, if_pos q2'], by rw [xu_eq, if_neg (by decide), a29, if_pos q1]⟩
        simp (decide := true) only [e_101_0, e_101_1, e_101_4, e_101_5, e_101_8, e_101_9, e_101_12, e_101_15, e_101_16, e_101_17, e_101_20, e_101_23, e_101_24, e_101_26, e_101_29, e_101_30, e_101_31, e_101_34, e_101_35, e_101_36, e_101_39, e_101_40, e_101_42, e_101_43, e_101_46, e_101_49, e_101_50, e_101_52, e_101_53, e_101_56, e_101_59, e_101_61, e_101_62, e_101_63, e_101_64, e_101_65, e_101_67, e_101_68, e_101_70, e_101_73, e_101_74, e_101_77, e_101_79, e_101_80, e_101_83, e_101_84, e_101_85, e_101_86, e_101_87, e_101_89, e_101_92, e_101_93, e_101_96, e_101_97, e_101_100, e_101_103, e_101_104, e_101_107, e_101_109, e_101_110, e_101_113, e_101_114, e_101_115, e_101_118, e_101_121, e_101_122, e_101_125, e_101_127, e_101_128, e_101_131, e_101_132, e_101_133, e_101_134, e_101_135, e_101_138, e_101_139, e_101_142, e_101_143, e_101_146, e_101_147, e_101_150, e_101_153, e_101_154, e_101_157, e_101_159, e_101_160, e_101_161, e_101_164, e_101_167, e_101_170, e_101_173, e_101_174, e_101_175, e_101_178, e_101_179, e_101_180, e_101_183, hcl, Option.bind_some, Option.toList_some, Option.toList_none, List.cons_append, List.nil_append, a17, a28, a29, q1, q2, xu_ne, xu_eq, xs_ne, xs_at, ne_eq, reduceIte, if_true, if_false, not_false_eq_true]
        rfl
    · by_cases q2 : 13 ≤ o
      · have q2' : ¬ o < 13 := Int32.not_lt.mpr q2
        refine ⟨xu I1 38 29 (I 38 17), ?_, fun a ha => by rw [xu_ne ha, f1 a ha], fun k k1 _ k3 => by rw [xu_eq, if_neg k3, f2 k k1], by rw [xu_eq, if_neg (by decide), f3], by rw [xu_eq, if_neg (by decide), a28, if_neg q2', z0], by rw [xu_eq, if_pos rfl, if_neg q1]⟩
        simp (decide := true) only [e_101_0, e_101_1, e_101_4, e_101_5, e_101_8, e_101_9, e_101_12, e_101_15, e_101_16, e_101_17, e_101_20, e_101_23, e_101_24, e_101_26, e_101_29, e_101_30, e_101_31, e_101_34, e_101_35, e_101_36, e_101_39, e_101_40, e_101_42, e_101_43, e_101_46, e_101_49, e_101_50, e_101_52, e_101_53, e_101_56, e_101_59, e_101_61, e_101_62, e_101_63, e_101_64, e_101_65, e_101_67, e_101_68, e_101_70, e_101_73, e_101_74, e_101_77, e_101_79, e_101_80, e_101_83, e_101_84, e_101_85, e_101_86, e_101_87, e_101_89, e_101_92, e_101_93, e_101_96, e_101_97, e_101_100, e_101_103, e_101_104, e_101_107, e_101_109, e_101_110, e_101_113, e_101_114, e_101_115, e_101_118, e_101_121, e_101_122, e_101_125, e_101_127, e_101_128, e_101_131, e_101_132, e_101_133, e_101_134, e_101_135, e_101_138, e_101_139, e_101_142, e_101_143, e_101_146, e_101_147, e_101_150, e_101_153, e_101_154, e_101_157, e_101_159, e_101_160, e_101_161, e_101_164, e_101_167, e_101_170, e_101_173, e_101_174, e_101_175, e_101_178, e_101_179, e_101_180, e_101_183, hcl, Option.bind_some, Option.toList_some, Option.toList_none, List.cons_append, List.nil_append, a17, a29, q1, q2, xu_ne, xu_eq, xs_ne, xs_at, ne_eq, reduceIte, if_true, if_false, not_false_eq_true]
        rfl
      · have q2' : o < 13 := Int32.not_le.mp q2
        refine ⟨xu (xu I1 38 29 (I 38 17)) 38 28 (I 38 28 + 1), ?_, fun a ha => by rw [xu_ne ha, xu_ne ha, f1 a ha], fun k k1 k2 k3 => by rw [xu_eq, if_neg k2, xu_eq, if_neg k3, f2 k k1], by rw [xu_eq, if_neg (by decide), xu_eq, if_neg (by decide), f3], by rw [xu_eq, if_pos rfl, if_pos q2'], by rw [xu_eq, if_neg (by decide), xu_eq, if_pos rfl, if_neg q1]⟩
        simp (decide := true) only [e_101_0, e_101_1, e_101_4, e_101_5, e_101_8, e_101_9, e_101_12, e_101_15, e_101_16, e_101_17, e_101_20, e_101_23, e_101_24, e_101_26, e_101_29, e_101_30, e_101_31, e_101_34, e_101_35, e_101_36, e_101_39, e_101_40, e_101_42, e_101_43, e_101_46, e_101_49, e_101_50, e_101_52, e_101_53, e_101_56, e_101_59, e_101_61, e_101_62, e_101_63, e_101_64, e_101_65, e_101_67, e_101_68, e_101_70, e_101_73, e_101_74, e_101_77, e_101_79, e_101_80, e_101_83, e_101_84, e_101_85, e_101_86, e_101_87, e_101_89, e_101_92, e_101_93, e_101_96, e_101_97, e_101_100, e_101_103, e_101_104, e_101_107, e_101_109, e_101_110, e_101_113, e_101_114, e_101_115, e_101_118, e_101_121, e_101_122, e_101_125, e_101_127, e_101_128, e_101_131, e_101_132, e_101_133, e_101_134, e_101_135, e_101_138, e_101_139, e_101_142, e_101_143, e_101_146, e_101_147, e_101_150, e_101_153, e_101_154, e_101_157, e_101_159, e_101_160, e_101_161, e_101_164, e_101_167, e_101_170, e_101_173, e_101_174, e_101_175, e_101_178, e_101_179, e_101_180, e_101_183, hcl, Option.bind_some, Option.toList_some, Option.toList_none, List.cons_append, List.nil_append, a17, a28, a29, q1, q2, xu_ne, xu_eq, xs_ne, xs_at, ne_eq, reduceIte, if_true, if_false, not_false_eq_true]
        rfl
  have hctx : mfCtx I2 w h (mEnd L e) cut := ⟨by rw [g2 2 (by decide) (by decide) (by decide)]; exact h1, by rw [g2 3 (by decide) (by decide) (by decide)]; exact h2, by rw [g2 19 (by decide) (by decide) (by decide)]; exact h3, g3, hw, hh, hend⟩
  obtain ⟨J, y3, y4, j1, j2, j3, j4⟩ := m_fin_y (d := d + 1) (L := mMv L e) (o := o) h 0 I2 none none (by omega) hctx
  have j38 : J 38 = I2 38 := j2 38 (by decide) (by decide)
  have a41 : I2 41 = I 41 := g1 41 (by decide)
  have a40 : I2 40 = I 40 := g1 40 (by decide)
  have a7 : I2 38 7 = I 38 7 := g2 7 (by decide) (by decide) (by decide)
  have hm : ∀ x y, hitM I2 (mMv L e) (mEnd L e) o x y = hitM I (mMv L e) (mEnd L e) o x y := fun x y => by unfold hitM; rw [a41]
  have hcu : ∀ x y, cutM I2 (mMv L e) (mEnd L e) cut x y = cutM I (mMv L e) (mEnd L e) cut x y := fun x y => by unfold cutM; rw [a41]
  refine ⟨xu (xu J 38 18 0) 38 19 0, ?_, fun a b1 b2 b3 => by rw [xu_ne b1, xu_ne b1, j2 a b2 b3, g1 a b1], fun k b1 b2 b3 b4 b5 => by rw [xu_eq, if_neg b3, xu_eq, if_neg b2, j38, g2 k b1 b4 b5], by rw [xu_eq, if_neg (by decide), xu_eq, if_pos rfl], by rw [xu_eq, if_pos rfl], by rw [xu_eq, if_neg (by decide), xu_eq, if_neg (by decide), j38, g4.1], by rw [xu_eq, if_neg (by decide), xu_eq, if_neg (by decide), j38, g4.2], fun z => ?_, fun z => ?_⟩
  · rw [hI2, j1]
    simp (decide := true) only [e_101_173, e_101_174, e_101_175, e_101_178, e_101_179, e_101_180, e_101_183]
  · rw [xu_ne (by decide), xu_ne (by decide), j3, hm, a7, a40]
    simp only [Nat.zero_le, true_and]
  · rw [xu_ne (by decide), xu_ne (by decide), j4, hcu, a41]
    simp only [Nat.zero_le, true_and]
end MG
