def hitC (I : Nat → Nat → Int32) (r : Int32) (y h w e : Nat) (cb : Nat → Nat) (z : Nat) : Bool := !decide (r = 0) && (decide (y ≤ z / 20) && (decide (z / 20 < h) && (decide (z % 20 < w) && (cIns I w (nI (z / 20)) r e (z % 20) && (cb (z / 20)).testBit (z % 20)))))
theorem eSame_tr {I J K : Nat → Nat → Int32} (h : eSame I J) (h' : eSame J K) : eSame I K := ⟨h'.1.trans h.1, h'.2.1.trans h.2.1, h'.2.2.1.trans h.2.2.1, h'.2.2.2.trans h.2.2.2⟩
section FJ
variable {d : Nat} {I : Nat → Nat → Int32} {L : Nat → Nat → Int64}
theorem c_fin_loop {s w h e : Nat} {r cr : Int32} {cb : Nat → Nat} {I0 : Nat → Nat → Int32} (hcb : ∀ q, q < 20 → cb q < 2 ^ 20) : ∀ (m y : Nat) (I : Nat → Nat → Int32), y + m = h → finCtx I s w h e cr → eSame I0 I → (∀ q, y ≤ q → q < 20 → I (17 + 3 * s + 2) q = nI (cb q)) → ∃ J, X (d + 2) none 56 (14, [some (.ref 3), some (.int r), some (.ref (17 + 3 * s)), some (.int (nI y))], [], (xSH, I, L, xR0)) = X (d + 2) none 56 (105, [some (.ref 3), some (.int r), some (.ref (17 + 3 * s)), some (.int (nI h))], [], (xSH, J, L, xR0)) ∧ (∀ a, a ≠ 5 → a ≠ 11 → a ≠ 17 + 3 * s + 2 → J a = I a) ∧ (∀ z, J 5 z = if hitC I0 r y h w e cb z = true then I (17 + 3 * s) 2 else I 5 z) ∧ (∀ q, J (17 + 3 * s + 2) q = if y ≤ q ∧ q < h ∧ ¬ cr = 0 then nI (cb q &&& bts (cIns I0 w (nI q) cr e) w) else I (17 + 3 * s + 2) q) := by
  intro m
  induction m with
  | zero =>
    intro y I hy hc hs hcl
    obtain rfl : y = h := by omega
    refine ⟨I, ?_, fun _ _ _ _ => rfl, fun z => ?_, fun q => ?_⟩
    · obtain ⟨h1, h2, h3, h4, hw, hh, he, hs7⟩ := hc
      rw [e_56_14]
      simp only [e_56_15, e_56_16, e_56_19, e_56_22, h2]
      rw [if_pos (q_le (Nat.le_refl _) (by omega))]
    · have g : hitC I0 r y y w e cb z = false := by
        unfold hitC
        by_cases z1 : y ≤ z / 20
        · have z2 : ¬ z / 20 < y := by omega
          simp [z2]
        · simp [z1]
      simp [g]
    · rw [if_neg (by omega)]
  | succ m ih =>
    intro y I hy hc hs hcl
    have hh20 : h ≤ 20 := hc.2.2.2.2.2.1
    have hw20 : w ≤ 20 := hc.2.2.2.2.1
    obtain ⟨J, j1, j2, j3, j4⟩ := c_fin_row (d := d) (L := L) (r := r) hc (show y < h by omega) (hcb y (by omega)) (hcl y (Nat.le_refl _) (by omega))
    have n : ∀ a, a < 17 → a ≠ 17 + 3 * s + 2 := fun a ha => by omega
    have hc' : finCtx J s w h e cr := by
      obtain ⟨h1, h2, h3, h4, h5⟩ := hc
      exact ⟨by rw [j2 4 (by decide) (by decide) (n 4 (by decide))]; exact h1, by rw [j2 4 (by decide) (by decide) (n 4 (by decide))]; exact h2, by rw [j2 3 (by decide) (by decide) (n 3 (by decide))]; exact h3, by rw [j2 6 (by decide) (by decide) (n 6 (by decide))]; exact h4, h5⟩
    have hs' : eSame I0 J := eSame_tr hs ⟨j2 7 (by decide) (by decide) (n 7 (by decide)), j2 8 (by decide) (by decide) (n 8 (by decide)), j2 9 (by decide) (by decide) (n 9 (by decide)), j2 10 (by decide) (by decide) (n 10 (by decide))⟩
    obtain ⟨K, k1, k2, k3, k4⟩ := ih (y + 1) J (by omega) hc' hs' (fun q q1 q2 => by rw [j4, if_neg (by omega)]; exact hcl q (by omega) q2)
    refine ⟨K, j1.trans k1, fun a a1 a2 a3 => (k2 a a1 a2 a3).trans (j2 a a1 a2 a3), fun z => ?_, fun q => ?_⟩
    · rw [k3, j3, j2 (17 + 3 * s) (by omega) (by omega) (by omega), cIns_same hs]
      have tb := bts_bit (cIns I0 w (nI y) r e) w (z - 20 * y)
      by_cases zy : z / 20 = y
      · have e1 : z - 20 * y = z % 20 := by omega
        have g0 : hitC I0 r (y + 1) h w e cb z = false := by
          unfold hitC
          have z2 : ¬ y + 1 ≤ z / 20 := by omega
          simp [z2]
        rw [g0, if_neg (by simp), Nat.testBit_and, tb, e1]
        unfold hitC
        have z3 : y ≤ z / 20 := by omega
        have z4 : z / 20 < h := by omega
        rw [zy]
        by_cases q1 : r = 0
        · simp [q1]
        · by_cases q2 : z % 20 < w
          · have q3 : 20 * y ≤ z ∧ z < 20 * y + w := by omega
            have q4 : y < h := by omega
            simp [q1, q2, q3.1, q3.2, q4]
          · have q3 : ¬ z < 20 * y + w := by omega
            simp [q1, q2, q3]
      · rw [if_neg (c := ¬ r = 0 ∧ _) (by
          intro zz
          have := zz.2.1
          have := zz.2.2.1
          omega)]
        have g0 : hitC I0 r y h w e cb z = hitC I0 r (y + 1) h w e cb z := by
          unfold hitC
          have : decide (y ≤ z / 20) = decide (y + 1 ≤ z / 20) := decide_eq_decide.mpr (by omega)
          rw [this]
        rw [g0]
    · rw [k4, j4, cIns_same hs]
      by_cases q1 : q = y
      · subst q1
        rw [if_neg (by omega)]
        by_cases q2 : cr = 0
        · rw [if_neg (fun z => z.2 q2), if_neg (fun z => z.2.2 q2)]
        · rw [if_pos ⟨rfl, q2⟩, if_pos ⟨Nat.le_refl _, by omega, q2⟩]
      · rw [if_neg (c := q = y ∧ _) (fun z => q1 z.1)]
        by_cases q2 : y + 1 ≤ q ∧ q < h ∧ ¬ cr = 0
        · rw [if_pos q2, if_pos ⟨by omega, q2.2⟩]
        · rw [if_neg q2, if_neg (fun z => q2 ⟨by omega, z.2⟩)]
theorem cEndS_fr {e a : Nat} (h6 : a ≠ 6) (h7 : a ≠ 7) (h8 : a ≠ 8) (h9 : a ≠ 9) (h10 : a ≠ 10) : cEndS I e a = I a := by
  unfold cEndS cHold
  split
  · rfl
  · rw [xu_ne h6, xu_ne h10, xu_ne h9, xu_ne h8, xu_ne h7]
theorem cEndS_6 {e k : Nat} (hk : k ≠ 5) : cEndS I e 6 k = I 6 k := by
  unfold cEndS cHold
  split
  · rfl
  · rw [xu_eq, if_neg hk, xu_ne (by decide), xu_ne (by decide), xu_ne (by decide), xu_ne (by decide)]
theorem cEndS_5 {e : Nat} (he : I 6 5 = nI e) : cEndS I e 6 5 = nI (cEnd I e) := by
  unfold cEndS cEnd cHold
  split
  · exact he
  · rw [xu_eq, if_pos rfl]
theorem c_finishPath {s w h e : Nat} {r cr : Int32} {cb : Nat → Nat} (hcb : ∀ q, q < 20 → cb q < 2 ^ 20) (h1 : I 4 1 = nI w) (h2 : I 4 2 = nI h) (h3 : I 3 9 = cr) (h4 : I 6 5 = nI e) (hw : w ≤ 20) (hh : h ≤ 20) (hE : cEnd I e ≤ 120) (hs : s < 7) (hsv : I 3 8 = nI s) (hcl : ∀ q, q < 20 → I (17 + 3 * s + 2) q = nI (cb q)) : ∃ J, X (d + 2) none 56 (0, [some (.ref 3), some (.int r), none, none], [], (xSH, I, L, xR0)) = some (none, (xSH, J, L, xR0)) ∧ (∀ a, a ≠ 3 → a ≠ 5 → a ≠ 6 → a ≠ 7 → a ≠ 8 → a ≠ 9 → a ≠ 10 → a ≠ 11 → a ≠ 17 + 3 * s + 2 → J a = I a) ∧ (∀ k, k ≠ 9 → k ≠ 12 → k ≠ 13 → J 3 k = I 3 k) ∧ J 3 9 = 0 ∧ J 3 12 = I 3 12 + (if r = 0 then 0 else 1) ∧ J 3 13 = (if I 3 13 < I 6 6 then I 6 6 else I 3 13) ∧ J 6 5 = 0 ∧ J 6 6 = 0 ∧ J 6 7 = 0 ∧ J 6 10 = J 6 8 ∧ J 6 11 = J 6 9 ∧ (∀ z, J 5 z = if hitC (cEndS I e) r 0 h w (cEnd I e) cb z = true then I (17 + 3 * s) 2 else I 5 z) ∧ (∀ q, J (17 + 3 * s + 2) q = if q < h ∧ ¬ cr = 0 then nI (cb q &&& bts (cIns (cEndS I e) w (nI q) cr (cEnd I e)) w) else I (17 + 3 * s + 2) q) := by
  have fr : ∀ a, a ≠ 6 → a ≠ 7 → a ≠ 8 → a ≠ 9 → a ≠ 10 → cEndS I e a = I a := fun a a6 a7 a8 a9 a10 => cEndS_fr a6 a7 a8 a9 a10
  have f3 : cEndS I e 3 = I 3 := fr 3 (by decide) (by decide) (by decide) (by decide) (by decide)
  have f4 : cEndS I e 4 = I 4 := fr 4 (by decide) (by decide) (by decide) (by decide) (by decide)
  have f5 : cEndS I e 5 = I 5 := fr 5 (by decide) (by decide) (by decide) (by decide) (by decide)
  have fc : cEndS I e (17 + 3 * s + 2) = I (17 + 3 * s + 2) := fr _ (by omega) (by omega) (by omega) (by omega) (by omega)
  have fs : cEndS I e (17 + 3 * s) = I (17 + 3 * s) := fr _ (by omega) (by omega) (by omega) (by omega) (by omega)
  have hctx : finCtx (cEndS I e) s w h (cEnd I e) cr := ⟨by rw [f4]; exact h1, by rw [f4]; exact h2, by rw [f3]; exact h3, cEndS_5 h4, hw, hh, hE, hs⟩
  obtain ⟨J, j1, j2, j3, j4⟩ := c_fin_loop (d := d) (L := L) (r := r) (I0 := cEndS I e) hcb h 0 (cEndS I e) (by omega) hctx ⟨rfl, rfl, rfl, rfl⟩ (fun q _ q2 => by rw [fc]; exact hcl q q2)
  have n : ∀ a, a < 17 → a ≠ 17 + 3 * s + 2 := fun a ha => by omega
  have J3 : J 3 = I 3 := (j2 3 (by decide) (by decide) (n 3 (by decide))).trans f3
  have J6 : J 6 = cEndS I e 6 := j2 6 (by decide) (by decide) (n 6 (by decide))
  have J66 : J 6 6 = I 6 6 := by rw [J6, cEndS_6 (by decide)]
  have main : X (d + 2) none 56 (0, [some (.ref 3), some (.int r), none, none], [], (xSH, I, L, xR0)) = some (none, (xSH, cDrop (xu (xu (xu J 3 12 (I 3 12 + (if r = 0 then 0 else 1))) 3 13 (if I 3 13 < I 6 6 then I 6 6 else I 3 13)) 3 9 0), L, xR0)) := by
    simp only [e_56_0, e_56_1, e_56_4, e_56_7, e_56_8, e_56_11, e_56_12, e_56_13, c_endSubpath h4 hE, c_state hs (show cEndS I e 3 8 = nI s by rw [f3]; exact hsv), Option.bind_some, Option.toList_some, Option.toList_none, List.cons_append, List.nil_append]
    rw [show (0 : Int32) = nI 0 from rfl, j1]
    by_cases gr : r = 0
    · subst gr
      simp (decide := true) only [e_56_0, e_56_1, e_56_4, e_56_7, e_56_8, e_56_11, e_56_12, e_56_13, e_56_15, e_56_16, e_56_19, e_56_22, e_56_25, e_56_26, e_56_29, e_56_30, e_56_33, e_56_34, e_56_35, e_56_38, e_56_39, e_56_40, e_56_43, e_56_46, e_56_47, e_56_50, e_56_54, e_56_56, e_56_57, e_56_61, e_56_64, e_56_65, e_56_68, e_56_71, e_56_75, e_56_76, e_56_78, e_56_79, e_56_82, e_56_83, e_56_84, e_56_87, e_56_90, e_56_91, e_56_94, e_56_97, e_56_99, e_56_102, e_56_105, e_56_106, e_56_107, e_56_110, e_56_111, e_56_114, e_56_115, e_56_118, e_56_119, e_56_120, e_56_123, e_56_124, e_56_125, e_56_128, e_56_129, e_56_132, e_56_135, e_56_138, e_56_141, e_56_142, e_56_143, e_56_146, e_56_147, e_56_150, e_56_153, xu_ne, xu_eq, xs_ne, xs_at, ne_eq, reduceIte, if_true, if_false, not_false_eq_true, Option.bind_some, Option.toList_some, Option.toList_none, List.cons_append, List.nil_append, c_max, c_drop, J3, J66]
      rfl
    · simp (decide := true) only [e_56_0, e_56_1, e_56_4, e_56_7, e_56_8, e_56_11, e_56_12, e_56_13, e_56_15, e_56_16, e_56_19, e_56_22, e_56_25, e_56_26, e_56_29, e_56_30, e_56_33, e_56_34, e_56_35, e_56_38, e_56_39, e_56_40, e_56_43, e_56_46, e_56_47, e_56_50, e_56_54, e_56_56, e_56_57, e_56_61, e_56_64, e_56_65, e_56_68, e_56_71, e_56_75, e_56_76, e_56_78, e_56_79, e_56_82, e_56_83, e_56_84, e_56_87, e_56_90, e_56_91, e_56_94, e_56_97, e_56_99, e_56_102, e_56_105, e_56_106, e_56_107, e_56_110, e_56_111, e_56_114, e_56_115, e_56_118, e_56_119, e_56_120, e_56_123, e_56_124, e_56_125, e_56_128, e_56_129, e_56_132, e_56_135, e_56_138, e_56_141, e_56_142, e_56_143, e_56_146, e_56_147, e_56_150, e_56_153, xu_ne, xu_eq, xs_ne, xs_at, ne_eq, reduceIte, if_true, if_false, not_false_eq_true, Option.bind_some, Option.toList_some, Option.toList_none, List.cons_append, List.nil_append, c_max, c_drop, J3, J66, gr, show ¬ r = nI 0 from gr]
      rfl
  refine ⟨_, main, fun a a3 a5 a6 a7 a8 a9 a10 a11 ac => ?_, fun k k9 k12 k13 => ?_, ?_, ?_, ?_, ?_, ?_, ?_, ?_, ?_, fun z => ?_, fun q => ?_⟩
  · unfold cDrop
    rw [xu_ne a6, xu_ne a6, xu_ne a6, xu_ne a6, xu_ne a6, xu_ne a3, xu_ne a3, xu_ne a3, j2 a a5 a11 ac, fr a a6 a7 a8 a9 a10]
  · unfold cDrop
    simp (decide := true) only [xu_ne, xu_eq, xs_ne, xs_at, ne_eq, reduceIte, if_true, if_false, not_false_eq_true, k9, k12, k13, J3]
  · simp (decide := true) only [cDrop, xu_ne, xu_eq, xs_ne, xs_at, ne_eq, reduceIte, if_true, if_false, not_false_eq_true]
  · simp (decide := true) only [cDrop, xu_ne, xu_eq, xs_ne, xs_at, ne_eq, reduceIte, if_true, if_false, not_false_eq_true]
  · simp (decide := true) only [cDrop, xu_ne, xu_eq, xs_ne, xs_at, ne_eq, reduceIte, if_true, if_false, not_false_eq_true]
  · simp (decide := true) only [cDrop, xu_ne, xu_eq, xs_ne, xs_at, ne_eq, reduceIte, if_true, if_false, not_false_eq_true]
  · simp (decide := true) only [cDrop, xu_ne, xu_eq, xs_ne, xs_at, ne_eq, reduceIte, if_true, if_false, not_false_eq_true]
  · simp (decide := true) only [cDrop, xu_ne, xu_eq, xs_ne, xs_at, ne_eq, reduceIte, if_true, if_false, not_false_eq_true]
  · simp (decide := true) only [cDrop, xu_ne, xu_eq, xs_ne, xs_at, ne_eq, reduceIte, if_true, if_false, not_false_eq_true]
  · simp (decide := true) only [cDrop, xu_ne, xu_eq, xs_ne, xs_at, ne_eq, reduceIte, if_true, if_false, not_false_eq_true]
  · have e1 : cDrop (xu (xu (xu J 3 12 (I 3 12 + (if r = 0 then 0 else 1))) 3 13 (if I 3 13 < I 6 6 then I 6 6 else I 3 13)) 3 9 0) 5 z = J 5 z := by simp (decide := true) only [cDrop, xu_ne, xu_eq, xs_ne, xs_at, ne_eq, reduceIte, if_true, if_false, not_false_eq_true]
    rw [e1, j3, fs, f5]
  · have e1 : cDrop (xu (xu (xu J 3 12 (I 3 12 + (if r = 0 then 0 else 1))) 3 13 (if I 3 13 < I 6 6 then I 6 6 else I 3 13)) 3 9 0) (17 + 3 * s + 2) q = J (17 + 3 * s + 2) q := by
      unfold cDrop
      rw [xu_ne (by omega), xu_ne (by omega), xu_ne (by omega), xu_ne (by omega), xu_ne (by omega), xu_ne (by omega), xu_ne (by omega), xu_ne (by omega)]
    rw [e1, j4, fc]
    simp only [Nat.zero_le, true_and]
end FJ
