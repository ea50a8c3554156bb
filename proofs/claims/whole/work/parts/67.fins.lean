section OF
variable {d : Nat} {C C' M M' : Nat → Nat → Int32} {L L' : Nat → Nat → Int64} {n w h s s' c p e g : Nat} {q : Int32}
theorem d20 {x y : Nat} (hx : x < 20) : (20 * y + x) / 20 = y ∧ (20 * y + x) % 20 = x := by omega
theorem b_10 {x : Int32} (h : x = 0 ∨ x = 1) : decide (x = 1) = !decide (x = 0) := by rcases h with rfl | rfl <;> decide
theorem opS_fin {o k r : Int32} (hD : rD C M L n w h s c p) (h0 : cF C s o = 0) (hnp : cNP o = true) (hpr : cPr C s o = C) (hcs : ∀ I L, X (d + 3) none 44 (0, [some (.ref 3), some (.int o)], [], (xSH, I, L, xR0)) = some (none, (xSH, I, L, xR0))) (hbp : ∀ I L, X (d + 3) none 47 (0, [some (.ref 3), some (.int o)], [], (xSH, I, L, xR0)) = some (none, (xSH, I, L, xR0))) (hup : ∀ I J L, X (d + 2) none 56 (0, [some (.ref 3), some (.int r), none, none], [], (xSH, I, L, xR0)) = some (none, (xSH, J, L, xR0)) → X (d + 3) none 55 (0, [some (.ref 3), some (.int o)], [], (xSH, I, L, xR0)) = some (none, (xSH, J, L, xR0))) (hact : ∀ (M M1 : Nat → Nat → Int32) (L L1 : Nat → Nat → Int64), X (d + 3) none 101 (0, [some (.ref 38), some (.int k), none, none, none], [], (xSH, M, L, xR0)) = some (none, (xSH, M1, L1, xR0)) → X (d + 4) none 92 (0, [some (.ref 38), some (.int k), none, none, none, none, none, none, none, none, none, none, none, none, none], [], (xSH, M, L, xR0)) = some (none, (xSH, M1, L1, xR0))) (hrk : (if r = 0 then (0 : Int32) else 1) = if k < 13 then 1 else 0) (hr0 : decide (k < 13) = !decide (r = 0)) (hr2 : decide (k = 12) = decide (r = 2)) : opS d C M L n w h p o k q := by
  intro L0 L1 hL
  have hx := rD_x hD
  obtain ⟨f1, f2, f3, f4, f5, f6, f7⟩ := cF_0 h0
  have hE := rD_frL hD hL
  obtain ⟨⟨hT, hV, hP, h38, hs7, hcl, hdr, -⟩, hf, hS, hO, hN, hcp, hcut, hcr, hpa⟩ := id hE
  obtain ⟨w1, w2, w3, w4, hw, hh, hpg⟩ := id hP
  obtain ⟨x1, m18, e, g, hp⟩ := rPa_1 hpa (fun z => f3 ⟨z, hnp⟩)
  have he := @cEnd_le C e
  obtain ⟨p5, p16, p6, p17, hg, hE2, -⟩ := id hp
  obtain ⟨-, iE, hR⟩ := rPe_end hp
  obtain ⟨⟨cb, hcb⟩, h01⟩ := id hcl
  obtain ⟨J, hJ, j1, j2, j3, j4, j5, j6, j7, j8, j9, j10, j11, j12⟩ := c_finishPath (d := d) (L := L0) (I := C) (r := r) (cr := C 3 9) (fun z hz => (hcb z hz).2.1) w1 w3 rfl p5 hw hh (by omega) hs7 h38 (fun z hz => (hcb z hz).1)
  obtain ⟨K, hK, k1, k2, k3, k4, k5, k6, k7, k8⟩ := m_finish (d := d + 1) (L := L1) (I := M) (o := k) (cut := C 3 9) (by rw [m18]; decide) w2 w4 hcut.symm p16 hw hh (by omega)
  rw [iE] at k7 k8
  have eins : ∀ (rr : Int32) (x y : Nat), x < w → y < 20 → cIns (cEndS C e) w (nI y) rr (cEnd C e) x = mIns (mMv L1 e) (cEnd C e) (nI x) (nI y) (decide (rr = 2)) := fun rr x y hx hy => ins_eq hx hw hy (by omega) hR
  have ka : ∀ a, a ≠ 3 → xu J 3 7 0 a = J a := fun a ha => xu_ne ha
  have k3' : ∀ b, b ≠ 7 → xu J 3 7 0 3 b = J 3 b := fun b hb => by rw [xu_eq, if_neg hb]
  have kb : ∀ b, b ≠ 25 → xu K 38 25 0 38 b = K 38 b := fun b hb => by rw [xu_eq, if_neg hb]
  have kc : ∀ a, a ≠ 38 → xu K 38 25 0 a = K a := fun a ha => xu_ne ha
  have l4 := @mMv_42 L1 e
  have hcut' : ∀ (x y : Nat), x < w → y < h → cutM M (mMv L1 e) (cEnd C e) (C 3 9) x y = (!decide (C 3 9 = 0) && (decide (M 41 (20 * y + x) = 1) && !cIns (cEndS C e) w (nI y) (C 3 9) (cEnd C e) x)) := fun x y hx hy => by
    unfold cutM
    rw [eins (C 3 9) x y hx (by omega), ← b_10 (h01 _ (by omega))]
    congr 1
    rcases hcr with z | z | z <;> rw [z] <;> decide
  refine ⟨_, _, _, s, c_take0 (J1 := C) (J2 := C) (J3 := J) hs7 h38 hx h0 (by rw [hpr]; exact hcs _ _) (hbp _ _) (hup _ _ _ hJ), hact _ _ _ _ hK, ⟨⟨rT_fr hT ?_ ?_ ?_ ?_, ?_, ⟨?_, ?_, ?_, ?_, hw, hh, fun z hz => ?_⟩, ?_, hs7, ⟨⟨fun y => if y < h ∧ ¬ C 3 9 = 0 then cb y &&& bts (cIns (cEndS C e) w (nI y) (C 3 9) (cEnd C e)) w else cb y, fun y hy => ⟨?_, ?_, fun x => ?_⟩⟩, fun z hz => ?_⟩, ?_, g, hg, ?_⟩, ?_, ⟨?_, fun b hb => ?_, ?_⟩, rO_fr hw hO (fun x h1 h2 => ?_) ?_ ?_ l4.2, rN_0 ?_ ?_, ⟨Nat.zero_le _, hcp.2⟩, ?_, Or.inl ?_, ?_, Or.inl ⟨?_, ?_, ?_, ?_, ?_, ?_⟩⟩, fun a ha => ?_, fun a ha => ?_⟩
  · rw [ka 1 (by decide), j1 1 (by decide) (by decide) (by decide) (by decide) (by decide) (by decide) (by decide) (by decide) (by omega)]
  · rw [ka 2 (by decide), j1 2 (by decide) (by decide) (by decide) (by decide) (by decide) (by decide) (by decide) (by decide) (by omega)]
  · rw [kb 1 (by decide), k2 1 (by decide) (by decide) (by decide) (by decide) (by decide)]
  · rw [kc 39 (by decide), k1 39 (by decide) (by decide) (by decide)]
  · obtain ⟨v1, v2, v3, v4, v5⟩ := hV
    unfold rV
    rw [k3' 10 (by decide), k3' 11 (by decide), k3' 12 (by decide), k3' 13 (by decide), k3' 14 (by decide), kb 26 (by decide), kb 27 (by decide), kb 28 (by decide), kb 29 (by decide), kb 30 (by decide), j2 10 (by decide) (by decide) (by decide), j2 11 (by decide) (by decide) (by decide), j2 14 (by decide) (by decide) (by decide), k2 26 (by decide) (by decide) (by decide) (by decide) (by decide), k2 27 (by decide) (by decide) (by decide) (by decide) (by decide), k2 30 (by decide) (by decide) (by decide) (by decide) (by decide), j4, j5, k5, k6, hrk, v3, v4, p6, p17]
    refine ⟨v1, v2, rfl, ?_, v5⟩
    by_cases z : nI g ≤ M 38 29
    · rw [if_pos z, if_neg (Int32.not_lt.mpr z)]
    · rw [if_neg z, if_pos (Int32.not_le.mp z)]
  · rw [ka 4 (by decide), j1 4 (by decide) (by decide) (by decide) (by decide) (by decide) (by decide) (by decide) (by decide) (by omega), w1]
  · rw [kb 2 (by decide), k2 2 (by decide) (by decide) (by decide) (by decide) (by decide), w2]
  · rw [ka 4 (by decide), j1 4 (by decide) (by decide) (by decide) (by decide) (by decide) (by decide) (by decide) (by decide) (by omega), w3]
  · rw [kb 3 (by decide), k2 3 (by decide) (by decide) (by decide) (by decide) (by decide), w4]
  · rw [ka 5 (by decide), kc 40 (by decide), j11, k7, hS.2.2, hpg z hz]
    have hz20 : z / 20 < 20 := by omega
    have hmod : 20 * (z / 20) + z % 20 = z := by omega
    have key : (hitC (cEndS C e) r 0 h w (cEnd C e) cb z = true) = (z / 20 < h ∧ z % 20 < w ∧ hitM M (mMv L1 e) (cEnd C e) k (z % 20) (z / 20) = true) := by
      apply propext
      unfold hitC hitM
      rw [hr0, hr2]
      by_cases t1 : z / 20 < h
      · by_cases t2 : z % 20 < w
        · rw [eins r (z % 20) (z / 20) t2 hz20, (hcb (z / 20) hz20).2.2 (z % 20), hmod, ← b_10 (h01 z hz)]
          simp only [t1, t2, decide_true, Bool.true_and, true_and, Nat.zero_le]
          cases decide (r = 0) <;> cases decide (M 41 z = 1) <;> cases mIns (mMv L1 e) (cEnd C e) (nI (z % 20)) (nI (z / 20)) (decide (r = 2)) <;> decide
        · simp only [t2, decide_false, Bool.false_and, Bool.and_false, false_and, and_false, Bool.false_eq_true]
      · simp only [t1, decide_false, Bool.false_and, Bool.and_false, false_and, and_false, Bool.false_eq_true]
    simp only [key]
  · rw [k3' 8 (by decide), j2 8 (by decide) (by decide) (by decide), h38]
  · rw [ka _ (by omega), j12]
    show (if _ then _ else _) = nI (if _ then _ else _)
    by_cases z : y < h ∧ ¬ C 3 9 = 0
    · rw [if_pos z, if_pos z]
    · rw [if_neg z, if_neg z]
      exact (hcb y hy).1
  · have := (hcb y hy).2.1
    show (if _ then _ else _) < _
    split
    · exact Nat.lt_of_le_of_lt Nat.and_le_left this
    · exact this
  · rw [kc 41 (by decide), k8]
    show Nat.testBit (if _ then _ else _) x = _
    by_cases t2 : x < w
    · obtain ⟨e1, e2⟩ := @d20 x y (by omega)
      rw [e1, e2]
      by_cases t1 : y < h
      · rw [hcut' x y t2 t1]
        by_cases t3 : C 3 9 = 0
        · rw [if_neg (fun z => z.2 t3), (hcb y hy).2.2 x]
          simp only [t1, t2, t3, decide_true, Bool.not_true, Bool.false_and, Bool.false_eq_true, and_false, if_false]
        · rw [if_pos ⟨t1, t3⟩, Nat.testBit_and, bts_bit, (hcb y hy).2.2 x]
          simp only [t1, t2, t3, decide_true, decide_false, Bool.not_false, Bool.true_and, true_and]
          by_cases t4 : M 41 (20 * y + x) = 1
          · simp only [t4, decide_true, Bool.true_and]
            cases cIns (cEndS C e) w (nI y) (C 3 9) (cEnd C e) x <;> simp (decide := true)
          · simp only [t4, decide_false, Bool.false_and, Bool.false_eq_true, if_false]
      · rw [if_neg (fun z => t1 z.1), (hcb y hy).2.2 x]
        simp only [t1, decide_false, Bool.false_and]
    · simp only [t2, decide_false, Bool.false_and, Bool.and_false]
      split
      · rw [Nat.testBit_and, (hcb y hy).2.2 x]
        simp only [t2, decide_false, Bool.false_and, Bool.and_false]
      · rw [(hcb y hy).2.2 x]
        simp only [t2, decide_false, Bool.false_and, Bool.and_false]
  · rw [kc 41 (by decide), k8]
    split
    · exact Or.inl rfl
    · exact h01 z hz
  · rw [kb 31 (by decide), k2 31 (by decide) (by decide) (by decide) (by decide) (by decide)]
    exact hdr
  · rw [kb 17 (by decide), k2 17 (by decide) (by decide) (by decide) (by decide) (by decide), p17]
  · rw [k3' 10 (by decide), j2 10 (by decide) (by decide) (by decide), hf]
  · rw [kb 11 (by decide), k2 11 (by decide) (by decide) (by decide) (by decide) (by decide)]
    exact hS.1
  · rw [ka _ (by omega), j1 _ (by omega) (by omega) (by omega) (by omega) (by omega) (by omega) (by omega) (by omega) (by omega), l4.1]
    exact hS.2.1 b hb
  · rw [ka _ (by omega), j1 _ (by omega) (by omega) (by omega) (by omega) (by omega) (by omega) (by omega) (by omega) (by omega), kb 7 (by decide), k2 7 (by decide) (by decide) (by decide) (by decide) (by decide)]
    exact hS.2.2
  · rw [ka _ (by omega), j1 _ (by omega) (by omega) (by omega) (by omega) (by omega) (by omega) (by omega) (by omega) (by omega)]
  · rw [kc 44 (by decide), k1 44 (by decide) (by decide) (by decide)]
  · rw [kc 45 (by decide), k1 45 (by decide) (by decide) (by decide)]
  · rw [xu_eq, if_pos rfl]
  · rw [xu_eq, if_pos rfl]
  · rw [k3' 9 (by decide), kb 19 (by decide), j3, k4]
  · rw [k3' 9 (by decide), j3]
  · rw [ka 6 (by decide), kb 18 (by decide), j8, k3]
  · rw [ka 6 (by decide), j8]
  · rw [ka 6 (by decide), j6]
  · rw [ka 6 (by decide), j7]
  · rw [ka 6 (by decide), j9]
  · rw [ka 6 (by decide), j10]
  · rw [k3' 9 (by decide), j3]
  · rw [ka a (by omega), j1 a (by omega) (by omega) (by omega) (by omega) (by omega) (by omega) (by omega) (by omega) (by omega)]
  · exact k1 a (by omega) (by omega) (by omega)
theorem opS_f (hD : rD C M L n w h s c p) (h0 : cF C s 102 = 0) : opS d C M L n w h p 102 11 q :=
  opS_fin (r := 1) hD h0 rfl rfl (fun _ _ => c_cs_d (by decide) (by decide) (by decide) (by decide)) (fun _ _ => c_bp_d (by decide) (by decide) (by decide) (by decide) (by decide)) (fun _ _ _ => c_up_f) (fun _ _ _ _ => m_act_11) (by decide) (by decide) (by decide)
theorem opS_fs (hD : rD C M L n w h s c p) (h0 : cF C s 10854 = 0) : opS d C M L n w h p 10854 12 q :=
  opS_fin (r := 2) hD h0 rfl rfl (fun _ _ => c_cs_d (by decide) (by decide) (by decide) (by decide)) (fun _ _ => c_bp_d (by decide) (by decide) (by decide) (by decide) (by decide)) (fun _ _ _ => c_up_fs) (fun _ _ _ _ => m_act_12) (by decide) (by decide) (by decide)
theorem opS_n (hD : rD C M L n w h s c p) (h0 : cF C s 110 = 0) : opS d C M L n w h p 110 13 q :=
  opS_fin (r := 0) hD h0 rfl rfl (fun _ _ => c_cs_d (by decide) (by decide) (by decide) (by decide)) (fun _ _ => c_bp_d (by decide) (by decide) (by decide) (by decide) (by decide)) (fun _ _ _ => c_up_n) (fun _ _ _ _ => m_act_13) (by decide) (by decide) (by decide)
end OF
