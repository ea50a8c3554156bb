section GE
variable {d : Nat} {I : Nat → Nat → Int32} {L : Nat → Nat → Int64} {n w h s : Nat}
theorem c_len : X d none 10 (0, [some (.ref 0)], [], (xSH, I, L, xR0)) = some (some (.int (I 1 1)), (xSH, I, L, xR0)) := by
  simp only [e_10_0, e_10_1, e_10_4, e_10_7]
theorem m_len : X d none 75 (0, [some (.ref 38)], [], (xSH, I, L, xR0)) = some (some (.int (I 38 1)), (xSH, I, L, xR0)) := by
  simp only [e_75_0, e_75_1, e_75_4]
theorem c_clear : X d none 11 (0, [some (.ref 0)], [], (xSH, I, L, xR0)) = some (none, (xSH, xu I 1 1 0, L, xR0)) := by
  simp only [e_11_0, e_11_1, e_11_4, e_11_5, e_11_8]
theorem m_clear : X d none 76 (0, [some (.ref 38)], [], (xSH, I, L, xR0)) = some (none, (xSH, xu I 38 1 0, L, xR0)) := by
  simp only [e_76_0, e_76_1, e_76_2, e_76_5]
theorem c_flt : X d none 61 (0, [some (.ref 0)], [], (xSH, I, L, xR0)) = some (some (.int (I 3 10)), (xSH, I, L, xR0)) := by
  simp only [e_61_0, e_61_1, e_61_4, e_61_7]
theorem m_flt : X d none 103 (0, [some (.ref 38)], [], (xSH, I, L, xR0)) = some (some (.int (I 38 26)), (xSH, I, L, xR0)) := by
  simp only [e_103_0, e_103_1, e_103_4]
theorem c_flA : X d none 62 (0, [some (.ref 0)], [], (xSH, I, L, xR0)) = some (some (.int (I 3 11)), (xSH, I, L, xR0)) := by
  simp only [e_62_0, e_62_1, e_62_4, e_62_7]
theorem m_flA : X d none 104 (0, [some (.ref 38)], [], (xSH, I, L, xR0)) = some (some (.int (I 38 27)), (xSH, I, L, xR0)) := by
  simp only [e_104_0, e_104_1, e_104_4]
theorem c_fls : X d none 67 (0, [some (.ref 0)], [], (xSH, I, L, xR0)) = some (some (.int (I 3 12)), (xSH, I, L, xR0)) := by
  simp only [e_67_0, e_67_1, e_67_4, e_67_7]
theorem m_fls : X d none 107 (0, [some (.ref 38)], [], (xSH, I, L, xR0)) = some (some (.int (I 38 28)), (xSH, I, L, xR0)) := by
  simp only [e_107_0, e_107_1, e_107_4]
theorem c_edg : X d none 68 (0, [some (.ref 0)], [], (xSH, I, L, xR0)) = some (some (.int (I 3 13)), (xSH, I, L, xR0)) := by
  simp only [e_68_0, e_68_1, e_68_4, e_68_7]
theorem m_edg : X d none 108 (0, [some (.ref 38)], [], (xSH, I, L, xR0)) = some (some (.int (I 38 29)), (xSH, I, L, xR0)) := by
  simp only [e_108_0, e_108_1, e_108_4]
theorem c_dep : X d none 69 (0, [some (.ref 0)], [], (xSH, I, L, xR0)) = some (some (.int (I 3 14)), (xSH, I, L, xR0)) := by
  simp only [e_69_0, e_69_1, e_69_4, e_69_7]
theorem m_dep : X d none 109 (0, [some (.ref 38)], [], (xSH, I, L, xR0)) = some (some (.int (I 38 30)), (xSH, I, L, xR0)) := by
  simp only [e_109_0, e_109_1, e_109_4]
theorem c_pix {x y : Int32} (hw : w ≤ 20) (hh : h ≤ 20) (h1 : I 4 1 = nI w) (h2 : I 4 2 = nI h) : X (d + 1) none 63 (0, [some (.ref 0), some (.int x), some (.int y)], [], (xSH, I, L, xR0)) = some (some (.int (vAt (I 5) w h x y)), (xSH, I, L, xR0)) := by
  simp only [e_63_0, e_63_1, e_63_4, e_63_7, e_63_8, e_63_9, e_63_12, c_valueAt hw hh h1 h2, Option.bind_some, Option.toList_some, Option.toList_none, List.cons_append, List.nil_append]
theorem c_area {v : Int32} (hw : w ≤ 20) (hh : h ≤ 20) (h1 : I 4 1 = nI w) (h2 : I 4 2 = nI h) : X (d + 1) none 65 (0, [some (.ref 0), some (.int v)], [], (xSH, I, L, xR0)) = some (some (.int (nI (cnt2 (pQ (I 5) v) w h))), (xSH, I, L, xR0)) := by
  simp only [e_65_0, e_65_1, e_65_4, e_65_7, e_65_8, e_65_11, c_countOf hw hh h1 h2, Option.bind_some, Option.toList_some, Option.toList_none, List.cons_append, List.nil_append]
theorem c_clp {cb : Nat → Nat} (hs : s < 7) (h8 : I 3 8 = nI s) (hcl : ∀ q, q < 20 → I (17 + 3 * s + 2) q = nI (cb q) ∧ cb q < 2 ^ 20) : X (d + 2) none 70 (0, [some (.ref 0)], [], (xSH, I, L, xR0)) = some (some (.int (nI (cnt2 (fun y x => (cb y).testBit x) 20 20))), (xSH, I, L, xR0)) := by
  have ha := (xSt_of s hs).1
  simp only [e_70_0, e_70_1, e_70_4, e_70_7 ha, e_70_10, c_state hs h8, c_clipSize hs hcl, Option.bind_some, Option.toList_some, Option.toList_none, List.cons_append, List.nil_append]
theorem cnt2_congr {P Q : Nat → Nat → Bool} {w : Nat} : ∀ y, (∀ a b, a < y → b < w → P a b = Q a b) → cnt2 P w y = cnt2 Q w y
  | 0, _ => rfl
  | y + 1, hh => by
    rw [cnt2, cnt2, cnt2_congr y (fun a b h1 h2 => hh a b (by omega) h2), cnt_congr w (fun x hx => hh y x (by omega) hx)]
theorem cnt2_w {P : Nat → Nat → Bool} {w m : Nat} : ∀ y, (∀ a b, a < y → w ≤ b → P a b = false) → cnt2 P (w + m) y = cnt2 P w y
  | 0, _ => rfl
  | y + 1, hh => by
    rw [cnt2, cnt2, cnt2_w y (fun a b h1 h2 => hh a b (by omega) h2), cnt_ext m (fun x hx => hh y x (by omega) hx)]
theorem cnt2_h {P : Nat → Nat → Bool} {w h : Nat} : ∀ m, (∀ a b, h ≤ a → a < h + m → P a b = false) → cnt2 P w (h + m) = cnt2 P w h
  | 0, _ => rfl
  | m + 1, hh => by
    show cnt2 P w (h + m + 1) = _
    rw [cnt2, cnt2_h m (fun a b h1 h2 => hh a b h1 (by omega)), cnt_zero w (fun x _ => hh (h + m) x (by omega) (by omega))]
    rfl
theorem pix_eq (hP : rP I I w h) {x y : Int32} : vAt (I 5) w h x y = vAt (I 40) w h x y := by
  obtain ⟨-, -, -, -, hw, hh, hp⟩ := hP
  unfold vAt
  by_cases h1 : x < 0
  · rw [if_pos h1, if_pos h1]
  · by_cases h2 : nI w ≤ x
    · rw [if_neg h1, if_neg h1, if_pos h2, if_pos h2]
    · by_cases h3 : y < 0
      · rw [if_neg h1, if_neg h1, if_neg h2, if_neg h2, if_pos h3, if_pos h3]
      · by_cases h4 : y < nI h
        · have := (v_in hw hh h1 h2 h3 h4).1
          rw [if_neg h1, if_neg h1, if_neg h2, if_neg h2, if_neg h3, if_neg h3, if_pos h4, if_pos h4]
          exact hp _ (Nat.lt_of_not_le fun z => this (Or.inr z))
        · rw [if_neg h1, if_neg h1, if_neg h2, if_neg h2, if_neg h3, if_neg h3, if_neg h4, if_neg h4]
theorem area_eq (hP : rP I I w h) {v : Int32} : cnt2 (pQ (I 5) v) w h = cnt2 (pQ (I 40) v) w h := by
  obtain ⟨-, -, -, -, hw, hh, hp⟩ := hP
  refine cnt2_congr h fun a b h1 h2 => ?_
  unfold pQ
  rw [hp _ (by omega)]
theorem clp_eq {cb : Nat → Nat} {mc : Nat → Int32} {dr : Int32} (hw : w ≤ 20) (hh : h ≤ 20) (hcb : ∀ q, q < 20 → ∀ x, (cb q).testBit x = (decide (q < h) && (decide (x < w) && decide (mc (20 * q + x) = 1)))) (h01 : ∀ q, q < 400 → mc q = 0 ∨ mc q = 1) (hd : 0 < h → dr = 1) : cnt2 (fun y x => (cb y).testBit x) 20 20 = cnt2 (kQ mc dr) w h := by
  have e1 : cnt2 (fun y x => (cb y).testBit x) 20 20 = cnt2 (fun y x => (cb y).testBit x) 20 h := by
    have := cnt2_h (P := fun y x => (cb y).testBit x) (w := 20) (h := h) (20 - h) (fun a b h1 h2 => by
      show (cb a).testBit b = false
      rw [hcb a (by omega)]
      simp only [show ¬ a < h by omega, decide_false, Bool.false_and])
    rw [show h + (20 - h) = 20 by omega] at this
    exact this
  have e2 : cnt2 (fun y x => (cb y).testBit x) 20 h = cnt2 (fun y x => (cb y).testBit x) w h := by
    have := cnt2_w (P := fun y x => (cb y).testBit x) (w := w) (m := 20 - w) h (fun a b h1 h2 => by
      show (cb a).testBit b = false
      rw [hcb a (by omega)]
      simp only [show ¬ b < w by omega, decide_false, Bool.false_and, Bool.and_false])
    rw [show w + (20 - w) = 20 by omega] at this
    exact this
  rw [e1, e2]
  refine cnt2_congr h fun a b h1 h2 => ?_
  show (cb a).testBit b = _
  rw [hcb a (by omega), hd (by omega)]
  unfold kQ
  rw [b_10 (h01 _ (by omega))]
  simp (decide := true) only [h1, h2, decide_true, Bool.true_and, decide_false, Bool.not_false]
theorem and255 (x : Int32) : ∃ c, c < 256 ∧ x &&& 255 = nI c := by
  refine ⟨(x.toBitVec &&& 255#32).toNat, ?_, ?_⟩
  · rw [BitVec.toNat_and]
    exact Nat.lt_of_le_of_lt Nat.and_le_right (by decide)
  · apply Int32.toBitVec_inj.mp
    rw [Int32.toBitVec_and]
    show _ = BitVec.ofNat 32 _
    rw [BitVec.ofNat_toNat, BitVec.setWidth_eq]
    rfl
theorem byt_ok {v : Int32} {i : Nat} (hi : i < fedN v) : ∃ c, 0 < c ∧ c < 256 ∧ byt v i = nI c := by
  have hz : ¬ byt v i = 0 := by
    unfold fedN at hi
    split at hi
    · omega
    · split at hi
      · obtain rfl : i = 0 := by omega
        assumption
      · split at hi
        · obtain rfl | rfl : i = 0 ∨ i = 1 := by omega
          · assumption
          · assumption
        · split at hi
          · obtain rfl | rfl | rfl : i = 0 ∨ i = 1 ∨ i = 2 := by omega
            · assumption
            · assumption
            · assumption
          · obtain rfl | rfl | rfl | rfl : i = 0 ∨ i = 1 ∨ i = 2 ∨ i = 3 := by omega
            · assumption
            · assumption
            · assumption
            · assumption
  obtain ⟨c, h1, h2⟩ := and255 (v >>> ((8 * nI i) &&& 31))
  refine ⟨c, ?_, h1, h2⟩
  rcases Nat.eq_zero_or_pos c with z | z
  · subst z
    exact absurd h2 hz
  · exact z
theorem feed_R {v : Int32} (hR : rRest I I n w h s) (hn : ¬ 400 < n + fedN v) : rRest (fedI (fedI I 1 2 1 v n) 38 39 1 v n) (fedI (fedI I 1 2 1 v n) 38 39 1 v n) (n + fedN v) w h s := by
  obtain ⟨⟨t1, t2, t3, t4, t5⟩, hV, hP, h38, hs7, hcl, hdr, hg⟩ := hR
  have k1 : ∀ a, a ≠ 1 → a ≠ 2 → a ≠ 38 → a ≠ 39 → fedI (fedI I 1 2 1 v n) 38 39 1 v n a = I a := fun a h1 h2 h3 h4 => by
    unfold fedI
    rw [xu_ne h3, xs_ne h4, xu_ne h1, xs_ne h2]
  have k8 : ∀ k, k ≠ 1 → fedI (fedI I 1 2 1 v n) 38 39 1 v n 38 k = I 38 k := fun k hk => by
    unfold fedI
    rw [xu_eq, if_neg hk, xs_ne (by decide), xu_ne (by decide), xs_ne (by decide)]
  have k2 : ∀ q, fedI (fedI I 1 2 1 v n) 38 39 1 v n 2 q = if n ≤ q ∧ q < n + fedN v then byt v (q - n) else I 2 q := fun q => by
    simp (decide := true) only [fedI, xu_ne, xu_eq, xs_ne, xs_at, ne_eq, reduceIte, if_true, if_false, not_false_eq_true]
  have k9 : ∀ q, fedI (fedI I 1 2 1 v n) 38 39 1 v n 39 q = if n ≤ q ∧ q < n + fedN v then byt v (q - n) else I 39 q := fun q => by
    simp (decide := true) only [fedI, xu_ne, xu_eq, xs_ne, xs_at, ne_eq, reduceIte, if_true, if_false, not_false_eq_true]
  refine ⟨⟨?_, ?_, by omega, fun q => ?_, fun q hq => ?_⟩, rV_fr hV (fun k _ _ => by rw [k1 3 (by decide) (by decide) (by decide) (by decide)]) (fun k _ _ => k8 k (by omega)), rP_fr hP (k1 4 (by decide) (by decide) (by decide) (by decide)) (k1 5 (by decide) (by decide) (by decide) (by decide)) (k8 2 (by decide)) (k8 3 (by decide)) (k1 40 (by decide) (by decide) (by decide) (by decide)), ?_, hs7, ?_, ?_, ?_⟩
  · simp (decide := true) only [fedI, xu_ne, xu_eq, xs_ne, xs_at, ne_eq, reduceIte, if_true, if_false, not_false_eq_true]
  · simp (decide := true) only [fedI, xu_ne, xu_eq, xs_ne, xs_at, ne_eq, reduceIte, if_true, if_false, not_false_eq_true]
  · rw [k2, k9, t4 q]
  · rw [k2]
    by_cases z : n ≤ q ∧ q < n + fedN v
    · rw [if_pos z]
      exact byt_ok (by omega)
    · rw [if_neg z]
      exact t5 q (by omega)
  · rw [k1 3 (by decide) (by decide) (by decide) (by decide)]
    exact h38
  · rw [k1 _ (by omega) (by omega) (by omega) (by omega), k1 41 (by decide) (by decide) (by decide) (by decide)]
    exact hcl
  · rw [k8 31 (by decide)]
    exact hdr
  · rw [k8 17 (by decide)]
    exact hg
theorem clear_R (hR : rRest I I n w h s) : rRest (xu (xu I 1 1 0) 38 1 0) (xu (xu I 1 1 0) 38 1 0) 0 w h s := by
  obtain ⟨⟨t1, t2, t3, t4, t5⟩, hV, hP, h38, hs7, hcl, hdr, hg⟩ := hR
  have k1 : ∀ a, a ≠ 1 → a ≠ 38 → xu (xu I 1 1 0) 38 1 0 a = I a := fun a h1 h2 => by rw [xu_ne h2, xu_ne h1]
  have k8 : ∀ k, k ≠ 1 → xu (xu I 1 1 0) 38 1 0 38 k = I 38 k := fun k hk => by rw [xu_eq, if_neg hk, xu_ne (by decide)]
  refine ⟨⟨?_, ?_, by omega, fun q => ?_, fun q hq => absurd hq (by omega)⟩, rV_fr hV (fun k _ _ => by rw [k1 3 (by decide) (by decide)]) (fun k _ _ => k8 k (by omega)), rP_fr hP (k1 4 (by decide) (by decide)) (k1 5 (by decide) (by decide)) (k8 2 (by decide)) (k8 3 (by decide)) (k1 40 (by decide) (by decide)), ?_, hs7, ?_, ?_, ?_⟩
  · simp (decide := true) only [xu_ne, xu_eq, xs_ne, xs_at, ne_eq, reduceIte, if_true, if_false, not_false_eq_true]
  · simp (decide := true) only [xu_ne, xu_eq, xs_ne, xs_at, ne_eq, reduceIte, if_true, if_false, not_false_eq_true]
  · rw [k1 2 (by decide) (by decide), k1 39 (by decide) (by decide)]
    exact t4 q
  · rw [k1 3 (by decide) (by decide)]
    exact h38
  · rw [k1 _ (by omega) (by omega), k1 41 (by decide) (by decide)]
    exact hcl
  · rw [k8 31 (by decide)]
    exact hdr
  · rw [k8 17 (by decide)]
    exact hg
end GE
