section OR
variable {d : Nat} {C C' M M' : Nat → Nat → Int32} {L L' : Nat → Nat → Int64} {n w h s s' c p e g : Nat} {q : Int32}
theorem rD_st (hD : rD C M L n w h s c p) (hC : ∀ a, a < 14 → a ≠ 3 → C' a = C a) (hC3 : ∀ k, k ≠ 7 → k ≠ 8 → k ≠ 14 → C' 3 k = C 3 k) (h7 : C' 3 7 = 0) (h8 : C' 3 8 = nI s') (hs' : s' < 7) (hM9 : M' 39 = M 39) (hM0 : M' 40 = M 40) (hM8 : ∀ k, k ≠ 7 → k ≠ 11 → k ≠ 25 → k ≠ 30 → M' 38 k = M 38 k) (h25 : M' 38 25 = 0) (h14 : C' 3 14 = M' 38 30) (hcl : clR (C' (17 + 3 * s' + 2)) (M' 41) w h) (hS : rS C' M' L' s') (hO : rO C' M' L' s' w h) (hL : ∀ x, 46 ≤ x → x ≤ 49 → L' x = L x) (hL8 : ∀ k, 20 ≤ k → k ≤ 23 → L' 38 k = L 38 k) : rD C' M' L' n w h s' 0 p := by
  obtain ⟨⟨hT, hV, hP, h38, hs7, -, hdr, hg⟩, hf, -, -, hN, hcp, hcut, hcr, hpa⟩ := hD
  refine ⟨⟨rT_fr hT (hC 1 (by decide) (by decide)) (hC 2 (by decide) (by decide)) (hM8 1 (by decide) (by decide) (by decide) (by decide)) hM9, ?_, rP_fr hP (hC 4 (by decide) (by decide)) (hC 5 (by decide) (by decide)) (hM8 2 (by decide) (by decide) (by decide) (by decide)) (hM8 3 (by decide) (by decide) (by decide) (by decide)) hM0, h8, hs', hcl, ?_, ?_⟩, ?_, hS, hO, rN_0 h7 h25, ⟨Nat.zero_le _, hcp.2⟩, ?_, ?_, rPa_fr hpa (fun x _ _ => hC x (by omega) (by omega)) (hC3 9 (by decide) (by decide) (by decide)) (hM8 16 (by decide) (by decide) (by decide) (by decide)) (hM8 17 (by decide) (by decide) (by decide) (by decide)) (hM8 18 (by decide) (by decide) (by decide) (by decide)) hL hL8⟩
  · obtain ⟨v1, v2, v3, v4, -⟩ := hV
    unfold rV
    rw [hC3 10 (by decide) (by decide) (by decide), hC3 11 (by decide) (by decide) (by decide), hC3 12 (by decide) (by decide) (by decide), hC3 13 (by decide) (by decide) (by decide), hM8 26 (by decide) (by decide) (by decide) (by decide), hM8 27 (by decide) (by decide) (by decide) (by decide), hM8 28 (by decide) (by decide) (by decide) (by decide), hM8 29 (by decide) (by decide) (by decide) (by decide)]
    exact ⟨v1, v2, v3, v4, h14⟩
  · rw [hM8 31 (by decide) (by decide) (by decide) (by decide)]
    exact hdr
  · rw [hM8 17 (by decide) (by decide) (by decide) (by decide)]
    exact hg
  · rw [hC3 10 (by decide) (by decide) (by decide)]
    exact hf
  · rw [hC3 9 (by decide) (by decide) (by decide), hM8 19 (by decide) (by decide) (by decide) (by decide)]
    exact hcut
  · rw [hC3 9 (by decide) (by decide) (by decide)]
    exact hcr
theorem opS_g (hD : rD C M L n w h s c p) (h0 : cF C s 103 = 0) : opS d C M L n w h p 103 3 q := by
  intro L0 L1 hL
  have hx := rD_x hD
  obtain ⟨f1, f2, f3, f4, f5, f6, f7⟩ := cF_0 h0
  have ho := rD_ops hD (m := 1) rfl (by decide) f2
  have hE := rD_frL hD hL
  obtain ⟨⟨hT, hV, hP, h38, hs7, hcl, hdr, hg⟩, hf, hS, hO, hN, hcp, hcut, hcr, hpa⟩ := id hE
  have hw := hP.2.2.2.2.1
  refine ⟨xu (xu C (17 + 3 * s) 2 (C 13 0)) 3 7 0, _, _, s, c_take0 (J1 := xu C (17 + 3 * s) 2 (C 13 0)) (J2 := xu C (17 + 3 * s) 2 (C 13 0)) (J3 := xu C (17 + 3 * s) 2 (C 13 0)) hs7 h38 hx h0 ?_ ?_ ?_, m_act_3, rD_st hE (fun a h1 h2 => ?_) (fun k h1 h2 h3 => ?_) ?_ ?_ hs7 ?_ ?_ (fun k h1 h2 h3 h4 => ?_) ?_ ?_ ?_ ⟨?_, fun k hk => ?_, ?_⟩ (rO_fr hw hO (fun x h1 h2 => ?_) ?_ ?_ rfl) (fun _ _ _ => rfl) (fun _ _ _ => rfl), fun a ha => ?_, fun a ha => ?_⟩
  · exact c_cs_g hs7 h38
  · exact c_bp_d (by decide) (by decide) (by decide) (by decide) (by decide)
  · exact c_up_d (by decide) (by decide) (by decide) (by decide) (by decide)
  · rw [xu_ne h2, xu_ne (by omega)]
  · rw [xu_eq, if_neg h1, xu_ne (by omega)]
  · rw [xu_eq, if_pos rfl]
  · rw [xu_eq, if_neg (by decide), xu_ne (by omega), h38]
  · simp (decide := true) only [xu_ne, xu_eq, xs_ne, xs_at, ne_eq, reduceIte, if_true, if_false, not_false_eq_true]
  · simp (decide := true) only [xu_ne, xu_eq, xs_ne, xs_at, ne_eq, reduceIte, if_true, if_false, not_false_eq_true]
  · rw [xu_eq, if_neg h3, xu_eq, if_neg h1]
  · rw [xu_eq, if_pos rfl]
  · rw [xu_eq, if_neg (by decide), xu_ne (by omega), xu_eq, if_neg (by decide), xu_eq, if_neg (by decide)]
    exact hV.2.2.2.2
  · rw [xu_ne (by omega), xu_ne (by omega), xu_ne (by decide), xu_ne (by decide)]
    exact hcl
  · rw [xu_eq, if_neg (by decide), xu_eq, if_neg (by decide)]
    exact hS.1
  · rw [xu_ne (by omega), xu_ne (by omega)]
    exact hS.2.1 k hk
  · rw [xu_ne (by omega), xu_eq, if_pos rfl, xu_eq, if_neg (by decide), xu_eq, if_pos rfl]
    exact ho 0 (by decide)
  · rw [xu_ne (by omega), xu_ne (by omega)]
  · simp (decide := true) only [xu_ne, xu_eq, xs_ne, xs_at, ne_eq, reduceIte, if_true, if_false, not_false_eq_true]
  · simp (decide := true) only [xu_ne, xu_eq, xs_ne, xs_at, ne_eq, reduceIte, if_true, if_false, not_false_eq_true]
  · rw [xu_ne (by omega), xu_ne (by omega)]
  · rw [xu_ne (by omega)]
theorem opS_W (hD : rD C M L n w h s c p) (h0 : cF C s 87 = 0) : opS d C M L n w h p 87 9 q := by
  intro L0 L1 hL
  have hx := rD_x hD
  obtain ⟨f1, f2, f3, f4, f5, f6, f7⟩ := cF_0 h0
  have hE := rD_frL hD hL
  have hpa := hE.2.2.2.2.2.2.2.2
  obtain ⟨x1, m18, e, g, hp⟩ := rPa_1 hpa (fun z => f3 ⟨z, rfl⟩)
  refine ⟨xu (xu C 3 9 1) 3 7 0, _, _, s, c_take0 (J1 := C) (J2 := C) (J3 := xu C 3 9 1) hD.1.2.2.2.2.1 hD.1.2.2.2.1 hx h0 ?_ ?_ ?_, m_act_9, rD_keep hE (fun a h1 h2 _ _ _ => ?_) (fun k h1 h2 => ?_) ?_ (fun a ha => ?_) (fun k h1 h2 => ?_) ?_ ?_ ?_ rfl rfl ⟨g, hp.2.2.2.2.1, ?_⟩ ⟨?_, Or.inr ⟨?_, e, g, rPe_fr hp (fun a h1 h2 => ?_) ?_ ?_ (fun _ _ _ => rfl) (fun _ _ _ => rfl)⟩⟩, fun a ha => ?_, fun a ha => ?_⟩
  · exact c_cs_d (by decide) (by decide) (by decide) (by decide)
  · exact c_bp_d (by decide) (by decide) (by decide) (by decide) (by decide)
  · exact c_up_W
  · rw [xu_ne h1, xu_ne h1]
  · rw [xu_eq, if_neg h1, xu_eq, if_neg h2]
  · rw [xu_eq, if_pos rfl]
  · rw [xu_ne ha, xu_ne ha]
  · rw [xu_eq, if_neg h2, xu_eq, if_neg (by omega)]
  · rw [xu_eq, if_pos rfl]
  · simp (decide := true) only [xu_ne, xu_eq, xs_ne, xs_at, ne_eq, reduceIte, if_true, if_false, not_false_eq_true]
  · simp (decide := true) only [xu_ne, xu_eq, xs_ne, xs_at, ne_eq, reduceIte, if_true, if_false, not_false_eq_true]
  · simp (decide := true) only [xu_ne, xu_eq, xs_ne, xs_at, ne_eq, reduceIte, if_true, if_false, not_false_eq_true, hp.2.2.2.1]
  · simp (decide := true) only [xu_ne, xu_eq, xs_ne, xs_at, ne_eq, reduceIte, if_true, if_false, not_false_eq_true, x1, m18]
  · simp (decide := true) only [xu_ne, xu_eq, xs_ne, xs_at, ne_eq, reduceIte, if_true, if_false, not_false_eq_true, x1]
  · rw [xu_ne (by omega), xu_ne (by omega)]
  · simp (decide := true) only [xu_ne, xu_eq, xs_ne, xs_at, ne_eq, reduceIte, if_true, if_false, not_false_eq_true]
  · simp (decide := true) only [xu_ne, xu_eq, xs_ne, xs_at, ne_eq, reduceIte, if_true, if_false, not_false_eq_true]
  · rw [xu_ne (by omega), xu_ne (by omega)]
  · rw [xu_ne (by omega)]
theorem opS_Ws (hD : rD C M L n w h s c p) (h0 : cF C s 10839 = 0) : opS d C M L n w h p 10839 10 q := by
  intro L0 L1 hL
  have hx := rD_x hD
  obtain ⟨f1, f2, f3, f4, f5, f6, f7⟩ := cF_0 h0
  have hE := rD_frL hD hL
  have hpa := hE.2.2.2.2.2.2.2.2
  obtain ⟨x1, m18, e, g, hp⟩ := rPa_1 hpa (fun z => f3 ⟨z, rfl⟩)
  refine ⟨xu (xu C 3 9 2) 3 7 0, _, _, s, c_take0 (J1 := C) (J2 := C) (J3 := xu C 3 9 2) hD.1.2.2.2.2.1 hD.1.2.2.2.1 hx h0 ?_ ?_ ?_, m_act_10, rD_keep hE (fun a h1 h2 _ _ _ => ?_) (fun k h1 h2 => ?_) ?_ (fun a ha => ?_) (fun k h1 h2 => ?_) ?_ ?_ ?_ rfl rfl ⟨g, hp.2.2.2.2.1, ?_⟩ ⟨?_, Or.inr ⟨?_, e, g, rPe_fr hp (fun a h1 h2 => ?_) ?_ ?_ (fun _ _ _ => rfl) (fun _ _ _ => rfl)⟩⟩, fun a ha => ?_, fun a ha => ?_⟩
  · exact c_cs_d (by decide) (by decide) (by decide) (by decide)
  · exact c_bp_d (by decide) (by decide) (by decide) (by decide) (by decide)
  · exact c_up_Ws
  · rw [xu_ne h1, xu_ne h1]
  · rw [xu_eq, if_neg h1, xu_eq, if_neg h2]
  · rw [xu_eq, if_pos rfl]
  · rw [xu_ne ha, xu_ne ha]
  · rw [xu_eq, if_neg h2, xu_eq, if_neg (by omega)]
  · rw [xu_eq, if_pos rfl]
  · simp (decide := true) only [xu_ne, xu_eq, xs_ne, xs_at, ne_eq, reduceIte, if_true, if_false, not_false_eq_true]
  · simp (decide := true) only [xu_ne, xu_eq, xs_ne, xs_at, ne_eq, reduceIte, if_true, if_false, not_false_eq_true]
  · simp (decide := true) only [xu_ne, xu_eq, xs_ne, xs_at, ne_eq, reduceIte, if_true, if_false, not_false_eq_true, hp.2.2.2.1]
  · simp (decide := true) only [xu_ne, xu_eq, xs_ne, xs_at, ne_eq, reduceIte, if_true, if_false, not_false_eq_true, x1, m18]
  · simp (decide := true) only [xu_ne, xu_eq, xs_ne, xs_at, ne_eq, reduceIte, if_true, if_false, not_false_eq_true, x1]
  · rw [xu_ne (by omega), xu_ne (by omega)]
  · simp (decide := true) only [xu_ne, xu_eq, xs_ne, xs_at, ne_eq, reduceIte, if_true, if_false, not_false_eq_true]
  · simp (decide := true) only [xu_ne, xu_eq, xs_ne, xs_at, ne_eq, reduceIte, if_true, if_false, not_false_eq_true]
  · rw [xu_ne (by omega), xu_ne (by omega)]
  · rw [xu_ne (by omega)]
theorem opS_Q (hD : rD C M L n w h s c p) (h0 : cF C s 81 = 0) : opS d C M L n w h p 81 1 q := by
  intro L0 L1 hL
  have hx := rD_x hD
  obtain ⟨f1, f2, f3, f4, f5, f6, f7⟩ := cF_0 h0
  have hE := rD_frL hD hL
  obtain ⟨⟨hT, hV, hP, h38, hs7, hcl, hdr, hg⟩, hf, hS, hO, hN, hcp, hcut, hcr, hpa⟩ := id hE
  have hw := hP.2.2.2.2.1
  cases s with
  | zero => exact absurd ⟨rfl, h38⟩ f4
  | succ t =>
  obtain ⟨o1, o2, o3⟩ := hO t (by omega)
  refine ⟨xu (xu C 3 8 (nI t)) 3 7 0, _, _, t, c_take0 (J1 := xu C 3 8 (nI t)) (J2 := xu C 3 8 (nI t)) (J3 := xu C 3 8 (nI t)) hs7 h38 hx h0 ?_ ?_ ?_, m_act_1 (by omega) hS.1 o3.2, rD_st hE (fun a h1 h2 => ?_) (fun k h1 h2 h3 => ?_) ?_ ?_ (by omega) ?_ ?_ (fun k h1 h2 h3 h4 => ?_) ?_ ?_ ?_ ⟨?_, fun k hk => ?_, ?_⟩ (rO_fr hw (fun i hi => hO i (by omega)) (fun x h1 h2 => ?_) ?_ ?_ ?_) (fun x h1 h2 => ?_) (fun k h1 h2 => ?_), fun a ha => ?_, fun a ha => ?_⟩
  · exact c_cs_Q h38
  · exact c_bp_d (by decide) (by decide) (by decide) (by decide) (by decide)
  · exact c_up_d (by decide) (by decide) (by decide) (by decide) (by decide)
  · rw [xu_ne h2, xu_ne h2]
  · rw [xu_eq, if_neg h1, xu_eq, if_neg h2]
  · rw [xu_eq, if_pos rfl]
  · rw [xu_eq, if_neg (by decide), xu_eq, if_pos rfl]
  · simp (decide := true) only [mResI, xu_ne, xu_eq, xs_ne, xs_at, ne_eq, reduceIte, if_true, if_false, not_false_eq_true]
  · simp (decide := true) only [mResI, xu_ne, xu_eq, xs_ne, xs_at, ne_eq, reduceIte, if_true, if_false, not_false_eq_true]
  · rw [xu_eq, if_neg h3]
    unfold mResI
    rw [xu_eq, if_neg h1, xs_ne (by decide), xu_eq, if_neg h2]
  · rw [xu_eq, if_pos rfl]
  · simp (decide := true) only [mResI, xu_ne, xu_eq, xs_ne, xs_at, ne_eq, reduceIte, if_true, if_false, not_false_eq_true]
    exact hV.2.2.2.2
  · rw [xu_ne (by omega), xu_ne (by omega), xu_ne (by decide)]
    refine clR_fr hw o3 (fun _ _ => rfl) (fun z hz => ?_)
    simp (decide := true) only [mResI, xu_ne, xu_eq, xs_ne, xs_at, ne_eq, reduceIte, if_true, if_false, not_false_eq_true, hz]
  · simp (decide := true) only [mResI, xu_ne, xu_eq, xs_ne, xs_at, ne_eq, reduceIte, if_true, if_false, not_false_eq_true]
  · rw [xu_ne (by omega), xu_ne (by omega)]
    unfold mResL
    rw [xt_at, if_pos hk]
    exact o1 k hk
  · rw [xu_ne (by omega), xu_ne (by omega)]
    simp (decide := true) only [mResI, xu_ne, xu_eq, xs_ne, xs_at, ne_eq, reduceIte, if_true, if_false, not_false_eq_true]
    exact o2
  · rw [xu_ne (by omega), xu_ne (by omega)]
  · simp (decide := true) only [mResI, xu_ne, xu_eq, xs_ne, xs_at, ne_eq, reduceIte, if_true, if_false, not_false_eq_true]
  · simp (decide := true) only [mResI, xu_ne, xu_eq, xs_ne, xs_at, ne_eq, reduceIte, if_true, if_false, not_false_eq_true]
  · unfold mResL
    rw [xt_ne (by decide)]
  · unfold mResL
    rw [xt_ne (by omega)]
  · unfold mResL
    rw [xt_ne (by decide)]
  · rw [xu_ne (by omega), xu_ne (by omega)]
  · unfold mResI
    rw [xu_ne (by omega), xs_ne (by omega), xu_ne (by omega)]
theorem va6 {f g : Nat → Int32} {m k : Nat} (hk : k < m) : va_cpy f g 0 0 m k = f k := by
  unfold va_cpy
  rw [if_pos (by omega)]
  congr 1
  omega
theorem opS_q (hD : rD C M L n w h s c p) (h0 : cF C s 113 = 0) : opS d C M L n w h p 113 0 q := by
  intro L0 L1 hL
  have hx := rD_x hD
  obtain ⟨f1, f2, f3, f4, f5, f6, f7⟩ := cF_0 h0
  have hE := rD_frL hD hL
  obtain ⟨⟨hT, hV, hP, h38, hs7, hcl, hdr, hg⟩, hf, hS, hO, hN, hcp, hcut, hcr, hpa⟩ := id hE
  have hw := hP.2.2.2.2.1
  have hs : s < 6 := by
    rcases Nat.lt_or_ge s 6 with z | z
    · exact z
    · have : s = 6 := by omega
      subst this
      exact absurd ⟨rfl, h38⟩ f5
  have k3 : ∀ k, cCpy C s 3 k = C 3 k := fun k => by
    unfold cCpy
    rw [xu_ne (by omega), xs_ne (by omega), xs_ne (by omega)]
  have kl : ∀ a, a < 17 + 3 * (s + 1) ∨ 17 + 3 * (s + 1) + 2 < a → cCpy C s a = C a := fun a ha => by
    unfold cCpy
    rw [xu_ne (by omega), xs_ne (by omega), xs_ne (by omega)]
  have ka : ∀ a, a ≠ 3 → xu (cSav C s) 3 7 0 a = cCpy C s a := fun a ha => by
    unfold cSav
    rw [xu_ne ha, xu_ne ha, xu_ne ha]
  refine ⟨xu (cSav C s) 3 7 0, _, _, s + 1, c_take0 (J1 := cSav C s) (J2 := cSav C s) (J3 := cSav C s) hs7 h38 hx h0 ?_ ?_ ?_, m_act_0 hs hS.1 hcl.2, rD_st hE (fun a h1 h2 => ?_) (fun k h1 h2 h3 => ?_) ?_ ?_ (by omega) ?_ ?_ (fun k h1 h2 h3 h4 => ?_) ?_ ?_ ?_ ⟨?_, fun k hk => ?_, ?_⟩ (fun i hi => ?_) (fun x h1 h2 => ?_) (fun k h1 h2 => ?_), fun a ha => ?_, fun a ha => ?_⟩
  · exact c_cs_q hs h38
  · exact c_bp_d (by decide) (by decide) (by decide) (by decide) (by decide)
  · exact c_up_d (by decide) (by decide) (by decide) (by decide) (by decide)
  · rw [ka a h2, kl a (by omega)]
  · unfold cSav
    rw [xu_eq, if_neg h1, xu_eq, if_neg h3, xu_eq, if_neg h2, k3]
  · rw [xu_eq, if_pos rfl]
  · simp (decide := true) only [cSav, xu_ne, xu_eq, xs_ne, xs_at, ne_eq, reduceIte, if_true, if_false, not_false_eq_true]
  · simp (decide := true) only [mSavI, xu_ne, xu_eq, xs_ne, xs_at, ne_eq, reduceIte, if_true, if_false, not_false_eq_true]
  · simp (decide := true) only [mSavI, xu_ne, xu_eq, xs_ne, xs_at, ne_eq, reduceIte, if_true, if_false, not_false_eq_true]
  · rw [xu_eq, if_neg h3]
    unfold mSavI
    rw [xu_eq, if_neg h4, xu_eq, if_neg h2, xu_ne (by decide), xs_ne (by decide)]
  · rw [xu_eq, if_pos rfl]
  · simp (decide := true) only [cSav, mSavI, xu_ne, xu_eq, xs_ne, xs_at, ne_eq, reduceIte, if_true, if_false, not_false_eq_true]
    rw [hV.2.2.2.2]
    by_cases z : nI (s + 1) ≤ M 38 30
    · rw [if_pos z, if_neg (Int32.not_lt.mpr z)]
    · rw [if_neg z, if_pos (Int32.not_le.mp z)]
  · rw [ka _ (by omega)]
    refine clR_fr hw hcl (fun z hz => ?_) (fun z hz => ?_)
    · unfold cCpy
      rw [xu_ne (by omega), xs_at, va6 hz]
    · simp (decide := true) only [mSavI, xu_ne, xu_eq, xs_ne, xs_at, ne_eq, reduceIte, if_true, if_false, not_false_eq_true]
  · simp (decide := true) only [mSavI, xu_ne, xu_eq, xs_ne, xs_at, ne_eq, reduceIte, if_true, if_false, not_false_eq_true]
  · rw [ka _ (by omega)]
    unfold cCpy mSavL
    rw [xu_ne (by omega), xs_ne (by omega), xs_at, va6 hk, xt_ne (by decide)]
    exact hS.2.1 k hk
  · rw [ka _ (by omega)]
    unfold cCpy
    rw [xu_eq, if_pos rfl]
    simp (decide := true) only [mSavI, xu_ne, xu_eq, xs_ne, xs_at, ne_eq, reduceIte, if_true, if_false, not_false_eq_true]
    exact hS.2.2
  · by_cases z : i = s
    · subst z
      refine ⟨fun k hk => ?_, ?_, clR_fr hw hcl (fun y hy => ?_) (fun y hy => ?_)⟩
      · rw [ka _ (by omega), kl _ (by omega)]
        unfold mSavL
        rw [xt_at, if_pos (by omega), ← hS.2.1 k hk]
        congr 1
        omega
      · rw [ka _ (by omega), kl _ (by omega)]
        simp (decide := true) only [mSavI, xu_ne, xu_eq, xs_ne, xs_at, ne_eq, reduceIte, if_true, if_false, not_false_eq_true]
        exact hS.2.2
      · rw [ka _ (by omega), kl _ (by omega)]
      · simp (decide := true) only [mSavI, xu_ne, xu_eq, xs_ne, xs_at, ne_eq, reduceIte, if_true, if_false, not_false_eq_true]
        rw [if_pos (by omega)]
        congr 1
        omega
    · refine rO1_fr hw (hO i (by omega)) (fun x h1 h2 => ?_) ?_ (fun y hy => ?_) (fun k hk => ?_)
      · rw [ka _ (by omega), kl _ (by omega)]
      · simp (decide := true) only [mSavI, xu_ne, xu_eq, xs_ne, xs_at, ne_eq, reduceIte, if_true, if_false, not_false_eq_true, z]
      · simp (decide := true) only [mSavI, xu_ne, xu_eq, xs_ne, xs_at, ne_eq, reduceIte, if_true, if_false, not_false_eq_true]
        rw [if_neg (by omega)]
      · unfold mSavL
        rw [xt_at, if_neg (by omega)]
  · unfold mSavL
    rw [xt_ne (by omega)]
  · unfold mSavL
    rw [xt_ne (by decide)]
  · rw [ka _ (by omega), kl _ (by omega)]
  · unfold mSavI
    rw [xu_ne (by omega), xu_ne (by omega), xu_ne (by omega), xs_ne (by omega)]
theorem wIn_j {q : Int64} (hh : wIn 1000000 q = true) : q.toInt32.toInt64 = q := by
  unfold wIn at hh
  simp only [Bool.and_eq_true, decide_eq_true_eq, l_le] at hh
  have e1 : ((-(1000000 : Int32)).toInt64).toInt = -1000000 := by decide
  have e2 : ((1000000 : Int32).toInt64).toInt = 1000000 := by decide
  rw [e1, e2] at hh
  have e3 : q.toInt32.toInt = q.toInt := by
    rw [Int64.toInt_toInt32]
    exact Int.bmod_eq_of_le (by omega) (by omega)
  apply Int64.toInt_inj.mp
  rw [i_l, e3]
theorem mx_g (hS : rS C M L s) (ho : ∀ k, k < 6 → C 13 k = M 50 k) : (mxX (cMat C s) 0 (C 13 0) (C 13 1) = jn (L 42) (M 50) 0 ∧ mxY (cMat C s) 0 (C 13 0) (C 13 1) = jn (L 42) (M 50) 1) ∧ (mxX (cMat C s) 2 (C 13 2) (C 13 3) = jn (L 42) (M 50) 2 ∧ mxY (cMat C s) 2 (C 13 2) (C 13 3) = jn (L 42) (M 50) 3) ∧ mxX (cMat C s) 4 (C 13 4) (C 13 5) = jn (L 42) (M 50) 4 ∧ mxY (cMat C s) 4 (C 13 4) (C 13 5) = jn (L 42) (M 50) 5 := by
  obtain ⟨-, h1, -⟩ := hS
  have g0 : mxX (cMat C s) 0 (C 13 0) (C 13 1) = jn (L 42) (M 50) 0 := by
    unfold mxX ptX cMat jn
    rw [h1 0 (by decide), h1 2 (by decide), ho 0 (by decide), ho 1 (by decide), if_pos (by decide), if_pos rfl, l_cancel]
  have g1 : mxY (cMat C s) 0 (C 13 0) (C 13 1) = jn (L 42) (M 50) 1 := by
    unfold mxY ptY cMat jn
    rw [h1 1 (by decide), h1 3 (by decide), ho 0 (by decide), ho 1 (by decide), if_pos (by decide), if_neg (by decide), if_pos rfl, l_cancel]
  have g2 : mxX (cMat C s) 2 (C 13 2) (C 13 3) = jn (L 42) (M 50) 2 := by
    unfold mxX ptX cMat jn
    rw [h1 0 (by decide), h1 2 (by decide), ho 2 (by decide), ho 3 (by decide), if_pos (by decide), if_neg (by decide), if_neg (by decide), if_pos rfl, l_cancel]
  have g3 : mxY (cMat C s) 2 (C 13 2) (C 13 3) = jn (L 42) (M 50) 3 := by
    unfold mxY ptY cMat jn
    rw [h1 1 (by decide), h1 3 (by decide), ho 2 (by decide), ho 3 (by decide), if_pos (by decide), if_neg (by decide), if_neg (by decide), if_neg (by decide), if_pos rfl, l_cancel]
  have g4 : mxX (cMat C s) 4 (C 13 4) (C 13 5) = jn (L 42) (M 50) 4 := by
    unfold mxX ptX cMat jn
    rw [h1 0 (by decide), h1 2 (by decide), h1 4 (by decide), ho 4 (by decide), ho 5 (by decide), if_neg (by decide), if_neg (by decide), if_neg (by decide), if_neg (by decide), if_neg (by decide), if_pos rfl, l_sub0]
  have g5 : mxY (cMat C s) 4 (C 13 4) (C 13 5) = jn (L 42) (M 50) 5 := by
    unfold mxY ptY cMat jn
    rw [h1 1 (by decide), h1 3 (by decide), h1 5 (by decide), ho 4 (by decide), ho 5 (by decide), if_neg (by decide), if_neg (by decide), if_neg (by decide), if_neg (by decide), if_neg (by decide), if_neg (by decide), l_sub0]
  exact ⟨⟨g0, g1⟩, ⟨g2, g3⟩, g4, g5⟩
theorem opS_cm (hD : rD C M L n w h s c p) (h0 : cF C s 28003 = 0) : opS d C M L n w h p 28003 2 q := by
  intro L0 L1 hL
  have hx := rD_x hD
  obtain ⟨f1, f2, f3, f4, f5, f6, f7⟩ := cF_0 h0
  have ho := rD_ops hD (m := 6) rfl (by decide) f2
  have hS' := (rD_frL hD hL).2.2.1
  obtain ⟨⟨g0, g1⟩, ⟨g2, g3⟩, g4, g5⟩ := mx_g hS' ho
  have hok : cMxOk C s = true := f6
  unfold cMxOk mxOk at hok
  rw [g0, g1, g2, g3, g4, g5] at hok
  simp only [Bool.and_eq_true] at hok
  obtain ⟨⟨⟨r0, r1⟩, r2, r3⟩, r4, r5⟩ := hok
  have hJd : cPr C s 28003 = cMxs C s := rfl
  have hJf : ∀ a, a ≠ 14 → a ≠ 15 → a ≠ 16 → cMxs C s a = C a := fun a _ _ h3 => by
    unfold cMxs
    rw [cMx_fr h3, cMx_fr h3, cMx_fr h3]
  have k : cMxs C s 16 0 = (jn (L1 42) (M 50) 0).toInt32 ∧ cMxs C s 16 1 = (jn (L1 42) (M 50) 1).toInt32 ∧ cMxs C s 16 2 = (jn (L1 42) (M 50) 2).toInt32 ∧ cMxs C s 16 3 = (jn (L1 42) (M 50) 3).toInt32 ∧ cMxs C s 16 4 = (jn (L1 42) (M 50) 4).toInt32 ∧ cMxs C s 16 5 = (jn (L1 42) (M 50) 5).toInt32 := by
    unfold cMxs cMx
    simp (decide := true) only [xu_ne, xu_eq, xs_ne, xs_at, ne_eq, reduceIte, if_true, if_false, not_false_eq_true, cMat_xu, and_self, g0, g1, g2, g3, g4, g5]
  have hE := rD_pr (rD_frL hD hL) hJf
  generalize cMxs C s = J at *
  obtain ⟨⟨hT, hV, hP, h38, hs7, hcl, hdr, hg⟩, hf, hS, hO, hN, hcp, hcut, hcr, hpa⟩ := id hE
  have hw := hP.2.2.2.2.1
  refine ⟨xu (xs J (17 + 3 * s + 1) (va_cpy (J 16) (J (17 + 3 * s + 1)) 0 0 6)) 3 7 0, _, _, s, c_take0 (J1 := xs J (17 + 3 * s + 1) (va_cpy (J 16) (J (17 + 3 * s + 1)) 0 0 6)) (J2 := xs J (17 + 3 * s + 1) (va_cpy (J 16) (J (17 + 3 * s + 1)) 0 0 6)) (J3 := xs J (17 + 3 * s + 1) (va_cpy (J 16) (J (17 + 3 * s + 1)) 0 0 6)) hs7 hD.1.2.2.2.1 hx h0 ?_ ?_ ?_, m_act_2, rD_st hE (fun a h1 h2 => ?_) (fun k h1 h2 h3 => ?_) ?_ ?_ hs7 ?_ ?_ (fun k h1 h2 h3 h4 => ?_) ?_ ?_ ?_ ⟨?_, fun j hj => ?_, ?_⟩ (rO_fr hw hO (fun x h1 h2 => ?_) ?_ ?_ ?_) (fun x h1 h2 => ?_) (fun k h1 h2 => ?_), fun a ha => ?_, fun a ha => ?_⟩
  · rw [hJd]
    exact c_cs_cm hs7 h38
  · exact c_bp_d (by decide) (by decide) (by decide) (by decide) (by decide)
  · exact c_up_d (by decide) (by decide) (by decide) (by decide) (by decide)
  · rw [xu_ne h2, xs_ne (by omega)]
  · rw [xu_eq, if_neg h1, xs_ne (by omega)]
  · rw [xu_eq, if_pos rfl]
  · rw [xu_eq, if_neg (by decide), xs_ne (by omega), h38]
  · simp (decide := true) only [xu_ne, xu_eq, xs_ne, xs_at, ne_eq, reduceIte, if_true, if_false, not_false_eq_true]
  · simp (decide := true) only [xu_ne, xu_eq, xs_ne, xs_at, ne_eq, reduceIte, if_true, if_false, not_false_eq_true]
  · rw [xu_eq, if_neg h3]
  · rw [xu_eq, if_pos rfl]
  · rw [xu_eq, if_neg (by decide), xs_ne (by omega), xu_eq, if_neg (by decide)]
    exact hV.2.2.2.2
  · rw [xu_ne (by omega), xs_ne (by omega), xu_ne (by decide)]
    exact hcl
  · rw [xu_eq, if_neg (by decide)]
    exact hS.1
  · rw [xu_ne (by omega), xs_at, va6 hj]
    obtain ⟨k0, k1, k2, k3, k4, k5⟩ := k
    unfold mJnL
    obtain rfl | rfl | rfl | rfl | rfl | rfl : j = 0 ∨ j = 1 ∨ j = 2 ∨ j = 3 ∨ j = 4 ∨ j = 5 := by omega
    · rw [k0, wIn_j r0]
      simp (decide := true) only [xu_ne, xu_eq, xs_ne, xs_at, ne_eq, reduceIte, if_true, if_false, not_false_eq_true]
    · rw [k1, wIn_j r1]
      simp (decide := true) only [xu_ne, xu_eq, xs_ne, xs_at, ne_eq, reduceIte, if_true, if_false, not_false_eq_true]
    · rw [k2, wIn_j r2]
      simp (decide := true) only [xu_ne, xu_eq, xs_ne, xs_at, ne_eq, reduceIte, if_true, if_false, not_false_eq_true]
    · rw [k3, wIn_j r3]
      simp (decide := true) only [xu_ne, xu_eq, xs_ne, xs_at, ne_eq, reduceIte, if_true, if_false, not_false_eq_true]
    · rw [k4, wIn_j r4]
      simp (decide := true) only [xu_ne, xu_eq, xs_ne, xs_at, ne_eq, reduceIte, if_true, if_false, not_false_eq_true]
    · rw [k5, wIn_j r5]
      simp (decide := true) only [xu_ne, xu_eq, xs_ne, xs_at, ne_eq, reduceIte, if_true, if_false, not_false_eq_true]
  · rw [xu_ne (by omega), xs_ne (by omega), xu_eq, if_neg (by decide)]
    exact hS.2.2
  · rw [xu_ne (by omega), xs_ne (by omega)]
  · simp (decide := true) only [xu_ne, xu_eq, xs_ne, xs_at, ne_eq, reduceIte, if_true, if_false, not_false_eq_true]
  · simp (decide := true) only [xu_ne, xu_eq, xs_ne, xs_at, ne_eq, reduceIte, if_true, if_false, not_false_eq_true]
  · simp (decide := true) only [mJnL, xu_ne, xu_eq, xs_ne, xs_at, ne_eq, reduceIte, if_true, if_false, not_false_eq_true]
  · unfold mJnL
    rw [xu_ne (by omega), xu_ne (by omega), xu_ne (by omega), xu_ne (by omega), xu_ne (by omega), xu_ne (by omega)]
  · simp (decide := true) only [mJnL, xu_ne, xu_eq, xs_ne, xs_at, ne_eq, reduceIte, if_true, if_false, not_false_eq_true]
  · rw [xu_ne (by omega), xs_ne (by omega), hJf a (by omega) (by omega) (by omega)]
  · rfl
end OR
