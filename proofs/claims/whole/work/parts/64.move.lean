def opS (d : Nat) (C M : Nat → Nat → Int32) (L : Nat → Nat → Int64) (n w h p : Nat) (o k q : Int32) : Prop := ∀ L0 L1, frL L L1 → ∃ C' M' L' s', X (d + 4) none 32 (0, [some (.ref 3), some (.int o), some (.int q), none], [], (xSH, C, L0, xR0)) = some (none, (xSH, C', L0, xR0)) ∧ X (d + 4) none 92 (0, [some (.ref 38), some (.int k), none, none, none, none, none, none, none, none, none, none, none, none, none], [], (xSH, M, L1, xR0)) = some (none, (xSH, M', L', xR0)) ∧ rD C' (xu M' 38 25 0) L' n w h s' 0 p ∧ (∀ a, 38 ≤ a → C' a = C a) ∧ (∀ a, a < 38 → M' a = M a)
section OP
variable {d : Nat} {C C' M M' : Nat → Nat → Int32} {L L' : Nat → Nat → Int64} {n w h s c p e g : Nat} {q : Int32}
theorem cF_0 {o : Int32} (hh : cF C s o = 0) : cOut o (C 6 7) (C 3 9) = false ∧ C 3 7 = cNeed o ∧ ¬ (C 6 7 = 0 ∧ cNP o = true) ∧ ¬ (o = 81 ∧ C 3 8 = 0) ∧ ¬ (o = 113 ∧ C 3 8 = 6) ∧ cOk C s o = true ∧ C 6 6 + cEd o ≤ 60 := by
  unfold cF at hh
  by_cases q0 : cNeed o = -1
  · rw [if_pos q0] at hh
    exact absurd hh (by decide)
  rw [if_neg q0] at hh
  by_cases q1 : cOut o (C 6 7) (C 3 9) = true
  · rw [if_pos q1] at hh
    exact absurd hh (by decide)
  rw [if_neg q1] at hh
  by_cases q2 : C 3 7 = cNeed o
  · rw [if_neg (fun z => z q2)] at hh
    by_cases q3 : C 6 7 = 0 ∧ cNP o = true
    · rw [if_pos q3] at hh
      exact absurd hh (by decide)
    rw [if_neg q3] at hh
    by_cases q4 : o = 81 ∧ C 3 8 = 0
    · rw [if_pos q4] at hh
      exact absurd hh (by decide)
    rw [if_neg q4] at hh
    by_cases q5 : o = 113 ∧ C 3 8 = 6
    · rw [if_pos q5] at hh
      exact absurd hh (by decide)
    rw [if_neg q5] at hh
    by_cases q6 : cOk C s o = false
    · rw [if_pos q6] at hh
      exact absurd hh (by decide)
    rw [if_neg q6] at hh
    by_cases q7 : C 6 6 + cEd o ≤ 60
    · exact ⟨Bool.eq_false_iff.mpr q1, q2, q3, q4, q5, by simpa using q6, q7⟩
    · rw [if_neg q7] at hh
      exact absurd hh (by decide)
  · rw [if_pos q2] at hh
    exact absurd hh (by decide)
theorem rD_x (hD : rD C M L n w h s c p) : C 6 7 = 0 ∨ C 6 7 = 1 := by
  obtain ⟨-, -, -, -, -, -, -, -, -, hpe⟩ := hD
  exact hpe.imp (fun z => z.1) (fun z => z.1)
theorem rD_ops {m : Nat} {o : Int32} (hD : rD C M L n w h s c p) (hn : cNeed o = nI m) (hm : m ≤ 6) (hh : C 3 7 = cNeed o) : ∀ q, q < m → C 13 q = M 50 q := by
  obtain ⟨⟨hT, -⟩, -, -, -, ⟨n1, n2, n3⟩, hcp, -⟩ := hD
  have h1 := hT.2.2.1
  have : c = m := (nI_eq (by omega) (by omega)).mp (n1.symm.trans (hh.trans hn))
  subst this
  exact fun q hq => n3 q hq (by omega)
theorem t_inj {a b : Int32} (hh : a.toInt64 = b.toInt64) : a = b := by
  have := congrArg Int64.toInt hh
  rw [i_l, i_l] at this
  exact Int32.toInt_inj.mp this
theorem rPe_end (hh : rPe C M L e g) : ((L 38 22 = L 38 20 ∧ L 38 23 = L 38 21) ↔ (C 6 10 = C 6 8 ∧ C 6 11 = C 6 9)) ∧ mEnd L e = cEnd C e ∧ edgeR (cEndS C e) (mMv L e) (cEnd C e) := by
  obtain ⟨h1, h2, h3, h4, h5, h6, h7, h8, h9, h10, h11, h12, h13, h14, h15⟩ := hh
  have hi : (L 38 22 = L 38 20 ∧ L 38 23 = L 38 21) ↔ (C 6 10 = C 6 8 ∧ C 6 11 = C 6 9) := by
    rw [h8, h9, h10, h11]
    exact ⟨fun z => ⟨t_inj z.1, t_inj z.2⟩, fun z => ⟨by rw [z.1], by rw [z.2]⟩⟩
  refine ⟨hi, ?_, ?_⟩
  · unfold mEnd cEnd
    by_cases z : C 6 10 = C 6 8 ∧ C 6 11 = C 6 9
    · rw [if_pos z, if_pos (hi.mpr z)]
    · rw [if_neg z, if_neg (fun y => z (hi.mp y))]
  · unfold cEndS mMv cEnd
    by_cases z : C 6 10 = C 6 8 ∧ C 6 11 = C 6 9
    · rw [if_pos z, if_pos (hi.mpr z), if_pos z]
      exact h7
    · rw [if_neg z, if_neg (fun y => z (hi.mp y)), if_neg z]
      intro k hk
      by_cases y : k = e
      · subst y
        unfold eOne
        simp (decide := true) only [cHold, mEdL, xu_ne, xu_eq, xs_ne, xs_at, ne_eq, reduceIte, if_true, if_false, not_false_eq_true, h8, h9, h10, h11, h12, h13, h14, h15, and_self]
      · have := h7 k (by omega)
        unfold eOne at *
        simp (decide := true) only [cHold, mEdL, xu_ne, xu_eq, xs_ne, xs_at, ne_eq, reduceIte, if_true, if_false, not_false_eq_true, y]
        exact this
theorem rPe_begin {M1 : Nat → Nat → Int32} {L1 : Nat → Nat → Int64} {x y : Int32} {X Y : Int64} (h5 : C 6 5 = nI e) (h6 : C 6 6 = nI g) (m7 : M1 38 17 = nI g) (hg : g ≤ 60) (hE : cEnd C e ≤ 2 * g) (hR : edgeR (cEndS C e) L1 (cEnd C e)) (m6 : M1 38 16 = nI (cEnd C e)) (hx : x.toInt64 = X ∧ sm x) (hy : y.toInt64 = Y ∧ sm y) (l20 : L1 38 20 = X) (l21 : L1 38 21 = Y) (l22 : L1 38 22 = X) (l23 : L1 38 23 = Y) : rPe (cBegin C e x y) M1 L1 (cEnd C e) g := by
  have a : ∀ k, k ≠ 6 → cBegin C e x y k = cEndS C e k := fun k hk => by
    unfold cBegin
    rw [xu_ne hk, xu_ne hk, xu_ne hk, xu_ne hk, xu_ne hk]
  refine ⟨cBegin_5 h5, m6, ?_, m7, hg, ?_, fun k hk => ?_, ?_, ?_, ?_, ?_, ?_, ?_, ?_, ?_⟩
  · simp (decide := true) only [cBegin, xu_ne, xu_eq, xs_ne, xs_at, ne_eq, reduceIte, if_true, if_false, not_false_eq_true]
    rw [cEndS_6 (by decide), h6]
  · have : cEnd (cBegin C e x y) (cEnd C e) = cEnd C e := by
      conv => lhs; unfold cEnd
      rw [if_pos (by simp (decide := true) only [cBegin, xu_ne, xu_eq, xs_ne, xs_at, ne_eq, reduceIte, if_true, if_false, not_false_eq_true, and_self])]
      rfl
    rw [this]
    exact hE
  · have := hR k hk
    unfold eOne at *
    rw [a 7 (by decide), a 8 (by decide), a 9 (by decide), a 10 (by decide)]
    exact this
  · simp (decide := true) only [cBegin, xu_ne, xu_eq, xs_ne, xs_at, ne_eq, reduceIte, if_true, if_false, not_false_eq_true, l20, hx.1]
  · simp (decide := true) only [cBegin, xu_ne, xu_eq, xs_ne, xs_at, ne_eq, reduceIte, if_true, if_false, not_false_eq_true, l21, hy.1]
  · simp (decide := true) only [cBegin, xu_ne, xu_eq, xs_ne, xs_at, ne_eq, reduceIte, if_true, if_false, not_false_eq_true, l22, hx.1]
  · simp (decide := true) only [cBegin, xu_ne, xu_eq, xs_ne, xs_at, ne_eq, reduceIte, if_true, if_false, not_false_eq_true, l23, hy.1]
  · simp (decide := true) only [cBegin, xu_ne, xu_eq, xs_ne, xs_at, ne_eq, reduceIte, if_true, if_false, not_false_eq_true, hx.2]
  · simp (decide := true) only [cBegin, xu_ne, xu_eq, xs_ne, xs_at, ne_eq, reduceIte, if_true, if_false, not_false_eq_true, hy.2]
  · simp (decide := true) only [cBegin, xu_ne, xu_eq, xs_ne, xs_at, ne_eq, reduceIte, if_true, if_false, not_false_eq_true, hx.2]
  · simp (decide := true) only [cBegin, xu_ne, xu_eq, xs_ne, xs_at, ne_eq, reduceIte, if_true, if_false, not_false_eq_true, hy.2]
theorem mMvL_0 {u v : Int32} : mMvL L u v 42 = L 42 ∧ mMvL L u v 43 = L 43 ∧ (∀ a, 46 ≤ a → a ≤ 49 → mMvL L u v a = L a) ∧ mMvL L u v 38 20 = mFarX L u v ∧ mMvL L u v 38 21 = mFarY L u v ∧ mMvL L u v 38 22 = mFarX L u v ∧ mMvL L u v 38 23 = mFarY L u v := by
  refine ⟨?_, ?_, fun a h1 h2 => ?_, ?_, ?_, ?_, ?_⟩
  · simp (decide := true) only [mMvL, mFarL, xu_ne, xu_eq, xs_ne, xs_at, ne_eq, reduceIte, if_true, if_false, not_false_eq_true]
  · simp (decide := true) only [mMvL, mFarL, xu_ne, xu_eq, xs_ne, xs_at, ne_eq, reduceIte, if_true, if_false, not_false_eq_true]
  · have ha : a ≠ 38 := by omega
    unfold mMvL mFarL
    rw [xu_ne ha, xu_ne ha, xu_ne ha, xu_ne ha, xu_ne ha, xu_ne ha]
  all_goals simp (decide := true) only [mMvL, mFarL, xu_ne, xu_eq, xs_ne, xs_at, ne_eq, reduceIte, if_true, if_false, not_false_eq_true]
theorem mMv_42 : mMv L e 42 = L 42 ∧ mMv L e 43 = L 43 := by
  unfold mMv
  split
  · exact ⟨rfl, rfl⟩
  · simp (decide := true) only [mEdL, xu_ne, xu_eq, xs_ne, xs_at, ne_eq, reduceIte, if_true, if_false, not_false_eq_true, and_self]
theorem mv_step {x y u v : Int32} (hh : rPa C M L) (hx : x.toInt64 = mFarX L u v ∧ sm x) (hy : y.toInt64 = mFarY L u v ∧ sm y) : ∃ e g M1 L1, C 6 5 = nI e ∧ C 6 6 = nI g ∧ cEnd C e ≤ 2 * g ∧ X (d + 2) none 95 (0, [some (.ref 38), some (.int u), some (.int v), none], [], (xSH, M, L, xR0)) = some (none, (xSH, M1, L1, xR0)) ∧ rPe (cBegin C e x y) M1 L1 (cEnd C e) g ∧ M1 38 18 = 1 ∧ (∀ a, a ≠ 38 → M1 a = M a) ∧ (∀ k, k < 16 ∨ 18 < k → M1 38 k = M 38 k) ∧ L1 42 = L 42 ∧ L1 43 = L 43 := by
  obtain ⟨h18, ⟨h7, h5, h6, h10, h11, -⟩ | ⟨h7, e, g, hp⟩⟩ := hh
  · rw [h7] at h18
    have e0 : cEnd C 0 = 0 := by
      unfold cEnd
      rw [if_pos ⟨h10, h11⟩]
    obtain ⟨l1, l2, l3, l4, l5, l6, l7⟩ := @mMvL_0 L u v
    refine ⟨0, 0, _, _, h5, h6, by omega, m_move0 h18.symm, rPe_begin h5 h6 ?_ (by decide) (by omega) (fun k hk => absurd hk (by omega)) ?_ hx hy l4 l5 l6 l7, ?_, fun a ha => ?_, fun k hk => ?_, l1, l2⟩
    · simp (decide := true) only [xu_ne, xu_eq, xs_ne, xs_at, ne_eq, reduceIte, if_true, if_false, not_false_eq_true]
    · rw [e0]
      simp (decide := true) only [xu_ne, xu_eq, xs_ne, xs_at, ne_eq, reduceIte, if_true, if_false, not_false_eq_true]
    · simp (decide := true) only [xu_ne, xu_eq, xs_ne, xs_at, ne_eq, reduceIte, if_true, if_false, not_false_eq_true]
    · rw [xu_ne ha, xu_ne ha, xu_ne ha]
    · rw [xu_eq, if_neg (by omega), xu_eq, if_neg (by omega), xu_eq, if_neg (by omega)]
  · rw [h7] at h18
    have hp' := hp
    obtain ⟨h1, h2, h3, h4, h5, h6, h7, h8, h9, h10, h11, h12, h13, h14, h15⟩ := hp
    have h18' : ¬ M 38 18 = 0 := by rw [← h18]; decide
    have k1 := @cEnd_le C e
    obtain ⟨i1, i2, i3⟩ := rPe_end hp'
    obtain ⟨l1, l2, l3, l4, l5, l6, l7⟩ := @mMvL_0 (mMv L e) u v
    have f1 : mFarX (mMv L e) u v = mFarX L u v := by unfold mFarX; rw [mMv_42.1]
    have f2 : mFarY (mMv L e) u v = mFarY L u v := by unfold mFarY; rw [mMv_42.1]
    rw [f1] at l4 l6
    rw [f2] at l5 l7
    refine ⟨e, g, _, _, h1, h3, h6, m_move1 h18' h2 (by omega), rPe_begin h1 h3 ?_ h5 h6 (fun k hk => ?_) ?_ hx hy l4 l5 l6 l7, ?_, fun a ha => ?_, fun k hk => ?_, l1.trans mMv_42.1, l2.trans mMv_42.2⟩
    · by_cases z : L 38 22 = L 38 20 ∧ L 38 23 = L 38 21
      · rw [if_pos z, xu_eq, if_neg (by decide), h4]
      · rw [if_neg z]
        simp (decide := true) only [mEdI, xu_ne, xu_eq, xs_ne, xs_at, ne_eq, reduceIte, if_true, if_false, not_false_eq_true, h4]
    · have := i3 k hk
      unfold eOne at *
      rw [l3 46 (by decide) (by decide), l3 47 (by decide) (by decide), l3 48 (by decide) (by decide), l3 49 (by decide) (by decide)]
      exact this
    · by_cases z : L 38 22 = L 38 20 ∧ L 38 23 = L 38 21
      · rw [if_pos z, xu_eq, if_neg (by decide), h2]
        unfold cEnd
        rw [if_pos (i1.mp z)]
      · rw [if_neg z]
        unfold cEnd
        rw [if_neg (fun y => z (i1.mpr y))]
        simp (decide := true) only [mEdI, xu_ne, xu_eq, xs_ne, xs_at, ne_eq, reduceIte, if_true, if_false, not_false_eq_true]
    · simp (decide := true) only [xu_ne, xu_eq, xs_ne, xs_at, ne_eq, reduceIte, if_true, if_false, not_false_eq_true]
    · rw [xu_ne ha]
      split
      · rfl
      · unfold mEdI
        rw [if_neg (by decide), xu_ne ha]
    · rw [xu_eq, if_neg (by omega)]
      split
      · rfl
      · unfold mEdI
        rw [if_neg (by decide), xu_eq, if_neg (by omega)]
theorem cBegin_67 {x y : Int32} : cBegin C e x y 6 7 = 1 := by simp (decide := true) only [cBegin, xu_ne, xu_eq, xs_ne, xs_at, ne_eq, reduceIte, if_true, if_false, not_false_eq_true]
theorem cEdge_67 {x y : Int32} : cEdge C e x y 6 7 = C 6 7 := by simp (decide := true) only [cEdge, cHold, xu_ne, xu_eq, xs_ne, xs_at, ne_eq, reduceIte, if_true, if_false, not_false_eq_true]
theorem g_le {a b : Nat} {x : Int32} (h1 : x = nI a) (ha : a ≤ 60) (hb : b ≤ 4) (h2 : x + nI b ≤ 60) : a + b ≤ 60 := by
  rw [h1, nI_add] at h2
  exact (nI_leI (a := a + b) (b := 60) (by omega) (by decide)).mp h2
theorem op_path {J J2 M1 : Nat → Nat → Int32} {L0 L1 L2 : Nat → Nat → Int64} {o k : Int32} (hE : rD J M L1 n w h s c p) (hfJ : ∀ a, 38 ≤ a → J a = C a) (r1 : X (d + 4) none 32 (0, [some (.ref 3), some (.int o), some (.int q), none], [], (xSH, C, L0, xR0)) = some (none, (xSH, xu J2 3 7 0, L0, xR0))) (r2 : X (d + 4) none 92 (0, [some (.ref 38), some (.int k), none, none, none, none, none, none, none, none, none, none, none, none, none], [], (xSH, M, L1, xR0)) = some (none, (xSH, M1, L2, xR0))) (hp : rPe J2 M1 L2 e g) (x1 : J2 6 7 = 1) (m18 : M1 38 18 = 1) (jf : ∀ a, a < 6 ∨ 10 < a → J2 a = J a) (mf : ∀ a, a ≠ 38 → M1 a = M a) (mf' : ∀ k, k < 16 ∨ 18 < k → M1 38 k = M 38 k) (l42 : L2 42 = L1 42) (l43 : L2 43 = L1 43) : ∃ C' M' L' s', X (d + 4) none 32 (0, [some (.ref 3), some (.int o), some (.int q), none], [], (xSH, C, L0, xR0)) = some (none, (xSH, C', L0, xR0)) ∧ X (d + 4) none 92 (0, [some (.ref 38), some (.int k), none, none, none, none, none, none, none, none, none, none, none, none, none], [], (xSH, M, L1, xR0)) = some (none, (xSH, M', L', xR0)) ∧ rD C' (xu M' 38 25 0) L' n w h s' 0 p ∧ (∀ a, 38 ≤ a → C' a = C a) ∧ (∀ a, a < 38 → M' a = M a) := by
  have hcut := hE.2.2.2.2.2.2.1
  have hcr := hE.2.2.2.2.2.2.2.1
  refine ⟨_, _, _, s, r1, r2, rD_keep hE (fun a h1 h2 _ _ _ => ?_) (fun k h1 _ => ?_) ?_ (fun a ha => ?_) (fun k h1 h2 => ?_) ?_ ?_ ?_ l42 l43 ⟨g, hp.2.2.2.2.1, ?_⟩ ⟨?_, Or.inr ⟨?_, e, g, rPe_fr hp (fun a h1 h2 => ?_) ?_ ?_ (fun _ _ _ => rfl) (fun _ _ _ => rfl)⟩⟩, fun a ha => ?_, fun a ha => mf a (by omega)⟩
  · rw [xu_ne h1, jf a (by omega)]
  · rw [xu_eq, if_neg h1, jf 3 (by decide)]
  · rw [xu_eq, if_pos rfl]
  · rw [xu_ne ha, mf a ha]
  · rw [xu_eq, if_neg h2, mf' k (by omega)]
  · rw [xu_eq, if_pos rfl]
  · rw [xu_eq, if_neg (by decide), xu_eq, if_neg (by decide), jf 3 (by decide), mf' 19 (by decide)]
    exact hcut
  · rw [xu_eq, if_neg (by decide), jf 3 (by decide)]
    exact hcr
  · rw [xu_eq, if_neg (by decide)]
    exact hp.2.2.2.1
  · rw [xu_ne (by decide), xu_eq, if_neg (by decide), x1, m18]
  · rw [xu_ne (by decide), x1]
  · rw [xu_ne (by omega)]
  · rw [xu_eq, if_neg (by decide)]
  · rw [xu_eq, if_neg (by decide)]
  · rw [xu_ne (by omega), jf a (by omega), hfJ a ha]
theorem opS_m (hD : rD C M L n w h s c p) (h0 : cF C s 109 = 0) : opS d C M L n w h p 109 4 q := by
  intro L0 L1 hL
  have hx := rD_x hD
  obtain ⟨f1, f2, f3, f4, f5, f6, f7⟩ := cF_0 h0
  have ho := rD_ops hD (m := 2) rfl (by decide) f2
  have hJf : ∀ a, a ≠ 14 → a ≠ 15 → a ≠ 16 → cPr C s 109 a = C a := fun a h1 h2 _ => cPt_fr h1 h2
  have hE := rD_pr (rD_frL hD hL) hJf
  have k14 : cPr C s 109 14 0 = (ptX (cMat C s) (C 13 0) (C 13 1)).toInt32 := by
    show cPt C s 0 (C 13 0) (C 13 1) 14 0 = _
    simp (decide := true) only [cPt, xu_ne, xu_eq, xs_ne, xs_at, ne_eq, reduceIte, if_true, if_false, not_false_eq_true]
  have k15 : cPr C s 109 15 0 = (ptY (cMat C s) (C 13 0) (C 13 1)).toInt32 := by
    show cPt C s 0 (C 13 0) (C 13 1) 15 0 = _
    simp (decide := true) only [cPt, xu_ne, xu_eq, xs_ne, xs_at, ne_eq, reduceIte, if_true, if_false, not_false_eq_true]
  have hS := (rD_frL hD hL).2.2.1
  have hpt : ptOk (cMat C s) (C 13 0) (C 13 1) = true := f6
  obtain ⟨p1, p2⟩ := pt_sm hpt
  rw [← k14, (far_eq hS).1, ho 0 (by decide), ho 1 (by decide)] at p1
  rw [← k15, (far_eq hS).2, ho 0 (by decide), ho 1 (by decide)] at p2
  generalize hJ : cPr C s 109 = J at *
  obtain ⟨e, g, M1, L2, j5, j6, jE, hm, hp, m18, mf, mf', l42, l43⟩ := mv_step (d := d + 1) hE.2.2.2.2.2.2.2.2 p1 p2
  have hg := hp.2.2.2.2.1
  refine op_path hE (fun a ha => hJf a (by omega) (by omega) (by omega)) (c_take0 (J1 := J) (J2 := cBegin J e (J 14 0) (J 15 0)) (J3 := cBegin J e (J 14 0) (J 15 0)) hD.1.2.2.2.2.1 hD.1.2.2.2.1 hx h0 ?_ ?_ ?_) (m_act_4 hm) hp cBegin_67 m18 (fun a ha => cBegin_fr (by omega) (by omega) (by omega) (by omega) (by omega)) mf mf' l42 l43
  · rw [hJ]
    exact c_cs_d (by decide) (by decide) (by decide) (by decide)
  · exact c_bp_m j5 (by omega)
  · exact c_up_d (by decide) (by decide) (by decide) (by decide) (by decide)
end OP
