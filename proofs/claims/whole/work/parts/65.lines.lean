section OQ
variable {d : Nat} {C C' M M' : Nat → Nat → Int32} {L L' : Nat → Nat → Int64} {n w h s c p e g : Nat} {q : Int32}
theorem mEdI_fr {b : Bool} : (∀ a, a ≠ 38 → mEdI M e b a = M a) ∧ (∀ k, k ≠ 16 → k ≠ 17 → mEdI M e b 38 k = M 38 k) := by
  unfold mEdI
  cases b
  · rw [if_neg (by decide)]
    exact ⟨fun a ha => xu_ne ha, fun k h1 h2 => by rw [xu_eq, if_neg h1]⟩
  · rw [if_pos rfl]
    exact ⟨fun a ha => by rw [xu_ne ha, xu_ne ha], fun k h1 h2 => by rw [xu_eq, if_neg h2, xu_eq, if_neg h1]⟩
theorem mEdL_fr {x y : Int64} : mEdL L e x y 42 = L 42 ∧ mEdL L e x y 43 = L 43 ∧ mEdL L e x y 38 20 = L 38 20 ∧ mEdL L e x y 38 21 = L 38 21 := by
  simp (decide := true) only [mEdL, xu_ne, xu_eq, xs_ne, xs_at, ne_eq, reduceIte, if_true, if_false, not_false_eq_true, and_self]
theorem rPe_frL (hh : rPe C M L e g) (hL : frL L L') : rPe C M L' e g :=
  rPe_fr hh (fun _ _ _ => rfl) rfl rfl (fun x _ _ => funext fun k => hL x k (by omega)) (fun k _ _ => hL 38 k (by omega))
theorem rPe_line {x y u v : Int32} (hh : rPe C M L e g) (hg : g < 60) (hx : x.toInt64 = mFarX L u v ∧ sm x) (hy : y.toInt64 = mFarY L u v ∧ sm y) : rPe (cEdge C e x y) (mEdI M e true) (mLnL L e u v) (e + 1) (g + 1) := rPe_edge (rPe_frL hh frL_far) hg hx hy
theorem rPa_1 (hh : rPa C M L) (hx : ¬ C 6 7 = 0) : C 6 7 = 1 ∧ M 38 18 = 1 ∧ ∃ e g, rPe C M L e g := by
  obtain ⟨h18, ⟨h7, -⟩ | ⟨h7, z⟩⟩ := hh
  · exact absurd h7 hx
  · exact ⟨h7, by rw [← h18, h7], z⟩
theorem opS_l (hD : rD C M L n w h s c p) (h0 : cF C s 108 = 0) : opS d C M L n w h p 108 5 q := by
  intro L0 L1 hL
  have hx := rD_x hD
  obtain ⟨f1, f2, f3, f4, f5, f6, f7⟩ := cF_0 h0
  have ho := rD_ops hD (m := 2) rfl (by decide) f2
  have hJf : ∀ a, a ≠ 14 → a ≠ 15 → a ≠ 16 → cPr C s 108 a = C a := fun a h1 h2 _ => cPt_fr h1 h2
  have hE := rD_pr (rD_frL hD hL) hJf
  have k14 : cPr C s 108 14 0 = (ptX (cMat C s) (C 13 0) (C 13 1)).toInt32 := by
    show cPt C s 0 (C 13 0) (C 13 1) 14 0 = _
    simp (decide := true) only [cPt, xu_ne, xu_eq, xs_ne, xs_at, ne_eq, reduceIte, if_true, if_false, not_false_eq_true]
  have k15 : cPr C s 108 15 0 = (ptY (cMat C s) (C 13 0) (C 13 1)).toInt32 := by
    show cPt C s 0 (C 13 0) (C 13 1) 15 0 = _
    simp (decide := true) only [cPt, xu_ne, xu_eq, xs_ne, xs_at, ne_eq, reduceIte, if_true, if_false, not_false_eq_true]
  have hS := (rD_frL hD hL).2.2.1
  have hpt : ptOk (cMat C s) (C 13 0) (C 13 1) = true := f6
  obtain ⟨p1, p2⟩ := pt_sm hpt
  rw [← k14, (far_eq hS).1, ho 0 (by decide), ho 1 (by decide)] at p1
  rw [← k15, (far_eq hS).2, ho 0 (by decide), ho 1 (by decide)] at p2
  generalize hJ : cPr C s 108 = J at *
  have j6 := hJf 6 (by decide) (by decide) (by decide)
  obtain ⟨x1, m18, e, g, hp⟩ := rPa_1 hE.2.2.2.2.2.2.2.2 (by rw [j6]; exact fun z => f3 ⟨z, rfl⟩)
  rw [← j6] at f7
  have hg := g_le (b := 1) hp.2.2.1 hp.2.2.2.2.1 (by decide) f7
  have he := @cEnd_le J e
  have he' := hp.2.2.2.2.2.1
  refine op_path hE (fun a ha => hJf a (by omega) (by omega) (by omega)) (c_take0 (J1 := J) (J2 := cEdge J e (J 14 0) (J 15 0)) (J3 := cEdge J e (J 14 0) (J 15 0)) hD.1.2.2.2.2.1 hD.1.2.2.2.1 hx h0 ?_ ?_ ?_) (m_act_5 hp.2.1 (by omega)) (rPe_line hp (by omega) p1 p2) (cEdge_67.trans x1) ((mEdI_fr.2 18 (by decide) (by decide)).trans m18) (fun a ha => cEdge_fr (by omega) (by omega) (by omega) (by omega) (by omega)) mEdI_fr.1 (fun k hk => mEdI_fr.2 k (by omega) (by omega)) mLnL_0.2.2.1 mLnL_0.2.2.2
  · rw [hJ]
    exact c_cs_d (by decide) (by decide) (by decide) (by decide)
  · exact c_bp_l hp.1 (by omega)
  · exact c_up_d (by decide) (by decide) (by decide) (by decide) (by decide)
theorem opS_h (hD : rD C M L n w h s c p) (h0 : cF C s 104 = 0) : opS d C M L n w h p 104 6 q := by
  intro L0 L1 hL
  have hx := rD_x hD
  obtain ⟨f1, f2, f3, f4, f5, f6, f7⟩ := cF_0 h0
  have hE := rD_frL hD hL
  obtain ⟨x1, m18, e, g, hp⟩ := rPa_1 hE.2.2.2.2.2.2.2.2 (fun z => f3 ⟨z, rfl⟩)
  have hg := g_le (b := 1) hp.2.2.1 hp.2.2.2.2.1 (by decide) f7
  have he := @cEnd_le C e
  have he' := hp.2.2.2.2.2.1
  obtain ⟨h1, h2, h3, h4, h5, h6, h7, h8, h9, h10, h11, h12, h13, h14, h15⟩ := id hp
  refine op_path hE (fun a ha => rfl) (c_take0 (J1 := C) (J2 := cEdge C e (C 6 8) (C 6 9)) (J3 := cEdge C e (C 6 8) (C 6 9)) hD.1.2.2.2.2.1 hD.1.2.2.2.1 hx h0 ?_ ?_ ?_) (m_act_6 hp.2.1 (by omega)) (rPe_edge hp (by omega) ⟨h8.symm, h12⟩ ⟨h9.symm, h13⟩) (cEdge_67.trans x1) ((mEdI_fr.2 18 (by decide) (by decide)).trans m18) (fun a ha => cEdge_fr (by omega) (by omega) (by omega) (by omega) (by omega)) mEdI_fr.1 (fun k hk => mEdI_fr.2 k (by omega) (by omega)) mEdL_fr.1 mEdL_fr.2.1
  · exact c_cs_d (by decide) (by decide) (by decide) (by decide)
  · exact c_bp_h hp.1 (by omega)
  · exact c_up_d (by decide) (by decide) (by decide) (by decide) (by decide)
theorem opS_c (hD : rD C M L n w h s c p) (h0 : cF C s 99 = 0) : opS d C M L n w h p 99 8 q := by
  intro L0 L1 hL
  have hx := rD_x hD
  obtain ⟨f1, f2, f3, f4, f5, f6, f7⟩ := cF_0 h0
  have ho := rD_ops hD (m := 6) rfl (by decide) f2
  have hJd : cPr C s 99 = cPt (cPt (cPt C s 0 (C 13 0) (C 13 1)) s 1 (C 13 2) (C 13 3)) s 2 (C 13 4) (C 13 5) := rfl
  have hJf : ∀ a, a ≠ 14 → a ≠ 15 → a ≠ 16 → cPr C s 99 a = C a := fun a h1 h2 _ => by rw [hJd, cPt_fr h1 h2, cPt_fr h1 h2, cPt_fr h1 h2]
  have hE := rD_pr (rD_frL hD hL) hJf
  have k : cPr C s 99 14 0 = (ptX (cMat C s) (C 13 0) (C 13 1)).toInt32 ∧ cPr C s 99 15 0 = (ptY (cMat C s) (C 13 0) (C 13 1)).toInt32 ∧ cPr C s 99 14 1 = (ptX (cMat C s) (C 13 2) (C 13 3)).toInt32 ∧ cPr C s 99 15 1 = (ptY (cMat C s) (C 13 2) (C 13 3)).toInt32 ∧ cPr C s 99 14 2 = (ptX (cMat C s) (C 13 4) (C 13 5)).toInt32 ∧ cPr C s 99 15 2 = (ptY (cMat C s) (C 13 4) (C 13 5)).toInt32 := by
    rw [hJd]
    unfold cPt
    simp (decide := true) only [xu_ne, xu_eq, xs_ne, xs_at, ne_eq, reduceIte, if_true, if_false, not_false_eq_true, cMat_xu, and_self]
  have hS := (rD_frL hD hL).2.2.1
  have hpt : (ptOk (cMat C s) (C 13 0) (C 13 1) && ptOk (cMat C s) (C 13 2) (C 13 3) && ptOk (cMat C s) (C 13 4) (C 13 5)) = true := f6
  rw [Bool.and_eq_true, Bool.and_eq_true] at hpt
  obtain ⟨p1, p2⟩ := pt_sm hpt.1.1
  obtain ⟨p3, p4⟩ := pt_sm hpt.1.2
  obtain ⟨p5, p6⟩ := pt_sm hpt.2
  rw [← k.1, (far_eq hS).1, ho 0 (by decide), ho 1 (by decide)] at p1
  rw [← k.2.1, (far_eq hS).2, ho 0 (by decide), ho 1 (by decide)] at p2
  rw [← k.2.2.1, (far_eq hS).1, ho 2 (by decide), ho 3 (by decide)] at p3
  rw [← k.2.2.2.1, (far_eq hS).2, ho 2 (by decide), ho 3 (by decide)] at p4
  rw [← k.2.2.2.2.1, (far_eq hS).1, ho 4 (by decide), ho 5 (by decide)] at p5
  rw [← k.2.2.2.2.2, (far_eq hS).2, ho 4 (by decide), ho 5 (by decide)] at p6
  clear k hJd
  generalize hJ : cPr C s 99 = J at *
  have j6 := hJf 6 (by decide) (by decide) (by decide)
  obtain ⟨x1, m18, e, g, hp⟩ := rPa_1 hE.2.2.2.2.2.2.2.2 (by rw [j6]; exact fun z => f3 ⟨z, rfl⟩)
  rw [← j6] at f7
  have hg := g_le (b := 4) hp.2.2.1 hp.2.2.2.2.1 (by decide) f7
  have he := @cEnd_le J e
  have he' := hp.2.2.2.2.2.1
  obtain ⟨h1, h2, h3, h4, h5, h6, h7, h8, h9, h10, h11, h12, h13, h14, h15⟩ := id hp
  have vx : ∀ (K : Int32) (K' : Int64) (k : Int), K.toInt = k → K'.toInt = k → (k = 1 ∨ k = 2 ∨ k = 3 ∨ k = 4) → (cvC K (J 6 10) (J 14)).toInt64 = alg (L1 38 22) (mFarX L1 (M 50 0) (M 50 1)) (mFarX L1 (M 50 2) (M 50 3)) (mFarX L1 (M 50 4) (M 50 5)) K' ∧ sm (cvC K (J 6 10) (J 14)) := fun K K' k a b z => by
    have := cv_eq (p := J 14) a b z h14 p1.2 p3.2 p5.2
    rw [p1.1, p3.1, p5.1, ← h10] at this
    exact this
  have vy : ∀ (K : Int32) (K' : Int64) (k : Int), K.toInt = k → K'.toInt = k → (k = 1 ∨ k = 2 ∨ k = 3 ∨ k = 4) → (cvC K (J 6 11) (J 15)).toInt64 = alg (L1 38 23) (mFarY L1 (M 50 0) (M 50 1)) (mFarY L1 (M 50 2) (M 50 3)) (mFarY L1 (M 50 4) (M 50 5)) K' ∧ sm (cvC K (J 6 11) (J 15)) := fun K K' k a b z => by
    have := cv_eq (p := J 15) a b z h15 p2.2 p4.2 p6.2
    rw [p2.1, p4.1, p6.1, ← h11] at this
    exact this
  have q0 : rPe J M (mFarL (mFarL (mFarL L1 (M 50 0) (M 50 1)) (M 50 2) (M 50 3)) (M 50 4) (M 50 5)) e g := rPe_frL hp (frL_tr frL_far (frL_tr frL_far frL_far))
  have q1 := rPe_edge q0 (by omega) (vx 1 1 1 rfl rfl (by decide)) (vy 1 1 1 rfl rfl (by decide))
  have q2 := rPe_edge q1 (by omega) (vx 2 2 2 rfl rfl (by decide)) (vy 2 2 2 rfl rfl (by decide))
  have q3 := rPe_edge q2 (by omega) (vx 3 3 3 rfl rfl (by decide)) (vy 3 3 3 rfl rfl (by decide))
  have q4 := rPe_edge q3 (by omega) (vx 4 4 4 rfl rfl (by decide)) (vy 4 4 4 rfl rfl (by decide))
  refine op_path hE (fun a ha => hJf a (by omega) (by omega) (by omega)) (c_take0 (J1 := J) (J2 := cCurve J e (J 6 10) (J 6 11)) (J3 := cCurve J e (J 6 10) (J 6 11)) hD.1.2.2.2.2.1 hD.1.2.2.2.1 hx h0 ?_ ?_ ?_) (m_act_8 hp.2.1 (by omega)) q4 ?_ ?_ (fun a ha => ?_) (fun a ha => ?_) (fun k hk => ?_) ?_ ?_
  · rw [hJ]
    exact c_cs_d (by decide) (by decide) (by decide) (by decide)
  · exact c_bp_c hp.1 (by omega)
  · exact c_up_d (by decide) (by decide) (by decide) (by decide) (by decide)
  · unfold cCurve
    rw [cEdge_67, cEdge_67, cEdge_67, cEdge_67, x1]
  · unfold mCurI
    rw [mEdI_fr.2 18 (by decide) (by decide), mEdI_fr.2 18 (by decide) (by decide), mEdI_fr.2 18 (by decide) (by decide), mEdI_fr.2 18 (by decide) (by decide), m18]
  · unfold cCurve
    rw [cEdge_fr (by omega) (by omega) (by omega) (by omega) (by omega), cEdge_fr (by omega) (by omega) (by omega) (by omega) (by omega), cEdge_fr (by omega) (by omega) (by omega) (by omega) (by omega), cEdge_fr (by omega) (by omega) (by omega) (by omega) (by omega)]
  · unfold mCurI
    rw [mEdI_fr.1 a ha, mEdI_fr.1 a ha, mEdI_fr.1 a ha, mEdI_fr.1 a ha]
  · unfold mCurI
    rw [mEdI_fr.2 k (by omega) (by omega), mEdI_fr.2 k (by omega) (by omega), mEdI_fr.2 k (by omega) (by omega), mEdI_fr.2 k (by omega) (by omega)]
  · unfold mCurL
    rw [mEdL_fr.1, mEdL_fr.1, mEdL_fr.1, mEdL_fr.1, far_42, far_42, far_42]
  · unfold mCurL
    rw [mEdL_fr.2.1, mEdL_fr.2.1, mEdL_fr.2.1, mEdL_fr.2.1]
    simp (decide := true) only [mFarL, xu_ne, xu_eq, xs_ne, xs_at, ne_eq, reduceIte, if_true, if_false, not_false_eq_true]
theorem opS_re (hD : rD C M L n w h s c p) (h0 : cF C s 25970 = 0) : opS d C M L n w h p 25970 7 q := by
  intro L0 L1 hL
  have hx := rD_x hD
  obtain ⟨f1, f2, f3, f4, f5, f6, f7⟩ := cF_0 h0
  have ho := rD_ops hD (m := 4) rfl (by decide) f2
  have hJd : cPr C s 25970 = cPt (cPt (cPt (cPt C s 0 (C 13 0) (C 13 1)) s 1 (C 13 0 + C 13 2) (C 13 1)) s 2 (C 13 0 + C 13 2) (C 13 1 + C 13 3)) s 3 (C 13 0) (C 13 1 + C 13 3) := rfl
  have hJf : ∀ a, a ≠ 14 → a ≠ 15 → a ≠ 16 → cPr C s 25970 a = C a := fun a h1 h2 _ => by rw [hJd, cPt_fr h1 h2, cPt_fr h1 h2, cPt_fr h1 h2, cPt_fr h1 h2]
  have hE := rD_pr (rD_frL hD hL) hJf
  have k : (cPr C s 25970 14 0 = (ptX (cMat C s) (C 13 0) (C 13 1)).toInt32 ∧ cPr C s 25970 15 0 = (ptY (cMat C s) (C 13 0) (C 13 1)).toInt32) ∧ (cPr C s 25970 14 1 = (ptX (cMat C s) (C 13 0 + C 13 2) (C 13 1)).toInt32 ∧ cPr C s 25970 15 1 = (ptY (cMat C s) (C 13 0 + C 13 2) (C 13 1)).toInt32) ∧ (cPr C s 25970 14 2 = (ptX (cMat C s) (C 13 0 + C 13 2) (C 13 1 + C 13 3)).toInt32 ∧ cPr C s 25970 15 2 = (ptY (cMat C s) (C 13 0 + C 13 2) (C 13 1 + C 13 3)).toInt32) ∧ cPr C s 25970 14 3 = (ptX (cMat C s) (C 13 0) (C 13 1 + C 13 3)).toInt32 ∧ cPr C s 25970 15 3 = (ptY (cMat C s) (C 13 0) (C 13 1 + C 13 3)).toInt32 := by
    rw [hJd]
    unfold cPt
    simp (decide := true) only [xu_ne, xu_eq, xs_ne, xs_at, ne_eq, reduceIte, if_true, if_false, not_false_eq_true, cMat_xu, and_self]
  have hS := (rD_frL hD hL).2.2.1
  have hpt : (ptOk (cMat C s) (C 13 0) (C 13 1) && ptOk (cMat C s) (C 13 0 + C 13 2) (C 13 1) && ptOk (cMat C s) (C 13 0 + C 13 2) (C 13 1 + C 13 3) && ptOk (cMat C s) (C 13 0) (C 13 1 + C 13 3)) = true := f6
  rw [Bool.and_eq_true, Bool.and_eq_true, Bool.and_eq_true] at hpt
  obtain ⟨p1, p2⟩ := pt_sm hpt.1.1.1
  obtain ⟨p3, p4⟩ := pt_sm hpt.1.1.2
  obtain ⟨p5, p6⟩ := pt_sm hpt.1.2
  obtain ⟨p7, p8⟩ := pt_sm hpt.2
  rw [← k.1.1, (far_eq hS).1, ho 0 (by decide), ho 1 (by decide)] at p1
  rw [← k.1.2, (far_eq hS).2, ho 0 (by decide), ho 1 (by decide)] at p2
  rw [← k.2.1.1, (far_eq hS).1, ho 0 (by decide), ho 1 (by decide), ho 2 (by decide)] at p3
  rw [← k.2.1.2, (far_eq hS).2, ho 0 (by decide), ho 1 (by decide), ho 2 (by decide)] at p4
  rw [← k.2.2.1.1, (far_eq hS).1, ho 0 (by decide), ho 1 (by decide), ho 2 (by decide), ho 3 (by decide)] at p5
  rw [← k.2.2.1.2, (far_eq hS).2, ho 0 (by decide), ho 1 (by decide), ho 2 (by decide), ho 3 (by decide)] at p6
  rw [← k.2.2.2.1, (far_eq hS).1, ho 0 (by decide), ho 1 (by decide), ho 3 (by decide)] at p7
  rw [← k.2.2.2.2, (far_eq hS).2, ho 0 (by decide), ho 1 (by decide), ho 3 (by decide)] at p8
  clear k hJd
  generalize hJ : cPr C s 25970 = J at *
  obtain ⟨e, g, M1, L2, j5, j6, jE, hm, hp, m18, mf, mf', l42, l43⟩ := mv_step (d := d + 1) hE.2.2.2.2.2.2.2.2 p1 p2
  rw [← hJf 6 (by decide) (by decide) (by decide)] at f7
  have hg := g_le (b := 4) j6 hp.2.2.2.2.1 (by decide) f7
  obtain ⟨h1, h2, h3, h4, h5, h6, h7, h8, h9, h10, h11, h12, h13, h14, h15⟩ := id hp
  have k8 : L2 38 20 = (J 14 0).toInt64 := by
    rw [h8]
    simp (decide := true) only [cBegin, xu_ne, xu_eq, xs_ne, xs_at, ne_eq, reduceIte, if_true, if_false, not_false_eq_true]
  have k9 : L2 38 21 = (J 15 0).toInt64 := by
    rw [h9]
    simp (decide := true) only [cBegin, xu_ne, xu_eq, xs_ne, xs_at, ne_eq, reduceIte, if_true, if_false, not_false_eq_true]
  have fx : ∀ {L4 : Nat → Nat → Int64} {u v : Int32}, L4 42 = L1 42 → mFarX L1 u v = mFarX L4 u v := fun {L4 u v} z => by
    unfold mFarX
    rw [z]
  have fy : ∀ {L4 : Nat → Nat → Int64} {u v : Int32}, L4 42 = L1 42 → mFarY L1 u v = mFarY L4 u v := fun {L4 u v} z => by
    unfold mFarY
    rw [z]
  have z1 : ∀ {e' u v}, mLnL L2 e' u v 42 = L1 42 := mLnL_0.2.2.1.trans l42
  have z2 : ∀ {e' u v e2 u2 v2}, mLnL (mLnL L2 e' u v) e2 u2 v2 42 = L1 42 := mLnL_0.2.2.1.trans z1
  have q1 := rPe_line (u := M 50 0 + M 50 2) (v := M 50 1) hp (by omega) (p3.imp (fun z => z.trans (fx l42)) id) (p4.imp (fun z => z.trans (fy l42)) id)
  have q2 := rPe_line (u := M 50 0 + M 50 2) (v := M 50 1 + M 50 3) q1 (by omega) (p5.imp (fun z => z.trans (fx z1)) id) (p6.imp (fun z => z.trans (fy z1)) id)
  have q3 := rPe_line (u := M 50 0) (v := M 50 1 + M 50 3) q2 (by omega) (p7.imp (fun z => z.trans (fx z2)) id) (p8.imp (fun z => z.trans (fy z2)) id)
  have q4 := rPe_edge q3 (by omega) ⟨k8.symm, p1.2⟩ ⟨k9.symm, p2.2⟩
  refine op_path hE (fun a ha => hJf a (by omega) (by omega) (by omega)) (c_take0 (J1 := J) (J2 := cRect J e) (J3 := cRect J e) hD.1.2.2.2.2.1 hD.1.2.2.2.1 hx h0 ?_ ?_ ?_) (m_act_7 hm (mf 50 (by decide)) hp.2.1 (by omega)) q4 ?_ ?_ (fun a ha => ?_) (fun a ha => ?_) (fun k hk => ?_) ?_ ?_
  · rw [hJ]
    exact c_cs_d (by decide) (by decide) (by decide) (by decide)
  · exact c_bp_re j5 (by omega)
  · exact c_up_d (by decide) (by decide) (by decide) (by decide) (by decide)
  · unfold cRect
    rw [cEdge_67, cEdge_67, cEdge_67, cEdge_67, cBegin_67]
  · rw [mEdI_fr.2 18 (by decide) (by decide), mEdI_fr.2 18 (by decide) (by decide), mEdI_fr.2 18 (by decide) (by decide), mEdI_fr.2 18 (by decide) (by decide), m18]
  · unfold cRect
    rw [cEdge_fr (by omega) (by omega) (by omega) (by omega) (by omega), cEdge_fr (by omega) (by omega) (by omega) (by omega) (by omega), cEdge_fr (by omega) (by omega) (by omega) (by omega) (by omega), cEdge_fr (by omega) (by omega) (by omega) (by omega) (by omega), cBegin_fr (by omega) (by omega) (by omega) (by omega) (by omega)]
  · rw [mEdI_fr.1 a ha, mEdI_fr.1 a ha, mEdI_fr.1 a ha, mEdI_fr.1 a ha, mf a ha]
  · rw [mEdI_fr.2 k (by omega) (by omega), mEdI_fr.2 k (by omega) (by omega), mEdI_fr.2 k (by omega) (by omega), mEdI_fr.2 k (by omega) (by omega), mf' k hk]
  · rw [mEdL_fr.1, mLnL_0.2.2.1, z2]
  · rw [mEdL_fr.2.1, mLnL_0.2.2.2, mLnL_0.2.2.2, mLnL_0.2.2.2, l43]
end OQ
