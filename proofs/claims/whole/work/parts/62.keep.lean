section KP
variable {C C' M M' : Nat → Nat → Int32} {L L' : Nat → Nat → Int64} {n w h s c p e g : Nat}
theorem rT_fr (hh : rT C M n) (a : C' 1 = C 1) (b : C' 2 = C 2) (c : M' 38 1 = M 38 1) (d : M' 39 = M 39) : rT C' M' n := by
  unfold rT at *
  rw [a, b, c, d]
  exact hh
theorem rV_fr (hh : rV C M) (a : ∀ k, 10 ≤ k → k ≤ 14 → C' 3 k = C 3 k) (b : ∀ k, 26 ≤ k → k ≤ 30 → M' 38 k = M 38 k) : rV C' M' := by
  unfold rV at *
  rw [a 10 (by decide) (by decide), a 11 (by decide) (by decide), a 12 (by decide) (by decide), a 13 (by decide) (by decide), a 14 (by decide) (by decide), b 26 (by decide) (by decide), b 27 (by decide) (by decide), b 28 (by decide) (by decide), b 29 (by decide) (by decide), b 30 (by decide) (by decide)]
  exact hh
theorem rP_fr (hh : rP C M w h) (a : C' 4 = C 4) (b : C' 5 = C 5) (c : M' 38 2 = M 38 2) (d : M' 38 3 = M 38 3) (e : M' 40 = M 40) : rP C' M' w h := by
  unfold rP at *
  rw [a, b, c, d, e]
  exact hh
theorem rS_fr (hh : rS C M L s) (a : ∀ x, 17 ≤ x → C' x = C x) (b : M' 38 11 = M 38 11) (c : M' 38 7 = M 38 7) (d : L' 42 = L 42) : rS C' M' L' s := by
  unfold rS at *
  rw [a (17 + 3 * s) (by omega), a (17 + 3 * s + 1) (by omega), b, c, d]
  exact hh
theorem clR_fr {cl cl' mc mc' : Nat → Int32} (hw : w ≤ 20) (hh : clR cl mc w h) (a : ∀ q, q < 20 → cl' q = cl q) (b : ∀ q, q < 400 → mc' q = mc q) : clR cl' mc' w h := by
  obtain ⟨⟨cb, h3⟩, h4⟩ := hh
  refine ⟨⟨cb, fun q hq => ?_⟩, fun q hq => ?_⟩
  · rw [a q hq]
    refine ⟨(h3 q hq).1, (h3 q hq).2.1, fun x => ?_⟩
    rw [(h3 q hq).2.2 x]
    by_cases hx : x < w
    · rw [b _ (by omega)]
    · simp only [hx, decide_false, Bool.false_and]
  · rw [b q hq]
    exact h4 q hq
theorem rO1_fr {i : Nat} (hw : w ≤ 20) (hh : rO1 C M L w h i) (a : ∀ x, 17 + 3 * i ≤ x → x ≤ 17 + 3 * i + 2 → C' x = C x) (b : M' 44 i = M 44 i) (c : ∀ q, q < 400 → M' 45 (400 * i + q) = M 45 (400 * i + q)) (d : ∀ k, k < 6 → L' 43 (6 * i + k) = L 43 (6 * i + k)) : rO1 C' M' L' w h i := by
  obtain ⟨h1, h2, h3⟩ := hh
  refine ⟨fun k hk => ?_, ?_, clR_fr hw h3 (fun q _ => ?_) c⟩
  · rw [a _ (by omega) (by omega), d k hk]
    exact h1 k hk
  · rw [a _ (by omega) (by omega), b]
    exact h2
  · rw [a _ (by omega) (by omega)]
theorem rO_fr (hw : w ≤ 20) (hh : rO C M L s w h) (a : ∀ x, 17 ≤ x → x < 17 + 3 * s → C' x = C x) (b : M' 44 = M 44) (c : M' 45 = M 45) (d : L' 43 = L 43) : rO C' M' L' s w h := fun i hi =>
  rO1_fr hw (hh i hi) (fun x h1 h2 => a x (by omega) (by omega)) (by rw [b]) (fun q _ => by rw [c]) (fun k _ => by rw [d])
theorem rN_0 (a : C' 3 7 = 0) (b : M' 38 25 = 0) : rN C' M' 0 := ⟨a, b, fun k hk => absurd hk (by omega)⟩
theorem rPe_fr (hh : rPe C M L e g) (a : ∀ x, 6 ≤ x → x ≤ 10 → C' x = C x) (b : M' 38 16 = M 38 16) (c : M' 38 17 = M 38 17) (d : ∀ x, 46 ≤ x → x ≤ 49 → L' x = L x) (f : ∀ k, 20 ≤ k → k ≤ 23 → L' 38 k = L 38 k) : rPe C' M' L' e g := by
  unfold rPe edgeR eOne cEnd at *
  rw [a 6 (by decide) (by decide), a 7 (by decide) (by decide), a 8 (by decide) (by decide), a 9 (by decide) (by decide), a 10 (by decide) (by decide), b, c, d 46 (by decide) (by decide), d 47 (by decide) (by decide), d 48 (by decide) (by decide), d 49 (by decide) (by decide), f 20 (by decide) (by decide), f 21 (by decide) (by decide), f 22 (by decide) (by decide), f 23 (by decide) (by decide)]
  exact hh
theorem rPa_fr (hh : rPa C M L) (a : ∀ x, 6 ≤ x → x ≤ 10 → C' x = C x) (r : C' 3 9 = C 3 9) (b : M' 38 16 = M 38 16) (c : M' 38 17 = M 38 17) (c' : M' 38 18 = M 38 18) (d : ∀ x, 46 ≤ x → x ≤ 49 → L' x = L x) (f : ∀ k, 20 ≤ k → k ≤ 23 → L' 38 k = L 38 k) : rPa C' M' L' := by
  unfold rPa at *
  rw [a 6 (by decide) (by decide), r, c']
  refine ⟨hh.1, hh.2.imp id fun z => ⟨z.1, ?_⟩⟩
  obtain ⟨-, e, g, z⟩ := z
  exact ⟨e, g, rPe_fr z a b c d f⟩
theorem rD_keep (hD : rD C M L n w h s c p) (hC : ∀ a, a ≠ 3 → (a < 6 ∨ 11 < a) → a ≠ 14 → a ≠ 15 → a ≠ 16 → C' a = C a) (hC3 : ∀ k, k ≠ 7 → k ≠ 9 → C' 3 k = C 3 k) (h7 : C' 3 7 = 0) (hM : ∀ a, a ≠ 38 → M' a = M a) (hM8 : ∀ k, k < 16 ∨ 19 < k → k ≠ 25 → M' 38 k = M 38 k) (h25 : M' 38 25 = 0) (h9 : C' 3 9 = M' 38 19) (h9' : C' 3 9 = 0 ∨ C' 3 9 = 1 ∨ C' 3 9 = 2) (hL : L' 42 = L 42) (hL3 : L' 43 = L 43) (hg : ∃ g, g ≤ 60 ∧ M' 38 17 = nI g) (hp : rPa C' M' L') : rD C' M' L' n w h s 0 p := by
  obtain ⟨⟨hT, hV, hP, h38, hs7, hcl, hdr, -⟩, hf, hS, hO, hN, hcp, hcut, hcr, -⟩ := hD
  have hw := hP.2.2.2.2.1
  have cs : ∀ x, 17 ≤ x → C' x = C x := fun x hx => hC x (by omega) (by omega) (by omega) (by omega) (by omega)
  refine ⟨⟨rT_fr hT (hC 1 (by decide) (by decide) (by decide) (by decide) (by decide)) (hC 2 (by decide) (by decide) (by decide) (by decide) (by decide)) (hM8 1 (by decide) (by decide)) (hM 39 (by decide)), rV_fr hV (fun k _ _ => hC3 k (by omega) (by omega)) (fun k _ _ => hM8 k (by omega) (by omega)), rP_fr hP (hC 4 (by decide) (by decide) (by decide) (by decide) (by decide)) (hC 5 (by decide) (by decide) (by decide) (by decide) (by decide)) (hM8 2 (by decide) (by decide)) (hM8 3 (by decide) (by decide)) (hM 40 (by decide)), ?_, hs7, ?_, ?_, hg⟩, ?_, rS_fr hS cs (hM8 11 (by decide) (by decide)) (hM8 7 (by decide) (by decide)) hL, rO_fr hw hO (fun x hx _ => cs x hx) (hM 44 (by decide)) (hM 45 (by decide)) hL3, rN_0 h7 h25, ⟨Nat.zero_le _, hcp.2⟩, h9, h9', hp⟩
  · rw [hC3 8 (by decide) (by decide)]
    exact h38
  · rw [cs _ (by omega), hM 41 (by decide)]
    exact hcl
  · rw [hM8 31 (by decide) (by decide)]
    exact hdr
  · rw [hC3 10 (by decide) (by decide)]
    exact hf
theorem rD_frL (hD : rD C M L n w h s c p) (hL : frL L L') : rD C M L' n w h s c p := by
  obtain ⟨hR, hf, hS, hO, hN, hcp, hcut, hcr, hpa⟩ := hD
  have l : ∀ a, a ≠ 38 → L' a = L a := fun a ha => funext fun k => hL a k (fun z => ha z.1)
  exact ⟨hR, hf, rS_fr hS (fun _ _ => rfl) rfl rfl (l 42 (by decide)), rO_fr hR.2.2.1.2.2.2.2.1 hO (fun _ _ _ => rfl) rfl rfl (l 43 (by decide)), hN, hcp, hcut, hcr, rPa_fr hpa (fun _ _ _ => rfl) rfl rfl rfl rfl (fun x _ _ => l x (by omega)) (fun k _ _ => hL 38 k (by omega))⟩
theorem rD_pr (hD : rD C M L n w h s c p) (hC : ∀ a, a ≠ 14 → a ≠ 15 → a ≠ 16 → C' a = C a) : rD C' M L n w h s c p := by
  obtain ⟨⟨hT, hV, hP, h38, hs7, hcl, hdr, hg⟩, hf, hS, hO, hN, hcp, hcut, hcr, hpa⟩ := hD
  have hw := hP.2.2.2.2.1
  have cs : ∀ x, 17 ≤ x → C' x = C x := fun x hx => hC x (by omega) (by omega) (by omega)
  have c3 := hC 3 (by decide) (by decide) (by decide)
  refine ⟨⟨rT_fr hT (hC 1 (by decide) (by decide) (by decide)) (hC 2 (by decide) (by decide) (by decide)) rfl rfl, rV_fr hV (fun k _ _ => by rw [c3]) (fun _ _ _ => rfl), rP_fr hP (hC 4 (by decide) (by decide) (by decide)) (hC 5 (by decide) (by decide) (by decide)) rfl rfl rfl, ?_, hs7, ?_, hdr, hg⟩, ?_, rS_fr hS cs rfl rfl rfl, rO_fr hw hO (fun x hx _ => cs x hx) rfl rfl rfl, ?_, hcp, ?_, ?_, rPa_fr hpa (fun x _ _ => hC x (by omega) (by omega) (by omega)) (by rw [c3]) rfl rfl rfl (fun _ _ _ => rfl) (fun _ _ _ => rfl)⟩
  · rw [c3]
    exact h38
  · rw [cs _ (by omega)]
    exact hcl
  · rw [c3]
    exact hf
  · unfold rN at *
    rw [c3, hC 13 (by decide) (by decide) (by decide)]
    exact hN
  · rw [c3]
    exact hcut
  · rw [c3]
    exact hcr
theorem wIn_sm {q : Int64} (hh : wIn 32767 q = true) : q.toInt32.toInt64 = q ∧ sm q.toInt32 := by
  unfold wIn at hh
  simp only [Bool.and_eq_true, decide_eq_true_eq, l_le] at hh
  have e1 : ((-(32767 : Int32)).toInt64).toInt = -32767 := by decide
  have e2 : ((32767 : Int32).toInt64).toInt = 32767 := by decide
  rw [e1, e2] at hh
  have e3 : q.toInt32.toInt = q.toInt := by
    rw [Int64.toInt_toInt32]
    exact Int.bmod_eq_of_le (by omega) (by omega)
  refine ⟨?_, ?_⟩
  · apply Int64.toInt_inj.mp
    rw [i_l, e3]
  · unfold sm
    rw [e3]
    exact hh
theorem pt_sm {m : Nat → Int32} {x y : Int32} (hh : ptOk m x y = true) : ((ptX m x y).toInt32.toInt64 = ptX m x y ∧ sm (ptX m x y).toInt32) ∧ (ptY m x y).toInt32.toInt64 = ptY m x y ∧ sm (ptY m x y).toInt32 := by
  unfold ptOk at hh
  rw [Bool.and_eq_true] at hh
  exact ⟨wIn_sm hh.1, wIn_sm hh.2⟩
theorem cEnd_le : e ≤ cEnd C e ∧ cEnd C e ≤ e + 1 := by
  unfold cEnd
  split <;> omega
theorem rPe_edge {x y : Int32} {X Y : Int64} (hh : rPe C M L e g) (hg : g < 60) (hx : x.toInt64 = X ∧ sm x) (hy : y.toInt64 = Y ∧ sm y) : rPe (cEdge C e x y) (mEdI M e true) (mEdL L e X Y) (e + 1) (g + 1) := by
  obtain ⟨h1, h2, h3, h4, h5, h6, h7, h8, h9, h10, h11, h12, h13, h14, h15⟩ := hh
  have k1 := @cEnd_le C e
  have k2 := @cEnd_le (cEdge C e x y) (e + 1)
  refine ⟨cEdge_5, mEdI_16, ?_, ?_, by omega, by omega, fun k hk => ?_, ?_, ?_, ?_, ?_, ?_, ?_, ?_, ?_⟩
  · simp (decide := true) only [cEdge, cHold, xu_ne, xu_eq, xs_ne, xs_at, ne_eq, reduceIte, if_true, if_false, not_false_eq_true, h3, nI_1]
  · simp (decide := true) only [mEdI, xu_ne, xu_eq, xs_ne, xs_at, ne_eq, reduceIte, if_true, if_false, not_false_eq_true, h4, nI_1]
  · by_cases z : k = e
    · subst z
      unfold eOne
      simp (decide := true) only [cEdge, cHold, mEdL, xu_ne, xu_eq, xs_ne, xs_at, ne_eq, reduceIte, if_true, if_false, not_false_eq_true, hx, hy, h10, h11, h14, h15, and_self]
    · have := h7 k (by omega)
      unfold eOne at *
      simp (decide := true) only [cEdge, cHold, mEdL, xu_ne, xu_eq, xs_ne, xs_at, ne_eq, reduceIte, if_true, if_false, not_false_eq_true, z]
      exact this
  all_goals simp (decide := true) only [cEdge, cHold, mEdL, xu_ne, xu_eq, xs_ne, xs_at, ne_eq, reduceIte, if_true, if_false, not_false_eq_true]
  · exact h8
  · exact h9
  · exact hx.1.symm
  · exact hy.1.symm
  · exact h12
  · exact h13
  · exact hx.2
  · exact hy.2
end KP
