section JO
variable {d : Nat} {C C' M M' K : Nat → Nat → Int32} {L L' L0 L1 : Nat → Nat → Int64} {n w h s c p : Nat} {q o : Int32} {x3 x4 : Option Value}
theorem rR_flt (hR : rRest C M n w h s) (hC : ∀ a, a ≠ 3 → a ≠ 14 → a ≠ 15 → a ≠ 16 → C' a = C a) (hC3 : ∀ k, k ≠ 7 → k ≠ 10 → k ≠ 11 → C' 3 k = C 3 k) (hM : ∀ a, a ≠ 38 → a ≠ 50 → M' a = M a) (hM8 : ∀ k, k ≠ 25 → k ≠ 26 → k ≠ 27 → M' 38 k = M 38 k) (h10 : C' 3 10 = M' 38 26) (h11 : C' 3 11 = M' 38 27) : rRest C' M' n w h s := by
  obtain ⟨hT, hV, hP, h38, hs7, hcl, hdr, hg⟩ := hR
  refine ⟨rT_fr hT (hC 1 (by decide) (by decide) (by decide) (by decide)) (hC 2 (by decide) (by decide) (by decide) (by decide)) (hM8 1 (by decide) (by decide) (by decide)) (hM 39 (by decide) (by decide)), ?_, rP_fr hP (hC 4 (by decide) (by decide) (by decide) (by decide)) (hC 5 (by decide) (by decide) (by decide) (by decide)) (hM8 2 (by decide) (by decide) (by decide)) (hM8 3 (by decide) (by decide) (by decide)) (hM 40 (by decide) (by decide)), ?_, hs7, ?_, ?_, ?_⟩
  · obtain ⟨-, -, v3, v4, v5⟩ := hV
    unfold rV
    rw [hC3 12 (by decide) (by decide) (by decide), hC3 13 (by decide) (by decide) (by decide), hC3 14 (by decide) (by decide) (by decide), hM8 28 (by decide) (by decide) (by decide), hM8 29 (by decide) (by decide) (by decide), hM8 30 (by decide) (by decide) (by decide)]
    exact ⟨h10, h11, v3, v4, v5⟩
  · rw [hC3 8 (by decide) (by decide) (by decide)]
    exact h38
  · rw [hC _ (by omega) (by omega) (by omega) (by omega), hM 41 (by decide) (by decide)]
    exact hcl
  · rw [hM8 31 (by decide) (by decide) (by decide)]
    exact hdr
  · rw [hM8 17 (by decide) (by decide) (by decide)]
    exact hg
theorem rD_p {p' : Nat} (hD : rD C M L n w h s c p) (h1 : p ≤ p') (h2 : p' ≤ n) : rD C M L n w h s c p' := by
  obtain ⟨hR, hf, hS, hO, hN, hcp, hr⟩ := hD
  exact ⟨hR, hf, hS, hO, hN, ⟨by omega, h2⟩, hr⟩
theorem rD_num {p' : Nat} {v : Int32} (hD : rD C M L n w h s c p) (h1 : p < p') (h2 : p' ≤ n) : rD (xu (if c < 6 then xu C 13 c v else C) 3 7 (nI (c + 1))) (xu (xu M 50 c v) 38 25 (nI (c + 1))) L n w h s (c + 1) p' := by
  obtain ⟨⟨hT, hV, hP, h38, hs7, hcl, hdr, hg⟩, hf, hS, hO, hN, hcp, hcut, hcr, hpa⟩ := hD
  have hw := hP.2.2.2.2.1
  have c0 : ∀ a, a ≠ 13 → (if c < 6 then xu C 13 c v else C) a = C a := fun a ha => by
    split
    · rw [xu_ne ha]
    · rfl
  have hC : ∀ a, a ≠ 3 → a ≠ 13 → xu (if c < 6 then xu C 13 c v else C) 3 7 (nI (c + 1)) a = C a := fun a h3 h4 => by rw [xu_ne h3, c0 a h4]
  have hC3 : ∀ k, k ≠ 7 → xu (if c < 6 then xu C 13 c v else C) 3 7 (nI (c + 1)) 3 k = C 3 k := fun k hk => by rw [xu_eq, if_neg hk, c0 3 (by decide)]
  have hM : ∀ a, a ≠ 38 → a ≠ 50 → xu (xu M 50 c v) 38 25 (nI (c + 1)) a = M a := fun a h3 h4 => by rw [xu_ne h3, xu_ne h4]
  have hM8 : ∀ k, k ≠ 25 → xu (xu M 50 c v) 38 25 (nI (c + 1)) 38 k = M 38 k := fun k hk => by rw [xu_eq, if_neg hk, xu_ne (by decide)]
  refine ⟨⟨rT_fr hT (hC 1 (by decide) (by decide)) (hC 2 (by decide) (by decide)) (hM8 1 (by decide)) (hM 39 (by decide) (by decide)), rV_fr hV (fun k _ _ => hC3 k (by omega)) (fun k _ _ => hM8 k (by omega)), rP_fr hP (hC 4 (by decide) (by decide)) (hC 5 (by decide) (by decide)) (hM8 2 (by decide)) (hM8 3 (by decide)) (hM 40 (by decide) (by decide)), ?_, hs7, ?_, ?_, ?_⟩, ?_, rS_fr hS (fun x hx => hC x (by omega) (by omega)) (hM8 11 (by decide)) (hM8 7 (by decide)) rfl, rO_fr hw hO (fun x hx _ => hC x (by omega) (by omega)) (hM 44 (by decide) (by decide)) (hM 45 (by decide) (by decide)) rfl, ⟨?_, ?_, fun k h3 h4 => ?_⟩, ⟨by omega, h2⟩, ?_, ?_, rPa_fr hpa (fun x _ _ => hC x (by omega) (by omega)) (hC3 9 (by decide)) (hM8 16 (by decide)) (hM8 17 (by decide)) (hM8 18 (by decide)) (fun _ _ _ => rfl) (fun _ _ _ => rfl)⟩
  · rw [hC3 8 (by decide)]
    exact h38
  · rw [hC _ (by omega) (by omega), hM 41 (by decide) (by decide)]
    exact hcl
  · rw [hM8 31 (by decide)]
    exact hdr
  · rw [hM8 17 (by decide)]
    exact hg
  · rw [hC3 10 (by decide)]
    exact hf
  · rw [xu_eq, if_pos rfl]
  · rw [xu_eq, if_pos rfl]
  · rw [xu_ne (by decide), xu_ne (by decide)]
    by_cases z : k = c
    · subst z
      rw [if_pos h4, xu_eq, if_pos rfl, xu_eq, if_pos rfl]
    · rw [xu_eq, if_neg z]
      have := hN.2.2 k (by omega) h4
      split
      · rw [xu_eq, if_neg z]
        exact this
      · exact this
  · rw [hC3 9 (by decide), hM8 19 (by decide)]
    exact hcut
  · rw [hC3 9 (by decide)]
    exact hcr
theorem step (L0 : Nat → Nat → Int64) (x3 x4 : Option Value) (hD : rD C M L n w h s c p) (hp : p < n) : ∃ C' M' L' s' p' p'' y3 y4, X (d + 5) none 19 (2, [some (.ref 3), some (.ref 1), some (.int (nI p)), x3, x4], [], (xSH, C, L0, xR0)) = X (d + 5) none 19 (2, [some (.ref 3), some (.ref 1), some (.int (nI p')), y3, y4], [], (xSH, C', L0, xR0)) ∧ X (d + 5) none 78 (0, [some (.ref 38), some (.int (nI p)), none, none, none, none], [], (xSH, M, L, xR0)) = some (some (.int (nI p'')), (xSH, M', L', xR0)) ∧ (∀ a, 38 ≤ a → C' a = C a) ∧ (∀ a, a < 38 → M' a = M a) ∧ ((∃ c', rD C' M' L' n w h s' c' p' ∧ p'' = p' ∧ p < p') ∨ (rRest C' M' n w h s' ∧ ¬ C' 3 10 = 0)) := by
  obtain ⟨hR, hf, hS, hO, hN, hcp, hcut, hcr, hpa⟩ := id hD
  obtain ⟨hT, hV, hP, h38, hs7, hcl, hdr, hg⟩ := id hR
  obtain ⟨t1, t2, hn, t3, t4⟩ := hT
  have tf : M 39 = C 2 := funext fun z => (t3 z).symm
  have hE := @tEnd_le n p (C 2) hp
  have hmf : M 38 26 = 0 := by rw [← hV.1]; exact hf
  by_cases hb : cBlank (C 2 p) = true
  · have z : C 2 p = 9 ∨ C 2 p = 10 ∨ C 2 p = 12 ∨ C 2 p = 13 ∨ C 2 p = 32 := by
      unfold cBlank at hb
      simpa [or_assoc] using hb
    have e1 : cBar (C 2 p) = false ∧ (cDig (C 2 p) || cSgn (C 2 p)) = false ∧ cTok (C 2 p) = false ∧ ¬ C 2 p = 37 := by rcases z with z | z | z | z | z <;> rw [z] <;> decide
    obtain ⟨e1, e2, e3, e4⟩ := e1
    have e5 : tEnd (C 2) n p = p + 1 := by
      unfold tEnd
      rw [if_neg e4, e3, if_neg (by decide)]
    refine ⟨C, M, L, s, _, p + 1, _, _, c_rs_skip t1 hn hp hf e1 e2 e3, m_tk_blank hn hp (by rw [tf]; exact hb), fun _ _ => rfl, fun _ _ => rfl, Or.inl ⟨c, ?_, e5.symm, by omega⟩⟩
    rw [e5]
    exact rD_p hD (by omega) (by omega)
  · by_cases h37 : C 2 p = 37
    · have e1 : cBar (C 2 p) = false ∧ (cDig (C 2 p) || cSgn (C 2 p)) = false ∧ cTok (C 2 p) = false := by rw [h37]; decide
      obtain ⟨e1, e2, e3⟩ := e1
      refine ⟨C, M, L, s, _, _, _, _, c_rs_skip t1 hn hp hf e1 e2 e3, m_tk_rem t2 hn hp (by rw [tf]; exact h37), fun _ _ => rfl, fun _ _ => rfl, Or.inl ⟨c, rD_p hD (by omega) hE.2, by rw [tf], by omega⟩⟩
    · by_cases hr : cBar (C 2 p) = true
      · refine ⟨_, _, L, s, _, _, _, _, c_rs_bar t1 hn hp hf hr, m_tk_bar hn hp (by rw [tf]; exact Bool.eq_false_iff.mpr hb) (by rw [tf]; exact h37) (by rw [tf]; exact hr), fun a ha => ?_, fun a ha => ?_, Or.inr ⟨rR_flt hR (fun a h1 _ _ _ => ?_) (fun k _ h2 h3 => ?_) (fun a h1 _ => ?_) (fun k _ h2 h3 => ?_) ?_ ?_, ?_⟩⟩
        · rw [xu_ne (by omega), xu_ne (by omega)]
        · rw [xu_ne (by omega), xu_ne (by omega)]
        · rw [xu_ne h1, xu_ne h1]
        · rw [xu_eq, if_neg h3, xu_eq, if_neg h2]
        · rw [xu_ne h1, xu_ne h1]
        · rw [xu_eq, if_neg h3, xu_eq, if_neg h2]
        · simp (decide := true) only [xu_ne, xu_eq, xs_ne, xs_at, ne_eq, reduceIte, if_true, if_false, not_false_eq_true]
        · simp (decide := true) only [xu_ne, xu_eq, xs_ne, xs_at, ne_eq, reduceIte, if_true, if_false, not_false_eq_true]
        · simp (decide := true) only [xu_ne, xu_eq, xs_ne, xs_at, ne_eq, reduceIte, if_true, if_false, not_false_eq_true]
      · have hb' := Bool.eq_false_iff.mpr hb
        have hr' := Bool.eq_false_iff.mpr hr
        have ht : cTok (C 2 p) = true := by
          unfold cTok
          rw [hb', hr', decide_eq_false h37]
          rfl
        have hcn : c < 400 := by omega
        by_cases hd : (cDig (C 2 p) || cSgn (C 2 p)) = true
        · by_cases hk : numOk (C 2) p (tEnd (C 2) n p) = true
          · refine ⟨_, _, L, s, _, _, _, _, c_rs_num t1 hn hp hf hr' hd (c_tn_ok (d := d + 2) hE.1 (by omega) hk hN.1 (by omega)), m_tk_num t2 hn hp (by rw [tf]; exact ht) (by rw [tf]; exact hd) (by rw [tf]; exact hk) hN.2.1 hcn, fun a ha => ?_, fun a ha => ?_, Or.inl ⟨c + 1, ?_, ?_, hE.1⟩⟩
            · rw [xu_ne (by omega)]
              split
              · rw [xu_ne (by omega)]
              · rfl
            · rw [xu_ne (by omega), xu_ne (by omega)]
            · rw [tf]
              exact rD_num hD hE.1 hE.2
            · rw [tf]
          · have hk' := Bool.eq_false_iff.mpr hk
            refine ⟨_, _, L, s, _, _, _, _, c_rs_num t1 hn hp hf hr' hd (c_tn_bad (d := d + 2) hE.1 (by omega) hk'), m_tk_bad t2 hn hp (by rw [tf]; exact ht) (by rw [tf]; exact hd) (by rw [tf]; exact hk') hN.2.1 hcn, fun a ha => ?_, fun a ha => ?_, Or.inr ⟨rR_flt hR (fun a h1 _ _ _ => ?_) (fun k _ h2 h3 => ?_) (fun a h1 h2 => ?_) (fun k h1 h2 h3 => ?_) ?_ ?_, ?_⟩⟩
            · rw [xu_ne (by omega), xu_ne (by omega)]
            · rw [xu_ne (by omega), xu_ne (by omega), xu_ne (by omega), xu_ne (by omega)]
            · rw [xu_ne h1, xu_ne h1]
            · rw [xu_eq, if_neg h3, xu_eq, if_neg h2]
            · rw [xu_ne h1, xu_ne h2, xu_ne h1, xu_ne h1]
            · rw [xu_eq, if_neg h1, xu_ne (by decide), xu_eq, if_neg h3, xu_eq, if_neg h2]
            · simp (decide := true) only [xu_ne, xu_eq, xs_ne, xs_at, ne_eq, reduceIte, if_true, if_false, not_false_eq_true]
            · simp (decide := true) only [xu_ne, xu_eq, xs_ne, xs_at, ne_eq, reduceIte, if_true, if_false, not_false_eq_true]
            · simp (decide := true) only [xu_ne, xu_eq, xs_ne, xs_at, ne_eq, reduceIte, if_true, if_false, not_false_eq_true]
        · have hd' := Bool.eq_false_iff.mpr hd
          have hx := rD_x hD
          have eo : mOp (M 39) p (tEnd (M 39) n p) = opM (cOp (C 2) p (tEnd (C 2) n p)) := by
            rw [tf]
            exact (op_eq t4 hE.1 hE.2).symm
          have hfa := f_all hD (cOp (C 2) p (tEnd (C 2) n p))
          obtain ⟨L1, hw1, hL1⟩ := w_all (d := d + 2) (M := M) (L := L) (cOp (C 2) p (tEnd (C 2) n p))
          rw [← hfa, ← eo] at hw1
          by_cases h0 : cF C s (cOp (C 2) p (tEnd (C 2) n p)) = 0
          · obtain ⟨C', M', L', s', r1, r2, r3, r4, r5⟩ := o_all (d := d) (q := nI p) hD h0 L0 L1 hL1
            rw [← eo] at r2
            rw [h0] at hw1
            refine ⟨_, _, _, s', _, _, _, _, c_rs_op t1 hn hp hf hr' hd' ht r1, m_tk_act t2 hn hp (by rw [tf]; exact ht) (by rw [tf]; exact hd') hw1 r2, r4, fun a ha => ?_, Or.inl ⟨0, rD_p r3 (by omega) hE.2, by rw [tf], hE.1⟩⟩
            rw [xu_ne (by omega)]
            exact r5 a ha
          · have hpos : ¬ cF C s (cOp (C 2) p (tEnd (C 2) n p)) ≤ 0 := Int32.not_le.mpr (cF_pos.resolve_left h0)
            obtain ⟨J, r1, r2⟩ := c_takeF (d := d) (L := L0) (q := nI p) hs7 h38 hx h0
            refine ⟨_, _, _, s, _, _, _, _, c_rs_op t1 hn hp hf hr' hd' ht r1, m_tk_flt t2 hn hp (by rw [tf]; exact ht) (by rw [tf]; exact hd') hw1 hpos, fun a ha => ?_, fun a ha => ?_, Or.inr ⟨rR_flt hR (fun a h1 h4 h5 h6 => ?_) (fun k _ h2 h3 => ?_) (fun a h1 _ => ?_) (fun k _ h2 h3 => ?_) ?_ ?_, ?_⟩⟩
            · rw [xu_ne (by omega), xu_ne (by omega), r2 a (by omega) (by omega) (by omega)]
            · rw [xu_ne (by omega), xu_ne (by omega)]
            · rw [xu_ne h1, xu_ne h1, r2 a h4 h5 h6]
            · rw [xu_eq, if_neg h3, xu_eq, if_neg h2, r2 3 (by decide) (by decide) (by decide)]
            · rw [xu_ne h1, xu_ne h1]
            · rw [xu_eq, if_neg h3, xu_eq, if_neg h2]
            · simp (decide := true) only [xu_ne, xu_eq, xs_ne, xs_at, ne_eq, reduceIte, if_true, if_false, not_false_eq_true]
            · simp (decide := true) only [xu_ne, xu_eq, xs_ne, xs_at, ne_eq, reduceIte, if_true, if_false, not_false_eq_true]
            · simp (decide := true) only [xu_ne, xu_eq, xs_ne, xs_at, ne_eq, reduceIte, if_true, if_false, not_false_eq_true]
              exact h0
end JO
