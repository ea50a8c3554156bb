def mMore (k : Int32) : Int32 := if k = 5 ∨ k = 6 then 1 else if k = 7 ∨ k = 8 then 4 else 0
section FE
variable {C M : Nat → Nat → Int32} {L : Nat → Nat → Int64} {n w h s c p : Nat}
theorem f_one {o k : Int32} {m : Nat} (hD : rD C M L n w h s c p) (hok : opM o = k) (hn : cNeed o = nI m) (hm : mNeed k = nI m) (hm6 : m ≤ 6) (hk0 : ¬ k < 0) (h81 : o = 81 ↔ k = 1) (h113 : o = 113 ↔ k = 0)
    (hout : ∀ ex cr : Int32, (ex = 0 ∧ cr = 0) ∨ (ex = 1 ∧ (cr = 0 ∨ cr = 1 ∨ cr = 2)) → (cOut o ex cr = true ↔ (¬ ex = 0 ∧ k ≤ 3) ∨ (¬ cr ≤ 0 ∧ k < 11)))
    (hnp : cNP o = true ↔ (k = 5 ∨ k = 6 ∨ 8 ≤ k)) (hed : cEd o = mMore k) (h7 : cNP o = false → (k = 7 ∨ mMore k = 0)) (h7' : cNP o = true → ¬ k = 7) : cF C s o = mF M L k := by
  obtain ⟨⟨hT, hV, hP, h38, hs7, hcl, hdr, hg⟩, hf, hS, hO, hN, hcp, hcut, hcr, hpa, hpe⟩ := hD
  obtain ⟨n1, n2, n3⟩ := hN
  have hsm : M 38 11 = nI s := hS.1
  have hex : (C 6 7 = 0 ∧ C 3 9 = 0) ∨ (C 6 7 = 1 ∧ (C 3 9 = 0 ∨ C 3 9 = 1 ∨ C 3 9 = 2)) := by
    rcases hpe with ⟨q1, -, -, -, -, q2⟩ | ⟨q1, -⟩
    · exact Or.inl ⟨q1, q2⟩
    · exact Or.inr ⟨q1, hcr⟩
  unfold cF mF
  rw [hn, if_neg (show ¬ nI m = -1 from fun z => by
    have e := nI_toInt (n := m) (by omega)
    rw [z] at e
    have : (-1 : Int32).toInt = -1 := by decide
    omega), if_neg hk0, ← hpa, ← hcut]
  by_cases q1 : cOut o (C 6 7) (C 3 9) = true
  · rw [if_pos q1, if_pos ((hout _ _ hex).mp q1)]
  · rw [if_neg q1, if_neg (fun z => q1 ((hout _ _ hex).mpr z)), n1, n2, hm]
    by_cases q2 : nI c = nI m
    · have hcm : c = m := by
        have := hT.2.2.1
        have := hcp.1
        have := hcp.2
        exact (nI_eq (by omega) (by omega)).mp q2
      subst hcm
      simp only [q2, not_true, if_false]
      by_cases q3 : C 6 7 = 0 ∧ cNP o = true
      · rw [if_pos q3, if_pos ⟨q3.1, hnp.mp q3.2⟩]
      · rw [if_neg q3, if_neg (c := C 6 7 = 0 ∧ (k = 5 ∨ k = 6 ∨ 8 ≤ k)) (fun z => q3 ⟨z.1, hnp.mpr z.2⟩), h38, hsm]
        have e81 : (o = 81 ∧ nI s = 0) ↔ (k = 1 ∧ nI s = 0) := ⟨fun z => ⟨h81.mp z.1, z.2⟩, fun z => ⟨h81.mpr z.1, z.2⟩⟩
        have e113 : (o = 113 ∧ nI s = 6) ↔ (k = 0 ∧ nI s = 6) := ⟨fun z => ⟨h113.mp z.1, z.2⟩, fun z => ⟨h113.mpr z.1, z.2⟩⟩
        by_cases q4 : o = 81 ∧ nI s = 0
        · rw [if_pos q4, if_pos (e81.mp q4)]
        · rw [if_neg q4, if_neg (c := k = 1 ∧ nI s = 0) (fun z => q4 (e81.mpr z))]
          by_cases q5 : o = 113 ∧ nI s = 6
          · rw [if_pos q5, if_pos (e113.mp q5)]
          · rw [if_neg q5, if_neg (c := k = 0 ∧ nI s = 6) (fun z => q5 (e113.mpr z))]
            have hk := ok_eq hS o c hn hm6 n3
            rw [hok] at hk
            rw [hk]
            cases q6 : mOut M L k
            · simp only [Bool.not_false, Bool.true_eq_false, Bool.false_eq_true, if_false]
              have z0 : ∀ x : Int32, 0 + x = x := fun x => by grind
              have z1 : ∀ x : Int32, x + 0 = x := fun x => by grind
              have hmm : (if k = 5 ∨ k = 6 then (1 : Int32) else if k = 7 ∨ k = 8 then 4 else 0) = mMore k := rfl
              rw [hmm, hed]
              rcases hpe with ⟨p1, p2, p3, -⟩ | ⟨p1, e, g, p2, p3, p4, p5, p6, -⟩
              · rw [p3]
                cases r1 : cNP o
                · rcases h7 r1 with r2 | r2
                  · rw [if_pos (c := k = 7 ∧ C 6 7 = 0) ⟨r2, p1⟩]
                  · obtain ⟨g, g1, g2⟩ := hg
                    have r3 : nI g ≤ 60 := nI_le (a := g) (b := 60) g1 (by decide)
                    have r4 : (0 : Int32) ≤ 60 := by decide
                    rw [r2, g2, z1, if_pos r4]
                    by_cases r5 : k = 7 ∧ C 6 7 = 0
                    · rw [if_pos r5, z1, if_pos r4]
                    · rw [if_neg r5, z1, if_pos r3]
                · exact absurd ⟨p1, r1⟩ q3
              · have p1' : ¬ C 6 7 = 0 := by rw [p1]; decide
                rw [if_neg (c := k = 7 ∧ C 6 7 = 0) (fun z => p1' z.2), p4, p5]
            · simp only [Bool.not_true, if_true]
    · have q2' : ¬ nI c = nI m := q2
      simp only [q2', not_false_eq_true, if_true]
theorem f_113 (hD : rD C M L n w h s c p) : cF C s 113 = mF M L 0 := by
  refine f_one (m := 0) hD (by decide) (by decide) (by decide) (by decide) (by decide) (by decide) (by decide) (fun ex cr hh => ?_) (by decide) (by decide) (by decide) (by decide)
  rcases hh with ⟨rfl, rfl⟩ | ⟨rfl, rfl | rfl | rfl⟩ <;> decide
theorem f_81 (hD : rD C M L n w h s c p) : cF C s 81 = mF M L 1 := by
  refine f_one (m := 0) hD (by decide) (by decide) (by decide) (by decide) (by decide) (by decide) (by decide) (fun ex cr hh => ?_) (by decide) (by decide) (by decide) (by decide)
  rcases hh with ⟨rfl, rfl⟩ | ⟨rfl, rfl | rfl | rfl⟩ <;> decide
theorem f_28003 (hD : rD C M L n w h s c p) : cF C s 28003 = mF M L 2 := by
  refine f_one (m := 6) hD (by decide) (by decide) (by decide) (by decide) (by decide) (by decide) (by decide) (fun ex cr hh => ?_) (by decide) (by decide) (by decide) (by decide)
  rcases hh with ⟨rfl, rfl⟩ | ⟨rfl, rfl | rfl | rfl⟩ <;> decide
theorem f_103 (hD : rD C M L n w h s c p) : cF C s 103 = mF M L 3 := by
  refine f_one (m := 1) hD (by decide) (by decide) (by decide) (by decide) (by decide) (by decide) (by decide) (fun ex cr hh => ?_) (by decide) (by decide) (by decide) (by decide)
  rcases hh with ⟨rfl, rfl⟩ | ⟨rfl, rfl | rfl | rfl⟩ <;> decide
theorem f_109 (hD : rD C M L n w h s c p) : cF C s 109 = mF M L 4 := by
  refine f_one (m := 2) hD (by decide) (by decide) (by decide) (by decide) (by decide) (by decide) (by decide) (fun ex cr hh => ?_) (by decide) (by decide) (by decide) (by decide)
  rcases hh with ⟨rfl, rfl⟩ | ⟨rfl, rfl | rfl | rfl⟩ <;> decide
theorem f_108 (hD : rD C M L n w h s c p) : cF C s 108 = mF M L 5 := by
  refine f_one (m := 2) hD (by decide) (by decide) (by decide) (by decide) (by decide) (by decide) (by decide) (fun ex cr hh => ?_) (by decide) (by decide) (by decide) (by decide)
  rcases hh with ⟨rfl, rfl⟩ | ⟨rfl, rfl | rfl | rfl⟩ <;> decide
theorem f_104 (hD : rD C M L n w h s c p) : cF C s 104 = mF M L 6 := by
  refine f_one (m := 0) hD (by decide) (by decide) (by decide) (by decide) (by decide) (by decide) (by decide) (fun ex cr hh => ?_) (by decide) (by decide) (by decide) (by decide)
  rcases hh with ⟨rfl, rfl⟩ | ⟨rfl, rfl | rfl | rfl⟩ <;> decide
theorem f_25970 (hD : rD C M L n w h s c p) : cF C s 25970 = mF M L 7 := by
  refine f_one (m := 4) hD (by decide) (by decide) (by decide) (by decide) (by decide) (by decide) (by decide) (fun ex cr hh => ?_) (by decide) (by decide) (by decide) (by decide)
  rcases hh with ⟨rfl, rfl⟩ | ⟨rfl, rfl | rfl | rfl⟩ <;> decide
theorem f_99 (hD : rD C M L n w h s c p) : cF C s 99 = mF M L 8 := by
  refine f_one (m := 6) hD (by decide) (by decide) (by decide) (by decide) (by decide) (by decide) (by decide) (fun ex cr hh => ?_) (by decide) (by decide) (by decide) (by decide)
  rcases hh with ⟨rfl, rfl⟩ | ⟨rfl, rfl | rfl | rfl⟩ <;> decide
theorem f_87 (hD : rD C M L n w h s c p) : cF C s 87 = mF M L 9 := by
  refine f_one (m := 0) hD (by decide) (by decide) (by decide) (by decide) (by decide) (by decide) (by decide) (fun ex cr hh => ?_) (by decide) (by decide) (by decide) (by decide)
  rcases hh with ⟨rfl, rfl⟩ | ⟨rfl, rfl | rfl | rfl⟩ <;> decide
theorem f_10839 (hD : rD C M L n w h s c p) : cF C s 10839 = mF M L 10 := by
  refine f_one (m := 0) hD (by decide) (by decide) (by decide) (by decide) (by decide) (by decide) (by decide) (fun ex cr hh => ?_) (by decide) (by decide) (by decide) (by decide)
  rcases hh with ⟨rfl, rfl⟩ | ⟨rfl, rfl | rfl | rfl⟩ <;> decide
theorem f_102 (hD : rD C M L n w h s c p) : cF C s 102 = mF M L 11 := by
  refine f_one (m := 0) hD (by decide) (by decide) (by decide) (by decide) (by decide) (by decide) (by decide) (fun ex cr hh => ?_) (by decide) (by decide) (by decide) (by decide)
  rcases hh with ⟨rfl, rfl⟩ | ⟨rfl, rfl | rfl | rfl⟩ <;> decide
theorem f_10854 (hD : rD C M L n w h s c p) : cF C s 10854 = mF M L 12 := by
  refine f_one (m := 0) hD (by decide) (by decide) (by decide) (by decide) (by decide) (by decide) (by decide) (fun ex cr hh => ?_) (by decide) (by decide) (by decide) (by decide)
  rcases hh with ⟨rfl, rfl⟩ | ⟨rfl, rfl | rfl | rfl⟩ <;> decide
theorem f_110 (hD : rD C M L n w h s c p) : cF C s 110 = mF M L 13 := by
  refine f_one (m := 0) hD (by decide) (by decide) (by decide) (by decide) (by decide) (by decide) (by decide) (fun ex cr hh => ?_) (by decide) (by decide) (by decide) (by decide)
  rcases hh with ⟨rfl, rfl⟩ | ⟨rfl, rfl | rfl | rfl⟩ <;> decide
theorem f_un {o : Int32} (h1 : cNeed o = -1) : cF C s o = 2 ∧ mF M L (-1) = 2 := by
  unfold cF mF
  rw [if_pos h1, if_pos (by decide)]
  exact ⟨rfl, rfl⟩
theorem op_15 (o : Int32) : (cNeed o = -1 ∧ opM o = -1) ∨ o = 113 ∨ o = 81 ∨ o = 28003 ∨ o = 103 ∨ o = 109 ∨ o = 108 ∨ o = 104 ∨ o = 25970 ∨ o = 99 ∨ o = 87 ∨ o = 10839 ∨ o = 102 ∨ o = 10854 ∨ o = 110 := by
  unfold cNeed opM
  by_cases g113 : o = 113
  · simp [g113]
  by_cases g81 : o = 81
  · simp [g81]
  by_cases g28003 : o = 28003
  · simp [g28003]
  by_cases g103 : o = 103
  · simp [g103]
  by_cases g109 : o = 109
  · simp [g109]
  by_cases g108 : o = 108
  · simp [g108]
  by_cases g104 : o = 104
  · simp [g104]
  by_cases g25970 : o = 25970
  · simp [g25970]
  by_cases g99 : o = 99
  · simp [g99]
  by_cases g87 : o = 87
  · simp [g87]
  by_cases g10839 : o = 10839
  · simp [g10839]
  by_cases g102 : o = 102
  · simp [g102]
  by_cases g10854 : o = 10854
  · simp [g10854]
  by_cases g110 : o = 110
  · simp [g110]
  refine Or.inl ?_
  simp only [g113, g81, g28003, g103, g109, g108, g104, g25970, g99, g87, g10839, g102, g10854, g110, if_false, and_self]
end FE
