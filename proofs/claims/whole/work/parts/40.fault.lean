def cF (I : Nat → Nat → Int32) (s : Nat) (o : Int32) : Int32 := if cNeed o = -1 then 2 else if cOut o (I 6 7) (I 3 9) = true then 6 else if ¬ I 3 7 = cNeed o then 3 else if I 6 7 = 0 ∧ cNP o = true then 5 else if o = 81 ∧ I 3 8 = 0 then 7 else if o = 113 ∧ I 3 8 = 6 then 8 else if cOk I s o = false then 4 else if I 6 6 + cEd o ≤ 60 then 0 else 10
section FA
variable {d : Nat} {I : Nat → Nat → Int32} {L : Nat → Nat → Int64}
theorem c_faultOf {s : Nat} {o : Int32} (hs : s < 7) (h : I 3 8 = nI s) (hx : I 6 7 = 0 ∨ I 6 7 = 1) : ∃ J, X (d + 3) none 33 (0, [some (.ref 3), some (.int o), none], [], (xSH, I, L, xR0)) = some (some (.int (cF I s o)), (xSH, J, L, xR0)) ∧ (∀ a, a ≠ 14 → a ≠ 15 → a ≠ 16 → J a = I a) ∧ (cF I s o = 0 → J = cPr I s o) := by
  obtain ⟨J, hJ, hf, hp⟩ := c_prepare (d := d) (L := L) (o := o) hs h
  have j6 : J 6 6 = I 6 6 := by rw [hf 6 (by decide) (by decide) (by decide)]
  simp only [e_33_0, e_33_1, e_33_4, e_33_5, e_33_6, e_33_7, e_33_10, e_33_11, e_33_12, e_33_13, e_33_14, e_33_17, e_33_20, e_33_22, e_33_23, e_33_24, e_33_27, e_33_28, e_33_31, e_33_32, e_33_33, e_33_34, e_33_37, e_33_40, e_33_43, e_33_44, e_33_47, e_33_50, e_33_51, e_33_52, e_33_53, e_33_55, e_33_58, e_33_59, e_33_62, e_33_65, e_33_67, e_33_68, e_33_69, e_33_71, e_33_74, e_33_75, e_33_78, e_33_80, e_33_83, e_33_85, e_33_86, e_33_87, e_33_88, e_33_91, e_33_94, e_33_95, e_33_96, e_33_97, e_33_100, e_33_103, e_33_104, e_33_107, e_33_108, e_33_110, e_33_113, e_33_115, e_33_118, e_33_119, c_operandsOf, c_outOfPlace hx, c_needsPath, hJ, c_edgesOf, Option.bind_some, Option.toList_some, Option.toList_none, List.cons_append, List.nil_append, bI_0, j6]
  unfold cF
  by_cases q1 : cNeed o = -1
  · refine ⟨I, ?_, fun _ _ _ _ => rfl, ?_⟩ <;> simp (decide := true) [q1]
  · simp only [q1, if_false]
    cases q2 : cOut o (I 6 7) (I 3 9)
    · simp only [if_true, Bool.false_eq_true, if_false]
      by_cases q3 : I 3 7 = cNeed o
      · simp only [q3, if_true, not_true, if_false]
        have key : ∃ K, (if o = 81 then (if I 3 8 = 0 then some (some (Value.int 7), ((xSH, I, L, xR0) : xHp)) else if o = 113 then (if I 3 8 = 6 then some (some (Value.int 8), ((xSH, I, L, xR0) : xHp)) else if cOk I s o = false then some (some (Value.int 4), ((xSH, J, L, xR0) : xHp)) else if I 6 6 + cEd o ≤ 60 then some (some (Value.int 0), ((xSH, J, L, xR0) : xHp)) else some (some (Value.int 10), ((xSH, J, L, xR0) : xHp))) else if cOk I s o = false then some (some (Value.int 4), ((xSH, J, L, xR0) : xHp)) else if I 6 6 + cEd o ≤ 60 then some (some (Value.int 0), ((xSH, J, L, xR0) : xHp)) else some (some (Value.int 10), ((xSH, J, L, xR0) : xHp))) else if o = 113 then (if I 3 8 = 6 then some (some (Value.int 8), ((xSH, I, L, xR0) : xHp)) else if cOk I s o = false then some (some (Value.int 4), ((xSH, J, L, xR0) : xHp)) else if I 6 6 + cEd o ≤ 60 then some (some (Value.int 0), ((xSH, J, L, xR0) : xHp)) else some (some (Value.int 10), ((xSH, J, L, xR0) : xHp))) else if cOk I s o = false then some (some (Value.int 4), ((xSH, J, L, xR0) : xHp)) else if I 6 6 + cEd o ≤ 60 then some (some (Value.int 0), ((xSH, J, L, xR0) : xHp)) else some (some (Value.int 10), ((xSH, J, L, xR0) : xHp))) = some (some (Value.int (if o = 81 ∧ I 3 8 = 0 then 7 else if o = 113 ∧ I 3 8 = 6 then 8 else if cOk I s o = false then 4 else if I 6 6 + cEd o ≤ 60 then 0 else 10)), ((xSH, K, L, xR0) : xHp)) ∧ (∀ a, a ≠ 14 → a ≠ 15 → a ≠ 16 → K a = I a) ∧ ((if o = 81 ∧ I 3 8 = 0 then (7 : Int32) else if o = 113 ∧ I 3 8 = 6 then 8 else if cOk I s o = false then 4 else if I 6 6 + cEd o ≤ 60 then 0 else 10) = 0 → K = cPr I s o) := by
          by_cases r1 : o = 81 ∧ I 3 8 = 0
          · refine ⟨I, ?_, fun _ _ _ _ => rfl, ?_⟩ <;> simp (decide := true) [r1.1, r1.2]
          · by_cases r2 : o = 113 ∧ I 3 8 = 6
            · refine ⟨I, ?_, fun _ _ _ _ => rfl, ?_⟩ <;> simp (decide := true) [r2.1, r2.2]
            · cases r3 : cOk I s o
              · refine ⟨J, ?_, hf, ?_⟩
                · simp only [if_neg r1, if_neg r2, if_true]
                  by_cases o1 : o = 81 <;> by_cases o2 : o = 113 <;> simp_all
                · simp (decide := true) [r1, r2]
              · refine ⟨J, ?_, hf, fun _ => hp r3⟩
                simp only [if_neg r1, if_neg r2, Bool.true_eq_false, if_false]
                by_cases o3 : I 6 6 + cEd o ≤ 60
                · simp only [o3, if_true]
                  by_cases o1 : o = 81 <;> by_cases o2 : o = 113 <;> simp_all
                · simp only [o3, if_false]
                  by_cases o1 : o = 81 <;> by_cases o2 : o = 113 <;> simp_all
        by_cases q4 : I 6 7 = 0
        · cases q5 : cNP o
          · simp only [q4, if_true, Bool.false_eq_true, and_false, if_false]
            exact key
          · simp only [q4, if_true, Bool.true_eq_false, if_false, and_true]
            exact ⟨I, rfl, fun _ _ _ _ => rfl, fun z => by simp at z⟩
        · simp only [q4, if_false, false_and]
          exact key
      · refine ⟨I, ?_, fun _ _ _ _ => rfl, ?_⟩ <;> simp (decide := true) [q3]
    · refine ⟨I, ?_, fun _ _ _ _ => rfl, ?_⟩ <;> simp (decide := true) [q1]
end FA
