def scan (p : Int32 → Bool) (t : Nat → Int32) : Nat → Nat → Nat
  | 0, q => q
  | m + 1, q => if p (t q) = true then scan p t m (q + 1) else q
theorem scan_loop {R : Type} {p : Int32 → Bool} {t : Nat → Int32} {n : Nat} {F out : Nat → R} (hs : ∀ q, q < n → F q = if p (t q) = true then F (q + 1) else out q) (he : F n = out n) : ∀ m q, q + m = n → F q = out (scan p t m q)
  | 0, q, h => by
    obtain rfl : q = n := by omega
    exact he
  | m + 1, q, h => by
    rw [hs q (by omega), scan]
    split
    · exact scan_loop hs he m (q + 1) (by omega)
    · rfl
theorem scan_le {p : Int32 → Bool} {t : Nat → Int32} : ∀ m q, q ≤ scan p t m q ∧ scan p t m q ≤ q + m
  | 0, q => by simp [scan]
  | m + 1, q => by
    rw [scan]
    split
    · have := scan_le (p := p) (t := t) m (q + 1)
      omega
    · omega
theorem q_in {q N : Nat} (h : q < N) (hN : N < 2 ^ 31) : ¬ (nI q < 0 ∨ N ≤ q) := fun z => z.elim (nI_pos (by omega)) (by omega)
theorem q_nle {a b : Nat} (h : b < a) (ha : a < 2 ^ 31) : ¬ nI a ≤ nI b := nI_ge h ha
theorem q_le {a b : Nat} (h : a ≤ b) (hb : b < 2 ^ 31) : nI a ≤ nI b := nI_le h hb
def pNl (c : Int32) : Bool := !decide (c = 10) && !decide (c = 13)
def tEnd (t : Nat → Int32) (n s : Nat) : Nat := if t s = 37 then scan pNl t (n - (s + 1)) (s + 1) else if cTok (t s) = true then scan cTok t (n - (s + 1)) (s + 1) else s + 1
section TX
variable {d : Nat} {I : Nat → Nat → Int32} {L : Nat → Nat → Int64}
theorem c_eop_1 {n s : Nat} (hI : I 1 1 = nI n) (hn : n ≤ 400) {m q : Nat} (h : q + m = n) : X d none 20 (15, [some (.ref 1), some (.int (nI s)), some (.int (nI q))], [], (xSH, I, L, xR0)) = some (some (.int (nI (scan pNl (I 2) m q))), (xSH, I, L, xR0)) := by
  refine scan_loop (p := pNl) (t := I 2) (n := n) (F := fun q => X d none 20 (15, [some (.ref 1), some (.int (nI s)), some (.int (nI q))], [], (xSH, I, L, xR0))) (out := fun q => some (some (.int (nI q)), (xSH, I, L, xR0))) (fun q hq => ?_) ?_ m q h
  · have hc : (nI q).toNatClampNeg = q := nI_clamp (by omega)
    have h2 : ¬ (nI q < 0 ∨ 400 ≤ q) := q_in (by omega) (by decide)
    have h1 : ¬ nI n ≤ nI q := q_nle hq (by omega)
    rw [e_20_15]
    simp only [e_20_0, e_20_1, e_20_2, e_20_3, e_20_4, e_20_5, e_20_8, e_20_9, e_20_10, e_20_12, e_20_16, e_20_17, e_20_20, e_20_23, e_20_24, e_20_27, e_20_28, e_20_29, e_20_31, e_20_34, e_20_35, e_20_38, e_20_39, e_20_40, e_20_42, e_20_45, e_20_48, e_20_51, e_20_52, e_20_55, e_20_56, e_20_57, e_20_60, e_20_64, e_20_65, e_20_68, e_20_71, e_20_72, e_20_75, e_20_76, e_20_77, e_20_80, e_20_83, e_20_86, e_20_89, e_20_90, hI, hc, h1, h2, if_false, nI_1]
    unfold pNl
    by_cases h3 : I 2 q = 10
    · simp [h3]
    · by_cases h4 : I 2 q = 13
      · simp [h4]
      · simp [h3, h4]
  · rw [e_20_15]
    simp only [e_20_0, e_20_1, e_20_2, e_20_3, e_20_4, e_20_5, e_20_8, e_20_9, e_20_10, e_20_12, e_20_16, e_20_17, e_20_20, e_20_23, e_20_24, e_20_27, e_20_28, e_20_29, e_20_31, e_20_34, e_20_35, e_20_38, e_20_39, e_20_40, e_20_42, e_20_45, e_20_48, e_20_51, e_20_52, e_20_55, e_20_56, e_20_57, e_20_60, e_20_64, e_20_65, e_20_68, e_20_71, e_20_72, e_20_75, e_20_76, e_20_77, e_20_80, e_20_83, e_20_86, e_20_89, e_20_90, hI]
    rw [if_pos (q_le (Nat.le_refl _) (by omega))]
theorem c_eop_2 {n s : Nat} (hI : I 1 1 = nI n) (hn : n ≤ 400) {m q : Nat} (h : q + m = n) : X (d + 2) none 20 (63, [some (.ref 1), some (.int (nI s)), some (.int (nI q))], [], (xSH, I, L, xR0)) = some (some (.int (nI (scan cTok (I 2) m q))), (xSH, I, L, xR0)) := by
  refine scan_loop (p := cTok) (t := I 2) (n := n) (F := fun q => X (d + 2) none 20 (63, [some (.ref 1), some (.int (nI s)), some (.int (nI q))], [], (xSH, I, L, xR0))) (out := fun q => some (some (.int (nI q)), (xSH, I, L, xR0))) (fun q hq => ?_) ?_ m q h
  · have hc : (nI q).toNatClampNeg = q := nI_clamp (by omega)
    have h2 : ¬ (nI q < 0 ∨ 400 ≤ q) := q_in (by omega) (by decide)
    have h1 : ¬ nI n ≤ nI q := q_nle hq (by omega)
    rw [e_20_63]
    simp only [e_20_0, e_20_1, e_20_2, e_20_3, e_20_4, e_20_5, e_20_8, e_20_9, e_20_10, e_20_12, e_20_16, e_20_17, e_20_20, e_20_23, e_20_24, e_20_27, e_20_28, e_20_29, e_20_31, e_20_34, e_20_35, e_20_38, e_20_39, e_20_40, e_20_42, e_20_45, e_20_48, e_20_51, e_20_52, e_20_55, e_20_56, e_20_57, e_20_60, e_20_64, e_20_65, e_20_68, e_20_71, e_20_72, e_20_75, e_20_76, e_20_77, e_20_80, e_20_83, e_20_86, e_20_89, e_20_90, hI, hc, h1, h2, if_false, nI_1, c_tokenPart, Option.bind_some, Option.toList_some, Option.toList_none, List.cons_append, List.nil_append, bI_0]
    cases cTok (I 2 q) <;> simp
  · rw [e_20_63]
    simp only [e_20_0, e_20_1, e_20_2, e_20_3, e_20_4, e_20_5, e_20_8, e_20_9, e_20_10, e_20_12, e_20_16, e_20_17, e_20_20, e_20_23, e_20_24, e_20_27, e_20_28, e_20_29, e_20_31, e_20_34, e_20_35, e_20_38, e_20_39, e_20_40, e_20_42, e_20_45, e_20_48, e_20_51, e_20_52, e_20_55, e_20_56, e_20_57, e_20_60, e_20_64, e_20_65, e_20_68, e_20_71, e_20_72, e_20_75, e_20_76, e_20_77, e_20_80, e_20_83, e_20_86, e_20_89, e_20_90, hI]
    rw [if_pos (q_le (Nat.le_refl _) (by omega))]
theorem c_endOfPiece {n s : Nat} (hI : I 1 1 = nI n) (hn : n ≤ 400) (hs : s < n) : X (d + 2) none 20 (0, [some (.ref 1), some (.int (nI s)), none], [], (xSH, I, L, xR0)) = some (some (.int (nI (tEnd (I 2) n s))), (xSH, I, L, xR0)) := by
  have hc : (nI s).toNatClampNeg = s := nI_clamp (by omega)
  have h2 : ¬ (nI s < 0 ∨ 400 ≤ s) := q_in (by omega) (by decide)
  simp only [e_20_0, e_20_1, e_20_2, e_20_3, e_20_4, e_20_5, e_20_8, e_20_9, e_20_10, e_20_12, e_20_16, e_20_17, e_20_20, e_20_23, e_20_24, e_20_27, e_20_28, e_20_29, e_20_31, e_20_34, e_20_35, e_20_38, e_20_39, e_20_40, e_20_42, e_20_45, e_20_48, e_20_51, e_20_52, e_20_55, e_20_56, e_20_57, e_20_60, e_20_64, e_20_65, e_20_68, e_20_71, e_20_72, e_20_75, e_20_76, e_20_77, e_20_80, e_20_83, e_20_86, e_20_89, e_20_90, hc, h2, if_false, nI_1, c_tokenPart, Option.bind_some, Option.toList_some, Option.toList_none, List.cons_append, List.nil_append, bI_0]
  rw [c_eop_1 hI hn (m := n - (s + 1)) (by omega), c_eop_2 hI hn (m := n - (s + 1)) (by omega)]
  unfold tEnd
  by_cases h3 : I 2 s = 37
  · simp [h3]
  · cases h4 : cTok (I 2 s) <;> simp [h3]
theorem m_beh_1 {n s : Nat} (hI : I 38 1 = nI n) (hn : n ≤ 400) {m q : Nat} (h : q + m = n) : X d none 80 (2, [some (.ref 38), some (.int (nI s)), some (.int (nI q))], [], (xSH, I, L, xR0)) = some (some (.int (nI (scan pNl (I 39) m q))), (xSH, I, L, xR0)) := by
  refine scan_loop (p := pNl) (t := I 39) (n := n) (F := fun q => X d none 80 (2, [some (.ref 38), some (.int (nI s)), some (.int (nI q))], [], (xSH, I, L, xR0))) (out := fun q => some (some (.int (nI q)), (xSH, I, L, xR0))) (fun q hq => ?_) ?_ m q h
  · have hc : (nI q).toNatClampNeg = q := nI_clamp (by omega)
    have h2 : ¬ (nI q < 0 ∨ 400 ≤ q) := q_in (by omega) (by decide)
    have h1 : ¬ nI n ≤ nI q := q_nle hq (by omega)
    rw [e_80_2]
    simp only [e_80_0, e_80_1, e_80_3, e_80_4, e_80_7, e_80_10, e_80_11, e_80_14, e_80_15, e_80_16, e_80_18, e_80_21, e_80_22, e_80_25, e_80_26, e_80_27, e_80_29, e_80_32, e_80_35, e_80_38, e_80_39, hI, hc, h1, h2, if_false, nI_1]
    unfold pNl
    by_cases h3 : I 39 q = 10
    · simp [h3]
    · by_cases h4 : I 39 q = 13
      · simp [h4]
      · simp [h3, h4]
  · rw [e_80_2]
    simp only [e_80_0, e_80_1, e_80_3, e_80_4, e_80_7, e_80_10, e_80_11, e_80_14, e_80_15, e_80_16, e_80_18, e_80_21, e_80_22, e_80_25, e_80_26, e_80_27, e_80_29, e_80_32, e_80_35, e_80_38, e_80_39, hI]
    rw [if_pos (q_le (Nat.le_refl _) (by omega))]
theorem m_behind {n s : Nat} (hI : I 38 1 = nI n) (hn : n ≤ 400) (hs : s < n) (ht : I 39 s = 37) : X d none 80 (0, [some (.ref 38), some (.int (nI s)), none], [], (xSH, I, L, xR0)) = some (some (.int (nI (tEnd (I 39) n s))), (xSH, I, L, xR0)) := by
  simp only [e_80_0, e_80_1, e_80_3, e_80_4, e_80_7, e_80_10, e_80_11, e_80_14, e_80_15, e_80_16, e_80_18, e_80_21, e_80_22, e_80_25, e_80_26, e_80_27, e_80_29, e_80_32, e_80_35, e_80_38, e_80_39]
  rw [m_beh_1 hI hn (m := n - s) (by omega)]
  unfold tEnd
  obtain ⟨m, hm⟩ : ∃ m, n - s = m + 1 := ⟨n - s - 1, by omega⟩
  rw [if_pos ht, hm, scan, ht, show n - (s + 1) = m by omega]
  rfl
theorem m_tok_1 {n s : Nat} (hI : I 38 1 = nI n) (hn : n ≤ 400) {m q : Nat} (h : q + m = n) : X (d + 1) none 83 (2, [some (.ref 38), some (.int (nI s)), some (.int (nI q))], [], (xSH, I, L, xR0)) = some (some (.int (nI (scan cTok (I 39) m q))), (xSH, I, L, xR0)) := by
  refine scan_loop (p := cTok) (t := I 39) (n := n) (F := fun q => X (d + 1) none 83 (2, [some (.ref 38), some (.int (nI s)), some (.int (nI q))], [], (xSH, I, L, xR0))) (out := fun q => some (some (.int (nI q)), (xSH, I, L, xR0))) (fun q hq => ?_) ?_ m q h
  · have hc : (nI q).toNatClampNeg = q := nI_clamp (by omega)
    have h2 : ¬ (nI q < 0 ∨ 400 ≤ q) := q_in (by omega) (by decide)
    have h1 : ¬ nI n ≤ nI q := q_nle hq (by omega)
    rw [e_83_2]
    simp only [e_83_0, e_83_1, e_83_3, e_83_4, e_83_7, e_83_10, e_83_11, e_83_14, e_83_15, e_83_16, e_83_19, e_83_22, e_83_23, e_83_26, e_83_27, e_83_28, e_83_31, e_83_34, e_83_35, e_83_38, e_83_39, e_83_40, e_83_42, e_83_45, e_83_48, e_83_51, e_83_52, hI, hc, h1, h2, if_false, nI_1, m_blank, m_barred, Option.bind_some, Option.toList_some, Option.toList_none, List.cons_append, List.nil_append, bI_0]
    unfold cTok
    by_cases h3 : I 39 q = 37
    · cases cBlank (I 39 q) <;> cases cBar (I 39 q) <;> simp [h3]
    · cases cBlank (I 39 q) <;> cases cBar (I 39 q) <;> simp [h3]
  · rw [e_83_2]
    simp only [e_83_0, e_83_1, e_83_3, e_83_4, e_83_7, e_83_10, e_83_11, e_83_14, e_83_15, e_83_16, e_83_19, e_83_22, e_83_23, e_83_26, e_83_27, e_83_28, e_83_31, e_83_34, e_83_35, e_83_38, e_83_39, e_83_40, e_83_42, e_83_45, e_83_48, e_83_51, e_83_52, hI]
    rw [if_pos (q_le (Nat.le_refl _) (by omega))]
theorem m_tokenEnd {n s : Nat} (hI : I 38 1 = nI n) (hn : n ≤ 400) (hs : s < n) (ht : cTok (I 39 s) = true) : X (d + 1) none 83 (0, [some (.ref 38), some (.int (nI s)), none], [], (xSH, I, L, xR0)) = some (some (.int (nI (tEnd (I 39) n s))), (xSH, I, L, xR0)) := by
  simp only [e_83_0, e_83_1, e_83_3, e_83_4, e_83_7, e_83_10, e_83_11, e_83_14, e_83_15, e_83_16, e_83_19, e_83_22, e_83_23, e_83_26, e_83_27, e_83_28, e_83_31, e_83_34, e_83_35, e_83_38, e_83_39, e_83_40, e_83_42, e_83_45, e_83_48, e_83_51, e_83_52]
  rw [m_tok_1 hI hn (m := n - s) (by omega)]
  unfold tEnd
  obtain ⟨m, hm⟩ : ∃ m, n - s = m + 1 := ⟨n - s - 1, by omega⟩
  have h3 : ¬ I 39 s = 37 := by
    intro h
    rw [h] at ht
    exact absurd ht (by decide)
  rw [if_neg h3, if_pos ht, hm, scan, if_pos ht, show n - (s + 1) = m by omega]
end TX
