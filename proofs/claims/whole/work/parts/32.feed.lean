def xs (I : Nat → Nat → Int32) (a : Nat) (f : Nat → Int32) : Nat → Nat → Int32 := fun x => if x = a then f else I x
theorem xs_at {I : Nat → Nat → Int32} {a : Nat} {f : Nat → Int32} : xs I a f a = f := if_pos rfl
theorem xs_ne {I : Nat → Nat → Int32} {a b : Nat} {f : Nat → Int32} (h : b ≠ a) : xs I a f b = I b := if_neg h
theorem xs_xu {I : Nat → Nat → Int32} {a k : Nat} {v : Int32} {f : Nat → Int32} : xs (xu I a k v) a f = xs I a f := by
  funext x
  unfold xs
  split
  · rfl
  · next h => rw [xu_ne h]
theorem xs_xs {I : Nat → Nat → Int32} {a : Nat} {f g : Nat → Int32} : xs (xs I a f) a g = xs I a g := by
  funext x
  unfold xs
  split <;> rfl
theorem xs_self {I : Nat → Nat → Int32} {a : Nat} : xs I a (I a) = I := by
  funext x
  unfold xs
  split
  · next h => rw [h]
  · rfl
theorem xu_xs {I : Nat → Nat → Int32} {a k : Nat} {v : Int32} : xu I a k v = xs I a (fun q => if q = k then v else I a q) := by
  funext x
  unfold xs
  split
  · next h => rw [h, xu_at]; rfl
  · next h => rw [xu_ne h]
theorem xsmg_lo {C M : Nat → Nat → Int32} {a : Nat} {f : Nat → Int32} (h : a < 38) : xs (mg C M) a f = mg (xs C a f) M := by
  funext x
  unfold xs mg
  by_cases hx : x = a
  · subst hx; simp [h]
  · simp [hx]
theorem xsmg_hi {C M : Nat → Nat → Int32} {a : Nat} {f : Nat → Int32} (h : 38 ≤ a) : xs (mg C M) a f = mg C (xs M a f) := by
  funext x
  unfold xs mg
  by_cases hx : x = a
  · subst hx; simp [Nat.not_lt.mpr h]
  · simp [hx]
theorem n_in {k n : Nat} (h : k < n) (hn : n < 2 ^ 31) : ¬ (nI k < 0 ∨ n ≤ (nI k).toNatClampNeg) := nI_in h hn
def byt (w : Int32) (i : Nat) : Int32 := (w >>> ((8 * nI i) &&& 31)) &&& 255
def fedN (w : Int32) : Nat := if byt w 0 = 0 then 0 else if byt w 1 = 0 then 1 else if byt w 2 = 0 then 2 else if byt w 3 = 0 then 3 else 4
theorem fedN_le (w : Int32) : fedN w ≤ 4 := by unfold fedN; repeat' split
                                               all_goals omega
section FD
variable {d : Nat} {I : Nat → Nat → Int32} {L : Nat → Nat → Int64}
theorem c_fill_h {a n : Nat} {v : Int32} (ha : xSH[a]? = some (0, n)) (hn : n < 2 ^ 31) : ∀ (m k : Nat) (I : Nat → Nat → Int32), k + m = n → X d none 15 (5, [some (.ref a), some (.int v), some (.int (nI k)), some (.int (nI n))], [], (xSH, I, L, xR0)) = some (none, (xSH, xs I a (fun q => if k ≤ q ∧ q < n then v else I a q), L, xR0)) := by
  intro m
  induction m with
  | zero =>
    intro k I hk
    obtain rfl : k = n := by omega
    rw [e_15_5]
    simp only [e_15_0, e_15_1, e_15_2, e_15_3 ha, e_15_4, e_15_6, e_15_7, e_15_10, e_15_11, e_15_12, e_15_13 ha, e_15_14, e_15_17, e_15_20]
    rw [if_pos ((nI_leI hn hn).mpr (Nat.le_refl _))]
    have e : (fun q => if k ≤ q ∧ q < k then v else I a q) = I a := by
      funext q
      rw [if_neg (by omega)]
    rw [e, xs_self]
  | succ m ih =>
    intro k I hk
    rw [e_15_5]
    simp only [e_15_0, e_15_1, e_15_2, e_15_3 ha, e_15_4, e_15_6, e_15_7, e_15_10, e_15_11, e_15_12, e_15_13 ha, e_15_14, e_15_17, e_15_20]
    rw [if_neg (fun z => by have := (nI_leI hn (by omega)).mp z; omega), if_neg (n_in (by omega) hn), nI_1, nI_clamp (by omega), ih (k + 1) _ (by omega), xs_xu]
    refine congrArg (fun z => some ((none : Option Value), ((xSH, xs I a z, L, xR0) : xHp))) (funext fun q => ?_)
    rw [xu_eq]
    by_cases h1 : q = k
    · subst h1
      rw [if_neg (by omega), if_pos rfl, if_pos (by omega)]
    · by_cases h2 : k + 1 ≤ q ∧ q < n
      · rw [if_pos h2, if_pos (by omega)]
      · rw [if_neg h2, if_neg h1, if_neg (by omega)]
theorem c_fill {a n : Nat} {v : Int32} (ha : xSH[a]? = some (0, n)) (hn : n < 2 ^ 31) : X d none 15 (0, [some (.ref a), some (.int v), none, none], [], (xSH, I, L, xR0)) = some (none, (xSH, xs I a (fun q => if q < n then v else I a q), L, xR0)) := by
  simp only [e_15_0, e_15_1, e_15_2, e_15_3 ha, e_15_4, e_15_6, e_15_7, e_15_10, e_15_11, e_15_12, e_15_13 ha, e_15_14, e_15_17, e_15_20]
  have h := c_fill_h (d := d) (L := L) (v := v) ha hn n 0 I (by omega)
  rw [show (0 : Int32) = nI 0 from rfl, show Int32.ofNat n = nI n from rfl, h]
  simp only [Nat.zero_le, true_and]
theorem c_app_h {k : Nat} {w : Int32} (hk : k < 4) : X (d + 1) none 8 (2, [some (.ref 1), some (.int w), some (.int (nI k)), none], [], (xSH, I, L, xR0)) = if byt w k = 0 then X (d + 1) none 8 (21, [some (.ref 1), some (.int w), some (.int (nI k)), none], [], (xSH, I, L, xR0)) else X (d + 1) none 8 (2, [some (.ref 1), some (.int w), some (.int (nI (k + 1))), none], [], (xSH, I, L, xR0)) := by
  have h1 : ¬ (4 : Int32) ≤ nI k := fun z => absurd ((nI_leI (a := 4) (by decide) (by omega)).mp z) (by omega)
  rw [e_8_2]
  simp only [e_8_3, e_8_4, e_8_7, e_8_8, e_8_9, e_8_12, e_8_15, e_8_18, c_codeIn, Option.bind_some, Option.toList_some, Option.toList_none, List.cons_append, List.nil_append, h1, if_false, nI_1]
  rfl
theorem c_app_4 {w : Int32} : X (d + 1) none 8 (2, [some (.ref 1), some (.int w), some (.int (nI 4)), none], [], (xSH, I, L, xR0)) = X (d + 1) none 8 (21, [some (.ref 1), some (.int w), some (.int (nI 4)), none], [], (xSH, I, L, xR0)) := by
  rw [e_8_2]
  simp only [e_8_3, e_8_4]
  exact if_pos (by decide)
theorem c_app_n {w : Int32} : X (d + 1) none 8 (2, [some (.ref 1), some (.int w), some (.int 0), none], [], (xSH, I, L, xR0)) = X (d + 1) none 8 (21, [some (.ref 1), some (.int w), some (.int (nI (fedN w))), none], [], (xSH, I, L, xR0)) := by
  rw [show (0 : Int32) = nI 0 from rfl, c_app_h (by decide), c_app_h (by decide), c_app_h (by decide), c_app_h (by decide), c_app_4]
  unfold fedN
  repeat' split
  all_goals rfl
theorem c_app_s {w : Int32} {n s : Nat} (hs : s + n ≤ 400) : ∀ (m k : Nat) (I : Nat → Nat → Int32), k + m = n → I 1 1 = nI s → X (d + 1) none 8 (37, [some (.ref 1), some (.int w), some (.int (nI n)), some (.int (nI k))], [], (xSH, I, L, xR0)) = some (some (.int (nI n)), (xSH, xu (xs I 2 (fun q => if s + k ≤ q ∧ q < s + n then byt w (q - s) else I 2 q)) 1 1 (nI (s + n)), L, xR0)) := by
  intro m
  induction m with
  | zero =>
    intro k I hk hI
    obtain rfl : k = n := by omega
    rw [e_8_37]
    simp only [e_8_0, e_8_1, e_8_3, e_8_4, e_8_7, e_8_8, e_8_9, e_8_12, e_8_15, e_8_18, e_8_21, e_8_22, e_8_25, e_8_26, e_8_27, e_8_30, e_8_33, e_8_34, e_8_35, e_8_36, e_8_38, e_8_39, e_8_42, e_8_43, e_8_46, e_8_47, e_8_50, e_8_51, e_8_52, e_8_53, e_8_54, e_8_57, e_8_58, e_8_61, e_8_64, e_8_65, e_8_66, e_8_69, e_8_70, e_8_71, e_8_74, e_8_75]
    rw [if_pos ((nI_leI (by omega) (by omega)).mpr (Nat.le_refl _)), hI, nI_add]
    have e : (fun q => if s + k ≤ q ∧ q < s + k then byt w (q - s) else I 2 q) = I 2 := by
      funext q
      rw [if_neg (by omega)]
    rw [e, xs_self]
  | succ m ih =>
    intro k I hk hI
    rw [e_8_37]
    simp only [e_8_0, e_8_1, e_8_3, e_8_4, e_8_7, e_8_8, e_8_9, e_8_12, e_8_15, e_8_18, e_8_21, e_8_22, e_8_25, e_8_26, e_8_27, e_8_30, e_8_33, e_8_34, e_8_35, e_8_36, e_8_38, e_8_39, e_8_42, e_8_43, e_8_46, e_8_47, e_8_50, e_8_51, e_8_52, e_8_53, e_8_54, e_8_57, e_8_58, e_8_61, e_8_64, e_8_65, e_8_66, e_8_69, e_8_70, e_8_71, e_8_74, e_8_75, c_codeIn, Option.bind_some, Option.toList_some, Option.toList_none, List.cons_append, List.nil_append]
    rw [if_neg (fun z => by have := (nI_leI (by omega) (by omega)).mp z; omega), hI, nI_add, if_neg (n_in (by omega) (by decide)), nI_1, nI_clamp (by omega), ih (k + 1) _ (by omega) (by rw [xu_ne (by decide), hI]), xs_xu]
    refine congrArg (fun z => some (some (Value.int (nI n)), ((xSH, xu (xs I 2 z) 1 1 (nI (s + n)), L, xR0) : xHp))) (funext fun q => ?_)
    rw [xu_eq]
    by_cases h1 : q = s + k
    · subst h1
      rw [if_neg (by omega), if_pos rfl, if_pos (by omega), Nat.add_sub_cancel_left]
      rfl
    · by_cases h2 : s + (k + 1) ≤ q ∧ q < s + n
      · rw [if_pos h2, if_pos (by omega)]
      · rw [if_neg h2, if_neg h1, if_neg (by omega)]
def fedI (I : Nat → Nat → Int32) (a t l : Nat) (w : Int32) (s : Nat) : Nat → Nat → Int32 := xu (xs I t (fun q => if s ≤ q ∧ q < s + fedN w then byt w (q - s) else I t q)) a l (nI (s + fedN w))
theorem c_append {w : Int32} {s : Nat} (hs : s ≤ 400) (hI : I 1 1 = nI s) : X (d + 1) none 8 (0, [some (.ref 1), some (.int w), none, none], [], (xSH, I, L, xR0)) = some (if 400 < s + fedN w then (some (.int (-1)), (xSH, I, L, xR0)) else (some (.int (nI (fedN w))), (xSH, fedI I 1 2 1 w s, L, xR0))) := by
  have h4 := fedN_le w
  simp only [e_8_0, e_8_1]
  rw [c_app_n]
  simp only [e_8_0, e_8_1, e_8_3, e_8_4, e_8_7, e_8_8, e_8_9, e_8_12, e_8_15, e_8_18, e_8_21, e_8_22, e_8_25, e_8_26, e_8_27, e_8_30, e_8_33, e_8_34, e_8_35, e_8_36, e_8_38, e_8_39, e_8_42, e_8_43, e_8_46, e_8_47, e_8_50, e_8_51, e_8_52, e_8_53, e_8_54, e_8_57, e_8_58, e_8_61, e_8_64, e_8_65, e_8_66, e_8_69, e_8_70, e_8_71, e_8_74, e_8_75]
  rw [hI, nI_add]
  by_cases h : 400 < s + fedN w
  · rw [if_pos h, if_neg (fun z => by have := (nI_leI (a := s + fedN w) (b := 400) (by omega) (by decide)).mp z; omega)]
  · rw [if_neg h, if_pos (show nI (s + fedN w) ≤ 400 from (nI_leI (a := s + fedN w) (b := 400) (by omega) (by decide)).mpr (by omega)), show (0 : Int32) = nI 0 from rfl, c_app_s (s := s) (by omega) (fedN w) 0 I (by omega) hI]
    rfl
theorem m_app_h {k : Nat} {w : Int32} (hk : k < 4) : X d none 74 (2, [some (.ref 38), some (.int w), some (.int (nI k)), none], [], (xSH, I, L, xR0)) = if byt w k = 0 then X d none 74 (26, [some (.ref 38), some (.int w), some (.int (nI k)), none], [], (xSH, I, L, xR0)) else X d none 74 (2, [some (.ref 38), some (.int w), some (.int (nI (k + 1))), none], [], (xSH, I, L, xR0)) := by
  have h1 : ¬ (4 : Int32) ≤ nI k := fun z => absurd ((nI_leI (a := 4) (by decide) (by omega)).mp z) (by omega)
  rw [e_74_2]
  simp only [e_74_3, e_74_4, e_74_7, e_74_8, e_74_10, e_74_11, e_74_12, e_74_13, e_74_16, e_74_17, e_74_20, e_74_23, h1, if_false, nI_1]
  rfl
theorem m_app_4 {w : Int32} : X d none 74 (2, [some (.ref 38), some (.int w), some (.int (nI 4)), none], [], (xSH, I, L, xR0)) = X d none 74 (26, [some (.ref 38), some (.int w), some (.int (nI 4)), none], [], (xSH, I, L, xR0)) := by
  rw [e_74_2]
  simp only [e_74_3, e_74_4]
  exact if_pos (by decide)
theorem m_app_n {w : Int32} : X d none 74 (2, [some (.ref 38), some (.int w), some (.int 0), none], [], (xSH, I, L, xR0)) = X d none 74 (26, [some (.ref 38), some (.int w), some (.int (nI (fedN w))), none], [], (xSH, I, L, xR0)) := by
  rw [show (0 : Int32) = nI 0 from rfl, m_app_h (by decide), m_app_h (by decide), m_app_h (by decide), m_app_h (by decide), m_app_4]
  unfold fedN
  repeat' split
  all_goals rfl
theorem m_app_s {w : Int32} {n s : Nat} (hs : s + n ≤ 400) : ∀ (m k : Nat) (I : Nat → Nat → Int32), k + m = n → I 38 1 = nI s → X d none 74 (42, [some (.ref 38), some (.int w), some (.int (nI n)), some (.int (nI k))], [], (xSH, I, L, xR0)) = some (some (.int (nI n)), (xSH, xu (xs I 39 (fun q => if s + k ≤ q ∧ q < s + n then byt w (q - s) else I 39 q)) 38 1 (nI (s + n)), L, xR0)) := by
  intro m
  induction m with
  | zero =>
    intro k I hk hI
    obtain rfl : k = n := by omega
    rw [e_74_42]
    simp only [e_74_0, e_74_1, e_74_3, e_74_4, e_74_7, e_74_8, e_74_10, e_74_11, e_74_12, e_74_13, e_74_16, e_74_17, e_74_20, e_74_23, e_74_26, e_74_27, e_74_30, e_74_31, e_74_32, e_74_35, e_74_38, e_74_39, e_74_40, e_74_41, e_74_43, e_74_44, e_74_47, e_74_48, e_74_51, e_74_52, e_74_55, e_74_56, e_74_57, e_74_58, e_74_60, e_74_61, e_74_62, e_74_63, e_74_66, e_74_67, e_74_68, e_74_71, e_74_74, e_74_75, e_74_76, e_74_79, e_74_80, e_74_81, e_74_84, e_74_85]
    rw [if_pos ((nI_leI (by omega) (by omega)).mpr (Nat.le_refl _)), hI, nI_add]
    have e : (fun q => if s + k ≤ q ∧ q < s + k then byt w (q - s) else I 39 q) = I 39 := by
      funext q
      rw [if_neg (by omega)]
    rw [e, xs_self]
  | succ m ih =>
    intro k I hk hI
    rw [e_74_42]
    simp only [e_74_0, e_74_1, e_74_3, e_74_4, e_74_7, e_74_8, e_74_10, e_74_11, e_74_12, e_74_13, e_74_16, e_74_17, e_74_20, e_74_23, e_74_26, e_74_27, e_74_30, e_74_31, e_74_32, e_74_35, e_74_38, e_74_39, e_74_40, e_74_41, e_74_43, e_74_44, e_74_47, e_74_48, e_74_51, e_74_52, e_74_55, e_74_56, e_74_57, e_74_58, e_74_60, e_74_61, e_74_62, e_74_63, e_74_66, e_74_67, e_74_68, e_74_71, e_74_74, e_74_75, e_74_76, e_74_79, e_74_80, e_74_81, e_74_84, e_74_85]
    rw [if_neg (fun z => by have := (nI_leI (by omega) (by omega)).mp z; omega), hI, nI_add, if_neg (n_in (by omega) (by decide)), nI_1, nI_clamp (by omega), ih (k + 1) _ (by omega) (by rw [xu_ne (by decide), hI]), xs_xu]
    refine congrArg (fun z => some (some (Value.int (nI n)), ((xSH, xu (xs I 39 z) 38 1 (nI (s + n)), L, xR0) : xHp))) (funext fun q => ?_)
    rw [xu_eq]
    by_cases h1 : q = s + k
    · subst h1
      rw [if_neg (by omega), if_pos rfl, if_pos (by omega), Nat.add_sub_cancel_left]
      rfl
    · by_cases h2 : s + (k + 1) ≤ q ∧ q < s + n
      · rw [if_pos h2, if_pos (by omega)]
      · rw [if_neg h2, if_neg h1, if_neg (by omega)]
theorem m_feed {w : Int32} {s : Nat} (hs : s ≤ 400) (hI : I 38 1 = nI s) : X d none 74 (0, [some (.ref 38), some (.int w), none, none], [], (xSH, I, L, xR0)) = some (if 400 < s + fedN w then (some (.int (-1)), (xSH, I, L, xR0)) else (some (.int (nI (fedN w))), (xSH, fedI I 38 39 1 w s, L, xR0))) := by
  have h4 := fedN_le w
  simp only [e_74_0, e_74_1]
  rw [m_app_n]
  simp only [e_74_0, e_74_1, e_74_3, e_74_4, e_74_7, e_74_8, e_74_10, e_74_11, e_74_12, e_74_13, e_74_16, e_74_17, e_74_20, e_74_23, e_74_26, e_74_27, e_74_30, e_74_31, e_74_32, e_74_35, e_74_38, e_74_39, e_74_40, e_74_41, e_74_43, e_74_44, e_74_47, e_74_48, e_74_51, e_74_52, e_74_55, e_74_56, e_74_57, e_74_58, e_74_60, e_74_61, e_74_62, e_74_63, e_74_66, e_74_67, e_74_68, e_74_71, e_74_74, e_74_75, e_74_76, e_74_79, e_74_80, e_74_81, e_74_84, e_74_85]
  rw [hI, nI_add]
  by_cases h : 400 < s + fedN w
  · rw [if_pos h, if_neg (fun z => by have := (nI_leI (a := s + fedN w) (b := 400) (by omega) (by decide)).mp z; omega)]
  · rw [if_neg h, if_pos (show nI (s + fedN w) ≤ 400 from (nI_leI (a := s + fedN w) (b := 400) (by omega) (by decide)).mpr (by omega)), show (0 : Int32) = nI 0 from rfl, m_app_s (s := s) (by omega) (fedN w) 0 I (by omega) hI]
    rfl
theorem c_feed {w : Int32} {s : Nat} (hs : s ≤ 400) (hI : I 1 1 = nI s) : X (d + 2) none 7 (0, [some (.ref 0), some (.int w)], [], (xSH, I, L, xR0)) = some (if 400 < s + fedN w then (some (.int (-1)), (xSH, I, L, xR0)) else (some (.int (nI (fedN w))), (xSH, fedI I 1 2 1 w s, L, xR0))) := by
  simp only [e_7_0, e_7_1, e_7_4, e_7_5, e_7_8, c_append hs hI, Option.bind_some, Option.toList_some, Option.toList_none, List.cons_append, List.nil_append]
  split <;> simp only [e_7_0, e_7_1, e_7_4, e_7_5, e_7_8, Option.bind_some, Option.toList_some, Option.toList_none, List.cons_append, List.nil_append]
end FD
