theorem w_up (u v : Int32) : u - v + 1 = u + 1 - v := by grind
theorem w_dn (u v : Int32) : u - v + (-1) = u - (v + 1) := by grind
theorem w_0 (u v : Int32) : u - v + 0 = u - v := by grind
theorem and_m1 (x : Int32) : x &&& (-1) = x := by
  apply Int32.toBitVec_inj.mp
  rw [Int32.toBitVec_and, show (-1 : Int32).toBitVec = BitVec.allOnes 32 by decide, BitVec.and_allOnes]
theorem sub_0 {u v : Nat} (hu : u ≤ 130) (hv : v ≤ 130) : (nI u - nI v = 0) ↔ u = v := by
  have h := pk_sub_toInt (a := u) (b := v) (by omega) (by omega)
  constructor
  · intro z
    rw [z] at h
    have : (0 : Int32).toInt = 0 := by decide
    omega
  · intro z
    subst z
    apply Int32.toInt_inj.mp
    rw [h]
    have : (0 : Int32).toInt = 0 := by decide
    omega
theorem sub_and1 {u v : Nat} (hu : u ≤ 130) (hv : v ≤ 130) : ((nI u - nI v) &&& 1 = 0) ↔ (u + v) % 2 = 0 := by
  have h := pk_and (nI u - nI v) (m := 1) 1 (by decide)
  have e : (nI u - nI v).toBitVec.toNat = (4294967296 - v + u) % 4294967296 := by
    rw [Int32.toBitVec_sub, BitVec.toNat_sub, pk_tn (by omega), pk_tn (by omega)]
  rw [h, e, show (0 : Int32) = nI 0 from rfl, nI_eq (by omega) (by omega)]
  omega
theorem ins_w {C : Nat → Nat → Int32} {L : Nat → Nat → Int64} {x y w : Nat} (hx : x < w) (hw : w ≤ 20) (hy : y < 20) : ∀ e, edgeR C L e → cWnd C w (nI y) e x = nI (cnt (mU L (nI x) (nI y)) e) - nI (cnt (mD L (nI x) (nI y)) e)
  | 0, _ => by
    rw [cWnd, cnt, cnt]
    decide
  | e + 1, h => by
    have ih := ins_w (C := C) (L := L) hx hw hy e (fun k hk => h k (by omega))
    obtain ⟨h1, h2⟩ := t_con (h e (by omega)) hx hw hy
    rw [cWnd, ih, h1, cnt, cnt]
    cases q1 : mU L (nI x) (nI y) e <;> cases q2 : mD L (nI x) (nI y) e
    · simp only [Bool.false_eq_true, if_false, Nat.add_zero]
      exact w_0 _ _
    · simp only [Bool.false_eq_true, if_false, if_true, Nat.add_zero]
      rw [w_dn, nI_1]
    · simp only [Bool.false_eq_true, if_false, if_true, Nat.add_zero]
      rw [w_up, nI_1]
    · exact absurd ⟨q1, q2⟩ h2
theorem ins_eq {C : Nat → Nat → Int32} {L : Nat → Nat → Int64} {x y w e : Nat} {r : Int32} (hx : x < w) (hw : w ≤ 20) (hy : y < 20) (he : e ≤ 130) (h : edgeR C L e) : cIns C w (nI y) r e x = mIns L e (nI x) (nI y) (decide (r = 2)) := by
  have c1 := cnt_le (mU L (nI x) (nI y)) e
  have c2 := cnt_le (mD L (nI x) (nI y)) e
  unfold cIns mIns cMask
  rw [ins_w hx hw hy e h]
  by_cases g : r = 2
  · rw [if_pos g]
    simp only [g, decide_true, if_true]
    by_cases q : (cnt (mU L (nI x) (nI y)) e + cnt (mD L (nI x) (nI y)) e) % 2 = 0
    · rw [decide_eq_true ((sub_and1 (by omega) (by omega)).mpr q), decide_eq_false (by omega)]
      rfl
    · rw [decide_eq_false (fun z => q ((sub_and1 (by omega) (by omega)).mp z)), decide_eq_true (by omega)]
      rfl
  · rw [if_neg g, and_m1]
    simp only [g, decide_false, Bool.false_eq_true, if_false]
    rw [decide_eq_decide.mpr (sub_0 (by omega) (by omega))]
