section XX
variable {d j pc k n tgt : Nat} {scr : xScr} {ls : xLs} {st : List Value} {h : xHp} {i : Instr} {c' : xCf}
theorem xstep_of (hd : decode (xB j) pc = .ok (i, n)) (hn : xn i n = true) : xstep scr j (pc, ls, st, h) = xop scr j pc i ls st h := by
  unfold xstep
  simp only [hd, hn, if_true]
theorem X_op (hd : decode (xB j) pc = .ok (i, n)) (hn : xn i n = true) (hq : xop scr j pc i ls st h = some (.inl c')) : X d scr j (pc, ls, st, h) = X d scr j c' := X_next ((xstep_of hd hn).trans hq)
theorem X_rt {v : Option Value} (hd : decode (xB j) pc = .ok (i, n)) (hn : xn i n = true) (hq : xop scr j pc i ls st h = some (.inr (.inr v))) : X d scr j (pc, ls, st, h) = some (v, h) := X_ret ((xstep_of hd hn).trans hq)
theorem X_none {c : xCf} (hq : xstep scr j c = none) : X d scr j c = none := by
  rcases X_spec d scr j c with ⟨m, h1, h2⟩ | ⟨h1, -⟩
  · cases m with
    | zero => exact absurd h1.symm h2
    | succ m =>
      rw [xrun, hq] at h1
      exact absurd h1.symm h2
  · exact h1
theorem X_k {x : Int32} {v : Int} {m : Nat} (hd : decode (xB j) pc = .ok (i, n)) (hn : xn i n = true) (hq : ∀ ls st h, xop scr j pc i ls st h = xgo m ls (.int x :: st) h) : X d scr j (pc, ls, st, h) = X d scr j (m, ls, .int x :: st, h) := X_op hd hn (hq ls st h)
theorem X_go {off : Int} (hd : decode (xB j) pc = .ok (.goto off, 3)) (ht : (pc : Int) + off = (tgt : Int)) : X d scr j (pc, ls, st, h) = X d scr j (tgt, ls, st, h) := by
  refine X_op hd rfl ?_
  show xj pc off ls st h = _
  unfold xj
  rw [if_pos (by omega), ht]
  rfl
theorem xif_eq {cd : ClassFile.Cond} {x y : Int32} {off : Int} (ht : (pc : Int) + off = (tgt : Int)) : xif cd x y off pc ls st h = if xcond cd x y = true then xgo tgt ls st h else xgo (pc + 3) ls st h := by
  unfold xif
  rw [if_pos (by omega), ht]
  rfl
theorem X_i0 {cd : ClassFile.Cond} {x : Int32} {off : Int} (hd : decode (xB j) pc = .ok (.ifCond cd off, 3)) (ht : (pc : Int) + off = (tgt : Int)) : X d scr j (pc, ls, .int x :: st, h) = if xcond cd x 0 = true then X d scr j (tgt, ls, st, h) else X d scr j (pc + 3, ls, st, h) := by
  have e : xop scr j pc (.ifCond cd off) ls (.int x :: st) h = if xcond cd x 0 = true then xgo tgt ls st h else xgo (pc + 3) ls st h := xif_eq ht
  split
  · next hh => exact X_op hd rfl (e.trans (if_pos hh))
  · next hh => exact X_op hd rfl (e.trans (if_neg hh))
theorem X_i2 {cd : ClassFile.Cond} {x y : Int32} {off : Int} (hd : decode (xB j) pc = .ok (.if_icmp cd off, 3)) (ht : (pc : Int) + off = (tgt : Int)) : X d scr j (pc, ls, .int y :: .int x :: st, h) = if xcond cd x y = true then X d scr j (tgt, ls, st, h) else X d scr j (pc + 3, ls, st, h) := by
  have e : xop scr j pc (.if_icmp cd off) ls (.int y :: .int x :: st) h = if xcond cd x y = true then xgo tgt ls st h else xgo (pc + 3) ls st h := xif_eq ht
  split
  · next hh => exact X_op hd rfl (e.trans (if_pos hh))
  · next hh => exact X_op hd rfl (e.trans (if_neg hh))
theorem X_ifeq {x : Int32} {off : Int} (hd : decode (xB j) pc = .ok (.ifCond .eq off, 3)) (ht : (pc : Int) + off = (tgt : Int)) : X d scr j (pc, ls, .int x :: st, h) = if x = 0 then X d scr j (tgt, ls, st, h) else X d scr j (pc + 3, ls, st, h) := by rw [X_i0 hd ht]; simp only [xcond, decide_eq_true_eq]
theorem X_ifne {x : Int32} {off : Int} (hd : decode (xB j) pc = .ok (.ifCond .ne off, 3)) (ht : (pc : Int) + off = (tgt : Int)) : X d scr j (pc, ls, .int x :: st, h) = if x = 0 then X d scr j (pc + 3, ls, st, h) else X d scr j (tgt, ls, st, h) := by rw [X_i0 hd ht]; simp only [xcond, decide_eq_true_eq, ite_not]
theorem X_iflt {x : Int32} {off : Int} (hd : decode (xB j) pc = .ok (.ifCond .lt off, 3)) (ht : (pc : Int) + off = (tgt : Int)) : X d scr j (pc, ls, .int x :: st, h) = if x < 0 then X d scr j (tgt, ls, st, h) else X d scr j (pc + 3, ls, st, h) := by rw [X_i0 hd ht]; simp only [xcond, decide_eq_true_eq]
theorem X_ifge {x : Int32} {off : Int} (hd : decode (xB j) pc = .ok (.ifCond .ge off, 3)) (ht : (pc : Int) + off = (tgt : Int)) : X d scr j (pc, ls, .int x :: st, h) = if 0 ≤ x then X d scr j (tgt, ls, st, h) else X d scr j (pc + 3, ls, st, h) := by rw [X_i0 hd ht]; simp only [xcond, decide_eq_true_eq]
theorem X_ifgt {x : Int32} {off : Int} (hd : decode (xB j) pc = .ok (.ifCond .gt off, 3)) (ht : (pc : Int) + off = (tgt : Int)) : X d scr j (pc, ls, .int x :: st, h) = if 0 < x then X d scr j (tgt, ls, st, h) else X d scr j (pc + 3, ls, st, h) := by rw [X_i0 hd ht]; simp only [xcond, decide_eq_true_eq]
theorem X_ifle {x : Int32} {off : Int} (hd : decode (xB j) pc = .ok (.ifCond .le off, 3)) (ht : (pc : Int) + off = (tgt : Int)) : X d scr j (pc, ls, .int x :: st, h) = if x ≤ 0 then X d scr j (tgt, ls, st, h) else X d scr j (pc + 3, ls, st, h) := by rw [X_i0 hd ht]; simp only [xcond, decide_eq_true_eq]
theorem X_iceq {x y : Int32} {off : Int} (hd : decode (xB j) pc = .ok (.if_icmp .eq off, 3)) (ht : (pc : Int) + off = (tgt : Int)) : X d scr j (pc, ls, .int y :: .int x :: st, h) = if x = y then X d scr j (tgt, ls, st, h) else X d scr j (pc + 3, ls, st, h) := by rw [X_i2 hd ht]; simp only [xcond, decide_eq_true_eq]
theorem X_icne {x y : Int32} {off : Int} (hd : decode (xB j) pc = .ok (.if_icmp .ne off, 3)) (ht : (pc : Int) + off = (tgt : Int)) : X d scr j (pc, ls, .int y :: .int x :: st, h) = if x = y then X d scr j (pc + 3, ls, st, h) else X d scr j (tgt, ls, st, h) := by rw [X_i2 hd ht]; simp only [xcond, decide_eq_true_eq, ite_not]
theorem X_iclt {x y : Int32} {off : Int} (hd : decode (xB j) pc = .ok (.if_icmp .lt off, 3)) (ht : (pc : Int) + off = (tgt : Int)) : X d scr j (pc, ls, .int y :: .int x :: st, h) = if x < y then X d scr j (tgt, ls, st, h) else X d scr j (pc + 3, ls, st, h) := by rw [X_i2 hd ht]; simp only [xcond, decide_eq_true_eq]
theorem X_icge {x y : Int32} {off : Int} (hd : decode (xB j) pc = .ok (.if_icmp .ge off, 3)) (ht : (pc : Int) + off = (tgt : Int)) : X d scr j (pc, ls, .int y :: .int x :: st, h) = if y ≤ x then X d scr j (tgt, ls, st, h) else X d scr j (pc + 3, ls, st, h) := by rw [X_i2 hd ht]; simp only [xcond, decide_eq_true_eq]
theorem X_icgt {x y : Int32} {off : Int} (hd : decode (xB j) pc = .ok (.if_icmp .gt off, 3)) (ht : (pc : Int) + off = (tgt : Int)) : X d scr j (pc, ls, .int y :: .int x :: st, h) = if y < x then X d scr j (tgt, ls, st, h) else X d scr j (pc + 3, ls, st, h) := by rw [X_i2 hd ht]; simp only [xcond, decide_eq_true_eq]
theorem X_icle {x y : Int32} {off : Int} (hd : decode (xB j) pc = .ok (.if_icmp .le off, 3)) (ht : (pc : Int) + off = (tgt : Int)) : X d scr j (pc, ls, .int y :: .int x :: st, h) = if x ≤ y then X d scr j (tgt, ls, st, h) else X d scr j (pc + 3, ls, st, h) := by rw [X_i2 hd ht]; simp only [xcond, decide_eq_true_eq]
theorem X_iald {a nn : Nat} {x : Int32} (hd : decode (xB j) pc = .ok (.iaload, 1)) (ha : h.1[a]? = some (0, nn)) : X d scr j (pc, ls, .int x :: .ref a :: st, h) = if x < 0 ∨ nn ≤ x.toNatClampNeg then none else X d scr j (pc + 1, ls, .int (h.2.1 a x.toNatClampNeg) :: st, h) := by
  split
  · next hh => exact X_none ((xstep_of hd rfl).trans (by show xIaload scr (pc + 1) ls (.int x :: .ref a :: st) h = none; simp only [xIaload, ha]; rw [if_neg (fun z => z.2 hh)]))
  · next hh => exact X_op hd rfl (by show xIaload scr (pc + 1) ls (.int x :: .ref a :: st) h = _; simp only [xIaload, ha]; rw [if_pos ⟨trivial, hh⟩])
theorem X_bald {a nn : Nat} {x : Int32} (hd : decode (xB j) pc = .ok (.baload, 1)) (ha : h.1[a]? = some (1, nn)) : X d scr j (pc, ls, .int x :: .ref a :: st, h) = if x < 0 ∨ nn ≤ x.toNatClampNeg then none else X d scr j (pc + 1, ls, .int (h.2.1 a x.toNatClampNeg) :: st, h) := by
  split
  · next hh => exact X_none ((xstep_of hd rfl).trans (by show xBaload (pc + 1) ls (.int x :: .ref a :: st) h = none; simp only [xBaload, ha]; rw [if_neg (fun z => z.2 hh)]))
  · next hh => exact X_op hd rfl (by show xBaload (pc + 1) ls (.int x :: .ref a :: st) h = _; simp only [xBaload, ha]; rw [if_pos ⟨trivial, hh⟩])
theorem X_lald {a nn : Nat} {x : Int32} (hd : decode (xB j) pc = .ok (.laload, 1)) (ha : h.1[a]? = some (2, nn)) : X d scr j (pc, ls, .int x :: .ref a :: st, h) = if x < 0 ∨ nn ≤ x.toNatClampNeg then none else X d scr j (pc + 1, ls, .long (h.2.2.1 a x.toNatClampNeg) :: st, h) := by
  split
  · next hh => exact X_none ((xstep_of hd rfl).trans (by show xLaload (pc + 1) ls (.int x :: .ref a :: st) h = none; simp only [xLaload, ha]; rw [if_neg (fun z => z.2 hh)]))
  · next hh => exact X_op hd rfl (by show xLaload (pc + 1) ls (.int x :: .ref a :: st) h = _; simp only [xLaload, ha]; rw [if_pos ⟨trivial, hh⟩])
theorem X_aald {a nn : Nat} {x : Int32} (hd : decode (xB j) pc = .ok (.aaload, 1)) (ha : h.1[a]? = some (3, nn)) : X d scr j (pc, ls, .int x :: .ref a :: st, h) = if x < 0 ∨ nn ≤ x.toNatClampNeg then none else X d scr j (pc + 1, ls, va_rf (h.2.2.2 a x.toNatClampNeg) :: st, h) := by
  split
  · next hh => exact X_none ((xstep_of hd rfl).trans (by show xAaload (pc + 1) ls (.int x :: .ref a :: st) h = none; simp only [xAaload, ha]; rw [if_neg (fun z => z.2 hh)]))
  · next hh => exact X_op hd rfl (by show xAaload (pc + 1) ls (.int x :: .ref a :: st) h = _; simp only [xAaload, ha]; rw [if_pos ⟨trivial, hh⟩])
theorem X_iast {a nn : Nat} {x y : Int32} (hd : decode (xB j) pc = .ok (.iastore, 1)) (ha : h.1[a]? = some (0, nn)) : X d scr j (pc, ls, .int y :: .int x :: .ref a :: st, h) = if x < 0 ∨ nn ≤ x.toNatClampNeg then none else X d scr j (pc + 1, ls, st, (h.1, xu h.2.1 a x.toNatClampNeg y, h.2.2)) := by
  split
  · next hh => exact X_none ((xstep_of hd rfl).trans (by show xIastore (pc + 1) ls (.int y :: .int x :: .ref a :: st) h = none; simp only [xIastore, ha]; rw [if_neg (fun z => z.2 hh)]))
  · next hh => exact X_op hd rfl (by show xIastore (pc + 1) ls (.int y :: .int x :: .ref a :: st) h = _; simp only [xIastore, ha]; rw [if_pos ⟨trivial, hh⟩])
theorem X_bast {a nn : Nat} {x y : Int32} (hd : decode (xB j) pc = .ok (.bastore, 1)) (ha : h.1[a]? = some (1, nn)) : X d scr j (pc, ls, .int y :: .int x :: .ref a :: st, h) = if x < 0 ∨ nn ≤ x.toNatClampNeg then none else X d scr j (pc + 1, ls, st, (h.1, xu h.2.1 a x.toNatClampNeg (vp_nar .boolean y), h.2.2)) := by
  split
  · next hh => exact X_none ((xstep_of hd rfl).trans (by show xBastore (pc + 1) ls (.int y :: .int x :: .ref a :: st) h = none; simp only [xBastore, ha]; rw [if_neg (fun z => z.2 hh)]))
  · next hh => exact X_op hd rfl (by show xBastore (pc + 1) ls (.int y :: .int x :: .ref a :: st) h = _; simp only [xBastore, ha]; rw [if_pos ⟨trivial, hh⟩])
theorem X_last {a nn : Nat} {x : Int32} {y : Int64} (hd : decode (xB j) pc = .ok (.lastore, 1)) (ha : h.1[a]? = some (2, nn)) : X d scr j (pc, ls, .long y :: .int x :: .ref a :: st, h) = if x < 0 ∨ nn ≤ x.toNatClampNeg then none else X d scr j (pc + 1, ls, st, (h.1, h.2.1, xu h.2.2.1 a x.toNatClampNeg y, h.2.2.2)) := by
  split
  · next hh => exact X_none ((xstep_of hd rfl).trans (by show xLastore (pc + 1) ls (.long y :: .int x :: .ref a :: st) h = none; simp only [xLastore, ha]; rw [if_neg (fun z => z.2 hh)]))
  · next hh => exact X_op hd rfl (by show xLastore (pc + 1) ls (.long y :: .int x :: .ref a :: st) h = _; simp only [xLastore, ha]; rw [if_pos ⟨trivial, hh⟩])
theorem X_cl {as : List Value} {f1 : xCf} (hd : decode (xB j) pc = .ok (i, n)) (hn : xn i n = true) (hq : xop scr j pc i ls st h = some (.inr (.inl (k, as, f1)))) : X (d + 1) scr j (pc, ls, st, h) = (X d none k (0, xent k as, [], f1.2.2.2)).bind fun q => X (d + 1) scr j (f1.1, f1.2.1, q.1.toList ++ f1.2.2.1, q.2) := X_call ((xstep_of hd hn).trans hq)
end XX
