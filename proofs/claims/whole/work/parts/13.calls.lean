section XY
variable {d j pc k n i ci a tn m : Nat} {scr : xScr} {ls ent : xLs} {st as rest : List Value} {h : xHp}
theorem X_cV (hd : decode (xB j) pc = .ok (.invokevirtual i, 3)) (hm : xlM (xO j) i = some (0, k, n, ci)) (hs : st = as.reverse ++ .ref a :: rest) (hn : as.length = n) (ha : h.1[a]? = some (ci + 4, tn)) (hr : xcat rest ≤ 8) (hl : (xarg (.ref a :: as)).length ≤ xnL k) (he : xent k (.ref a :: as) = ent) : X (d + 1) scr j (pc, ls, st, h) = (X d none k (0, ent, [], h)).bind fun q => X (d + 1) scr j (pc + 3, ls, q.1.toList ++ rest, q.2) := by
  subst he
  have e1 : st.drop n = .ref a :: rest := by rw [hs, List.drop_left' (by simpa using hn)]
  have e2 : (st.take n).reverse = as := by rw [hs, List.take_left' (by simpa using hn), List.reverse_reverse]
  refine X_cl (f1 := (pc + 3, ls, rest, h)) hd rfl ?_
  show xcallV (xlM (xO j) i) (pc + 3) ls st h = _
  rw [hm]
  show xinst k n ci (pc + 3) ls st h = _
  unfold xinst
  simp only [e1, e2, ha]
  rw [if_pos ⟨trivial, hr, hl⟩]
theorem X_cI (hd : decode (xB j) pc = .ok (.invokespecial i, 3)) (hm : xlM (xO j) i = some (2, k, n, ci) ∨ xlM (xO j) i = some (6, k, n, ci)) (hs : st = as.reverse ++ .ref a :: rest) (hn : as.length = n) (ha : h.1[a]? = some (ci + 4, tn)) (hr : xcat rest ≤ 8) (hl : (xarg (.ref a :: as)).length ≤ xnL k) (he : xent k (.ref a :: as) = ent) : X (d + 1) scr j (pc, ls, st, h) = (X d none k (0, ent, [], h)).bind fun q => X (d + 1) scr j (pc + 3, ls, q.1.toList ++ rest, q.2) := by
  subst he
  have e1 : st.drop n = .ref a :: rest := by rw [hs, List.drop_left' (by simpa using hn)]
  have e2 : (st.take n).reverse = as := by rw [hs, List.take_left' (by simpa using hn), List.reverse_reverse]
  refine X_cl (f1 := (pc + 3, ls, rest, h)) hd rfl ?_
  show xcallI (xlM (xO j) i) (pc + 3) ls st h = _
  have e3 : xcallI (xlM (xO j) i) (pc + 3) ls st h = xinst k n ci (pc + 3) ls st h := by rcases hm with hm | hm <;> (rw [hm]; rfl)
  rw [e3]
  unfold xinst
  simp only [e1, e2, ha]
  rw [if_pos ⟨trivial, hr, hl⟩]
theorem X_cS (hd : decode (xB j) pc = .ok (.invokestatic i, 3)) (hm : xlM (xO j) i = some (1, k, n, ci)) (hs : st = as.reverse ++ rest) (hn : as.length = n) (hr : xcat rest ≤ 8) (hl : (xarg as).length ≤ xnL k) (he : xent k as = ent) : X (d + 1) scr j (pc, ls, st, h) = (X d none k (0, ent, [], h)).bind fun q => X (d + 1) scr j (pc + 3, ls, q.1.toList ++ rest, q.2) := by
  subst he
  have e1 : st.drop n = rest := by rw [hs, List.drop_left' (by simpa using hn)]
  have e2 : (st.take n).reverse = as := by rw [hs, List.take_left' (by simpa using hn), List.reverse_reverse]
  have e4 : n ≤ st.length := by rw [hs]; simp; omega
  refine X_cl (f1 := (pc + 3, ls, rest, h)) hd rfl ?_
  show xcallS (xlM (xO j) i) (pc + 3) ls st h = _
  rw [hm]
  show (if n ≤ st.length ∧ xcat (st.drop n) ≤ 8 ∧ (xarg (st.take n).reverse).length ≤ xnL k then (some (.inr (.inl (k, (st.take n).reverse, (pc + 3, ls, st.drop n, h)))) : Option xRs) else none) = _
  rw [e1, e2, if_pos ⟨e4, hr, hl⟩]
theorem X_oi (hd : decode (xB j) pc = .ok (.invokespecial i, 3)) (hm : xlM (xO j) i = some (3, k, n, ci)) (hr : xcat rest ≤ 8) : X d scr j (pc, ls, .ref a :: rest, h) = X d scr j (pc + 3, ls, rest, h) := by
  refine X_op hd rfl ?_
  show xcallI (xlM (xO j) i) (pc + 3) ls (.ref a :: rest) h = _
  rw [hm]
  show (if xcat rest ≤ 8 then xgo (pc + 3) ls rest h else none) = _
  rw [if_pos hr]
theorem X_gI (hd : decode (xB j) pc = .ok (.getfield i, 3)) (hf : xlF (xO j) i = some (ci, k)) (hk : xFK ci k = 0 ∨ xFK ci k = 1) (ha : h.1[a]? = some (ci + 4, tn)) (hn : k < tn) : X d scr j (pc, ls, .ref a :: st, h) = X d scr j (pc + 3, ls, .int (h.2.1 a k) :: st, h) := by
  refine X_op hd rfl ?_
  show xgetf (xlF (xO j) i) (pc + 3) ls (.ref a :: st) h = _
  rw [hf]
  simp only [xgetf, ha]
  rw [if_pos ⟨trivial, hn⟩]
  rcases hk with hk | hk <;> rw [hk] <;> rfl
theorem X_gJ (hd : decode (xB j) pc = .ok (.getfield i, 3)) (hf : xlF (xO j) i = some (ci, k)) (hk : xFK ci k = 2) (ha : h.1[a]? = some (ci + 4, tn)) (hn : k < tn) : X d scr j (pc, ls, .ref a :: st, h) = X d scr j (pc + 3, ls, .long (h.2.2.1 a k) :: st, h) := by
  refine X_op hd rfl ?_
  show xgetf (xlF (xO j) i) (pc + 3) ls (.ref a :: st) h = _
  rw [hf]
  simp only [xgetf, ha]
  rw [if_pos ⟨trivial, hn⟩, hk]
  rfl
theorem X_gR {r : Nat} (hd : decode (xB j) pc = .ok (.getfield i, 3)) (hf : xlF (xO j) i = some (ci, k)) (hk : xFK ci k = 3) (ha : h.1[a]? = some (ci + 4, tn)) (hn : k < tn) (hr : h.2.2.2 a k = some r) : X d scr j (pc, ls, .ref a :: st, h) = X d scr j (pc + 3, ls, .ref r :: st, h) := by
  refine X_op hd rfl ?_
  show xgetf (xlF (xO j) i) (pc + 3) ls (.ref a :: st) h = _
  rw [hf]
  simp only [xgetf, ha]
  rw [if_pos ⟨trivial, hn⟩, hk]
  show xgo (pc + 3) ls (va_rf (h.2.2.2 a k) :: st) h = _
  rw [hr]
  rfl
theorem X_put {v : Value} {h' : xHp} (hd : decode (xB j) pc = .ok (.putfield i, 3)) (hf : xlF (xO j) i = some (ci, k)) (hp : xputv (xFK ci k) k v a h = some h') (ha : h.1[a]? = some (ci + 4, tn)) (hn : k < tn) (hi : xFn ci k = true → xIni j = some ci) : X d scr j (pc, ls, v :: .ref a :: st, h) = X d scr j (pc + 3, ls, st, h') := by
  refine X_op hd rfl ?_
  show xputf j (xlF (xO j) i) (pc + 3) ls (v :: .ref a :: st) h = _
  rw [hf]
  simp only [xputf, ha, hp]
  rw [if_pos ⟨trivial, hn, hi⟩]
theorem X_pI {x : Int32} (hd : decode (xB j) pc = .ok (.putfield i, 3)) (hf : xlF (xO j) i = some (ci, k)) (hk : xFK ci k = 0) (ha : h.1[a]? = some (ci + 4, tn)) (hn : k < tn) (hi : xFn ci k = false) : X d scr j (pc, ls, .int x :: .ref a :: st, h) = X d scr j (pc + 3, ls, st, (h.1, xu h.2.1 a k x, h.2.2)) := X_put hd hf (by rw [hk]; rfl) ha hn (fun z => by rw [hi] at z; cases z)
theorem X_pZ {x : Int32} (hd : decode (xB j) pc = .ok (.putfield i, 3)) (hf : xlF (xO j) i = some (ci, k)) (hk : xFK ci k = 1) (ha : h.1[a]? = some (ci + 4, tn)) (hn : k < tn) (hi : xFn ci k = false) (hx : x = 0 ∨ x = 1) : X d scr j (pc, ls, .int x :: .ref a :: st, h) = X d scr j (pc + 3, ls, st, (h.1, xu h.2.1 a k x, h.2.2)) := X_put hd hf (by rw [hk]; exact if_pos hx) ha hn (fun z => by rw [hi] at z; cases z)
theorem X_pJ {x : Int64} (hd : decode (xB j) pc = .ok (.putfield i, 3)) (hf : xlF (xO j) i = some (ci, k)) (hk : xFK ci k = 2) (ha : h.1[a]? = some (ci + 4, tn)) (hn : k < tn) (hi : xFn ci k = false) : X d scr j (pc, ls, .long x :: .ref a :: st, h) = X d scr j (pc + 3, ls, st, (h.1, h.2.1, xu h.2.2.1 a k x, h.2.2.2)) := X_put hd hf (by rw [hk]; rfl) ha hn (fun z => by rw [hi] at z; cases z)
theorem X_pR {r : Nat} (hd : decode (xB j) pc = .ok (.putfield i, 3)) (hf : xlF (xO j) i = some (ci, k)) (hk : xFK ci k = 3) (ha : h.1[a]? = some (ci + 4, tn)) (hn : k < tn) (hi : xIni j = some ci) : X d scr j (pc, ls, .ref r :: .ref a :: st, h) = X d scr j (pc + 3, ls, st, (h.1, h.2.1, h.2.2.1, xu h.2.2.2 a k (some r))) := X_put hd hf (by rw [hk]; rfl) ha hn (fun _ => hi)
theorem X_kK {v : Int32} (hd : decode (xB j) pc = .ok (.ldc i, 2)) (hk : xlK (xO j) i = some v) : X d scr j (pc, ls, st, h) = X d scr j (pc + 2, ls, .int v :: st, h) := by
  refine X_op hd rfl ?_
  show xcK (xlK (xO j) i) (pc + 2) ls st h = _
  rw [hk]
  rfl
theorem X_kW {v : Int32} (hd : decode (xB j) pc = .ok (.ldc_w i, 3)) (hk : xlK (xO j) i = some v) : X d scr j (pc, ls, st, h) = X d scr j (pc + 3, ls, .int v :: st, h) := by
  refine X_op hd rfl ?_
  show xcK (xlK (xO j) i) (pc + 3) ls st h = _
  rw [hk]
  rfl
theorem X_kJ {v : Int64} (hd : decode (xB j) pc = .ok (.ldc2_w i, 3)) (hk : xlJ (xO j) i = some v) : X d scr j (pc, ls, st, h) = X d scr j (pc + 3, ls, .long v :: st, h) := by
  refine X_op hd rfl ?_
  show xcJ (xlJ (xO j) i) (pc + 3) ls st h = _
  rw [hk]
  rfl
theorem X_ic {v : Int} {x : Int32} (hd : decode (xB j) pc = .ok (.iconst v, 1)) (hx : Int32.ofInt v = x) : X d scr j (pc, ls, st, h) = X d scr j (pc + 1, ls, .int x :: st, h) := by subst hx; exact X_op hd rfl rfl
theorem X_bp {v : Int} {x : Int32} (hd : decode (xB j) pc = .ok (.bipush v, 2)) (hx : (Int8.ofInt v).toInt32 = x) : X d scr j (pc, ls, st, h) = X d scr j (pc + 2, ls, .int x :: st, h) := by subst hx; exact X_op hd rfl rfl
theorem X_sp {v : Int} {x : Int32} (hd : decode (xB j) pc = .ok (.sipush v, 3)) (hx : (Int16.ofInt v).toInt32 = x) : X d scr j (pc, ls, st, h) = X d scr j (pc + 3, ls, .int x :: st, h) := by subst hx; exact X_op hd rfl rfl
theorem X_lc {v : Fin 2} {x : Int64} (hd : decode (xB j) pc = .ok (.lconst v, 1)) (hx : Int64.ofNat (v : Nat) = x) : X d scr j (pc, ls, st, h) = X d scr j (pc + 1, ls, .long x :: st, h) := by subst hx; exact X_op hd rfl rfl
theorem X_inc {x y : Int32} {v : Int} {ls' : xLs} (hd : decode (xB j) pc = .ok (.iinc k v, 3)) (hl : ls[k]? = some (some (.int x))) (ho : xok ls k = true) (hv : Int32.ofInt v = y) (he : ls.set k (some (.int (x + y))) = ls') : X d scr j (pc, ls, st, h) = X d scr j (pc + 3, ls', st, h) := by
  subst hv
  subst he
  refine X_op hd rfl ?_
  show xinc k v (pc + 3) ls st h = _
  simp only [xinc, hl]
  rw [if_pos ho]
theorem X_ln (hd : decode (xB j) pc = .ok (.arraylength, 1)) (ha : h.1[a]? = some (k, n)) (hk : k < 4) : X d scr j (pc, ls, .ref a :: st, h) = X d scr j (pc + 1, ls, .int (Int32.ofNat n) :: st, h) := by
  refine X_op hd rfl ?_
  show xlen scr (pc + 1) ls (.ref a :: st) h = _
  simp only [xlen, ha]
  rw [if_pos hk]
theorem X_cp {t0 t1 : Nat} {x dp sp : Int32} {a0 : Nat} (hd : decode (xB j) pc = .ok (.invokestatic i, 3)) (hm : xlM (xO j) i = some (4, k, n, ci)) (ha : h.1[a]? = some (0, t1)) (ha0 : h.1[a0]? = some (0, t0)) (g3 : ¬ sp < 0) (g4 : ¬ dp < 0) (g5 : ¬ x < 0) (g6 : sp.toNatClampNeg + x.toNatClampNeg ≤ t0) (g7 : dp.toNatClampNeg + x.toNatClampNeg ≤ t1) (hr : xcat rest ≤ 8) : X d scr j (pc, ls, .int x :: .int dp :: .ref a :: .int sp :: .ref a0 :: rest, h) = X d scr j (pc + 3, ls, rest, (h.1, (fun y => if y = a then va_cpy (h.2.1 a0) (h.2.1 a) sp.toNatClampNeg dp.toNatClampNeg x.toNatClampNeg else h.2.1 y), h.2.2)) := by
  refine X_op hd rfl ?_
  show xcallS (xlM (xO j) i) (pc + 3) ls (.int x :: .int dp :: .ref a :: .int sp :: .ref a0 :: rest) h = _
  rw [hm]
  simp only [xcallS, ha, ha0]
  rw [if_pos ⟨trivial, trivial, g3, g4, g5, g6, g7, hr⟩]
theorem X_sw {lo hi dflt : Int} {offs : Array Int} {x : Int32} {len : Nat} {tgt : Nat} (hd : decode (xB j) pc = .ok (.tableswitch dflt lo hi offs, len)) (hn : xn (.tableswitch dflt lo hi offs) len = true) {off : Int} (hx : ¬ (x.toInt < lo ∨ hi < x.toInt)) (ho : offs[(x.toInt - lo).toNat]? = some off) (ht : (pc : Int) + off = (tgt : Int)) : X d scr j (pc, ls, .int x :: st, h) = X d scr j (tgt, ls, st, h) := by
  refine X_op hd hn ?_
  show xtab dflt lo hi offs pc ls (.int x :: st) h = _
  simp only [xtab]
  rw [if_neg hx]
  simp only [ho]
  unfold xj
  rw [if_pos (by omega), ht]
  rfl
theorem X_so {lo hi dflt : Int} {offs : Array Int} {x : Int32} {len : Nat} {tgt : Nat} (hd : decode (xB j) pc = .ok (.tableswitch dflt lo hi offs, len)) (hn : xn (.tableswitch dflt lo hi offs) len = true) (hx : x.toInt < lo ∨ hi < x.toInt) (ht : (pc : Int) + dflt = (tgt : Int)) : X d scr j (pc, ls, .int x :: st, h) = X d scr j (tgt, ls, st, h) := by
  refine X_op hd hn ?_
  show xtab dflt lo hi offs pc ls (.int x :: st) h = _
  simp only [xtab]
  rw [if_pos hx]
  unfold xj
  rw [if_pos (by omega), ht]
  rfl
theorem X_lk {dflt : Int} {ps : Array (Int × Int)} {x : Int32} {len : Nat} {tgt : Nat} {off : Int} (hd : decode (xB j) pc = .ok (.lookupswitch dflt ps, len)) (hn : xn (.lookupswitch dflt ps) len = true) (hp : (ps.toList.zip (ps.toList.drop 1)).all (fun (a, next) => a.1 < next.1) = true) (ho : Op.lookupswitch.offset ps.toList dflt x.toInt = off) (ht : (pc : Int) + off = (tgt : Int)) : X d scr j (pc, ls, .int x :: st, h) = X d scr j (tgt, ls, st, h) := by
  refine X_op hd hn ?_
  show xlook dflt ps pc ls (.int x :: st) h = _
  simp only [xlook]
  rw [if_pos hp, ho]
  unfold xj
  rw [if_pos (by omega), ht]
  rfl
theorem X_nc {tag : Nat} {sh : xSh} {I : Nat → Nat → Int32} {L : Nat → Nat → Int64} {R : Nat → Nat → Option Nat} (hd : decode (xB j) pc = .ok (.new i, 3)) (hc : xlC (xO j) i = some (ci, n)) (hl : sh.length = m) : X d scr j (pc, ls, st, (sh, I, L, R)) = X d scr j (pc + 3, ls, .ref m :: st, (sh ++ [(ci + 4, n)], xz I m 0, xz L m 0, xz R m none)) := by
  subst hl
  refine X_op hd rfl ?_
  show xnewc (xlC (xO j) i) (pc + 3) ls st (sh, I, L, R) = _
  rw [hc]
  rfl
end XY
