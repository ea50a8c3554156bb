def rL (l : List (Nat × Nat × Nat)) : Nat → Nat → Option Nat := fun a k => (l.find? (fun r => r.1 == a && r.2.1 == k)).map (fun r => r.2.2)
def rAll : List (Nat × Nat × Nat) := [(38, 24, 50), (38, 15, 49), (38, 14, 48), (38, 13, 47), (38, 12, 46), (38, 10, 45), (38, 9, 44), (38, 8, 43), (38, 6, 42), (38, 5, 41), (38, 4, 40), (38, 0, 39), (0, 1, 3), (12, 6, 35), (35, 1, 37), (35, 0, 36), (12, 5, 32), (32, 1, 34), (32, 0, 33), (12, 4, 29), (29, 1, 31), (29, 0, 30), (12, 3, 26), (26, 1, 28), (26, 0, 27), (12, 2, 23), (23, 1, 25), (23, 0, 24), (12, 1, 20), (20, 1, 22), (20, 0, 21), (12, 0, 17), (17, 1, 19), (17, 0, 18), (3, 6, 16), (3, 5, 15), (3, 4, 14), (3, 3, 13), (3, 2, 12), (3, 1, 6), (6, 4, 11), (6, 3, 10), (6, 2, 9), (6, 1, 8), (6, 0, 7), (3, 0, 4), (4, 0, 5), (0, 0, 1), (1, 0, 2)]
def I00 : Nat → Nat → Int32 := fun _ _ => 0
def I01 : Nat → Nat → Int32 := xu I00 3 11 (-1)
def I02 : Nat → Nat → Int32 := xu I01 38 27 (-1)
def L00 : Nat → Nat → Int64 := fun _ _ => 0
def hK (m : Nat) (I : Nat → Nat → Int32) (n : Nat) : xHp := (xSH.take m, I, L00, rL (rAll.drop (49 - n)))
section KK
variable {d j pc k m n a r ci nn tn tag w : Nat} {scr : xScr} {ls : xLs} {st : List Value} {I : Nat → Nat → Int32} {i : Instr} {x : Int32}
theorem rL_none {l : List (Nat × Nat × Nat)} (hh : l.all (fun r => r.1 != m) = true) : rL l m = fun _ => none := by
  funext k
  unfold rL
  have : l.find? (fun r => r.1 == m && r.2.1 == k) = none := by
    rw [List.find?_eq_none]
    intro q hq
    have := List.all_eq_true.mp hh q hq
    have h1 : (q.1 == m) = false := by simpa using this
    simp [h1]
  rw [this]
  rfl
theorem rL_cons {l : List (Nat × Nat × Nat)} : xu (rL l) a k (some r) = rL ((a, k, r) :: l) := by
  funext x y
  unfold rL
  rw [List.find?_cons]
  by_cases h1 : x = a
  · subst h1
    rw [xu_eq]
    by_cases h2 : y = k
    · subst h2
      simp
    · have e : (k == y) = false := by
        rw [beq_eq_false_iff_ne]
        exact fun z => h2 z.symm
      rw [if_neg h2]
      simp [e]
  · have e : (a == x) = false := by
      rw [beq_eq_false_iff_ne]
      exact fun z => h1 z.symm
    rw [xu_ne h1]
    simp [e]
theorem xz_id {α : Type} {f : Nat → Nat → α} {v : α} (hh : f m = fun _ => v) : xz f m v = f := by
  funext x
  unfold xz
  split
  · next z => rw [z, hh]
  · rfl
theorem hK_new {t : Nat × Nat} (hs : xSH.take m ++ [t] = xSH.take (m + 1)) (hm : (xSH.take m).length = m) (hI : ∀ q, I m q = 0) (hR : (rAll.drop (49 - n)).all (fun r => r.1 != m) = true) : xnew t.1 t.2 (hK m I n) = hK (m + 1) I n := by
  unfold xnew hK
  show (xSH.take m ++ [t], xz I (xSH.take m).length 0, xz L00 (xSH.take m).length 0, xz (rL _) (xSH.take m).length none) = _
  rw [hs, hm, xz_id (funext hI), xz_id (f := L00) (v := (0 : Int64)) (m := m) rfl, xz_id (rL_none hR)]
theorem K_new (hd : decode (xB j) pc = .ok (.new k, 3)) (hc : xlC (xO j) k = some (ci, nn)) (hs : xSH.take m ++ [(ci + 4, nn)] = xSH.take (m + 1)) (hm : (xSH.take m).length = m) (hI : ∀ q, I m q = 0) (hR : (rAll.drop (49 - n)).all (fun r => r.1 != m) = true) : X d scr j (pc, ls, st, hK m I n) = X d scr j (pc + 3, ls, .ref m :: st, hK (m + 1) I n) := by
  refine X_op hd rfl ?_
  show xnewc (xlC (xO j) k) (pc + 3) ls st (hK m I n) = _
  rw [hc]
  show xgo (pc + 3) ls (.ref (xSH.take m).length :: st) (xnew (ci + 4) nn (hK m I n)) = _
  rw [hm, hK_new (t := (ci + 4, nn)) hs hm hI hR]
theorem K_arr (hd : decode (xB j) pc = .ok (i, w)) (hn : xn i w = true) (ho : ∀ ls st h, xop scr j pc i ls st h = xnewa tag (pc + w) ls st h) (hx : ¬ (x < 0 ∨ 100000 < x.toNatClampNeg)) (hc : x.toNatClampNeg = nn) (hs : xSH.take m ++ [(tag, nn)] = xSH.take (m + 1)) (hm : (xSH.take m).length = m) (hI : ∀ q, I m q = 0) (hR : (rAll.drop (49 - n)).all (fun r => r.1 != m) = true) : X d scr j (pc, ls, .int x :: st, hK m I n) = X d scr j (pc + w, ls, .ref m :: st, hK (m + 1) I n) := by
  refine X_op hd hn ?_
  rw [ho]
  show (if x < 0 ∨ 100000 < x.toNatClampNeg then none else xgo (pc + w) ls (.ref (xSH.take m).length :: st) (xnew tag x.toNatClampNeg (hK m I n))) = _
  rw [if_neg hx, hc, hm, hK_new (t := (tag, nn)) hs hm hI hR]
theorem K_pR {q : Nat} (hd : decode (xB j) pc = .ok (.putfield q, 3)) (hf : xlF (xO j) q = some (ci, k)) (hk : xFK ci k = 3) (ha : (xSH.take m)[a]? = some (ci + 4, tn)) (hn : k < tn) (hi : xIni j = some ci) (hl : (a, k, r) :: rAll.drop (49 - n) = rAll.drop (49 - (n + 1))) : X d scr j (pc, ls, .ref r :: .ref a :: st, hK m I n) = X d scr j (pc + 3, ls, st, hK m I (n + 1)) := by
  refine X_put (h' := hK m I (n + 1)) hd hf ?_ ha hn (fun _ => hi)
  rw [hk]
  show some (xSH.take m, I, L00, xu (rL (rAll.drop (49 - n))) a k (some r)) = _
  rw [rL_cons, hl]
  rfl
theorem K_pI {q : Nat} (hd : decode (xB j) pc = .ok (.putfield q, 3)) (hf : xlF (xO j) q = some (ci, k)) (hk : xFK ci k = 0) (ha : (xSH.take m)[a]? = some (ci + 4, tn)) (hn : k < tn) (hi : xFn ci k = false) : X d scr j (pc, ls, .int x :: .ref a :: st, hK m I n) = X d scr j (pc + 3, ls, st, hK m (xu I a k x) n) := X_pI hd hf hk ha hn hi
theorem K_ast {t' : Nat × Nat} (hd : decode (xB j) pc = .ok (.aastore, 1)) (ha : (xSH.take m)[a]? = some (3, nn)) (hr : (xSH.take m)[r]? = some t') (ht : t'.1 = xST + 4) (hx : ¬ (x < 0 ∨ nn ≤ x.toNatClampNeg)) (hl : (a, x.toNatClampNeg, r) :: rAll.drop (49 - n) = rAll.drop (49 - (n + 1))) : X d scr j (pc, ls, .ref r :: .int x :: .ref a :: st, hK m I n) = X d scr j (pc + 1, ls, st, hK m I (n + 1)) := by
  refine X_op hd rfl ?_
  show xAastore (pc + 1) ls (.ref r :: .int x :: .ref a :: st) (xSH.take m, I, L00, rL (rAll.drop (49 - n))) = _
  simp only [xAastore, ha, hr]
  rw [if_pos ⟨trivial, hx, ht⟩, rL_cons, hl]
  rfl
theorem K_obj {q y z u : Nat} {h : xHp} (hd : decode (xB j) pc = .ok (.invokespecial q, 3)) (hm : xlM (xO j) q = some (3, y, z, u)) (hr : xcat st ≤ 8) : X d scr j (pc, ls, .ref a :: st, h) = X d scr j (pc + 3, ls, st, h) := by
  refine X_op hd rfl ?_
  show xcallI (xlM (xO j) q) (pc + 3) ls (.ref a :: st) h = _
  rw [hm]
  exact if_pos hr
theorem K_call {q kk kd : Nat} {ent : xLs} {h h' : xHp} (hd : decode (xB j) pc = .ok (.invokespecial q, 3)) (hm : xlM (xO j) q = some (kd, kk, 0, ci)) (hkd : kd = 2 ∨ kd = 6) (ha : h.1[a]? = some (ci + 4, tn)) (hr : xcat st ≤ 8) (hl : (xarg [.ref a]).length ≤ xnL kk) (he : xent kk [.ref a] = ent) (hrun : X d none kk (0, ent, [], h) = some (none, h')) : X (d + 1) scr j (pc, ls, .ref a :: st, h) = X (d + 1) scr j (pc + 3, ls, st, h') := by
  have e1 : xop scr j pc (.invokespecial q) ls (.ref a :: st) h = some (.inr (.inl (kk, [.ref a], (pc + 3, ls, st, h)))) := by
    show xcallI (xlM (xO j) q) (pc + 3) ls (.ref a :: st) h = _
    rw [hm]
    rcases hkd with rfl | rfl
    all_goals
      show xinst kk 0 ci (pc + 3) ls (.ref a :: st) h = _
      simp only [xinst, List.drop_zero, List.take_zero, List.reverse_nil, ha]
      rw [if_pos ⟨trivial, hr, hl⟩]
  rw [X_call ((xstep_of hd rfl).trans e1), he, hrun]
  rfl
end KK
section KQ
variable {d : Nat} {scr : xScr}
theorem q_1 : X (d + 3) scr 0 (0, [some (.ref xS), none, none, none], [], hK 0 I00 0) = X (d + 3) scr 0 (3, [some (.ref xS), none, none, none], [.ref 0], hK 1 I00 0) := K_new d_0_0 (by decide +kernel) rfl rfl (fun _ => rfl) rfl
theorem q_2 : X (d + 3) scr 0 (3, [some (.ref xS), none, none, none], [.ref 0], hK 1 I00 0) = X (d + 3) scr 0 (4, [some (.ref xS), none, none, none], [.ref 0, .ref 0], hK 1 I00 0) := X_op d_0_3 rfl rfl
theorem q_3 : X (d + 2) none 1 (0, [some (.ref 0)], [], hK 1 I00 0) = X (d + 2) none 1 (1, [some (.ref 0)], [.ref 0], hK 1 I00 0) := X_op d_1_0 rfl rfl
theorem q_4 : X (d + 2) none 1 (1, [some (.ref 0)], [.ref 0], hK 1 I00 0) = X (d + 2) none 1 (4, [some (.ref 0)], [], hK 1 I00 0) := K_obj (y := 0) (z := 0) (u := 0) d_1_1 (by decide +kernel) (by decide)
theorem q_5 : X (d + 2) none 1 (4, [some (.ref 0)], [], hK 1 I00 0) = X (d + 2) none 1 (5, [some (.ref 0)], [.ref 0], hK 1 I00 0) := X_op d_1_4 rfl rfl
theorem q_6 : X (d + 2) none 1 (5, [some (.ref 0)], [.ref 0], hK 1 I00 0) = X (d + 2) none 1 (8, [some (.ref 0)], [.ref 1, .ref 0], hK 2 I00 0) := K_new d_1_5 (by decide +kernel) rfl rfl (fun _ => rfl) rfl
theorem q_7 : X (d + 2) none 1 (8, [some (.ref 0)], [.ref 1, .ref 0], hK 2 I00 0) = X (d + 2) none 1 (9, [some (.ref 0)], [.ref 1, .ref 1, .ref 0], hK 2 I00 0) := X_op d_1_8 rfl rfl
theorem q_8 : X (d + 1) none 2 (0, [some (.ref 1)], [], hK 2 I00 0) = X (d + 1) none 2 (1, [some (.ref 1)], [.ref 1], hK 2 I00 0) := X_op d_2_0 rfl rfl
theorem q_9 : X (d + 1) none 2 (1, [some (.ref 1)], [.ref 1], hK 2 I00 0) = X (d + 1) none 2 (4, [some (.ref 1)], [], hK 2 I00 0) := K_obj (y := 0) (z := 0) (u := 0) d_2_1 (by decide +kernel) (by decide)
theorem q_10 : X (d + 1) none 2 (4, [some (.ref 1)], [], hK 2 I00 0) = X (d + 1) none 2 (5, [some (.ref 1)], [.ref 1], hK 2 I00 0) := X_op d_2_4 rfl rfl
theorem q_11 : X (d + 1) none 2 (5, [some (.ref 1)], [.ref 1], hK 2 I00 0) = X (d + 1) none 2 (8, [some (.ref 1)], [.int 400, .ref 1], hK 2 I00 0) := X_sp d_2_5 (by decide)
theorem q_12 : X (d + 1) none 2 (8, [some (.ref 1)], [.int 400, .ref 1], hK 2 I00 0) = X (d + 1) none 2 (10, [some (.ref 1)], [.ref 2, .ref 1], hK 3 I00 0) := K_arr (tag := 0) d_2_8 rfl (fun _ _ _ => rfl) (by decide) (by decide) rfl rfl (fun _ => rfl) rfl
theorem q_13 : X (d + 1) none 2 (10, [some (.ref 1)], [.ref 2, .ref 1], hK 3 I00 0) = X (d + 1) none 2 (13, [some (.ref 1)], [], hK 3 I00 1) := K_pR d_2_10 (by decide +kernel) rfl rfl (by decide) (by decide +kernel) rfl
theorem q_14 : X (d + 1) none 2 (13, [some (.ref 1)], [], hK 3 I00 1) = some (none, hK 3 I00 1) := X_rt d_2_13 rfl rfl
theorem q_15 : X (d + 1) none 2 (0, [some (.ref 1)], [], hK 2 I00 0) = some (none, hK 3 I00 1) := q_8.trans (q_9.trans (q_10.trans (q_11.trans (q_12.trans (q_13.trans (q_14))))))
theorem q_16 : X (d + 2) none 1 (9, [some (.ref 0)], [.ref 1, .ref 1, .ref 0], hK 2 I00 0) = X (d + 2) none 1 (12, [some (.ref 0)], [.ref 1, .ref 0], hK 3 I00 1) := K_call (kd := 6) d_1_9 (by decide +kernel) (by decide) rfl (by decide) (by decide) rfl q_15
theorem q_17 : X (d + 2) none 1 (12, [some (.ref 0)], [.ref 1, .ref 0], hK 3 I00 1) = X (d + 2) none 1 (15, [some (.ref 0)], [], hK 3 I00 2) := K_pR d_1_12 (by decide +kernel) rfl rfl (by decide) (by decide +kernel) rfl
theorem q_18 : X (d + 2) none 1 (15, [some (.ref 0)], [], hK 3 I00 2) = X (d + 2) none 1 (16, [some (.ref 0)], [.ref 0], hK 3 I00 2) := X_op d_1_15 rfl rfl
theorem q_19 : X (d + 2) none 1 (16, [some (.ref 0)], [.ref 0], hK 3 I00 2) = X (d + 2) none 1 (19, [some (.ref 0)], [.ref 3, .ref 0], hK 4 I00 2) := K_new d_1_16 (by decide +kernel) rfl rfl (fun _ => rfl) rfl
theorem q_20 : X (d + 2) none 1 (19, [some (.ref 0)], [.ref 3, .ref 0], hK 4 I00 2) = X (d + 2) none 1 (20, [some (.ref 0)], [.ref 3, .ref 3, .ref 0], hK 4 I00 2) := X_op d_1_19 rfl rfl
theorem q_21 : X (d + 1) none 3 (0, [some (.ref 3), none], [], hK 4 I00 2) = X (d + 1) none 3 (1, [some (.ref 3), none], [.ref 3], hK 4 I00 2) := X_op d_3_0 rfl rfl
theorem q_22 : X (d + 1) none 3 (1, [some (.ref 3), none], [.ref 3], hK 4 I00 2) = X (d + 1) none 3 (4, [some (.ref 3), none], [], hK 4 I00 2) := K_obj (y := 0) (z := 0) (u := 0) d_3_1 (by decide +kernel) (by decide)
theorem q_23 : X (d + 1) none 3 (4, [some (.ref 3), none], [], hK 4 I00 2) = X (d + 1) none 3 (5, [some (.ref 3), none], [.ref 3], hK 4 I00 2) := X_op d_3_4 rfl rfl
theorem q_24 : X (d + 1) none 3 (5, [some (.ref 3), none], [.ref 3], hK 4 I00 2) = X (d + 1) none 3 (8, [some (.ref 3), none], [.ref 4, .ref 3], hK 5 I00 2) := K_new d_3_5 (by decide +kernel) rfl rfl (fun _ => rfl) rfl
theorem q_25 : X (d + 1) none 3 (8, [some (.ref 3), none], [.ref 4, .ref 3], hK 5 I00 2) = X (d + 1) none 3 (9, [some (.ref 3), none], [.ref 4, .ref 4, .ref 3], hK 5 I00 2) := X_op d_3_8 rfl rfl
theorem q_26 : X d none 4 (0, [some (.ref 4)], [], hK 5 I00 2) = X d none 4 (1, [some (.ref 4)], [.ref 4], hK 5 I00 2) := X_op d_4_0 rfl rfl
theorem q_27 : X d none 4 (1, [some (.ref 4)], [.ref 4], hK 5 I00 2) = X d none 4 (4, [some (.ref 4)], [], hK 5 I00 2) := K_obj (y := 0) (z := 0) (u := 0) d_4_1 (by decide +kernel) (by decide)
theorem q_28 : X d none 4 (4, [some (.ref 4)], [], hK 5 I00 2) = X d none 4 (5, [some (.ref 4)], [.ref 4], hK 5 I00 2) := X_op d_4_4 rfl rfl
theorem q_29 : X d none 4 (5, [some (.ref 4)], [.ref 4], hK 5 I00 2) = X d none 4 (8, [some (.ref 4)], [.int 400, .ref 4], hK 5 I00 2) := X_sp d_4_5 (by decide)
theorem q_30 : X d none 4 (8, [some (.ref 4)], [.int 400, .ref 4], hK 5 I00 2) = X d none 4 (10, [some (.ref 4)], [.ref 5, .ref 4], hK 6 I00 2) := K_arr (tag := 0) d_4_8 rfl (fun _ _ _ => rfl) (by decide) (by decide) rfl rfl (fun _ => rfl) rfl
theorem q_31 : X d none 4 (10, [some (.ref 4)], [.ref 5, .ref 4], hK 6 I00 2) = X d none 4 (13, [some (.ref 4)], [], hK 6 I00 3) := K_pR d_4_10 (by decide +kernel) rfl rfl (by decide) (by decide +kernel) rfl
theorem q_32 : X d none 4 (13, [some (.ref 4)], [], hK 6 I00 3) = some (none, hK 6 I00 3) := X_rt d_4_13 rfl rfl
theorem q_33 : X d none 4 (0, [some (.ref 4)], [], hK 5 I00 2) = some (none, hK 6 I00 3) := q_26.trans (q_27.trans (q_28.trans (q_29.trans (q_30.trans (q_31.trans (q_32))))))
theorem q_34 : X (d + 1) none 3 (9, [some (.ref 3), none], [.ref 4, .ref 4, .ref 3], hK 5 I00 2) = X (d + 1) none 3 (12, [some (.ref 3), none], [.ref 4, .ref 3], hK 6 I00 3) := K_call (kd := 6) d_3_9 (by decide +kernel) (by decide) rfl (by decide) (by decide) rfl q_33
theorem q_35 : X (d + 1) none 3 (12, [some (.ref 3), none], [.ref 4, .ref 3], hK 6 I00 3) = X (d + 1) none 3 (15, [some (.ref 3), none], [], hK 6 I00 4) := K_pR d_3_12 (by decide +kernel) rfl rfl (by decide) (by decide +kernel) rfl
theorem q_36 : X (d + 1) none 3 (15, [some (.ref 3), none], [], hK 6 I00 4) = X (d + 1) none 3 (16, [some (.ref 3), none], [.ref 3], hK 6 I00 4) := X_op d_3_15 rfl rfl
theorem q_37 : X (d + 1) none 3 (16, [some (.ref 3), none], [.ref 3], hK 6 I00 4) = X (d + 1) none 3 (19, [some (.ref 3), none], [.ref 6, .ref 3], hK 7 I00 4) := K_new d_3_16 (by decide +kernel) rfl rfl (fun _ => rfl) rfl
theorem q_38 : X (d + 1) none 3 (19, [some (.ref 3), none], [.ref 6, .ref 3], hK 7 I00 4) = X (d + 1) none 3 (20, [some (.ref 3), none], [.ref 6, .ref 6, .ref 3], hK 7 I00 4) := X_op d_3_19 rfl rfl
theorem q_39 : X d none 5 (0, [some (.ref 6)], [], hK 7 I00 4) = X d none 5 (1, [some (.ref 6)], [.ref 6], hK 7 I00 4) := X_op d_5_0 rfl rfl
theorem q_40 : X d none 5 (1, [some (.ref 6)], [.ref 6], hK 7 I00 4) = X d none 5 (4, [some (.ref 6)], [], hK 7 I00 4) := K_obj (y := 0) (z := 0) (u := 0) d_5_1 (by decide +kernel) (by decide)
theorem q_41 : X d none 5 (4, [some (.ref 6)], [], hK 7 I00 4) = X d none 5 (5, [some (.ref 6)], [.ref 6], hK 7 I00 4) := X_op d_5_4 rfl rfl
theorem q_42 : X d none 5 (5, [some (.ref 6)], [.ref 6], hK 7 I00 4) = X d none 5 (7, [some (.ref 6)], [.int 120, .ref 6], hK 7 I00 4) := X_bp d_5_5 (by decide)
theorem q_43 : X d none 5 (7, [some (.ref 6)], [.int 120, .ref 6], hK 7 I00 4) = X d none 5 (9, [some (.ref 6)], [.ref 7, .ref 6], hK 8 I00 4) := K_arr (tag := 0) d_5_7 rfl (fun _ _ _ => rfl) (by decide) (by decide) rfl rfl (fun _ => rfl) rfl
theorem q_44 : X d none 5 (9, [some (.ref 6)], [.ref 7, .ref 6], hK 8 I00 4) = X d none 5 (12, [some (.ref 6)], [], hK 8 I00 5) := K_pR d_5_9 (by decide +kernel) rfl rfl (by decide) (by decide +kernel) rfl
theorem q_45 : X d none 5 (12, [some (.ref 6)], [], hK 8 I00 5) = X d none 5 (13, [some (.ref 6)], [.ref 6], hK 8 I00 5) := X_op d_5_12 rfl rfl
theorem q_46 : X d none 5 (13, [some (.ref 6)], [.ref 6], hK 8 I00 5) = X d none 5 (15, [some (.ref 6)], [.int 120, .ref 6], hK 8 I00 5) := X_bp d_5_13 (by decide)
theorem q_47 : X d none 5 (15, [some (.ref 6)], [.int 120, .ref 6], hK 8 I00 5) = X d none 5 (17, [some (.ref 6)], [.ref 8, .ref 6], hK 9 I00 5) := K_arr (tag := 0) d_5_15 rfl (fun _ _ _ => rfl) (by decide) (by decide) rfl rfl (fun _ => rfl) rfl
theorem q_48 : X d none 5 (17, [some (.ref 6)], [.ref 8, .ref 6], hK 9 I00 5) = X d none 5 (20, [some (.ref 6)], [], hK 9 I00 6) := K_pR d_5_17 (by decide +kernel) rfl rfl (by decide) (by decide +kernel) rfl
theorem q_49 : X d none 5 (20, [some (.ref 6)], [], hK 9 I00 6) = X d none 5 (21, [some (.ref 6)], [.ref 6], hK 9 I00 6) := X_op d_5_20 rfl rfl
theorem q_50 : X d none 5 (21, [some (.ref 6)], [.ref 6], hK 9 I00 6) = X d none 5 (23, [some (.ref 6)], [.int 120, .ref 6], hK 9 I00 6) := X_bp d_5_21 (by decide)
theorem q_51 : X d none 5 (23, [some (.ref 6)], [.int 120, .ref 6], hK 9 I00 6) = X d none 5 (25, [some (.ref 6)], [.ref 9, .ref 6], hK 10 I00 6) := K_arr (tag := 0) d_5_23 rfl (fun _ _ _ => rfl) (by decide) (by decide) rfl rfl (fun _ => rfl) rfl
theorem q_52 : X d none 5 (25, [some (.ref 6)], [.ref 9, .ref 6], hK 10 I00 6) = X d none 5 (28, [some (.ref 6)], [], hK 10 I00 7) := K_pR d_5_25 (by decide +kernel) rfl rfl (by decide) (by decide +kernel) rfl
theorem q_53 : X d none 5 (28, [some (.ref 6)], [], hK 10 I00 7) = X d none 5 (29, [some (.ref 6)], [.ref 6], hK 10 I00 7) := X_op d_5_28 rfl rfl
theorem q_54 : X d none 5 (29, [some (.ref 6)], [.ref 6], hK 10 I00 7) = X d none 5 (31, [some (.ref 6)], [.int 120, .ref 6], hK 10 I00 7) := X_bp d_5_29 (by decide)
theorem q_55 : X d none 5 (31, [some (.ref 6)], [.int 120, .ref 6], hK 10 I00 7) = X d none 5 (33, [some (.ref 6)], [.ref 10, .ref 6], hK 11 I00 7) := K_arr (tag := 0) d_5_31 rfl (fun _ _ _ => rfl) (by decide) (by decide) rfl rfl (fun _ => rfl) rfl
theorem q_56 : X d none 5 (33, [some (.ref 6)], [.ref 10, .ref 6], hK 11 I00 7) = X d none 5 (36, [some (.ref 6)], [], hK 11 I00 8) := K_pR d_5_33 (by decide +kernel) rfl rfl (by decide) (by decide +kernel) rfl
theorem q_57 : X d none 5 (36, [some (.ref 6)], [], hK 11 I00 8) = X d none 5 (37, [some (.ref 6)], [.ref 6], hK 11 I00 8) := X_op d_5_36 rfl rfl
theorem q_58 : X d none 5 (37, [some (.ref 6)], [.ref 6], hK 11 I00 8) = X d none 5 (39, [some (.ref 6)], [.int 20, .ref 6], hK 11 I00 8) := X_bp d_5_37 (by decide)
theorem q_59 : X d none 5 (39, [some (.ref 6)], [.int 20, .ref 6], hK 11 I00 8) = X d none 5 (41, [some (.ref 6)], [.ref 11, .ref 6], hK 12 I00 8) := K_arr (tag := 0) d_5_39 rfl (fun _ _ _ => rfl) (by decide) (by decide) rfl rfl (fun _ => rfl) rfl
theorem q_60 : X d none 5 (41, [some (.ref 6)], [.ref 11, .ref 6], hK 12 I00 8) = X d none 5 (44, [some (.ref 6)], [], hK 12 I00 9) := K_pR d_5_41 (by decide +kernel) rfl rfl (by decide) (by decide +kernel) rfl
theorem q_61 : X d none 5 (44, [some (.ref 6)], [], hK 12 I00 9) = some (none, hK 12 I00 9) := X_rt d_5_44 rfl rfl
theorem q_62 : X d none 5 (0, [some (.ref 6)], [], hK 7 I00 4) = some (none, hK 12 I00 9) := q_39.trans (q_40.trans (q_41.trans (q_42.trans (q_43.trans (q_44.trans (q_45.trans (q_46.trans (q_47.trans (q_48.trans (q_49.trans (q_50.trans (q_51.trans (q_52.trans (q_53.trans (q_54.trans (q_55.trans (q_56.trans (q_57.trans (q_58.trans (q_59.trans (q_60.trans (q_61))))))))))))))))))))))
theorem q_63 : X (d + 1) none 3 (20, [some (.ref 3), none], [.ref 6, .ref 6, .ref 3], hK 7 I00 4) = X (d + 1) none 3 (23, [some (.ref 3), none], [.ref 6, .ref 3], hK 12 I00 9) := K_call (kd := 6) d_3_20 (by decide +kernel) (by decide) rfl (by decide) (by decide) rfl q_62
theorem q_64 : X (d + 1) none 3 (23, [some (.ref 3), none], [.ref 6, .ref 3], hK 12 I00 9) = X (d + 1) none 3 (26, [some (.ref 3), none], [], hK 12 I00 10) := K_pR d_3_23 (by decide +kernel) rfl rfl (by decide) (by decide +kernel) rfl
theorem q_65 : X (d + 1) none 3 (26, [some (.ref 3), none], [], hK 12 I00 10) = X (d + 1) none 3 (27, [some (.ref 3), none], [.ref 3], hK 12 I00 10) := X_op d_3_26 rfl rfl
theorem q_66 : X (d + 1) none 3 (27, [some (.ref 3), none], [.ref 3], hK 12 I00 10) = X (d + 1) none 3 (29, [some (.ref 3), none], [.int 7, .ref 3], hK 12 I00 10) := X_bp d_3_27 (by decide)
theorem q_67 : X (d + 1) none 3 (29, [some (.ref 3), none], [.int 7, .ref 3], hK 12 I00 10) = X (d + 1) none 3 (32, [some (.ref 3), none], [.ref 12, .ref 3], hK 13 I00 10) := K_arr (tag := 3) d_3_29 rfl (fun ls st h => (if_pos (show xlA (xO 3) 25 = true by decide +kernel) : (if xlA (xO 3) 25 = true then xnewa 3 (29 + 3) ls st h else none) = xnewa 3 (29 + 3) ls st h)) (by decide) (by decide) rfl rfl (fun _ => rfl) rfl
theorem q_68 : X (d + 1) none 3 (32, [some (.ref 3), none], [.ref 12, .ref 3], hK 13 I00 10) = X (d + 1) none 3 (35, [some (.ref 3), none], [], hK 13 I00 11) := K_pR d_3_32 (by decide +kernel) rfl rfl (by decide) (by decide +kernel) rfl
theorem q_69 : X (d + 1) none 3 (35, [some (.ref 3), none], [], hK 13 I00 11) = X (d + 1) none 3 (36, [some (.ref 3), none], [.ref 3], hK 13 I00 11) := X_op d_3_35 rfl rfl
theorem q_70 : X (d + 1) none 3 (36, [some (.ref 3), none], [.ref 3], hK 13 I00 11) = X (d + 1) none 3 (38, [some (.ref 3), none], [.int 6, .ref 3], hK 13 I00 11) := X_bp d_3_36 (by decide)
theorem q_71 : X (d + 1) none 3 (38, [some (.ref 3), none], [.int 6, .ref 3], hK 13 I00 11) = X (d + 1) none 3 (40, [some (.ref 3), none], [.ref 13, .ref 3], hK 14 I00 11) := K_arr (tag := 0) d_3_38 rfl (fun _ _ _ => rfl) (by decide) (by decide) rfl rfl (fun _ => rfl) rfl
theorem q_72 : X (d + 1) none 3 (40, [some (.ref 3), none], [.ref 13, .ref 3], hK 14 I00 11) = X (d + 1) none 3 (43, [some (.ref 3), none], [], hK 14 I00 12) := K_pR d_3_40 (by decide +kernel) rfl rfl (by decide) (by decide +kernel) rfl
theorem q_73 : X (d + 1) none 3 (43, [some (.ref 3), none], [], hK 14 I00 12) = X (d + 1) none 3 (44, [some (.ref 3), none], [.ref 3], hK 14 I00 12) := X_op d_3_43 rfl rfl
theorem q_74 : X (d + 1) none 3 (44, [some (.ref 3), none], [.ref 3], hK 14 I00 12) = X (d + 1) none 3 (45, [some (.ref 3), none], [.int 4, .ref 3], hK 14 I00 12) := X_ic d_3_44 (by decide)
theorem q_75 : X (d + 1) none 3 (45, [some (.ref 3), none], [.int 4, .ref 3], hK 14 I00 12) = X (d + 1) none 3 (47, [some (.ref 3), none], [.ref 14, .ref 3], hK 15 I00 12) := K_arr (tag := 0) d_3_45 rfl (fun _ _ _ => rfl) (by decide) (by decide) rfl rfl (fun _ => rfl) rfl
theorem q_76 : X (d + 1) none 3 (47, [some (.ref 3), none], [.ref 14, .ref 3], hK 15 I00 12) = X (d + 1) none 3 (50, [some (.ref 3), none], [], hK 15 I00 13) := K_pR d_3_47 (by decide +kernel) rfl rfl (by decide) (by decide +kernel) rfl
theorem q_77 : X (d + 1) none 3 (50, [some (.ref 3), none], [], hK 15 I00 13) = X (d + 1) none 3 (51, [some (.ref 3), none], [.ref 3], hK 15 I00 13) := X_op d_3_50 rfl rfl
theorem q_78 : X (d + 1) none 3 (51, [some (.ref 3), none], [.ref 3], hK 15 I00 13) = X (d + 1) none 3 (52, [some (.ref 3), none], [.int 4, .ref 3], hK 15 I00 13) := X_ic d_3_51 (by decide)
theorem q_79 : X (d + 1) none 3 (52, [some (.ref 3), none], [.int 4, .ref 3], hK 15 I00 13) = X (d + 1) none 3 (54, [some (.ref 3), none], [.ref 15, .ref 3], hK 16 I00 13) := K_arr (tag := 0) d_3_52 rfl (fun _ _ _ => rfl) (by decide) (by decide) rfl rfl (fun _ => rfl) rfl
theorem q_80 : X (d + 1) none 3 (54, [some (.ref 3), none], [.ref 15, .ref 3], hK 16 I00 13) = X (d + 1) none 3 (57, [some (.ref 3), none], [], hK 16 I00 14) := K_pR d_3_54 (by decide +kernel) rfl rfl (by decide) (by decide +kernel) rfl
theorem q_81 : X (d + 1) none 3 (57, [some (.ref 3), none], [], hK 16 I00 14) = X (d + 1) none 3 (58, [some (.ref 3), none], [.ref 3], hK 16 I00 14) := X_op d_3_57 rfl rfl
theorem q_82 : X (d + 1) none 3 (58, [some (.ref 3), none], [.ref 3], hK 16 I00 14) = X (d + 1) none 3 (60, [some (.ref 3), none], [.int 6, .ref 3], hK 16 I00 14) := X_bp d_3_58 (by decide)
theorem q_83 : X (d + 1) none 3 (60, [some (.ref 3), none], [.int 6, .ref 3], hK 16 I00 14) = X (d + 1) none 3 (62, [some (.ref 3), none], [.ref 16, .ref 3], hK 17 I00 14) := K_arr (tag := 0) d_3_60 rfl (fun _ _ _ => rfl) (by decide) (by decide) rfl rfl (fun _ => rfl) rfl
theorem q_84 : X (d + 1) none 3 (62, [some (.ref 3), none], [.ref 16, .ref 3], hK 17 I00 14) = X (d + 1) none 3 (65, [some (.ref 3), none], [], hK 17 I00 15) := K_pR d_3_62 (by decide +kernel) rfl rfl (by decide) (by decide +kernel) rfl
theorem q_85 : X (d + 1) none 3 (65, [some (.ref 3), none], [], hK 17 I00 15) = X (d + 1) none 3 (66, [some (.ref 3), none], [.int 0], hK 17 I00 15) := X_ic d_3_65 (by decide)
theorem q_86 : X (d + 1) none 3 (66, [some (.ref 3), none], [.int 0], hK 17 I00 15) = X (d + 1) none 3 (67, [some (.ref 3), some (.int 0)], [], hK 17 I00 15) := X_op d_3_66 rfl rfl
theorem q_87 : X (d + 1) none 3 (67, [some (.ref 3), some (.int 0)], [], hK 17 I00 15) = X (d + 1) none 3 (68, [some (.ref 3), some (.int 0)], [.int 0], hK 17 I00 15) := X_op d_3_67 rfl rfl
theorem q_88 : X (d + 1) none 3 (68, [some (.ref 3), some (.int 0)], [.int 0], hK 17 I00 15) = X (d + 1) none 3 (70, [some (.ref 3), some (.int 0)], [.int 6, .int 0], hK 17 I00 15) := X_bp d_3_68 (by decide)
theorem q_89 : X (d + 1) none 3 (70, [some (.ref 3), some (.int 0)], [.int 6, .int 0], hK 17 I00 15) = X (d + 1) none 3 (73, [some (.ref 3), some (.int 0)], [], hK 17 I00 15) := (X_icgt (tgt := 92) d_3_70 (by decide)).trans (if_neg (by decide))
theorem q_90 : X (d + 1) none 3 (73, [some (.ref 3), some (.int 0)], [], hK 17 I00 15) = X (d + 1) none 3 (74, [some (.ref 3), some (.int 0)], [.ref 3], hK 17 I00 15) := X_op d_3_73 rfl rfl
theorem q_91 : X (d + 1) none 3 (74, [some (.ref 3), some (.int 0)], [.ref 3], hK 17 I00 15) = X (d + 1) none 3 (77, [some (.ref 3), some (.int 0)], [.ref 12], hK 17 I00 15) := X_gR (k := 2) d_3_74 (by decide +kernel) rfl rfl (by decide) rfl
theorem q_92 : X (d + 1) none 3 (77, [some (.ref 3), some (.int 0)], [.ref 12], hK 17 I00 15) = X (d + 1) none 3 (78, [some (.ref 3), some (.int 0)], [.int 0, .ref 12], hK 17 I00 15) := X_op d_3_77 rfl rfl
theorem q_93 : X (d + 1) none 3 (78, [some (.ref 3), some (.int 0)], [.int 0, .ref 12], hK 17 I00 15) = X (d + 1) none 3 (81, [some (.ref 3), some (.int 0)], [.ref 17, .int 0, .ref 12], hK 18 I00 15) := K_new d_3_78 (by decide +kernel) rfl rfl (fun _ => rfl) rfl
theorem q_94 : X (d + 1) none 3 (81, [some (.ref 3), some (.int 0)], [.ref 17, .int 0, .ref 12], hK 18 I00 15) = X (d + 1) none 3 (82, [some (.ref 3), some (.int 0)], [.ref 17, .ref 17, .int 0, .ref 12], hK 18 I00 15) := X_op d_3_81 rfl rfl
theorem q_95 : X d none 6 (0, [some (.ref 17)], [], hK 18 I00 15) = X d none 6 (1, [some (.ref 17)], [.ref 17], hK 18 I00 15) := X_op d_6_0 rfl rfl
theorem q_96 : X d none 6 (1, [some (.ref 17)], [.ref 17], hK 18 I00 15) = X d none 6 (4, [some (.ref 17)], [], hK 18 I00 15) := K_obj (y := 0) (z := 0) (u := 0) d_6_1 (by decide +kernel) (by decide)
theorem q_97 : X d none 6 (4, [some (.ref 17)], [], hK 18 I00 15) = X d none 6 (5, [some (.ref 17)], [.ref 17], hK 18 I00 15) := X_op d_6_4 rfl rfl
theorem q_98 : X d none 6 (5, [some (.ref 17)], [.ref 17], hK 18 I00 15) = X d none 6 (7, [some (.ref 17)], [.int 6, .ref 17], hK 18 I00 15) := X_bp d_6_5 (by decide)
theorem q_99 : X d none 6 (7, [some (.ref 17)], [.int 6, .ref 17], hK 18 I00 15) = X d none 6 (9, [some (.ref 17)], [.ref 18, .ref 17], hK 19 I00 15) := K_arr (tag := 0) d_6_7 rfl (fun _ _ _ => rfl) (by decide) (by decide) rfl rfl (fun _ => rfl) rfl
theorem q_100 : X d none 6 (9, [some (.ref 17)], [.ref 18, .ref 17], hK 19 I00 15) = X d none 6 (12, [some (.ref 17)], [], hK 19 I00 16) := K_pR d_6_9 (by decide +kernel) rfl rfl (by decide) (by decide +kernel) rfl
theorem q_101 : X d none 6 (12, [some (.ref 17)], [], hK 19 I00 16) = X d none 6 (13, [some (.ref 17)], [.ref 17], hK 19 I00 16) := X_op d_6_12 rfl rfl
theorem q_102 : X d none 6 (13, [some (.ref 17)], [.ref 17], hK 19 I00 16) = X d none 6 (15, [some (.ref 17)], [.int 20, .ref 17], hK 19 I00 16) := X_bp d_6_13 (by decide)
theorem q_103 : X d none 6 (15, [some (.ref 17)], [.int 20, .ref 17], hK 19 I00 16) = X d none 6 (17, [some (.ref 17)], [.ref 19, .ref 17], hK 20 I00 16) := K_arr (tag := 0) d_6_15 rfl (fun _ _ _ => rfl) (by decide) (by decide) rfl rfl (fun _ => rfl) rfl
theorem q_104 : X d none 6 (17, [some (.ref 17)], [.ref 19, .ref 17], hK 20 I00 16) = X d none 6 (20, [some (.ref 17)], [], hK 20 I00 17) := K_pR d_6_17 (by decide +kernel) rfl rfl (by decide) (by decide +kernel) rfl
theorem q_105 : X d none 6 (20, [some (.ref 17)], [], hK 20 I00 17) = some (none, hK 20 I00 17) := X_rt d_6_20 rfl rfl
theorem q_106 : X d none 6 (0, [some (.ref 17)], [], hK 18 I00 15) = some (none, hK 20 I00 17) := q_95.trans (q_96.trans (q_97.trans (q_98.trans (q_99.trans (q_100.trans (q_101.trans (q_102.trans (q_103.trans (q_104.trans (q_105))))))))))
theorem q_107 : X (d + 1) none 3 (82, [some (.ref 3), some (.int 0)], [.ref 17, .ref 17, .int 0, .ref 12], hK 18 I00 15) = X (d + 1) none 3 (85, [some (.ref 3), some (.int 0)], [.ref 17, .int 0, .ref 12], hK 20 I00 17) := K_call (kd := 6) d_3_82 (by decide +kernel) (by decide) rfl (by decide) (by decide) rfl q_106
theorem q_108 : X (d + 1) none 3 (85, [some (.ref 3), some (.int 0)], [.ref 17, .int 0, .ref 12], hK 20 I00 17) = X (d + 1) none 3 (86, [some (.ref 3), some (.int 0)], [], hK 20 I00 18) := K_ast d_3_85 rfl rfl rfl (by decide) rfl
theorem q_109 : X (d + 1) none 3 (86, [some (.ref 3), some (.int 0)], [], hK 20 I00 18) = X (d + 1) none 3 (89, [some (.ref 3), some (.int 1)], [], hK 20 I00 18) := X_inc (y := 1) d_3_86 rfl rfl (by decide) rfl
theorem q_110 : X (d + 1) none 3 (89, [some (.ref 3), some (.int 1)], [], hK 20 I00 18) = X (d + 1) none 3 (67, [some (.ref 3), some (.int 1)], [], hK 20 I00 18) := X_go d_3_89 (by decide)
theorem q_111 : X (d + 1) none 3 (67, [some (.ref 3), some (.int 1)], [], hK 20 I00 18) = X (d + 1) none 3 (68, [some (.ref 3), some (.int 1)], [.int 1], hK 20 I00 18) := X_op d_3_67 rfl rfl
theorem q_112 : X (d + 1) none 3 (68, [some (.ref 3), some (.int 1)], [.int 1], hK 20 I00 18) = X (d + 1) none 3 (70, [some (.ref 3), some (.int 1)], [.int 6, .int 1], hK 20 I00 18) := X_bp d_3_68 (by decide)
theorem q_113 : X (d + 1) none 3 (70, [some (.ref 3), some (.int 1)], [.int 6, .int 1], hK 20 I00 18) = X (d + 1) none 3 (73, [some (.ref 3), some (.int 1)], [], hK 20 I00 18) := (X_icgt (tgt := 92) d_3_70 (by decide)).trans (if_neg (by decide))
theorem q_114 : X (d + 1) none 3 (73, [some (.ref 3), some (.int 1)], [], hK 20 I00 18) = X (d + 1) none 3 (74, [some (.ref 3), some (.int 1)], [.ref 3], hK 20 I00 18) := X_op d_3_73 rfl rfl
theorem q_115 : X (d + 1) none 3 (74, [some (.ref 3), some (.int 1)], [.ref 3], hK 20 I00 18) = X (d + 1) none 3 (77, [some (.ref 3), some (.int 1)], [.ref 12], hK 20 I00 18) := X_gR (k := 2) d_3_74 (by decide +kernel) rfl rfl (by decide) rfl
theorem q_116 : X (d + 1) none 3 (77, [some (.ref 3), some (.int 1)], [.ref 12], hK 20 I00 18) = X (d + 1) none 3 (78, [some (.ref 3), some (.int 1)], [.int 1, .ref 12], hK 20 I00 18) := X_op d_3_77 rfl rfl
theorem q_117 : X (d + 1) none 3 (78, [some (.ref 3), some (.int 1)], [.int 1, .ref 12], hK 20 I00 18) = X (d + 1) none 3 (81, [some (.ref 3), some (.int 1)], [.ref 20, .int 1, .ref 12], hK 21 I00 18) := K_new d_3_78 (by decide +kernel) rfl rfl (fun _ => rfl) rfl
theorem q_118 : X (d + 1) none 3 (81, [some (.ref 3), some (.int 1)], [.ref 20, .int 1, .ref 12], hK 21 I00 18) = X (d + 1) none 3 (82, [some (.ref 3), some (.int 1)], [.ref 20, .ref 20, .int 1, .ref 12], hK 21 I00 18) := X_op d_3_81 rfl rfl
theorem q_119 : X d none 6 (0, [some (.ref 20)], [], hK 21 I00 18) = X d none 6 (1, [some (.ref 20)], [.ref 20], hK 21 I00 18) := X_op d_6_0 rfl rfl
theorem q_120 : X d none 6 (1, [some (.ref 20)], [.ref 20], hK 21 I00 18) = X d none 6 (4, [some (.ref 20)], [], hK 21 I00 18) := K_obj (y := 0) (z := 0) (u := 0) d_6_1 (by decide +kernel) (by decide)
theorem q_121 : X d none 6 (4, [some (.ref 20)], [], hK 21 I00 18) = X d none 6 (5, [some (.ref 20)], [.ref 20], hK 21 I00 18) := X_op d_6_4 rfl rfl
theorem q_122 : X d none 6 (5, [some (.ref 20)], [.ref 20], hK 21 I00 18) = X d none 6 (7, [some (.ref 20)], [.int 6, .ref 20], hK 21 I00 18) := X_bp d_6_5 (by decide)
theorem q_123 : X d none 6 (7, [some (.ref 20)], [.int 6, .ref 20], hK 21 I00 18) = X d none 6 (9, [some (.ref 20)], [.ref 21, .ref 20], hK 22 I00 18) := K_arr (tag := 0) d_6_7 rfl (fun _ _ _ => rfl) (by decide) (by decide) rfl rfl (fun _ => rfl) rfl
theorem q_124 : X d none 6 (9, [some (.ref 20)], [.ref 21, .ref 20], hK 22 I00 18) = X d none 6 (12, [some (.ref 20)], [], hK 22 I00 19) := K_pR d_6_9 (by decide +kernel) rfl rfl (by decide) (by decide +kernel) rfl
theorem q_125 : X d none 6 (12, [some (.ref 20)], [], hK 22 I00 19) = X d none 6 (13, [some (.ref 20)], [.ref 20], hK 22 I00 19) := X_op d_6_12 rfl rfl
theorem q_126 : X d none 6 (13, [some (.ref 20)], [.ref 20], hK 22 I00 19) = X d none 6 (15, [some (.ref 20)], [.int 20, .ref 20], hK 22 I00 19) := X_bp d_6_13 (by decide)
theorem q_127 : X d none 6 (15, [some (.ref 20)], [.int 20, .ref 20], hK 22 I00 19) = X d none 6 (17, [some (.ref 20)], [.ref 22, .ref 20], hK 23 I00 19) := K_arr (tag := 0) d_6_15 rfl (fun _ _ _ => rfl) (by decide) (by decide) rfl rfl (fun _ => rfl) rfl
theorem q_128 : X d none 6 (17, [some (.ref 20)], [.ref 22, .ref 20], hK 23 I00 19) = X d none 6 (20, [some (.ref 20)], [], hK 23 I00 20) := K_pR d_6_17 (by decide +kernel) rfl rfl (by decide) (by decide +kernel) rfl
theorem q_129 : X d none 6 (20, [some (.ref 20)], [], hK 23 I00 20) = some (none, hK 23 I00 20) := X_rt d_6_20 rfl rfl
theorem q_130 : X d none 6 (0, [some (.ref 20)], [], hK 21 I00 18) = some (none, hK 23 I00 20) := q_119.trans (q_120.trans (q_121.trans (q_122.trans (q_123.trans (q_124.trans (q_125.trans (q_126.trans (q_127.trans (q_128.trans (q_129))))))))))
theorem q_131 : X (d + 1) none 3 (82, [some (.ref 3), some (.int 1)], [.ref 20, .ref 20, .int 1, .ref 12], hK 21 I00 18) = X (d + 1) none 3 (85, [some (.ref 3), some (.int 1)], [.ref 20, .int 1, .ref 12], hK 23 I00 20) := K_call (kd := 6) d_3_82 (by decide +kernel) (by decide) rfl (by decide) (by decide) rfl q_130
theorem q_132 : X (d + 1) none 3 (85, [some (.ref 3), some (.int 1)], [.ref 20, .int 1, .ref 12], hK 23 I00 20) = X (d + 1) none 3 (86, [some (.ref 3), some (.int 1)], [], hK 23 I00 21) := K_ast d_3_85 rfl rfl rfl (by decide) rfl
theorem q_133 : X (d + 1) none 3 (86, [some (.ref 3), some (.int 1)], [], hK 23 I00 21) = X (d + 1) none 3 (89, [some (.ref 3), some (.int 2)], [], hK 23 I00 21) := X_inc (y := 1) d_3_86 rfl rfl (by decide) rfl
theorem q_134 : X (d + 1) none 3 (89, [some (.ref 3), some (.int 2)], [], hK 23 I00 21) = X (d + 1) none 3 (67, [some (.ref 3), some (.int 2)], [], hK 23 I00 21) := X_go d_3_89 (by decide)
theorem q_135 : X (d + 1) none 3 (67, [some (.ref 3), some (.int 2)], [], hK 23 I00 21) = X (d + 1) none 3 (68, [some (.ref 3), some (.int 2)], [.int 2], hK 23 I00 21) := X_op d_3_67 rfl rfl
theorem q_136 : X (d + 1) none 3 (68, [some (.ref 3), some (.int 2)], [.int 2], hK 23 I00 21) = X (d + 1) none 3 (70, [some (.ref 3), some (.int 2)], [.int 6, .int 2], hK 23 I00 21) := X_bp d_3_68 (by decide)
theorem q_137 : X (d + 1) none 3 (70, [some (.ref 3), some (.int 2)], [.int 6, .int 2], hK 23 I00 21) = X (d + 1) none 3 (73, [some (.ref 3), some (.int 2)], [], hK 23 I00 21) := (X_icgt (tgt := 92) d_3_70 (by decide)).trans (if_neg (by decide))
theorem q_138 : X (d + 1) none 3 (73, [some (.ref 3), some (.int 2)], [], hK 23 I00 21) = X (d + 1) none 3 (74, [some (.ref 3), some (.int 2)], [.ref 3], hK 23 I00 21) := X_op d_3_73 rfl rfl
theorem q_139 : X (d + 1) none 3 (74, [some (.ref 3), some (.int 2)], [.ref 3], hK 23 I00 21) = X (d + 1) none 3 (77, [some (.ref 3), some (.int 2)], [.ref 12], hK 23 I00 21) := X_gR (k := 2) d_3_74 (by decide +kernel) rfl rfl (by decide) rfl
theorem q_140 : X (d + 1) none 3 (77, [some (.ref 3), some (.int 2)], [.ref 12], hK 23 I00 21) = X (d + 1) none 3 (78, [some (.ref 3), some (.int 2)], [.int 2, .ref 12], hK 23 I00 21) := X_op d_3_77 rfl rfl
theorem q_141 : X (d + 1) none 3 (78, [some (.ref 3), some (.int 2)], [.int 2, .ref 12], hK 23 I00 21) = X (d + 1) none 3 (81, [some (.ref 3), some (.int 2)], [.ref 23, .int 2, .ref 12], hK 24 I00 21) := K_new d_3_78 (by decide +kernel) rfl rfl (fun _ => rfl) rfl
theorem q_142 : X (d + 1) none 3 (81, [some (.ref 3), some (.int 2)], [.ref 23, .int 2, .ref 12], hK 24 I00 21) = X (d + 1) none 3 (82, [some (.ref 3), some (.int 2)], [.ref 23, .ref 23, .int 2, .ref 12], hK 24 I00 21) := X_op d_3_81 rfl rfl
theorem q_143 : X d none 6 (0, [some (.ref 23)], [], hK 24 I00 21) = X d none 6 (1, [some (.ref 23)], [.ref 23], hK 24 I00 21) := X_op d_6_0 rfl rfl
theorem q_144 : X d none 6 (1, [some (.ref 23)], [.ref 23], hK 24 I00 21) = X d none 6 (4, [some (.ref 23)], [], hK 24 I00 21) := K_obj (y := 0) (z := 0) (u := 0) d_6_1 (by decide +kernel) (by decide)
theorem q_145 : X d none 6 (4, [some (.ref 23)], [], hK 24 I00 21) = X d none 6 (5, [some (.ref 23)], [.ref 23], hK 24 I00 21) := X_op d_6_4 rfl rfl
theorem q_146 : X d none 6 (5, [some (.ref 23)], [.ref 23], hK 24 I00 21) = X d none 6 (7, [some (.ref 23)], [.int 6, .ref 23], hK 24 I00 21) := X_bp d_6_5 (by decide)
theorem q_147 : X d none 6 (7, [some (.ref 23)], [.int 6, .ref 23], hK 24 I00 21) = X d none 6 (9, [some (.ref 23)], [.ref 24, .ref 23], hK 25 I00 21) := K_arr (tag := 0) d_6_7 rfl (fun _ _ _ => rfl) (by decide) (by decide) rfl rfl (fun _ => rfl) rfl
theorem q_148 : X d none 6 (9, [some (.ref 23)], [.ref 24, .ref 23], hK 25 I00 21) = X d none 6 (12, [some (.ref 23)], [], hK 25 I00 22) := K_pR d_6_9 (by decide +kernel) rfl rfl (by decide) (by decide +kernel) rfl
theorem q_149 : X d none 6 (12, [some (.ref 23)], [], hK 25 I00 22) = X d none 6 (13, [some (.ref 23)], [.ref 23], hK 25 I00 22) := X_op d_6_12 rfl rfl
theorem q_150 : X d none 6 (13, [some (.ref 23)], [.ref 23], hK 25 I00 22) = X d none 6 (15, [some (.ref 23)], [.int 20, .ref 23], hK 25 I00 22) := X_bp d_6_13 (by decide)
theorem q_151 : X d none 6 (15, [some (.ref 23)], [.int 20, .ref 23], hK 25 I00 22) = X d none 6 (17, [some (.ref 23)], [.ref 25, .ref 23], hK 26 I00 22) := K_arr (tag := 0) d_6_15 rfl (fun _ _ _ => rfl) (by decide) (by decide) rfl rfl (fun _ => rfl) rfl
theorem q_152 : X d none 6 (17, [some (.ref 23)], [.ref 25, .ref 23], hK 26 I00 22) = X d none 6 (20, [some (.ref 23)], [], hK 26 I00 23) := K_pR d_6_17 (by decide +kernel) rfl rfl (by decide) (by decide +kernel) rfl
theorem q_153 : X d none 6 (20, [some (.ref 23)], [], hK 26 I00 23) = some (none, hK 26 I00 23) := X_rt d_6_20 rfl rfl
theorem q_154 : X d none 6 (0, [some (.ref 23)], [], hK 24 I00 21) = some (none, hK 26 I00 23) := q_143.trans (q_144.trans (q_145.trans (q_146.trans (q_147.trans (q_148.trans (q_149.trans (q_150.trans (q_151.trans (q_152.trans (q_153))))))))))
theorem q_155 : X (d + 1) none 3 (82, [some (.ref 3), some (.int 2)], [.ref 23, .ref 23, .int 2, .ref 12], hK 24 I00 21) = X (d + 1) none 3 (85, [some (.ref 3), some (.int 2)], [.ref 23, .int 2, .ref 12], hK 26 I00 23) := K_call (kd := 6) d_3_82 (by decide +kernel) (by decide) rfl (by decide) (by decide) rfl q_154
theorem q_156 : X (d + 1) none 3 (85, [some (.ref 3), some (.int 2)], [.ref 23, .int 2, .ref 12], hK 26 I00 23) = X (d + 1) none 3 (86, [some (.ref 3), some (.int 2)], [], hK 26 I00 24) := K_ast d_3_85 rfl rfl rfl (by decide) rfl
theorem q_157 : X (d + 1) none 3 (86, [some (.ref 3), some (.int 2)], [], hK 26 I00 24) = X (d + 1) none 3 (89, [some (.ref 3), some (.int 3)], [], hK 26 I00 24) := X_inc (y := 1) d_3_86 rfl rfl (by decide) rfl
theorem q_158 : X (d + 1) none 3 (89, [some (.ref 3), some (.int 3)], [], hK 26 I00 24) = X (d + 1) none 3 (67, [some (.ref 3), some (.int 3)], [], hK 26 I00 24) := X_go d_3_89 (by decide)
theorem q_159 : X (d + 1) none 3 (67, [some (.ref 3), some (.int 3)], [], hK 26 I00 24) = X (d + 1) none 3 (68, [some (.ref 3), some (.int 3)], [.int 3], hK 26 I00 24) := X_op d_3_67 rfl rfl
theorem q_160 : X (d + 1) none 3 (68, [some (.ref 3), some (.int 3)], [.int 3], hK 26 I00 24) = X (d + 1) none 3 (70, [some (.ref 3), some (.int 3)], [.int 6, .int 3], hK 26 I00 24) := X_bp d_3_68 (by decide)
theorem q_161 : X (d + 1) none 3 (70, [some (.ref 3), some (.int 3)], [.int 6, .int 3], hK 26 I00 24) = X (d + 1) none 3 (73, [some (.ref 3), some (.int 3)], [], hK 26 I00 24) := (X_icgt (tgt := 92) d_3_70 (by decide)).trans (if_neg (by decide))
theorem q_162 : X (d + 1) none 3 (73, [some (.ref 3), some (.int 3)], [], hK 26 I00 24) = X (d + 1) none 3 (74, [some (.ref 3), some (.int 3)], [.ref 3], hK 26 I00 24) := X_op d_3_73 rfl rfl
theorem q_163 : X (d + 1) none 3 (74, [some (.ref 3), some (.int 3)], [.ref 3], hK 26 I00 24) = X (d + 1) none 3 (77, [some (.ref 3), some (.int 3)], [.ref 12], hK 26 I00 24) := X_gR (k := 2) d_3_74 (by decide +kernel) rfl rfl (by decide) rfl
theorem q_164 : X (d + 1) none 3 (77, [some (.ref 3), some (.int 3)], [.ref 12], hK 26 I00 24) = X (d + 1) none 3 (78, [some (.ref 3), some (.int 3)], [.int 3, .ref 12], hK 26 I00 24) := X_op d_3_77 rfl rfl
theorem q_165 : X (d + 1) none 3 (78, [some (.ref 3), some (.int 3)], [.int 3, .ref 12], hK 26 I00 24) = X (d + 1) none 3 (81, [some (.ref 3), some (.int 3)], [.ref 26, .int 3, .ref 12], hK 27 I00 24) := K_new d_3_78 (by decide +kernel) rfl rfl (fun _ => rfl) rfl
theorem q_166 : X (d + 1) none 3 (81, [some (.ref 3), some (.int 3)], [.ref 26, .int 3, .ref 12], hK 27 I00 24) = X (d + 1) none 3 (82, [some (.ref 3), some (.int 3)], [.ref 26, .ref 26, .int 3, .ref 12], hK 27 I00 24) := X_op d_3_81 rfl rfl
theorem q_167 : X d none 6 (0, [some (.ref 26)], [], hK 27 I00 24) = X d none 6 (1, [some (.ref 26)], [.ref 26], hK 27 I00 24) := X_op d_6_0 rfl rfl
theorem q_168 : X d none 6 (1, [some (.ref 26)], [.ref 26], hK 27 I00 24) = X d none 6 (4, [some (.ref 26)], [], hK 27 I00 24) := K_obj (y := 0) (z := 0) (u := 0) d_6_1 (by decide +kernel) (by decide)
theorem q_169 : X d none 6 (4, [some (.ref 26)], [], hK 27 I00 24) = X d none 6 (5, [some (.ref 26)], [.ref 26], hK 27 I00 24) := X_op d_6_4 rfl rfl
theorem q_170 : X d none 6 (5, [some (.ref 26)], [.ref 26], hK 27 I00 24) = X d none 6 (7, [some (.ref 26)], [.int 6, .ref 26], hK 27 I00 24) := X_bp d_6_5 (by decide)
theorem q_171 : X d none 6 (7, [some (.ref 26)], [.int 6, .ref 26], hK 27 I00 24) = X d none 6 (9, [some (.ref 26)], [.ref 27, .ref 26], hK 28 I00 24) := K_arr (tag := 0) d_6_7 rfl (fun _ _ _ => rfl) (by decide) (by decide) rfl rfl (fun _ => rfl) rfl
theorem q_172 : X d none 6 (9, [some (.ref 26)], [.ref 27, .ref 26], hK 28 I00 24) = X d none 6 (12, [some (.ref 26)], [], hK 28 I00 25) := K_pR d_6_9 (by decide +kernel) rfl rfl (by decide) (by decide +kernel) rfl
theorem q_173 : X d none 6 (12, [some (.ref 26)], [], hK 28 I00 25) = X d none 6 (13, [some (.ref 26)], [.ref 26], hK 28 I00 25) := X_op d_6_12 rfl rfl
theorem q_174 : X d none 6 (13, [some (.ref 26)], [.ref 26], hK 28 I00 25) = X d none 6 (15, [some (.ref 26)], [.int 20, .ref 26], hK 28 I00 25) := X_bp d_6_13 (by decide)
theorem q_175 : X d none 6 (15, [some (.ref 26)], [.int 20, .ref 26], hK 28 I00 25) = X d none 6 (17, [some (.ref 26)], [.ref 28, .ref 26], hK 29 I00 25) := K_arr (tag := 0) d_6_15 rfl (fun _ _ _ => rfl) (by decide) (by decide) rfl rfl (fun _ => rfl) rfl
theorem q_176 : X d none 6 (17, [some (.ref 26)], [.ref 28, .ref 26], hK 29 I00 25) = X d none 6 (20, [some (.ref 26)], [], hK 29 I00 26) := K_pR d_6_17 (by decide +kernel) rfl rfl (by decide) (by decide +kernel) rfl
theorem q_177 : X d none 6 (20, [some (.ref 26)], [], hK 29 I00 26) = some (none, hK 29 I00 26) := X_rt d_6_20 rfl rfl
theorem q_178 : X d none 6 (0, [some (.ref 26)], [], hK 27 I00 24) = some (none, hK 29 I00 26) := q_167.trans (q_168.trans (q_169.trans (q_170.trans (q_171.trans (q_172.trans (q_173.trans (q_174.trans (q_175.trans (q_176.trans (q_177))))))))))
theorem q_179 : X (d + 1) none 3 (82, [some (.ref 3), some (.int 3)], [.ref 26, .ref 26, .int 3, .ref 12], hK 27 I00 24) = X (d + 1) none 3 (85, [some (.ref 3), some (.int 3)], [.ref 26, .int 3, .ref 12], hK 29 I00 26) := K_call (kd := 6) d_3_82 (by decide +kernel) (by decide) rfl (by decide) (by decide) rfl q_178
theorem q_180 : X (d + 1) none 3 (85, [some (.ref 3), some (.int 3)], [.ref 26, .int 3, .ref 12], hK 29 I00 26) = X (d + 1) none 3 (86, [some (.ref 3), some (.int 3)], [], hK 29 I00 27) := K_ast d_3_85 rfl rfl rfl (by decide) rfl
theorem q_181 : X (d + 1) none 3 (86, [some (.ref 3), some (.int 3)], [], hK 29 I00 27) = X (d + 1) none 3 (89, [some (.ref 3), some (.int 4)], [], hK 29 I00 27) := X_inc (y := 1) d_3_86 rfl rfl (by decide) rfl
theorem q_182 : X (d + 1) none 3 (89, [some (.ref 3), some (.int 4)], [], hK 29 I00 27) = X (d + 1) none 3 (67, [some (.ref 3), some (.int 4)], [], hK 29 I00 27) := X_go d_3_89 (by decide)
theorem q_183 : X (d + 1) none 3 (67, [some (.ref 3), some (.int 4)], [], hK 29 I00 27) = X (d + 1) none 3 (68, [some (.ref 3), some (.int 4)], [.int 4], hK 29 I00 27) := X_op d_3_67 rfl rfl
theorem q_184 : X (d + 1) none 3 (68, [some (.ref 3), some (.int 4)], [.int 4], hK 29 I00 27) = X (d + 1) none 3 (70, [some (.ref 3), some (.int 4)], [.int 6, .int 4], hK 29 I00 27) := X_bp d_3_68 (by decide)
theorem q_185 : X (d + 1) none 3 (70, [some (.ref 3), some (.int 4)], [.int 6, .int 4], hK 29 I00 27) = X (d + 1) none 3 (73, [some (.ref 3), some (.int 4)], [], hK 29 I00 27) := (X_icgt (tgt := 92) d_3_70 (by decide)).trans (if_neg (by decide))
theorem q_186 : X (d + 1) none 3 (73, [some (.ref 3), some (.int 4)], [], hK 29 I00 27) = X (d + 1) none 3 (74, [some (.ref 3), some (.int 4)], [.ref 3], hK 29 I00 27) := X_op d_3_73 rfl rfl
theorem q_187 : X (d + 1) none 3 (74, [some (.ref 3), some (.int 4)], [.ref 3], hK 29 I00 27) = X (d + 1) none 3 (77, [some (.ref 3), some (.int 4)], [.ref 12], hK 29 I00 27) := X_gR (k := 2) d_3_74 (by decide +kernel) rfl rfl (by decide) rfl
theorem q_188 : X (d + 1) none 3 (77, [some (.ref 3), some (.int 4)], [.ref 12], hK 29 I00 27) = X (d + 1) none 3 (78, [some (.ref 3), some (.int 4)], [.int 4, .ref 12], hK 29 I00 27) := X_op d_3_77 rfl rfl
theorem q_189 : X (d + 1) none 3 (78, [some (.ref 3), some (.int 4)], [.int 4, .ref 12], hK 29 I00 27) = X (d + 1) none 3 (81, [some (.ref 3), some (.int 4)], [.ref 29, .int 4, .ref 12], hK 30 I00 27) := K_new d_3_78 (by decide +kernel) rfl rfl (fun _ => rfl) rfl
theorem q_190 : X (d + 1) none 3 (81, [some (.ref 3), some (.int 4)], [.ref 29, .int 4, .ref 12], hK 30 I00 27) = X (d + 1) none 3 (82, [some (.ref 3), some (.int 4)], [.ref 29, .ref 29, .int 4, .ref 12], hK 30 I00 27) := X_op d_3_81 rfl rfl
theorem q_191 : X d none 6 (0, [some (.ref 29)], [], hK 30 I00 27) = X d none 6 (1, [some (.ref 29)], [.ref 29], hK 30 I00 27) := X_op d_6_0 rfl rfl
theorem q_192 : X d none 6 (1, [some (.ref 29)], [.ref 29], hK 30 I00 27) = X d none 6 (4, [some (.ref 29)], [], hK 30 I00 27) := K_obj (y := 0) (z := 0) (u := 0) d_6_1 (by decide +kernel) (by decide)
theorem q_193 : X d none 6 (4, [some (.ref 29)], [], hK 30 I00 27) = X d none 6 (5, [some (.ref 29)], [.ref 29], hK 30 I00 27) := X_op d_6_4 rfl rfl
theorem q_194 : X d none 6 (5, [some (.ref 29)], [.ref 29], hK 30 I00 27) = X d none 6 (7, [some (.ref 29)], [.int 6, .ref 29], hK 30 I00 27) := X_bp d_6_5 (by decide)
theorem q_195 : X d none 6 (7, [some (.ref 29)], [.int 6, .ref 29], hK 30 I00 27) = X d none 6 (9, [some (.ref 29)], [.ref 30, .ref 29], hK 31 I00 27) := K_arr (tag := 0) d_6_7 rfl (fun _ _ _ => rfl) (by decide) (by decide) rfl rfl (fun _ => rfl) rfl
theorem q_196 : X d none 6 (9, [some (.ref 29)], [.ref 30, .ref 29], hK 31 I00 27) = X d none 6 (12, [some (.ref 29)], [], hK 31 I00 28) := K_pR d_6_9 (by decide +kernel) rfl rfl (by decide) (by decide +kernel) rfl
theorem q_197 : X d none 6 (12, [some (.ref 29)], [], hK 31 I00 28) = X d none 6 (13, [some (.ref 29)], [.ref 29], hK 31 I00 28) := X_op d_6_12 rfl rfl
theorem q_198 : X d none 6 (13, [some (.ref 29)], [.ref 29], hK 31 I00 28) = X d none 6 (15, [some (.ref 29)], [.int 20, .ref 29], hK 31 I00 28) := X_bp d_6_13 (by decide)
theorem q_199 : X d none 6 (15, [some (.ref 29)], [.int 20, .ref 29], hK 31 I00 28) = X d none 6 (17, [some (.ref 29)], [.ref 31, .ref 29], hK 32 I00 28) := K_arr (tag := 0) d_6_15 rfl (fun _ _ _ => rfl) (by decide) (by decide) rfl rfl (fun _ => rfl) rfl
theorem q_200 : X d none 6 (17, [some (.ref 29)], [.ref 31, .ref 29], hK 32 I00 28) = X d none 6 (20, [some (.ref 29)], [], hK 32 I00 29) := K_pR d_6_17 (by decide +kernel) rfl rfl (by decide) (by decide +kernel) rfl
theorem q_201 : X d none 6 (20, [some (.ref 29)], [], hK 32 I00 29) = some (none, hK 32 I00 29) := X_rt d_6_20 rfl rfl
theorem q_202 : X d none 6 (0, [some (.ref 29)], [], hK 30 I00 27) = some (none, hK 32 I00 29) := q_191.trans (q_192.trans (q_193.trans (q_194.trans (q_195.trans (q_196.trans (q_197.trans (q_198.trans (q_199.trans (q_200.trans (q_201))))))))))
theorem q_203 : X (d + 1) none 3 (82, [some (.ref 3), some (.int 4)], [.ref 29, .ref 29, .int 4, .ref 12], hK 30 I00 27) = X (d + 1) none 3 (85, [some (.ref 3), some (.int 4)], [.ref 29, .int 4, .ref 12], hK 32 I00 29) := K_call (kd := 6) d_3_82 (by decide +kernel) (by decide) rfl (by decide) (by decide) rfl q_202
theorem q_204 : X (d + 1) none 3 (85, [some (.ref 3), some (.int 4)], [.ref 29, .int 4, .ref 12], hK 32 I00 29) = X (d + 1) none 3 (86, [some (.ref 3), some (.int 4)], [], hK 32 I00 30) := K_ast d_3_85 rfl rfl rfl (by decide) rfl
theorem q_205 : X (d + 1) none 3 (86, [some (.ref 3), some (.int 4)], [], hK 32 I00 30) = X (d + 1) none 3 (89, [some (.ref 3), some (.int 5)], [], hK 32 I00 30) := X_inc (y := 1) d_3_86 rfl rfl (by decide) rfl
theorem q_206 : X (d + 1) none 3 (89, [some (.ref 3), some (.int 5)], [], hK 32 I00 30) = X (d + 1) none 3 (67, [some (.ref 3), some (.int 5)], [], hK 32 I00 30) := X_go d_3_89 (by decide)
theorem q_207 : X (d + 1) none 3 (67, [some (.ref 3), some (.int 5)], [], hK 32 I00 30) = X (d + 1) none 3 (68, [some (.ref 3), some (.int 5)], [.int 5], hK 32 I00 30) := X_op d_3_67 rfl rfl
theorem q_208 : X (d + 1) none 3 (68, [some (.ref 3), some (.int 5)], [.int 5], hK 32 I00 30) = X (d + 1) none 3 (70, [some (.ref 3), some (.int 5)], [.int 6, .int 5], hK 32 I00 30) := X_bp d_3_68 (by decide)
theorem q_209 : X (d + 1) none 3 (70, [some (.ref 3), some (.int 5)], [.int 6, .int 5], hK 32 I00 30) = X (d + 1) none 3 (73, [some (.ref 3), some (.int 5)], [], hK 32 I00 30) := (X_icgt (tgt := 92) d_3_70 (by decide)).trans (if_neg (by decide))
theorem q_210 : X (d + 1) none 3 (73, [some (.ref 3), some (.int 5)], [], hK 32 I00 30) = X (d + 1) none 3 (74, [some (.ref 3), some (.int 5)], [.ref 3], hK 32 I00 30) := X_op d_3_73 rfl rfl
theorem q_211 : X (d + 1) none 3 (74, [some (.ref 3), some (.int 5)], [.ref 3], hK 32 I00 30) = X (d + 1) none 3 (77, [some (.ref 3), some (.int 5)], [.ref 12], hK 32 I00 30) := X_gR (k := 2) d_3_74 (by decide +kernel) rfl rfl (by decide) rfl
theorem q_212 : X (d + 1) none 3 (77, [some (.ref 3), some (.int 5)], [.ref 12], hK 32 I00 30) = X (d + 1) none 3 (78, [some (.ref 3), some (.int 5)], [.int 5, .ref 12], hK 32 I00 30) := X_op d_3_77 rfl rfl
theorem q_213 : X (d + 1) none 3 (78, [some (.ref 3), some (.int 5)], [.int 5, .ref 12], hK 32 I00 30) = X (d + 1) none 3 (81, [some (.ref 3), some (.int 5)], [.ref 32, .int 5, .ref 12], hK 33 I00 30) := K_new d_3_78 (by decide +kernel) rfl rfl (fun _ => rfl) rfl
theorem q_214 : X (d + 1) none 3 (81, [some (.ref 3), some (.int 5)], [.ref 32, .int 5, .ref 12], hK 33 I00 30) = X (d + 1) none 3 (82, [some (.ref 3), some (.int 5)], [.ref 32, .ref 32, .int 5, .ref 12], hK 33 I00 30) := X_op d_3_81 rfl rfl
theorem q_215 : X d none 6 (0, [some (.ref 32)], [], hK 33 I00 30) = X d none 6 (1, [some (.ref 32)], [.ref 32], hK 33 I00 30) := X_op d_6_0 rfl rfl
theorem q_216 : X d none 6 (1, [some (.ref 32)], [.ref 32], hK 33 I00 30) = X d none 6 (4, [some (.ref 32)], [], hK 33 I00 30) := K_obj (y := 0) (z := 0) (u := 0) d_6_1 (by decide +kernel) (by decide)
theorem q_217 : X d none 6 (4, [some (.ref 32)], [], hK 33 I00 30) = X d none 6 (5, [some (.ref 32)], [.ref 32], hK 33 I00 30) := X_op d_6_4 rfl rfl
theorem q_218 : X d none 6 (5, [some (.ref 32)], [.ref 32], hK 33 I00 30) = X d none 6 (7, [some (.ref 32)], [.int 6, .ref 32], hK 33 I00 30) := X_bp d_6_5 (by decide)
theorem q_219 : X d none 6 (7, [some (.ref 32)], [.int 6, .ref 32], hK 33 I00 30) = X d none 6 (9, [some (.ref 32)], [.ref 33, .ref 32], hK 34 I00 30) := K_arr (tag := 0) d_6_7 rfl (fun _ _ _ => rfl) (by decide) (by decide) rfl rfl (fun _ => rfl) rfl
theorem q_220 : X d none 6 (9, [some (.ref 32)], [.ref 33, .ref 32], hK 34 I00 30) = X d none 6 (12, [some (.ref 32)], [], hK 34 I00 31) := K_pR d_6_9 (by decide +kernel) rfl rfl (by decide) (by decide +kernel) rfl
theorem q_221 : X d none 6 (12, [some (.ref 32)], [], hK 34 I00 31) = X d none 6 (13, [some (.ref 32)], [.ref 32], hK 34 I00 31) := X_op d_6_12 rfl rfl
theorem q_222 : X d none 6 (13, [some (.ref 32)], [.ref 32], hK 34 I00 31) = X d none 6 (15, [some (.ref 32)], [.int 20, .ref 32], hK 34 I00 31) := X_bp d_6_13 (by decide)
theorem q_223 : X d none 6 (15, [some (.ref 32)], [.int 20, .ref 32], hK 34 I00 31) = X d none 6 (17, [some (.ref 32)], [.ref 34, .ref 32], hK 35 I00 31) := K_arr (tag := 0) d_6_15 rfl (fun _ _ _ => rfl) (by decide) (by decide) rfl rfl (fun _ => rfl) rfl
theorem q_224 : X d none 6 (17, [some (.ref 32)], [.ref 34, .ref 32], hK 35 I00 31) = X d none 6 (20, [some (.ref 32)], [], hK 35 I00 32) := K_pR d_6_17 (by decide +kernel) rfl rfl (by decide) (by decide +kernel) rfl
theorem q_225 : X d none 6 (20, [some (.ref 32)], [], hK 35 I00 32) = some (none, hK 35 I00 32) := X_rt d_6_20 rfl rfl
theorem q_226 : X d none 6 (0, [some (.ref 32)], [], hK 33 I00 30) = some (none, hK 35 I00 32) := q_215.trans (q_216.trans (q_217.trans (q_218.trans (q_219.trans (q_220.trans (q_221.trans (q_222.trans (q_223.trans (q_224.trans (q_225))))))))))
theorem q_227 : X (d + 1) none 3 (82, [some (.ref 3), some (.int 5)], [.ref 32, .ref 32, .int 5, .ref 12], hK 33 I00 30) = X (d + 1) none 3 (85, [some (.ref 3), some (.int 5)], [.ref 32, .int 5, .ref 12], hK 35 I00 32) := K_call (kd := 6) d_3_82 (by decide +kernel) (by decide) rfl (by decide) (by decide) rfl q_226
theorem q_228 : X (d + 1) none 3 (85, [some (.ref 3), some (.int 5)], [.ref 32, .int 5, .ref 12], hK 35 I00 32) = X (d + 1) none 3 (86, [some (.ref 3), some (.int 5)], [], hK 35 I00 33) := K_ast d_3_85 rfl rfl rfl (by decide) rfl
theorem q_229 : X (d + 1) none 3 (86, [some (.ref 3), some (.int 5)], [], hK 35 I00 33) = X (d + 1) none 3 (89, [some (.ref 3), some (.int 6)], [], hK 35 I00 33) := X_inc (y := 1) d_3_86 rfl rfl (by decide) rfl
theorem q_230 : X (d + 1) none 3 (89, [some (.ref 3), some (.int 6)], [], hK 35 I00 33) = X (d + 1) none 3 (67, [some (.ref 3), some (.int 6)], [], hK 35 I00 33) := X_go d_3_89 (by decide)
theorem q_231 : X (d + 1) none 3 (67, [some (.ref 3), some (.int 6)], [], hK 35 I00 33) = X (d + 1) none 3 (68, [some (.ref 3), some (.int 6)], [.int 6], hK 35 I00 33) := X_op d_3_67 rfl rfl
theorem q_232 : X (d + 1) none 3 (68, [some (.ref 3), some (.int 6)], [.int 6], hK 35 I00 33) = X (d + 1) none 3 (70, [some (.ref 3), some (.int 6)], [.int 6, .int 6], hK 35 I00 33) := X_bp d_3_68 (by decide)
theorem q_233 : X (d + 1) none 3 (70, [some (.ref 3), some (.int 6)], [.int 6, .int 6], hK 35 I00 33) = X (d + 1) none 3 (73, [some (.ref 3), some (.int 6)], [], hK 35 I00 33) := (X_icgt (tgt := 92) d_3_70 (by decide)).trans (if_neg (by decide))
theorem q_234 : X (d + 1) none 3 (73, [some (.ref 3), some (.int 6)], [], hK 35 I00 33) = X (d + 1) none 3 (74, [some (.ref 3), some (.int 6)], [.ref 3], hK 35 I00 33) := X_op d_3_73 rfl rfl
theorem q_235 : X (d + 1) none 3 (74, [some (.ref 3), some (.int 6)], [.ref 3], hK 35 I00 33) = X (d + 1) none 3 (77, [some (.ref 3), some (.int 6)], [.ref 12], hK 35 I00 33) := X_gR (k := 2) d_3_74 (by decide +kernel) rfl rfl (by decide) rfl
theorem q_236 : X (d + 1) none 3 (77, [some (.ref 3), some (.int 6)], [.ref 12], hK 35 I00 33) = X (d + 1) none 3 (78, [some (.ref 3), some (.int 6)], [.int 6, .ref 12], hK 35 I00 33) := X_op d_3_77 rfl rfl
theorem q_237 : X (d + 1) none 3 (78, [some (.ref 3), some (.int 6)], [.int 6, .ref 12], hK 35 I00 33) = X (d + 1) none 3 (81, [some (.ref 3), some (.int 6)], [.ref 35, .int 6, .ref 12], hK 36 I00 33) := K_new d_3_78 (by decide +kernel) rfl rfl (fun _ => rfl) rfl
theorem q_238 : X (d + 1) none 3 (81, [some (.ref 3), some (.int 6)], [.ref 35, .int 6, .ref 12], hK 36 I00 33) = X (d + 1) none 3 (82, [some (.ref 3), some (.int 6)], [.ref 35, .ref 35, .int 6, .ref 12], hK 36 I00 33) := X_op d_3_81 rfl rfl
theorem q_239 : X d none 6 (0, [some (.ref 35)], [], hK 36 I00 33) = X d none 6 (1, [some (.ref 35)], [.ref 35], hK 36 I00 33) := X_op d_6_0 rfl rfl
theorem q_240 : X d none 6 (1, [some (.ref 35)], [.ref 35], hK 36 I00 33) = X d none 6 (4, [some (.ref 35)], [], hK 36 I00 33) := K_obj (y := 0) (z := 0) (u := 0) d_6_1 (by decide +kernel) (by decide)
theorem q_241 : X d none 6 (4, [some (.ref 35)], [], hK 36 I00 33) = X d none 6 (5, [some (.ref 35)], [.ref 35], hK 36 I00 33) := X_op d_6_4 rfl rfl
theorem q_242 : X d none 6 (5, [some (.ref 35)], [.ref 35], hK 36 I00 33) = X d none 6 (7, [some (.ref 35)], [.int 6, .ref 35], hK 36 I00 33) := X_bp d_6_5 (by decide)
theorem q_243 : X d none 6 (7, [some (.ref 35)], [.int 6, .ref 35], hK 36 I00 33) = X d none 6 (9, [some (.ref 35)], [.ref 36, .ref 35], hK 37 I00 33) := K_arr (tag := 0) d_6_7 rfl (fun _ _ _ => rfl) (by decide) (by decide) rfl rfl (fun _ => rfl) rfl
theorem q_244 : X d none 6 (9, [some (.ref 35)], [.ref 36, .ref 35], hK 37 I00 33) = X d none 6 (12, [some (.ref 35)], [], hK 37 I00 34) := K_pR d_6_9 (by decide +kernel) rfl rfl (by decide) (by decide +kernel) rfl
theorem q_245 : X d none 6 (12, [some (.ref 35)], [], hK 37 I00 34) = X d none 6 (13, [some (.ref 35)], [.ref 35], hK 37 I00 34) := X_op d_6_12 rfl rfl
theorem q_246 : X d none 6 (13, [some (.ref 35)], [.ref 35], hK 37 I00 34) = X d none 6 (15, [some (.ref 35)], [.int 20, .ref 35], hK 37 I00 34) := X_bp d_6_13 (by decide)
theorem q_247 : X d none 6 (15, [some (.ref 35)], [.int 20, .ref 35], hK 37 I00 34) = X d none 6 (17, [some (.ref 35)], [.ref 37, .ref 35], hK 38 I00 34) := K_arr (tag := 0) d_6_15 rfl (fun _ _ _ => rfl) (by decide) (by decide) rfl rfl (fun _ => rfl) rfl
theorem q_248 : X d none 6 (17, [some (.ref 35)], [.ref 37, .ref 35], hK 38 I00 34) = X d none 6 (20, [some (.ref 35)], [], hK 38 I00 35) := K_pR d_6_17 (by decide +kernel) rfl rfl (by decide) (by decide +kernel) rfl
theorem q_249 : X d none 6 (20, [some (.ref 35)], [], hK 38 I00 35) = some (none, hK 38 I00 35) := X_rt d_6_20 rfl rfl
theorem q_250 : X d none 6 (0, [some (.ref 35)], [], hK 36 I00 33) = some (none, hK 38 I00 35) := q_239.trans (q_240.trans (q_241.trans (q_242.trans (q_243.trans (q_244.trans (q_245.trans (q_246.trans (q_247.trans (q_248.trans (q_249))))))))))
theorem q_251 : X (d + 1) none 3 (82, [some (.ref 3), some (.int 6)], [.ref 35, .ref 35, .int 6, .ref 12], hK 36 I00 33) = X (d + 1) none 3 (85, [some (.ref 3), some (.int 6)], [.ref 35, .int 6, .ref 12], hK 38 I00 35) := K_call (kd := 6) d_3_82 (by decide +kernel) (by decide) rfl (by decide) (by decide) rfl q_250
theorem q_252 : X (d + 1) none 3 (85, [some (.ref 3), some (.int 6)], [.ref 35, .int 6, .ref 12], hK 38 I00 35) = X (d + 1) none 3 (86, [some (.ref 3), some (.int 6)], [], hK 38 I00 36) := K_ast d_3_85 rfl rfl rfl (by decide) rfl
theorem q_253 : X (d + 1) none 3 (86, [some (.ref 3), some (.int 6)], [], hK 38 I00 36) = X (d + 1) none 3 (89, [some (.ref 3), some (.int 7)], [], hK 38 I00 36) := X_inc (y := 1) d_3_86 rfl rfl (by decide) rfl
theorem q_254 : X (d + 1) none 3 (89, [some (.ref 3), some (.int 7)], [], hK 38 I00 36) = X (d + 1) none 3 (67, [some (.ref 3), some (.int 7)], [], hK 38 I00 36) := X_go d_3_89 (by decide)
theorem q_255 : X (d + 1) none 3 (67, [some (.ref 3), some (.int 7)], [], hK 38 I00 36) = X (d + 1) none 3 (68, [some (.ref 3), some (.int 7)], [.int 7], hK 38 I00 36) := X_op d_3_67 rfl rfl
theorem q_256 : X (d + 1) none 3 (68, [some (.ref 3), some (.int 7)], [.int 7], hK 38 I00 36) = X (d + 1) none 3 (70, [some (.ref 3), some (.int 7)], [.int 6, .int 7], hK 38 I00 36) := X_bp d_3_68 (by decide)
theorem q_257 : X (d + 1) none 3 (70, [some (.ref 3), some (.int 7)], [.int 6, .int 7], hK 38 I00 36) = X (d + 1) none 3 (92, [some (.ref 3), some (.int 7)], [], hK 38 I00 36) := (X_icgt (tgt := 92) d_3_70 (by decide)).trans (if_pos (by decide))
theorem q_258 : X (d + 1) none 3 (92, [some (.ref 3), some (.int 7)], [], hK 38 I00 36) = X (d + 1) none 3 (93, [some (.ref 3), some (.int 7)], [.ref 3], hK 38 I00 36) := X_op d_3_92 rfl rfl
theorem q_259 : X (d + 1) none 3 (93, [some (.ref 3), some (.int 7)], [.ref 3], hK 38 I00 36) = X (d + 1) none 3 (94, [some (.ref 3), some (.int 7)], [.int (-1), .ref 3], hK 38 I00 36) := X_ic d_3_93 (by decide)
theorem q_260 : X (d + 1) none 3 (94, [some (.ref 3), some (.int 7)], [.int (-1), .ref 3], hK 38 I00 36) = X (d + 1) none 3 (97, [some (.ref 3), some (.int 7)], [], hK 38 I01 36) := K_pI d_3_94 (by decide +kernel) rfl rfl (by decide) (by decide +kernel)
theorem q_261 : X (d + 1) none 3 (97, [some (.ref 3), some (.int 7)], [], hK 38 I01 36) = some (none, hK 38 I01 36) := X_rt d_3_97 rfl rfl
theorem q_262 : X (d + 1) none 3 (0, [some (.ref 3), none], [], hK 4 I00 2) = some (none, hK 38 I01 36) := q_21.trans (q_22.trans (q_23.trans (q_24.trans (q_25.trans (q_34.trans (q_35.trans (q_36.trans (q_37.trans (q_38.trans (q_63.trans (q_64.trans (q_65.trans (q_66.trans (q_67.trans (q_68.trans (q_69.trans (q_70.trans (q_71.trans (q_72.trans (q_73.trans (q_74.trans (q_75.trans (q_76.trans (q_77.trans (q_78.trans (q_79.trans (q_80.trans (q_81.trans (q_82.trans (q_83.trans (q_84.trans (q_85.trans (q_86.trans (q_87.trans (q_88.trans (q_89.trans (q_90.trans (q_91.trans (q_92.trans (q_93.trans (q_94.trans (q_107.trans (q_108.trans (q_109.trans (q_110.trans (q_111.trans (q_112.trans (q_113.trans (q_114.trans (q_115.trans (q_116.trans (q_117.trans (q_118.trans (q_131.trans (q_132.trans (q_133.trans (q_134.trans (q_135.trans (q_136.trans (q_137.trans (q_138.trans (q_139.trans (q_140.trans (q_141.trans (q_142.trans (q_155.trans (q_156.trans (q_157.trans (q_158.trans (q_159.trans (q_160.trans (q_161.trans (q_162.trans (q_163.trans (q_164.trans (q_165.trans (q_166.trans (q_179.trans (q_180.trans (q_181.trans (q_182.trans (q_183.trans (q_184.trans (q_185.trans (q_186.trans (q_187.trans (q_188.trans (q_189.trans (q_190.trans (q_203.trans (q_204.trans (q_205.trans (q_206.trans (q_207.trans (q_208.trans (q_209.trans (q_210.trans (q_211.trans (q_212.trans (q_213.trans (q_214.trans (q_227.trans (q_228.trans (q_229.trans (q_230.trans (q_231.trans (q_232.trans (q_233.trans (q_234.trans (q_235.trans (q_236.trans (q_237.trans (q_238.trans (q_251.trans (q_252.trans (q_253.trans (q_254.trans (q_255.trans (q_256.trans (q_257.trans (q_258.trans (q_259.trans (q_260.trans (q_261))))))))))))))))))))))))))))))))))))))))))))))))))))))))))))))))))))))))))))))))))))))))))))))))))))))))))))))))))))))))))))
theorem q_263 : X (d + 2) none 1 (20, [some (.ref 0)], [.ref 3, .ref 3, .ref 0], hK 4 I00 2) = X (d + 2) none 1 (23, [some (.ref 0)], [.ref 3, .ref 0], hK 38 I01 36) := K_call (kd := 2) d_1_20 (by decide +kernel) (by decide) rfl (by decide) (by decide) rfl q_262
theorem q_264 : X (d + 2) none 1 (23, [some (.ref 0)], [.ref 3, .ref 0], hK 38 I01 36) = X (d + 2) none 1 (26, [some (.ref 0)], [], hK 38 I01 37) := K_pR d_1_23 (by decide +kernel) rfl rfl (by decide) (by decide +kernel) rfl
theorem q_265 : X (d + 2) none 1 (26, [some (.ref 0)], [], hK 38 I01 37) = some (none, hK 38 I01 37) := X_rt d_1_26 rfl rfl
theorem q_266 : X (d + 2) none 1 (0, [some (.ref 0)], [], hK 1 I00 0) = some (none, hK 38 I01 37) := q_3.trans (q_4.trans (q_5.trans (q_6.trans (q_7.trans (q_16.trans (q_17.trans (q_18.trans (q_19.trans (q_20.trans (q_263.trans (q_264.trans (q_265))))))))))))
theorem q_267 : X (d + 3) scr 0 (4, [some (.ref xS), none, none, none], [.ref 0, .ref 0], hK 1 I00 0) = X (d + 3) scr 0 (7, [some (.ref xS), none, none, none], [.ref 0], hK 38 I01 37) := K_call (kd := 2) d_0_4 (by decide +kernel) (by decide) rfl (by decide) (by decide) rfl q_266
theorem q_268 : X (d + 3) scr 0 (7, [some (.ref xS), none, none, none], [.ref 0], hK 38 I01 37) = X (d + 3) scr 0 (8, [some (.ref xS), some (.ref 0), none, none], [], hK 38 I01 37) := X_op d_0_7 rfl rfl
theorem q_269 : X (d + 3) scr 0 (8, [some (.ref xS), some (.ref 0), none, none], [], hK 38 I01 37) = X (d + 3) scr 0 (11, [some (.ref xS), some (.ref 0), none, none], [.ref 38], hK 39 I01 37) := K_new d_0_8 (by decide +kernel) rfl rfl (fun _ => rfl) rfl
theorem q_270 : X (d + 3) scr 0 (11, [some (.ref xS), some (.ref 0), none, none], [.ref 38], hK 39 I01 37) = X (d + 3) scr 0 (12, [some (.ref xS), some (.ref 0), none, none], [.ref 38, .ref 38], hK 39 I01 37) := X_op d_0_11 rfl rfl
theorem q_271 : X (d + 2) none 73 (0, [some (.ref 38)], [], hK 39 I01 37) = X (d + 2) none 73 (1, [some (.ref 38)], [.ref 38], hK 39 I01 37) := X_op d_73_0 rfl rfl
theorem q_272 : X (d + 2) none 73 (1, [some (.ref 38)], [.ref 38], hK 39 I01 37) = X (d + 2) none 73 (4, [some (.ref 38)], [], hK 39 I01 37) := K_obj (y := 0) (z := 0) (u := 0) d_73_1 (by decide +kernel) (by decide)
theorem q_273 : X (d + 2) none 73 (4, [some (.ref 38)], [], hK 39 I01 37) = X (d + 2) none 73 (5, [some (.ref 38)], [.ref 38], hK 39 I01 37) := X_op d_73_4 rfl rfl
theorem q_274 : X (d + 2) none 73 (5, [some (.ref 38)], [.ref 38], hK 39 I01 37) = X (d + 2) none 73 (8, [some (.ref 38)], [.int 400, .ref 38], hK 39 I01 37) := X_sp d_73_5 (by decide)
theorem q_275 : X (d + 2) none 73 (8, [some (.ref 38)], [.int 400, .ref 38], hK 39 I01 37) = X (d + 2) none 73 (10, [some (.ref 38)], [.ref 39, .ref 38], hK 40 I01 37) := K_arr (tag := 0) d_73_8 rfl (fun _ _ _ => rfl) (by decide) (by decide) rfl rfl (fun _ => rfl) rfl
theorem q_276 : X (d + 2) none 73 (10, [some (.ref 38)], [.ref 39, .ref 38], hK 40 I01 37) = X (d + 2) none 73 (13, [some (.ref 38)], [], hK 40 I01 38) := K_pR d_73_10 (by decide +kernel) rfl rfl (by decide) (by decide +kernel) rfl
theorem q_277 : X (d + 2) none 73 (13, [some (.ref 38)], [], hK 40 I01 38) = X (d + 2) none 73 (14, [some (.ref 38)], [.ref 38], hK 40 I01 38) := X_op d_73_13 rfl rfl
theorem q_278 : X (d + 2) none 73 (14, [some (.ref 38)], [.ref 38], hK 40 I01 38) = X (d + 2) none 73 (17, [some (.ref 38)], [.int 400, .ref 38], hK 40 I01 38) := X_sp d_73_14 (by decide)
theorem q_279 : X (d + 2) none 73 (17, [some (.ref 38)], [.int 400, .ref 38], hK 40 I01 38) = X (d + 2) none 73 (19, [some (.ref 38)], [.ref 40, .ref 38], hK 41 I01 38) := K_arr (tag := 0) d_73_17 rfl (fun _ _ _ => rfl) (by decide) (by decide) rfl rfl (fun _ => rfl) rfl
theorem q_280 : X (d + 2) none 73 (19, [some (.ref 38)], [.ref 40, .ref 38], hK 41 I01 38) = X (d + 2) none 73 (22, [some (.ref 38)], [], hK 41 I01 39) := K_pR d_73_19 (by decide +kernel) rfl rfl (by decide) (by decide +kernel) rfl
theorem q_281 : X (d + 2) none 73 (22, [some (.ref 38)], [], hK 41 I01 39) = X (d + 2) none 73 (23, [some (.ref 38)], [.ref 38], hK 41 I01 39) := X_op d_73_22 rfl rfl
theorem q_282 : X (d + 2) none 73 (23, [some (.ref 38)], [.ref 38], hK 41 I01 39) = X (d + 2) none 73 (26, [some (.ref 38)], [.int 400, .ref 38], hK 41 I01 39) := X_sp d_73_23 (by decide)
theorem q_283 : X (d + 2) none 73 (26, [some (.ref 38)], [.int 400, .ref 38], hK 41 I01 39) = X (d + 2) none 73 (28, [some (.ref 38)], [.ref 41, .ref 38], hK 42 I01 39) := K_arr (tag := 1) d_73_26 rfl (fun _ _ _ => rfl) (by decide) (by decide) rfl rfl (fun _ => rfl) rfl
theorem q_284 : X (d + 2) none 73 (28, [some (.ref 38)], [.ref 41, .ref 38], hK 42 I01 39) = X (d + 2) none 73 (31, [some (.ref 38)], [], hK 42 I01 40) := K_pR d_73_28 (by decide +kernel) rfl rfl (by decide) (by decide +kernel) rfl
theorem q_285 : X (d + 2) none 73 (31, [some (.ref 38)], [], hK 42 I01 40) = X (d + 2) none 73 (32, [some (.ref 38)], [.ref 38], hK 42 I01 40) := X_op d_73_31 rfl rfl
theorem q_286 : X (d + 2) none 73 (32, [some (.ref 38)], [.ref 38], hK 42 I01 40) = X (d + 2) none 73 (34, [some (.ref 38)], [.int 6, .ref 38], hK 42 I01 40) := X_bp d_73_32 (by decide)
theorem q_287 : X (d + 2) none 73 (34, [some (.ref 38)], [.int 6, .ref 38], hK 42 I01 40) = X (d + 2) none 73 (36, [some (.ref 38)], [.ref 42, .ref 38], hK 43 I01 40) := K_arr (tag := 2) d_73_34 rfl (fun _ _ _ => rfl) (by decide) (by decide) rfl rfl (fun _ => rfl) rfl
theorem q_288 : X (d + 2) none 73 (36, [some (.ref 38)], [.ref 42, .ref 38], hK 43 I01 40) = X (d + 2) none 73 (39, [some (.ref 38)], [], hK 43 I01 41) := K_pR d_73_36 (by decide +kernel) rfl rfl (by decide) (by decide +kernel) rfl
theorem q_289 : X (d + 2) none 73 (39, [some (.ref 38)], [], hK 43 I01 41) = X (d + 2) none 73 (40, [some (.ref 38)], [.ref 38], hK 43 I01 41) := X_op d_73_39 rfl rfl
theorem q_290 : X (d + 2) none 73 (40, [some (.ref 38)], [.ref 38], hK 43 I01 41) = X (d + 2) none 73 (42, [some (.ref 38)], [.int 36, .ref 38], hK 43 I01 41) := X_bp d_73_40 (by decide)
theorem q_291 : X (d + 2) none 73 (42, [some (.ref 38)], [.int 36, .ref 38], hK 43 I01 41) = X (d + 2) none 73 (44, [some (.ref 38)], [.ref 43, .ref 38], hK 44 I01 41) := K_arr (tag := 2) d_73_42 rfl (fun _ _ _ => rfl) (by decide) (by decide) rfl rfl (fun _ => rfl) rfl
theorem q_292 : X (d + 2) none 73 (44, [some (.ref 38)], [.ref 43, .ref 38], hK 44 I01 41) = X (d + 2) none 73 (47, [some (.ref 38)], [], hK 44 I01 42) := K_pR d_73_44 (by decide +kernel) rfl rfl (by decide) (by decide +kernel) rfl
theorem q_293 : X (d + 2) none 73 (47, [some (.ref 38)], [], hK 44 I01 42) = X (d + 2) none 73 (48, [some (.ref 38)], [.ref 38], hK 44 I01 42) := X_op d_73_47 rfl rfl
theorem q_294 : X (d + 2) none 73 (48, [some (.ref 38)], [.ref 38], hK 44 I01 42) = X (d + 2) none 73 (50, [some (.ref 38)], [.int 6, .ref 38], hK 44 I01 42) := X_bp d_73_48 (by decide)
theorem q_295 : X (d + 2) none 73 (50, [some (.ref 38)], [.int 6, .ref 38], hK 44 I01 42) = X (d + 2) none 73 (52, [some (.ref 38)], [.ref 44, .ref 38], hK 45 I01 42) := K_arr (tag := 0) d_73_50 rfl (fun _ _ _ => rfl) (by decide) (by decide) rfl rfl (fun _ => rfl) rfl
theorem q_296 : X (d + 2) none 73 (52, [some (.ref 38)], [.ref 44, .ref 38], hK 45 I01 42) = X (d + 2) none 73 (55, [some (.ref 38)], [], hK 45 I01 43) := K_pR d_73_52 (by decide +kernel) rfl rfl (by decide) (by decide +kernel) rfl
theorem q_297 : X (d + 2) none 73 (55, [some (.ref 38)], [], hK 45 I01 43) = X (d + 2) none 73 (56, [some (.ref 38)], [.ref 38], hK 45 I01 43) := X_op d_73_55 rfl rfl
theorem q_298 : X (d + 2) none 73 (56, [some (.ref 38)], [.ref 38], hK 45 I01 43) = X (d + 2) none 73 (59, [some (.ref 38)], [.int 2400, .ref 38], hK 45 I01 43) := X_sp d_73_56 (by decide)
theorem q_299 : X (d + 2) none 73 (59, [some (.ref 38)], [.int 2400, .ref 38], hK 45 I01 43) = X (d + 2) none 73 (61, [some (.ref 38)], [.ref 45, .ref 38], hK 46 I01 43) := K_arr (tag := 1) d_73_59 rfl (fun _ _ _ => rfl) (by decide) (by decide) rfl rfl (fun _ => rfl) rfl
theorem q_300 : X (d + 2) none 73 (61, [some (.ref 38)], [.ref 45, .ref 38], hK 46 I01 43) = X (d + 2) none 73 (64, [some (.ref 38)], [], hK 46 I01 44) := K_pR d_73_61 (by decide +kernel) rfl rfl (by decide) (by decide +kernel) rfl
theorem q_301 : X (d + 2) none 73 (64, [some (.ref 38)], [], hK 46 I01 44) = X (d + 2) none 73 (65, [some (.ref 38)], [.ref 38], hK 46 I01 44) := X_op d_73_64 rfl rfl
theorem q_302 : X (d + 2) none 73 (65, [some (.ref 38)], [.ref 38], hK 46 I01 44) = X (d + 2) none 73 (68, [some (.ref 38)], [.int 130, .ref 38], hK 46 I01 44) := X_sp d_73_65 (by decide)
theorem q_303 : X (d + 2) none 73 (68, [some (.ref 38)], [.int 130, .ref 38], hK 46 I01 44) = X (d + 2) none 73 (70, [some (.ref 38)], [.ref 46, .ref 38], hK 47 I01 44) := K_arr (tag := 2) d_73_68 rfl (fun _ _ _ => rfl) (by decide) (by decide) rfl rfl (fun _ => rfl) rfl
theorem q_304 : X (d + 2) none 73 (70, [some (.ref 38)], [.ref 46, .ref 38], hK 47 I01 44) = X (d + 2) none 73 (73, [some (.ref 38)], [], hK 47 I01 45) := K_pR d_73_70 (by decide +kernel) rfl rfl (by decide) (by decide +kernel) rfl
theorem q_305 : X (d + 2) none 73 (73, [some (.ref 38)], [], hK 47 I01 45) = X (d + 2) none 73 (74, [some (.ref 38)], [.ref 38], hK 47 I01 45) := X_op d_73_73 rfl rfl
theorem q_306 : X (d + 2) none 73 (74, [some (.ref 38)], [.ref 38], hK 47 I01 45) = X (d + 2) none 73 (77, [some (.ref 38)], [.int 130, .ref 38], hK 47 I01 45) := X_sp d_73_74 (by decide)
theorem q_307 : X (d + 2) none 73 (77, [some (.ref 38)], [.int 130, .ref 38], hK 47 I01 45) = X (d + 2) none 73 (79, [some (.ref 38)], [.ref 47, .ref 38], hK 48 I01 45) := K_arr (tag := 2) d_73_77 rfl (fun _ _ _ => rfl) (by decide) (by decide) rfl rfl (fun _ => rfl) rfl
theorem q_308 : X (d + 2) none 73 (79, [some (.ref 38)], [.ref 47, .ref 38], hK 48 I01 45) = X (d + 2) none 73 (82, [some (.ref 38)], [], hK 48 I01 46) := K_pR d_73_79 (by decide +kernel) rfl rfl (by decide) (by decide +kernel) rfl
theorem q_309 : X (d + 2) none 73 (82, [some (.ref 38)], [], hK 48 I01 46) = X (d + 2) none 73 (83, [some (.ref 38)], [.ref 38], hK 48 I01 46) := X_op d_73_82 rfl rfl
theorem q_310 : X (d + 2) none 73 (83, [some (.ref 38)], [.ref 38], hK 48 I01 46) = X (d + 2) none 73 (86, [some (.ref 38)], [.int 130, .ref 38], hK 48 I01 46) := X_sp d_73_83 (by decide)
theorem q_311 : X (d + 2) none 73 (86, [some (.ref 38)], [.int 130, .ref 38], hK 48 I01 46) = X (d + 2) none 73 (88, [some (.ref 38)], [.ref 48, .ref 38], hK 49 I01 46) := K_arr (tag := 2) d_73_86 rfl (fun _ _ _ => rfl) (by decide) (by decide) rfl rfl (fun _ => rfl) rfl
theorem q_312 : X (d + 2) none 73 (88, [some (.ref 38)], [.ref 48, .ref 38], hK 49 I01 46) = X (d + 2) none 73 (91, [some (.ref 38)], [], hK 49 I01 47) := K_pR d_73_88 (by decide +kernel) rfl rfl (by decide) (by decide +kernel) rfl
theorem q_313 : X (d + 2) none 73 (91, [some (.ref 38)], [], hK 49 I01 47) = X (d + 2) none 73 (92, [some (.ref 38)], [.ref 38], hK 49 I01 47) := X_op d_73_91 rfl rfl
theorem q_314 : X (d + 2) none 73 (92, [some (.ref 38)], [.ref 38], hK 49 I01 47) = X (d + 2) none 73 (95, [some (.ref 38)], [.int 130, .ref 38], hK 49 I01 47) := X_sp d_73_92 (by decide)
theorem q_315 : X (d + 2) none 73 (95, [some (.ref 38)], [.int 130, .ref 38], hK 49 I01 47) = X (d + 2) none 73 (97, [some (.ref 38)], [.ref 49, .ref 38], hK 50 I01 47) := K_arr (tag := 2) d_73_95 rfl (fun _ _ _ => rfl) (by decide) (by decide) rfl rfl (fun _ => rfl) rfl
theorem q_316 : X (d + 2) none 73 (97, [some (.ref 38)], [.ref 49, .ref 38], hK 50 I01 47) = X (d + 2) none 73 (100, [some (.ref 38)], [], hK 50 I01 48) := K_pR d_73_97 (by decide +kernel) rfl rfl (by decide) (by decide +kernel) rfl
theorem q_317 : X (d + 2) none 73 (100, [some (.ref 38)], [], hK 50 I01 48) = X (d + 2) none 73 (101, [some (.ref 38)], [.ref 38], hK 50 I01 48) := X_op d_73_100 rfl rfl
theorem q_318 : X (d + 2) none 73 (101, [some (.ref 38)], [.ref 38], hK 50 I01 48) = X (d + 2) none 73 (104, [some (.ref 38)], [.int 400, .ref 38], hK 50 I01 48) := X_sp d_73_101 (by decide)
theorem q_319 : X (d + 2) none 73 (104, [some (.ref 38)], [.int 400, .ref 38], hK 50 I01 48) = X (d + 2) none 73 (106, [some (.ref 38)], [.ref 50, .ref 38], hK 51 I01 48) := K_arr (tag := 0) d_73_104 rfl (fun _ _ _ => rfl) (by decide) (by decide) rfl rfl (fun _ => rfl) rfl
theorem q_320 : X (d + 2) none 73 (106, [some (.ref 38)], [.ref 50, .ref 38], hK 51 I01 48) = X (d + 2) none 73 (109, [some (.ref 38)], [], hK 51 I01 49) := K_pR d_73_106 (by decide +kernel) rfl rfl (by decide) (by decide +kernel) rfl
theorem q_321 : X (d + 2) none 73 (109, [some (.ref 38)], [], hK 51 I01 49) = X (d + 2) none 73 (110, [some (.ref 38)], [.ref 38], hK 51 I01 49) := X_op d_73_109 rfl rfl
theorem q_322 : X (d + 2) none 73 (110, [some (.ref 38)], [.ref 38], hK 51 I01 49) = X (d + 2) none 73 (111, [some (.ref 38)], [.int (-1), .ref 38], hK 51 I01 49) := X_ic d_73_110 (by decide)
theorem q_323 : X (d + 2) none 73 (111, [some (.ref 38)], [.int (-1), .ref 38], hK 51 I01 49) = X (d + 2) none 73 (114, [some (.ref 38)], [], hK 51 I02 49) := K_pI d_73_111 (by decide +kernel) rfl rfl (by decide) (by decide +kernel)
theorem q_324 : X (d + 2) none 73 (114, [some (.ref 38)], [], hK 51 I02 49) = some (none, hK 51 I02 49) := X_rt d_73_114 rfl rfl
theorem q_325 : X (d + 2) none 73 (0, [some (.ref 38)], [], hK 39 I01 37) = some (none, hK 51 I02 49) := q_271.trans (q_272.trans (q_273.trans (q_274.trans (q_275.trans (q_276.trans (q_277.trans (q_278.trans (q_279.trans (q_280.trans (q_281.trans (q_282.trans (q_283.trans (q_284.trans (q_285.trans (q_286.trans (q_287.trans (q_288.trans (q_289.trans (q_290.trans (q_291.trans (q_292.trans (q_293.trans (q_294.trans (q_295.trans (q_296.trans (q_297.trans (q_298.trans (q_299.trans (q_300.trans (q_301.trans (q_302.trans (q_303.trans (q_304.trans (q_305.trans (q_306.trans (q_307.trans (q_308.trans (q_309.trans (q_310.trans (q_311.trans (q_312.trans (q_313.trans (q_314.trans (q_315.trans (q_316.trans (q_317.trans (q_318.trans (q_319.trans (q_320.trans (q_321.trans (q_322.trans (q_323.trans (q_324)))))))))))))))))))))))))))))))))))))))))))))))))))))
theorem q_326 : X (d + 3) scr 0 (12, [some (.ref xS), some (.ref 0), none, none], [.ref 38, .ref 38], hK 39 I01 37) = X (d + 3) scr 0 (15, [some (.ref xS), some (.ref 0), none, none], [.ref 38], hK 51 I02 49) := K_call (kd := 2) d_0_12 (by decide +kernel) (by decide) rfl (by decide) (by decide) rfl q_325
theorem q_327 : X (d + 3) scr 0 (15, [some (.ref xS), some (.ref 0), none, none], [.ref 38], hK 51 I02 49) = X (d + 3) scr 0 (16, [some (.ref xS), some (.ref 0), some (.ref 38), none], [], hK 51 I02 49) := X_op d_0_15 rfl rfl
theorem q_328 : X (d + 3) scr 0 (16, [some (.ref xS), some (.ref 0), some (.ref 38), none], [], hK 51 I02 49) = X (d + 3) scr 0 (17, [some (.ref xS), some (.ref 0), some (.ref 38), none], [.int 0], hK 51 I02 49) := X_ic d_0_16 (by decide)
theorem q_329 : X (d + 3) scr 0 (17, [some (.ref xS), some (.ref 0), some (.ref 38), none], [.int 0], hK 51 I02 49) = X (d + 3) scr 0 (18, [some (.ref xS), some (.ref 0), some (.ref 38), some (.int 0)], [], hK 51 I02 49) := X_op d_0_17 rfl rfl
theorem q_330 : X (d + 3) scr 0 (0, [some (.ref xS), none, none, none], [], hK 0 I00 0) = X (d + 3) scr 0 (18, [some (.ref xS), some (.ref 0), some (.ref 38), some (.int 0)], [], hK 51 I02 49) := q_1.trans (q_2.trans (q_267.trans (q_268.trans (q_269.trans (q_270.trans (q_326.trans (q_327.trans (q_328.trans (q_329)))))))))
theorem k_top : X (d + 3) scr 0 (0, [some (.ref xS), none, none, none], [], hK 0 I00 0) = X (d + 3) scr 0 (18, [some (.ref xS), some (.ref 0), some (.ref 38), some (.int 0)], [], hK 51 I02 49) := q_330
end KQ
