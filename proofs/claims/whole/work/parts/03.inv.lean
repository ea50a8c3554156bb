theorem x_no {α : Type} {r : α} {P : Prop} (h : (none : Option α) = some r) : P := by cases h
section XI
variable {pc k n : Nat} {ls : xLs} {st : List Value} {h : xHp} {r : xRs} {j : Nat} {scr : xScr}
theorem xldI_inv (q : xldI k pc ls st h = some r) : ∃ x, ls[k]? = some (some (.int x)) ∧ r = .inl (pc, ls, .int x :: st, h) := by
  unfold xldI at q
  split at q
  · next hl => cases q; exact ⟨_, hl, rfl⟩
  · cases q
theorem xldL_inv (q : xldL k pc ls st h = some r) : ∃ x, ls[k]? = some (some (.long x)) ∧ r = .inl (pc, ls, .long x :: st, h) := by
  unfold xldL at q
  split at q
  · next hl => cases q; exact ⟨_, hl, rfl⟩
  · cases q
theorem xldA_inv (q : xldA k pc ls st h = some r) : ∃ x, ls[k]? = some (some (.ref x)) ∧ r = .inl (pc, ls, .ref x :: st, h) := by
  unfold xldA at q
  split at q
  · next hl => cases q; exact ⟨_, hl, rfl⟩
  · cases q
theorem xstI_inv (q : xstI k pc ls st h = some r) : ∃ x st', xok ls k = true ∧ st = .int x :: st' ∧ r = .inl (pc, ls.set k (some (.int x)), st', h) := by
  unfold xstI at q
  split at q
  · split at q
    · next hh => cases q; exact ⟨_, _, hh, rfl, rfl⟩
    · cases q
  · cases q
theorem xstA_inv (q : xstA k pc ls st h = some r) : ∃ x st', xok ls k = true ∧ st = .ref x :: st' ∧ r = .inl (pc, ls.set k (some (.ref x)), st', h) := by
  unfold xstA at q
  split at q
  · split at q
    · next hh => cases q; exact ⟨_, _, hh, rfl, rfl⟩
    · cases q
  · cases q
theorem xstL_inv (q : xstL k pc ls st h = some r) : ∃ x st', xok ls k = true ∧ k + 1 < ls.length ∧ st = .long x :: st' ∧ r = .inl (pc, (ls.set k (some (.long x))).set (k + 1) none, st', h) := by
  unfold xstL at q
  split at q
  · split at q
    · next hh => cases q; exact ⟨_, _, hh.1, hh.2, rfl, rfl⟩
    · cases q
  · cases q
theorem xinc_inv {v : Int} (q : xinc k v pc ls st h = some r) : ∃ x, ls[k]? = some (some (.int x)) ∧ xok ls k = true ∧ r = .inl (pc, ls.set k (some (.int (x + Int32.ofInt v))), st, h) := by
  unfold xinc at q
  split at q
  · next hl =>
    split at q
    · next hh => cases q; exact ⟨_, hl, hh, rfl⟩
    · cases q
  · cases q
theorem xI1_inv {f : Int32 → Int32} (q : xI1 f pc ls st h = some r) : ∃ x st', st = .int x :: st' ∧ r = .inl (pc, ls, .int (f x) :: st', h) := by
  unfold xI1 at q
  split at q
  · cases q; exact ⟨_, _, rfl, rfl⟩
  · cases q
theorem xIL_inv {f : Int32 → Int64} (q : xIL f pc ls st h = some r) : ∃ x st', st = .int x :: st' ∧ r = .inl (pc, ls, .long (f x) :: st', h) := by
  unfold xIL at q
  split at q
  · cases q; exact ⟨_, _, rfl, rfl⟩
  · cases q
theorem xLI_inv {f : Int64 → Int32} (q : xLI f pc ls st h = some r) : ∃ x st', st = .long x :: st' ∧ r = .inl (pc, ls, .int (f x) :: st', h) := by
  unfold xLI at q
  split at q
  · cases q; exact ⟨_, _, rfl, rfl⟩
  · cases q
theorem xI2_inv {f : Int32 → Int32 → Int32} (q : xI2 f pc ls st h = some r) : ∃ x y st', st = .int y :: .int x :: st' ∧ r = .inl (pc, ls, .int (f x y) :: st', h) := by
  unfold xI2 at q
  split at q
  · cases q; exact ⟨_, _, _, rfl, rfl⟩
  · cases q
theorem xID_inv {f : Int32 → Int32 → Int32} (q : xID f pc ls st h = some r) : ∃ x y st', ¬ y = 0 ∧ st = .int y :: .int x :: st' ∧ r = .inl (pc, ls, .int (f x y) :: st', h) := by
  unfold xID at q
  split at q
  · split at q
    · cases q
    · next hh => cases q; exact ⟨_, _, _, hh, rfl, rfl⟩
  · cases q
theorem xL2_inv {f : Int64 → Int64 → Int64} (q : xL2 f pc ls st h = some r) : ∃ x y st', st = .long y :: .long x :: st' ∧ r = .inl (pc, ls, .long (f x y) :: st', h) := by
  unfold xL2 at q
  split at q
  · cases q; exact ⟨_, _, _, rfl, rfl⟩
  · cases q
theorem xLC_inv (q : xLC pc ls st h = some r) : ∃ x y st', st = .long y :: .long x :: st' ∧ r = .inl (pc, ls, .int (lg_cmp x y) :: st', h) := by
  unfold xLC at q
  split at q
  · cases q; exact ⟨_, _, _, rfl, rfl⟩
  · cases q
theorem xLS_inv {f : Int64 → Int32 → Int64} (q : xLS f pc ls st h = some r) : ∃ x y st', st = .int y :: .long x :: st' ∧ r = .inl (pc, ls, .long (f x y) :: st', h) := by
  unfold xLS at q
  split at q
  · cases q; exact ⟨_, _, _, rfl, rfl⟩
  · cases q
theorem xdup_inv (q : xdup pc ls st h = some r) : ∃ v st', v.category = 1 ∧ st = v :: st' ∧ r = .inl (pc, ls, v :: v :: st', h) := by
  unfold xdup at q
  split at q
  · split at q
    · next hh => cases q; exact ⟨_, _, hh, rfl, rfl⟩
    · cases q
  · cases q
theorem xdup2_inv (q : xdup2 pc ls st h = some r) : ∃ v w st', v.category = 1 ∧ w.category = 1 ∧ st = v :: w :: st' ∧ r = .inl (pc, ls, v :: w :: v :: w :: st', h) := by
  unfold xdup2 at q
  split at q
  · split at q
    · next hh => cases q; exact ⟨_, _, _, hh.1, hh.2, rfl, rfl⟩
    · cases q
  · cases q
theorem xj_inv {off : Int} (q : xj pc off ls st h = some r) : ∃ tgt : Nat, (pc : Int) + off = (tgt : Int) ∧ r = .inl (tgt, ls, st, h) := by
  unfold xj at q
  split at q
  · cases q; exact ⟨((pc : Int) + off).toNat, by omega, rfl⟩
  · cases q
theorem xif_inv {cd : ClassFile.Cond} {x y : Int32} {off : Int} (q : xif cd x y off pc ls st h = some r) : ∃ tgt : Nat, (pc : Int) + off = (tgt : Int) ∧ ((xcond cd x y = true ∧ r = .inl (tgt, ls, st, h)) ∨ (xcond cd x y = false ∧ r = .inl (pc + 3, ls, st, h))) := by
  unfold xif at q
  split at q
  · refine ⟨((pc : Int) + off).toNat, by omega, ?_⟩
    split at q
    · next hh => cases q; exact Or.inl ⟨hh, rfl⟩
    · next hh => cases q; exact Or.inr ⟨by simpa using hh, rfl⟩
  · cases q
theorem xif0_inv {cd : ClassFile.Cond} {off : Int} (q : xif0 cd off pc ls st h = some r) : ∃ x st', st = .int x :: st' ∧ xif cd x 0 off pc ls st' h = some r := by
  unfold xif0 at q
  split at q
  · exact ⟨_, _, rfl, q⟩
  · cases q
theorem xif2_inv {cd : ClassFile.Cond} {off : Int} (q : xif2 cd off pc ls st h = some r) : ∃ x y st', st = .int y :: .int x :: st' ∧ xif cd x y off pc ls st' h = some r := by
  unfold xif2 at q
  split at q
  · exact ⟨_, _, _, rfl, q⟩
  · cases q
theorem xtab_inv {dflt lo hi : Int} {offs : Array Int} (q : xtab dflt lo hi offs pc ls st h = some r) : ∃ x st', st = .int x :: st' ∧ (((x.toInt < lo ∨ hi < x.toInt) ∧ xj pc dflt ls st' h = some r) ∨ (¬ x.toInt < lo ∧ ¬ hi < x.toInt ∧ ∃ off, offs[(x.toInt - lo).toNat]? = some off ∧ xj pc off ls st' h = some r)) := by
  unfold xtab at q
  split at q
  · split at q
    · next hh => exact ⟨_, _, rfl, Or.inl ⟨hh, q⟩⟩
    · next hh =>
      split at q
      · next ho => exact ⟨_, _, rfl, Or.inr ⟨fun z => hh (Or.inl z), fun z => hh (Or.inr z), _, ho, q⟩⟩
      · cases q
  · cases q
theorem xlook_inv {dflt : Int} {ps : Array (Int × Int)} (q : xlook dflt ps pc ls st h = some r) : ∃ x st', st = .int x :: st' ∧ (ps.toList.zip (ps.toList.drop 1)).all (fun (a, next) => a.1 < next.1) = true ∧ xj pc (Op.lookupswitch.offset ps.toList dflt x.toInt) ls st' h = some r := by
  unfold xlook at q
  split at q
  · split at q
    · next hh => exact ⟨_, _, rfl, hh, q⟩
    · cases q
  · cases q
theorem xgetf_inv {w : Option (Nat × Nat)} (q : xgetf w pc ls st h = some r) : ∃ ci k a st' t, w = some (ci, k) ∧ st = .ref a :: st' ∧ h.1[a]? = some t ∧ t.1 = ci + 4 ∧ k < t.2 ∧ r = .inl (pc, ls, xfv h a k (xFK ci k) :: st', h) := by
  unfold xgetf at q
  split at q
  · split at q
    · next ht =>
      split at q
      · next hh => cases q; exact ⟨_, _, _, _, _, rfl, rfl, ht, hh.1, hh.2, rfl⟩
      · cases q
    · cases q
  · cases q
theorem xputf_inv {w : Option (Nat × Nat)} (q : xputf j w pc ls st h = some r) : ∃ ci k v a st' t h', w = some (ci, k) ∧ st = v :: .ref a :: st' ∧ h.1[a]? = some t ∧ xputv (xFK ci k) k v a h = some h' ∧ t.1 = ci + 4 ∧ k < t.2 ∧ (xFn ci k = true → xIni j = some ci) ∧ r = .inl (pc, ls, st', h') := by
  unfold xputf at q
  split at q
  · split at q
    · next ht hv =>
      split at q
      · next hh => cases q; exact ⟨_, _, _, _, _, _, _, rfl, rfl, ht, hv, hh.1, hh.2.1, hh.2.2, rfl⟩
      · cases q
    · cases q
  · cases q
theorem xnewc_inv {w : Option (Nat × Nat)} (q : xnewc w pc ls st h = some r) : ∃ ci n, w = some (ci, n) ∧ r = .inl (pc, ls, .ref h.1.length :: st, xnew (ci + 4) n h) := by
  unfold xnewc at q
  split at q
  · cases q; exact ⟨_, _, rfl, rfl⟩
  · cases q
theorem xnewa_inv {tag : Nat} (q : xnewa tag pc ls st h = some r) : ∃ i st', st = .int i :: st' ∧ ¬ i < 0 ∧ i.toNatClampNeg ≤ 100000 ∧ r = .inl (pc, ls, .ref h.1.length :: st', xnew tag i.toNatClampNeg h) := by
  unfold xnewa at q
  split at q
  · split at q
    · cases q
    · next hh => cases q; exact ⟨_, _, rfl, fun z => hh (Or.inl z), Nat.le_of_not_lt fun z => hh (Or.inr z), rfl⟩
  · cases q
theorem xlen_inv (q : xlen scr pc ls st h = some r) : ∃ a st', st = .ref a :: st' ∧ ((∃ t, h.1[a]? = some t ∧ t.1 < 4 ∧ r = .inl (pc, ls, .int (Int32.ofNat t.2) :: st', h)) ∨ (a = xS ∧ ∃ w, scr = some w ∧ r = .inl (pc, ls, .int (Int32.ofNat w.1) :: st', h))) := by
  unfold xlen at q
  split at q
  · refine ⟨_, _, rfl, ?_⟩
    split at q
    · next ht =>
      split at q
      · next hh => cases q; exact Or.inl ⟨_, ht, hh, rfl⟩
      · cases q
    · split at q
      · next ha =>
        split at q
        · cases q; exact Or.inr ⟨ha, _, rfl, rfl⟩
        · cases q
      · cases q
  · cases q
theorem xIaload_inv (q : xIaload scr pc ls st h = some r) : ∃ i a st', st = .int i :: .ref a :: st' ∧ ((∃ t, h.1[a]? = some t ∧ t.1 = 0 ∧ vp_in i t.2 ∧ r = .inl (pc, ls, .int (h.2.1 a i.toNatClampNeg) :: st', h)) ∨ (a = xS ∧ ∃ w, scr = some w ∧ vp_in i w.1 ∧ r = .inl (pc, ls, .int (w.2 i.toNatClampNeg) :: st', h))) := by
  unfold xIaload at q
  split at q
  · refine ⟨_, _, _, rfl, ?_⟩
    split at q
    · next ht =>
      split at q
      · next hh => cases q; exact Or.inl ⟨_, ht, hh.1, hh.2, rfl⟩
      · cases q
    · split at q
      · next ha =>
        split at q
        · split at q
          · next hh => cases q; exact Or.inr ⟨ha, _, rfl, hh, rfl⟩
          · cases q
        · cases q
      · cases q
  · cases q
theorem xBaload_inv (q : xBaload pc ls st h = some r) : ∃ i a st' t, st = .int i :: .ref a :: st' ∧ h.1[a]? = some t ∧ t.1 = 1 ∧ vp_in i t.2 ∧ r = .inl (pc, ls, .int (h.2.1 a i.toNatClampNeg) :: st', h) := by
  unfold xBaload at q
  split at q
  · split at q
    · next ht =>
      split at q
      · next hh => cases q; exact ⟨_, _, _, _, rfl, ht, hh.1, hh.2, rfl⟩
      · cases q
    · cases q
  · cases q
theorem xLaload_inv (q : xLaload pc ls st h = some r) : ∃ i a st' t, st = .int i :: .ref a :: st' ∧ h.1[a]? = some t ∧ t.1 = 2 ∧ vp_in i t.2 ∧ r = .inl (pc, ls, .long (h.2.2.1 a i.toNatClampNeg) :: st', h) := by
  unfold xLaload at q
  split at q
  · split at q
    · next ht =>
      split at q
      · next hh => cases q; exact ⟨_, _, _, _, rfl, ht, hh.1, hh.2, rfl⟩
      · cases q
    · cases q
  · cases q
theorem xAaload_inv (q : xAaload pc ls st h = some r) : ∃ i a st' t, st = .int i :: .ref a :: st' ∧ h.1[a]? = some t ∧ t.1 = 3 ∧ vp_in i t.2 ∧ r = .inl (pc, ls, va_rf (h.2.2.2 a i.toNatClampNeg) :: st', h) := by
  unfold xAaload at q
  split at q
  · split at q
    · next ht =>
      split at q
      · next hh => cases q; exact ⟨_, _, _, _, rfl, ht, hh.1, hh.2, rfl⟩
      · cases q
    · cases q
  · cases q
theorem xIastore_inv (q : xIastore pc ls st h = some r) : ∃ x i a st' t, st = .int x :: .int i :: .ref a :: st' ∧ h.1[a]? = some t ∧ t.1 = 0 ∧ vp_in i t.2 ∧ r = .inl (pc, ls, st', (h.1, xu h.2.1 a i.toNatClampNeg x, h.2.2)) := by
  unfold xIastore at q
  split at q
  · split at q
    · next ht =>
      split at q
      · next hh => cases q; exact ⟨_, _, _, _, _, rfl, ht, hh.1, hh.2, rfl⟩
      · cases q
    · cases q
  · cases q
theorem xBastore_inv (q : xBastore pc ls st h = some r) : ∃ x i a st' t, st = .int x :: .int i :: .ref a :: st' ∧ h.1[a]? = some t ∧ t.1 = 1 ∧ vp_in i t.2 ∧ r = .inl (pc, ls, st', (h.1, xu h.2.1 a i.toNatClampNeg (vp_nar .boolean x), h.2.2)) := by
  unfold xBastore at q
  split at q
  · split at q
    · next ht =>
      split at q
      · next hh => cases q; exact ⟨_, _, _, _, _, rfl, ht, hh.1, hh.2, rfl⟩
      · cases q
    · cases q
  · cases q
theorem xLastore_inv (q : xLastore pc ls st h = some r) : ∃ x i a st' t, st = .long x :: .int i :: .ref a :: st' ∧ h.1[a]? = some t ∧ t.1 = 2 ∧ vp_in i t.2 ∧ r = .inl (pc, ls, st', (h.1, h.2.1, xu h.2.2.1 a i.toNatClampNeg x, h.2.2.2)) := by
  unfold xLastore at q
  split at q
  · split at q
    · next ht =>
      split at q
      · next hh => cases q; exact ⟨_, _, _, _, _, rfl, ht, hh.1, hh.2, rfl⟩
      · cases q
    · cases q
  · cases q
theorem xAastore_inv (q : xAastore pc ls st h = some r) : ∃ r' i a st' t t', st = .ref r' :: .int i :: .ref a :: st' ∧ h.1[a]? = some t ∧ h.1[r']? = some t' ∧ t.1 = 3 ∧ vp_in i t.2 ∧ t'.1 = xST + 4 ∧ r = .inl (pc, ls, st', (h.1, h.2.1, h.2.2.1, xu h.2.2.2 a i.toNatClampNeg (some r'))) := by
  unfold xAastore at q
  split at q
  · split at q
    · next ht ht' =>
      split at q
      · next hh => cases q; exact ⟨_, _, _, _, _, _, rfl, ht, ht', hh.1, hh.2.1, hh.2.2, rfl⟩
      · cases q
    · cases q
  · cases q
theorem xinst_inv {ci : Nat} (q : xinst k n ci pc ls st h = some r) : ∃ a rest t, st.drop n = .ref a :: rest ∧ h.1[a]? = some t ∧ t.1 = ci + 4 ∧ xcat rest ≤ 8 ∧ (xarg (.ref a :: (st.take n).reverse)).length ≤ xnL k ∧ r = .inr (.inl (k, .ref a :: (st.take n).reverse, (pc, ls, rest, h))) := by
  unfold xinst at q
  split at q
  · next hd =>
    split at q
    · next ht =>
      split at q
      · next hh => cases q; exact ⟨_, _, _, hd, ht, hh.1, hh.2.1, hh.2.2, rfl⟩
      · cases q
    · cases q
  · cases q
theorem xcallV_inv {w : Option (Nat × Nat × Nat × Nat)} (q : xcallV w pc ls st h = some r) : ∃ k n ci, w = some (0, k, n, ci) ∧ xinst k n ci pc ls st h = some r := by
  unfold xcallV at q
  split at q
  · exact ⟨_, _, _, rfl, q⟩
  · cases q
theorem xcallI_inv {w : Option (Nat × Nat × Nat × Nat)} (q : xcallI w pc ls st h = some r) : (∃ k n ci, w = some (2, k, n, ci) ∧ xinst k n ci pc ls st h = some r) ∨ (∃ k n ci, w = some (6, k, n, ci) ∧ xinst k n ci pc ls st h = some r) ∨ (∃ k n ci a rest, w = some (3, k, n, ci) ∧ st = .ref a :: rest ∧ xcat rest ≤ 8 ∧ r = .inl (pc, ls, rest, h)) := by
  unfold xcallI at q
  split at q
  · exact Or.inl ⟨_, _, _, rfl, q⟩
  · exact Or.inr (Or.inl ⟨_, _, _, rfl, q⟩)
  · refine Or.inr (Or.inr ?_)
    split at q
    · split at q
      · next hh => cases q; exact ⟨_, _, _, _, _, rfl, rfl, hh, rfl⟩
      · cases q
    · cases q
  · cases q
theorem xcallS_inv {w : Option (Nat × Nat × Nat × Nat)} (q : xcallS w pc ls st h = some r) : (∃ k n ci, w = some (1, k, n, ci) ∧ n ≤ st.length ∧ xcat (st.drop n) ≤ 8 ∧ (xarg (st.take n).reverse).length ≤ xnL k ∧ r = .inr (.inl (k, (st.take n).reverse, (pc, ls, st.drop n, h)))) ∨ (∃ k n ci, w = some (4, k, n, ci) ∧ ∃ (n dp : Int32) (a : Nat) (sp : Int32) (a0 : Nat) (rest : List Value) (t t0 : Nat × Nat), st = .int n :: .int dp :: .ref a :: .int sp :: .ref a0 :: rest ∧ h.1[a]? = some t ∧ h.1[a0]? = some t0 ∧ t.1 = 0 ∧ t0.1 = 0 ∧ ¬ sp < 0 ∧ ¬ dp < 0 ∧ ¬ n < 0 ∧ sp.toNatClampNeg + n.toNatClampNeg ≤ t0.2 ∧ dp.toNatClampNeg + n.toNatClampNeg ≤ t.2 ∧ xcat rest ≤ 8 ∧ r = .inl (pc, ls, rest, (h.1, (fun x => if x = a then va_cpy (h.2.1 a0) (h.2.1 a) sp.toNatClampNeg dp.toNatClampNeg n.toNatClampNeg else h.2.1 x), h.2.2))) ∨ (∃ k n ci, w = some (5, k, n, ci) ∧ ∃ x y rest, st = .int y :: .int x :: rest ∧ xcat rest ≤ 8 ∧ r = .inl (pc, ls, .int (if x < y then y else x) :: rest, h)) := by
  unfold xcallS at q
  split at q
  · split at q
    · next hh => cases q; exact Or.inl ⟨_, _, _, rfl, hh.1, hh.2.1, hh.2.2, rfl⟩
    · cases q
  · refine Or.inr (Or.inl ⟨_, _, _, rfl, ?_⟩)
    split at q
    · split at q
      · next ht ht0 =>
        split at q
        · next hh =>
          obtain ⟨g1, g2, g3, g4, g5, g6, g7, g8⟩ := hh
          cases q
          exact ⟨_, _, _, _, _, _, _, _, rfl, ht, ht0, g1, g2, g3, g4, g5, g6, g7, g8, rfl⟩
        · cases q
      · cases q
    · cases q
  · refine Or.inr (Or.inr ⟨_, _, _, rfl, ?_⟩)
    split at q
    · split at q
      · next hh => cases q; exact ⟨_, _, _, rfl, hh, rfl⟩
      · cases q
    · cases q
  · cases q
theorem xIret_inv (q : xIret j st = some r) : ∃ x, st = [.int x] ∧ (xRk j = 0 ∨ (xRk j = 1 ∧ (x = 0 ∨ x = 1))) ∧ r = .inr (.inr (some (.int x))) := by
  unfold xIret at q
  split at q
  · split at q
    · next hh => cases q; exact ⟨_, rfl, hh, rfl⟩
    · cases q
  · cases q
theorem xLret_inv (q : xLret j st = some r) : ∃ x, st = [.long x] ∧ xRk j = 2 ∧ r = .inr (.inr (some (.long x))) := by
  unfold xLret at q
  split at q
  · split at q
    · next hh => cases q; exact ⟨_, rfl, hh, rfl⟩
    · cases q
  · cases q
theorem xAret_inv (q : xAret j st = some r) : ∃ x, st = [.ref x] ∧ xRk j = 3 ∧ r = .inr (.inr (some (.ref x))) := by
  unfold xAret at q
  split at q
  · split at q
    · next hh => cases q; exact ⟨_, rfl, hh, rfl⟩
    · cases q
  · cases q
theorem xVret_inv (q : xVret j st = some r) : st = [] ∧ xRk j = 4 ∧ r = .inr (.inr none) := by
  unfold xVret at q
  split at q
  · split at q
    · next hh => cases q; exact ⟨rfl, hh, rfl⟩
    · cases q
  · cases q
theorem xcK_inv {w : Option Int32} (q : xcK w pc ls st h = some r) : ∃ v, w = some v ∧ r = .inl (pc, ls, .int v :: st, h) := by
  unfold xcK at q
  split at q
  · cases q; exact ⟨_, rfl, rfl⟩
  · cases q
theorem xcJ_inv {w : Option Int64} (q : xcJ w pc ls st h = some r) : ∃ v, w = some v ∧ r = .inl (pc, ls, .long v :: st, h) := by
  unfold xcJ at q
  split at q
  · cases q; exact ⟨_, rfl, rfl⟩
  · cases q
end XI
