theorem x_arr0 {s : State} {args : Array Value} {ty : FieldType} (hp : ∀ C, ty ≠ .object C) (h : (Cond.arrayClass ty).before args s = true) : ∃ cA : ClassId, ArrOfT s cA ty ∧ va_RA s cA ty := by
  obtain ⟨c, k, comp, h1, h2, h3⟩ := Cond.arrayClass_spec h
  refine ⟨c, fun n z => ⟨fun k h => (by cases h), k, h2, comp, h3⟩, ?_⟩
  cases ty with
  | object C => exact absurd rfl (hp C)
  | _ => exact h1
theorem x_arr1 {s : State} {C : String} (h : va_AO C s) : ∃ cA : ClassId, ArrOfT s cA (.object C) ∧ va_RA s cA (.object C) := by
  obtain ⟨comp, c, k, h1, h2, h3, h4, h5⟩ := Cond.arrayOver_spec h
  exact ⟨c, fun n z => ⟨fun k h => (by cases h), k, h3, comp, h4⟩, k, comp, h3, h4, h1, h5⟩
theorem x_know {s : State} {args : Array Value} (hts : ∀ w ∈ lw_tbl, w.before args s = true) : ∃ (D : va_G) (cA : Nat → ClassId), va_K D xCl (xtys cA) s ∧ va_AO xSTn s := by
  have hw : ∀ w ∈ xgw, w.before args s = true := fun w h => hts w (List.mem_filter.mp h).1
  have hib : ∀ ci, ci < 7 → (Cond.instantiable (xCN ci) (xNF ci)).before args s = true := by
    intro ci h
    match ci, h with
    | 0, _ => exact hw _ w_ib_0
    | 1, _ => exact hw _ w_ib_1
    | 2, _ => exact hw _ w_ib_2
    | 3, _ => exact hw _ w_ib_3
    | 4, _ => exact hw _ w_ib_4
    | 5, _ => exact hw _ w_ib_5
    | 6, _ => exact hw _ w_ib_6
  have hk : ∀ ci, ∃ q : ClassId × (Nat → Nat), ci < 7 → u_Kn s (xCN ci) (xT ci) (xNF ci) q.1 q.2 := by
    intro ci
    by_cases h : ci < 7
    · obtain ⟨c, i, hc⟩ := u_known hw (f_lay h) (hib ci h)
      exact ⟨(c, i), fun _ => hc⟩
    · exact ⟨(0, fun _ => 0), fun z => absurd z h⟩
  have hao : va_AO xSTn s := va_AO.of (hts _ w_ao)
  obtain ⟨a0, b0, c0⟩ := x_arr0 (by intro C h; cases h) (hw _ f_a0)
  obtain ⟨a1, b1, c1⟩ := x_arr0 (by intro C h; cases h) (hw _ f_a1)
  obtain ⟨a2, b2, c2⟩ := x_arr0 (by intro C h; cases h) (hw _ f_a2)
  obtain ⟨a3, b3, c3⟩ := x_arr1 hao
  refine ⟨(fun ci => (Classical.choose (hk ci)).1, fun ci => (Classical.choose (hk ci)).2), fun n => if n = 0 then a0 else if n = 1 then a1 else if n = 2 then a2 else a3, ⟨fun ci q hq => ?_, fun k q hq => ?_⟩, hao⟩
  · have hlt : ci < 7 := by
      have := (List.getElem?_eq_some_iff.mp hq).1
      simpa [xCl] using this
    rw [f_cl hlt] at hq
    cases hq
    exact Classical.choose_spec (hk ci) hlt
  · have hlt : k < 4 := (List.getElem?_eq_some_iff.mp hq).1
    match k, hlt, hq with
    | 0, _, hq => cases hq; exact ⟨b0, c0⟩
    | 1, _, hq => cases hq; exact ⟨b1, c1⟩
    | 2, _, hq => cases hq; exact ⟨b2, c2⟩
    | 3, _, hq => cases hq; exact ⟨b3, c3⟩
def xh0 : xHp := ([], fun _ _ => 0, fun _ _ => 0, fun _ _ => none)
def xPure : Prop := ∀ (L : Nat) (xs : Nat → Int32), L ≤ 1536 → ∃ h' : xHp, X 7 (some (L, xs)) 0 (0, [some (.ref xS), none, none, none], [], xh0) = some (some (.int 1), h') ∧ h'.1.length ≤ 600000 ∧ xsl h'.1 ≤ 7302250
theorem whole_of (HP : xPure) {p : Program} {e : Env} {s : State} {m : MethodId} {below : List Frame} {meth : Method} {c : Code} (l : Launch) {b L : Nat} {xs : Nat → Int32} (hL : L ≤ 1536) (C0 : lw_At p s m meth c b L xs) : W p l e room_1 s m #[Value.ref b] below meth c s.heap [] 0 0 (lw_Z below #[Value.ref b] s) (entryFrame m ([Value.ref b] : List Value).toArray 4) := by
  obtain ⟨hx, hb, hr, hml, hown, hts, hX, hbl, hlocks, -⟩ := C0
  obtain ⟨h', hrun, hc1, hc2⟩ := HP L xs hL
  obtain ⟨n, hrun⟩ := X_run hrun
  obtain ⟨D, cA, hK, hAO⟩ := x_know hts
  have hctx : xCtx p room_1 s m #[Value.ref b] meth c D cA s.heap.size b 0 (some (L, xs)) 0 7 :=
    ⟨hx, hb, hml, hown, fun ci z => (by rw [show xIni 0 = none by decide +kernel] at z; cases z), fun w h => hts w (List.mem_filter.mp h).1, hK, fun q hq => va_Nw.of rfl (hts _ (w_ns q hq)), hAO, rfl, fun q z => (by cases z; exact ⟨hX, hbl⟩), by decide, by decide⟩
  have hE : xHE p l e room_1 s m #[Value.ref b] below meth c D cA s.heap.size b 0 0 (lw_Z below #[Value.ref b] s) 0 (some (.int 1)) h' := by
    intro i pc hdg hend H la locs cells slots g1 g2 g3 g4
    rcases hend with ⟨rfl, -⟩ | ⟨-, ⟨x, hv⟩, -⟩ | ⟨-, ⟨x, hv⟩, -⟩ | ⟨-, hv, -⟩
    · refine va_forget (fun q hq => g2.2.2 q hq) ?_
      refine W.widen (k := 600000) (n := 7302250) (by omega) (by omega) ?_
      exact lw_ret hx hb hr hlocks hdg
    · cases hv
    · cases hv
    · cases hv
  have hl := lv_entry ([Value.ref b]) (n := 4) (Nat.le_of_ble_eq_true rfl)
  rw [lg_entry_eq]
  generalize (lg_sl ([Value.ref b]) ++ List.replicate (4 - (lg_sl ([Value.ref b])).length) Slot.unset).toArray = la at hl ⊢
  have hl : lv_has la 4 [(0, .ref b)] := hl
  have hlh : xlh s.heap.size b (xnL 0) la [some (.ref xS), none, none, none] := by
    refine ⟨lv_mono hl fun q hq => ?_, rfl⟩
    obtain ⟨v, h1, h2⟩ := xlv_mem.mp hq
    have e3 : xa s.heap.size b xS = b := if_pos rfl
    obtain ⟨k, w⟩ := q
    match k, h1 with
    | 0, h1 =>
      have h1 : some (Value.ref xS) = some v := Option.some.inj h1
      cases h1
      have h2 : Value.ref (xa s.heap.size b xS) = w := h2
      rw [e3] at h2
      rw [← h2]
      exact List.mem_cons_self
    | 1, h1 => simp at h1
    | 2, h1 => simp at h1
    | 3, h1 => simp at h1
    | k + 4, h1 => simp at h1
  exact x_W hctx hE (by show h'.1.length ≤ 0 + 600000; omega) (by show xsl h'.1 ≤ 0 + 7302250; omega) (Nat.le_trans hc1 (by decide)) n (fun k _ => x_met k) (0, [some (.ref xS), none, none, none], [], xh0) hrun s.heap la [] 0 0 hlh (fun k q hq => by cases hq) va_S.rf rfl rfl
