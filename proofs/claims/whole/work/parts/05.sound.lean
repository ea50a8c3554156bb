def xNest (U : State) : Prop := ∀ q ∈ xNs, va_Nw (.methodLinkNest q.1 q.2.1 q.2.2.1 q.2.2.2) U
def xWs (k : Nat) : List Cond := Cond.code (xY k) (xB k) (xnL k) (xRt k) :: xgw
def xRm (d mc ms : Nat) : Room := { frames := d + 1, cells := mc, slots := ms, locals := 40 * (d + 1) }
def xBg (D : va_G) (cA : Nat → ClassId) (base b : Nat) (h : xHp) (U : State) : Prop := U.heap.size = base + h.1.length ∧ va_P D xCl (xw cA base b h) U.heap ∧ va_K D xCl (xtys cA) U ∧ xNest U ∧ va_AO xSTn U
def xPc (D : va_G) (cA : Nat → ClassId) (base b : Nat) (h : xHp) (as : List Value) : Array Value → State → Prop := va_Pc (as.map (xc base b)) (xBg D cA base b h)
def xQc (D : va_G) (cA : Nat → ClassId) (base b : Nat) (v : Option Value) (h' : xHp) : Array Value → State → Outcome → State → Prop := fun _ st oc t => (oc = .returned (v.map (xc base b)) ∧ va_P D xCl (xw cA base b h') t.heap) ∧ va_F (xA base) st t
theorem xPc_blind {D : va_G} {cA : Nat → ClassId} {base b : Nat} {h : xHp} {as : List Value} : FrameBlind (xPc D cA base b h as) := fun _ _ _ _ z => z
theorem xNest_warm {s U : State} (hW : s.WarmedH U.vm) (h : xNest s) : xNest U := fun q hq => (h q hq).warmM hW
theorem xgw_good : GoodIn xgw xgw := fun w hw => ⟨hw, good_of_word (List.mem_filter.mp hw).2⟩
theorem xWs_good {k : Nat} (h0 : 0 < k) (hk : k < xnM) : GoodIn xgw (xWs k) := fun w hw => by
  rcases List.mem_cons.mp hw with rfl | h
  · exact xgw_good _ (f_code h0 hk)
  · exact xgw_good _ h
def xCtx (p : Program) (R : Room) (s : State) (m : MethodId) (args : Array Value) (meth : Method) (c : Code) (D : va_G) (cA : Nat → ClassId) (base b n0 : Nat) (scr : xScr) (j d : Nat) : Prop :=
  p.tables.exec = Jvm.exec ∧ c.code = xB j ∧ c.maxLocals = xnL j ∧ s.vm.findClass (xON (xO j)) = some m.cls ∧ (∀ ci, xIni j = some ci → meth.name = "<init>" ∧ xCN ci = xON (xO j)) ∧ (∀ w ∈ xgw, w.before args s = true) ∧ va_K D xCl (xtys cA) s ∧ xNest s ∧ va_AO xSTn s ∧ s.heap.size = base + n0 ∧
  (∀ q, scr = some q → va_X b q.1 q.2 s s.heap ∧ b < base) ∧ d + 1 ≤ R.frames ∧ 40 * (d + 1) ≤ R.locals
def xWA (p : Program) (l : Launch) (e : Env) (R : Room) (s : State) (m : MethodId) (args : Array Value) (below : List Frame) (meth : Method) (c : Code) (D : va_G) (cA : Nat → ClassId) (base b n0 s0 : Nat) (Q : State → Prop) (j : Nat) (f : xCf) : Prop :=
  ∀ (H : Heap) (la : Array Slot) (locs : List Loc) (cells slots : Nat), xlh base b (xnL j) la f.2.1 → va_P D xCl (xw cA base b f.2.2.2) H → va_S (xA base) s.heap H locs → cells + n0 = f.2.2.2.1.length → slots + s0 = xsl f.2.2.2.1 →
    W p l e R s m args below meth c H locs cells slots Q (F0 m f.1 la (f.2.2.1.map (xc base b)))
section XS
variable {p : Program} {l : Launch} {e : Env} {R : Room} {s : State} {m : MethodId} {args : Array Value} {below : List Frame} {meth : Method} {c : Code} {Q : State → Prop} {D : va_G} {cA : Nat → ClassId} {base b n0 s0 d j pc pc' k : Nat} {scr : xScr} {ls : xLs} {st : List Value} {h : xHp} {f' : xCf}
theorem x_size {H : Heap} {locs : List Loc} {cells slots : Nat} {g : JFrame} (k : H.size ≤ s.heap.size + cells → W p l e R s m args below meth c H locs cells slots Q g) : W p l e R s m args below meth c H locs cells slots Q g :=
  fun T hT X => k (by have h := X.heapSize; rw [← hT]; exact h) T hT X
theorem s_go {st' : List Value} (hrow : ∀ (H : Heap) (la : Array Slot) (locs : List Loc) (cells slots : Nat), W p l e R s m args below meth c H locs cells slots Q (F0 m pc' la (st'.map (xc base b))) → W p l e R s m args below meth c H locs cells slots Q (F0 m pc la (st.map (xc base b)))) (ih : xWA p l e R s m args below meth c D cA base b n0 s0 Q j (pc', ls, st', h)) : xWA p l e R s m args below meth c D cA base b n0 s0 Q j (pc, ls, st, h) :=
  fun H la locs cells slots h1 h2 h3 h4 h5 => hrow H la locs cells slots (ih H la locs cells slots h1 h2 h3 h4 h5)
theorem s_ldI (hq : xldI k pc' ls st h = some (.inl f')) (hrow : ∀ (H : Heap) (la : Array Slot) (locs : List Loc) (cells slots : Nat) (x : Int32) (rest : List Value), la[k]? = some (.val (.int x)) → W p l e R s m args below meth c H locs cells slots Q (F0 m pc' la (.int x :: rest)) → W p l e R s m args below meth c H locs cells slots Q (F0 m pc la rest)) (ih : xWA p l e R s m args below meth c D cA base b n0 s0 Q j f') : xWA p l e R s m args below meth c D cA base b n0 s0 Q j (pc, ls, st, h) := by
  obtain ⟨x, hl, e1⟩ := xldI_inv hq
  cases e1
  exact fun H la locs cells slots h1 h2 h3 h4 h5 => hrow H la locs cells slots x _ (xlh_at h1 hl) (ih H la locs cells slots h1 h2 h3 h4 h5)
theorem s_ldL (hq : xldL k pc' ls st h = some (.inl f')) (hrow : ∀ (H : Heap) (la : Array Slot) (locs : List Loc) (cells slots : Nat) (x : Int64) (rest : List Value), la[k]? = some (.val (.long x)) → W p l e R s m args below meth c H locs cells slots Q (F0 m pc' la (.long x :: rest)) → W p l e R s m args below meth c H locs cells slots Q (F0 m pc la rest)) (ih : xWA p l e R s m args below meth c D cA base b n0 s0 Q j f') : xWA p l e R s m args below meth c D cA base b n0 s0 Q j (pc, ls, st, h) := by
  obtain ⟨x, hl, e1⟩ := xldL_inv hq
  cases e1
  exact fun H la locs cells slots h1 h2 h3 h4 h5 => hrow H la locs cells slots x _ (xlh_at h1 hl) (ih H la locs cells slots h1 h2 h3 h4 h5)
theorem s_ldA (hq : xldA k pc' ls st h = some (.inl f')) (hrow : ∀ (H : Heap) (la : Array Slot) (locs : List Loc) (cells slots : Nat) (x : Nat) (rest : List Value), la[k]? = some (.val (.ref x)) → W p l e R s m args below meth c H locs cells slots Q (F0 m pc' la (.ref x :: rest)) → W p l e R s m args below meth c H locs cells slots Q (F0 m pc la rest)) (ih : xWA p l e R s m args below meth c D cA base b n0 s0 Q j f') : xWA p l e R s m args below meth c D cA base b n0 s0 Q j (pc, ls, st, h) := by
  obtain ⟨x, hl, e1⟩ := xldA_inv hq
  cases e1
  exact fun H la locs cells slots h1 h2 h3 h4 h5 => hrow H la locs cells slots (xa base b x) _ (xlh_at h1 hl) (ih H la locs cells slots h1 h2 h3 h4 h5)
theorem xok_lt {ls : xLs} {k : Nat} (h : xok ls k = true) : k < ls.length := by
  simp only [xok, Bool.and_eq_true, decide_eq_true_eq] at h
  exact h.1
theorem s_stI (hq : xstI k pc' ls st h = some (.inl f')) (hrow : ∀ (H : Heap) (la : Array Slot) (locs : List Loc) (cells slots : Nat) (x : Int32) (rest : List Value) (lv : List (Nat × Value)), lv_has la (xnL j) lv → k < xnL j → (∀ la' : Array Slot, lv_has la' (xnL j) ((k, .int x) :: lv.filter (fun q => !(q.1 == k) && !(q.1 + 1 == k && q.2.category == 2))) → W p l e R s m args below meth c H locs cells slots Q (F0 m pc' la' rest)) → W p l e R s m args below meth c H locs cells slots Q (F0 m pc la (.int x :: rest))) (ih : xWA p l e R s m args below meth c D cA base b n0 s0 Q j f') : xWA p l e R s m args below meth c D cA base b n0 s0 Q j (pc, ls, st, h) := by
  obtain ⟨x, st', hk, rfl, e1⟩ := xstI_inv hq
  cases e1
  exact fun H la locs cells slots h1 h2 h3 h4 h5 => hrow H la locs cells slots x _ _ h1.1 (h1.2 ▸ xok_lt hk) (fun la' hl => ih H la' locs cells slots (xlh_set1 (v := .int x) hk h1.2 hl) h2 h3 h4 h5)
theorem s_stA (hq : xstA k pc' ls st h = some (.inl f')) (hrow : ∀ (H : Heap) (la : Array Slot) (locs : List Loc) (cells slots : Nat) (x : Nat) (rest : List Value) (lv : List (Nat × Value)), lv_has la (xnL j) lv → k < xnL j → (∀ la' : Array Slot, lv_has la' (xnL j) ((k, .ref x) :: lv.filter (fun q => !(q.1 == k) && !(q.1 + 1 == k && q.2.category == 2))) → W p l e R s m args below meth c H locs cells slots Q (F0 m pc' la' rest)) → W p l e R s m args below meth c H locs cells slots Q (F0 m pc la (.ref x :: rest))) (ih : xWA p l e R s m args below meth c D cA base b n0 s0 Q j f') : xWA p l e R s m args below meth c D cA base b n0 s0 Q j (pc, ls, st, h) := by
  obtain ⟨x, st', hk, rfl, e1⟩ := xstA_inv hq
  cases e1
  exact fun H la locs cells slots h1 h2 h3 h4 h5 => hrow H la locs cells slots (xa base b x) _ _ h1.1 (h1.2 ▸ xok_lt hk) (fun la' hl => ih H la' locs cells slots (xlh_set1 (v := .ref x) hk h1.2 hl) h2 h3 h4 h5)
theorem s_stL (hq : xstL k pc' ls st h = some (.inl f')) (hrow : ∀ (H : Heap) (la : Array Slot) (locs : List Loc) (cells slots : Nat) (x : Int64) (rest : List Value) (lv : List (Nat × Value)), lv_has la (xnL j) lv → k + 1 < xnL j → (∀ la' : Array Slot, lv_has la' (xnL j) ((k, .long x) :: lv.filter (fun q => !(q.1 == k) && (!(q.1 == k + 1) && !(q.1 + 1 == k && q.2.category == 2)))) → W p l e R s m args below meth c H locs cells slots Q (F0 m pc' la' rest)) → W p l e R s m args below meth c H locs cells slots Q (F0 m pc la (.long x :: rest))) (ih : xWA p l e R s m args below meth c D cA base b n0 s0 Q j f') : xWA p l e R s m args below meth c D cA base b n0 s0 Q j (pc, ls, st, h) := by
  obtain ⟨x, st', hk, hk2, rfl, e1⟩ := xstL_inv hq
  cases e1
  exact fun H la locs cells slots h1 h2 h3 h4 h5 => hrow H la locs cells slots x _ _ h1.1 (h1.2 ▸ hk2) (fun la' hl => ih H la' locs cells slots (xlh_set2 (v := .long x) hk hk2 h1.2 hl) h2 h3 h4 h5)
theorem s_inc {v : Int} (hx : p.tables.exec = Jvm.exec) (hb : c.code = xB j) (hdg : decode (xB j) pc = .ok (.iinc k v, 3)) (hq : xinc k v (pc + 3) ls st h = some (.inl f')) (ih : xWA p l e R s m args below meth c D cA base b n0 s0 Q j f') : xWA p l e R s m args below meth c D cA base b n0 s0 Q j (pc, ls, st, h) := by
  obtain ⟨x, hl, hk, e1⟩ := xinc_inv hq
  cases e1
  intro H la locs cells slots h1 h2 h3 h4 h5
  obtain ⟨i, hi⟩ := List.getElem?_of_mem (xlv_mem.mpr ⟨_, hl, rfl⟩ : (k, xc base b (.int x)) ∈ xlv base b ls)
  exact lv_iinc (k := i) (x := x) hx hb hdg h1.1 hi rfl (h1.2 ▸ xok_lt hk) rfl (fun la' hl' => ih H la' locs cells slots (xlh_set1 (v := .int (x + Int32.ofInt v)) hk h1.2 hl') h2 h3 h4 h5)
theorem s_I1 {f : Int32 → Int32} (hq : xI1 f pc' ls st h = some (.inl f')) (hrow : ∀ (H : Heap) (la : Array Slot) (locs : List Loc) (cells slots : Nat) (x : Int32) (rest : List Value), W p l e R s m args below meth c H locs cells slots Q (F0 m pc' la (.int (f x) :: rest)) → W p l e R s m args below meth c H locs cells slots Q (F0 m pc la (.int x :: rest))) (ih : xWA p l e R s m args below meth c D cA base b n0 s0 Q j f') : xWA p l e R s m args below meth c D cA base b n0 s0 Q j (pc, ls, st, h) := by
  obtain ⟨x, st', rfl, e1⟩ := xI1_inv hq
  cases e1
  exact fun H la locs cells slots h1 h2 h3 h4 h5 => hrow H la locs cells slots x _ (ih H la locs cells slots h1 h2 h3 h4 h5)
theorem s_IL {f : Int32 → Int64} (hq : xIL f pc' ls st h = some (.inl f')) (hrow : ∀ (H : Heap) (la : Array Slot) (locs : List Loc) (cells slots : Nat) (x : Int32) (rest : List Value), W p l e R s m args below meth c H locs cells slots Q (F0 m pc' la (.long (f x) :: rest)) → W p l e R s m args below meth c H locs cells slots Q (F0 m pc la (.int x :: rest))) (ih : xWA p l e R s m args below meth c D cA base b n0 s0 Q j f') : xWA p l e R s m args below meth c D cA base b n0 s0 Q j (pc, ls, st, h) := by
  obtain ⟨x, st', rfl, e1⟩ := xIL_inv hq
  cases e1
  exact fun H la locs cells slots h1 h2 h3 h4 h5 => hrow H la locs cells slots x _ (ih H la locs cells slots h1 h2 h3 h4 h5)
theorem s_LI {f : Int64 → Int32} (hq : xLI f pc' ls st h = some (.inl f')) (hrow : ∀ (H : Heap) (la : Array Slot) (locs : List Loc) (cells slots : Nat) (x : Int64) (rest : List Value), W p l e R s m args below meth c H locs cells slots Q (F0 m pc' la (.int (f x) :: rest)) → W p l e R s m args below meth c H locs cells slots Q (F0 m pc la (.long x :: rest))) (ih : xWA p l e R s m args below meth c D cA base b n0 s0 Q j f') : xWA p l e R s m args below meth c D cA base b n0 s0 Q j (pc, ls, st, h) := by
  obtain ⟨x, st', rfl, e1⟩ := xLI_inv hq
  cases e1
  exact fun H la locs cells slots h1 h2 h3 h4 h5 => hrow H la locs cells slots x _ (ih H la locs cells slots h1 h2 h3 h4 h5)
theorem s_I2 {f : Int32 → Int32 → Int32} (hq : xI2 f pc' ls st h = some (.inl f')) (hrow : ∀ (H : Heap) (la : Array Slot) (locs : List Loc) (cells slots : Nat) (x y : Int32) (rest : List Value), W p l e R s m args below meth c H locs cells slots Q (F0 m pc' la (.int (f x y) :: rest)) → W p l e R s m args below meth c H locs cells slots Q (F0 m pc la (.int y :: .int x :: rest))) (ih : xWA p l e R s m args below meth c D cA base b n0 s0 Q j f') : xWA p l e R s m args below meth c D cA base b n0 s0 Q j (pc, ls, st, h) := by
  obtain ⟨x, y, st', rfl, e1⟩ := xI2_inv hq
  cases e1
  exact fun H la locs cells slots h1 h2 h3 h4 h5 => hrow H la locs cells slots x y _ (ih H la locs cells slots h1 h2 h3 h4 h5)
theorem s_ID {f : Int32 → Int32 → Int32} (hq : xID f pc' ls st h = some (.inl f')) (hrow : ∀ (H : Heap) (la : Array Slot) (locs : List Loc) (cells slots : Nat) (x y : Int32) (rest : List Value), ¬ y = 0 → W p l e R s m args below meth c H locs cells slots Q (F0 m pc' la (.int (f x y) :: rest)) → W p l e R s m args below meth c H locs cells slots Q (F0 m pc la (.int y :: .int x :: rest))) (ih : xWA p l e R s m args below meth c D cA base b n0 s0 Q j f') : xWA p l e R s m args below meth c D cA base b n0 s0 Q j (pc, ls, st, h) := by
  obtain ⟨x, y, st', hy, rfl, e1⟩ := xID_inv hq
  cases e1
  exact fun H la locs cells slots h1 h2 h3 h4 h5 => hrow H la locs cells slots x y _ hy (ih H la locs cells slots h1 h2 h3 h4 h5)
theorem s_L2 {f : Int64 → Int64 → Int64} (hq : xL2 f pc' ls st h = some (.inl f')) (hrow : ∀ (H : Heap) (la : Array Slot) (locs : List Loc) (cells slots : Nat) (x y : Int64) (rest : List Value), W p l e R s m args below meth c H locs cells slots Q (F0 m pc' la (.long (f x y) :: rest)) → W p l e R s m args below meth c H locs cells slots Q (F0 m pc la (.long y :: .long x :: rest))) (ih : xWA p l e R s m args below meth c D cA base b n0 s0 Q j f') : xWA p l e R s m args below meth c D cA base b n0 s0 Q j (pc, ls, st, h) := by
  obtain ⟨x, y, st', rfl, e1⟩ := xL2_inv hq
  cases e1
  exact fun H la locs cells slots h1 h2 h3 h4 h5 => hrow H la locs cells slots x y _ (ih H la locs cells slots h1 h2 h3 h4 h5)
theorem s_LC (hq : xLC pc' ls st h = some (.inl f')) (hrow : ∀ (H : Heap) (la : Array Slot) (locs : List Loc) (cells slots : Nat) (x y : Int64) (rest : List Value), W p l e R s m args below meth c H locs cells slots Q (F0 m pc' la (.int (lg_cmp x y) :: rest)) → W p l e R s m args below meth c H locs cells slots Q (F0 m pc la (.long y :: .long x :: rest))) (ih : xWA p l e R s m args below meth c D cA base b n0 s0 Q j f') : xWA p l e R s m args below meth c D cA base b n0 s0 Q j (pc, ls, st, h) := by
  obtain ⟨x, y, st', rfl, e1⟩ := xLC_inv hq
  cases e1
  exact fun H la locs cells slots h1 h2 h3 h4 h5 => hrow H la locs cells slots x y _ (ih H la locs cells slots h1 h2 h3 h4 h5)
theorem s_LS {f : Int64 → Int32 → Int64} (hq : xLS f pc' ls st h = some (.inl f')) (hrow : ∀ (H : Heap) (la : Array Slot) (locs : List Loc) (cells slots : Nat) (x : Int64) (y : Int32) (rest : List Value), W p l e R s m args below meth c H locs cells slots Q (F0 m pc' la (.long (f x y) :: rest)) → W p l e R s m args below meth c H locs cells slots Q (F0 m pc la (.int y :: .long x :: rest))) (ih : xWA p l e R s m args below meth c D cA base b n0 s0 Q j f') : xWA p l e R s m args below meth c D cA base b n0 s0 Q j (pc, ls, st, h) := by
  obtain ⟨x, y, st', rfl, e1⟩ := xLS_inv hq
  cases e1
  exact fun H la locs cells slots h1 h2 h3 h4 h5 => hrow H la locs cells slots x y _ (ih H la locs cells slots h1 h2 h3 h4 h5)
theorem s_dup (hq : xdup pc' ls st h = some (.inl f')) (hrow : ∀ (H : Heap) (la : Array Slot) (locs : List Loc) (cells slots : Nat) (v : Value) (rest : List Value), v.category = 1 → W p l e R s m args below meth c H locs cells slots Q (F0 m pc' la (v :: v :: rest)) → W p l e R s m args below meth c H locs cells slots Q (F0 m pc la (v :: rest))) (ih : xWA p l e R s m args below meth c D cA base b n0 s0 Q j f') : xWA p l e R s m args below meth c D cA base b n0 s0 Q j (pc, ls, st, h) := by
  obtain ⟨v, st', hv, rfl, e1⟩ := xdup_inv hq
  cases e1
  exact fun H la locs cells slots h1 h2 h3 h4 h5 => hrow H la locs cells slots (xc base b v) _ ((xc_cat base b v).trans hv) (ih H la locs cells slots h1 h2 h3 h4 h5)
theorem s_dup2 (hq : xdup2 pc' ls st h = some (.inl f')) (hrow : ∀ (H : Heap) (la : Array Slot) (locs : List Loc) (cells slots : Nat) (v w : Value) (rest : List Value), v.category = 1 → w.category = 1 → W p l e R s m args below meth c H locs cells slots Q (F0 m pc' la (v :: w :: v :: w :: rest)) → W p l e R s m args below meth c H locs cells slots Q (F0 m pc la (v :: w :: rest))) (ih : xWA p l e R s m args below meth c D cA base b n0 s0 Q j f') : xWA p l e R s m args below meth c D cA base b n0 s0 Q j (pc, ls, st, h) := by
  obtain ⟨v, w, st', hv, hw, rfl, e1⟩ := xdup2_inv hq
  cases e1
  exact fun H la locs cells slots h1 h2 h3 h4 h5 => hrow H la locs cells slots (xc base b v) (xc base b w) _ ((xc_cat base b v).trans hv) ((xc_cat base b w).trans hw) (ih H la locs cells slots h1 h2 h3 h4 h5)
theorem s_j {off : Int} (hq : xj pc off ls st h = some (.inl f')) {st0 : List Value} (hrow : ∀ (tgt : Nat), (pc : Int) + off = (tgt : Int) → ∀ (H : Heap) (la : Array Slot) (locs : List Loc) (cells slots : Nat), W p l e R s m args below meth c H locs cells slots Q (F0 m tgt la (st.map (xc base b))) → W p l e R s m args below meth c H locs cells slots Q (F0 m pc la (st0.map (xc base b)))) (ih : xWA p l e R s m args below meth c D cA base b n0 s0 Q j f') : xWA p l e R s m args below meth c D cA base b n0 s0 Q j (pc, ls, st0, h) := by
  obtain ⟨tgt, ht, e1⟩ := xj_inv hq
  cases e1
  exact fun H la locs cells slots h1 h2 h3 h4 h5 => hrow tgt ht H la locs cells slots (ih H la locs cells slots h1 h2 h3 h4 h5)
theorem s_if {cd : ClassFile.Cond} {x y : Int32} {off : Int} (hq : xif cd x y off pc ls st h = some (.inl f')) {st0 : List Value} (hrow : ∀ (tgt : Nat), (pc : Int) + off = (tgt : Int) → ∀ (H : Heap) (la : Array Slot) (locs : List Loc) (cells slots : Nat), (xcond cd x y = true → W p l e R s m args below meth c H locs cells slots Q (F0 m tgt la (st.map (xc base b)))) → (xcond cd x y = false → W p l e R s m args below meth c H locs cells slots Q (F0 m (pc + 3) la (st.map (xc base b)))) → W p l e R s m args below meth c H locs cells slots Q (F0 m pc la (st0.map (xc base b)))) (ih : xWA p l e R s m args below meth c D cA base b n0 s0 Q j f') : xWA p l e R s m args below meth c D cA base b n0 s0 Q j (pc, ls, st0, h) := by
  obtain ⟨tgt, ht, ⟨hh, e1⟩ | ⟨hh, e1⟩⟩ := xif_inv hq
  · cases e1
    exact fun H la locs cells slots h1 h2 h3 h4 h5 => hrow tgt ht H la locs cells slots (fun _ => ih H la locs cells slots h1 h2 h3 h4 h5) (fun z => by rw [hh] at z; cases z)
  · cases e1
    exact fun H la locs cells slots h1 h2 h3 h4 h5 => hrow tgt ht H la locs cells slots (fun z => by rw [hh] at z; cases z) (fun _ => ih H la locs cells slots h1 h2 h3 h4 h5)
theorem s_if0 {cd : ClassFile.Cond} {off : Int} (hx : p.tables.exec = Jvm.exec) (hb : c.code = xB j) (hdg : decode (xB j) pc = .ok (.ifCond cd off, 3)) (hq : xif0 cd off pc ls st h = some (.inl f')) (ih : xWA p l e R s m args below meth c D cA base b n0 s0 Q j f') : xWA p l e R s m args below meth c D cA base b n0 s0 Q j (pc, ls, st, h) := by
  obtain ⟨x, st', rfl, hq⟩ := xif0_inv hq
  refine s_if hq (fun tgt ht H la locs cells slots k1 k2 => ?_) ih
  cases cd
  · exact lv_if_eq hx hb hdg ht (fun z => k1 (decide_eq_true z)) (fun z => k2 (decide_eq_false z))
  · exact lv_if_ne hx hb hdg ht (fun z => k1 (decide_eq_true z)) (fun z => k2 (decide_eq_false fun n => n z))
  · exact lv_if_lt hx hb hdg ht (fun z => k1 (decide_eq_true z)) (fun z => k2 (decide_eq_false z))
  · exact lv_if_ge hx hb hdg ht (fun z => k1 (decide_eq_true z)) (fun z => k2 (decide_eq_false z))
  · exact lv_if_gt hx hb hdg ht (fun z => k1 (decide_eq_true z)) (fun z => k2 (decide_eq_false z))
  · exact lv_if_le hx hb hdg ht (fun z => k1 (decide_eq_true z)) (fun z => k2 (decide_eq_false z))
theorem s_if2 {cd : ClassFile.Cond} {off : Int} (hx : p.tables.exec = Jvm.exec) (hb : c.code = xB j) (hdg : decode (xB j) pc = .ok (.if_icmp cd off, 3)) (hq : xif2 cd off pc ls st h = some (.inl f')) (ih : xWA p l e R s m args below meth c D cA base b n0 s0 Q j f') : xWA p l e R s m args below meth c D cA base b n0 s0 Q j (pc, ls, st, h) := by
  obtain ⟨x, y, st', rfl, hq⟩ := xif2_inv hq
  refine s_if hq (fun tgt ht H la locs cells slots k1 k2 => ?_) ih
  cases cd
  · exact lv_icmp_eq hx hb hdg ht (fun z => k1 (decide_eq_true z)) (fun z => k2 (decide_eq_false z))
  · exact lv_icmp_ne hx hb hdg ht (fun z => k1 (decide_eq_true z)) (fun z => k2 (decide_eq_false fun n => n z))
  · exact lv_icmp_lt hx hb hdg ht (fun z => k1 (decide_eq_true z)) (fun z => k2 (decide_eq_false z))
  · exact lv_icmp_ge hx hb hdg ht (fun z => k1 (decide_eq_true z)) (fun z => k2 (decide_eq_false z))
  · exact lv_icmp_gt hx hb hdg ht (fun z => k1 (decide_eq_true z)) (fun z => k2 (decide_eq_false z))
  · exact lv_icmp_le hx hb hdg ht (fun z => k1 (decide_eq_true z)) (fun z => k2 (decide_eq_false z))
theorem s_tab {dflt lo hi : Int} {offs : Array Int} {n : Nat} (hx : p.tables.exec = Jvm.exec) (hb : c.code = xB j) (hdg : decode (xB j) pc = .ok (.tableswitch dflt lo hi offs, n)) (hq : xtab dflt lo hi offs pc ls st h = some (.inl f')) (ih : xWA p l e R s m args below meth c D cA base b n0 s0 Q j f') : xWA p l e R s m args below meth c D cA base b n0 s0 Q j (pc, ls, st, h) := by
  obtain ⟨x, st', rfl, ⟨hh, hq⟩ | ⟨h1, h2, off, ho, hq⟩⟩ := xtab_inv hq
  · exact s_j hq (fun tgt ht H la locs cells slots k => lv_tableOut hx hb hdg hh ht k) ih
  · exact s_j hq (fun tgt ht H la locs cells slots k => lv_tableIn hx hb hdg h1 h2 ho ht k) ih
theorem s_look {dflt : Int} {ps : Array (Int × Int)} {n : Nat} (hx : p.tables.exec = Jvm.exec) (hb : c.code = xB j) (hdg : decode (xB j) pc = .ok (.lookupswitch dflt ps, n)) (hq : xlook dflt ps pc ls st h = some (.inl f')) (ih : xWA p l e R s m args below meth c D cA base b n0 s0 Q j f') : xWA p l e R s m args below meth c D cA base b n0 s0 Q j (pc, ls, st, h) := by
  obtain ⟨x, st', rfl, hh, hq⟩ := xlook_inv hq
  exact s_j hq (fun tgt ht H la locs cells slots k => lv_lookup hx hb hdg hh rfl ht k) ih
end XS
