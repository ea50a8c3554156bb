def xa (base b a : Nat) : Nat := if a = xS then b else base + a
def xc (base b : Nat) (v : Value) : Value := match v with
  | .ref a => .ref (xa base b a)
  | v => v
theorem xc_cat (base b : Nat) (v : Value) : (xc base b v).category = v.category := by cases v <;> rfl
theorem xcat_map (base b : Nat) (st : List Value) : ((st.map (xc base b)).map fun v => v.category).sum = xcat st := by
  unfold xcat
  rw [List.map_map]
  congr 1
  exact List.map_congr_left (fun v _ => xc_cat base b v)
def xlv (base b : Nat) (ls : xLs) : List (Nat × Value) := ls.zipIdx.filterMap (fun q => q.1.map (fun v => (q.2, xc base b v)))
theorem xlv_mem {base b : Nat} {ls : xLs} {q : Nat × Value} : q ∈ xlv base b ls ↔ ∃ v, ls[q.1]? = some (some v) ∧ xc base b v = q.2 := by
  unfold xlv
  rw [List.mem_filterMap]
  constructor
  · rintro ⟨⟨o, i⟩, h1, h2⟩
    have h3 : ls[i]? = some o := List.mem_zipIdx_iff_getElem?.mp h1
    cases o with
    | none => cases h2
    | some v =>
      cases h2
      exact ⟨v, h3, rfl⟩
  · rintro ⟨v, h1, h2⟩
    refine ⟨(some v, q.1), List.mem_zipIdx_iff_getElem?.mpr h1, ?_⟩
    show some (q.1, xc base b v) = some q
    rw [h2]
def xlh (base b nL : Nat) (la : Array Slot) (ls : xLs) : Prop := lv_has la nL (xlv base b ls) ∧ ls.length = nL
theorem xlh_at {base b nL : Nat} {la : Array Slot} {ls : xLs} (h : xlh base b nL la ls) {i : Nat} {v : Value} (hi : ls[i]? = some (some v)) : la[i]? = some (.val (xc base b v)) := h.1.2.2 (i, xc base b v) (xlv_mem.mpr ⟨v, hi, rfl⟩)
theorem lv_mono {la : Array Slot} {nL : Nat} {l l' : List (Nat × Value)} (h : lv_has la nL l) (hl : ∀ q ∈ l', q ∈ l) : lv_has la nL l' := ⟨h.1, h.2.1, fun q hq => h.2.2 q (hl q hq)⟩
theorem xlh_set1 {base b nL : Nat} {la : Array Slot} {ls : xLs} {k : Nat} {v : Value} (hk : xok ls k = true) (hl : ls.length = nL) (h : lv_has la nL ((k, xc base b v) :: (xlv base b ls).filter (fun q => !(q.1 == k) && !(q.1 + 1 == k && q.2.category == 2)))) : xlh base b nL la (ls.set k (some v)) := by
  simp only [xok, Bool.and_eq_true, decide_eq_true_eq, Bool.or_eq_true, beq_iff_eq] at hk
  refine ⟨lv_mono h fun q hq => ?_, by rw [List.length_set]; exact hl⟩
  obtain ⟨w, h1, h2⟩ := xlv_mem.mp hq
  by_cases e : q.1 = k
  · rw [e, List.getElem?_set_self hk.1] at h1
    cases h1
    exact List.mem_cons.mpr (Or.inl (Prod.ext e h2.symm))
  · rw [List.getElem?_set_ne (Ne.symm e)] at h1
    refine List.mem_cons.mpr (Or.inr (List.mem_filter.mpr ⟨xlv_mem.mpr ⟨w, h1, h2⟩, ?_⟩))
    have e2 : ¬ (q.1 + 1 = k ∧ q.2.category = 2) := by
      rintro ⟨a1, a2⟩
      rcases hk.2 with z | z
      · omega
      · have e3 : k - 1 = q.1 := by omega
        rw [e3, List.getD_eq_getElem?_getD, h1] at z
        rw [← h2, xc_cat] at a2
        cases w <;> simp_all [xnl, Value.category]
    simp [e]
    exact Classical.not_and_iff_not_or_not.mp e2
theorem xlh_set2 {base b nL : Nat} {la : Array Slot} {ls : xLs} {k : Nat} {v : Value} (hk : xok ls k = true) (hk2 : k + 1 < ls.length) (hl : ls.length = nL) (h : lv_has la nL ((k, xc base b v) :: (xlv base b ls).filter (fun q => !(q.1 == k) && (!(q.1 == k + 1) && !(q.1 + 1 == k && q.2.category == 2))))) : xlh base b nL la ((ls.set k (some v)).set (k + 1) none) := by
  simp only [xok, Bool.and_eq_true, decide_eq_true_eq, Bool.or_eq_true, beq_iff_eq] at hk
  refine ⟨lv_mono h fun q hq => ?_, by rw [List.length_set, List.length_set]; exact hl⟩
  obtain ⟨w, h1, h2⟩ := xlv_mem.mp hq
  by_cases e1 : q.1 = k + 1
  · rw [e1, List.getElem?_set_self (by rw [List.length_set]; exact hk2)] at h1
    cases h1
  · rw [List.getElem?_set_ne (Ne.symm e1)] at h1
    by_cases e : q.1 = k
    · rw [e, List.getElem?_set_self hk.1] at h1
      cases h1
      exact List.mem_cons.mpr (Or.inl (Prod.ext e h2.symm))
    · rw [List.getElem?_set_ne (Ne.symm e)] at h1
      refine List.mem_cons.mpr (Or.inr (List.mem_filter.mpr ⟨xlv_mem.mpr ⟨w, h1, h2⟩, ?_⟩))
      have e2 : ¬ (q.1 + 1 = k ∧ q.2.category = 2) := by
        rintro ⟨a1, a2⟩
        rcases hk.2 with z | z
        · omega
        · have e3 : k - 1 = q.1 := by omega
          rw [e3, List.getD_eq_getElem?_getD, h1] at z
          rw [← h2, xc_cat] at a2
          cases w <;> simp_all [xnl, Value.category]
      simp [e, e1]
      exact Classical.not_and_iff_not_or_not.mp e2
def xfw (base b : Nat) (h : xHp) (a k kd : Nat) : Value := match kd with
  | 0 => .int (h.2.1 a k)
  | 1 => .int (h.2.1 a k)
  | 2 => .long (h.2.2.1 a k)
  | _ => va_rf ((h.2.2.2 a k).map (xa base b))
theorem xfw_eq (base b : Nat) (h : xHp) (a k kd : Nat) : xc base b (xfv h a k kd) = xfw base b h a k kd := by
  match kd with
  | 0 => rfl
  | 1 => rfl
  | 2 => rfl
  | kd + 3 =>
    show xc base b (va_rf (h.2.2.2 a k)) = va_rf ((h.2.2.2 a k).map (xa base b))
    cases h.2.2.2 a k <;> rfl
def xe (cA : Nat → ClassId) (base b : Nat) (h : xHp) (i : Nat) (t : Nat × Nat) : va_E := match t.1 with
  | 0 => .inl (cA 0, t.2, .inl (h.2.1 i))
  | 1 => .inl (cA 1, t.2, .inl (h.2.1 i))
  | 2 => .inl (cA 2, t.2, .inr (.inl (h.2.2.1 i)))
  | 3 => .inl (cA 3, t.2, .inr (.inr (.inr (.inr (fun k => (h.2.2.2 i k).map (xa base b))))))
  | ci + 4 => .inr (ci, (List.range t.2).map (fun k => xfw base b h i k (xFK ci k)))
def xw (cA : Nat → ClassId) (base b : Nat) (h : xHp) : va_W := h.1.mapIdx (fun i t => (base + i, xe cA base b h i t))
theorem xw_get {cA : Nat → ClassId} {base b : Nat} {h : xHp} {a : Nat} {t : Nat × Nat} (ha : h.1[a]? = some t) : (xw cA base b h)[a]? = some (base + a, xe cA base b h a t) := by
  rw [xw, List.getElem?_mapIdx, ha]
  rfl
theorem xw_len (cA : Nat → ClassId) (base b : Nat) (h : xHp) : (xw cA base b h).length = h.1.length := by rw [xw, List.length_mapIdx]
def xoff (h h' : xHp) (a : Nat) : Prop := h'.1 = h.1 ∧ ∀ i, i ≠ a → h'.2.1 i = h.2.1 i ∧ h'.2.2.1 i = h.2.2.1 i ∧ h'.2.2.2 i = h.2.2.2 i
theorem xe_congr {cA : Nat → ClassId} {base b : Nat} {h h' : xHp} {i : Nat} (t : Nat × Nat) (h1 : h'.2.1 i = h.2.1 i) (h2 : h'.2.2.1 i = h.2.2.1 i) (h3 : h'.2.2.2 i = h.2.2.2 i) : xe cA base b h' i t = xe cA base b h i t := by
  unfold xe xfw
  rw [h1, h2, h3]
theorem xw_set {cA : Nat → ClassId} {base b : Nat} {h h' : xHp} {a : Nat} {t : Nat × Nat} (ha : h.1[a]? = some t) (ho : xoff h h' a) {e : va_E} (he : e = xe cA base b h' a t) : (xw cA base b h).set a (base + a, e) = xw cA base b h' := by
  subst he
  apply List.ext_getElem?
  intro i
  have hl : a < (xw cA base b h).length := by rw [xw_len]; exact (List.getElem?_eq_some_iff.mp ha).1
  by_cases hi : i = a
  · subst hi
    rw [List.getElem?_set_self hl, xw_get (h := h') (by rw [ho.1]; exact ha)]
  · rw [List.getElem?_set_ne (Ne.symm hi), xw, xw, List.getElem?_mapIdx, List.getElem?_mapIdx, ho.1]
    cases h.1[i]? with
    | none => rfl
    | some t' =>
      obtain ⟨h1, h2, h3⟩ := ho.2 i hi
      show some (base + i, xe cA base b h i t') = some (base + i, xe cA base b h' i t')
      rw [xe_congr t' h1 h2 h3]
theorem xz_ne {α : Type} {f : Nat → Nat → α} {a : Nat} {v : α} {x : Nat} (h : x ≠ a) : xz f a v x = f x := by simp [xz, h]
theorem xu_ne {α : Type} {f : Nat → Nat → α} {a k : Nat} {v : α} {x : Nat} (h : x ≠ a) : xu f a k v x = f x := by simp [xu, h]
theorem xu_at {α : Type} {f : Nat → Nat → α} {a k : Nat} {v : α} : xu f a k v a = va_up (f a) k v := by simp [xu]
theorem xw_new {cA : Nat → ClassId} {base b tag n : Nat} {h : xHp} : xw cA base b (xnew tag n h) = xw cA base b h ++ [(base + h.1.length, xe cA base b (xnew tag n h) h.1.length (tag, n))] := by
  apply List.ext_getElem?
  intro i
  by_cases hi : i < h.1.length
  · rw [List.getElem?_append_left (by rw [xw_len]; exact hi)]
    have ht := List.getElem?_eq_getElem hi
    rw [xw_get ht, xw_get (h := xnew tag n h) (t := h.1[i]) (by show (h.1 ++ [(tag, n)])[i]? = _; rw [List.getElem?_append_left hi]; exact ht)]
    rw [xe_congr _ (xz_ne (Nat.ne_of_lt hi)) (xz_ne (Nat.ne_of_lt hi)) (xz_ne (Nat.ne_of_lt hi))]
  · by_cases he : i = h.1.length
    · subst he
      rw [List.getElem?_append_right (by rw [xw_len]; exact Nat.le_refl _), xw_len, Nat.sub_self]
      rw [xw_get (h := xnew tag n h) (t := (tag, n)) (by show (h.1 ++ [(tag, n)])[h.1.length]? = _; simp)]
      rfl
    · rw [List.getElem?_eq_none (by rw [xw_len]; show (h.1 ++ [(tag, n)]).length ≤ i; simp; omega), List.getElem?_eq_none (by simp [xw_len]; omega)]
theorem xw_D (cA : Nat → ClassId) (base b : Nat) (h : xHp) : va_D (fun q => base ≤ q) (xw cA base b h) := by
  have key : ∀ (k : Nat) (q : Nat × va_E), (xw cA base b h)[k]? = some q → q.1 = base + k := by
    intro k q hk
    rw [xw, List.getElem?_mapIdx] at hk
    cases ht : h.1[k]? with
    | none => rw [ht] at hk; cases hk
    | some t => rw [ht] at hk; cases hk; rfl
  refine ⟨fun i j x y hi hj hxy => ?_, fun k q hk => ?_⟩
  · have := key i x hi
    have := key j y hj
    omega
  · have := key k q hk
    show base ≤ q.1
    omega
theorem xa_in {base b a : Nat} {sh : xSh} {t : Nat × Nat} (ha : sh[a]? = some t) (hm : sh.length ≤ xS) : xa base b a = base + a := by
  have : a < sh.length := (List.getElem?_eq_some_iff.mp ha).1
  have h2 : a ≠ xS := by omega
  simp [xa, h2]
theorem xf_get {base b : Nat} {h : xHp} {a n ci k : Nat} (hk : k < n) : ((List.range n).map (fun i => xfw base b h a i (xFK ci i)))[k]? = some (xc base b (xfv h a k (xFK ci k))) := by
  rw [List.getElem?_map, List.getElem?_range hk, xfw_eq]
  rfl
theorem xu_eq {α : Type} (f : Nat → Nat → α) (a k : Nat) (v : α) (i : Nat) : xu f a k v a i = if i = k then v else f a i := by simp [xu, va_up]
theorem xputv_off {kd k a : Nat} {v : Value} {h h' : xHp} (hp : xputv kd k v a h = some h') : xoff h h' a := by
  unfold xputv at hp
  split at hp
  · cases hp; exact ⟨rfl, fun i hi => ⟨xu_ne hi, rfl, rfl⟩⟩
  · split at hp
    · cases hp; exact ⟨rfl, fun i hi => ⟨xu_ne hi, rfl, rfl⟩⟩
    · cases hp
  · cases hp; exact ⟨rfl, fun i hi => ⟨rfl, xu_ne hi, rfl⟩⟩
  · cases hp; exact ⟨rfl, fun i hi => ⟨rfl, rfl, xu_ne hi⟩⟩
  · cases hp
theorem xputv_self {base b kd k a : Nat} {v : Value} {h h' : xHp} (hp : xputv kd k v a h = some h') : xfw base b h' a k kd = xc base b v := by
  unfold xputv at hp
  split at hp
  · cases hp; simp [xfw, xu_eq, xc]
  · split at hp
    · cases hp; simp [xfw, xu_eq, xc]
    · cases hp
  · cases hp; simp [xfw, xu_eq, xc]
  · cases hp; simp [xfw, xu_eq, xc, va_rf]
  · cases hp
theorem xputv_ne {base b kd k a : Nat} {v : Value} {h h' : xHp} (hp : xputv kd k v a h = some h') {i : Nat} (hi : i ≠ k) (kd' : Nat) : xfw base b h' a i kd' = xfw base b h a i kd' := by
  have e : h'.2.1 a i = h.2.1 a i ∧ h'.2.2.1 a i = h.2.2.1 a i ∧ h'.2.2.2 a i = h.2.2.2 a i := by
    unfold xputv at hp
    split at hp
    · cases hp; simp [xu_eq, hi]
    · split at hp
      · cases hp; simp [xu_eq, hi]
      · cases hp
    · cases hp; simp [xu_eq, hi]
    · cases hp; simp [xu_eq, hi]
    · cases hp
  unfold xfw
  rw [e.1, e.2.1, e.2.2]
theorem xf_set {base b k a n ci : Nat} {v : Value} {h h' : xHp} (hp : xputv (xFK ci k) k v a h = some h') : ((List.range n).map (fun i => xfw base b h a i (xFK ci i))).set k (xc base b v) = (List.range n).map (fun i => xfw base b h' a i (xFK ci i)) := by
  apply List.ext_getElem?
  intro i
  by_cases hi : i = k
  · subst hi
    by_cases hn : i < n
    · rw [List.getElem?_set_self (by simpa using hn), List.getElem?_map, List.getElem?_range hn, Option.map_some, xputv_self hp]
    · rw [List.getElem?_eq_none (by simp; omega), List.getElem?_eq_none (by simp; omega)]
  · rw [List.getElem?_set_ne (Ne.symm hi)]
    by_cases hn : i < n
    · rw [List.getElem?_map, List.getElem?_map, List.getElem?_range hn, Option.map_some, Option.map_some, xputv_ne hp hi]
    · rw [List.getElem?_eq_none (by simp; omega), List.getElem?_eq_none (by simp; omega)]
def xsl (sh : xSh) : Nat := (sh.map fun t => t.2).sum
theorem xsl_app (a b : xSh) : xsl (a ++ b) = xsl a + xsl b := by simp [xsl]
abbrev xA (base : Nat) : Nat → Prop := fun q => base ≤ q
def xtys (cA : Nat → ClassId) : List (ClassId × FieldType) := [(cA 0, .int), (cA 1, .boolean), (cA 2, .long), (cA 3, .object xSTn)]
theorem xw_addr {D : va_G} {cA : Nat → ClassId} {base b q : Nat} {h : xHp} {e : va_E} {H : Heap} (hP : va_P D xCl (xw cA base b h ++ [(q, e)]) H) (hD : va_D (xA base) (xw cA base b h ++ [(q, e)])) (hz : H.size ≤ base + h.1.length + 1) : q = base + h.1.length := by
  have hl : (xw cA base b h ++ [(q, e)])[h.1.length]? = some (q, e) := by
    rw [List.getElem?_append_right (by rw [xw_len]; exact Nat.le_refl _), xw_len, Nat.sub_self]
    rfl
  have h1 : q < H.size := (hP _ _ hl).lt
  have h2 : base ≤ q := hD.2 _ _ hl
  by_cases hlt : q < base + h.1.length
  · obtain ⟨t, ht⟩ : ∃ t, h.1[q - base]? = some t := ⟨_, List.getElem?_eq_getElem (by omega)⟩
    have h3 : (xw cA base b h ++ [(q, e)])[q - base]? = some (base + (q - base), xe cA base b h (q - base) t) := by
      rw [List.getElem?_append_left (by rw [xw_len]; omega)]
      exact xw_get ht
    have h4 := hD.1 _ _ _ _ h3 hl (by show base + (q - base) = q; omega)
    omega
  · omega
theorem xw_low {D : va_G} {cA : Nat → ClassId} {base b : Nat} {h : xHp} {H : Heap} (hP : va_P D xCl (xw cA base b h) H) (hz : base ≤ H.size) : base + h.1.length ≤ H.size := by
  cases hn : h.1.length with
  | zero => omega
  | succ n =>
    obtain ⟨t, ht⟩ : ∃ t, h.1[n]? = some t := ⟨_, List.getElem?_eq_getElem (by omega)⟩
    have h1 := (hP _ _ (xw_get ht)).lt
    have h2 : base + n < H.size := h1
    omega
