theorem xsl_new (tag n : Nat) (h : xHp) : xsl (xnew tag n h).1 = xsl h.1 + n := by
  show xsl (h.1 ++ [(tag, n)]) = _
  rw [xsl_app]
  simp [xsl]
theorem xlen_new (tag n : Nat) (h : xHp) : (xnew tag n h).1.length = h.1.length + 1 := by
  show (h.1 ++ [(tag, n)]).length = _
  simp
theorem xRA_eq {U : State} {c1 c2 : ClassId} {ty : FieldType} (h1 : va_RA U c1 ty) (h2 : va_RA U c2 ty) : c1 = c2 := by
  cases ty with
  | object C =>
    obtain ⟨_, _, _, _, _, f1⟩ := h1
    obtain ⟨_, _, _, _, _, f2⟩ := h2
    exact Option.some.inj (f1.symm.trans f2)
  | _ => exact Option.some.inj (Eq.trans (Eq.symm h1) h2)
theorem xput_fit {base b ci k a : Nat} {v : Value} {h h' : xHp} (hci : ci < 7) (hk : k < xNF ci) (hp : xputv (xFK ci k) k v a h = some h') : narrow (xty ci k) (xc base b v) = xc base b v ∧ fits (xty ci k) (xc base b v) = true := by
  rcases f_tk hci hk with ⟨e1, e2⟩ | ⟨e1, e2⟩ | ⟨e1, e2⟩ | ⟨e1, e2⟩
  · rw [e1] at hp
    rw [e2]
    cases v <;> first | exact x_no hp | exact ⟨rfl, rfl⟩
  · rw [e1] at hp
    rw [e2]
    cases v with
    | int x =>
      by_cases hx : x = 0 ∨ x = 1
      · rcases hx with rfl | rfl <;> exact ⟨rfl, rfl⟩
      · simp [xputv, hx] at hp
    | _ => exact x_no hp
  · rw [e1] at hp
    rw [e2]
    cases v <;> first | exact x_no hp | exact ⟨rfl, rfl⟩
  · rw [e1] at hp
    cases hty : xty ci k <;> rw [hty] at e2 <;> first | (cases e2; done) | (cases v <;> first | exact x_no hp | exact ⟨rfl, rfl⟩)
section XH
variable {p : Program} {l : Launch} {e : Env} {R : Room} {s : State} {m : MethodId} {args : Array Value} {below : List Frame} {meth : Method} {c : Code} {Q : State → Prop} {D : va_G} {cA : Nat → ClassId} {base b n0 s0 d j pc pc' k i : Nat} {scr : xScr} {ls : xLs} {st : List Value} {h : xHp} {f' : xCf}
theorem s_getf (hc : xCtx p R s m args meth c D cA base b n0 scr j d) (hdg : decode (xB j) pc = .ok (.getfield i, 3)) (hm : h.1.length ≤ xS) (hq : xgetf (xlF (xO j) i) (pc + 3) ls st h = some (.inl f')) (ih : xWA p l e R s m args below meth c D cA base b n0 s0 Q j f') : xWA p l e R s m args below meth c D cA base b n0 s0 Q j (pc, ls, st, h) := by
  obtain ⟨hx, hb, -, hown, -, hts, hK, -⟩ := hc
  obtain ⟨ci, k, a, st', ⟨tg, tn⟩, hF, rfl, ht, e1, e2, er⟩ := xgetf_inv hq
  cases er
  dsimp only at e1 e2
  subst e1
  obtain ⟨hci, hk, hlk⟩ := f_F hF
  intro H la locs cells slots h1 h2 h3 h4 h5
  have he := xw_get (cA := cA) (base := base) (b := b) ht
  have hg : W p l e R s m args below meth c H locs cells slots Q (F0 m pc la (.ref (base + a) :: st'.map (xc base b))) :=
    va_get (D := D) (ci := ci) (v := xc base b (xfv h a k (xFK ci k))) (C := xCN ci) (T := xT ci) (N := xNF ci) hx hb hts (f_lay hci) hown hK h2 a he (f_cl hci) k hk (hts _ hlk) (fun _ z => z) (xf_get e2) hdg (ih H la locs cells slots h1 h2 h3 h4 h5)
  rw [← xa_in (b := b) ht hm] at hg
  exact hg
theorem s_putf (hc : xCtx p R s m args meth c D cA base b n0 scr j d) (hdg : decode (xB j) pc = .ok (.putfield i, 3)) (hm : h.1.length ≤ xS) (hq : xputf j (xlF (xO j) i) (pc + 3) ls st h = some (.inl f')) (ih : xWA p l e R s m args below meth c D cA base b n0 s0 Q j f') : xWA p l e R s m args below meth c D cA base b n0 s0 Q j (pc, ls, st, h) := by
  obtain ⟨hx, hb, -, hown, hin, hts, hK, -⟩ := hc
  obtain ⟨ci, k, v, a, st', ⟨tg, tn⟩, h', hF, rfl, ht, hp, e1, e2, hfin, er⟩ := xputf_inv hq
  cases er
  dsimp only at e1 e2
  subst e1
  obtain ⟨hci, hk, hlk⟩ := f_F hF
  obtain ⟨hn, hfit⟩ := xput_fit (base := base) (b := b) hci hk hp
  intro H la locs cells slots h1 h2 h3 h4 h5
  have he := xw_get (cA := cA) (base := base) (b := b) ht
  have ho := xputv_off hp
  have kk : ∀ (H1 : Heap) (locs1 : List Loc), va_P D xCl ((xw cA base b h).set a (base + a, .inr (ci, ((List.range tn).map (fun i => xfw base b h a i (xFK ci i))).set k (xc base b v)))) H1 → va_D (xA base) ((xw cA base b h).set a (base + a, .inr (ci, ((List.range tn).map (fun i => xfw base b h a i (xFK ci i))).set k (xc base b v)))) → va_S (xA base) s.heap H1 locs1 → W p l e R s m args below meth c H1 locs1 cells slots Q (F0 m (pc + 3) la (st'.map (xc base b))) := fun H1 locs1 g1 _ g3 => by
    rw [xw_set ht ho (by rw [xf_set hp]; rfl)] at g1
    exact ih H1 la locs1 cells slots h1 g1 g3 (by show cells + n0 = h'.1.length; rw [ho.1]; exact h4) (by show slots + s0 = xsl h'.1; rw [ho.1]; exact h5)
  have hg : W p l e R s m args below meth c H locs cells slots Q (F0 m pc la (xc base b v :: .ref (base + a) :: st'.map (xc base b))) := by
    cases hf : xFn ci k with
    | false => exact va_put (D := D) (ci := ci) (v := xc base b v) (ty := xty ci k) (C := xCN ci) (T := xT ci) (N := xNF ci) hx hb hts (f_lay hci) (xty ci) (fun k hk => f_ty hci hk) (f_nm hci) hown hK h2 (xw_D cA base b h) h3 a he (f_cl hci) k hk (hts _ hlk) (fun _ z => z) hf (f_ty hci hk) hn hfit (by simpa using e2) hdg kk
    | true => exact va_putF (D := D) (ci := ci) (v := xc base b v) (ty := xty ci k) (C := xCN ci) (T := xT ci) (N := xNF ci) hx hb hts (f_lay hci) (xty ci) (fun k hk => f_ty hci hk) (f_nm hci) hown hK h2 (xw_D cA base b h) h3 a he (f_cl hci) k hk (hts _ hlk) (fun _ z => z) hf (hin ci (hfin hf)).1 (hin ci (hfin hf)).2 (f_ty hci hk) hn hfit (by simpa using e2) hdg kk
  rw [← xa_in (b := b) ht hm] at hg
  exact hg
theorem s_newc (hc : xCtx p R s m args meth c D cA base b n0 scr j d) (hdg : decode (xB j) pc = .ok (.new i, 3)) (hm : f'.2.2.2.1.length ≤ xS) (hn : f'.2.2.2.1.length ≤ n0 + R.cells) (hs : xsl f'.2.2.2.1 ≤ s0 + R.slots) (hq : xnewc (xlC (xO j) i) (pc + 3) ls st h = some (.inl f')) (ih : xWA p l e R s m args below meth c D cA base b n0 s0 Q j f') : xWA p l e R s m args below meth c D cA base b n0 s0 Q j (pc, ls, st, h) := by
  obtain ⟨hx, hb, -, hown, -, hts, hK, -, -, hsz, -⟩ := hc
  obtain ⟨ci, n, hC, er⟩ := xnewc_inv hq
  cases er
  obtain ⟨hci, rfl, hl, hin, hini⟩ := f_C hC
  dsimp only at hm hn hs
  rw [xlen_new] at hm hn
  rw [xsl_new] at hs
  intro H la locs cells slots h1 h2 h3 h4 h5
  have c1 : cells + n0 = h.1.length := h4
  have c2 : slots + s0 = xsl h.1 := h5
  have e3 : xa base b h.1.length = base + h.1.length := if_neg (by omega)
  refine va_new (D := D) (ci := ci) (C := xCN ci) (T := xT ci) (N := xNF ci) (fs := (List.range (xNF ci)).map (fun k => xfw base b (xnew (ci + 4) (xNF ci) h) h.1.length k (xFK ci k))) hx hb hts (f_lay hci) (xty ci) (fun k hk => f_ty hci hk) hown (hts _ hl) (hts _ hin) (hts _ hini) hK h2 (xw_D cA base b h) h3 (fun q hq => ?_) (f_cl hci) (fun k hk => ?_) (by omega) (by omega) hdg (fun q H1 g1 g2 g3 => x_size fun z => ?_)
  · show base ≤ q
    omega
  · rw [vp_V, List.getD_eq_getElem?_getD, List.getElem?_map, List.getElem?_range hk, Option.map_some, Option.getD_some]
    rcases f_tk hci hk with ⟨e1, e2⟩ | ⟨e1, e2⟩ | ⟨e1, e2⟩ | ⟨e1, e2⟩
    · rw [e1, e2]; simp [xfw, xnew, xz, defaultValue]
    · rw [e1, e2]; simp [xfw, xnew, xz, defaultValue]
    · rw [e1, e2]; simp [xfw, xnew, xz, defaultValue]
    · rw [e1]
      cases hty : xty ci k <;> rw [hty] at e2 <;> first | (cases e2; done) | simp [xfw, xnew, xz, defaultValue, va_rf]
  · have hqe := xw_addr g1 g2 (by omega)
    subst hqe
    have g1' : va_P D xCl (xw cA base b (xnew (ci + 4) (xNF ci) h)) H1 := by rw [xw_new]; exact g1
    have key := ih H1 la locs (cells + 1) (slots + xNF ci) h1 g1' g3 (by show cells + 1 + n0 = (xnew (ci + 4) (xNF ci) h).1.length; rw [xlen_new]; omega) (by show slots + xNF ci + s0 = xsl (xnew (ci + 4) (xNF ci) h).1; rw [xsl_new]; omega)
    rw [← e3]
    exact key
theorem s_newa {tag : Nat} {atype : ClassFile.ArrayType} {ty : FieldType} (a0 : Nat → vp_A) (hc : xCtx p R s m args meth c D cA base b n0 scr j d) (harr : Cond.arrayClass (newarray.typeOf atype) ∈ xgw) (hty : newarray.typeOf atype = ty) (htag : (xtys cA)[tag]? = some (cA tag, ty)) (ha0 : ∀ (N : Nat) (c1 : ClassId), vp_cell c1 (a0 N) = arrV c1 N (fun _ => defaultValue ty)) (hxe : ∀ (N : Nat), xe cA base b (xnew tag N h) h.1.length (tag, N) = .inl (cA tag, a0 N)) (hby : componentBytes ty ≤ 8)
    (hdg : decode (xB j) pc = .ok (.newarray atype, 2)) (hm : f'.2.2.2.1.length ≤ xS) (hn : f'.2.2.2.1.length ≤ n0 + R.cells) (hs : xsl f'.2.2.2.1 ≤ s0 + R.slots) (hq : xnewa tag (pc + 2) ls st h = some (.inl f')) (ih : xWA p l e R s m args below meth c D cA base b n0 s0 Q j f') : xWA p l e R s m args below meth c D cA base b n0 s0 Q j (pc, ls, st, h) := by
  obtain ⟨hx, hb, -, hown, -, hts, hK, -, -, hsz, -⟩ := hc
  obtain ⟨n, st', rfl, hn0, hn1, er⟩ := xnewa_inv hq
  cases er
  dsimp only at hm hn hs
  rw [xlen_new] at hm hn
  rw [xsl_new] at hs
  intro H la locs cells slots h1 h2 h3 h4 h5
  have c1 : cells + n0 = h.1.length := h4
  have c2 : slots + s0 = xsl h.1 := h5
  have e3 : xa base b h.1.length = base + h.1.length := if_neg (by omega)
  refine va_newa (D := D) (a0 := a0 n.toNatClampNeg) (N' := n.toNatClampNeg) hx hb (hts _ harr) hty hK h2 (xw_D cA base b h) h3 (fun q hq => ?_) (ha0 _) hn0 rfl (Nat.le_trans (Nat.mul_le_mul hn1 hby) (by decide)) (by omega) (by omega) hdg (fun q c1' H1 gK g1 g2 g3 => x_size fun z => ?_)
  · show base ≤ q
    omega
  · have hqe := xw_addr g1 g2 (by omega)
    subst hqe
    have hcA : c1' = cA tag := xRA_eq (gK.2 (xtys cA).length _ (by rw [List.getElem?_append_right (Nat.le_refl _), Nat.sub_self]; rfl)).2 (hK.2 tag _ htag).2
    subst hcA
    have g1' : va_P D xCl (xw cA base b (xnew tag n.toNatClampNeg h)) H1 := by rw [xw_new, hxe]; exact g1
    have key := ih H1 la locs (cells + 1) (slots + n.toNatClampNeg) h1 g1' g3 (by show cells + 1 + n0 = (xnew tag n.toNatClampNeg h).1.length; rw [xlen_new]; omega) (by show slots + n.toNatClampNeg + s0 = xsl (xnew tag n.toNatClampNeg h).1; rw [xsl_new]; omega)
    rw [← e3]
    exact key
theorem s_newq (hc : xCtx p R s m args meth c D cA base b n0 scr j d) (hl : xlA (xO j) i = true)
    (hdg : decode (xB j) pc = .ok (.anewarray i, 3)) (hm : f'.2.2.2.1.length ≤ xS) (hn : f'.2.2.2.1.length ≤ n0 + R.cells) (hs : xsl f'.2.2.2.1 ≤ s0 + R.slots) (hq : xnewa 3 (pc + 3) ls st h = some (.inl f')) (ih : xWA p l e R s m args below meth c D cA base b n0 s0 Q j f') : xWA p l e R s m args below meth c D cA base b n0 s0 Q j (pc, ls, st, h) := by
  obtain ⟨hx, hb, -, hown, -, hts, hK, -, hAO, hsz, -⟩ := hc
  obtain ⟨n, st', rfl, hn0, hn1, er⟩ := xnewa_inv hq
  cases er
  dsimp only at hm hn hs
  rw [xlen_new] at hm hn
  rw [xsl_new] at hs
  intro H la locs cells slots h1 h2 h3 h4 h5
  have c1 : cells + n0 = h.1.length := h4
  have c2 : slots + s0 = xsl h.1 := h5
  have e3 : xa base b h.1.length = base + h.1.length := if_neg (by omega)
  refine va_newq (D := D) (C := xSTn) (N' := n.toNatClampNeg) hx hb hown (hts _ (f_A hl)) hAO hK h2 (xw_D cA base b h) h3 (fun q hq => ?_) hn0 rfl (Nat.le_trans (Nat.mul_le_mul hn1 (Nat.le_refl 4)) (by decide)) (by omega) (by omega) hdg (fun q c1' H1 gK g1 g2 g3 => x_size fun z => ?_)
  · show base ≤ q
    omega
  · have hqe := xw_addr g1 g2 (by omega)
    subst hqe
    have hcA : c1' = cA 3 := xRA_eq (gK.2 (xtys cA).length _ (by rw [List.getElem?_append_right (Nat.le_refl _), Nat.sub_self]; rfl)).2 (hK.2 3 (cA 3, .object xSTn) rfl).2
    subst hcA
    have hxe : xe cA base b (xnew 3 n.toNatClampNeg h) h.1.length (3, n.toNatClampNeg) = .inl (cA 3, n.toNatClampNeg, .inr (.inr (.inr (.inr (fun _ => none))))) := by simp [xe, xnew, xz]
    have g1' : va_P D xCl (xw cA base b (xnew 3 n.toNatClampNeg h)) H1 := by rw [xw_new, hxe]; exact g1
    have key := ih H1 la locs (cells + 1) (slots + n.toNatClampNeg) h1 g1' g3 (by show cells + 1 + n0 = (xnew 3 n.toNatClampNeg h).1.length; rw [xlen_new]; omega) (by show slots + n.toNatClampNeg + s0 = xsl (xnew 3 n.toNatClampNeg h).1; rw [xsl_new]; omega)
    rw [← e3]
    exact key
theorem s_len (hc : xCtx p R s m args meth c D cA base b n0 scr j d) (hdg : decode (xB j) pc = .ok (.arraylength, 1)) (hm : h.1.length ≤ xS) (hq : xlen scr (pc + 1) ls st h = some (.inl f')) (ih : xWA p l e R s m args below meth c D cA base b n0 s0 Q j f') : xWA p l e R s m args below meth c D cA base b n0 s0 Q j (pc, ls, st, h) := by
  obtain ⟨hx, hb, -, hown, -, hts, hK, -, hAO, hsz, hscr, -⟩ := hc
  obtain ⟨a, st', rfl, ⟨⟨tg, tn⟩, ht, e1, er⟩ | ⟨rfl, w, hw, er⟩⟩ := xlen_inv hq
  · cases er
    dsimp only at e1
    intro H la locs cells slots h1 h2 h3 h4 h5
    have he := xw_get (cA := cA) (base := base) (b := b) ht
    have hg : W p l e R s m args below meth c H locs cells slots Q (F0 m pc la (.ref (base + a) :: st'.map (xc base b))) := by
      obtain rfl | rfl | rfl | rfl : tg = 0 ∨ tg = 1 ∨ tg = 2 ∨ tg = 3 := by omega
      · exact va_alen (D := D) (tys := xtys cA) (ty := .int) hx hb hK h2 a 0 he rfl rfl hdg (ih H la locs cells slots h1 h2 h3 h4 h5)
      · exact va_alen (D := D) (tys := xtys cA) (ty := .boolean) hx hb hK h2 a 1 he rfl rfl hdg (ih H la locs cells slots h1 h2 h3 h4 h5)
      · exact va_alen (D := D) (tys := xtys cA) (ty := .long) hx hb hK h2 a 2 he rfl rfl hdg (ih H la locs cells slots h1 h2 h3 h4 h5)
      · exact va_alen (D := D) (tys := xtys cA) (ty := .object xSTn) hx hb hK h2 a 3 he rfl rfl hdg (ih H la locs cells slots h1 h2 h3 h4 h5)
    rw [← xa_in (b := b) ht hm] at hg
    exact hg
  · cases er
    obtain ⟨hX, hbb⟩ := hscr w hw
    intro H la locs cells slots h1 h2 h3 h4 h5
    have hg : W p l e R s m args below meth c H locs cells slots Q (F0 m pc la (.ref b :: st'.map (xc base b))) :=
      va_slen (A := xA base) (H0 := s.heap) hx hb hX (by omega) (by show ¬ base ≤ b; omega) h3 hdg (ih H la locs cells slots h1 h2 h3 h4 h5)
    have e3 : xa base b xS = b := if_pos rfl
    rw [← e3] at hg
    exact hg
theorem s_iald (hc : xCtx p R s m args meth c D cA base b n0 scr j d) (hdg : decode (xB j) pc = .ok (.iaload, 1)) (hm : h.1.length ≤ xS) (hq : xIaload scr (pc + 1) ls st h = some (.inl f')) (ih : xWA p l e R s m args below meth c D cA base b n0 s0 Q j f') : xWA p l e R s m args below meth c D cA base b n0 s0 Q j (pc, ls, st, h) := by
  obtain ⟨hx, hb, -, hown, -, hts, hK, -, hAO, hsz, hscr, -⟩ := hc
  obtain ⟨i, a, st', rfl, ⟨⟨tg, tn⟩, ht, e1, hin, er⟩ | ⟨rfl, w, hw, hin, er⟩⟩ := xIaload_inv hq
  · cases er
    dsimp only at e1 hin
    subst e1
    intro H la locs cells slots h1 h2 h3 h4 h5
    have hg : W p l e R s m args below meth c H locs cells slots Q (F0 m pc la (.int i :: .ref (base + a) :: st'.map (xc base b))) :=
      va_iald (D := D) (tys := xtys cA) hx hb hK h2 a 0 (xw_get (cA := cA) (base := base) (b := b) ht) rfl hin hdg (ih H la locs cells slots h1 h2 h3 h4 h5)
    rw [← xa_in (b := b) ht hm] at hg
    exact hg
  · cases er
    obtain ⟨hX, hbb⟩ := hscr w hw
    intro H la locs cells slots h1 h2 h3 h4 h5
    have hg : W p l e R s m args below meth c H locs cells slots Q (F0 m pc la (.int i :: .ref b :: st'.map (xc base b))) :=
      va_sld (A := xA base) (H0 := s.heap) hx hb hX (by omega) (by show ¬ base ≤ b; omega) h3 hin hdg (ih H la locs cells slots h1 h2 h3 h4 h5)
    have e3 : xa base b xS = b := if_pos rfl
    rw [← e3] at hg
    exact hg
theorem s_zald (hc : xCtx p R s m args meth c D cA base b n0 scr j d) (hdg : decode (xB j) pc = .ok (.baload, 1)) (hm : h.1.length ≤ xS) (hq : xBaload (pc + 1) ls st h = some (.inl f')) (ih : xWA p l e R s m args below meth c D cA base b n0 s0 Q j f') : xWA p l e R s m args below meth c D cA base b n0 s0 Q j (pc, ls, st, h) := by
  obtain ⟨hx, hb, -, hown, -, hts, hK, -⟩ := hc
  obtain ⟨i, a, st', ⟨tg, tn⟩, rfl, ht, e1, hin, er⟩ := xBaload_inv hq
  cases er
  dsimp only at e1 hin
  subst e1
  intro H la locs cells slots h1 h2 h3 h4 h5
  have hg : W p l e R s m args below meth c H locs cells slots Q (F0 m pc la (.int i :: .ref (base + a) :: st'.map (xc base b))) :=
    va_zald (D := D) (tys := xtys cA) hx hb hK h2 a 1 (xw_get (cA := cA) (base := base) (b := b) ht) rfl hin hdg (ih H la locs cells slots h1 h2 h3 h4 h5)
  rw [← xa_in (b := b) ht hm] at hg
  exact hg
theorem s_lald (hc : xCtx p R s m args meth c D cA base b n0 scr j d) (hdg : decode (xB j) pc = .ok (.laload, 1)) (hm : h.1.length ≤ xS) (hq : xLaload (pc + 1) ls st h = some (.inl f')) (ih : xWA p l e R s m args below meth c D cA base b n0 s0 Q j f') : xWA p l e R s m args below meth c D cA base b n0 s0 Q j (pc, ls, st, h) := by
  obtain ⟨hx, hb, -, hown, -, hts, hK, -⟩ := hc
  obtain ⟨i, a, st', ⟨tg, tn⟩, rfl, ht, e1, hin, er⟩ := xLaload_inv hq
  cases er
  dsimp only at e1 hin
  subst e1
  intro H la locs cells slots h1 h2 h3 h4 h5
  have hg : W p l e R s m args below meth c H locs cells slots Q (F0 m pc la (.int i :: .ref (base + a) :: st'.map (xc base b))) :=
    va_lald (D := D) (tys := xtys cA) hx hb hK h2 a 2 (xw_get (cA := cA) (base := base) (b := b) ht) rfl hin hdg (ih H la locs cells slots h1 h2 h3 h4 h5)
  rw [← xa_in (b := b) ht hm] at hg
  exact hg
theorem s_aald (hc : xCtx p R s m args meth c D cA base b n0 scr j d) (hdg : decode (xB j) pc = .ok (.aaload, 1)) (hm : h.1.length ≤ xS) (hq : xAaload (pc + 1) ls st h = some (.inl f')) (ih : xWA p l e R s m args below meth c D cA base b n0 s0 Q j f') : xWA p l e R s m args below meth c D cA base b n0 s0 Q j (pc, ls, st, h) := by
  obtain ⟨hx, hb, -, hown, -, hts, hK, -⟩ := hc
  obtain ⟨i, a, st', ⟨tg, tn⟩, rfl, ht, e1, hin, er⟩ := xAaload_inv hq
  cases er
  dsimp only at e1 hin
  subst e1
  intro H la locs cells slots h1 h2 h3 h4 h5
  have key := ih H la locs cells slots h1 h2 h3 h4 h5
  have e4 : ((va_rf (h.2.2.2 a i.toNatClampNeg) :: st').map (xc base b)) = va_rf ((h.2.2.2 a i.toNatClampNeg).map (xa base b)) :: st'.map (xc base b) := by
    rw [List.map_cons]
    cases h.2.2.2 a i.toNatClampNeg <;> rfl
  have hg : W p l e R s m args below meth c H locs cells slots Q (F0 m pc la (.int i :: .ref (base + a) :: st'.map (xc base b))) :=
    va_aldq (D := D) (tys := xtys cA) (C := xSTn) hx hb hK h2 a 3 (xw_get (cA := cA) (base := base) (b := b) ht) rfl hin hdg (by rw [← e4]; exact key)
  rw [← xa_in (b := b) ht hm] at hg
  exact hg
theorem s_iast (hc : xCtx p R s m args meth c D cA base b n0 scr j d) (hdg : decode (xB j) pc = .ok (.iastore, 1)) (hm : h.1.length ≤ xS) (hq : xIastore (pc + 1) ls st h = some (.inl f')) (ih : xWA p l e R s m args below meth c D cA base b n0 s0 Q j f') : xWA p l e R s m args below meth c D cA base b n0 s0 Q j (pc, ls, st, h) := by
  obtain ⟨hx, hb, -, hown, -, hts, hK, -⟩ := hc
  obtain ⟨x, i, a, st', ⟨tg, tn⟩, rfl, ht, e1, hin, er⟩ := xIastore_inv hq
  cases er
  dsimp only at e1 hin
  subst e1
  intro H la locs cells slots h1 h2 h3 h4 h5
  have hg : W p l e R s m args below meth c H locs cells slots Q (F0 m pc la (.int x :: .int i :: .ref (base + a) :: st'.map (xc base b))) := by
    refine va_iast (D := D) (tys := xtys cA) hx hb hK h2 (xw_D cA base b h) h3 a 0 (xw_get (cA := cA) (base := base) (b := b) ht) rfl hin hdg (fun H1 locs1 g1 _ g3 => ?_)
    rw [xw_set (h' := (h.1, xu h.2.1 a i.toNatClampNeg x, h.2.2)) ht ⟨rfl, fun q hq => ⟨xu_ne hq, rfl, rfl⟩⟩ (by show _ = (.inl (cA 0, tn, .inl (xu h.2.1 a i.toNatClampNeg x a)) : va_E); rw [xu_at]; rfl)] at g1
    exact ih H1 la locs1 cells slots h1 g1 g3 h4 h5
  rw [← xa_in (b := b) ht hm] at hg
  exact hg
theorem s_zast (hc : xCtx p R s m args meth c D cA base b n0 scr j d) (hdg : decode (xB j) pc = .ok (.bastore, 1)) (hm : h.1.length ≤ xS) (hq : xBastore (pc + 1) ls st h = some (.inl f')) (ih : xWA p l e R s m args below meth c D cA base b n0 s0 Q j f') : xWA p l e R s m args below meth c D cA base b n0 s0 Q j (pc, ls, st, h) := by
  obtain ⟨hx, hb, -, hown, -, hts, hK, -⟩ := hc
  obtain ⟨x, i, a, st', ⟨tg, tn⟩, rfl, ht, e1, hin, er⟩ := xBastore_inv hq
  cases er
  dsimp only at e1 hin
  subst e1
  intro H la locs cells slots h1 h2 h3 h4 h5
  have hg : W p l e R s m args below meth c H locs cells slots Q (F0 m pc la (.int x :: .int i :: .ref (base + a) :: st'.map (xc base b))) := by
    refine va_zast (D := D) (tys := xtys cA) hx hb hK h2 (xw_D cA base b h) h3 a 1 (xw_get (cA := cA) (base := base) (b := b) ht) rfl hin hdg (fun H1 locs1 g1 _ g3 => ?_)
    rw [xw_set (h' := (h.1, xu h.2.1 a i.toNatClampNeg (vp_nar .boolean x), h.2.2)) ht ⟨rfl, fun q hq => ⟨xu_ne hq, rfl, rfl⟩⟩ (by show _ = (.inl (cA 1, tn, .inl (xu h.2.1 a i.toNatClampNeg (vp_nar .boolean x) a)) : va_E); rw [xu_at]; rfl)] at g1
    exact ih H1 la locs1 cells slots h1 g1 g3 h4 h5
  rw [← xa_in (b := b) ht hm] at hg
  exact hg
theorem s_last (hc : xCtx p R s m args meth c D cA base b n0 scr j d) (hdg : decode (xB j) pc = .ok (.lastore, 1)) (hm : h.1.length ≤ xS) (hq : xLastore (pc + 1) ls st h = some (.inl f')) (ih : xWA p l e R s m args below meth c D cA base b n0 s0 Q j f') : xWA p l e R s m args below meth c D cA base b n0 s0 Q j (pc, ls, st, h) := by
  obtain ⟨hx, hb, -, hown, -, hts, hK, -⟩ := hc
  obtain ⟨x, i, a, st', ⟨tg, tn⟩, rfl, ht, e1, hin, er⟩ := xLastore_inv hq
  cases er
  dsimp only at e1 hin
  subst e1
  intro H la locs cells slots h1 h2 h3 h4 h5
  have hg : W p l e R s m args below meth c H locs cells slots Q (F0 m pc la (.long x :: .int i :: .ref (base + a) :: st'.map (xc base b))) := by
    refine va_last (D := D) (tys := xtys cA) hx hb hK h2 (xw_D cA base b h) h3 a 2 (xw_get (cA := cA) (base := base) (b := b) ht) rfl hin hdg (fun H1 locs1 g1 _ g3 => ?_)
    rw [xw_set (h' := (h.1, h.2.1, xu h.2.2.1 a i.toNatClampNeg x, h.2.2.2)) ht ⟨rfl, fun q hq => ⟨rfl, xu_ne hq, rfl⟩⟩ (by show _ = (.inl (cA 2, tn, .inr (.inl (xu h.2.2.1 a i.toNatClampNeg x a))) : va_E); rw [xu_at]; rfl)] at g1
    exact ih H1 la locs1 cells slots h1 g1 g3 h4 h5
  rw [← xa_in (b := b) ht hm] at hg
  exact hg
theorem s_aast (hc : xCtx p R s m args meth c D cA base b n0 scr j d) (hdg : decode (xB j) pc = .ok (.aastore, 1)) (hm : h.1.length ≤ xS) (hq : xAastore (pc + 1) ls st h = some (.inl f')) (ih : xWA p l e R s m args below meth c D cA base b n0 s0 Q j f') : xWA p l e R s m args below meth c D cA base b n0 s0 Q j (pc, ls, st, h) := by
  obtain ⟨hx, hb, -, hown, -, hts, hK, -⟩ := hc
  obtain ⟨r', i, a, st', ⟨tg, tn⟩, ⟨tg', tn'⟩, rfl, ht, ht', e1, hin, e2, er⟩ := xAastore_inv hq
  cases er
  dsimp only at e1 hin e2
  subst e1
  subst e2
  intro H la locs cells slots h1 h2 h3 h4 h5
  have ea := xa_in (base := base) (b := b) ht hm
  have er := xa_in (base := base) (b := b) ht' hm
  have hg : W p l e R s m args below meth c H locs cells slots Q (F0 m pc la (.ref (base + r') :: .int i :: .ref (base + a) :: st'.map (xc base b))) := by
    refine va_astq (D := D) (tys := xtys cA) hx hb hK h2 (xw_D cA base b h) h3 a 3 r' xST (xw_get (cA := cA) (base := base) (b := b) ht) (r := (xCN xST, xT xST, xNF xST)) rfl (xw_get (cA := cA) (base := base) (b := b) ht') (f_cl (by decide)) hin hdg (fun H1 locs1 g1 _ g3 => ?_)
    rw [xw_set (h' := (h.1, h.2.1, h.2.2.1, xu h.2.2.2 a i.toNatClampNeg (some r'))) ht ⟨rfl, fun q hq => ⟨rfl, rfl, xu_ne hq⟩⟩ (by
      show _ = (.inl (cA 3, tn, .inr (.inr (.inr (.inr (fun k => (xu h.2.2.2 a i.toNatClampNeg (some r') a k).map (xa base b)))))) : va_E)
      have e5 : (fun k => (xu h.2.2.2 a i.toNatClampNeg (some r') a k).map (xa base b)) = va_up (fun k => (h.2.2.2 a k).map (xa base b)) i.toNatClampNeg (some (base + r')) := by
        funext k
        rw [xu_eq]
        unfold va_up
        split
        · rw [Option.map_some, er]
        · rfl
      rw [e5])] at g1
    exact ih H1 la locs1 cells slots h1 g1 g3 h4 h5
  rw [← ea, ← er] at hg
  exact hg
theorem s_copy (hc : xCtx p R s m args meth c D cA base b n0 scr j d) {w1 w2 w3 : Nat} (hw : xlM (xO j) i = some (4, w1, w2, w3)) (hdg : decode (xB j) pc = .ok (.invokestatic i, 3)) (hm : h.1.length ≤ xS) {n dp sp : Int32} {a a0 : Nat} {rest : List Value} {t t0 : Nat × Nat} (ht : h.1[a]? = some t) (ht0 : h.1[a0]? = some t0) (e1 : t.1 = 0) (e2 : t0.1 = 0) (g3 : ¬ sp < 0) (g4 : ¬ dp < 0) (g5 : ¬ n < 0) (g6 : sp.toNatClampNeg + n.toNatClampNeg ≤ t0.2) (g7 : dp.toNatClampNeg + n.toNatClampNeg ≤ t.2) (g8 : xcat rest ≤ 8)
    (ih : xWA p l e R s m args below meth c D cA base b n0 s0 Q j (pc + 3, ls, rest, (h.1, (fun x => if x = a then va_cpy (h.2.1 a0) (h.2.1 a) sp.toNatClampNeg dp.toNatClampNeg n.toNatClampNeg else h.2.1 x), h.2.2))) : xWA p l e R s m args below meth c D cA base b n0 s0 Q j (pc, ls, .int n :: .int dp :: .ref a :: .int sp :: .ref a0 :: rest, h) := by
  obtain ⟨hx, hb, hml, hown, -, hts, hK, -, -, hsz, -, hfr, hlo⟩ := hc
  obtain ⟨tg, tn⟩ := t
  obtain ⟨tg0, tn0⟩ := t0
  dsimp only at e1 e2 g6 g7
  subst e1
  subst e2
  obtain ⟨l1, l2, l3, l4⟩ := f_M4 hw
  intro H la locs cells slots h1 h2 h3 h4 h5
  have ea := xa_in (base := base) (b := b) ht hm
  have ea0 := xa_in (base := base) (b := b) ht0 hm
  have en : nativeFrameWords "java/lang/System" "arraycopy" 5 = 7 := by decide
  have hg : W p l e R s m args below meth c H locs cells slots Q (F0 m pc la (.int n :: .int dp :: .ref (base + a) :: .int sp :: .ref (base + a0) :: rest.map (xc base b))) := by
    refine va_copyi (D := D) (tys := xtys cA) (ty := .int) hx hb (hml.trans h1.1.1.symm) hown (hts _ l1) (hts _ l2) (hts _ l3) (hts _ l4) hK h2 (xw_D cA base b h) h3 a0 a 0 0 (xw_get (cA := cA) (base := base) (b := b) ht0) (xw_get (cA := cA) (base := base) (b := b) ht) rfl rfl rfl g3 g4 g5 g6 g7 (fun _ _ => rfl) (by omega) (by rw [xcat_map, en]; omega) hdg (fun H1 locs1 g1 _ g3 => ?_)
    rw [xw_set (h' := (h.1, (fun x => if x = a then va_cpy (h.2.1 a0) (h.2.1 a) sp.toNatClampNeg dp.toNatClampNeg n.toNatClampNeg else h.2.1 x), h.2.2)) ht ⟨rfl, fun q hq => ⟨if_neg hq, rfl, rfl⟩⟩ (by
      show _ = (.inl (cA 0, tn, .inl (if a = a then va_cpy (h.2.1 a0) (h.2.1 a) sp.toNatClampNeg dp.toNatClampNeg n.toNatClampNeg else h.2.1 a)) : va_E)
      rw [if_pos rfl])] at g1
    exact ih H1 la locs1 cells slots h1 g1 g3 h4 h5
  rw [← ea, ← ea0] at hg
  exact hg
theorem s_obj (hc : xCtx p R s m args meth c D cA base b n0 scr j d) {w1 w2 w3 : Nat} (hw : xlM (xO j) i = some (3, w1, w2, w3)) (hdg : decode (xB j) pc = .ok (.invokespecial i, 3)) {a : Nat} {rest : List Value} (g8 : xcat rest ≤ 8) (ih : xWA p l e R s m args below meth c D cA base b n0 s0 Q j (pc + 3, ls, rest, h)) : xWA p l e R s m args below meth c D cA base b n0 s0 Q j (pc, ls, .ref a :: rest, h) := by
  obtain ⟨hx, hb, hml, hown, -, hts, hK, -, -, hsz, -, hfr, hlo⟩ := hc
  obtain ⟨l1, l2, l3⟩ := f_M3 hw
  intro H la locs cells slots h1 h2 h3 h4 h5
  have hr := lv_room (m := m) (pc := pc) (ls := la) (rest := (Value.ref a :: rest).map (xc base b)) (st := rest.map (xc base b)) (by rw [xcat_map]; exact g8)
  have hr2 : 2 * (F0 m pc la ((Value.ref a :: rest).map (xc base b))).monitorRoom + ((rest.map (xc base b)).map fun v => v.category).sum + 12 ≤ R.locals := by omega
  exact W.objInit (g := F0 m pc la ((Value.ref a :: rest).map (xc base b))) (rest := rest.map (xc base b)) hx hb hown (hts _ l1) (hts _ l2) (hts _ l3) rfl (h1.1.1.trans hml.symm) rfl hdg (by omega) hr2 (ih H la locs cells slots h1 h2 h3 h4 h5)
end XH
