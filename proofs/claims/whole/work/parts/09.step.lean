def xEnd (j : Nat) (i : Instr) (v : Option Value) : Prop := (i = .ireturn ∧ ∃ x, v = some (.int x) ∧ (xRk j = 0 ∨ (xRk j = 1 ∧ (x = 0 ∨ x = 1)))) ∨ (i = .lreturn ∧ (∃ x, v = some (.long x)) ∧ xRk j = 2) ∨ (i = .areturn ∧ (∃ x, v = some (.ref x)) ∧ xRk j = 3) ∨ (i = .return_ ∧ v = none ∧ xRk j = 4)
section XW
variable {p : Program} {l : Launch} {e : Env} {R : Room} {s : State} {m : MethodId} {args : Array Value} {below : List Frame} {meth : Method} {c : Code} {Q : State → Prop} {D : va_G} {cA : Nat → ClassId} {base b n0 s0 d j pc pc' k : Nat} {scr : xScr} {ls : xLs} {st : List Value} {h h' : xHp} {f f' : xCf}
set_option maxHeartbeats 4000000 in
theorem x_step (hc : xCtx p R s m args meth c D cA base b n0 scr j d) (hq : xstep scr j f = some (.inl f')) (hm : f.2.2.2.1.length ≤ xS) (hm' : f'.2.2.2.1.length ≤ xS) (hn : f'.2.2.2.1.length ≤ n0 + R.cells) (hs : xsl f'.2.2.2.1 ≤ s0 + R.slots) (ih : xWA p l e R s m args below meth c D cA base b n0 s0 Q j f') : xWA p l e R s m args below meth c D cA base b n0 s0 Q j f := by
  obtain ⟨i, n, hdg, hxn, hq⟩ := xstep_inv hq
  obtain ⟨pc, ls, st, h⟩ := f
  dsimp only at hdg hq hm
  have hx := hc.1
  have hb := hc.2.1
  have hown := hc.2.2.2.1
  have hts := hc.2.2.2.2.2.1
  have e1 : ∀ {k : Nat}, (n == k) = true → n = k := fun z => by simpa using z
  cases i with
  | iconst v => obtain rfl := e1 hxn; cases hq; exact s_go (fun _ _ _ _ _ k => lv_iconst hx hb hdg rfl k) ih
  | bipush v => obtain rfl := e1 hxn; cases hq; exact s_go (fun _ _ _ _ _ k => lv_bipush hx hb hdg rfl k) ih
  | sipush v => obtain rfl := e1 hxn; cases hq; exact s_go (fun _ _ _ _ _ k => lv_sipush hx hb hdg rfl k) ih
  | lconst v => obtain rfl := e1 hxn; cases hq; exact s_go (fun _ _ _ _ _ k => lv_lconst hx hb hdg rfl k) ih
  | ldc k =>
    obtain rfl := e1 hxn
    obtain ⟨v, hv, er⟩ := xcK_inv hq
    cases er
    exact s_go (fun _ _ _ _ _ k => lv_ldc hx hb hown (hts _ (f_K hv)) hdg k) ih
  | ldc_w k =>
    obtain rfl := e1 hxn
    obtain ⟨v, hv, er⟩ := xcK_inv hq
    cases er
    exact s_go (fun _ _ _ _ _ k => lv_ldcw hx hb hown (hts _ (f_K hv)) hdg k) ih
  | ldc2_w k =>
    obtain rfl := e1 hxn
    obtain ⟨v, hv, er⟩ := xcJ_inv hq
    cases er
    exact s_go (fun _ _ _ _ _ k => lv_ldc2 hx hb hown (hts _ (f_J hv)) hdg k) ih
  | iload_n k => obtain rfl := e1 hxn; exact s_ldI hq (fun _ _ _ _ _ _ _ z k => lv_iload_n hx hb hdg rfl z k) ih
  | iload k => obtain rfl := e1 hxn; exact s_ldI hq (fun _ _ _ _ _ _ _ z k => lv_iload hx hb hdg z k) ih
  | lload_n k => obtain rfl := e1 hxn; exact s_ldL hq (fun _ _ _ _ _ _ _ z k => lv_lload_n hx hb hdg rfl z k) ih
  | lload k => obtain rfl := e1 hxn; exact s_ldL hq (fun _ _ _ _ _ _ _ z k => lv_lload hx hb hdg z k) ih
  | aload_n k => obtain rfl := e1 hxn; exact s_ldA hq (fun _ _ _ _ _ _ _ z k => lv_aload_n hx hb hdg rfl z k) ih
  | aload k => obtain rfl := e1 hxn; exact s_ldA hq (fun _ _ _ _ _ _ _ z k => lv_aload hx hb hdg z k) ih
  | istore_n k => obtain rfl := e1 hxn; exact s_stI hq (fun _ _ _ _ _ _ _ _ z z2 k => lv_istore_n hx hb hdg rfl z z2 rfl k) ih
  | istore k => obtain rfl := e1 hxn; exact s_stI hq (fun _ _ _ _ _ _ _ _ z z2 k => lv_istore hx hb hdg z z2 rfl k) ih
  | lstore_n k => obtain rfl := e1 hxn; exact s_stL hq (fun _ _ _ _ _ _ _ _ z z2 k => lv_lstore_n hx hb hdg rfl z z2 rfl k) ih
  | lstore k => obtain rfl := e1 hxn; exact s_stL hq (fun _ _ _ _ _ _ _ _ z z2 k => lv_lstore hx hb hdg z z2 rfl k) ih
  | astore_n k => obtain rfl := e1 hxn; exact s_stA hq (fun _ _ _ _ _ _ _ _ z z2 k => lv_astore_n hx hb hdg rfl z z2 rfl k) ih
  | astore k => obtain rfl := e1 hxn; exact s_stA hq (fun _ _ _ _ _ _ _ _ z z2 k => lv_astore hx hb hdg z z2 rfl k) ih
  | iinc k v => obtain rfl := e1 hxn; exact s_inc hx hb hdg hq ih
  | iadd => obtain rfl := e1 hxn; exact s_I2 hq (fun _ _ _ _ _ _ _ _ k => lv_iadd hx hb hdg k) ih
  | isub => obtain rfl := e1 hxn; exact s_I2 hq (fun _ _ _ _ _ _ _ _ k => lv_isub hx hb hdg k) ih
  | imul => obtain rfl := e1 hxn; exact s_I2 hq (fun _ _ _ _ _ _ _ _ k => lv_imul hx hb hdg k) ih
  | iand => obtain rfl := e1 hxn; exact s_I2 hq (fun _ _ _ _ _ _ _ _ k => lv_iand hx hb hdg k) ih
  | ior => obtain rfl := e1 hxn; exact s_I2 hq (fun _ _ _ _ _ _ _ _ k => lv_ior hx hb hdg k) ih
  | ixor => obtain rfl := e1 hxn; exact s_I2 hq (fun _ _ _ _ _ _ _ _ k => lv_ixor hx hb hdg k) ih
  | idiv => obtain rfl := e1 hxn; exact s_ID hq (fun _ _ _ _ _ _ _ _ z k => lv_idiv hx hb hdg z k) ih
  | irem => obtain rfl := e1 hxn; exact s_ID hq (fun _ _ _ _ _ _ _ _ z k => lv_irem hx hb hdg z k) ih
  | ineg => obtain rfl := e1 hxn; exact s_I1 hq (fun _ _ _ _ _ _ _ k => lv_ineg hx hb hdg k) ih
  | ishl => obtain rfl := e1 hxn; exact s_I2 hq (fun _ _ _ _ _ _ _ _ k => lv_ishl hx hb hdg k) ih
  | ishr => obtain rfl := e1 hxn; exact s_I2 hq (fun _ _ _ _ _ _ _ _ k => lv_ishr hx hb hdg k) ih
  | iushr => obtain rfl := e1 hxn; exact s_I2 hq (fun _ _ _ _ _ _ _ _ k => lv_iushr hx hb hdg rfl k) ih
  | ladd => obtain rfl := e1 hxn; exact s_L2 hq (fun _ _ _ _ _ _ _ _ k => lv_ladd hx hb hdg k) ih
  | lsub => obtain rfl := e1 hxn; exact s_L2 hq (fun _ _ _ _ _ _ _ _ k => lv_lsub hx hb hdg k) ih
  | lmul => obtain rfl := e1 hxn; exact s_L2 hq (fun _ _ _ _ _ _ _ _ k => lv_lmul hx hb hdg k) ih
  | lcmp => obtain rfl := e1 hxn; exact s_LC hq (fun _ _ _ _ _ _ _ _ k => W.lcmp hx hb hdg k) ih
  | lshr => obtain rfl := e1 hxn; exact s_LS hq (fun _ _ _ _ _ _ _ _ k => lv_lshr hx hb hdg rfl k) ih
  | i2l => obtain rfl := e1 hxn; exact s_IL hq (fun _ _ _ _ _ _ _ k => lv_i2l hx hb hdg rfl k) ih
  | l2i => obtain rfl := e1 hxn; exact s_LI hq (fun _ _ _ _ _ _ _ k => lv_l2i hx hb hdg rfl k) ih
  | dup => obtain rfl := e1 hxn; exact s_dup hq (fun _ _ _ _ _ _ _ z k => lv_dup hx hb hdg z k) ih
  | dup2 => obtain rfl := e1 hxn; exact s_dup2 hq (fun _ _ _ _ _ _ _ _ z z2 k => lv_dup2_11 hx hb hdg z z2 k) ih
  | ifCond cd off => obtain rfl := e1 hxn; exact s_if0 hx hb hdg hq ih
  | if_icmp cd off => obtain rfl := e1 hxn; exact s_if2 hx hb hdg hq ih
  | goto off => obtain rfl := e1 hxn; exact s_j hq (fun _ ht _ _ _ _ _ k => lv_goto hx hb hdg ht k) ih
  | tableswitch dflt lo hi offs => exact s_tab hx hb hdg hq ih
  | lookupswitch dflt ps => exact s_look hx hb hdg hq ih
  | getfield k => obtain rfl := e1 hxn; exact s_getf hc hdg hm hq ih
  | putfield k => obtain rfl := e1 hxn; exact s_putf hc hdg hm hq ih
  | new k => obtain rfl := e1 hxn; exact s_newc hc hdg hm' hn hs hq ih
  | newarray t =>
    obtain rfl := e1 hxn
    cases t with
    | int => exact s_newa (tag := 0) (atype := .int) (ty := .int) (fun N => (N, .inl (fun _ => 0))) hc f_a0 rfl rfl (fun _ _ => rfl) (fun N => by simp [xe, xnew, xz]) (by decide) hdg hm' hn hs hq ih
    | boolean => exact s_newa (tag := 1) (atype := .boolean) (ty := .boolean) (fun N => (N, .inl (fun _ => 0))) hc f_a1 rfl rfl (fun _ _ => rfl) (fun N => by simp [xe, xnew, xz]) (by decide) hdg hm' hn hs hq ih
    | long => exact s_newa (tag := 2) (atype := .long) (ty := .long) (fun N => (N, .inr (.inl (fun _ => 0)))) hc f_a2 rfl rfl (fun _ _ => rfl) (fun N => by simp [xe, xnew, xz]) (by decide) hdg hm' hn hs hq ih
    | _ => exact x_no hq
  | anewarray k =>
    obtain rfl := e1 hxn
    have hq : (if xlA (xO j) k = true then xnewa 3 (pc + 3) ls st h else none) = some (.inl f') := hq
    split at hq
    · next hl => exact s_newq hc hl hdg hm' hn hs hq ih
    · cases hq
  | arraylength => obtain rfl := e1 hxn; exact s_len hc hdg hm hq ih
  | iaload => obtain rfl := e1 hxn; exact s_iald hc hdg hm hq ih
  | baload => obtain rfl := e1 hxn; exact s_zald hc hdg hm hq ih
  | laload => obtain rfl := e1 hxn; exact s_lald hc hdg hm hq ih
  | aaload => obtain rfl := e1 hxn; exact s_aald hc hdg hm hq ih
  | iastore => obtain rfl := e1 hxn; exact s_iast hc hdg hm hq ih
  | bastore => obtain rfl := e1 hxn; exact s_zast hc hdg hm hq ih
  | lastore => obtain rfl := e1 hxn; exact s_last hc hdg hm hq ih
  | aastore => obtain rfl := e1 hxn; exact s_aast hc hdg hm hq ih
  | invokevirtual k =>
    obtain ⟨_, _, _, _, q⟩ := xcallV_inv hq
    obtain ⟨_, _, _, _, _, _, _, _, er⟩ := xinst_inv q
    cases er
  | invokespecial k =>
    obtain rfl := e1 hxn
    rcases xcallI_inv hq with ⟨_, _, _, _, q⟩ | ⟨_, _, _, _, q⟩ | ⟨_, _, _, _, _, hw, rfl, g8, er⟩
    · obtain ⟨_, _, _, _, _, _, _, _, er⟩ := xinst_inv q
      cases er
    · obtain ⟨_, _, _, _, _, _, _, _, er⟩ := xinst_inv q
      cases er
    · cases er
      exact s_obj hc hw hdg g8 ih
  | invokestatic k =>
    obtain rfl := e1 hxn
    rcases xcallS_inv hq with ⟨_, _, _, _, _, _, _, er⟩ | ⟨_, _, _, hw, _, _, _, _, _, _, _, _, rfl, ht, ht0, g1, g2, g3, g4, g5, g6, g7, g8, er⟩ | ⟨_, _, _, hw, _, _, _, rfl, g8, er⟩
    · cases er
    · cases er
      exact s_copy hc hw hdg hm ht ht0 g1 g2 g3 g4 g5 g6 g7 g8 ih
    · cases er
      exact s_max hc hw hdg hn hs g8 ih
  | ireturn => obtain ⟨_, _, _, er⟩ := xIret_inv hq; cases er
  | lreturn => obtain ⟨_, _, _, er⟩ := xLret_inv hq; cases er
  | areturn => obtain ⟨_, _, _, er⟩ := xAret_inv hq; cases er
  | return_ => obtain ⟨_, _, er⟩ := xVret_inv hq; cases er
  | _ => exact x_no hq
set_option maxHeartbeats 4000000 in
theorem xop_call {i : Instr} {as : List Value} {f1 : xCf} (hq : xop scr j pc i ls st h = some (.inr (.inl (k, as, f1)))) : (∃ q, i = .invokevirtual q) ∨ (∃ q, i = .invokespecial q) ∨ (∃ q, i = .invokestatic q) := by
  cases i with
  | invokevirtual q => exact Or.inl ⟨q, rfl⟩
  | invokespecial q => exact Or.inr (Or.inl ⟨q, rfl⟩)
  | invokestatic q => exact Or.inr (Or.inr ⟨q, rfl⟩)
  | iconst v => cases hq
  | bipush v => cases hq
  | sipush v => cases hq
  | lconst v => cases hq
  | ldc q => obtain ⟨_, _, er⟩ := xcK_inv hq; cases er
  | ldc_w q => obtain ⟨_, _, er⟩ := xcK_inv hq; cases er
  | ldc2_w q => obtain ⟨_, _, er⟩ := xcJ_inv hq; cases er
  | iload_n q => obtain ⟨_, _, er⟩ := xldI_inv hq; cases er
  | iload q => obtain ⟨_, _, er⟩ := xldI_inv hq; cases er
  | lload_n q => obtain ⟨_, _, er⟩ := xldL_inv hq; cases er
  | lload q => obtain ⟨_, _, er⟩ := xldL_inv hq; cases er
  | aload_n q => obtain ⟨_, _, er⟩ := xldA_inv hq; cases er
  | aload q => obtain ⟨_, _, er⟩ := xldA_inv hq; cases er
  | istore_n q => obtain ⟨_, _, _, _, er⟩ := xstI_inv hq; cases er
  | istore q => obtain ⟨_, _, _, _, er⟩ := xstI_inv hq; cases er
  | lstore_n q => obtain ⟨_, _, _, _, _, er⟩ := xstL_inv hq; cases er
  | lstore q => obtain ⟨_, _, _, _, _, er⟩ := xstL_inv hq; cases er
  | astore_n q => obtain ⟨_, _, _, _, er⟩ := xstA_inv hq; cases er
  | astore q => obtain ⟨_, _, _, _, er⟩ := xstA_inv hq; cases er
  | iinc q v => obtain ⟨_, _, _, er⟩ := xinc_inv hq; cases er
  | iadd => obtain ⟨_, _, _, _, er⟩ := xI2_inv hq; cases er
  | isub => obtain ⟨_, _, _, _, er⟩ := xI2_inv hq; cases er
  | imul => obtain ⟨_, _, _, _, er⟩ := xI2_inv hq; cases er
  | iand => obtain ⟨_, _, _, _, er⟩ := xI2_inv hq; cases er
  | ior => obtain ⟨_, _, _, _, er⟩ := xI2_inv hq; cases er
  | ixor => obtain ⟨_, _, _, _, er⟩ := xI2_inv hq; cases er
  | idiv => obtain ⟨_, _, _, _, _, er⟩ := xID_inv hq; cases er
  | irem => obtain ⟨_, _, _, _, _, er⟩ := xID_inv hq; cases er
  | ineg => obtain ⟨_, _, _, er⟩ := xI1_inv hq; cases er
  | ishl => obtain ⟨_, _, _, _, er⟩ := xI2_inv hq; cases er
  | ishr => obtain ⟨_, _, _, _, er⟩ := xI2_inv hq; cases er
  | iushr => obtain ⟨_, _, _, _, er⟩ := xI2_inv hq; cases er
  | ladd => obtain ⟨_, _, _, _, er⟩ := xL2_inv hq; cases er
  | lsub => obtain ⟨_, _, _, _, er⟩ := xL2_inv hq; cases er
  | lmul => obtain ⟨_, _, _, _, er⟩ := xL2_inv hq; cases er
  | lcmp => obtain ⟨_, _, _, _, er⟩ := xLC_inv hq; cases er
  | lshr => obtain ⟨_, _, _, _, er⟩ := xLS_inv hq; cases er
  | i2l => obtain ⟨_, _, _, er⟩ := xIL_inv hq; cases er
  | l2i => obtain ⟨_, _, _, er⟩ := xLI_inv hq; cases er
  | dup => obtain ⟨_, _, _, _, er⟩ := xdup_inv hq; cases er
  | dup2 => obtain ⟨_, _, _, _, _, _, er⟩ := xdup2_inv hq; cases er
  | ifCond cd off =>
    obtain ⟨_, _, _, q⟩ := xif0_inv hq
    obtain ⟨_, _, ⟨_, er⟩ | ⟨_, er⟩⟩ := xif_inv q <;> cases er
  | if_icmp cd off =>
    obtain ⟨_, _, _, _, q⟩ := xif2_inv hq
    obtain ⟨_, _, ⟨_, er⟩ | ⟨_, er⟩⟩ := xif_inv q <;> cases er
  | goto off => obtain ⟨_, _, er⟩ := xj_inv hq; cases er
  | tableswitch dflt lo hi offs =>
    obtain ⟨_, _, _, ⟨_, q⟩ | ⟨_, _, _, _, q⟩⟩ := xtab_inv hq <;> (obtain ⟨_, _, er⟩ := xj_inv q; cases er)
  | lookupswitch dflt ps =>
    obtain ⟨_, _, _, _, q⟩ := xlook_inv hq
    obtain ⟨_, _, er⟩ := xj_inv q
    cases er
  | getfield q => obtain ⟨_, _, _, _, _, _, _, _, _, _, er⟩ := xgetf_inv hq; cases er
  | putfield q => obtain ⟨_, _, _, _, _, _, _, _, _, _, hp, _, _, _, er⟩ := xputf_inv hq; cases er
  | new q => obtain ⟨_, _, _, er⟩ := xnewc_inv hq; cases er
  | newarray t => cases t <;> first | exact x_no hq | (obtain ⟨_, _, _, _, _, er⟩ := xnewa_inv hq; cases er)
  | anewarray q =>
    have hq : (if xlA (xO j) q = true then xnewa 3 (pc + 3) ls st h else none) = some (.inr (.inl (k, as, f1))) := hq
    split at hq
    · obtain ⟨_, _, _, _, _, er⟩ := xnewa_inv hq
      cases er
    · cases hq
  | arraylength => obtain ⟨_, _, _, ⟨_, _, _, er⟩ | ⟨_, _, _, er⟩⟩ := xlen_inv hq <;> cases er
  | iaload => obtain ⟨_, _, _, _, ⟨_, _, _, _, er⟩ | ⟨_, _, _, _, er⟩⟩ := xIaload_inv hq <;> cases er
  | baload => obtain ⟨_, _, _, _, _, _, _, _, er⟩ := xBaload_inv hq; cases er
  | laload => obtain ⟨_, _, _, _, _, _, _, _, er⟩ := xLaload_inv hq; cases er
  | aaload => obtain ⟨_, _, _, _, _, _, _, _, er⟩ := xAaload_inv hq; cases er
  | iastore => obtain ⟨_, _, _, _, _, _, _, _, _, er⟩ := xIastore_inv hq; cases er
  | bastore => obtain ⟨_, _, _, _, _, _, _, _, _, er⟩ := xBastore_inv hq; cases er
  | lastore => obtain ⟨_, _, _, _, _, _, _, _, _, er⟩ := xLastore_inv hq; cases er
  | aastore => obtain ⟨_, _, _, _, _, _, _, _, _, _, _, _, er⟩ := xAastore_inv hq; cases er
  | ireturn => obtain ⟨_, _, _, er⟩ := xIret_inv hq; cases er
  | lreturn => obtain ⟨_, _, _, er⟩ := xLret_inv hq; cases er
  | areturn => obtain ⟨_, _, _, er⟩ := xAret_inv hq; cases er
  | return_ => obtain ⟨_, _, er⟩ := xVret_inv hq; cases er
  | _ => exact x_no hq
theorem xinst_f1 {n ci : Nat} {k' : Nat} {as : List Value} {f1 : xCf} (hq : xinst k' n ci pc' ls st h = some (.inr (.inl (k, as, f1)))) : f1.1 = pc' ∧ f1.2.1 = ls ∧ f1.2.2.2 = h := by
  obtain ⟨_, _, _, _, _, _, _, _, er⟩ := xinst_inv hq
  cases er
  exact ⟨rfl, rfl, rfl⟩
theorem x_callstep (hc : xCtx p R s m args meth c D cA base b n0 scr j (d + 1)) {as : List Value} {f1 : xCf} {v : Option Value} (hq : xstep scr j f = some (.inr (.inl (k, as, f1)))) (hM : 0 < k → k < xnM → (xarg as).length ≤ xnL k → xMt l D cA base b d k as f1.2.2.2 h' v) (hg1 : f1.2.2.2.1.length ≤ h'.1.length) (hg2 : xsl f1.2.2.2.1 ≤ xsl h'.1) (hm : f1.2.2.2.1.length ≤ xS) (hn : h'.1.length ≤ n0 + R.cells) (hs : xsl h'.1 ≤ s0 + R.slots) (ih : xWA p l e R s m args below meth c D cA base b n0 s0 Q j (f1.1, f1.2.1, v.toList ++ f1.2.2.1, h')) : xWA p l e R s m args below meth c D cA base b n0 s0 Q j f := by
  have hgr : f1.2.2.2 = f.2.2.2 := xstep_grow hq
  obtain ⟨i, n, hdg, hxn, hq⟩ := xstep_inv hq
  obtain ⟨pc, ls, st, h⟩ := f
  dsimp only at hdg hq hgr
  rw [hgr] at hM hg1 hg2 hm
  have e1 : ∀ {k : Nat}, (n == k) = true → n = k := fun z => by simpa using z
  rcases xop_call hq with ⟨q, rfl⟩ | ⟨q, rfl⟩ | ⟨q, rfl⟩
  · obtain rfl := e1 hxn
    exact s_callV hc hdg hq hM hg1 hg2 hm hn hs ih
  · obtain rfl := e1 hxn
    exact s_callI hc hdg hq hM hg1 hg2 hm hn hs ih
  · obtain rfl := e1 hxn
    exact s_callS hc hdg hq hM hg1 hg2 hm hn hs ih
end XW
