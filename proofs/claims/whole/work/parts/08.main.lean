theorem xstep_inv {scr : xScr} {j : Nat} {f : xCf} {r : xRs} (hq : xstep scr j f = some r) : ∃ i n, decode (xB j) f.1 = .ok (i, n) ∧ xn i n = true ∧ xop scr j f.1 i f.2.1 f.2.2.1 f.2.2.2 = some r := by
  unfold xstep at hq
  split at hq
  · next hd =>
    split at hq
    · next hh => exact ⟨_, _, hd, hh, hq⟩
    · cases hq
  · cases hq
def xGr (h : xHp) (r : xRs) : Prop := match r with
  | .inl f' => ∃ t, f'.2.2.2.1 = h.1 ++ t
  | .inr (.inl q) => q.2.2.2.2.2 = h
  | .inr (.inr _) => True
theorem xGr_go {h : xHp} {pc : Nat} {ls : xLs} {st : List Value} {h' : xHp} (e : h'.1 = h.1) : xGr h (.inl (pc, ls, st, h')) := ⟨[], by show h'.1 = _; rw [e, List.append_nil]⟩
theorem xputv_sh {kd k a : Nat} {v : Value} {h h' : xHp} (hp : xputv kd k v a h = some h') : h'.1 = h.1 := (xputv_off hp).1
set_option maxHeartbeats 2000000 in
theorem xop_grow {scr : xScr} {j pc : Nat} {i : Instr} {ls : xLs} {st : List Value} {h : xHp} {r : xRs} (hq : xop scr j pc i ls st h = some r) : xGr h r := by
  have hj : ∀ {off : Int} {st' : List Value}, xj pc off ls st' h = some r → xGr h r := fun q => by
    obtain ⟨_, _, rfl⟩ := xj_inv q
    exact xGr_go rfl
  have hi : ∀ {cd : ClassFile.Cond} {x y : Int32} {off : Int} {st' : List Value}, xif cd x y off pc ls st' h = some r → xGr h r := fun q => by
    obtain ⟨_, _, ⟨_, rfl⟩ | ⟨_, rfl⟩⟩ := xif_inv q <;> exact xGr_go rfl
  have ha : ∀ {tag pc' : Nat}, xnewa tag pc' ls st h = some r → xGr h r := fun q => by
    obtain ⟨_, _, _, _, _, rfl⟩ := xnewa_inv q
    exact ⟨_, rfl⟩
  have hin : ∀ {k n ci pc' : Nat}, xinst k n ci pc' ls st h = some r → xGr h r := fun q => by
    obtain ⟨_, _, _, _, _, _, _, _, rfl⟩ := xinst_inv q
    rfl
  cases i with
  | iconst v => cases hq; exact xGr_go rfl
  | bipush v => cases hq; exact xGr_go rfl
  | sipush v => cases hq; exact xGr_go rfl
  | lconst v => cases hq; exact xGr_go rfl
  | ldc k => obtain ⟨_, _, rfl⟩ := xcK_inv hq; exact xGr_go rfl
  | ldc_w k => obtain ⟨_, _, rfl⟩ := xcK_inv hq; exact xGr_go rfl
  | ldc2_w k => obtain ⟨_, _, rfl⟩ := xcJ_inv hq; exact xGr_go rfl
  | iload_n k => obtain ⟨_, _, rfl⟩ := xldI_inv hq; exact xGr_go rfl
  | iload k => obtain ⟨_, _, rfl⟩ := xldI_inv hq; exact xGr_go rfl
  | lload_n k => obtain ⟨_, _, rfl⟩ := xldL_inv hq; exact xGr_go rfl
  | lload k => obtain ⟨_, _, rfl⟩ := xldL_inv hq; exact xGr_go rfl
  | aload_n k => obtain ⟨_, _, rfl⟩ := xldA_inv hq; exact xGr_go rfl
  | aload k => obtain ⟨_, _, rfl⟩ := xldA_inv hq; exact xGr_go rfl
  | istore_n k => obtain ⟨_, _, _, _, rfl⟩ := xstI_inv hq; exact xGr_go rfl
  | istore k => obtain ⟨_, _, _, _, rfl⟩ := xstI_inv hq; exact xGr_go rfl
  | lstore_n k => obtain ⟨_, _, _, _, _, rfl⟩ := xstL_inv hq; exact xGr_go rfl
  | lstore k => obtain ⟨_, _, _, _, _, rfl⟩ := xstL_inv hq; exact xGr_go rfl
  | astore_n k => obtain ⟨_, _, _, _, rfl⟩ := xstA_inv hq; exact xGr_go rfl
  | astore k => obtain ⟨_, _, _, _, rfl⟩ := xstA_inv hq; exact xGr_go rfl
  | iinc k v => obtain ⟨_, _, _, rfl⟩ := xinc_inv hq; exact xGr_go rfl
  | iadd => obtain ⟨_, _, _, _, rfl⟩ := xI2_inv hq; exact xGr_go rfl
  | isub => obtain ⟨_, _, _, _, rfl⟩ := xI2_inv hq; exact xGr_go rfl
  | imul => obtain ⟨_, _, _, _, rfl⟩ := xI2_inv hq; exact xGr_go rfl
  | iand => obtain ⟨_, _, _, _, rfl⟩ := xI2_inv hq; exact xGr_go rfl
  | ior => obtain ⟨_, _, _, _, rfl⟩ := xI2_inv hq; exact xGr_go rfl
  | ixor => obtain ⟨_, _, _, _, rfl⟩ := xI2_inv hq; exact xGr_go rfl
  | idiv => obtain ⟨_, _, _, _, _, rfl⟩ := xID_inv hq; exact xGr_go rfl
  | irem => obtain ⟨_, _, _, _, _, rfl⟩ := xID_inv hq; exact xGr_go rfl
  | ineg => obtain ⟨_, _, _, rfl⟩ := xI1_inv hq; exact xGr_go rfl
  | ishl => obtain ⟨_, _, _, _, rfl⟩ := xI2_inv hq; exact xGr_go rfl
  | ishr => obtain ⟨_, _, _, _, rfl⟩ := xI2_inv hq; exact xGr_go rfl
  | iushr => obtain ⟨_, _, _, _, rfl⟩ := xI2_inv hq; exact xGr_go rfl
  | ladd => obtain ⟨_, _, _, _, rfl⟩ := xL2_inv hq; exact xGr_go rfl
  | lsub => obtain ⟨_, _, _, _, rfl⟩ := xL2_inv hq; exact xGr_go rfl
  | lmul => obtain ⟨_, _, _, _, rfl⟩ := xL2_inv hq; exact xGr_go rfl
  | lcmp => obtain ⟨_, _, _, _, rfl⟩ := xLC_inv hq; exact xGr_go rfl
  | lshr => obtain ⟨_, _, _, _, rfl⟩ := xLS_inv hq; exact xGr_go rfl
  | i2l => obtain ⟨_, _, _, rfl⟩ := xIL_inv hq; exact xGr_go rfl
  | l2i => obtain ⟨_, _, _, rfl⟩ := xLI_inv hq; exact xGr_go rfl
  | dup => obtain ⟨_, _, _, _, rfl⟩ := xdup_inv hq; exact xGr_go rfl
  | dup2 => obtain ⟨_, _, _, _, _, _, rfl⟩ := xdup2_inv hq; exact xGr_go rfl
  | ifCond cd off => obtain ⟨_, _, _, q⟩ := xif0_inv hq; exact hi q
  | if_icmp cd off => obtain ⟨_, _, _, _, q⟩ := xif2_inv hq; exact hi q
  | goto off => exact hj hq
  | tableswitch dflt lo hi offs => obtain ⟨_, _, _, ⟨_, q⟩ | ⟨_, _, _, _, q⟩⟩ := xtab_inv hq <;> exact hj q
  | lookupswitch dflt ps => obtain ⟨_, _, _, _, q⟩ := xlook_inv hq; exact hj q
  | getfield k => obtain ⟨_, _, _, _, _, _, _, _, _, _, rfl⟩ := xgetf_inv hq; exact xGr_go rfl
  | putfield k => obtain ⟨_, _, _, _, _, _, _, _, _, _, hp, _, _, _, rfl⟩ := xputf_inv hq; exact xGr_go (xputv_sh hp)
  | new k => obtain ⟨_, _, _, rfl⟩ := xnewc_inv hq; exact ⟨_, rfl⟩
  | newarray t => cases t <;> first | exact x_no hq | exact ha hq
  | anewarray k =>
    have hq : (if xlA (xO j) k = true then xnewa 3 (pc + 3) ls st h else none) = some r := hq
    split at hq
    · exact ha hq
    · cases hq
  | arraylength => obtain ⟨_, _, _, ⟨_, _, _, rfl⟩ | ⟨_, _, _, rfl⟩⟩ := xlen_inv hq <;> exact xGr_go rfl
  | iaload => obtain ⟨_, _, _, _, ⟨_, _, _, _, rfl⟩ | ⟨_, _, _, _, rfl⟩⟩ := xIaload_inv hq <;> exact xGr_go rfl
  | baload => obtain ⟨_, _, _, _, _, _, _, _, rfl⟩ := xBaload_inv hq; exact xGr_go rfl
  | laload => obtain ⟨_, _, _, _, _, _, _, _, rfl⟩ := xLaload_inv hq; exact xGr_go rfl
  | aaload => obtain ⟨_, _, _, _, _, _, _, _, rfl⟩ := xAaload_inv hq; exact xGr_go rfl
  | iastore => obtain ⟨_, _, _, _, _, _, _, _, _, rfl⟩ := xIastore_inv hq; exact xGr_go rfl
  | bastore => obtain ⟨_, _, _, _, _, _, _, _, _, rfl⟩ := xBastore_inv hq; exact xGr_go rfl
  | lastore => obtain ⟨_, _, _, _, _, _, _, _, _, rfl⟩ := xLastore_inv hq; exact xGr_go rfl
  | aastore => obtain ⟨_, _, _, _, _, _, _, _, _, _, _, _, rfl⟩ := xAastore_inv hq; exact xGr_go rfl
  | invokevirtual k => obtain ⟨_, _, _, _, q⟩ := xcallV_inv hq; exact hin q
  | invokespecial k =>
    rcases xcallI_inv hq with ⟨_, _, _, _, q⟩ | ⟨_, _, _, _, q⟩ | ⟨_, _, _, _, _, _, _, _, rfl⟩
    · exact hin q
    · exact hin q
    · exact xGr_go rfl
  | invokestatic k =>
    rcases xcallS_inv hq with ⟨_, _, _, _, _, _, _, rfl⟩ | ⟨_, _, _, _, _, _, _, _, _, _, _, _, _, _, _, _, _, _, _, _, _, _, _, rfl⟩ | ⟨_, _, _, _, _, _, _, _, _, rfl⟩
    · rfl
    · exact xGr_go rfl
    · exact xGr_go rfl
  | ireturn => obtain ⟨_, _, _, rfl⟩ := xIret_inv hq; exact True.intro
  | lreturn => obtain ⟨_, _, _, rfl⟩ := xLret_inv hq; exact True.intro
  | areturn => obtain ⟨_, _, _, rfl⟩ := xAret_inv hq; exact True.intro
  | return_ => obtain ⟨_, _, rfl⟩ := xVret_inv hq; exact True.intro
  | _ => exact x_no hq
theorem xstep_grow {scr : xScr} {j : Nat} {f : xCf} {r : xRs} (hq : xstep scr j f = some r) : xGr f.2.2.2 r := by
  obtain ⟨i, n, -, -, h⟩ := xstep_inv hq
  exact xop_grow h
theorem xrun_grow : ∀ (n d : Nat) (scr : xScr) (j : Nat) (f : xCf) (v : Option Value) (h' : xHp), xrun n d scr j f = some (v, h') → ∃ t, h'.1 = f.2.2.2.1 ++ t
  | 0, _, _, _, _, _, _, h => by cases h
  | n + 1, d, scr, j, f, v, h', h => by
    rw [xrun] at h
    cases hs : xstep scr j f with
    | none => rw [hs] at h; cases h
    | some q =>
      have hg := xstep_grow hs
      rw [hs] at h
      rcases q with c' | ⟨k, as, c'⟩ | v'
      · obtain ⟨t, ht⟩ := hg
        obtain ⟨t', ht'⟩ := xrun_grow n d scr j c' v h' h
        exact ⟨t ++ t', by rw [ht', ht, List.append_assoc]⟩
      · have hg : c'.2.2.2 = f.2.2.2 := hg
        cases d with
        | zero => cases h
        | succ d =>
          simp only at h
          cases hr : xrun n d none k (0, xent k as, [], c'.2.2.2) with
          | none => rw [hr] at h; cases h
          | some q =>
            obtain ⟨w, h1⟩ := q
            rw [hr] at h
            obtain ⟨t, ht⟩ := xrun_grow n d none k _ w h1 hr
            obtain ⟨t', ht'⟩ := xrun_grow n (d + 1) scr j _ v h' h
            have e1 : h1.1 = f.2.2.2.1 ++ t := by rw [← hg]; exact ht
            have e2 : h'.1 = h1.1 ++ t' := ht'
            exact ⟨t ++ t', by rw [e2, e1, List.append_assoc]⟩
      · cases h
        exact ⟨[], (List.append_nil _).symm⟩
