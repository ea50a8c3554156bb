section XR
variable {p : Program} {l : Launch} {e : Env} {R : Room} {s : State} {m : MethodId} {args : Array Value} {below : List Frame} {meth : Method} {c : Code} {Q : State → Prop} {D : va_G} {cA : Nat → ClassId} {base b n0 s0 d j pc pc' k : Nat} {scr : xScr} {ls : xLs} {st : List Value} {h h' : xHp} {f f' : xCf}
set_option maxHeartbeats 4000000 in
theorem xop_ret {i : Instr} {n : Nat} {v : Option Value} (hxn : xn i n = true) (hq : xop scr j pc i ls st h = some (.inr (.inr v))) : xEnd j i v ∧ st = v.toList ∧ n = 1 := by
  have hin : ∀ {k n ci pc' : Nat}, xinst k n ci pc' ls st h = some (.inr (.inr v)) → False := fun q => by
    obtain ⟨_, _, _, _, _, _, _, _, er⟩ := xinst_inv q
    cases er
  have e1 : (n == 1) = true → n = 1 := fun z => by simpa using z
  cases i with
  | ireturn =>
    obtain ⟨x, rfl, hr, er⟩ := xIret_inv hq
    cases er
    exact ⟨Or.inl ⟨rfl, x, rfl, hr⟩, rfl, e1 hxn⟩
  | lreturn =>
    obtain ⟨x, rfl, hr, er⟩ := xLret_inv hq
    cases er
    exact ⟨Or.inr (Or.inl ⟨rfl, ⟨x, rfl⟩, hr⟩), rfl, e1 hxn⟩
  | areturn =>
    obtain ⟨x, rfl, hr, er⟩ := xAret_inv hq
    cases er
    exact ⟨Or.inr (Or.inr (Or.inl ⟨rfl, ⟨x, rfl⟩, hr⟩)), rfl, e1 hxn⟩
  | return_ =>
    obtain ⟨rfl, hr, er⟩ := xVret_inv hq
    cases er
    exact ⟨Or.inr (Or.inr (Or.inr ⟨rfl, rfl, hr⟩)), rfl, e1 hxn⟩
  | invokevirtual q => obtain ⟨_, _, _, _, q⟩ := xcallV_inv hq; exact (hin q).elim
  | invokespecial q =>
    rcases xcallI_inv hq with ⟨_, _, _, _, q⟩ | ⟨_, _, _, _, q⟩ | ⟨_, _, _, _, _, _, _, _, er⟩
    · exact (hin q).elim
    · exact (hin q).elim
    · cases er
  | invokestatic q =>
    rcases xcallS_inv hq with ⟨_, _, _, _, _, _, _, er⟩ | ⟨_, _, _, _, _, _, _, _, _, _, _, _, _, _, _, _, _, _, _, _, _, _, _, er⟩ | ⟨_, _, _, _, _, _, _, _, _, er⟩ <;> cases er
  | iconst v => cases hq
  | bipush v => cases hq
  | sipush v => cases hq
  | lconst v => cases hq
  | ldc q => obtain ⟨_, _, er⟩ := xcK_inv hq; cases er
  | ldc_w q => obtain ⟨_, _, er⟩ := xcK_inv hq; cases er
  | ldc2_w q => obtain ⟨_, _, er⟩ := xcJ_inv hq; cases er
  | iload_n q => obtain ⟨_, _, er⟩ := xldI_inv hq; cases er
  | iload q => obtain ⟨_, _, er⟩ := xldI_inv hq; cases er
  | lload_n q => obtain ⟨_, _, er⟩ := xldL_inv hq; cases er
  | lload q => obtain ⟨_, _, er⟩ := xldL_inv hq; cases er
  | aload_n q => obtain ⟨_, _, er⟩ := xldA_inv hq; cases er
  | aload q => obtain ⟨_, _, er⟩ := xldA_inv hq; cases er
  | istore_n q => obtain ⟨_, _, _, _, er⟩ := xstI_inv hq; cases er
  | istore q => obtain ⟨_, _, _, _, er⟩ := xstI_inv hq; cases er
  | lstore_n q => obtain ⟨_, _, _, _, _, er⟩ := xstL_inv hq; cases er
  | lstore q => obtain ⟨_, _, _, _, _, er⟩ := xstL_inv hq; cases er
  | astore_n q => obtain ⟨_, _, _, _, er⟩ := xstA_inv hq; cases er
  | astore q => obtain ⟨_, _, _, _, er⟩ := xstA_inv hq; cases er
  | iinc q v => obtain ⟨_, _, _, er⟩ := xinc_inv hq; cases er
  | iadd => obtain ⟨_, _, _, _, er⟩ := xI2_inv hq; cases er
  | isub => obtain ⟨_, _, _, _, er⟩ := xI2_inv hq; cases er
  | imul => obtain ⟨_, _, _, _, er⟩ := xI2_inv hq; cases er
  | iand => obtain ⟨_, _, _, _, er⟩ := xI2_inv hq; cases er
  | ior => obtain ⟨_, _, _, _, er⟩ := xI2_inv hq; cases er
  | ixor => obtain ⟨_, _, _, _, er⟩ := xI2_inv hq; cases er
  | idiv => obtain ⟨_, _, _, _, _, er⟩ := xID_inv hq; cases er
  | irem => obtain ⟨_, _, _, _, _, er⟩ := xID_inv hq; cases er
  | ineg => obtain ⟨_, _, _, er⟩ := xI1_inv hq; cases er
  | ishl => obtain ⟨_, _, _, _, er⟩ := xI2_inv hq; cases er
  | ishr => obtain ⟨_, _, _, _, er⟩ := xI2_inv hq; cases er
  | iushr => obtain ⟨_, _, _, _, er⟩ := xI2_inv hq; cases er
  | ladd => obtain ⟨_, _, _, _, er⟩ := xL2_inv hq; cases er
  | lsub => obtain ⟨_, _, _, _, er⟩ := xL2_inv hq; cases er
  | lmul => obtain ⟨_, _, _, _, er⟩ := xL2_inv hq; cases er
  | lcmp => obtain ⟨_, _, _, _, er⟩ := xLC_inv hq; cases er
  | lshr => obtain ⟨_, _, _, _, er⟩ := xLS_inv hq; cases er
  | i2l => obtain ⟨_, _, _, er⟩ := xIL_inv hq; cases er
  | l2i => obtain ⟨_, _, _, er⟩ := xLI_inv hq; cases er
  | dup => obtain ⟨_, _, _, _, er⟩ := xdup_inv hq; cases er
  | dup2 => obtain ⟨_, _, _, _, _, _, er⟩ := xdup2_inv hq; cases er
  | ifCond cd off =>
    obtain ⟨_, _, _, q⟩ := xif0_inv hq
    obtain ⟨_, _, ⟨_, er⟩ | ⟨_, er⟩⟩ := xif_inv q <;> cases er
  | if_icmp cd off =>
    obtain ⟨_, _, _, _, q⟩ := xif2_inv hq
    obtain ⟨_, _, ⟨_, er⟩ | ⟨_, er⟩⟩ := xif_inv q <;> cases er
  | goto off => obtain ⟨_, _, er⟩ := xj_inv hq; cases er
  | tableswitch dflt lo hi offs =>
    obtain ⟨_, _, _, ⟨_, q⟩ | ⟨_, _, _, _, q⟩⟩ := xtab_inv hq <;> (obtain ⟨_, _, er⟩ := xj_inv q; cases er)
  | lookupswitch dflt ps =>
    obtain ⟨_, _, _, _, q⟩ := xlook_inv hq
    obtain ⟨_, _, er⟩ := xj_inv q
    cases er
  | getfield q => obtain ⟨_, _, _, _, _, _, _, _, _, _, er⟩ := xgetf_inv hq; cases er
  | putfield q => obtain ⟨_, _, _, _, _, _, _, _, _, _, hp, _, _, _, er⟩ := xputf_inv hq; cases er
  | new q => obtain ⟨_, _, _, er⟩ := xnewc_inv hq; cases er
  | newarray t => cases t <;> first | exact x_no hq | (obtain ⟨_, _, _, _, _, er⟩ := xnewa_inv hq; cases er)
  | anewarray q =>
    have hq : (if xlA (xO j) q = true then xnewa 3 (pc + 3) ls st h else none) = some (.inr (.inr v)) := hq
    split at hq
    · obtain ⟨_, _, _, _, _, er⟩ := xnewa_inv hq
      cases er
    · cases hq
  | arraylength => obtain ⟨_, _, _, ⟨_, _, _, er⟩ | ⟨_, _, _, er⟩⟩ := xlen_inv hq <;> cases er
  | iaload => obtain ⟨_, _, _, _, ⟨_, _, _, _, er⟩ | ⟨_, _, _, _, er⟩⟩ := xIaload_inv hq <;> cases er
  | baload => obtain ⟨_, _, _, _, _, _, _, _, er⟩ := xBaload_inv hq; cases er
  | laload => obtain ⟨_, _, _, _, _, _, _, _, er⟩ := xLaload_inv hq; cases er
  | aaload => obtain ⟨_, _, _, _, _, _, _, _, er⟩ := xAaload_inv hq; cases er
  | iastore => obtain ⟨_, _, _, _, _, _, _, _, _, er⟩ := xIastore_inv hq; cases er
  | bastore => obtain ⟨_, _, _, _, _, _, _, _, _, er⟩ := xBastore_inv hq; cases er
  | lastore => obtain ⟨_, _, _, _, _, _, _, _, _, er⟩ := xLastore_inv hq; cases er
  | aastore => obtain ⟨_, _, _, _, _, _, _, _, _, _, _, _, er⟩ := xAastore_inv hq; cases er
  | _ => exact x_no hq
def xHE (p : Program) (l : Launch) (e : Env) (R : Room) (s : State) (m : MethodId) (args : Array Value) (below : List Frame) (meth : Method) (c : Code) (D : va_G) (cA : Nat → ClassId) (base b n0 s0 : Nat) (Q : State → Prop) (j : Nat) (v : Option Value) (h' : xHp) : Prop :=
  ∀ (i : Instr) (pc : Nat), decode (xB j) pc = .ok (i, 1) → xEnd j i v → ∀ (H : Heap) (la : Array Slot) (locs : List Loc) (cells slots : Nat), va_P D xCl (xw cA base b h') H → va_S (xA base) s.heap H locs → cells + n0 = h'.1.length → slots + s0 = xsl h'.1 → W p l e R s m args below meth c H locs cells slots Q (F0 m pc la ((v.map (xc base b)).toList))
theorem x_retstep {v : Option Value} (hq : xstep scr j f = some (.inr (.inr v))) (hE : xHE p l e R s m args below meth c D cA base b n0 s0 Q j v f.2.2.2) : xWA p l e R s m args below meth c D cA base b n0 s0 Q j f := by
  obtain ⟨i, n, hdg, hxn, hq⟩ := xstep_inv hq
  obtain ⟨pc, ls, st, h⟩ := f
  dsimp only at hdg hq
  obtain ⟨hend, rfl, rfl⟩ := xop_ret hxn hq
  intro H la locs cells slots h1 h2 h3 h4 h5
  have key := hE i pc hdg hend H la locs cells slots h2 h3 h4 h5
  have e1 : (v.map (xc base b)).toList = v.toList.map (xc base b) := by cases v <;> rfl
  rw [e1] at key
  exact key
def xMet (n : Nat) : Prop := ∀ (l : Launch) (D : va_G) (cA : Nat → ClassId) (base b d k : Nat) (as : List Value) (h h' : xHp) (v : Option Value), xrun n d none k (0, xent k as, [], h) = some (v, h') → 0 < k → k < xnM → (xarg as).length ≤ xnL k → h'.1.length ≤ xS → xMt l D cA base b d k as h h' v
theorem xpre {a b : xSh} {t : xSh} (h : b = a ++ t) : a.length ≤ b.length ∧ xsl a ≤ xsl b := by
  rw [h, xsl_app, List.length_append]
  omega
theorem x_W {v : Option Value} (hc : xCtx p R s m args meth c D cA base b n0 scr j d) (hE : xHE p l e R s m args below meth c D cA base b n0 s0 Q j v h') (hn : h'.1.length ≤ n0 + R.cells) (hs : xsl h'.1 ≤ s0 + R.slots) (hS : h'.1.length ≤ xS) : ∀ (n : Nat), (∀ k, k < n → xMet k) → ∀ (f : xCf), xrun n d scr j f = some (v, h') → xWA p l e R s m args below meth c D cA base b n0 s0 Q j f := by
  intro n
  induction n with
  | zero => intro _ f hr; cases hr
  | succ n ih =>
    intro hMs f hr
    rw [xrun] at hr
    cases hst : xstep scr j f with
    | none => rw [hst] at hr; cases hr
    | some q =>
      have hg := xstep_grow hst
      rw [hst] at hr
      rcases q with f1 | ⟨k, as, f1⟩ | v1
      · obtain ⟨t, ht⟩ := hg
        obtain ⟨t', ht'⟩ := xrun_grow _ _ _ _ _ _ _ hr
        obtain ⟨a1, a2⟩ := xpre ht
        obtain ⟨b1, b2⟩ := xpre ht'
        exact x_step hc hst (by omega) (by omega) (by omega) (by omega) (ih (fun k hk => hMs k (by omega)) f1 hr)
      · have hg : f1.2.2.2 = f.2.2.2 := hg
        cases d with
        | zero => cases hr
        | succ d =>
          simp only at hr
          cases hr1 : xrun n d none k (0, xent k as, [], f1.2.2.2) with
          | none => rw [hr1] at hr; cases hr
          | some q =>
            obtain ⟨w, h1⟩ := q
            rw [hr1] at hr
            obtain ⟨t, ht⟩ := xrun_grow _ _ _ _ _ _ _ hr1
            obtain ⟨t', ht'⟩ := xrun_grow _ _ _ _ _ _ _ hr
            obtain ⟨a1, a2⟩ := xpre ht
            obtain ⟨b1, b2⟩ := xpre ht'
            dsimp only at a1 a2 b1 b2
            exact x_callstep hc hst (fun z1 z2 z3 => hMs n (by omega) l D cA base b d k as f1.2.2.2 h1 w hr1 z1 z2 z3 (by omega)) a1 a2 (by omega) (by omega) (by omega) (ih (fun k hk => hMs k (by omega)) _ hr)
      · cases hr
        exact x_retstep hst hE
end XR
theorem xarg_len (base b : Nat) : ∀ as : List Value, (lg_sl (as.map (xc base b))).length = (xarg as).length
  | [] => rfl
  | v :: as => by
    have ih := xarg_len base b as
    rw [List.map_cons]
    unfold lg_sl at ih ⊢
    rw [List.flatMap_cons, List.length_append, ih, xarg, xc_cat]
    by_cases hv : v.category = 2
    · simp [hv]; omega
    · simp [hv]; omega
theorem xarg_mem (base b : Nat) : ∀ (as : List Value) (i0 i : Nat) (v : Value), (xarg as)[i]? = some (some v) → (i0 + i, xc base b v) ∈ lv_args i0 (as.map (xc base b))
  | [], _, _, _, h => by simp [xarg] at h
  | w :: as, i0, i, v, h => by
    rw [List.map_cons, lv_args, xc_cat]
    rw [xarg] at h
    by_cases hw : w.category = 2
    · rw [if_pos hw] at h ⊢
      match i, h with
      | 0, h =>
        simp at h
        rw [h]
        exact List.mem_cons_self
      | 1, h => simp at h
      | i + 2, h =>
        have h' : (xarg as)[i]? = some (some v) := by simpa using h
        have := xarg_mem base b as (i0 + 2) i v h'
        rw [show i0 + (i + 2) = i0 + 2 + i by omega]
        exact List.mem_cons_of_mem _ this
    · rw [if_neg hw] at h ⊢
      match i, h with
      | 0, h =>
        simp at h
        rw [h]
        exact List.mem_cons_self
      | i + 1, h =>
        have h' : (xarg as)[i]? = some (some v) := by simpa using h
        have := xarg_mem base b as (i0 + 1) i v h'
        rw [show i0 + (i + 1) = i0 + 1 + i by omega]
        exact List.mem_cons_of_mem _ this
theorem xent_ok {base b k : Nat} {as : List Value} {la : Array Slot} (hlen : (xarg as).length ≤ xnL k) (hl : lv_has la (xnL k) (lv_args 0 (as.map (xc base b)))) : xlh base b (xnL k) la (xent k as) := by
  refine ⟨lv_mono hl fun q hq => ?_, by simp [xent]; omega⟩
  obtain ⟨v, h1, h2⟩ := xlv_mem.mp hq
  unfold xent at h1
  by_cases hi : q.1 < (xarg as).length
  · rw [List.getElem?_append_left hi] at h1
    have := xarg_mem base b as 0 q.1 v h1
    rw [Nat.zero_add, h2] at this
    exact this
  · rw [List.getElem?_append_right (by omega), List.getElem?_replicate] at h1
    split at h1 <;> simp at h1
theorem x_met (n : Nat) : xMet n := by
  induction n using Nat.strongRecOn with
  | ind n ih =>
    intro l D cA base b d k as h h' v hr h0 hk hlen hS
    obtain ⟨t, ht⟩ := xrun_grow _ _ _ _ _ _ _ hr
    obtain ⟨a1, a2⟩ := xpre ht
    dsimp only at a1 a2
    obtain ⟨f1, f2, f3, f4, f5, f6⟩ := f_cls hk
    refine va_MetF (cc := xB k) (maxL := xnL k) (ret := xRt k) f3 rfl ?_
    intro p e s m args below meth c s₁ B hml hv
    obtain ⟨rfl, hsz, hP, hK, hN, hAO⟩ := hv
    have hlocks := B.notSynchronized
    have hx := B.exec
    have hb := B.bytes
    have hret := B.returns
    have hctx : xCtx p (xRm d (h'.1.length - h.1.length) (xsl h'.1 - xsl h.1)) s m (as.map (xc base b)).toArray meth c D cA base b h.1.length none k d :=
      ⟨hx, hb, hml, by rw [f4]; exact findClass_of_methodNamed B.named, fun ci hi => ⟨by rw [(name_of_methodNamed B.named B.method).1]; exact (f5 ci hi).1, (f5 ci hi).2⟩, fun w hw => atoms_spec (ws := xWs k) B.pre w (List.mem_cons_of_mem _ hw), hK, hN, hAO, hsz, fun q z => (by cases z), Nat.le_refl _, Nat.le_refl _⟩
    have hE : xHE p l e (xRm d (h'.1.length - h.1.length) (xsl h'.1 - xsl h.1)) s m (as.map (xc base b)).toArray below meth c D cA base b h.1.length (xsl h.1) (MQ below (xQc D cA base b v h') (as.map (xc base b)).toArray s (h'.1.length - h.1.length) (xsl h'.1 - xsl h.1) (xA base)) k v h' := by
      intro i pc hdg hend H la locs cells slots g1 g2 g3 g4
      obtain rfl : cells = h'.1.length - h.1.length := by omega
      obtain rfl : slots = xsl h'.1 - xsl h.1 := by omega
      rcases hend with ⟨rfl, x, rfl, hk0⟩ | ⟨rfl, ⟨x, rfl⟩, hk0⟩ | ⟨rfl, ⟨x, rfl⟩, hk0⟩ | ⟨rfl, rfl, hk0⟩
      · rcases hk0 with hk0 | ⟨hk0, hx01⟩
        · exact W.iret hx hb (hret.trans (by rw [xRt, hk0]; rfl)) (fun t ht hW => ⟨⟨rfl, by rw [ht]; exact g1⟩, g2.F ht⟩) g2.2.2 hdg hlocks
        · exact W.zret (ty := .boolean) hx hb (hret.trans (by rw [xRt, hk0]; rfl)) (by rcases hx01 with rfl | rfl <;> rfl) (fun t ht hW => ⟨⟨rfl, by rw [ht]; exact g1⟩, g2.F ht⟩) g2.2.2 hdg hlocks
      · exact W.lret hx hb (hret.trans (by rw [xRt, hk0]; rfl)) (fun t ht hW => ⟨⟨rfl, by rw [ht]; exact g1⟩, g2.F ht⟩) g2.2.2 hdg hlocks
      · exact W.aret hx hb (hret.trans (by rw [xRt, hk0]; rfl)) (Or.inl ⟨_, rfl⟩) (Or.inr ⟨_, rfl⟩) (fun t ht hW => ⟨⟨rfl, by rw [ht]; exact g1⟩, g2.F ht⟩) g2.2.2 hdg hlocks
      · exact W.vret hx hb (hret.trans (by rw [xRt, hk0]; rfl)) (fun t ht hW => ⟨⟨rfl, by rw [ht]; exact g1⟩, g2.F ht⟩) g2.2.2 hdg hlocks
    have hl := lv_entry (as.map (xc base b)) (n := xnL k) (by rw [xarg_len]; exact hlen)
    rw [lg_entry_eq]
    generalize (lg_sl (as.map (xc base b)) ++ List.replicate (xnL k - (lg_sl (as.map (xc base b))).length) Slot.unset).toArray = la at hl ⊢
    exact x_W hctx hE (by show h'.1.length ≤ h.1.length + (h'.1.length - h.1.length); omega) (by show xsl h'.1 ≤ xsl h.1 + (xsl h'.1 - xsl h.1); omega) hS n (fun k hk => ih k hk) (0, xent k as, [], h) hr s.heap la [] 0 0 (xent_ok hlen hl) hP va_S.rf (Nat.zero_add _) (Nat.zero_add _)
