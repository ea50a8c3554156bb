section XC
variable {p : Program} {l : Launch} {e : Env} {R : Room} {s : State} {m : MethodId} {args : Array Value} {below : List Frame} {meth : Method} {c : Code} {Q : State → Prop} {D : va_G} {cA : Nat → ClassId} {base b n0 s0 d j pc pc' k i : Nat} {scr : xScr} {ls : xLs} {st : List Value} {h h' : xHp} {f' : xCf}
theorem s_max (hc : xCtx p R s m args meth c D cA base b n0 scr j d) {w1 w2 w3 : Nat} (hw : xlM (xO j) i = some (5, w1, w2, w3)) (hdg : decode (xB j) pc = .ok (.invokestatic i, 3)) (hn : h.1.length ≤ n0 + R.cells) (hs : xsl h.1 ≤ s0 + R.slots) {x y : Int32} {rest : List Value} (g8 : xcat rest ≤ 8) (ih : xWA p l e R s m args below meth c D cA base b n0 s0 Q j (pc + 3, ls, .int (if x < y then y else x) :: rest, h)) : xWA p l e R s m args below meth c D cA base b n0 s0 Q j (pc, ls, .int y :: .int x :: rest, h) := by
  obtain ⟨hx, hb, hml, hown, -, hts, hK, -, -, hsz, -, hfr, hlo⟩ := hc
  obtain ⟨l1, l2, l3, l4⟩ := f_M5 hw
  intro H la locs cells slots h1 h2 h3 h4 h5
  have c1 : cells + n0 = h.1.length := h4
  have c2 : slots + s0 = xsl h.1 := h5
  exact va_mmax hx hb (hml.trans h1.1.1.symm) hown (hts _ l1) (hts _ l2) (hts _ l3) (hts _ l4) (by omega) (by rw [xcat_map]; omega) (by omega) (by omega) hdg (ih H la locs cells slots h1 h2 h3 h4 h5)
theorem x_go {H : Heap} {locs : List Loc} {cells slots mc ms : Nat} {v : Option Value} {a : Array Value} {la : Array Slot} {rest st0 : List Value} (hr : va_Run p l e R s m args below meth c H locs cells slots mc ms (F0 m pc la st0) rest (xQc D cA base b v h' a) (xA base)) (hS : va_S (xA base) s.heap H locs)
    (kk : ∀ (H1 : Heap) (locs1 : List Loc), va_P D xCl (xw cA base b h') H1 → va_S (xA base) s.heap H1 locs1 → W p l e R s m args below meth c H1 locs1 (cells + mc) (slots + ms) Q (F0 m (pc + 3) la ((v.map (xc base b)).toList ++ rest))) : W p l e R s m args below meth c H locs cells slots Q (F0 m pc la st0) := by
  intro T hT X
  obtain ⟨v', st₀, t, T', L, g0, X', hL, e1, e2, ⟨⟨hv, hP⟩, hz, hk⟩, st⟩ := hr T hT X
  cases hv
  rw [g0] at hz hk
  obtain ⟨t2, a1, b1⟩ := kk T'.heap (locs ++ L) (by rw [e1]; exact hP) ⟨Nat.le_trans hS.1 (by rw [e1]; exact hz), fun q z1 z2 => by rw [e1, hk q (Nat.lt_of_lt_of_le z1 hS.1) z2]; exact hS.2.1 q z1 z2, fun q hq => by
      rcases List.mem_append.mp hq with z | z
      · exact hS.2.2 q z
      · exact hL q z⟩ T' rfl X'
  exact ⟨t2, st t2 a1, b1⟩
def xMt (l : Launch) (D : va_G) (cA : Nat → ClassId) (base b d k : Nat) (as : List Value) (h h' : xHp) (v : Option Value) : Prop := Met l (xY k) (xWs k) (xRm d (h'.1.length - h.1.length) (xsl h'.1 - xsl h.1)) (xPc D cA base b h as) (xQc D cA base b v h') (h'.1.length - h.1.length) (xsl h'.1 - xsl h.1) (xA base)
theorem x_bg (hc : xCtx p R s m args meth c D cA base b n0 scr j d) {H : Heap} {locs : List Loc} {cells : Nat} (hz : H.size ≤ s.heap.size + cells) (h2 : va_P D xCl (xw cA base b h) H) (h3 : va_S (xA base) s.heap H locs) (h4 : cells + n0 = h.1.length) : ∀ U : State, U.heap = H → s.WarmedH U.vm → xBg D cA base b h U := by
  obtain ⟨hx, hb, hml, hown, -, hts, hK, hNs, hAO, hsz, -, hfr, hlo⟩ := hc
  intro U hU hW
  have z1 := xw_low h2 (by have := h3.1; omega)
  exact ⟨by rw [hU]; omega, by rw [hU]; exact h2, hK.moved hW.alike, xNest_warm hW hNs, hAO.moved hW.alike⟩
theorem x_B {own : String} {n mc ms : Nat} (hts : ∀ w ∈ xgw, w.before args s = true) (h0 : 0 < k) (hk : k < xnM) (hl : (Cond.methodLink own i (xY k)).before args s = true) (hini : (Cond.initialized (xY k).cls).before args s = true) (hd : (parseMethodDescriptor (xY k).desc).map (fun d => d.parameters.length) = some n) (hfr : d + 1 + 1 ≤ R.frames) (hlo : 40 * (d + 1 + 1) ≤ R.locals) : CallB R s args own i (xY k) (xB k) (xnL k) (xRt k) (xWs k) (xRm d mc ms) mc ms n := by
  obtain ⟨f1, f2, -, -, -, f6⟩ := f_cls hk
  refine callB_of n hts (xWs_good h0 hk) rfl rfl rfl hini hl ⟨f1, f2, hd⟩ ⟨hfr, ?_⟩
  show 8 + (xnL k + 11) + 40 * (d + 1) ≤ R.locals
  omega
theorem x_tail {v : Option Value} {rest : List Value} : ((v.map (xc base b)).toList ++ rest.map (xc base b)) = (v.toList ++ rest).map (xc base b) := by cases v <;> rfl
theorem x_st {n a : Nat} {rest : List Value} (hd : st.drop n = .ref a :: rest) (ea : xa base b a = base + a) : st.map (xc base b) = (((st.take n).reverse).map (xc base b)).reverse ++ .ref (base + a) :: rest.map (xc base b) := by
  have e1 : st.map (xc base b) = (st.take n).map (xc base b) ++ (st.drop n).map (xc base b) := by rw [← List.map_append, List.take_append_drop]
  rw [e1, hd, List.map_cons, ← ea, ← List.map_reverse, List.reverse_reverse]
  rfl
theorem x_stn {n a : Nat} {rest : List Value} (hd : st.drop n = .ref a :: rest) : (((st.take n).reverse).map (xc base b)).length = n := by
  have := congrArg List.length hd
  simp at this
  simp
  omega
theorem x_arr {n a : Nat} (ea : xa base b a = base + a) : (Value.ref (base + a) :: ((st.take n).reverse).map (xc base b)).toArray = ((.ref a :: (st.take n).reverse).map (xc base b)).toArray := by
  rw [List.map_cons, ← ea]
  rfl
theorem s_callV (hc : xCtx p R s m args meth c D cA base b n0 scr j (d + 1)) (hdg : decode (xB j) pc = .ok (.invokevirtual i, 3)) {as : List Value} {f1 : xCf} {v : Option Value} (hq : xcallV (xlM (xO j) i) (pc + 3) ls st h = some (.inr (.inl (k, as, f1)))) (hM : 0 < k → k < xnM → (xarg as).length ≤ xnL k → xMt l D cA base b d k as h h' v) (hg1 : h.1.length ≤ h'.1.length) (hg2 : xsl h.1 ≤ xsl h'.1) (hm : h.1.length ≤ xS) (hn : h'.1.length ≤ n0 + R.cells) (hs : xsl h'.1 ≤ s0 + R.slots) (ih : xWA p l e R s m args below meth c D cA base b n0 s0 Q j (f1.1, f1.2.1, v.toList ++ f1.2.2.1, h')) : xWA p l e R s m args below meth c D cA base b n0 s0 Q j (pc, ls, st, h) := by
  obtain ⟨k, n, ci, hw, hq⟩ := xcallV_inv hq
  obtain ⟨a, rest, ⟨tg, tn⟩, hd, ht, et, hcat, hlen, er⟩ := xinst_inv hq
  cases er
  dsimp only at et
  subst et
  obtain ⟨h0, hk, hci, hl1, hl2, hl3, hl4, hl5⟩ := f_M0 hw
  intro H la locs cells slots h1 h2 h3 h4 h5
  have c1 : cells + n0 = h.1.length := h4
  have c2 : slots + s0 = xsl h.1 := h5
  refine x_size fun hz => ?_
  have hbg := x_bg hc hz h2 h3 h4
  obtain ⟨hx, hb, hml, hown, -, hts, hK, hNs, hAO, hsz, -, hfr, hlo⟩ := hc
  have ea := xa_in (base := base) (b := b) ht hm
  have run := va_runV (n := n) (g := F0 m pc la (st.map (xc base b))) (rest := rest.map (xc base b)) (b := base + a) (As := ((st.take n).reverse).map (xc base b)) (locs := locs) (cells := cells) (slots := slots) (l := l) (e := e) (below := below) (meth := meth) (C := xCN ci) (ret := xRt k) (bytes := xB k) (maxL := xnL k) (⟨hx, hb, hml, hown, hts⟩ : CallFix p m c (xB j) (xnL j) s args xgw (xON (xO j))) (hM h0 hk hlen) ⟨x_B hts h0 hk (hts _ hl1) (hts _ hl4) hl5 hfr hlo, hts _ hl2, hts _ hl3⟩ ⟨xPc_blind, va_recv hK h2 (f_cl hci) (xw_get (cA := cA) (base := base) (b := b) ht), fun U hU hW => ⟨x_arr ea, hbg U hU hW⟩⟩ rfl (x_stn hd) h1.1.1 (x_st hd ea) (lv_room (by rw [xcat_map]; exact hcat)) hdg ⟨by omega, by omega⟩
  refine x_go run h3 (fun H1 locs1 g1 g2 => ?_)
  rw [x_tail]
  exact ih H1 la locs1 _ _ h1 g1 g2 (by show cells + (h'.1.length - h.1.length) + n0 = h'.1.length; omega) (by show slots + (xsl h'.1 - xsl h.1) + s0 = xsl h'.1; omega)
theorem s_callI (hc : xCtx p R s m args meth c D cA base b n0 scr j (d + 1)) (hdg : decode (xB j) pc = .ok (.invokespecial i, 3)) {as : List Value} {f1 : xCf} {v : Option Value} (hq : xcallI (xlM (xO j) i) (pc + 3) ls st h = some (.inr (.inl (k, as, f1)))) (hM : 0 < k → k < xnM → (xarg as).length ≤ xnL k → xMt l D cA base b d k as h h' v) (hg1 : h.1.length ≤ h'.1.length) (hg2 : xsl h.1 ≤ xsl h'.1) (hm : h.1.length ≤ xS) (hn : h'.1.length ≤ n0 + R.cells) (hs : xsl h'.1 ≤ s0 + R.slots) (ih : xWA p l e R s m args below meth c D cA base b n0 s0 Q j (f1.1, f1.2.1, v.toList ++ f1.2.2.1, h')) : xWA p l e R s m args below meth c D cA base b n0 s0 Q j (pc, ls, st, h) := by
  rcases xcallI_inv hq with ⟨k, n, ci, hw, hq⟩ | ⟨k, n, ci, hw, hq⟩ | ⟨_, _, _, _, _, _, _, _, er⟩
  · obtain ⟨a, rest, ⟨tg, tn⟩, hd, ht, et, hcat, hlen, er⟩ := xinst_inv hq
    cases er
    dsimp only at et
    subst et
    obtain ⟨h0, hk, hnm, hret, hl1, hl2, hl4, hl5⟩ := f_M2 hw
    intro H la locs cells slots h1 h2 h3 h4 h5
    have c1 : cells + n0 = h.1.length := h4
    have c2 : slots + s0 = xsl h.1 := h5
    refine x_size fun hz => ?_
    have hbg := x_bg hc hz h2 h3 h4
    obtain ⟨hx, hb, hml, hown, -, hts, hK, hNs, hAO, hsz, -, hfr, hlo⟩ := hc
    have ea := xa_in (base := base) (b := b) ht hm
    have hB := x_B (d := d) (mc := h'.1.length - h.1.length) (ms := xsl h'.1 - xsl h.1) hts h0 hk (hts _ hl1) (hts _ hl4) hl5 hfr hlo
    rw [hret] at hB
    have run := va_runI (n := n) (g := F0 m pc la (st.map (xc base b))) (rest := rest.map (xc base b)) (b := base + a) (As := ((st.take n).reverse).map (xc base b)) (locs := locs) (cells := cells) (slots := slots) (l := l) (e := e) (below := below) (meth := meth) (bytes := xB k) (maxL := xnL k) (⟨hx, hb, hml, hown, hts⟩ : CallFix p m c (xB j) (xnL j) s args xgw (xON (xO j))) (hM h0 hk hlen) ⟨hB, hnm, hts _ hl2⟩ ⟨xPc_blind, fun U hU hW => ⟨x_arr ea, hbg U hU hW⟩⟩ rfl (x_stn hd) h1.1.1 (x_st hd ea) (lv_room (by rw [xcat_map]; exact hcat)) hdg ⟨by omega, by omega⟩
    refine x_go run h3 (fun H1 locs1 g1 g2 => ?_)
    rw [x_tail]
    exact ih H1 la locs1 _ _ h1 g1 g2 (by show cells + (h'.1.length - h.1.length) + n0 = h'.1.length; omega) (by show slots + (xsl h'.1 - xsl h.1) + s0 = xsl h'.1; omega)
  · obtain ⟨a, rest, ⟨tg, tn⟩, hd, ht, et, hcat, hlen, er⟩ := xinst_inv hq
    cases er
    dsimp only at et
    subst et
    obtain ⟨h0, hk, hnm, hret, ⟨host, hl1⟩, hl2, hl4, hl5⟩ := f_M6 hw
    intro H la locs cells slots h1 h2 h3 h4 h5
    have c1 : cells + n0 = h.1.length := h4
    have c2 : slots + s0 = xsl h.1 := h5
    refine x_size fun hz => ?_
    have hbg := x_bg hc hz h2 h3 h4
    obtain ⟨hx, hb, hml, hown, -, hts, hK, hNs, hAO, hsz, -, hfr, hlo⟩ := hc
    have ea := xa_in (base := base) (b := b) ht hm
    obtain ⟨f1, f2, -, -, -, f6⟩ := f_cls hk
    have hB : va_CN R s args (xON (xO j)) i (xY k) host (xB k) (xnL k) (xRt k) (xWs k) (xRm d (h'.1.length - h.1.length) (xsl h'.1 - xsl h.1)) (h'.1.length - h.1.length) (xsl h'.1 - xsl h.1) n :=
      va_cnB n hts (xWs_good h0 hk) rfl rfl rfl (hNs _ hl1) (hts _ hl4) ⟨f1, f2, hl5⟩ ⟨hfr, by show 8 + (xnL k + 11) + 40 * (d + 1) ≤ R.locals; omega⟩
    rw [hret] at hB
    have run := va_runIN (n := n) (g := F0 m pc la (st.map (xc base b))) (rest := rest.map (xc base b)) (b := base + a) (As := ((st.take n).reverse).map (xc base b)) (locs := locs) (cells := cells) (slots := slots) (l := l) (e := e) (below := below) (meth := meth) (bytes := xB k) (maxL := xnL k) (⟨hx, hb, hml, hown, hts⟩ : CallFix p m c (xB j) (xnL j) s args xgw (xON (xO j))) (hM h0 hk hlen) ⟨hB, hnm, hts _ hl2⟩ ⟨xPc_blind, fun U hU hW => ⟨x_arr ea, hbg U hU hW⟩⟩ rfl (x_stn hd) h1.1.1 (x_st hd ea) (lv_room (by rw [xcat_map]; exact hcat)) hdg ⟨by omega, by omega⟩
    refine x_go run h3 (fun H1 locs1 g1 g2 => ?_)
    rw [x_tail]
    exact ih H1 la locs1 _ _ h1 g1 g2 (by show cells + (h'.1.length - h.1.length) + n0 = h'.1.length; omega) (by show slots + (xsl h'.1 - xsl h.1) + s0 = xsl h'.1; omega)
  · cases er
theorem s_callS (hc : xCtx p R s m args meth c D cA base b n0 scr j (d + 1)) (hdg : decode (xB j) pc = .ok (.invokestatic i, 3)) {as : List Value} {f1 : xCf} {v : Option Value} (hq : xcallS (xlM (xO j) i) (pc + 3) ls st h = some (.inr (.inl (k, as, f1)))) (hM : 0 < k → k < xnM → (xarg as).length ≤ xnL k → xMt l D cA base b d k as h h' v) (hg1 : h.1.length ≤ h'.1.length) (hg2 : xsl h.1 ≤ xsl h'.1) (hm : h.1.length ≤ xS) (hn : h'.1.length ≤ n0 + R.cells) (hs : xsl h'.1 ≤ s0 + R.slots) (ih : xWA p l e R s m args below meth c D cA base b n0 s0 Q j (f1.1, f1.2.1, v.toList ++ f1.2.2.1, h')) : xWA p l e R s m args below meth c D cA base b n0 s0 Q j (pc, ls, st, h) := by
  rcases xcallS_inv hq with ⟨k, n, ci, hw, hle, hcat, hlen, er⟩ | ⟨_, _, _, _, _, _, _, _, _, _, _, _, _, _, _, _, _, _, _, _, _, _, _, er⟩ | ⟨_, _, _, _, _, _, _, _, _, er⟩
  · cases er
    obtain ⟨h0, hk, hl1, hl2, hl4, hl5⟩ := f_M1 hw
    intro H la locs cells slots h1 h2 h3 h4 h5
    have c1 : cells + n0 = h.1.length := h4
    have c2 : slots + s0 = xsl h.1 := h5
    refine x_size fun hz => ?_
    have hbg := x_bg hc hz h2 h3 h4
    obtain ⟨hx, hb, hml, hown, -, hts, hK, hNs, hAO, hsz, -, hfr, hlo⟩ := hc
    have e1 : st.map (xc base b) = (((st.take n).reverse).map (xc base b)).reverse ++ (st.drop n).map (xc base b) := by
      rw [← List.map_reverse, List.reverse_reverse, ← List.map_append, List.take_append_drop]
    have run := va_runS (n := n) (g := F0 m pc la (st.map (xc base b))) (rest := (st.drop n).map (xc base b)) (As := ((st.take n).reverse).map (xc base b)) (locs := locs) (cells := cells) (slots := slots) (l := l) (e := e) (below := below) (meth := meth) (ret := xRt k) (bytes := xB k) (maxL := xnL k) (⟨hx, hb, hml, hown, hts⟩ : CallFix p m c (xB j) (xnL j) s args xgw (xON (xO j))) (hM h0 hk hlen) ⟨x_B hts h0 hk (hts _ hl1) (hts _ hl4) hl5 hfr hlo, hts _ hl2⟩ ⟨xPc_blind, fun U hU hW => ⟨rfl, hbg U hU hW⟩⟩ rfl (by simp; omega) h1.1.1 e1 (lv_room (by rw [xcat_map]; exact hcat)) hdg ⟨by omega, by omega⟩
    refine x_go run h3 (fun H1 locs1 g1 g2 => ?_)
    rw [x_tail]
    exact ih H1 la locs1 _ _ h1 g1 g2 (by show cells + (h'.1.length - h.1.length) + n0 = h'.1.length; omega) (by show slots + (xsl h'.1 - xsl h.1) + s0 = xsl h'.1; omega)
  · cases er
  · cases er
end XC
