theorem x_pure : xPure := by
  intro len xs hl
  obtain ⟨I', L', hr⟩ := lw_loop (d := 0) (xs := xs) hl len 0 I02 L00 0 0 0 0 (by omega) (by omega) rR_0
  have hk := k_top (d := 4) (scr := some (len, xs))
  rw [hK_0, hK_51] at hk
  exact ⟨_, hk.trans hr, (show xSH.length ≤ 600000 by decide), (show xsl xSH ≤ 7302250 by decide)⟩
theorem whole_start {p : Program} {e : Env} {s : State} {m : MethodId} {below : List Frame} {meth : Method} {c : Code} (l : Launch) {b L : Nat} {xs : Nat → Int32} (hL : L ≤ 1536) (C0 : lw_At p s m meth c b L xs) : W p l e room_1 s m #[Value.ref b] below meth c s.heap [] 0 0 (lw_Z below #[Value.ref b] s) (entryFrame m ([Value.ref b] : List Value).toArray 4) := whole_of x_pure l hL C0
