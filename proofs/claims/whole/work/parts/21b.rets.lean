section XZ
variable {d j pc : Nat} {scr : xScr} {ls : xLs} {h : xHp}
theorem X_ri {x : Int32} (hd : decode (xB j) pc = .ok (.ireturn, 1)) (hk : xRk j = 0) : X d scr j (pc, ls, [.int x], h) = some (some (.int x), h) := by
  refine X_rt hd rfl ?_
  show xIret j [.int x] = _
  unfold xIret
  exact if_pos (Or.inl hk)
theorem X_rz {x : Int32} (hd : decode (xB j) pc = .ok (.ireturn, 1)) (hk : xRk j = 1) (hz : x = 0 ∨ x = 1) : X d scr j (pc, ls, [.int x], h) = some (some (.int x), h) := by
  refine X_rt hd rfl ?_
  show xIret j [.int x] = _
  unfold xIret
  exact if_pos (Or.inr ⟨hk, hz⟩)
theorem X_rl {x : Int64} (hd : decode (xB j) pc = .ok (.lreturn, 1)) (hk : xRk j = 2) : X d scr j (pc, ls, [.long x], h) = some (some (.long x), h) := by
  refine X_rt hd rfl ?_
  show xLret j [.long x] = _
  unfold xLret
  exact if_pos hk
theorem X_ra {x : Nat} (hd : decode (xB j) pc = .ok (.areturn, 1)) (hk : xRk j = 3) : X d scr j (pc, ls, [.ref x], h) = some (some (.ref x), h) := by
  refine X_rt hd rfl ?_
  show xAret j [.ref x] = _
  unfold xAret
  exact if_pos hk
theorem X_rv (hd : decode (xB j) pc = .ok (.return_, 1)) (hk : xRk j = 4) : X d scr j (pc, ls, [], h) = some (none, h) := by
  refine X_rt hd rfl ?_
  show xVret j [] = _
  unfold xVret
  exact if_pos hk
theorem X_div {x y : Int32} {st : List Value} (hd : decode (xB j) pc = .ok (.idiv, 1)) (hy : ¬ y = 0) : X d scr j (pc, ls, .int y :: .int x :: st, h) = X d scr j (pc + 1, ls, .int (x / y) :: st, h) := by
  refine X_op hd rfl ?_
  show xID (fun x y => x / y) (pc + 1) ls (.int y :: .int x :: st) h = _
  unfold xID
  exact if_neg hy
theorem X_rem {x y : Int32} {st : List Value} (hd : decode (xB j) pc = .ok (.irem, 1)) (hy : ¬ y = 0) : X d scr j (pc, ls, .int y :: .int x :: st, h) = X d scr j (pc + 1, ls, .int (x - x / y * y) :: st, h) := by
  refine X_op hd rfl ?_
  show xID (fun x y => x - x / y * y) (pc + 1) ls (.int y :: .int x :: st) h = _
  unfold xID
  exact if_neg hy
end XZ
