theorem rL_eq {l l' : List (Nat × Nat × Nat)} (h1 : ∀ r ∈ l, rL l' r.1 r.2.1 = rL l r.1 r.2.1) (h2 : ∀ r ∈ l', rL l' r.1 r.2.1 = rL l r.1 r.2.1) : rL l = rL l' := by
  funext a k
  cases e1 : l.find? (fun r => r.1 == a && r.2.1 == k) with
  | some r =>
    have hm := List.mem_of_find?_eq_some e1
    have hp := List.find?_some e1
    simp only [Bool.and_eq_true, beq_iff_eq] at hp
    have := h1 r hm
    rw [hp.1, hp.2] at this
    exact this.symm
  | none =>
    cases e2 : l'.find? (fun r => r.1 == a && r.2.1 == k) with
    | some r =>
      have hm := List.mem_of_find?_eq_some e2
      have hp := List.find?_some e2
      simp only [Bool.and_eq_true, beq_iff_eq] at hp
      have := h2 r hm
      rw [hp.1, hp.2] at this
      exact this.symm
    | none =>
      unfold rL
      rw [e1, e2]
theorem rL_all : rL rAll = xR0 := by
  have : rL rAll = rL xRl := rL_eq (by decide +kernel) (by decide +kernel)
  rw [this]
  rfl
theorem hK_0 : hK 0 I00 0 = xh0 := rfl
theorem hK_51 : hK 51 I02 49 = (xSH, I02, L00, xR0) := by
  show (xSH.take 51, I02, L00, rL rAll) = _
  rw [rL_all]
  rfl
theorem rR_0 : rRest I02 I02 0 0 0 0 := by
  refine ⟨⟨rfl, rfl, by decide, fun _ => rfl, fun q hq => absurd hq (by omega)⟩, ⟨rfl, rfl, rfl, rfl, rfl⟩, ⟨rfl, rfl, rfl, rfl, by decide, by decide, fun _ _ => rfl⟩, rfl, by decide, ⟨⟨fun _ => 0, fun q hq => ⟨rfl, (show 0 < 2 ^ 20 by decide), fun x => ?_⟩⟩, fun q hq => Or.inl rfl⟩, fun z => absurd z (by decide), 0, by decide, rfl⟩
  rw [Nat.zero_testBit]
  rfl
