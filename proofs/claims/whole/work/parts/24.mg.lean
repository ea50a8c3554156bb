def mg (C M : Nat → Nat → Int32) : Nat → Nat → Int32 := fun a => if a < 38 then C a else M a
theorem mg_lo {C M : Nat → Nat → Int32} {a : Nat} (h : a < 38) : mg C M a = C a := if_pos h
theorem mg_hi {C M : Nat → Nat → Int32} {a : Nat} (h : 38 ≤ a) : mg C M a = M a := if_neg (Nat.not_lt.mpr h)
theorem xmg_lo {C M : Nat → Nat → Int32} {a k : Nat} {v : Int32} (h : a < 38) : xu (mg C M) a k v = mg (xu C a k v) M := by
  funext x
  by_cases hx : x = a
  · subst hx
    rw [xu_at, mg_lo h, mg_lo h, xu_at]
  · rw [xu_ne hx]
    unfold mg
    split
    · rw [xu_ne hx]
    · rfl
theorem xmg_hi {C M : Nat → Nat → Int32} {a k : Nat} {v : Int32} (h : 38 ≤ a) : xu (mg C M) a k v = mg C (xu M a k v) := by
  funext x
  by_cases hx : x = a
  · subst hx
    rw [xu_at, mg_hi h, mg_hi h, xu_at]
  · rw [xu_ne hx]
    unfold mg
    split
    · rfl
    · rw [xu_ne hx]
theorem mg_self (I : Nat → Nat → Int32) : mg I I = I := by
  funext a
  unfold mg
  split <;> rfl
theorem mg_0 {C M : Nat → Nat → Int32} : mg C M 0 = C 0 := mg_lo (by decide)
theorem xmg_0 {C M : Nat → Nat → Int32} {k : Nat} {v : Int32} : xu (mg C M) 0 k v = mg (xu C 0 k v) M := xmg_lo (by decide)
theorem mg_1 {C M : Nat → Nat → Int32} : mg C M 1 = C 1 := mg_lo (by decide)
theorem xmg_1 {C M : Nat → Nat → Int32} {k : Nat} {v : Int32} : xu (mg C M) 1 k v = mg (xu C 1 k v) M := xmg_lo (by decide)
theorem mg_2 {C M : Nat → Nat → Int32} : mg C M 2 = C 2 := mg_lo (by decide)
theorem xmg_2 {C M : Nat → Nat → Int32} {k : Nat} {v : Int32} : xu (mg C M) 2 k v = mg (xu C 2 k v) M := xmg_lo (by decide)
theorem mg_3 {C M : Nat → Nat → Int32} : mg C M 3 = C 3 := mg_lo (by decide)
theorem xmg_3 {C M : Nat → Nat → Int32} {k : Nat} {v : Int32} : xu (mg C M) 3 k v = mg (xu C 3 k v) M := xmg_lo (by decide)
theorem mg_4 {C M : Nat → Nat → Int32} : mg C M 4 = C 4 := mg_lo (by decide)
theorem xmg_4 {C M : Nat → Nat → Int32} {k : Nat} {v : Int32} : xu (mg C M) 4 k v = mg (xu C 4 k v) M := xmg_lo (by decide)
theorem mg_5 {C M : Nat → Nat → Int32} : mg C M 5 = C 5 := mg_lo (by decide)
theorem xmg_5 {C M : Nat → Nat → Int32} {k : Nat} {v : Int32} : xu (mg C M) 5 k v = mg (xu C 5 k v) M := xmg_lo (by decide)
theorem mg_6 {C M : Nat → Nat → Int32} : mg C M 6 = C 6 := mg_lo (by decide)
theorem xmg_6 {C M : Nat → Nat → Int32} {k : Nat} {v : Int32} : xu (mg C M) 6 k v = mg (xu C 6 k v) M := xmg_lo (by decide)
theorem mg_7 {C M : Nat → Nat → Int32} : mg C M 7 = C 7 := mg_lo (by decide)
theorem xmg_7 {C M : Nat → Nat → Int32} {k : Nat} {v : Int32} : xu (mg C M) 7 k v = mg (xu C 7 k v) M := xmg_lo (by decide)
theorem mg_8 {C M : Nat → Nat → Int32} : mg C M 8 = C 8 := mg_lo (by decide)
theorem xmg_8 {C M : Nat → Nat → Int32} {k : Nat} {v : Int32} : xu (mg C M) 8 k v = mg (xu C 8 k v) M := xmg_lo (by decide)
theorem mg_9 {C M : Nat → Nat → Int32} : mg C M 9 = C 9 := mg_lo (by decide)
theorem xmg_9 {C M : Nat → Nat → Int32} {k : Nat} {v : Int32} : xu (mg C M) 9 k v = mg (xu C 9 k v) M := xmg_lo (by decide)
theorem mg_10 {C M : Nat → Nat → Int32} : mg C M 10 = C 10 := mg_lo (by decide)
theorem xmg_10 {C M : Nat → Nat → Int32} {k : Nat} {v : Int32} : xu (mg C M) 10 k v = mg (xu C 10 k v) M := xmg_lo (by decide)
theorem mg_11 {C M : Nat → Nat → Int32} : mg C M 11 = C 11 := mg_lo (by decide)
theorem xmg_11 {C M : Nat → Nat → Int32} {k : Nat} {v : Int32} : xu (mg C M) 11 k v = mg (xu C 11 k v) M := xmg_lo (by decide)
theorem mg_12 {C M : Nat → Nat → Int32} : mg C M 12 = C 12 := mg_lo (by decide)
theorem xmg_12 {C M : Nat → Nat → Int32} {k : Nat} {v : Int32} : xu (mg C M) 12 k v = mg (xu C 12 k v) M := xmg_lo (by decide)
theorem mg_13 {C M : Nat → Nat → Int32} : mg C M 13 = C 13 := mg_lo (by decide)
theorem xmg_13 {C M : Nat → Nat → Int32} {k : Nat} {v : Int32} : xu (mg C M) 13 k v = mg (xu C 13 k v) M := xmg_lo (by decide)
theorem mg_14 {C M : Nat → Nat → Int32} : mg C M 14 = C 14 := mg_lo (by decide)
theorem xmg_14 {C M : Nat → Nat → Int32} {k : Nat} {v : Int32} : xu (mg C M) 14 k v = mg (xu C 14 k v) M := xmg_lo (by decide)
theorem mg_15 {C M : Nat → Nat → Int32} : mg C M 15 = C 15 := mg_lo (by decide)
theorem xmg_15 {C M : Nat → Nat → Int32} {k : Nat} {v : Int32} : xu (mg C M) 15 k v = mg (xu C 15 k v) M := xmg_lo (by decide)
theorem mg_16 {C M : Nat → Nat → Int32} : mg C M 16 = C 16 := mg_lo (by decide)
theorem xmg_16 {C M : Nat → Nat → Int32} {k : Nat} {v : Int32} : xu (mg C M) 16 k v = mg (xu C 16 k v) M := xmg_lo (by decide)
theorem mg_17 {C M : Nat → Nat → Int32} : mg C M 17 = C 17 := mg_lo (by decide)
theorem xmg_17 {C M : Nat → Nat → Int32} {k : Nat} {v : Int32} : xu (mg C M) 17 k v = mg (xu C 17 k v) M := xmg_lo (by decide)
theorem mg_18 {C M : Nat → Nat → Int32} : mg C M 18 = C 18 := mg_lo (by decide)
theorem xmg_18 {C M : Nat → Nat → Int32} {k : Nat} {v : Int32} : xu (mg C M) 18 k v = mg (xu C 18 k v) M := xmg_lo (by decide)
theorem mg_19 {C M : Nat → Nat → Int32} : mg C M 19 = C 19 := mg_lo (by decide)
theorem xmg_19 {C M : Nat → Nat → Int32} {k : Nat} {v : Int32} : xu (mg C M) 19 k v = mg (xu C 19 k v) M := xmg_lo (by decide)
theorem mg_20 {C M : Nat → Nat → Int32} : mg C M 20 = C 20 := mg_lo (by decide)
theorem xmg_20 {C M : Nat → Nat → Int32} {k : Nat} {v : Int32} : xu (mg C M) 20 k v = mg (xu C 20 k v) M := xmg_lo (by decide)
theorem mg_21 {C M : Nat → Nat → Int32} : mg C M 21 = C 21 := mg_lo (by decide)
theorem xmg_21 {C M : Nat → Nat → Int32} {k : Nat} {v : Int32} : xu (mg C M) 21 k v = mg (xu C 21 k v) M := xmg_lo (by decide)
theorem mg_22 {C M : Nat → Nat → Int32} : mg C M 22 = C 22 := mg_lo (by decide)
theorem xmg_22 {C M : Nat → Nat → Int32} {k : Nat} {v : Int32} : xu (mg C M) 22 k v = mg (xu C 22 k v) M := xmg_lo (by decide)
theorem mg_23 {C M : Nat → Nat → Int32} : mg C M 23 = C 23 := mg_lo (by decide)
theorem xmg_23 {C M : Nat → Nat → Int32} {k : Nat} {v : Int32} : xu (mg C M) 23 k v = mg (xu C 23 k v) M := xmg_lo (by decide)
theorem mg_24 {C M : Nat → Nat → Int32} : mg C M 24 = C 24 := mg_lo (by decide)
theorem xmg_24 {C M : Nat → Nat → Int32} {k : Nat} {v : Int32} : xu (mg C M) 24 k v = mg (xu C 24 k v) M := xmg_lo (by decide)
theorem mg_25 {C M : Nat → Nat → Int32} : mg C M 25 = C 25 := mg_lo (by decide)
theorem xmg_25 {C M : Nat → Nat → Int32} {k : Nat} {v : Int32} : xu (mg C M) 25 k v = mg (xu C 25 k v) M := xmg_lo (by decide)
theorem mg_26 {C M : Nat → Nat → Int32} : mg C M 26 = C 26 := mg_lo (by decide)
theorem xmg_26 {C M : Nat → Nat → Int32} {k : Nat} {v : Int32} : xu (mg C M) 26 k v = mg (xu C 26 k v) M := xmg_lo (by decide)
theorem mg_27 {C M : Nat → Nat → Int32} : mg C M 27 = C 27 := mg_lo (by decide)
theorem xmg_27 {C M : Nat → Nat → Int32} {k : Nat} {v : Int32} : xu (mg C M) 27 k v = mg (xu C 27 k v) M := xmg_lo (by decide)
theorem mg_28 {C M : Nat → Nat → Int32} : mg C M 28 = C 28 := mg_lo (by decide)
theorem xmg_28 {C M : Nat → Nat → Int32} {k : Nat} {v : Int32} : xu (mg C M) 28 k v = mg (xu C 28 k v) M := xmg_lo (by decide)
theorem mg_29 {C M : Nat → Nat → Int32} : mg C M 29 = C 29 := mg_lo (by decide)
theorem xmg_29 {C M : Nat → Nat → Int32} {k : Nat} {v : Int32} : xu (mg C M) 29 k v = mg (xu C 29 k v) M := xmg_lo (by decide)
theorem mg_30 {C M : Nat → Nat → Int32} : mg C M 30 = C 30 := mg_lo (by decide)
theorem xmg_30 {C M : Nat → Nat → Int32} {k : Nat} {v : Int32} : xu (mg C M) 30 k v = mg (xu C 30 k v) M := xmg_lo (by decide)
theorem mg_31 {C M : Nat → Nat → Int32} : mg C M 31 = C 31 := mg_lo (by decide)
theorem xmg_31 {C M : Nat → Nat → Int32} {k : Nat} {v : Int32} : xu (mg C M) 31 k v = mg (xu C 31 k v) M := xmg_lo (by decide)
theorem mg_32 {C M : Nat → Nat → Int32} : mg C M 32 = C 32 := mg_lo (by decide)
theorem xmg_32 {C M : Nat → Nat → Int32} {k : Nat} {v : Int32} : xu (mg C M) 32 k v = mg (xu C 32 k v) M := xmg_lo (by decide)
theorem mg_33 {C M : Nat → Nat → Int32} : mg C M 33 = C 33 := mg_lo (by decide)
theorem xmg_33 {C M : Nat → Nat → Int32} {k : Nat} {v : Int32} : xu (mg C M) 33 k v = mg (xu C 33 k v) M := xmg_lo (by decide)
theorem mg_34 {C M : Nat → Nat → Int32} : mg C M 34 = C 34 := mg_lo (by decide)
theorem xmg_34 {C M : Nat → Nat → Int32} {k : Nat} {v : Int32} : xu (mg C M) 34 k v = mg (xu C 34 k v) M := xmg_lo (by decide)
theorem mg_35 {C M : Nat → Nat → Int32} : mg C M 35 = C 35 := mg_lo (by decide)
theorem xmg_35 {C M : Nat → Nat → Int32} {k : Nat} {v : Int32} : xu (mg C M) 35 k v = mg (xu C 35 k v) M := xmg_lo (by decide)
theorem mg_36 {C M : Nat → Nat → Int32} : mg C M 36 = C 36 := mg_lo (by decide)
theorem xmg_36 {C M : Nat → Nat → Int32} {k : Nat} {v : Int32} : xu (mg C M) 36 k v = mg (xu C 36 k v) M := xmg_lo (by decide)
theorem mg_37 {C M : Nat → Nat → Int32} : mg C M 37 = C 37 := mg_lo (by decide)
theorem xmg_37 {C M : Nat → Nat → Int32} {k : Nat} {v : Int32} : xu (mg C M) 37 k v = mg (xu C 37 k v) M := xmg_lo (by decide)
theorem mg_38 {C M : Nat → Nat → Int32} : mg C M 38 = M 38 := mg_hi (by decide)
theorem xmg_38 {C M : Nat → Nat → Int32} {k : Nat} {v : Int32} : xu (mg C M) 38 k v = mg C (xu M 38 k v) := xmg_hi (by decide)
theorem mg_39 {C M : Nat → Nat → Int32} : mg C M 39 = M 39 := mg_hi (by decide)
theorem xmg_39 {C M : Nat → Nat → Int32} {k : Nat} {v : Int32} : xu (mg C M) 39 k v = mg C (xu M 39 k v) := xmg_hi (by decide)
theorem mg_40 {C M : Nat → Nat → Int32} : mg C M 40 = M 40 := mg_hi (by decide)
theorem xmg_40 {C M : Nat → Nat → Int32} {k : Nat} {v : Int32} : xu (mg C M) 40 k v = mg C (xu M 40 k v) := xmg_hi (by decide)
theorem mg_41 {C M : Nat → Nat → Int32} : mg C M 41 = M 41 := mg_hi (by decide)
theorem xmg_41 {C M : Nat → Nat → Int32} {k : Nat} {v : Int32} : xu (mg C M) 41 k v = mg C (xu M 41 k v) := xmg_hi (by decide)
theorem mg_42 {C M : Nat → Nat → Int32} : mg C M 42 = M 42 := mg_hi (by decide)
theorem xmg_42 {C M : Nat → Nat → Int32} {k : Nat} {v : Int32} : xu (mg C M) 42 k v = mg C (xu M 42 k v) := xmg_hi (by decide)
theorem mg_43 {C M : Nat → Nat → Int32} : mg C M 43 = M 43 := mg_hi (by decide)
theorem xmg_43 {C M : Nat → Nat → Int32} {k : Nat} {v : Int32} : xu (mg C M) 43 k v = mg C (xu M 43 k v) := xmg_hi (by decide)
theorem mg_44 {C M : Nat → Nat → Int32} : mg C M 44 = M 44 := mg_hi (by decide)
theorem xmg_44 {C M : Nat → Nat → Int32} {k : Nat} {v : Int32} : xu (mg C M) 44 k v = mg C (xu M 44 k v) := xmg_hi (by decide)
theorem mg_45 {C M : Nat → Nat → Int32} : mg C M 45 = M 45 := mg_hi (by decide)
theorem xmg_45 {C M : Nat → Nat → Int32} {k : Nat} {v : Int32} : xu (mg C M) 45 k v = mg C (xu M 45 k v) := xmg_hi (by decide)
theorem mg_46 {C M : Nat → Nat → Int32} : mg C M 46 = M 46 := mg_hi (by decide)
theorem xmg_46 {C M : Nat → Nat → Int32} {k : Nat} {v : Int32} : xu (mg C M) 46 k v = mg C (xu M 46 k v) := xmg_hi (by decide)
theorem mg_47 {C M : Nat → Nat → Int32} : mg C M 47 = M 47 := mg_hi (by decide)
theorem xmg_47 {C M : Nat → Nat → Int32} {k : Nat} {v : Int32} : xu (mg C M) 47 k v = mg C (xu M 47 k v) := xmg_hi (by decide)
theorem mg_48 {C M : Nat → Nat → Int32} : mg C M 48 = M 48 := mg_hi (by decide)
theorem xmg_48 {C M : Nat → Nat → Int32} {k : Nat} {v : Int32} : xu (mg C M) 48 k v = mg C (xu M 48 k v) := xmg_hi (by decide)
theorem mg_49 {C M : Nat → Nat → Int32} : mg C M 49 = M 49 := mg_hi (by decide)
theorem xmg_49 {C M : Nat → Nat → Int32} {k : Nat} {v : Int32} : xu (mg C M) 49 k v = mg C (xu M 49 k v) := xmg_hi (by decide)
theorem mg_50 {C M : Nat → Nat → Int32} : mg C M 50 = M 50 := mg_hi (by decide)
theorem xmg_50 {C M : Nat → Nat → Int32} {k : Nat} {v : Int32} : xu (mg C M) 50 k v = mg C (xu M 50 k v) := xmg_hi (by decide)
