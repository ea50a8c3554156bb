abbrev xSh : Type := List (Nat × Nat)
abbrev xHp : Type := xSh × (Nat → Nat → Int32) × (Nat → Nat → Int64) × (Nat → Nat → Option Nat)
abbrev xLs : Type := List (Option Value)
abbrev xCf : Type := Nat × xLs × List Value × xHp
abbrev xRs : Type := xCf ⊕ ((Nat × List Value × xCf) ⊕ Option Value)
abbrev xS : Nat := 1000000
def xu {α : Type} (f : Nat → Nat → α) (a k : Nat) (v : α) : Nat → Nat → α := fun x => if x = a then va_up (f a) k v else f x
def xz {α : Type} (f : Nat → Nat → α) (a : Nat) (v : α) : Nat → Nat → α := fun x => if x = a then fun _ => v else f x
abbrev xgo (pc : Nat) (ls : xLs) (st : List Value) (h : xHp) : Option xRs := some (.inl (pc, ls, st, h))
def xnl (o : Option Value) : Bool := match o with
  | some (.long _) => false
  | some (.double _) => false
  | _ => true
def xok (ls : xLs) (k : Nat) : Bool := decide (k < ls.length) && (k == 0 || xnl (ls.getD (k - 1) none))
def xldI (k pc : Nat) (ls : xLs) (st : List Value) (h : xHp) : Option xRs := match ls[k]? with
  | some (some (.int x)) => xgo pc ls (.int x :: st) h
  | _ => none
def xldL (k pc : Nat) (ls : xLs) (st : List Value) (h : xHp) : Option xRs := match ls[k]? with
  | some (some (.long x)) => xgo pc ls (.long x :: st) h
  | _ => none
def xldA (k pc : Nat) (ls : xLs) (st : List Value) (h : xHp) : Option xRs := match ls[k]? with
  | some (some (.ref x)) => xgo pc ls (.ref x :: st) h
  | _ => none
def xstI (k pc : Nat) (ls : xLs) (st : List Value) (h : xHp) : Option xRs := match st with
  | .int x :: st => if xok ls k = true then xgo pc (ls.set k (some (.int x))) st h else none
  | _ => none
def xstL (k pc : Nat) (ls : xLs) (st : List Value) (h : xHp) : Option xRs := match st with
  | .long x :: st => if xok ls k = true ∧ k + 1 < ls.length then xgo pc ((ls.set k (some (.long x))).set (k + 1) none) st h else none
  | _ => none
def xstA (k pc : Nat) (ls : xLs) (st : List Value) (h : xHp) : Option xRs := match st with
  | .ref x :: st => if xok ls k = true then xgo pc (ls.set k (some (.ref x))) st h else none
  | _ => none
def xinc (k : Nat) (v : Int) (pc : Nat) (ls : xLs) (st : List Value) (h : xHp) : Option xRs := match ls[k]? with
  | some (some (.int x)) => if xok ls k = true then xgo pc (ls.set k (some (.int (x + Int32.ofInt v)))) st h else none
  | _ => none
def xI1 (f : Int32 → Int32) (pc : Nat) (ls : xLs) (st : List Value) (h : xHp) : Option xRs := match st with
  | .int x :: st => xgo pc ls (.int (f x) :: st) h
  | _ => none
def xIL (f : Int32 → Int64) (pc : Nat) (ls : xLs) (st : List Value) (h : xHp) : Option xRs := match st with
  | .int x :: st => xgo pc ls (.long (f x) :: st) h
  | _ => none
def xLI (f : Int64 → Int32) (pc : Nat) (ls : xLs) (st : List Value) (h : xHp) : Option xRs := match st with
  | .long x :: st => xgo pc ls (.int (f x) :: st) h
  | _ => none
def xI2 (f : Int32 → Int32 → Int32) (pc : Nat) (ls : xLs) (st : List Value) (h : xHp) : Option xRs := match st with
  | .int y :: .int x :: st => xgo pc ls (.int (f x y) :: st) h
  | _ => none
def xID (f : Int32 → Int32 → Int32) (pc : Nat) (ls : xLs) (st : List Value) (h : xHp) : Option xRs := match st with
  | .int y :: .int x :: st => if y = 0 then none else xgo pc ls (.int (f x y) :: st) h
  | _ => none
def xL2 (f : Int64 → Int64 → Int64) (pc : Nat) (ls : xLs) (st : List Value) (h : xHp) : Option xRs := match st with
  | .long y :: .long x :: st => xgo pc ls (.long (f x y) :: st) h
  | _ => none
def xLC (pc : Nat) (ls : xLs) (st : List Value) (h : xHp) : Option xRs := match st with
  | .long y :: .long x :: st => xgo pc ls (.int (lg_cmp x y) :: st) h
  | _ => none
def xLS (f : Int64 → Int32 → Int64) (pc : Nat) (ls : xLs) (st : List Value) (h : xHp) : Option xRs := match st with
  | .int y :: .long x :: st => xgo pc ls (.long (f x y) :: st) h
  | _ => none
def xdup (pc : Nat) (ls : xLs) (st : List Value) (h : xHp) : Option xRs := match st with
  | v :: st => if v.category = 1 then xgo pc ls (v :: v :: st) h else none
  | _ => none
def xdup2 (pc : Nat) (ls : xLs) (st : List Value) (h : xHp) : Option xRs := match st with
  | v :: w :: st => if v.category = 1 ∧ w.category = 1 then xgo pc ls (v :: w :: v :: w :: st) h else none
  | _ => none
def xj (pc : Nat) (off : Int) (ls : xLs) (st : List Value) (h : xHp) : Option xRs := if 0 ≤ (pc : Int) + off then xgo ((pc : Int) + off).toNat ls st h else none
def xcond (cd : ClassFile.Cond) (x y : Int32) : Bool := match cd with
  | .eq => decide (x = y)
  | .ne => decide (¬ x = y)
  | .lt => decide (x < y)
  | .ge => decide (y ≤ x)
  | .gt => decide (y < x)
  | .le => decide (x ≤ y)
def xif (cd : ClassFile.Cond) (x y : Int32) (off : Int) (pc : Nat) (ls : xLs) (st : List Value) (h : xHp) : Option xRs := if 0 ≤ (pc : Int) + off then (if xcond cd x y = true then xgo ((pc : Int) + off).toNat ls st h else xgo (pc + 3) ls st h) else none
def xif0 (cd : ClassFile.Cond) (off : Int) (pc : Nat) (ls : xLs) (st : List Value) (h : xHp) : Option xRs := match st with
  | .int x :: st => xif cd x 0 off pc ls st h
  | _ => none
def xif2 (cd : ClassFile.Cond) (off : Int) (pc : Nat) (ls : xLs) (st : List Value) (h : xHp) : Option xRs := match st with
  | .int y :: .int x :: st => xif cd x y off pc ls st h
  | _ => none
def xtab (dflt lo hi : Int) (offs : Array Int) (pc : Nat) (ls : xLs) (st : List Value) (h : xHp) : Option xRs := match st with
  | .int x :: st => if x.toInt < lo ∨ hi < x.toInt then xj pc dflt ls st h else (match offs[(x.toInt - lo).toNat]? with
    | some off => xj pc off ls st h
    | none => none)
  | _ => none
def xlook (dflt : Int) (ps : Array (Int × Int)) (pc : Nat) (ls : xLs) (st : List Value) (h : xHp) : Option xRs := match st with
  | .int x :: st => if (ps.toList.zip (ps.toList.drop 1)).all (fun (a, next) => a.1 < next.1) = true then xj pc (Op.lookupswitch.offset ps.toList dflt x.toInt) ls st h else none
  | _ => none
def xfv (h : xHp) (a k kd : Nat) : Value := match kd with
  | 0 => .int (h.2.1 a k)
  | 1 => .int (h.2.1 a k)
  | 2 => .long (h.2.2.1 a k)
  | _ => va_rf (h.2.2.2 a k)
def xgetf (q : Option (Nat × Nat)) (pc : Nat) (ls : xLs) (st : List Value) (h : xHp) : Option xRs := match q, st with
  | some (ci, k), .ref a :: st => (match h.1[a]? with
    | some t => if t.1 = ci + 4 ∧ k < t.2 then xgo pc ls (xfv h a k (xFK ci k) :: st) h else none
    | none => none)
  | _, _ => none
def xputv (kd k : Nat) (v : Value) (a : Nat) (h : xHp) : Option xHp := match kd, v with
  | 0, .int x => some (h.1, xu h.2.1 a k x, h.2.2)
  | 1, .int x => if x = 0 ∨ x = 1 then some (h.1, xu h.2.1 a k x, h.2.2) else none
  | 2, .long x => some (h.1, h.2.1, xu h.2.2.1 a k x, h.2.2.2)
  | 3, .ref r => some (h.1, h.2.1, h.2.2.1, xu h.2.2.2 a k (some r))
  | _, _ => none
def xputf (j : Nat) (q : Option (Nat × Nat)) (pc : Nat) (ls : xLs) (st : List Value) (h : xHp) : Option xRs := match q, st with
  | some (ci, k), v :: .ref a :: st => (match h.1[a]?, xputv (xFK ci k) k v a h with
    | some t, some h' => if t.1 = ci + 4 ∧ k < t.2 ∧ (xFn ci k = true → xIni j = some ci) then xgo pc ls st h' else none
    | _, _ => none)
  | _, _ => none
def xnew (tag n : Nat) (h : xHp) : xHp := (h.1 ++ [(tag, n)], xz h.2.1 h.1.length 0, xz h.2.2.1 h.1.length 0, xz h.2.2.2 h.1.length none)
def xnewc (q : Option (Nat × Nat)) (pc : Nat) (ls : xLs) (st : List Value) (h : xHp) : Option xRs := match q with
  | some (ci, n) => xgo pc ls (.ref h.1.length :: st) (xnew (ci + 4) n h)
  | none => none
def xnewa (tag : Nat) (pc : Nat) (ls : xLs) (st : List Value) (h : xHp) : Option xRs := match st with
  | .int n :: st => if n < 0 ∨ 100000 < n.toNatClampNeg then none else xgo pc ls (.ref h.1.length :: st) (xnew tag n.toNatClampNeg h)
  | _ => none
abbrev xScr : Type := Option (Nat × (Nat → Int32))
def xlen (scr : xScr) (pc : Nat) (ls : xLs) (st : List Value) (h : xHp) : Option xRs := match st with
  | .ref a :: st => (match h.1[a]? with
      | some t => if t.1 < 4 then xgo pc ls (.int (Int32.ofNat t.2) :: st) h else none
      | none => if a = xS then (match scr with
        | some q => xgo pc ls (.int (Int32.ofNat q.1) :: st) h
        | none => none) else none)
  | _ => none
def xIaload (scr : xScr) (pc : Nat) (ls : xLs) (st : List Value) (h : xHp) : Option xRs := match st with
  | .int i :: .ref a :: st => (match h.1[a]? with
      | some t => if t.1 = 0 ∧ ¬ (i < 0 ∨ t.2 ≤ i.toNatClampNeg) then xgo pc ls (.int (h.2.1 a i.toNatClampNeg) :: st) h else none
      | none => if a = xS then (match scr with
        | some q => if ¬ (i < 0 ∨ q.1 ≤ i.toNatClampNeg) then xgo pc ls (.int (q.2 i.toNatClampNeg) :: st) h else none
        | none => none) else none)
  | _ => none
def xBaload (pc : Nat) (ls : xLs) (st : List Value) (h : xHp) : Option xRs := match st with
  | .int i :: .ref a :: st => (match h.1[a]? with
      | some t => if t.1 = 1 ∧ ¬ (i < 0 ∨ t.2 ≤ i.toNatClampNeg) then xgo pc ls (.int (h.2.1 a i.toNatClampNeg) :: st) h else none
      | none => none)
  | _ => none
def xLaload (pc : Nat) (ls : xLs) (st : List Value) (h : xHp) : Option xRs := match st with
  | .int i :: .ref a :: st => (match h.1[a]? with
      | some t => if t.1 = 2 ∧ ¬ (i < 0 ∨ t.2 ≤ i.toNatClampNeg) then xgo pc ls (.long (h.2.2.1 a i.toNatClampNeg) :: st) h else none
      | none => none)
  | _ => none
def xAaload (pc : Nat) (ls : xLs) (st : List Value) (h : xHp) : Option xRs := match st with
  | .int i :: .ref a :: st => (match h.1[a]? with
      | some t => if t.1 = 3 ∧ ¬ (i < 0 ∨ t.2 ≤ i.toNatClampNeg) then xgo pc ls (va_rf (h.2.2.2 a i.toNatClampNeg) :: st) h else none
      | none => none)
  | _ => none
def xIastore (pc : Nat) (ls : xLs) (st : List Value) (h : xHp) : Option xRs := match st with
  | .int x :: .int i :: .ref a :: st => (match h.1[a]? with
      | some t => if t.1 = 0 ∧ ¬ (i < 0 ∨ t.2 ≤ i.toNatClampNeg) then xgo pc ls st (h.1, xu h.2.1 a i.toNatClampNeg x, h.2.2) else none
      | none => none)
  | _ => none
def xBastore (pc : Nat) (ls : xLs) (st : List Value) (h : xHp) : Option xRs := match st with
  | .int x :: .int i :: .ref a :: st => (match h.1[a]? with
      | some t => if t.1 = 1 ∧ ¬ (i < 0 ∨ t.2 ≤ i.toNatClampNeg) then xgo pc ls st (h.1, xu h.2.1 a i.toNatClampNeg (vp_nar .boolean x), h.2.2) else none
      | none => none)
  | _ => none
def xLastore (pc : Nat) (ls : xLs) (st : List Value) (h : xHp) : Option xRs := match st with
  | .long x :: .int i :: .ref a :: st => (match h.1[a]? with
      | some t => if t.1 = 2 ∧ ¬ (i < 0 ∨ t.2 ≤ i.toNatClampNeg) then xgo pc ls st (h.1, h.2.1, xu h.2.2.1 a i.toNatClampNeg x, h.2.2.2) else none
      | none => none)
  | _ => none
def xAastore (pc : Nat) (ls : xLs) (st : List Value) (h : xHp) : Option xRs := match st with
  | .ref r :: .int i :: .ref a :: st => (match h.1[a]?, h.1[r]? with
      | some t, some t' => if t.1 = 3 ∧ ¬ (i < 0 ∨ t.2 ≤ i.toNatClampNeg) ∧ t'.1 = xST + 4 then xgo pc ls st (h.1, h.2.1, h.2.2.1, xu h.2.2.2 a i.toNatClampNeg (some r)) else none
      | _, _ => none)
  | _ => none
def xcat (st : List Value) : Nat := (st.map fun v => v.category).sum
def xarg : List Value → xLs
  | [] => []
  | v :: as => if v.category = 2 then some v :: none :: xarg as else some v :: xarg as
def xent (j : Nat) (as : List Value) : xLs := xarg as ++ List.replicate (xnL j - (xarg as).length) none
def xinst (k n ci pc : Nat) (ls : xLs) (st : List Value) (h : xHp) : Option xRs := match st.drop n with
  | .ref r :: rest => (match h.1[r]? with
    | some t => if t.1 = ci + 4 ∧ xcat rest ≤ 8 ∧ (xarg (.ref r :: (st.take n).reverse)).length ≤ xnL k then some (.inr (.inl (k, .ref r :: (st.take n).reverse, (pc, ls, rest, h)))) else none
    | none => none)
  | _ => none
def xcallV (q : Option (Nat × Nat × Nat × Nat)) (pc : Nat) (ls : xLs) (st : List Value) (h : xHp) : Option xRs := match q with
  | some (0, k, n, ci) => xinst k n ci pc ls st h
  | _ => none
def xcallI (q : Option (Nat × Nat × Nat × Nat)) (pc : Nat) (ls : xLs) (st : List Value) (h : xHp) : Option xRs := match q with
  | some (2, k, n, ci) => xinst k n ci pc ls st h
  | some (6, k, n, ci) => xinst k n ci pc ls st h
  | some (3, _, _, _) => (match st with
    | .ref _ :: rest => if xcat rest ≤ 8 then xgo pc ls rest h else none
    | _ => none)
  | _ => none
def xcallS (q : Option (Nat × Nat × Nat × Nat)) (pc : Nat) (ls : xLs) (st : List Value) (h : xHp) : Option xRs := match q with
  | some (1, k, n, _) => if n ≤ st.length ∧ xcat (st.drop n) ≤ 8 ∧ (xarg (st.take n).reverse).length ≤ xnL k then some (.inr (.inl (k, (st.take n).reverse, (pc, ls, st.drop n, h)))) else none
  | some (4, _, _, _) => (match st with
    | .int n :: .int dp :: .ref a :: .int sp :: .ref a0 :: rest => (match h.1[a]?, h.1[a0]? with
      | some t, some t0 => if t.1 = 0 ∧ t0.1 = 0 ∧ ¬ sp < 0 ∧ ¬ dp < 0 ∧ ¬ n < 0 ∧ sp.toNatClampNeg + n.toNatClampNeg ≤ t0.2 ∧ dp.toNatClampNeg + n.toNatClampNeg ≤ t.2 ∧ xcat rest ≤ 8 then
          xgo pc ls rest (h.1, (fun x => if x = a then va_cpy (h.2.1 a0) (h.2.1 a) sp.toNatClampNeg dp.toNatClampNeg n.toNatClampNeg else h.2.1 x), h.2.2) else none
      | _, _ => none)
    | _ => none)
  | some (5, _, _, _) => (match st with
    | .int y :: .int x :: rest => if xcat rest ≤ 8 then xgo pc ls (.int (if x < y then y else x) :: rest) h else none
    | _ => none)
  | _ => none
def xIret (j : Nat) (st : List Value) : Option xRs := match st with
  | [.int x] => if xRk j = 0 ∨ (xRk j = 1 ∧ (x = 0 ∨ x = 1)) then some (.inr (.inr (some (.int x)))) else none
  | _ => none
def xLret (j : Nat) (st : List Value) : Option xRs := match st with
  | [.long x] => if xRk j = 2 then some (.inr (.inr (some (.long x)))) else none
  | _ => none
def xAret (j : Nat) (st : List Value) : Option xRs := match st with
  | [.ref x] => if xRk j = 3 then some (.inr (.inr (some (.ref x)))) else none
  | _ => none
def xVret (j : Nat) (st : List Value) : Option xRs := match st with
  | [] => if xRk j = 4 then some (.inr (.inr none)) else none
  | _ => none
def xcK (q : Option Int32) (pc : Nat) (ls : xLs) (st : List Value) (h : xHp) : Option xRs := match q with
  | some v => xgo pc ls (.int v :: st) h
  | none => none
def xcJ (q : Option Int64) (pc : Nat) (ls : xLs) (st : List Value) (h : xHp) : Option xRs := match q with
  | some v => xgo pc ls (.long v :: st) h
  | none => none
def xn (i : Instr) (n : Nat) : Bool := match i with
  | .bipush _ | .ldc _ | .iload _ | .lload _ | .aload _ | .istore _ | .lstore _ | .astore _ | .newarray _ => n == 2
  | .sipush _ | .ldc_w _ | .ldc2_w _ | .iinc _ _ | .ifCond _ _ | .if_icmp _ _ | .goto _ | .getfield _ | .putfield _ | .new _ | .anewarray _ | .invokevirtual _ | .invokestatic _ | .invokespecial _ => n == 3
  | .lookupswitch _ _ | .tableswitch _ _ _ _ => true
  | _ => n == 1
def xop (scr : xScr) (j pc : Nat) (i : Instr) (ls : xLs) (st : List Value) (h : xHp) : Option xRs := match i with
  | .iconst v => xgo (pc + 1) ls (.int (Int32.ofInt v) :: st) h
  | .bipush v => xgo (pc + 2) ls (.int (Int8.ofInt v).toInt32 :: st) h
  | .sipush v => xgo (pc + 3) ls (.int (Int16.ofInt v).toInt32 :: st) h
  | .lconst v => xgo (pc + 1) ls (.long (Int64.ofNat (v : Nat)) :: st) h
  | .ldc k => xcK (xlK (xO j) k) (pc + 2) ls st h
  | .ldc_w k => xcK (xlK (xO j) k) (pc + 3) ls st h
  | .ldc2_w k => xcJ (xlJ (xO j) k) (pc + 3) ls st h
  | .iload_n k => xldI (k : Nat) (pc + 1) ls st h
  | .iload k => xldI k (pc + 2) ls st h
  | .lload_n k => xldL (k : Nat) (pc + 1) ls st h
  | .lload k => xldL k (pc + 2) ls st h
  | .aload_n k => xldA (k : Nat) (pc + 1) ls st h
  | .aload k => xldA k (pc + 2) ls st h
  | .istore_n k => xstI (k : Nat) (pc + 1) ls st h
  | .istore k => xstI k (pc + 2) ls st h
  | .lstore_n k => xstL (k : Nat) (pc + 1) ls st h
  | .lstore k => xstL k (pc + 2) ls st h
  | .astore_n k => xstA (k : Nat) (pc + 1) ls st h
  | .astore k => xstA k (pc + 2) ls st h
  | .iinc k v => xinc k v (pc + 3) ls st h
  | .iadd => xI2 (fun x y => x + y) (pc + 1) ls st h
  | .isub => xI2 (fun x y => x - y) (pc + 1) ls st h
  | .imul => xI2 (fun x y => x * y) (pc + 1) ls st h
  | .iand => xI2 (fun x y => x &&& y) (pc + 1) ls st h
  | .ior => xI2 (fun x y => x ||| y) (pc + 1) ls st h
  | .ixor => xI2 (fun x y => x ^^^ y) (pc + 1) ls st h
  | .idiv => xID (fun x y => x / y) (pc + 1) ls st h
  | .irem => xID (fun x y => x - x / y * y) (pc + 1) ls st h
  | .ineg => xI1 (fun x => -x) (pc + 1) ls st h
  | .ishl => xI2 (fun x y => x <<< (y &&& 31)) (pc + 1) ls st h
  | .ishr => xI2 (fun x y => x >>> (y &&& 31)) (pc + 1) ls st h
  | .iushr => xI2 (fun x y => (x.toUInt32 >>> (y.toUInt32 &&& Int32.toUInt32 31)).toInt32) (pc + 1) ls st h
  | .ladd => xL2 (fun x y => x + y) (pc + 1) ls st h
  | .lsub => xL2 (fun x y => x - y) (pc + 1) ls st h
  | .lmul => xL2 (fun x y => x * y) (pc + 1) ls st h
  | .lcmp => xLC (pc + 1) ls st h
  | .lshr => xLS (fun x y => x >>> (y.toInt64 &&& 63)) (pc + 1) ls st h
  | .i2l => xIL (fun x => x.toInt64) (pc + 1) ls st h
  | .l2i => xLI (fun x => x.toInt32) (pc + 1) ls st h
  | .dup => xdup (pc + 1) ls st h
  | .dup2 => xdup2 (pc + 1) ls st h
  | .ifCond cd off => xif0 cd off pc ls st h
  | .if_icmp cd off => xif2 cd off pc ls st h
  | .goto off => xj pc off ls st h
  | .tableswitch d lo hi offs => xtab d lo hi offs pc ls st h
  | .lookupswitch d ps => xlook d ps pc ls st h
  | .getfield k => xgetf (xlF (xO j) k) (pc + 3) ls st h
  | .putfield k => xputf j (xlF (xO j) k) (pc + 3) ls st h
  | .new k => xnewc (xlC (xO j) k) (pc + 3) ls st h
  | .newarray .int => xnewa 0 (pc + 2) ls st h
  | .newarray .boolean => xnewa 1 (pc + 2) ls st h
  | .newarray .long => xnewa 2 (pc + 2) ls st h
  | .anewarray k => if xlA (xO j) k = true then xnewa 3 (pc + 3) ls st h else none
  | .arraylength => xlen scr (pc + 1) ls st h
  | .iaload => xIaload scr (pc + 1) ls st h
  | .baload => xBaload (pc + 1) ls st h
  | .laload => xLaload (pc + 1) ls st h
  | .aaload => xAaload (pc + 1) ls st h
  | .iastore => xIastore (pc + 1) ls st h
  | .bastore => xBastore (pc + 1) ls st h
  | .lastore => xLastore (pc + 1) ls st h
  | .aastore => xAastore (pc + 1) ls st h
  | .invokevirtual k => xcallV (xlM (xO j) k) (pc + 3) ls st h
  | .invokestatic k => xcallS (xlM (xO j) k) (pc + 3) ls st h
  | .invokespecial k => xcallI (xlM (xO j) k) (pc + 3) ls st h
  | .ireturn => xIret j st
  | .lreturn => xLret j st
  | .areturn => xAret j st
  | .return_ => xVret j st
  | _ => none
def xstep (scr : xScr) (j : Nat) (c : xCf) : Option xRs := match decode (xB j) c.1 with
  | .ok (i, n) => if xn i n = true then xop scr j c.1 i c.2.1 c.2.2.1 c.2.2.2 else none
  | .error _ => none
def xrun : Nat → Nat → xScr → Nat → xCf → Option (Option Value × xHp)
  | 0, _, _, _, _ => none
  | n + 1, d, scr, j, c => match xstep scr j c with
    | none => none
    | some (.inl c') => xrun n d scr j c'
    | some (.inr (.inl (k, as, c'))) => (match d with
      | 0 => none
      | d + 1 => (match xrun n d none k (0, xent k as, [], c'.2.2.2) with
        | none => none
        | some (v, h') => xrun n (d + 1) scr j (c'.1, c'.2.1, v.toList ++ c'.2.2.1, h')))
    | some (.inr (.inr v)) => some (v, c.2.2.2)
theorem xrun_mono : ∀ (n d : Nat) (scr : xScr) (j : Nat) (c : xCf) (r : Option Value × xHp), xrun n d scr j c = some r → xrun (n + 1) d scr j c = some r
  | 0, _, _, _, _, _, h => by cases h
  | n + 1, d, scr, j, c, r, h => by
    rw [xrun] at h ⊢
    cases hs : xstep scr j c with
    | none => rw [hs] at h; cases h
    | some q =>
      rw [hs] at h
      rcases q with c' | ⟨k, as, c'⟩ | v
      · exact xrun_mono n d scr j c' r h
      · cases d with
        | zero => cases h
        | succ d =>
          simp only at h ⊢
          cases hr : xrun n d none k (0, xent k as, [], c'.2.2.2) with
          | none => rw [hr] at h; cases h
          | some q =>
            rw [hr] at h
            rw [xrun_mono n d none k _ q hr]
            exact xrun_mono n (d + 1) scr j _ r h
      · exact h
theorem xrun_le {n m d : Nat} {scr : xScr} {j : Nat} {c : xCf} {r : Option Value × xHp} (hnm : n ≤ m) (h : xrun n d scr j c = some r) : xrun m d scr j c = some r := by
  induction hnm with
  | refl => exact h
  | step _ ih => exact xrun_mono _ _ _ _ _ _ ih
noncomputable def X (d : Nat) (scr : xScr) (j : Nat) (c : xCf) : Option (Option Value × xHp) := Classical.epsilon fun r => (∃ n, xrun n d scr j c = r ∧ r ≠ none) ∨ (r = none ∧ ∀ n, xrun n d scr j c = none)
theorem X_spec (d : Nat) (scr : xScr) (j : Nat) (c : xCf) : (∃ n, xrun n d scr j c = X d scr j c ∧ X d scr j c ≠ none) ∨ (X d scr j c = none ∧ ∀ n, xrun n d scr j c = none) := by
  refine Classical.epsilon_spec (p := fun r => (∃ n, xrun n d scr j c = r ∧ r ≠ none) ∨ (r = none ∧ ∀ n, xrun n d scr j c = none)) ?_
  by_cases h : ∃ n, xrun n d scr j c ≠ none
  · obtain ⟨n, hn⟩ := h
    exact ⟨_, Or.inl ⟨n, rfl, hn⟩⟩
  · exact ⟨none, Or.inr ⟨rfl, fun n => Classical.byContradiction fun q => h ⟨n, q⟩⟩⟩
theorem X_of {n d : Nat} {scr : xScr} {j : Nat} {c : xCf} {r : Option Value × xHp} (h : xrun n d scr j c = some r) : X d scr j c = some r := by
  rcases X_spec d scr j c with ⟨m, h1, h2⟩ | ⟨-, h2⟩
  · cases hx : X d scr j c with
    | none => exact absurd hx h2
    | some q =>
      rw [hx] at h1
      have a := xrun_le (Nat.le_max_left n m) h
      have b := xrun_le (Nat.le_max_right n m) h1
      rw [a] at b
      exact b.symm
  · rw [h2 n] at h
    cases h
theorem X_run {d : Nat} {scr : xScr} {j : Nat} {c : xCf} {r : Option Value × xHp} (h : X d scr j c = some r) : ∃ n, xrun n d scr j c = some r := by
  rcases X_spec d scr j c with ⟨m, h1, -⟩ | ⟨h1, -⟩
  · exact ⟨m, h1.trans h⟩
  · rw [h] at h1
    cases h1
theorem X_ext {d d' : Nat} {scr scr' : xScr} {j j' : Nat} {c c' : xCf} (h : ∀ r, (∃ n, xrun n d scr j c = some r) ↔ ∃ n, xrun n d' scr' j' c' = some r) : X d scr j c = X d' scr' j' c' := by
  cases h1 : X d scr j c with
  | some r =>
    obtain ⟨n, hn⟩ := (h r).mp (X_run h1)
    exact (X_of hn).symm
  | none =>
    cases h2 : X d' scr' j' c' with
    | none => rfl
    | some r =>
      obtain ⟨n, hn⟩ := (h r).mpr (X_run h2)
      rw [X_of hn] at h1
      cases h1
theorem X_next {d : Nat} {scr : xScr} {j : Nat} {c c' : xCf} (h : xstep scr j c = some (.inl c')) : X d scr j c = X d scr j c' := by
  refine X_ext fun r => ⟨fun ⟨n, hn⟩ => ?_, fun ⟨n, hn⟩ => ⟨n + 1, ?_⟩⟩
  · cases n with
    | zero => cases hn
    | succ n =>
      rw [xrun, h] at hn
      exact ⟨n, hn⟩
  · rw [xrun, h]
    exact hn
theorem X_call {d : Nat} {scr : xScr} {j k : Nat} {c c' : xCf} {as : List Value} (h : xstep scr j c = some (.inr (.inl (k, as, c')))) : X (d + 1) scr j c = (X d none k (0, xent k as, [], c'.2.2.2)).bind fun q => X (d + 1) scr j (c'.1, c'.2.1, q.1.toList ++ c'.2.2.1, q.2) := by
  cases hx : X d none k (0, xent k as, [], c'.2.2.2) with
  | some q =>
    obtain ⟨v, h'⟩ := q
    obtain ⟨m, hm⟩ := X_run hx
    refine X_ext fun r => ⟨fun ⟨n, hn⟩ => ?_, fun ⟨n, hn⟩ => ⟨max m n + 1, ?_⟩⟩
    · cases n with
      | zero => cases hn
      | succ n =>
        rw [xrun, h] at hn
        simp only at hn
        cases hr : xrun n d none k (0, xent k as, [], c'.2.2.2) with
        | none => rw [hr] at hn; cases hn
        | some q =>
          have e := (X_of hr).symm.trans hx
          cases e
          rw [hr] at hn
          exact ⟨n, hn⟩
    · rw [xrun, h]
      simp only
      rw [xrun_le (Nat.le_max_left m n) hm]
      exact xrun_le (Nat.le_max_right m n) hn
  | none =>
    cases h2 : X (d + 1) scr j c with
    | none => rfl
    | some r =>
      obtain ⟨n, hn⟩ := X_run h2
      cases n with
      | zero => cases hn
      | succ n =>
        rw [xrun, h] at hn
        simp only at hn
        cases hr : xrun n d none k (0, xent k as, [], c'.2.2.2) with
        | none => rw [hr] at hn; cases hn
        | some q =>
          rw [X_of hr] at hx
          cases hx
theorem X_ret {d : Nat} {scr : xScr} {j : Nat} {c : xCf} {v : Option Value} (h : xstep scr j c = some (.inr (.inr v))) : X d scr j c = some (v, c.2.2.2) := by
  refine X_of (n := 1) ?_
  rw [xrun, h]
