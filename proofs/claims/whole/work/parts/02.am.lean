/-! THE ABSTRACT MACHINE: cells by number, not by address; a cell's shape, and what its ints, longs, references are. An instruction is written with Instr again, its operands resolved: branch targets absolute, fields as 256 * class + place, methods by their number, constants in place (goto_w: a long), invokeinterface: what the JDK or the launch gives. -/
abbrev aSh : Type := Option FieldType × Nat
abbrev aM : Type := List aSh × (Nat → Nat → Int32) × (Nat → Nat → Int64) × (Nat → Nat → Option Nat)
abbrev aEnt : Type := Nat × Instr × Nat × Nat
def aUp {α : Type} (f : Nat → Nat → α) (q k : Nat) (v : α) : Nat → Nat → α := fun a b => if a = q ∧ b = k then v else f a b
def aRow {α : Type} (f : Nat → Nat → α) (q : Nat) (v : Nat → α) : Nat → Nat → α := fun a b => if a = q then v b else f a b
def aRf (r : Option Nat) : Value := match r with
  | none => .null
  | some a => .ref a
/-- the kinds of a field -/
def aTy (ci k : Nat) : FieldType := match ci with
  | 0 => tyX0 k
  | 1 => tyX1 k
  | 2 => tyX2 k
  | 3 => tyX3 k
  | 4 => tyX4 k
  | 5 => tyX5 k
  | 6 => tyX6 k
  | 7 => tyX7 k
  | 8 => tyX8 k
  | _ => tyX9 k
def aNF (ci : Nat) : Nat := ([3, 7, 4, 9, 3, 7, 17, 4, 18, 109][ci]?).getD 0
def aIsRef (ty : FieldType) : Bool := match ty with
  | .object _ => true
  | .array _ => true
  | _ => false
def aFld (M : aM) (q ci k : Nat) : Value := match aTy ci k with
  | .long => .long (M.2.2.1 q k)
  | .object _ => aRf (M.2.2.2 q k)
  | .array _ => aRf (M.2.2.2 q k)
  | _ => .int (M.2.1 q k)
def aClr (ls : List Value) (k : Nat) : List Value := match k with
  | 0 => ls
  | j + 1 => match ls[j]? with
    | some v => if v.category = 2 then ls.set j .null else ls
    | none => ls
def aSto (ls : List Value) (k : Nat) (v : Value) : List Value := (aClr ls k).set k v
def aStoL (ls : List Value) (k : Nat) (v : Value) : List Value := ((aClr ls k).set k v).set (k + 1) .null
def aCat : List Value → Nat
  | [] => 0
  | v :: r => v.category + aCat r
def aEntL : List Value → List Value
  | [] => []
  | v :: r => if v.category = 2 then v :: .null :: aEntL r else v :: aEntL r
/-- WORDS, String number 0, and the script: cells that the machine did not make here -/
def aSTR : Nat := 1000000
def aSCR : Nat := 1000001
/-- a step within a method that is no branch, no call, no end -/
def aSt (sc : Option (Nat × (Nat → Int32))) (wd : List Int32) (d : Nat) (i : Instr) (ls st : List Value) (M : aM) : Option (List Value × List Value × aM) :=
  match i with
  | .sipush v => some (ls, .int (Int32.ofInt v) :: st, M)
  | .goto_w v => some (ls, .long (Int64.ofInt v) :: st, M)
  | .ldc _ => some (ls, .ref aSTR :: st, M)
  | .iload k => match ls[k]? with
    | some (.int x) => some (ls, .int x :: st, M)
    | _ => none
  | .lload k => match ls[k]? with
    | some (.long x) => some (ls, .long x :: st, M)
    | _ => none
  | .aload k => match ls[k]? with
    | some (.ref x) => some (ls, .ref x :: st, M)
    | _ => none
  | .istore k => match st with
    | .int x :: r => if k < ls.length then some (aSto ls k (.int x), r, M) else none
    | _ => none
  | .astore k => match st with
    | .ref x :: r => if k < ls.length then some (aSto ls k (.ref x), r, M) else none
    | _ => none
  | .lstore k => match st with
    | .long x :: r => if k + 1 < ls.length then some (aStoL ls k (.long x), r, M) else none
    | _ => none
  | .iinc k c => match ls[k]? with
    | some (.int x) => some (ls.set k (.int (x + Int32.ofInt c)), st, M)
    | _ => none
  | .iadd => match st with
    | .int y :: .int x :: r => some (ls, .int (x + y) :: r, M)
    | _ => none
  | .isub => match st with
    | .int y :: .int x :: r => some (ls, .int (x - y) :: r, M)
    | _ => none
  | .imul => match st with
    | .int y :: .int x :: r => some (ls, .int (x * y) :: r, M)
    | _ => none
  | .iand => match st with
    | .int y :: .int x :: r => some (ls, .int (x &&& y) :: r, M)
    | _ => none
  | .ior => match st with
    | .int y :: .int x :: r => some (ls, .int (x ||| y) :: r, M)
    | _ => none
  | .ixor => match st with
    | .int y :: .int x :: r => some (ls, .int (x ^^^ y) :: r, M)
    | _ => none
  | .idiv => match st with
    | .int y :: .int x :: r => if y = 0 then none else some (ls, .int (x / y) :: r, M)
    | _ => none
  | .irem => match st with
    | .int y :: .int x :: r => if y = 0 then none else some (ls, .int (x - x / y * y) :: r, M)
    | _ => none
  | .ishl => match st with
    | .int y :: .int x :: r => some (ls, .int (x <<< (y &&& 31)) :: r, M)
    | _ => none
  | .ishr => match st with
    | .int y :: .int x :: r => some (ls, .int (x >>> (y &&& 31)) :: r, M)
    | _ => none
  | .iushr => match st with
    | .int y :: .int x :: r => some (ls, .int ((x.toUInt32 >>> (y.toUInt32 &&& Int32.toUInt32 31)).toInt32) :: r, M)
    | _ => none
  | .ladd => match st with
    | .long y :: .long x :: r => some (ls, .long (x + y) :: r, M)
    | _ => none
  | .lsub => match st with
    | .long y :: .long x :: r => some (ls, .long (x - y) :: r, M)
    | _ => none
  | .lmul => match st with
    | .long y :: .long x :: r => some (ls, .long (x * y) :: r, M)
    | _ => none
  | .ldiv => match st with
    | .long y :: .long x :: r => if y = 0 then none else some (ls, .long (x / y) :: r, M)
    | _ => none
  | .lrem => match st with
    | .long y :: .long x :: r => if y = 0 then none else some (ls, .long (x - x / y * y) :: r, M)
    | _ => none
  | .lcmp => match st with
    | .long y :: .long x :: r => some (ls, .int (lg_cmp x y) :: r, M)
    | _ => none
  | .i2l => match st with
    | .int x :: r => some (ls, .long x.toInt64 :: r, M)
    | _ => none
  | .l2i => match st with
    | .long x :: r => some (ls, .int x.toInt32 :: r, M)
    | _ => none
  | .dup => match st with
    | v :: r => if v.category = 1 then some (ls, v :: v :: r, M) else none
    | _ => none
  | .pop => match st with
    | v :: r => if v.category = 1 then some (ls, r, M) else none
    | _ => none
  | .dup2 => match st with
    | v :: w :: r => if v.category = 1 ∧ w.category = 1 then some (ls, v :: w :: v :: w :: r, M) else none
    | _ => none
  | .getfield f => match st with
    | .ref q :: r => if M.1[q]? = some (none, f / 256) ∧ f % 256 < aNF (f / 256) then some (ls, aFld M q (f / 256) (f % 256) :: r, M) else none
    | _ => none
  | .putfield f => match st with
    | .int x :: .ref q :: r => if M.1[q]? = some (none, f / 256) ∧ f % 256 < aNF (f / 256) ∧ aIsRef (aTy (f / 256) (f % 256)) = false ∧ aTy (f / 256) (f % 256) ≠ .long ∧ narrow (aTy (f / 256) (f % 256)) (.int x) = .int x ∧ fits (aTy (f / 256) (f % 256)) (.int x) = true then some (ls, r, M.1, aUp M.2.1 q (f % 256) x, M.2.2.1, M.2.2.2) else none
    | .long x :: .ref q :: r => if M.1[q]? = some (none, f / 256) ∧ f % 256 < aNF (f / 256) ∧ aTy (f / 256) (f % 256) = .long then some (ls, r, M.1, M.2.1, aUp M.2.2.1 q (f % 256) x, M.2.2.2) else none
    | .ref x :: .ref q :: r => if M.1[q]? = some (none, f / 256) ∧ f % 256 < aNF (f / 256) ∧ aIsRef (aTy (f / 256) (f % 256)) = true then some (ls, r, M.1, M.2.1, M.2.2.1, aUp M.2.2.2 q (f % 256) (some x)) else none
    | _ => none
  | .iaload => match st with
    | .int j :: .ref q :: r => match M.1[q]? with
      | some (some .int, n) => if j < 0 ∨ n ≤ j.toNatClampNeg then none else some (ls, .int (M.2.1 q j.toNatClampNeg) :: r, M)
      | _ => none
    | _ => none
  | .caload => match st with
    | .int j :: .ref q :: r => match M.1[q]? with
      | some (some .char, n) => if j < 0 ∨ n ≤ j.toNatClampNeg then none else some (ls, .int (M.2.1 q j.toNatClampNeg) :: r, M)
      | _ => none
    | _ => none
  | .laload => match st with
    | .int j :: .ref q :: r => match M.1[q]? with
      | some (some .long, n) => if j < 0 ∨ n ≤ j.toNatClampNeg then none else some (ls, .long (M.2.2.1 q j.toNatClampNeg) :: r, M)
      | _ => none
    | _ => none
  | .aaload => match st with
    | .int j :: .ref q :: r => match M.1[q]? with
      | some (some (.object Cn), n) => if ¬ Cn = RX1 ∨ j < 0 ∨ n ≤ j.toNatClampNeg then none else some (ls, aRf (M.2.2.2 q j.toNatClampNeg) :: r, M)
      | some (some (.array .int), n) => if j < 0 ∨ n ≤ j.toNatClampNeg then none else some (ls, aRf (M.2.2.2 q j.toNatClampNeg) :: r, M)
      | _ => none
    | _ => none
  | .iastore => match st with
    | .int x :: .int j :: .ref q :: r => match M.1[q]? with
      | some (some .int, n) => if j < 0 ∨ n ≤ j.toNatClampNeg then none else some (ls, r, M.1, aUp M.2.1 q j.toNatClampNeg x, M.2.2.1, M.2.2.2)
      | _ => none
    | _ => none
  | .castore => match st with
    | .int x :: .int j :: .ref q :: r => match M.1[q]? with
      | some (some .char, n) => if j < 0 ∨ n ≤ j.toNatClampNeg then none else some (ls, r, M.1, aUp M.2.1 q j.toNatClampNeg (vp_nar .char x), M.2.2.1, M.2.2.2)
      | _ => none
    | _ => none
  | .lastore => match st with
    | .long x :: .int j :: .ref q :: r => match M.1[q]? with
      | some (some .long, n) => if j < 0 ∨ n ≤ j.toNatClampNeg then none else some (ls, r, M.1, M.2.1, aUp M.2.2.1 q j.toNatClampNeg x, M.2.2.2)
      | _ => none
    | _ => none
  | .aastore => match st with
    | .ref x :: .int j :: .ref q :: r => match M.1[q]?, M.1[x]? with
      | some (some (.object Cn), n), some (none, ci) => if ¬ Cn = RX1 ∨ ¬ ci = 1 ∨ j < 0 ∨ n ≤ j.toNatClampNeg then none else some (ls, r, M.1, M.2.1, M.2.2.1, aUp M.2.2.2 q j.toNatClampNeg (some x))
      | _, _ => none
    | _ => none
  | .arraylength => match st with
    | .ref q :: r => match M.1[q]? with
      | some (some .int, n) => some (ls, .int (Int32.ofNat n) :: r, M)
      | some (some .char, n) => some (ls, .int (Int32.ofNat n) :: r, M)
      | _ => none
    | _ => none
  | .newarray t => match st with
    | .int n :: r => if n < 0 ∨ 1000000 ≤ n.toNatClampNeg ∨ 1000000 ≤ M.1.length then none else match newarray.typeOf t with
      | .int => some (ls, .ref M.1.length :: r, M.1 ++ [(some .int, n.toNatClampNeg)], aRow M.2.1 M.1.length (fun _ => 0), M.2.2.1, M.2.2.2)
      | .char => some (ls, .ref M.1.length :: r, M.1 ++ [(some .char, n.toNatClampNeg)], aRow M.2.1 M.1.length (fun _ => 0), M.2.2.1, M.2.2.2)
      | .long => some (ls, .ref M.1.length :: r, M.1 ++ [(some .long, n.toNatClampNeg)], M.2.1, aRow M.2.2.1 M.1.length (fun _ => 0), M.2.2.2)
      | _ => none
    | _ => none
  | .anewarray _ => match st with
    | .int n :: r => if n < 0 ∨ 1000000 ≤ n.toNatClampNeg ∨ 1000000 ≤ M.1.length then none else some (ls, .ref M.1.length :: r, M.1 ++ [(some (.object RX1), n.toNatClampNeg)], M.2.1, M.2.2.1, aRow M.2.2.2 M.1.length (fun _ => none))
    | _ => none
  | .multianewarray _ _ => match st with
    | .int k :: .int n :: r => if n < 0 ∨ k < 0 ∨ 1000 ≤ n.toNatClampNeg ∨ 1000000 ≤ k.toNatClampNeg ∨ 1000000 ≤ M.1.length + n.toNatClampNeg then none else
      some (ls, .ref M.1.length :: r, (M.1 ++ [(some (.array .int), n.toNatClampNeg)]) ++ List.replicate n.toNatClampNeg (some .int, k.toNatClampNeg), (fun a b => if M.1.length < a ∧ a ≤ M.1.length + n.toNatClampNeg then 0 else M.2.1 a b), M.2.2.1, aRow M.2.2.2 M.1.length (fun j => if j < n.toNatClampNeg then some (M.1.length + 1 + j) else none))
    | _ => none
  | .new ci => if ci < 10 ∧ M.1.length < 1000000 then some (ls, .ref M.1.length :: st, M.1 ++ [(none, ci)], aRow M.2.1 M.1.length (fun _ => 0), aRow M.2.2.1 M.1.length (fun _ => 0), aRow M.2.2.2 M.1.length (fun _ => none)) else none
  | .saload => match sc with
    | none => none
    | some (n, xs) => match st with
      | .int j :: .ref q :: r => if ¬ q = aSCR ∨ j < 0 ∨ n ≤ j.toNatClampNeg then none else some (ls, .int (xs j.toNatClampNeg) :: r, M)
      | _ => none
  | .invokeinterface 0 _ => match st with
    | .ref q :: r => if d = 0 ∨ 8 < aCat r then none else some (ls, r, M)
    | _ => none
  | .invokeinterface 1 _ => match st with
    | .int y :: .int x :: r => if d = 0 ∨ 8 < aCat r then none else some (ls, .int (if x < y then y else x) :: r, M)
    | _ => none
  | .invokeinterface 2 _ => match st with
    | .int y :: .int x :: r => if d = 0 ∨ 8 < aCat r then none else some (ls, .int (if y < x then y else x) :: r, M)
    | _ => none
  | .invokeinterface 3 _ => match st with
    | .int n :: .int dp :: .ref a :: .int sp :: .ref b :: r => if d = 0 ∨ 8 < aCat r ∨ n < 0 ∨ dp < 0 ∨ sp < 0 then none else match M.1[b]?, M.1[a]? with
      | some (some .int, n0), some (some .int, n1) => if sp.toNatClampNeg + n.toNatClampNeg ≤ n0 ∧ dp.toNatClampNeg + n.toNatClampNeg ≤ n1 then
          some (ls, r, M.1, aRow M.2.1 a (va_cpy (M.2.1 b) (M.2.1 a) sp.toNatClampNeg dp.toNatClampNeg n.toNatClampNeg), M.2.2.1, M.2.2.2) else none
      | _, _ => none
    | _ => none
  | .invokeinterface 4 _ => match st with
    | .ref q :: r => if d < 3 ∨ 8 < aCat r ∨ ¬ q = aSTR then none else some (ls, .int (Int32.ofNat wd.length) :: r, M)
    | _ => none
  | .invokeinterface 5 _ => match st with
    | .int j :: .ref q :: r => if d < 3 ∨ 8 < aCat r ∨ ¬ q = aSTR ∨ j < 0 then none else match wd[j.toNatClampNeg]? with
      | some x => some (ls, .int x :: r, M)
      | none => none
    | _ => none
  | .invokeinterface 6 _ => match sc with
    | none => none
    | some (n, _) => match st with
      | .ref q :: r => if ¬ q = aSCR then none else some (ls, .int (Int32.ofNat n) :: r, M)
      | _ => none
  | _ => none
def aLks : List (Int × Int) → Int → Int → Int
  | [], d, _ => d
  | e :: r, d, k => if k = e.1 then e.2 else aLks r d k
/-- a branch -/
def aBr (i : Instr) (nx : Nat) (st : List Value) : Option (List Value × Nat) :=
  match i with
  | .goto t => some (st, t.toNat)
  | .ifCond c t => match st with
    | .int x :: r => some (r, if (match c with | .eq => decide (x = 0) | .ne => decide (¬ x = 0) | .lt => decide (x < 0) | .ge => decide (0 ≤ x) | .gt => decide (0 < x) | .le => decide (x ≤ 0)) = true then t.toNat else nx)
    | _ => none
  | .if_icmp c t => match st with
    | .int y :: .int x :: r => some (r, if (match c with | .eq => decide (x = y) | .ne => decide (¬ x = y) | .lt => decide (x < y) | .ge => decide (y ≤ x) | .gt => decide (y < x) | .le => decide (x ≤ y)) = true then t.toNat else nx)
    | _ => none
  | .tableswitch df lo hi offs => match st with
    | .int x :: r => if x.toInt < lo ∨ hi < x.toInt then some (r, df.toNat) else match offs[(x.toInt - lo).toNat]? with
      | some t => some (r, t.toNat)
      | none => none
    | _ => none
  | .lookupswitch df ps => match st with
    | .int x :: r => some (r, (aLks ps.toList df x.toInt).toNat)
    | _ => none
  | _ => none
