/-- the locals at a method's entry -/
def aEnt0 (y : Nat) (as : List Value) : List Value := aEntL as ++ List.replicate (mL y - (aEntL as).length) .null
/-- how many values a call takes, the receiver too -/
def aArg (y : Nat) : Nat := if mK y = 1 then mP y else mP y + 1
def aRecv (M : aM) (y : Nat) (as : List Value) : Bool := if mK y = 0 then match as with
    | .ref q :: _ => decide (M.1[q]? = some (none, mC y))
    | _ => false
  else if mK y = 2 then match as with
    | .ref _ :: _ => true
    | _ => false
  else true
/-- a call: the method, the values, what stays on the stack -/
def aCal (i : Instr) (st : List Value) (M : aM) : Option (Nat × List Value × List Value) :=
  match (match i with | .invokevirtual y => some y | .invokestatic y => some y | .invokespecial y => some y | _ => none) with
  | some y => if aArg y ≤ st.length ∧ aCat (st.drop (aArg y)) ≤ 8 ∧ aRecv M y (st.take (aArg y)).reverse = true ∧ (aEntL (st.take (aArg y)).reverse).length ≤ mL y then some (y, (st.take (aArg y)).reverse, st.drop (aArg y)) else none
  | none => none
/-- an end -/
def aRet (y : Nat) (i : Instr) (st : List Value) : Option (Option Value) :=
  match i, st with
  | .return_, [] => some none
  | .ireturn, [.int x] => if narrow ((mR y).getD .int) (.int x) = .int x then some (some (.int x)) else none
  | .lreturn, [.long x] => some (some (.long x))
  | _, _ => none
/-- the machine, big steps at calls; fuel, room for calls, method, place, locals, stack, cells -/
def aEv (wd : List Int32) (sc : Option (Nat × (Nat → Int32))) : Nat → Nat → Nat → Nat → List Value → List Value → aM → Option (Option Value × aM) := fun n => Nat.rec (motive := fun _ => Option (Nat × (Nat → Int32)) → Nat → Nat → Nat → List Value → List Value → aM → Option (Option Value × aM)) (fun _ _ _ _ _ _ _ => none)
  (fun _ ih sc d y pc ls st M => match aCod y pc with
    | none => none
    | some (i, nx) => match aRet y i st with
      | some r => some (r, M)
      | none => match aCal i st M with
        | some (y2, as, rest) => match d with
          | 0 => none
          | d2 + 1 => match ih none d2 y2 0 (aEnt0 y2 as) [] M with
            | some (v, M2) => ih sc d y nx ls (v.toList ++ rest) M2
            | none => none
        | none => match aBr i nx st with
          | some (st2, pc2) => ih sc d y pc2 ls st2 M
          | none => match aSt sc wd d i ls st M with
            | some (ls2, st2, M2) => ih sc d y nx ls2 st2 M2
            | none => none) n sc
theorem aEv_succ {wd : List Int32} {sc : Option (Nat × (Nat → Int32))} {n d y pc : Nat} {ls st : List Value} {M : aM} : aEv wd sc (n + 1) d y pc ls st M = (match aCod y pc with
    | none => none
    | some (i, nx) => match aRet y i st with
      | some r => some (r, M)
      | none => match aCal i st M with
        | some (y2, as, rest) => match d with
          | 0 => none
          | d2 + 1 => match aEv wd none n d2 y2 0 (aEnt0 y2 as) [] M with
            | some (v, M2) => aEv wd sc n d y nx ls (v.toList ++ rest) M2
            | none => none
        | none => match aBr i nx st with
          | some (st2, pc2) => aEv wd sc n d y pc2 ls st2 M
          | none => match aSt sc wd d i ls st M with
            | some (ls2, st2, M2) => aEv wd sc n d y nx ls2 st2 M2
            | none => none) := rfl
/-- THE LINK: what a table's row must have in the bytes and among the words -/
def aT (ci : Nat) : vw_C := (vwCl[ci]?).getD (RX0, TX0, 0)
def aHit (h : Nat) (w : Cond) : Bool := decide (aGet h = some w) && goodWord w
def aIsNest (w : Cond) : Bool := match w with
  | .methodLinkNest _ _ _ _ => true
  | _ => false
def aNests : List Cond := lw_tbl.filter aIsNest
def aJmp (pc : Nat) (t off : Int) : Bool := decide (0 ≤ t) && decide ((pc : Int) + off = t)
def aLkR (y pc : Nat) (am : Instr) (h : Nat) (raw : Instr) (len : Nat) : Bool :=
  match am with
  | .sipush v => match raw with
    | .iconst k => decide (k = v) && decide (len = 1)
    | .bipush k => decide ((Int8.ofInt k).toInt32 = Int32.ofInt v) && decide (len = 2)
    | .sipush k => decide ((Int16.ofInt k).toInt32 = Int32.ofInt v) && decide (len = 3)
    | .ldc k => aHit h (.constant (mN y).cls k (Int32.ofInt v)) && decide (len = 2)
    | .ldc_w k => aHit h (.constant (mN y).cls k (Int32.ofInt v)) && decide (len = 3)
    | _ => false
  | .goto_w v => match raw with
    | .lconst k => decide (Int64.ofNat (k : Nat) = Int64.ofInt v) && decide (len = 1)
    | .ldc2_w k => aHit h (.constantLong (mN y).cls k (Int64.ofInt v)) && decide (len = 3)
    | _ => false
  | .ldc _ => decide (y = 18) && decide (raw = .ldc 49) && decide (len = 2)
  | .iload k => match raw with
    | .iload j => decide (j = k) && decide (len = 2)
    | .iload_n j => decide ((j : Nat) = k) && decide (len = 1)
    | _ => false
  | .lload k => match raw with
    | .lload j => decide (j = k) && decide (len = 2)
    | .lload_n j => decide ((j : Nat) = k) && decide (len = 1)
    | _ => false
  | .aload k => match raw with
    | .aload j => decide (j = k) && decide (len = 2)
    | .aload_n j => decide ((j : Nat) = k) && decide (len = 1)
    | _ => false
  | .istore k => match raw with
    | .istore j => decide (j = k) && decide (len = 2)
    | .istore_n j => decide ((j : Nat) = k) && decide (len = 1)
    | _ => false
  | .lstore k => match raw with
    | .lstore j => decide (j = k) && decide (len = 2)
    | .lstore_n j => decide ((j : Nat) = k) && decide (len = 1)
    | _ => false
  | .astore k => match raw with
    | .astore j => decide (j = k) && decide (len = 2)
    | .astore_n j => decide ((j : Nat) = k) && decide (len = 1)
    | _ => false
  | .iinc k c => decide (raw = .iinc k c) && decide (len = 3)
  | .goto t => match raw with
    | .goto off => aJmp pc t off && decide (len = 3)
    | _ => false
  | .ifCond c t => match raw with
    | .ifCond c2 off => decide (c2 = c) && aJmp pc t off && decide (len = 3)
    | _ => false
  | .if_icmp c t => match raw with
    | .if_icmp c2 off => decide (c2 = c) && aJmp pc t off && decide (len = 3)
    | _ => false
  | .tableswitch df lo hi ts => match raw with
    | .tableswitch d0 lo2 hi2 offs => decide (lo2 = lo) && decide (hi2 = hi) && aJmp pc df d0 && decide (offs.size = ts.size) && (List.range offs.size).all (fun k => match offs[k]?, ts[k]? with
      | some a, some b => aJmp pc b a
      | _, _ => false)
    | _ => false
  | .lookupswitch df ps => match raw with
    | .lookupswitch d0 ps0 => aJmp pc df d0 && decide (ps.toList = ps0.toList.map (fun e => (e.1, (pc : Int) + e.2))) && ps.toList.all (fun e => decide (0 ≤ e.2)) && (ps0.toList.zip (ps0.toList.drop 1)).all (fun (a, next) => a.1 < next.1)
    | _ => false
  | .getfield f => match raw with
    | .getfield k => decide (len = 3) && decide (f / 256 < 10) && aHit h (.fieldLink (mN y).cls k ((aT (f / 256)).2.1 (f % 256)).1 ((aT (f / 256)).2.1 (f % 256)).2.1 ((aT (f / 256)).2.1 (f % 256)).2.2.1)
    | _ => false
  | .putfield f => match raw with
    | .putfield k => decide (len = 3) && decide (f / 256 < 10) && aHit h (.fieldLink (mN y).cls k ((aT (f / 256)).2.1 (f % 256)).1 ((aT (f / 256)).2.1 (f % 256)).2.1 ((aT (f / 256)).2.1 (f % 256)).2.2.1) && (decide (((aT (f / 256)).2.1 (f % 256)).2.2.2 = false) || (decide ((mN y).name = "<init>") && decide (((aT (f / 256)).2.1 (f % 256)).1 = (mN y).cls)))
    | _ => false
  | .new ci => match raw with
    | .new k => decide (len = 3) && decide (ci < 10) && aHit h (.classLink (mN y).cls k (aT ci).1)
    | _ => false
  | .anewarray ci => match raw with
    | .anewarray k => decide (len = 3) && decide (ci = 1) && aHit h (.classLink (mN y).cls k RX1)
    | _ => false
  | .multianewarray _ _ => match raw with
    | .multianewarray k 2 => decide (len = 4) && aHit h (.classLink (mN y).cls k "[[I")
    | _ => false
  | .invokevirtual z => match raw with
    | .invokevirtual k => decide (len = 3) && decide (z < 259) && decide (mK z = 0) && aHit h (.methodLink (mN y).cls k (mN z))
    | _ => false
  | .invokestatic z => match raw with
    | .invokestatic k => decide (len = 3) && decide (z < 259) && decide (mK z = 1) && aHit h (.methodLink (mN y).cls k (mN z))
    | _ => false
  | .invokespecial z => match raw with
    | .invokespecial k => decide (len = 3) && decide (z < 259) && decide (mK z = 2) && (match aGet h with
      | some (.methodLink a b n) => decide (a = (mN y).cls) && decide (b = k) && decide (n = mN z)
      | some (.methodLinkNest a b n o) => decide (a = (mN y).cls) && decide (b = k) && decide (n = mN z) && decide (o = "InkLake")
      | _ => false)
    | _ => false
  | .invokeinterface 0 _ => match raw with
    | .invokespecial k => decide (len = 3) && aHit h (.methodLink (mN y).cls k objectInit)
    | _ => false
  | .invokeinterface 1 _ => match raw with
    | .invokestatic k => decide (len = 3) && aHit h (.methodLink (mN y).cls k Lib.Math.max.name)
    | _ => false
  | .invokeinterface 2 _ => match raw with
    | .invokestatic k => decide (len = 3) && aHit h (.methodLink (mN y).cls k Lib.Math.min.name)
    | _ => false
  | .invokeinterface 3 _ => match raw with
    | .invokestatic k => decide (len = 3) && aHit h (.methodLink (mN y).cls k arraycopyName)
    | _ => false
  | .invokeinterface 4 _ => match raw with
    | .invokevirtual k => decide (len = 3) && aHit h (.methodLink (mN y).cls k yJ0_length_8abf5)
    | _ => false
  | .invokeinterface 5 _ => match raw with
    | .invokevirtual k => decide (len = 3) && aHit h (.methodLink (mN y).cls k yJ0_charAt_5068e)
    | _ => false
  | .invokeinterface 6 _ => decide (y = 259) && decide (raw = .arraylength) && decide (len = 1)
  | .saload => decide (y = 259) && decide (raw = .iaload) && decide (len = 1)
  | .iaload => decide (y ≠ 259) && decide (raw = .iaload) && decide (len = 1)
  | .newarray t => decide (raw = .newarray t) && decide (len = 2)
  | .return_ => decide (raw = .return_) && decide (len = 1) && decide (mR y = none)
  | .ireturn => decide (raw = .ireturn) && decide (len = 1) && decide (mR y = some .int ∨ mR y = some .boolean)
  | .lreturn => decide (raw = .lreturn) && decide (len = 1) && decide (mR y = some .long)
  | i => decide (raw = i) && decide (len = 1)
def aLk (y : Nat) (e : aEnt) : Bool := match decode (mB y) e.1 with
  | .error _ => false
  | .ok (raw, len) => decide (e.2.2.1 = e.1 + len) && aLkR y e.1 e.2.1 e.2.2.2 raw len
def aLkA (y : Nat) : Bool := (aCL y).all (aLk y)
/-- and for a method that is called -/
def aMok (y : Nat) : Bool := plainFor (mN y) && (match aGet (mH y).1 with
  | some (.code n _ ml rt) => decide (n = mN y) && decide (ml = mL y) && decide (rt = mR y)
  | _ => false) && aHit (mH y).2.2.2 (.initialized (mN y).cls) && decide ((parseMethodDescriptor (mN y).desc).map (fun d => d.parameters.length) = some (mP y)) && decide ((mN y).cls ≠ "java/lang/invoke/MethodHandle" ∧ (mN y).cls ≠ "java/lang/invoke/VarHandle") && decide (mL y ≤ 20) &&
  (match mK y with
  | 0 => aHit (mH y).2.1 (.instanceMethod (mN y)) && aHit (mH y).2.2.1 (.selects (mN y).cls (mN y) (mN y)) && decide (mC y < 10) && decide ((aT (mC y)).1 = (mN y).cls)
  | 1 => aHit (mH y).2.1 (.static (mN y))
  | 2 => aHit (mH y).2.1 (.instanceMethod (mN y)) && decide ((mN y).name = "<init>") && decide (mR y = none)
  | _ => false)
