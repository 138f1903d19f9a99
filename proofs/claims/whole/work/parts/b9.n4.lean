/-! the reference's constructor, the whole; the class's, by the kernel (pb9b) -/
theorem ic_all {Q : Option Value → List aSh → aFI → aFL → aFR → Prop} {B : aFI} {L : aFL} {R : aFR} (k : Q none S0 (ig B icP61 icZ75) (aRow (aUp (aRow (aRow L 193 (fun _ => 0)) 204 (fun _ => 0)) 157 72 (lI 1)) 234 (fun _ => 0)) (rgm R icR78)) : gWp 150 129 0 [.ref 157] [] (S0.take 158) (ig B icP0 icZ0) L (rgm R icR0) Q := by
  refine ic_0 ?_
  refine ic_1 ?_
  refine ic_2 ?_
  refine ic_3 ?_
  refine ic_4 ?_
  refine ic_5 ?_
  refine ic_6 ?_
  refine ic_7 ?_
  refine ic_8 ?_
  refine ic_9 ?_
  refine ic_10 ?_
  refine ic_11 ?_
  refine ic_12 ?_
  refine ic_13 ?_
  refine ic_14 ?_
  refine ic_15 ?_
  refine ic_16 ?_
  refine ic_17 ?_
  refine ic_18 ?_
  refine ic_19 ?_
  refine ic_20 ?_
  refine ic_21 ?_
  refine ic_22 ?_
  refine ic_23 ?_
  refine ic_24 ?_
  refine ic_25 ?_
  refine ic_26 ?_
  refine ic_27 ?_
  refine ic_28 ?_
  refine ic_29 ?_
  refine ic_30 ?_
  refine ic_31 ?_
  refine ic_32 ?_
  refine ic_33 ?_
  refine ic_34 ?_
  refine ic_35 ?_
  refine ic_36 ?_
  refine ic_37 ?_
  refine ic_38 ?_
  refine ic_39 ?_
  refine ic_40 ?_
  refine ic_41 ?_
  refine ic_42 ?_
  refine ic_43 ?_
  refine ic_44 ?_
  refine ic_45 ?_
  refine ic_46 ?_
  refine ic_47 ?_
  refine ic_48 ?_
  refine ic_49 ?_
  refine ic_50 ?_
  refine ic_51 ?_
  refine ic_52 ?_
  refine ic_53 ?_
  refine ic_54 ?_
  refine ic_55 ?_
  refine ic_56 ?_
  refine ic_57 ?_
  refine ic_58 ?_
  refine ic_59 ?_
  refine ic_60 ?_
  refine ic_61 ?_
  refine ic_62 ?_
  refine ic_63 ?_
  refine ic_64 ?_
  refine ic_65 ?_
  refine ic_66 ?_
  refine ic_67 ?_
  refine ic_68 ?_
  refine ic_69 ?_
  refine ic_70 ?_
  refine ic_71 ?_
  refine ic_72 ?_
  refine ic_73 ?_
  refine ic_74 ?_
  refine ic_75 ?_
  refine ic_76 ?_
  refine ic_77 ?_
  refine ic_78 ?_
  refine ic_79 ?_
  refine ic_80 ?_
  refine ic_81 ?_
  refine ic_82 ?_
  have hS : S0.take 236 = S0 := by decide +kernel
  rw [hS]
  exact g_rv (show aCod 129 1821 = some (.return_, 1822) by decide +kernel) k
def mz : aM := ([], fun _ _ => 0, fun _ _ => 0, fun _ _ => none)
def mNw (M : aM) (ci : Nat) : aM := (M.1 ++ [(none, ci)], aRow M.2.1 M.1.length (fun _ => 0), aRow M.2.2.1 M.1.length (fun _ => 0), aRow M.2.2.2 M.1.length (fun _ => none))
def ini1 : Option (Option Value × aM) := aEv WD none 3000 150 75 0 (aEnt0 75 [.ref 0]) [] (mNw mz 8)
def on1 (f : aM → Bool) : Bool := match ini1 with
  | some (none, M) => f M
  | _ => false
def zr (I : aFI) (l : List (Nat × Nat)) : Bool := l.all (fun p => decide (I p.1 p.2 = 0))
def mr (I : aFI) (l : List (Nat × Nat)) : Bool := l.all (fun p => decide (I p.1 p.2 = iI (-1)))
def rw0 (I : aFI) (q n : Nat) : Bool := (List.range n).all (fun k => decide (I q k = 0))
def okC (I : aFI) : Bool := zr I [(8,0),(8,1),(8,2),(8,3),(8,14),(8,16),(9,0),(9,1),(9,2),(36,0),(36,1),(36,2),(36,3),(36,4),(42,1),(0,1),(44,1),(44,2),(0,13),(2,7)] && decide (I 8 15 = 1) && mr I [(20,0),(20,1),(20,2),(2,8),(0,14),(0,15)] && rw0 I 37 8 && rw0 I 38 8 && rw0 I 156 6
def bdR (q : Nat) : Nat := match S0[q]? with
  | some (none, _) => 110
  | some (some .int, _) => 0
  | some (some _, n) => n
  | none => 0
def okRc (R : aFR) : Bool := (List.range 157).all (fun q => (List.range (bdR q)).all (fun k => decide (R q k = aR 8 none q k)))
theorem ini1_S : on1 (fun M => decide (M.1 = S0.take 157)) = true := by decide +kernel
theorem ini1_I : on1 (fun M => okC M.2.1) = true := by decide +kernel
theorem ini1_L : on1 (fun M => decide (M.2.2.1 0 17 = lI 1)) = true := by decide +kernel
theorem ini1_R : on1 (fun M => okRc M.2.2.2) = true := by decide +kernel
