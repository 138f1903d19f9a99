/-! FROM THE STATEMENT'S START to the abstract machine's: classes, arrays, WORDS (fin.py) -/
theorem S0_sz : S0.length = 236 ∧ aSz S0 ≤ 100000 := by decide +kernel
def WT : String := "lake has black holds brook gives village miles deed of needs worth by draws fades may dries reads drought season level dark ink age number term or and not all min max first last often total most least "
theorem f_ai {args : Array Value} {s : State} (h : (Cond.arrayClass .int).before args s = true) : ∃ cA : ClassId, ArrOfT s cA .int ∧ va_RA s cA .int := by
  obtain ⟨cA, kA, comp, h1, h2, h3⟩ := Cond.arrayClass_spec h
  exact ⟨cA, fun n z => ⟨fun k h => (by cases h), kA, h2, comp, h3⟩, h1⟩
theorem f_ac {args : Array Value} {s : State} (h : (Cond.arrayClass .char).before args s = true) : ∃ cA : ClassId, ArrOfT s cA .char ∧ va_RA s cA .char := by
  obtain ⟨cA, kA, comp, h1, h2, h3⟩ := Cond.arrayClass_spec h
  exact ⟨cA, fun n z => ⟨fun k h => (by cases h), kA, h2, comp, h3⟩, h1⟩
theorem f_al {args : Array Value} {s : State} (h : (Cond.arrayClass .long).before args s = true) : ∃ cA : ClassId, ArrOfT s cA .long ∧ va_RA s cA .long := by
  obtain ⟨cA, kA, comp, h1, h2, h3⟩ := Cond.arrayClass_spec h
  exact ⟨cA, fun n z => ⟨fun k h => (by cases h), kA, h2, comp, h3⟩, h1⟩
theorem f_ao {s : State} (h : va_AO RX1 s) : ∃ cA : ClassId, ArrOfT s cA (.object RX1) ∧ va_RA s cA (.object RX1) := by
  obtain ⟨comp, c, k, h1, h2, h3, h4, h5⟩ := Cond.arrayOver_spec h
  exact ⟨c, fun n z => ⟨fun k h => (by cases h), k, h3, comp, h4⟩, k, comp, h3, h4, h1, h5⟩
theorem f_aa {s : State} (h : va_AOA .int s) : ∃ cA : ClassId, ArrOfT s cA (.array .int) ∧ va_RA s cA (.array .int) := by
  unfold va_AOA Cond.before Cond.holds at h
  simp only [Cond.value, beq_iff_eq] at h
  cases hc : s.vm.findClass (FieldType.array .int).toString with
  | none => simp [hc] at h
  | some comp =>
    simp only [hc, Option.bind_some, Option.bind_eq_some_iff, Option.map_eq_some_iff] at h
    obtain ⟨c, hi, k, hk, hb⟩ := h
    cases hkind : k.kind with
    | array cm t2 =>
      rw [hkind] at hb
      simp only [Bool.and_eq_true, decide_eq_true_eq] at hb
      obtain ⟨rfl, hb2⟩ := hb
      exact ⟨c, fun n z => ⟨fun k h => (by cases h), k, hk, cm, hkind⟩, hb2⟩
    | _ => rw [hkind] at hb; simp at hb
theorem f_K {args : Array Value} {s : State} (hWS : ∀ w ∈ WS, w.before args s = true) (hao : va_AO RX1 s) (hao2 : va_AOA .int s) : ∃ (D : va_G) (tyc : FieldType → ClassId), va_K D vwCl (aTys tyc) s := by
  have h0 : ∀ ci : Nat, ∃ z : ClassId × (Nat → Nat), ci < 10 → u_Kn s (aT ci).1 (aT ci).2.1 (aT ci).2.2 z.1 z.2 := by
    intro ci
    by_cases h : ci < 10
    · obtain ⟨c, iS, k⟩ := u_known (ws := WS) hWS (aT_in h) (hWS _ (aT_inst h).1)
      exact ⟨(c, iS), fun _ => k⟩
    · exact ⟨(0, fun _ => 0), fun z => absurd z h⟩
  obtain ⟨D0, hD0⟩ := Classical.axiomOfChoice h0
  obtain ⟨c1, a1⟩ := f_ai (hWS _ wAi)
  obtain ⟨c2, a2⟩ := f_ac (hWS _ wAc)
  obtain ⟨c3, a3⟩ := f_al (hWS _ wAl)
  obtain ⟨c4, a4⟩ := f_ao hao
  obtain ⟨c5, a5⟩ := f_aa hao2
  refine ⟨(fun k => (D0 k).1, fun k => (D0 k).2), fun ty => (match ty with | .int => c1 | .char => c2 | .long => c3 | .object _ => c4 | _ => c5), fun ci q hq => ?_, fun k q hk => ?_⟩
  · have hci : ci < 10 := (List.getElem?_eq_some_iff.mp hq).1
    have e := (aT_cl hci).symm.trans hq
    simp only [Option.some.injEq] at e
    subst e
    exact hD0 ci hci
  · match k, hk with
    | 0, hk => cases hk; exact a1
    | 1, hk => cases hk; exact a2
    | 2, hk => cases hk; exact a3
    | 3, hk => cases hk; exact a4
    | 4, hk => cases hk; exact a5
    | k + 5, hk => cases hk
/-- what the Statement gives of the start, by places -/
def fTV : Term := .field (.string "InkLake$Marks" 49) "java/lang/String" "value" "[B"
theorem f_n4 : (flatC (Cond.and given_1 narrow_1))[4]? = some (Cond.eq (.static "java/lang/String" "COMPACT_STRINGS" "Z") (.int 1)) := by decide +kernel
theorem f_n5 : (flatC (Cond.and given_1 narrow_1))[5]? = some (Cond.isRef (.static "jdk/internal/util/Preconditions" "SIOOBE_FORMATTER" "Ljava/util/function/BiFunction;")) := by decide +kernel
theorem f_n9 : (flatC (Cond.and given_1 narrow_1))[9]? = some (Cond.exactly (.string "InkLake$Marks" 49) "java/lang/String") := by decide +kernel
theorem f_n10 : (flatC (Cond.and given_1 narrow_1))[10]? = some (Cond.eq (.field (.string "InkLake$Marks" 49) "java/lang/String" "coder" "B") (.int 0)) := by decide +kernel
theorem f_n11 : (flatC (Cond.and given_1 narrow_1))[11]? = some (Cond.arrayOf fTV .byte) := by decide +kernel
theorem f_n12 : (flatC (Cond.and given_1 narrow_1))[12]? = some (Cond.eq (.length fTV) (.int (Int32.ofNat WD.length))) := by decide +kernel
theorem f_nb : ∀ j : Nat, j < WD.length → (flatC (Cond.and given_1 narrow_1))[13 + j]? = some (Cond.eq (.elem fTV (.int (Int32.ofNat j))) (.int (WD.getD j 0))) := by decide +kernel
theorem WD_8 : ∀ b ∈ WD, 0 ≤ b ∧ b < 128 := by decide +kernel
theorem WD_len : WD.length < 2 ^ 31 := by decide +kernel
theorem f_str {args : Array Value} {s : State} {A : Nat → Prop} (hts : ∀ w ∈ lw_tbl, w.before args s = true) (hgv : (Jvm.Cond.and given_1 narrow_1).before args s = true) (hA : ∀ a : Nat, a < s.heap.size → ¬ A a) : ∃ a : Nat, aStr WD WT a A s := by
  have hs := flat_of_before _ hgv
  have n4 := hs _ (List.mem_of_getElem? f_n4)
  have n5 := hs _ (List.mem_of_getElem? f_n5)
  have n9 := hs _ (List.mem_of_getElem? f_n9)
  have n10 := hs _ (List.mem_of_getElem? f_n10)
  have n11 := hs _ (List.mem_of_getElem? f_n11)
  have n12 := hs _ (List.mem_of_getElem? f_n12)
  have e0 : ∀ i : Nat, i < 1 → i = 0 := fun i hi => by omega
  obtain ⟨adK, adV, hS, hev⟩ := vk_Sof (args := args) (s := s) (N := 1) (tm := fun _ => .string "InkLake$Marks" 49) (len := [WD.length]) (byt := [WD]) (A := A) (fun i hi => by rw [e0 i hi]; exact WD_len) (fun _ _ => n9) (fun _ _ => n10) (fun _ _ => n11) (fun i hi => by rw [e0 i hi]; exact n12) (fun i hi j hj => by rw [e0 i hi] at hj ⊢; exact hs _ (List.mem_of_getElem? (f_nb j hj))) (fun i j hi hj hn => absurd ((e0 i hi).trans (e0 j hj).symm) hn) hA
  have w1 : (Cond.stringRef RX2 49 WT).before args s = true := hts _ (aGet_in (h := 2193) (by decide +kernel))
  have w2 : (Cond.laysStatic "java/lang/String" "COMPACT_STRINGS" "Z").before args s = true := hts _ (aGet_in (h := 2203) (by decide +kernel))
  have w3 : (Cond.laysStatic "jdk/internal/util/Preconditions" "SIOOBE_FORMATTER" "Ljava/util/function/BiFunction;").before args s = true := hts _ (aGet_in (h := 2219) (by decide +kernel))
  have w4 : (Cond.initialized "java/lang/String").before args s = true := hts _ (aGet_in (h := 1011) (by decide +kernel))
  have w5 : (Cond.initialized "jdk/internal/util/Preconditions").before args s = true := hts _ (aGet_in (h := 1013) (by decide +kernel))
  exact ⟨adK 0, vk_R.of w1 (hev 0 (by decide)), ⟨adV, fun i hi => by rw [e0 i hi]; exact hS.1 0 (by decide), fun i j hi hj _ => (e0 i hi).trans (e0 j hj).symm⟩, va_Zof w2 w4 (va_eqt n4) hA, va_Zqof w3 w5 n5 hA⟩
