/-! answers: the class (pa4.py) -/
section AN
variable (W : Int → Int)
/-- first, last and often -/
def aTs : Nat → Int × Int × Int
  | 0 => (-1, -1, 0)
  | i + 1 => if W i = 0 then aTs i else (if (aTs i).2.2 = 0 then (i : Int) else (aTs i).1, (i : Int), (aTs i).2.2 + 1)
/-- total, most and least -/
def aSs : Nat → Int × Int × Int
  | 0 => (0, 0, 0)
  | i + 1 => ((aSs i).1 + W i, if i = 0 then W i else max (aSs i).2.1 (W i), if i = 0 then W i else min (aSs i).2.2 (W i))
def aNow (k : Int) (i : Nat) : Int := if k = 332 then (aTs W i).1 else if k = 333 then (aTs W i).2.1 else if k = 334 then (aTs W i).2.2 else if k = 335 then (aSs W i).1 else if k = 336 then (aSs W i).2.1 else (aSs W i).2.2
variable {W}
theorem aTs_on {i : Nat} : aTs W (i + 1) = if W i = 0 then aTs W i else (if (aTs W i).2.2 = 0 then (i : Int) else (aTs W i).1, (i : Int), (aTs W i).2.2 + 1) := rfl
theorem aSs_on {i : Nat} : aSs W (i + 1) = ((aSs W i).1 + W i, if i = 0 then W i else max (aSs W i).2.1 (W i), if i = 0 then W i else min (aSs W i).2.2 (W i)) := rfl
theorem aTs_b (i : Nat) : (-1 ≤ (aTs W i).1 ∧ (aTs W i).1 < i ∨ (aTs W i).1 = -1) ∧ (-1 ≤ (aTs W i).2.1 ∧ (aTs W i).2.1 ≤ i) ∧ (0 ≤ (aTs W i).2.2 ∧ (aTs W i).2.2 ≤ i) ∧ ((aTs W i).2.2 = 0 ↔ (aTs W i).1 = -1) := by
  induction i with
  | zero =>
    show ((-1 : Int) ≤ -1 ∧ (-1 : Int) < ((0 : Nat) : Int) ∨ (-1 : Int) = -1) ∧ ((-1 : Int) ≤ -1 ∧ (-1 : Int) ≤ ((0 : Nat) : Int)) ∧ ((0 : Int) ≤ 0 ∧ (0 : Int) ≤ ((0 : Nat) : Int)) ∧ ((0 : Int) = 0 ↔ (-1 : Int) = -1)
    omega
  | succ i ih =>
    rw [aTs_on]
    by_cases h : W i = 0
    · rw [if_pos h]; omega
    · rw [if_neg h]
      show ((-1 : Int) ≤ (if (aTs W i).2.2 = 0 then (i : Int) else (aTs W i).1) ∧ (if (aTs W i).2.2 = 0 then (i : Int) else (aTs W i).1) < ((i + 1 : Nat) : Int) ∨ (if (aTs W i).2.2 = 0 then (i : Int) else (aTs W i).1) = -1) ∧ (-1 ≤ (i : Int) ∧ (i : Int) ≤ ((i + 1 : Nat) : Int)) ∧ (0 ≤ (aTs W i).2.2 + 1 ∧ (aTs W i).2.2 + 1 ≤ ((i + 1 : Nat) : Int)) ∧ ((aTs W i).2.2 + 1 = 0 ↔ (if (aTs W i).2.2 = 0 then (i : Int) else (aTs W i).1) = -1)
      by_cases h2 : (aTs W i).2.2 = 0
      · rw [if_pos h2]; omega
      · rw [if_neg h2]; omega
theorem aSs_b {n : Nat} (hW : ∀ i : Nat, i < n → -1000000 ≤ W i ∧ W i ≤ 1000000) : ∀ i : Nat, i ≤ n → (-1000000 ≤ (aSs W i).2.1 ∧ (aSs W i).2.1 ≤ 1000000) ∧ (-1000000 ≤ (aSs W i).2.2 ∧ (aSs W i).2.2 ≤ 1000000) := by
  intro i
  induction i with
  | zero =>
    intro _
    show ((-1000000 : Int) ≤ 0 ∧ (0 : Int) ≤ 1000000) ∧ ((-1000000 : Int) ≤ 0 ∧ (0 : Int) ≤ 1000000)
    omega
  | succ i ih =>
    intro hi
    have h1 := ih (by omega)
    have h2 := hW i (by omega)
    rw [aSs_on]
    show ((-1000000 : Int) ≤ (if i = 0 then W i else max (aSs W i).2.1 (W i)) ∧ (if i = 0 then W i else max (aSs W i).2.1 (W i)) ≤ 1000000) ∧ ((-1000000 : Int) ≤ (if i = 0 then W i else min (aSs W i).2.2 (W i)) ∧ (if i = 0 then W i else min (aSs W i).2.2 (W i)) ≤ 1000000)
    by_cases h : i = 0
    · rw [if_pos h, if_pos h]; omega
    · rw [if_neg h, if_neg h]; omega
end AN
section AK
variable (D : Nat → Int → Int) (cd : Nat → Option (List Int)) (X : Lk) (l : List Int)
def askW (i : Int) : Int := valC (envZ D X.1 X.2.1 X.2.2.1 X.2.2.2.2.1 X.2.2.2.2.2 i (drwZ D cd X i)) (D 6 i) l
variable {D cd X l}
theorem askE (hS : wfS D cd) (hX : lkOK X) {de : Int} (hde : 0 ≤ de ∧ de < D 1 2) : eOK (envZ D X.1 X.2.1 X.2.2.1 X.2.2.2.2.1 X.2.2.2.2.2 de (drwZ D cd X de)) := by
  have hn := hS.n
  have hx := hX.2.2.2.2 de hde.1 (by omega)
  exact envZ_ok hS hde.1 hde.2 hX.1 hX.2.1 hx.1 hx.2 (drwZ_rg hS hde)
theorem askW_b (hS : wfS D cd) (hX : lkOK X) {t : Bool} (ht : tyC l [] [t]) {de : Int} (hde : 0 ≤ de ∧ de < D 1 2) : vOK t (askW D cd X l de) := (valC_ok (askE hS hX hde) ht).1
end AK
abbrev PAs : Nat → Nat → Prop := fun q k => q = 43 ∨ (q = 42 ∧ k = 1)
/-- what asking needs of the memory -/
def askR (I : aFI) (sh : Nat) (D : Nat → Int → Int) (cd : Nat → Option (List Int)) (X : Lk) (kc : Int) (l : List Int) : Prop :=
  cW I sh D cd ∧ lkX I 36 kc X ∧ (-1000000 ≤ (I 42 1).toInt ∧ (I 42 1).toInt ≤ 1000000) ∧ I 112 3 = iI 0 ∧ I 113 3 = iI (l.length : Int) ∧ codeAt I 110 0 l
theorem askR.fr {I I2 : aFI} {sh : Nat} {D : Nat → Int → Int} {cd : Nat → Option (List Int)} {X : Lk} {kc : Int} {l : List Int} (hsh : sh = 8 ∨ sh = 22) (h : askR I sh D cd X kc l) (hF : frG PAs I I2) (h4 : -1000000 ≤ (I2 42 1).toInt ∧ (I2 42 1).toInt ≤ 1000000) : askR I2 sh D cd X kc l :=
  ⟨h.1.fr (fun p k a b => hF p k (by omega)), h.2.1.fr (fun p k a b => hF p k (by omega)), h4, (hF 112 3 (by omega)).trans h.2.2.2.1, (hF 113 3 (by omega)).trans h.2.2.2.2.1, h.2.2.2.2.2.fr (fun k => hF 111 k (by omega))⟩
set_option maxHeartbeats 1000000 in
theorem tc_reckonAsked {d : Nat} {I : aFI} {L : aFL} {Q : aPo} {sh : Nat} {su : Option Nat} {D : Nat → Int → Int} {cd : Nat → Option (List Int)} {X : Lk} {kc : Int} {l : List Int} {t : Bool} (hsh : sh = 8 ∨ sh = 22) (hS : wfS D cd) (hX : lkOK X) (hR : askR I sh D cd X kc l) (hl : l.length ≤ 1600) (ht : tyC l [] [t]) {de : Int} (hde : 0 ≤ de ∧ de < D 1 2) (hd : 6 ≤ d) (k : ∀ I2 : aFI, askR I2 sh D cd X kc l → frG PAs I I2 → Q (some (.int (iI (askW D cd X l de)))) I2 L (aR sh su)) : aWp none d 121 0 [.ref 0, .int (iI de)] [] I L (aR sh su) Q := by
  have hn := hS.n
  have hv := hS.de hde.1 hde.2
  have hE := askE hS hX hde
  have hdw := drwZ_rg (cd := cd) (X := X) hS hde
  refine w_aload c_121_0 rfl ?_
  refine w_getR c_121_1 sp_0 (by decide) rfl pr_0_7 ?_
  refine w_aload c_121_4 rfl ?_
  refine w_getR c_121_5 sp_0 (by decide) rfl pr_0_7 ?_
  refine w_aload c_121_8 rfl ?_
  refine w_getR c_121_9 sp_0 (by decide) rfl pr_0_5 ?_
  refine w_iload c_121_12 rfl ?_
  refine wc_48 c_121_13 sp_42 (Nat.le_of_ble_eq_true rfl) (by omega) ?_
  refine tc_drawnBy hsh (Or.inl rfl) hS hR.1 hR.2.1 hX hde hR.2.2.1 (by omega) (fun I1 hf1 => ?_)
  refine r_i ?_
  refine z_putZ c_121_16 sp_42 (by decide) rfl ?_
  generalize e2 : aUp I1 42 1 (iI (drwZ D cd X de)) = I2
  have hF2 : frG PAs I I2 := fun q k hq => by rw [← e2, up_ne (by omega)]; exact hf1 q k (by show ¬ q = 43; omega)
  have h42 : I2 42 1 = iI (drwZ D cd X de) := by rw [← e2]; exact up_eq
  have h42r : -1000000 ≤ (I2 42 1).toInt ∧ (I2 42 1).toInt ≤ 1000000 := by rw [h42, iI_toInt (by unfold aRg; omega)]; omega
  have hR2 := hR.fr hsh hF2 h42r
  refine w_aload c_121_19 rfl ?_
  refine w_getR c_121_20 sp_0 (by decide) rfl pr_0_7 ?_
  refine w_aload c_121_23 rfl ?_
  refine w_getR c_121_24 sp_0 (by decide) rfl pr_0_10 ?_
  refine z_push c_121_27 ?_
  refine w_aload c_121_28 rfl ?_
  refine w_getR c_121_29 sp_0 (by decide) rfl pr_0_5 ?_
  refine w_iload c_121_32 rfl ?_
  refine wc_55 c_121_33 sp_42 (Nat.le_of_ble_eq_true rfl) (by omega) ?_
  refine tc_reckon (q := 36) (s := 110) (r := 3) (fr := 0) (to := (l.length : Int)) (l := l) (t := t) hsh (Or.inl rfl) (Or.inr (Or.inr rfl)) (hR2.1.1) hR2.2.1 h42 (by omega) ⟨hde.1, by omega⟩ ⟨hv.1.1, by omega⟩ (by have := hX.2.1; omega) (by have := hX.2.2.1; omega) hE (by decide) hR2.2.2.2.2.1 ⟨by omega, by omega, by omega⟩ hR2.2.2.2.1 hR2.2.2.2.2.2 ht (fun I3 hF3 => ?_)
  refine r_i ?_
  refine z_ret c_121_36 rfl ?_
  refine k I3 (hR2.fr hsh (fun q k hq => hF3 q k (by omega)) ?_) (fun q k hq => (hF3 q k (by omega)).trans (hF2 q k hq))
  rw [hF3 42 1 (by decide)]; exact h42r

set_option maxHeartbeats 1000000 in
theorem tc_answerTest_1 {d : Nat} {I0 : aFI} {L : aFL} {Q : aPo} {sh : Nat} {su : Option Nat} {D : Nat → Int → Int} {cd : Nat → Option (List Int)} {X : Lk} {kc : Int} {l : List Int} {t : Bool} (hsh : sh = 8 ∨ sh = 22) (hS : wfS D cd) (hX : lkOK X) (hl : l.length ≤ 1600) (ht : tyC l [] [t]) {ak : Int} (ha : 332 ≤ ak ∧ ak ≤ 334) (hd : 7 ≤ d) (k : ∀ I2 : aFI, askR I2 sh D cd X kc l → frG PAs I0 I2 → Q (some (.long (lI (aNow (askW D cd X l) ak (D 1 2).toNat)))) I2 L (aR sh su)) : ∀ (n : Nat) (i : Nat) (I : aFI), (D 1 2).toNat - i < n → (i ≤ (D 1 2).toNat) → (askR I sh D cd X kc l) → (frG PAs I0 I) → aWp none d 122 10 [.ref 0, .int (iI ak), .int (iI (aTs (askW D cd X l) i).1), .int (iI (aTs (askW D cd X l) i).2.1), .int (iI (aTs (askW D cd X l) i).2.2), .int (iI (i : Int))] [] I L (aR sh su) Q := by
  intro n
  induction n with
  | zero => intro i I h; omega
  | succ n ih =>
    intro i I hn0 hi hR hF
    have hn := hS.n
    have hwn := hR.1.1.2.2 1 2 (by decide) (by decide) (by decide)
    have hb := aTs_b (W := askW D cd X l) i
    refine w_iload c_122_10 rfl ?_
    refine w_aload c_122_12 rfl ?_
    refine w_getR c_122_13 sp_0 (by decide) rfl pr_0_3 ?_
    refine w_getR c_122_16 (sps_0 hsh) (by decide) rfl (prs_4 hsh) ?_
    refine z_push c_122_19 ?_
    refine z_iaload c_122_20 (sps_1 hsh) (by omega) (by first | decide | omega) hwn ?_
    refine z_ic_ge c_122_21 (by first | exact aRg_of _ | (unfold aRg; omega)) (by first | exact aRg_of _ | (unfold aRg; omega)) (fun h1_ => ?_) (fun h1_ => ?_)
    · refine w_iload c_122_57 rfl ?_
      rcases (show (ak = 332) ∨ (ak = 333) ∨ (¬ ak = 332 ∧ ¬ ak = 333) by omega) with h2_ | h2_ | h2_
      · refine z_lsw c_122_58 (by first | exact aRg_of _ | (unfold aRg; omega)) (pc2 := 84) (by rcases h2_ with rfl <;> rfl) ?_
        refine w_iload c_122_84 rfl ?_
        refine z_i2l c_122_85 (by first | exact aRg_of _ | (unfold aRg; omega)) ?_
        refine z_retl c_122_86 ?_
        have ei : i = (D 1 2).toNat := by omega
        have q := k I hR hF
        rw [← ei] at q
        unfold aNow at q
        rw [if_pos h2_] at q
        exact q
      · refine z_lsw c_122_58 (by first | exact aRg_of _ | (unfold aRg; omega)) (pc2 := 87) (by rcases h2_ with rfl <;> rfl) ?_
        refine w_iload c_122_87 rfl ?_
        refine z_i2l c_122_88 (by first | exact aRg_of _ | (unfold aRg; omega)) ?_
        refine z_retl c_122_89 ?_
        have ei : i = (D 1 2).toNat := by omega
        have q := k I hR hF
        rw [← ei] at q
        unfold aNow at q
        rw [if_neg (by omega), if_pos h2_] at q
        exact q
      · refine z_lsw c_122_58 (by first | exact aRg_of _ | (unfold aRg; omega)) (pc2 := 90) (by simp only [aLks]; repeat (first | rw [if_neg (by omega)] | rfl)) ?_
        refine w_iload c_122_90 rfl ?_
        refine z_i2l c_122_92 (by first | exact aRg_of _ | (unfold aRg; omega)) ?_
        refine z_retl c_122_93 ?_
        have ei : i = (D 1 2).toNat := by omega
        have q := k I hR hF
        rw [← ei] at q
        unfold aNow at q
        rw [if_neg (by omega), if_neg (by omega), if_pos (by omega)] at q
        exact q
    · refine w_aload c_122_24 rfl ?_
      refine w_iload c_122_25 rfl ?_
      refine wc_121 c_122_27 sp_0 (Nat.le_of_ble_eq_true rfl) (by omega) ?_
      refine tc_reckonAsked hsh hS hX hR hl ht (de := (i : Int)) ⟨by omega, by omega⟩ (by omega) (fun I2 hR2 hF2 => ?_)
      have hwb := askW_b hS hX ht (de := (i : Int)) ⟨by omega, by omega⟩
      have hwr := hwb.2
      refine r_i ?_
      refine z_if_eq c_122_30 (by first | exact aRg_of _ | (unfold aRg; omega)) (fun h3_ => ?_) (fun h3_ => ?_)
      · refine z_iinc c_122_51 rfl rfl ?_
        refine w_goto c_122_54 ?_
        have h := ih (i + 1) I2 (by omega) (by omega) hR2 (fun q k hq => (hF2 q k hq).trans (hF q k hq))
        rw [aTs_on, if_pos h3_, show ((i + 1 : Nat) : Int) = (i : Int) + 1 from by omega] at h
        exact h
      · refine w_iload c_122_33 rfl ?_
        refine z_if_ne c_122_35 (by first | exact aRg_of _ | (unfold aRg; omega)) (fun h4_ => ?_) (fun h4_ => ?_)
        · refine w_iload c_122_43 rfl ?_
          refine w_istore c_122_44 (Nat.le_of_ble_eq_true rfl) rfl ?_
          refine w_iload c_122_45 rfl ?_
          refine w_istore c_122_47 (Nat.le_of_ble_eq_true rfl) rfl ?_
          refine z_iinc c_122_48 rfl rfl ?_
          refine z_iinc c_122_51 rfl rfl ?_
          refine w_goto c_122_54 ?_
          have h := ih (i + 1) I2 (by omega) (by omega) hR2 (fun q k hq => (hF2 q k hq).trans (hF q k hq))
          rw [aTs_on, if_neg h3_, if_neg h4_, show ((i + 1 : Nat) : Int) = (i : Int) + 1 from by omega] at h
          exact h
        · refine w_iload c_122_38 rfl ?_
          refine w_goto c_122_40 ?_
          refine w_istore c_122_44 (Nat.le_of_ble_eq_true rfl) rfl ?_
          refine w_iload c_122_45 rfl ?_
          refine w_istore c_122_47 (Nat.le_of_ble_eq_true rfl) rfl ?_
          refine z_iinc c_122_48 rfl rfl ?_
          refine z_iinc c_122_51 rfl rfl ?_
          refine w_goto c_122_54 ?_
          have h := ih (i + 1) I2 (by omega) (by omega) hR2 (fun q k hq => (hF2 q k hq).trans (hF q k hq))
          rw [aTs_on, if_neg h3_, if_pos (by omega), show ((i + 1 : Nat) : Int) = (i : Int) + 1 from by omega] at h
          exact h

set_option maxHeartbeats 1000000 in
theorem tc_answerTest {d : Nat} {I : aFI} {L : aFL} {Q : aPo} {sh : Nat} {su : Option Nat} {D : Nat → Int → Int} {cd : Nat → Option (List Int)} {X : Lk} {kc : Int} {l : List Int} {t : Bool} (hsh : sh = 8 ∨ sh = 22) (hS : wfS D cd) (hX : lkOK X) (hR : askR I sh D cd X kc l) (hl : l.length ≤ 1600) (ht : tyC l [] [t]) {ak : Int} (ha : 332 ≤ ak ∧ ak ≤ 334) (hd : 7 ≤ d) (k : ∀ I2 : aFI, askR I2 sh D cd X kc l → frG PAs I I2 → Q (some (.long (lI (aNow (askW D cd X l) ak (D 1 2).toNat)))) I2 L (aR sh su)) : aWp none d 122 0 [.ref 0, .int (iI ak), .null, .null, .null, .null] [] I L (aR sh su) Q := by
  refine z_push c_122_0 ?_
  refine w_istore c_122_1 (Nat.le_of_ble_eq_true rfl) rfl ?_
  refine z_push c_122_2 ?_
  refine w_istore c_122_3 (Nat.le_of_ble_eq_true rfl) rfl ?_
  refine z_push c_122_4 ?_
  refine w_istore c_122_5 (Nat.le_of_ble_eq_true rfl) rfl ?_
  refine z_push c_122_7 ?_
  refine w_istore c_122_8 (Nat.le_of_ble_eq_true rfl) rfl ?_
  have h := tc_answerTest_1 (I0 := I) (kc := kc) hsh hS hX hl ht ha hd k ((D 1 2).toNat + 1) 0 I (by omega) (by omega) hR frG.rf
  exact h

set_option maxHeartbeats 1000000 in
theorem tc_answerSum_1 {d : Nat} {I0 : aFI} {L : aFL} {Q : aPo} {sh : Nat} {su : Option Nat} {D : Nat → Int → Int} {cd : Nat → Option (List Int)} {X : Lk} {kc : Int} {l : List Int} {t : Bool} (hsh : sh = 8 ∨ sh = 22) (hS : wfS D cd) (hX : lkOK X) (hl : l.length ≤ 1600) (ht : tyC l [] [t]) {ak : Int} (ha : 335 ≤ ak ∧ ak ≤ 337) (hd : 7 ≤ d) (k : ∀ I2 : aFI, askR I2 sh D cd X kc l → frG PAs I0 I2 → Q (some (.long (lI (aNow (askW D cd X l) ak (D 1 2).toNat)))) I2 L (aR sh su)) : ∀ (n : Nat) (i : Nat) (I : aFI) (V7 : Value), (D 1 2).toNat - i < n → (i ≤ (D 1 2).toNat) → (askR I sh D cd X kc l) → (frG PAs I0 I) → aWp none d 123 11 [.ref 0, .int (iI ak), .long (lI (aSs (askW D cd X l) i).1), .null, .int (iI (aSs (askW D cd X l) i).2.1), .int (iI (aSs (askW D cd X l) i).2.2), .int (iI (i : Int)), V7] [] I L (aR sh su) Q := by
  intro n
  induction n with
  | zero => intro i I V7 h; omega
  | succ n ih =>
    intro i I V7 hn0 hi hR hF
    have hn := hS.n
    have hwn := hR.1.1.2.2 1 2 (by decide) (by decide) (by decide)
    have hb := aSs_b (W := askW D cd X l) (n := (D 1 2).toNat) (fun j hj => (askW_b hS hX ht (de := (j : Int)) ⟨by omega, by omega⟩).2) i hi
    refine w_iload c_123_11 rfl ?_
    refine w_aload c_123_13 rfl ?_
    refine w_getR c_123_14 sp_0 (by decide) rfl pr_0_3 ?_
    refine w_getR c_123_17 (sps_0 hsh) (by decide) rfl (prs_4 hsh) ?_
    refine z_push c_123_20 ?_
    refine z_iaload c_123_21 (sps_1 hsh) (by omega) (by first | decide | omega) hwn ?_
    refine z_ic_ge c_123_22 (by first | exact aRg_of _ | (unfold aRg; omega)) (by first | exact aRg_of _ | (unfold aRg; omega)) (fun h1_ => ?_) (fun h1_ => ?_)
    · refine w_iload c_123_83 rfl ?_
      rcases (show (ak = 335) ∨ (ak = 336) ∨ (¬ ak = 335 ∧ ¬ ak = 336) by omega) with h2_ | h2_ | h2_
      · refine z_lsw c_123_84 (by first | exact aRg_of _ | (unfold aRg; omega)) (pc2 := 112) (by rcases h2_ with rfl <;> rfl) ?_
        refine w_lload c_123_112 rfl ?_
        refine z_retl c_123_113 ?_
        have ei : i = (D 1 2).toNat := by omega
        have q := k I hR hF
        rw [← ei] at q
        unfold aNow at q
        rw [if_neg (by omega), if_neg (by omega), if_neg (by omega), if_pos (by omega)] at q
        exact q
      · refine z_lsw c_123_84 (by first | exact aRg_of _ | (unfold aRg; omega)) (pc2 := 114) (by rcases h2_ with rfl <;> rfl) ?_
        refine w_iload c_123_114 rfl ?_
        refine z_i2l c_123_116 (by first | exact aRg_of _ | (unfold aRg; omega)) ?_
        refine z_retl c_123_117 ?_
        have ei : i = (D 1 2).toNat := by omega
        have q := k I hR hF
        rw [← ei] at q
        unfold aNow at q
        rw [if_neg (by omega), if_neg (by omega), if_neg (by omega), if_neg (by omega), if_pos (by omega)] at q
        exact q
      · refine z_lsw c_123_84 (by first | exact aRg_of _ | (unfold aRg; omega)) (pc2 := 118) (by simp only [aLks]; repeat (first | rw [if_neg (by omega)] | rfl)) ?_
        refine w_iload c_123_118 rfl ?_
        refine z_i2l c_123_120 (by first | exact aRg_of _ | (unfold aRg; omega)) ?_
        refine z_retl c_123_121 ?_
        have ei : i = (D 1 2).toNat := by omega
        have q := k I hR hF
        rw [← ei] at q
        unfold aNow at q
        rw [if_neg (by omega), if_neg (by omega), if_neg (by omega), if_neg (by omega), if_neg (by omega)] at q
        exact q
    · refine w_aload c_123_25 rfl ?_
      refine w_iload c_123_26 rfl ?_
      refine wc_121 c_123_28 sp_0 (Nat.le_of_ble_eq_true rfl) (by omega) ?_
      refine tc_reckonAsked hsh hS hX hR hl ht (de := (i : Int)) ⟨by omega, by omega⟩ (by omega) (fun I2 hR2 hF2 => ?_)
      have hwb := askW_b hS hX ht (de := (i : Int)) ⟨by omega, by omega⟩
      have hwr := hwb.2
      refine r_i ?_
      refine w_istore c_123_31 (Nat.le_of_ble_eq_true rfl) rfl ?_
      refine w_lload c_123_33 rfl ?_
      refine w_iload c_123_34 rfl ?_
      refine z_i2l c_123_36 (by first | exact aRg_of _ | (unfold aRg; omega)) ?_
      refine z_ladd c_123_37 ?_
      refine w_lstore c_123_38 (Nat.le_of_ble_eq_true rfl) rfl ?_
      refine w_iload c_123_39 rfl ?_
      refine z_if_ne c_123_41 (by first | exact aRg_of _ | (unfold aRg; omega)) (fun h3_ => ?_) (fun h3_ => ?_)
      · refine w_iload c_123_49 rfl ?_
        refine w_iload c_123_51 rfl ?_
        refine z_mmax c_123_53 (by omega) (Nat.le_of_ble_eq_true rfl) (by first | exact aRg_of _ | (unfold aRg; omega)) (by first | exact aRg_of _ | (unfold aRg; omega)) ?_
        refine w_istore c_123_56 (Nat.le_of_ble_eq_true rfl) rfl ?_
        refine w_iload c_123_58 rfl ?_
        refine z_if_ne c_123_60 (by first | exact aRg_of _ | (unfold aRg; omega)) (fun h4_ => ?_) (fun h4_ => ?_)
        · refine w_iload c_123_68 rfl ?_
          refine w_iload c_123_70 rfl ?_
          refine z_mmin c_123_72 (by omega) (Nat.le_of_ble_eq_true rfl) (by first | exact aRg_of _ | (unfold aRg; omega)) (by first | exact aRg_of _ | (unfold aRg; omega)) ?_
          refine w_istore c_123_75 (Nat.le_of_ble_eq_true rfl) rfl ?_
          refine z_iinc c_123_77 rfl rfl ?_
          refine w_goto c_123_80 ?_
          have h := ih (i + 1) I2 (.int (iI (askW D cd X l (i : Int)))) (by omega) (by omega) hR2 (fun q k hq => (hF2 q k hq).trans (hF q k hq))
          rw [aSs_on, if_neg (by omega), if_neg (by omega), show ((i + 1 : Nat) : Int) = (i : Int) + 1 from by omega] at h
          exact h
        · refine w_iload c_123_63 rfl ?_
          refine w_goto c_123_65 ?_
          refine w_istore c_123_75 (Nat.le_of_ble_eq_true rfl) rfl ?_
          refine z_iinc c_123_77 rfl rfl ?_
          refine w_goto c_123_80 ?_
          exfalso; omega
      · refine w_iload c_123_44 rfl ?_
        refine w_goto c_123_46 ?_
        refine w_istore c_123_56 (Nat.le_of_ble_eq_true rfl) rfl ?_
        refine w_iload c_123_58 rfl ?_
        refine z_if_ne c_123_60 (by first | exact aRg_of _ | (unfold aRg; omega)) (fun h5_ => ?_) (fun h5_ => ?_)
        · refine w_iload c_123_68 rfl ?_
          refine w_iload c_123_70 rfl ?_
          refine z_mmin c_123_72 (by omega) (Nat.le_of_ble_eq_true rfl) (by first | exact aRg_of _ | (unfold aRg; omega)) (by first | exact aRg_of _ | (unfold aRg; omega)) ?_
          refine w_istore c_123_75 (Nat.le_of_ble_eq_true rfl) rfl ?_
          refine z_iinc c_123_77 rfl rfl ?_
          refine w_goto c_123_80 ?_
          exfalso; omega
        · refine w_iload c_123_63 rfl ?_
          refine w_goto c_123_65 ?_
          refine w_istore c_123_75 (Nat.le_of_ble_eq_true rfl) rfl ?_
          refine z_iinc c_123_77 rfl rfl ?_
          refine w_goto c_123_80 ?_
          have h := ih (i + 1) I2 (.int (iI (askW D cd X l (i : Int)))) (by omega) (by omega) hR2 (fun q k hq => (hF2 q k hq).trans (hF q k hq))
          rw [aSs_on, if_pos (by omega), if_pos (by omega), show ((i + 1 : Nat) : Int) = (i : Int) + 1 from by omega] at h
          exact h

set_option maxHeartbeats 1000000 in
theorem tc_answerSum {d : Nat} {I : aFI} {L : aFL} {Q : aPo} {sh : Nat} {su : Option Nat} {D : Nat → Int → Int} {cd : Nat → Option (List Int)} {X : Lk} {kc : Int} {l : List Int} {t : Bool} (hsh : sh = 8 ∨ sh = 22) (hS : wfS D cd) (hX : lkOK X) (hR : askR I sh D cd X kc l) (hl : l.length ≤ 1600) (ht : tyC l [] [t]) {ak : Int} (ha : 335 ≤ ak ∧ ak ≤ 337) (hd : 7 ≤ d) (k : ∀ I2 : aFI, askR I2 sh D cd X kc l → frG PAs I I2 → Q (some (.long (lI (aNow (askW D cd X l) ak (D 1 2).toNat)))) I2 L (aR sh su)) : aWp none d 123 0 [.ref 0, .int (iI ak), .null, .null, .null, .null, .null, .null] [] I L (aR sh su) Q := by
  refine z_pushl c_123_0 ?_
  refine w_lstore c_123_1 (Nat.le_of_ble_eq_true rfl) rfl ?_
  refine z_push c_123_2 ?_
  refine w_istore c_123_3 (Nat.le_of_ble_eq_true rfl) rfl ?_
  refine z_push c_123_5 ?_
  refine w_istore c_123_6 (Nat.le_of_ble_eq_true rfl) rfl ?_
  refine z_push c_123_8 ?_
  refine w_istore c_123_9 (Nat.le_of_ble_eq_true rfl) rfl ?_
  have h := tc_answerSum_1 (I0 := I) (kc := kc) hsh hS hX hl ht ha hd k ((D 1 2).toNat + 1) 0 I .null (by omega) (by omega) hR frG.rf
  exact h

theorem oS_code {I : aFI} {s : Nat} {S : Rs} (hs : aSm s) : ∀ (l : List Int) (f : Int), 0 ≤ f → cAt S.C f l → codeAt (oS I s S) s f l := by
  intro l
  induction l with
  | nil => intro f _ _; trivial
  | cons m r ih =>
    intro f h0 h1
    refine ⟨?_, ih (f + 1) (by omega) h1.2⟩
    have e : oS I s S (s + 1) f.toNat = iI (S.C ((f.toNat : Nat) : Int)) := by
      unfold oS oR oU
      have q2 : ¬ s + 1 = 2 := by rcases hs with rfl | rfl | rfl <;> decide
      rw [if_neg (fun z => q2 z.1), if_neg (fun z => q2 z.1), if_neg (fun z => q2 z.1), if_neg (fun z => q2 z.1), if_neg (by omega), if_pos rfl]
    rw [e, Int.toNat_of_nonneg h0, h1.1]
theorem quC_0 {T : Int → Int} {n : Int} (h : (quC T n).1 = 0) : 332 ≤ tkK T n 0 ∧ tkK T n 0 ≤ 337 := by
  by_cases hr : 332 ≤ tkK T n 0 ∧ tkK T n 0 ≤ 337
  · exact hr
  · exfalso
    have e : quC1 T n = (1, tkP T n 0, 0) := if_neg hr
    unfold quC qEnd at h
    rw [e, if_neg (fun z => absurd (show (1 : Int) = 0 from z.1) (by decide))] at h
    exact absurd (show (1 : Int) = 0 from h) (by decide)
abbrev PAk : Nat → Nat → Prop := fun q k => (q = 0 ∧ k = 1) ∨ PMk q k ∨ (q = 2 ∧ 4 ≤ k ∧ k ≤ 8) ∨ (110 ≤ q ∧ q ≤ 113) ∨ q = 43 ∨ (q = 42 ∧ k = 1)
set_option maxHeartbeats 1000000 in
theorem tc_ask {d : Nat} {I : aFI} {L : aFL} {Q : aPo} {sh : Nat} {su : Option Nat} {D : Nat → Int → Int} {cd : Nat → Option (List Int)} {X : Lk} {kc : Int} {T : Int → Int} {n : Int} {E : Nat} (hsh : sh = 8 ∨ sh = 22) (hn1 : I 0 1 = iI n) (hn : 0 ≤ n ∧ n ≤ 1600) (hT : ∀ j : Int, 0 ≤ j → j < 1600 → I 1 j.toNat = iI (T j)) (hTr : ∀ j : Int, 0 ≤ T j ∧ T j < 256) (hE : ∀ j : Nat, tkK T n j = 341 ↔ E ≤ j) (hEn : (E : Int) ≤ n) (hDt : I sh 0 = aBo (decide (D 0 0 = 1))) (hw : D 0 0 = 1 → wfS D cd ∧ cW I sh D cd ∧ lkX I 36 kc X ∧ lkOK X ∧ (-1000000 ≤ (I 42 1).toInt ∧ (I 42 1).toInt ≤ 1000000)) (hd : 84 ≤ d) (k0 : ¬ D 0 0 = 1 → Q (some (.long (lI (-1000000000000000)))) (aUp I 0 1 (iI 0)) L (aR sh su)) (k1 : D 0 0 = 1 → ¬ (quC T n).1 = 0 → ∀ I2 : aFI, I2 2 7 = iI (quC T n).1 → I2 2 8 = iI (quC T n).2.1 → I2 0 1 = iI 0 → frG PAk I I2 → (-1000000 ≤ (I2 42 1).toInt ∧ (I2 42 1).toInt ≤ 1000000) → Q (some (.long (lI (-1000000000000000)))) I2 L (aR sh (some 110))) (k2 : D 0 0 = 1 → (quC T n).1 = 0 → ∀ I2 : aFI, I2 2 7 = iI 0 → I2 2 8 = iI (-1) → I2 0 1 = iI 0 → frG PAk I I2 → (-1000000 ≤ (I2 42 1).toInt ∧ (I2 42 1).toInt ≤ 1000000) → Q (some (.long (lI (aNow (askW D cd X (quL T n)) (tkK T n 0) (D 1 2).toNat)))) I2 L (aR sh (some 110))) : aWp none d 103 0 [.ref 0, .null, .null] [] I L (aR sh su) Q := by
  refine w_aload c_103_0 rfl ?_
  refine wc_110 c_103_1 sp_0 (Nat.le_of_ble_eq_true rfl) (by omega) ?_
  refine tc_takeTape hn1 ?_
  refine r_i ?_
  refine w_istore c_103_4 (Nat.le_of_ble_eq_true rfl) rfl ?_
  refine w_aload c_103_5 rfl ?_
  refine w_getR c_103_6 sp_0 (by decide) rfl pr_0_3 ?_
  refine z_getB c_103_9 (sps_0 hsh) (by decide) rfl ((up_ne (by omega)).trans hDt) ?_
  refine b_if_ne c_103_12 (fun h1_ => ?_) (fun h1_ => ?_)
  · refine w_aload c_103_19 rfl ?_
    refine w_getR c_103_20 sp_0 (by decide) rfl pr_0_2 ?_
    refine w_iload c_103_23 rfl ?_
    refine wc_20 c_103_24 sp_2 (Nat.le_of_ble_eq_true rfl) (by omega) ?_
    generalize e1 : aUp I 0 1 (iI 0) = I1
    have hI1 : ∀ q k : Nat, ¬ (q = 0 ∧ k = 1) → I1 q k = I q k := fun q k h => by rw [← e1]; exact up_ne h
    have hI1t : I1 0 1 = iI 0 := by rw [← e1]; exact up_eq
    refine tb_begin (fun j a b => (hI1 1 _ (by omega)).trans (hT j a b)) hTr hn hE hEn (by omega) (fun I2 hK2 b5 b6 b7 b8 hF2 => ?_)
    rw [← oS_s (I := I2) (s := 110) b5 b6 b7 b8]
    refine r_v ?_
    refine w_aload c_103_27 rfl ?_
    refine w_getR c_103_28 sp_0 (by decide) rfl pr_0_2 ?_
    refine w_aload c_103_31 rfl ?_
    refine w_getR c_103_32 sp_0 (by decide) rfl pr_0_10 ?_
    refine wc_24 c_103_35 sp_2 (Nat.le_of_ble_eq_true rfl) (by omega) ?_
    refine tb_readQuestion (n := n) hn hK2 ?_ ?_ (by omega) (fun I3 S3 hg3 hC3 hr3 hF3 => ?_)
    · unfold gS rL0; simp only [Rs.mka, Rs.mkop, Rs.mkf, Rs.mkpl, Rs.mkln]; omega
    · exact cc.ok rfl rfl rfl rfl
    have hF : frG PAk I (oS I3 110 S3) := fun q k hq => by
      have h0 : I3 q k = I q k := by rw [hF3 q k (by omega), hF2 q k (by omega), hI1 q k (by omega)]
      by_cases h2 : q = 2
      · subst h2
        unfold oS oR oU
        rw [if_neg (by omega), if_neg (by omega), if_neg (by omega), if_neg (by omega), if_neg (by omega), if_neg (by omega)]; exact h0
      · rw [oS_ne h2 (by omega) (by omega)]; exact h0
    have hb3 := hg3
    unfold gS at hb3
    have hkk := tkK_rg (n := n) hTr 0
    have hto : D 0 0 = 1 := of_decide_eq_true h1_
    obtain ⟨hS, hWc, hLc, hX, hdr⟩ := hw hto
    have h42 : oS I3 110 S3 42 1 = I 42 1 := (oS_ne (by decide) (by decide) (by decide)).trans ((hF3 42 1 (by omega)).trans ((hF2 42 1 (by omega)).trans (hI1 42 1 (by omega))))
    have h01 : oS I3 110 S3 0 1 = iI 0 := (oS_ne (by decide) (by decide) (by decide)).trans ((hF3 0 1 (by omega)).trans ((hF2 0 1 (by omega)).trans hI1t))
    refine r_i ?_
    refine w_istore c_103_38 (Nat.le_of_ble_eq_true rfl) rfl ?_
    refine w_aload c_103_39 rfl ?_
    refine w_getR c_103_40 sp_0 (by decide) rfl pr_0_2 ?_
    refine z_getZ c_103_43 sp_2 (by decide) rfl rfl ?_
    refine z_if_eq c_103_46 (by first | exact aRg_of _ | (unfold aRg; omega)) (fun h51_ => ?_) (fun h51_ => ?_)
    · have hZ : (quC T n).1 = 0 := hC3.1.symm.trans h51_
      have hk := quC_0 hZ
      have hql := hr3 h51_
      have hql : I3 112 3 = iI 0 ∧ I3 113 3 = iI ((quL T n).length : Int) ∧ (quL T n).length ≤ 1600 ∧ tyC (quL T n) [] [decide (tkK T n 0 ≤ 334)] ∧ cAt S3.C 0 (quL T n) := ⟨hql.1, hql.2.1, hql.2.2.2.1, hql.2.2.2.2.1, hql.2.2.1⟩
      generalize e5 : oS I3 110 S3 = I5 at hF h42 h01 ⊢
      have hF5 := hF
      have hR5 : askR I5 sh D cd X kc (quL T n) := ⟨hWc.fr (fun p k a b => hF p k (by omega)), hLc.fr (fun p k a b => hF p k (by omega)), by rw [h42]; exact hdr, by rw [← e5]; exact (oS_ne (by decide) (by decide) (by decide)).trans hql.1, by rw [← e5]; exact (oS_ne (by decide) (by decide) (by decide)).trans hql.2.1, by rw [← e5]; exact oS_code (Or.inr (Or.inr rfl)) _ 0 (by decide) hql.2.2.2.2⟩
      refine w_iload c_103_53 rfl ?_
      rcases (show ((tkK T n 0) = 332 ∨ (tkK T n 0) = 333 ∨ (tkK T n 0) = 334) ∨ (¬ (tkK T n 0) = 332 ∧ ¬ (tkK T n 0) = 333 ∧ ¬ (tkK T n 0) = 334) by omega) with h3_ | h3_
      · refine z_tsw c_103_54 (by first | exact aRg_of _ | (unfold aRg; omega)) (pc2 := 80) (by rcases h3_ with h3_ | h3_ | h3_ <;> (rw [h3_]; rfl)) ?_
        refine w_aload c_103_80 rfl ?_
        refine w_iload c_103_81 rfl ?_
        refine wc_122 c_103_82 sp_0 (Nat.le_of_ble_eq_true rfl) (by omega) ?_
        refine tc_answerTest hsh hS hX hR5 (hql.2.2.1) hql.2.2.2.1 ⟨by omega, by omega⟩ (by omega) (fun I6 hR6 hF6 => ?_)
        refine r_l ?_
        refine z_retl c_103_85 ?_
        refine k2 hto hZ I6 ?_ ?_ ?_ (fun q k hq => (hF6 q k (by omega)).trans (hF5 q k hq)) hR6.2.2.1
        · rw [hF6 2 7 (by omega), ← e5]; show iI S3.f = _; rw [h51_]
        · rw [hF6 2 8 (by omega), ← e5]; show iI S3.pl = _; rw [(hC3.2.1 h51_).2.2]
        · rw [hF6 0 1 (by omega)]; exact h01
      · refine z_tsw c_103_54 (by first | exact aRg_of _ | (unfold aRg; omega)) (pc2 := 86) (by (by_cases hq : (tkK T n 0) < 332 ∨ 334 < (tkK T n 0)); (rw [if_pos hq]; rfl); (exfalso; omega)) ?_
        refine w_aload c_103_86 rfl ?_
        refine w_iload c_103_87 rfl ?_
        refine wc_123 c_103_88 sp_0 (Nat.le_of_ble_eq_true rfl) (by omega) ?_
        refine tc_answerSum hsh hS hX hR5 (hql.2.2.1) hql.2.2.2.1 ⟨by omega, by omega⟩ (by omega) (fun I6 hR6 hF6 => ?_)
        refine r_l ?_
        refine z_retl c_103_91 ?_
        refine k2 hto hZ I6 ?_ ?_ ?_ (fun q k hq => (hF6 q k (by omega)).trans (hF5 q k hq)) hR6.2.2.1
        · rw [hF6 2 7 (by omega), ← e5]; show iI S3.f = _; rw [h51_]
        · rw [hF6 2 8 (by omega), ← e5]; show iI S3.pl = _; rw [(hC3.2.1 h51_).2.2]
        · rw [hF6 0 1 (by omega)]; exact h01
    · refine z_pushl c_103_49 ?_
      refine z_retl c_103_52 ?_
      refine k1 hto (fun z => h51_ (hC3.1.trans z)) _ ?_ ?_ h01 hF (by rw [h42]; exact hdr)
      · show iI S3.f = _; rw [hC3.1]
      · show iI S3.pl = _; rw [hC3.2.2 h51_]
  · refine z_pushl c_103_15 ?_
    refine z_retl c_103_18 ?_
    exact k0 (of_decide_eq_false h1_)

