/-! the class: lakes copied, acts, shares (p60.py) -/
abbrev PQ (q : Nat) : Nat → Prop := fun p => q ≤ p ∧ p ≤ q + 2
theorem lk_apart {p q : Nat} (hp : aLk0 p) (hq : aLk0 q) (h : ¬ p = q) : p + 2 < q ∨ q + 2 < p := by
  rcases hp with rfl | rfl | rfl | ⟨k, hk, rfl⟩ <;> rcases hq with rfl | rfl | rfl | ⟨k2, hk2, rfl⟩ <;> omega
theorem isLk.any {I : aFI} {q : Nat} : isLk I q (I q 0).toInt (I q 1).toInt (I q 2).toInt (I q 3).toInt (I q 4).toInt (fun j => (I (q + 1) j.toNat).toInt) (fun j => (I (q + 2) j.toNat).toInt) := ⟨iI_of _, iI_of _, iI_of _, iI_of _, iI_of _, fun _ _ _ => ⟨iI_of _, iI_of _⟩⟩
theorem isLk.ext {I : aFI} {q : Nat} {s b g w kc : Int} {ink age ink2 age2 : Int → Int} (h : isLk I q s b g w kc ink age) (he : ∀ j : Int, 0 ≤ j → j < 8 → ink j = ink2 j ∧ age j = age2 j) : isLk I q s b g w kc ink2 age2 :=
  ⟨h.1, h.2.1, h.2.2.1, h.2.2.2.1, h.2.2.2.2.1, fun j h0 h1 => by rw [← (he j h0 h1).1, ← (he j h0 h1).2]; exact h.2.2.2.2.2 j h0 h1⟩
theorem isLk.ci {I : aFI} {q : Nat} {s b g w kc : Int} {ink age ink2 : Int → Int} {f : Nat → Int32} (h : isLk I q s b g w kc ink age) (hf : ∀ j : Int, 0 ≤ j → j < 8 → f j.toNat = iI (ink2 j)) : isLk (aRow I (q + 1) f) q s b g w kc ink2 age := by
  have hn : ∀ p k : Nat, ¬ p = q + 1 → aRow I (q + 1) f p k = I p k := fun p k z => by unfold aRow; rw [if_neg z]
  refine ⟨(hn _ _ (by omega)).trans h.1, (hn _ _ (by omega)).trans h.2.1, (hn _ _ (by omega)).trans h.2.2.1, (hn _ _ (by omega)).trans h.2.2.2.1, (hn _ _ (by omega)).trans h.2.2.2.2.1, fun j h0 h1 => ⟨?_, (hn _ _ (by omega)).trans (h.2.2.2.2.2 j h0 h1).2⟩⟩
  unfold aRow; rw [if_pos rfl]; exact hf j h0 h1
theorem isLk.ca {I : aFI} {q : Nat} {s b g w kc : Int} {ink age age2 : Int → Int} {f : Nat → Int32} (h : isLk I q s b g w kc ink age) (hf : ∀ j : Int, 0 ≤ j → j < 8 → f j.toNat = iI (age2 j)) : isLk (aRow I (q + 2) f) q s b g w kc ink age2 := by
  have hn : ∀ p k : Nat, ¬ p = q + 2 → aRow I (q + 2) f p k = I p k := fun p k z => by unfold aRow; rw [if_neg z]
  refine ⟨(hn _ _ (by omega)).trans h.1, (hn _ _ (by omega)).trans h.2.1, (hn _ _ (by omega)).trans h.2.2.1, (hn _ _ (by omega)).trans h.2.2.2.1, (hn _ _ (by omega)).trans h.2.2.2.2.1, fun j h0 h1 => ⟨(hn _ _ (by omega)).trans (h.2.2.2.2.2 j h0 h1).1, ?_⟩⟩
  unfold aRow; rw [if_pos rfl]; exact hf j h0 h1
theorem row_k {sc : aSc} {d y pc : Nat} {ls st : List Value} {L : aFL} {R : aFR} {Q : aPo} {P : Nat → Prop} {I0 I : aFI} {q2 : Nat} {f : Nat → Int32} (hF : frP P I0 I) (hp : P q2) (k : ∀ I2 : aFI, I2 = aRow I q2 f → frP P I0 I2 → aWp sc d y pc ls st I2 L R Q) : aWp sc d y pc ls st (aRow I q2 f) L R Q := k _ rfl (hF.row hp)
theorem cpy8 {f g : Nat → Int32} {A : Int → Int} (hf : ∀ j : Int, 0 ≤ j → j < 8 → f j.toNat = iI (A j)) {a b c : Nat} (ha : a = 0) (hb : b = 0) (hc : c = 8) : ∀ j : Int, 0 ≤ j → j < 8 → va_cpy f g a b c j.toNat = iI (A j) := by
  intro j h0 h1
  subst ha; subst hb; subst hc
  unfold va_cpy; rw [if_pos (by omega), Nat.zero_add, Nat.sub_zero]
  exact hf j h0 h1
set_option maxHeartbeats 1000000 in
theorem tc_copyOf {d : Nat} {I0 : aFI} {L : aFL} {Q : aPo} {sh : Nat} {su : Option Nat} {kc : Int} {X : Lk} {q p : Nat} (hl : aLk0 q) (hlp : aLk0 p) (hpq : ¬ p = q) (hL : lkX I0 p kc X) (hd : 1 ≤ d) (k : ∀ I : aFI, lkX I q kc X → frP (PQ q) I0 I → Q none I L (aR sh su)) : aWp none d 6 0 [.ref q, .ref p] [] I0 L (aR sh su) Q := by
  obtain ⟨s, b, g, w, ink, age⟩ := X
  have hq := aLk_all hl
  have hp := aLk_all hlp
  have hap := lk_apart hlp hl hpq
  have hL : isLk I0 p s b g w kc ink age := hL
  obtain ⟨I, hI⟩ : ∃ I : aFI, I = I0 := ⟨I0, rfl⟩
  rw [← hI] at hL ⊢
  have hF : frP (PQ q) I0 I := hI ▸ frP.rf
  clear hI
  have hM := isLk.any (I := I) (q := q)
  refine w_aload c_6_0 rfl ?_
  refine w_aload c_6_1 rfl ?_
  refine z_getZ c_6_2 hp.1 (by decide) rfl hL.1 ?_
  refine z_putZ c_6_5 hq.1 (by decide) rfl ?_
  refine up_k hF (by show _ ∧ _; omega) (fun I hI hF => ?_)
  replace hM := hI ▸ hM.ps 
  replace hL := hL.fr (I2 := I) (fun c k h1 h2 => by rw [hI]; exact up_ne (by omega))
  refine w_aload c_6_8 rfl ?_
  refine w_aload c_6_9 rfl ?_
  refine z_getZ c_6_10 hp.1 (by decide) rfl hL.2.1 ?_
  refine z_putZ c_6_13 hq.1 (by decide) rfl ?_
  refine up_k hF (by show _ ∧ _; omega) (fun I hI hF => ?_)
  replace hM := hI ▸ hM.pb 
  replace hL := hL.fr (I2 := I) (fun c k h1 h2 => by rw [hI]; exact up_ne (by omega))
  refine w_aload c_6_16 rfl ?_
  refine w_aload c_6_17 rfl ?_
  refine z_getZ c_6_18 hp.1 (by decide) rfl hL.2.2.1 ?_
  refine z_putZ c_6_21 hq.1 (by decide) rfl ?_
  refine up_k hF (by show _ ∧ _; omega) (fun I hI hF => ?_)
  replace hM := hI ▸ hM.pg 
  replace hL := hL.fr (I2 := I) (fun c k h1 h2 => by rw [hI]; exact up_ne (by omega))
  refine w_aload c_6_24 rfl ?_
  refine w_aload c_6_25 rfl ?_
  refine z_getZ c_6_26 hp.1 (by decide) rfl hL.2.2.2.1 ?_
  refine z_putZ c_6_29 hq.1 (by decide) rfl ?_
  refine up_k hF (by show _ ∧ _; omega) (fun I hI hF => ?_)
  replace hM := hI ▸ hM.pw 
  replace hL := hL.fr (I2 := I) (fun c k h1 h2 => by rw [hI]; exact up_ne (by omega))
  refine w_aload c_6_32 rfl ?_
  refine w_aload c_6_33 rfl ?_
  refine z_getZ c_6_34 hp.1 (by decide) rfl hL.2.2.2.2.1 ?_
  refine z_putZ c_6_37 hq.1 (by decide) rfl ?_
  refine up_k hF (by show _ ∧ _; omega) (fun I hI hF => ?_)
  replace hM := hI ▸ hM.pk 
  replace hL := hL.fr (I2 := I) (fun c k h1 h2 => by rw [hI]; exact up_ne (by omega))
  refine w_aload c_6_40 rfl ?_
  refine w_getR c_6_41 hp.1 (by decide) rfl (hp.2.2.2 _ _).1 ?_
  refine z_push c_6_44 ?_
  refine w_aload c_6_45 rfl ?_
  refine w_getR c_6_46 hq.1 (by decide) rfl (hq.2.2.2 _ _).1 ?_
  refine z_push c_6_49 ?_
  refine z_push c_6_50 ?_
  refine w_acopy c_6_52 (by rintro (z | z | z | z | z) <;> revert z <;> first | omega | decide) hp.2.1 hq.2.1 (by decide) ?_
  refine row_k hF (by show _ ∧ _; omega) (fun I hI hF => ?_)
  replace hM := hI ▸ hM.ci (cpy8 (fun j h0 h1 => (hL.2.2.2.2.2 j h0 h1).1) rfl rfl rfl)
  replace hL := hL.fr (I2 := I) (fun c k h1 h2 => by rw [hI]; unfold aRow; rw [if_neg (by omega)])
  refine w_aload c_6_55 rfl ?_
  refine w_getR c_6_56 hp.1 (by decide) rfl (hp.2.2.2 _ _).2 ?_
  refine z_push c_6_59 ?_
  refine w_aload c_6_60 rfl ?_
  refine w_getR c_6_61 hq.1 (by decide) rfl (hq.2.2.2 _ _).2 ?_
  refine z_push c_6_64 ?_
  refine z_push c_6_65 ?_
  refine w_acopy c_6_67 (by rintro (z | z | z | z | z) <;> revert z <;> first | omega | decide) hp.2.2.1 hq.2.2.1 (by decide) ?_
  refine row_k hF (by show _ ∧ _; omega) (fun I hI hF => ?_)
  replace hM := hI ▸ hM.ca (cpy8 (fun j h0 h1 => (hL.2.2.2.2.2 j h0 h1).2) rfl rfl rfl)
  replace hL := hL.fr (I2 := I) (fun c k h1 h2 => by rw [hI]; unfold aRow; rw [if_neg (by omega)])
  refine z_retv c_6_70 ?_
  exact k I hM hF

set_option maxHeartbeats 1000000 in
theorem tc_lbegin_1 {d : Nat} {I0 : aFI} {L : aFL} {Q : aPo} {sh : Nat} {su : Option Nat} {b g : Int} {q : Nat} (hl : aLk0 q) : ∀ (n : Nat) (i : Int) (I : aFI) (ink age : Int → Int), (8 - i).toNat < n → (0 ≤ i) → (i ≤ 8) → (isLk I q 0 b g 0 0 ink age) → (∀ j : Int, 0 ≤ j → j < i → ink j = 0 ∧ age j = 99) → (frP (PQ q) I0 I) → (∀ I : aFI, lkX I q 0 (0, b, g, 0, (fun _ => 0), (fun _ => 99)) → frP (PQ q) I0 I → Q none I L (aR sh su)) → aWp none d 5 27 [.ref q, .int (iI b), .int (iI g), .int (iI i)] [] I L (aR sh su) Q := by
  intro n
  induction n with
  | zero => intro i I ink age h; omega
  | succ n ih =>
    intro i I ink age hn h0 h1 hL ha hF k
    have hq := aLk_all hl
    refine w_iload c_5_27 rfl ?_
    refine z_push c_5_28 ?_
    refine z_ic_ge c_5_30 (by first | exact aRg_of _ | (unfold aRg; omega)) (by first | exact aRg_of _ | (unfold aRg; omega)) (fun h1_ => ?_) (fun h1_ => ?_)
    · refine z_retv c_5_54 ?_
      exact k I (hL.ext (fun j z1 z2 => ha j z1 (by omega))) hF
    · refine w_aload c_5_33 rfl ?_
      refine w_getR c_5_34 hq.1 (by decide) rfl (hq.2.2.2 _ _).1 ?_
      refine w_iload c_5_37 rfl ?_
      refine z_push c_5_38 ?_
      refine z_iastore c_5_39 hq.2.1 (by omega) (by decide) ?_
      refine up_k hF (by show _ ∧ _; omega) (fun I hI hF => ?_)
      replace hL := hI ▸ hL.pi h0
      refine w_aload c_5_40 rfl ?_
      refine w_getR c_5_41 hq.1 (by decide) rfl (hq.2.2.2 _ _).2 ?_
      refine w_iload c_5_44 rfl ?_
      refine z_push c_5_45 ?_
      refine z_iastore c_5_47 hq.2.2.1 (by omega) (by decide) ?_
      refine up_k hF (by show _ ∧ _; omega) (fun I hI hF => ?_)
      replace hL := hI ▸ hL.pa h0
      refine z_iinc c_5_48 rfl rfl ?_
      refine w_goto c_5_51 ?_
      refine ih (i + 1) I _ _ (by omega) (by omega) (by omega) hL (fun j z1 z2 => ?_) hF k
      by_cases hj : j = i
      · subst hj; exact ⟨cU_eq, cU_eq⟩
      · rw [cU_ne hj, cU_ne hj]; exact ha j z1 (by omega)

set_option maxHeartbeats 1000000 in
theorem tc_lbegin {d : Nat} {I0 : aFI} {L : aFL} {Q : aPo} {sh : Nat} {su : Option Nat} {b g : Int} {q : Nat} (hl : aLk0 q) (k : ∀ I : aFI, lkX I q 0 (0, b, g, 0, (fun _ => 0), (fun _ => 99)) → frP (PQ q) I0 I → Q none I L (aR sh su)) : aWp none d 5 0 [.ref q, .int (iI b), .int (iI g), .null] [] I0 L (aR sh su) Q := by
  have hq := aLk_all hl
  obtain ⟨I, hI⟩ : ∃ I : aFI, I = I0 := ⟨I0, rfl⟩
  rw [← hI]
  have hF : frP (PQ q) I0 I := hI ▸ frP.rf
  clear hI
  have hL := isLk.any (I := I) (q := q)
  refine w_aload c_5_0 rfl ?_
  refine z_push c_5_1 ?_
  refine z_putZ c_5_2 hq.1 (by decide) rfl ?_
  refine up_k hF (by show _ ∧ _; omega) (fun I hI hF => ?_)
  replace hL := hI ▸ hL.ps 
  refine w_aload c_5_5 rfl ?_
  refine w_iload c_5_6 rfl ?_
  refine z_putZ c_5_7 hq.1 (by decide) rfl ?_
  refine up_k hF (by show _ ∧ _; omega) (fun I hI hF => ?_)
  replace hL := hI ▸ hL.pb 
  refine w_aload c_5_10 rfl ?_
  refine w_iload c_5_11 rfl ?_
  refine z_putZ c_5_12 hq.1 (by decide) rfl ?_
  refine up_k hF (by show _ ∧ _; omega) (fun I hI hF => ?_)
  replace hL := hI ▸ hL.pg 
  refine w_aload c_5_15 rfl ?_
  refine z_push c_5_16 ?_
  refine z_putZ c_5_17 hq.1 (by decide) rfl ?_
  refine up_k hF (by show _ ∧ _; omega) (fun I hI hF => ?_)
  replace hL := hI ▸ hL.pw 
  refine w_aload c_5_20 rfl ?_
  refine z_push c_5_21 ?_
  refine z_putZ c_5_22 hq.1 (by decide) rfl ?_
  refine up_k hF (by show _ ∧ _; omega) (fun I hI hF => ?_)
  replace hL := hI ▸ hL.pk 
  refine z_push c_5_25 ?_
  refine w_istore c_5_26 (Nat.le_of_ble_eq_true rfl) rfl ?_
  exact tc_lbegin_1 hl _ 0 I _ _ (Nat.lt_succ_self _) (by omega) (by omega) hL (fun j z1 z2 => absurd z2 (by omega)) hF k

abbrev PA (q : Nat) : Nat → Prop := fun p => p = 44 ∨ (q ≤ p ∧ p ≤ q + 2)
theorem lk_p {n : Int} (h : 0 ≤ n ∧ n < 20) : aLk0 (46 + 3 * n.toNat) := Or.inr (Or.inr (Or.inr ⟨n.toNat, by omega, rfl⟩))
set_option maxHeartbeats 1000000 in
theorem tc_forget {d : Nat} {I : aFI} {L : aFL} {Q : aPo} {sh : Nat} {su : Option Nat} (k : ∀ I2 : aFI, I2 44 1 = iI 0 → I2 44 2 = iI 0 → frP (fun p => p = 44) I I2 → Q none I2 L (aR sh su)) : aWp none d 1 0 [.ref 44] [] I L (aR sh su) Q := by
  refine w_aload c_1_0 rfl ?_
  refine z_push c_1_1 ?_
  refine z_putZ c_1_2 sp_44 (by decide) rfl ?_
  refine w_aload c_1_5 rfl ?_
  refine z_push c_1_6 ?_
  refine z_putZ c_1_7 sp_44 (by decide) rfl ?_
  refine z_retv c_1_10 ?_
  exact k _ ((up_ne (by omega)).trans up_eq) up_eq (((frP.rf (P := fun p => p = 44)).up rfl).up rfl)

set_option maxHeartbeats 1000000 in
theorem tc_remember {d : Nat} {I0 : aFI} {L : aFL} {Q : aPo} {sh : Nat} {su : Option Nat} {kc nx ct : Int} {X : Lk} {p : Nat} (hlp : aLk0 p) (hL : lkX I0 p kc X) (hnx : I0 44 1 = iI nx) (hct : I0 44 2 = iI ct) (h0 : 0 ≤ nx ∧ nx < 20) (h1 : 0 ≤ ct ∧ ct ≤ 20) (hp0 : ¬ p = 46 + 3 * nx.toNat) (hd : 2 ≤ d) (k : ∀ I : aFI, lkX I (46 + 3 * nx.toNat) kc X → I 44 1 = iI ((nx + 1) % 20) → I 44 2 = iI (min 20 (ct + 1)) → frP (PA (46 + 3 * nx.toNat)) I0 I → Q none I L (aR sh su)) : aWp none d 2 0 [.ref 44, .ref p] [] I0 L (aR sh su) Q := by
  obtain ⟨q, hqe⟩ : ∃ q, q = 46 + 3 * nx.toNat := ⟨_, rfl⟩
  rw [← hqe] at k hp0
  have hl := lk_p h0
  rw [← hqe] at hl
  have hq := aLk_all hl
  have hq46 : 46 ≤ q := by omega
  refine w_aload c_2_0 rfl ?_
  refine w_getR c_2_1 sp_44 (by decide) rfl pr_44_0 ?_
  refine w_aload c_2_4 rfl ?_
  refine z_getZ c_2_5 sp_44 (by decide) rfl hnx ?_
  refine z_aaload_o c_2_8 sp_45 (by omega) (by decide) (show aR sh su 45 _ = some q from by rw [hqe]; exact aR_past (by omega) _ _) ?_
  refine w_aload c_2_9 rfl ?_
  refine wc_6 c_2_10 hq.1 (Nat.le_of_ble_eq_true rfl) (by omega) ?_
  refine tc_copyOf hl hlp hp0 hL (by omega) (fun I hM hf => ?_)
  have hnx : I 44 1 = iI nx := (hf 44 1 (by show ¬ (_ ∧ _); omega)).trans hnx
  have hct : I 44 2 = iI ct := (hf 44 2 (by show ¬ (_ ∧ _); omega)).trans hct
  have hF : frP (PA q) I0 I := hf.mono (fun p hp => Or.inr hp)
  refine r_v ?_
  refine w_aload c_2_13 rfl ?_
  refine w_aload c_2_14 rfl ?_
  refine z_getZ c_2_15 sp_44 (by decide) rfl hnx ?_
  refine z_push c_2_18 ?_
  refine z_iadd c_2_19 ?_
  refine z_push c_2_20 ?_
  refine z_irem c_2_22 (by omega) (by omega) ?_
  refine z_putZ c_2_23 sp_44 (by decide) rfl ?_
  refine up_k hF (Or.inl rfl) (fun I hI hF => ?_)
  have hn1 : I 44 1 = iI ((nx + 1) % 20) := hI ▸ up_eq
  have hct : I 44 2 = iI ct := by rw [hI]; exact (up_ne (by omega)).trans hct
  replace hM := hM.fr (I2 := I) (fun c k z1 z2 => by rw [hI]; exact up_ne (by omega))
  refine w_aload c_2_26 rfl ?_
  refine z_push c_2_27 ?_
  refine w_aload c_2_29 rfl ?_
  refine z_getZ c_2_30 sp_44 (by decide) rfl hct ?_
  refine z_push c_2_33 ?_
  refine z_iadd c_2_34 ?_
  refine z_mmin c_2_35 (by omega) (Nat.le_of_ble_eq_true rfl) (by first | exact aRg_of _ | (unfold aRg; omega)) (by first | exact aRg_of _ | (unfold aRg; omega)) ?_
  refine z_putZ c_2_38 sp_44 (by decide) rfl ?_
  refine up_k hF (Or.inl rfl) (fun I hI hF => ?_)
  have hc1 : I 44 2 = _ := hI ▸ up_eq
  have hn1 : I 44 1 = iI ((nx + 1) % 20) := by rw [hI]; exact (up_ne (by omega)).trans hn1
  replace hM := hM.fr (I2 := I) (fun c k z1 z2 => by rw [hI]; exact up_ne (by omega))
  refine z_retv c_2_41 ?_
  exact k I hM hn1 hc1 hF

set_option maxHeartbeats 1000000 in
theorem tc_recall {d : Nat} {I0 : aFI} {L : aFL} {Q : aPo} {sh : Nat} {su : Option Nat} {kc nx ct : Int} {X : Lk} {p : Nat} (hlp : aLk0 p) (hnx : I0 44 1 = iI nx) (hct : I0 44 2 = iI ct) (h0 : 0 ≤ nx ∧ nx < 20) (h1 : 0 ≤ ct ∧ ct ≤ 20) (hL : lkX I0 (46 + 3 * ((nx + 19) % 20).toNat) kc X) (hp0 : p < 42) (hd : 2 ≤ d) (k : ∀ I : aFI, lkX I p kc X → I 44 1 = iI ((nx + 19) % 20) → I 44 2 = iI (ct - 1) → frP (PA p) I0 I → Q none I L (aR sh su)) : aWp none d 3 0 [.ref 44, .ref p] [] I0 L (aR sh su) Q := by
  obtain ⟨n2, hn2⟩ : ∃ n2 : Int, n2 = (nx + 19) % 20 := ⟨_, rfl⟩
  have hn3 : (nx + 20 - 1) % 20 = n2 := by omega
  rw [← hn2] at k hL
  obtain ⟨q, hqe⟩ : ∃ q, q = 46 + 3 * n2.toNat := ⟨_, rfl⟩
  rw [← hqe] at hL
  have hl := lk_p (n := n2) (by omega)
  rw [← hqe] at hl
  have hq := aLk_all hl
  have hq46 : 46 ≤ q := by omega
  have hlk := lk43 hlp
  have hp := aLk_all hlp
  refine w_aload c_3_0 rfl ?_
  refine w_aload c_3_1 rfl ?_
  refine z_getZ c_3_2 sp_44 (by decide) rfl hnx ?_
  refine z_push c_3_5 ?_
  refine z_iadd c_3_7 ?_
  refine z_push c_3_8 ?_
  refine z_isub c_3_9 ?_
  refine z_push c_3_10 ?_
  refine z_irem c_3_12 (by omega) (by omega) ?_
  refine z_putZ c_3_13 sp_44 (by decide) rfl ?_
  rw [hn3]
  refine up_k (P := PA p) frP.rf (Or.inl rfl) (fun I hI hF => ?_)
  have hnx : I 44 1 = iI n2 := hI ▸ up_eq
  have hct : I 44 2 = iI ct := by rw [hI]; exact (up_ne (by omega)).trans hct
  replace hL := hL.fr (I2 := I) (fun c k z1 z2 => by rw [hI]; exact up_ne (by omega))
  refine w_aload c_3_16 rfl ?_
  refine w_dup c_3_17 rfl ?_
  refine z_getZ c_3_18 sp_44 (by decide) rfl hct ?_
  refine z_push c_3_21 ?_
  refine z_isub c_3_22 ?_
  refine z_putZ c_3_23 sp_44 (by decide) rfl ?_
  refine up_k hF (Or.inl rfl) (fun I hI hF => ?_)
  have hct : I 44 2 = iI (ct - 1) := hI ▸ up_eq
  have hnx : I 44 1 = iI n2 := by rw [hI]; exact (up_ne (by omega)).trans hnx
  replace hL := hL.fr (I2 := I) (fun c k z1 z2 => by rw [hI]; exact up_ne (by omega))
  refine w_aload c_3_26 rfl ?_
  refine w_aload c_3_27 rfl ?_
  refine w_getR c_3_28 sp_44 (by decide) rfl pr_44_0 ?_
  refine w_aload c_3_31 rfl ?_
  refine z_getZ c_3_32 sp_44 (by decide) rfl hnx ?_
  refine z_aaload_o c_3_35 sp_45 (by omega) (by decide) (show aR sh su 45 _ = some q from by rw [hqe]; exact aR_past (by omega) _ _) ?_
  refine wc_6 c_3_36 hp.1 (Nat.le_of_ble_eq_true rfl) (by omega) ?_
  refine tc_copyOf hlp hl (by omega) hL (by omega) (fun I hM hf => ?_)
  have hn1 : I 44 1 = iI n2 := (hf 44 1 (by show ¬ (_ ∧ _); omega)).trans hnx
  have hc1 := (hf 44 2 (by show ¬ (_ ∧ _); omega)).trans hct
  have hF : frP (PA p) I0 I := hF.tr (hf.mono (fun p hp => Or.inr hp))
  refine r_v ?_
  refine z_retv c_3_39 ?_
  exact k I hM hn1 hc1 hF

