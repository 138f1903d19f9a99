/-! the reference: a shore told (p9s.py) -/
theorem oP_s {I : aFI} : oP I (I 157 2).toInt (I 157 4).toInt (I 157 5).toInt (I 157 6).toInt (I 157 10).toInt (I 157 43).toInt = I := by
  funext q k
  unfold oP
  repeat' split
  all_goals first | rfl | (rename_i h; rw [h.1, h.2]; exact (iI_of _).symm)
theorem rB_oP {I : aFI} {L : aFL} {D : Nat → Int → Int} {cd : Nat → Option (List Int)} {m a en b bp np nm : Int} (h : rB I L D cd m) : rB (oP I a en b bp np nm) L D cd m := ⟨h.1.oP, h.2.1.fr2 (fun q k z1 z2 => by unfold oP; repeat rw [if_neg (by omega)]), h.2.2.fr rfl (fun q k z1 z2 => by unfold oP; repeat rw [if_neg (by omega)])⟩
theorem stN_s {T : Int → Int} {K PL Z : Nat → Int} {f : Nat} {cnt : Int} {C : Cu} {D : Nat → Int → Int} {cd : Nat → Option (List Int)} (h : C.1 = 0 ∧ ¬ K C.2.2 = 341) : stN T K PL Z (f + 1) cnt C D cd = stN T K PL Z f (cnt + 1) (stS T K PL Z D cd cnt C.2.2).1 (stS T K PL Z D cd cnt C.2.2).2.1 (stS T K PL Z D cd cnt C.2.2).2.2 := if_pos h
theorem stN_e {T : Int → Int} {K PL Z : Nat → Int} {f : Nat} {cnt : Int} {C : Cu} {D : Nat → Int → Int} {cd : Nat → Option (List Int)} (h : ¬ (C.1 = 0 ∧ ¬ K C.2.2 = 341)) : stN T K PL Z f cnt C D cd = (cnt, C, D, cd) := by
  cases f with
  | zero => rfl
  | succ f => exact if_neg h
theorem stS_70 {T : Int → Int} {K PL Z : Nat → Int} {D : Nat → Int → Int} {cd : Nat → Option (List Int)} {cnt : Int} {j : Nat} (h : (stS T K PL Z D cd cnt j).1.1 = 0) : ¬ cnt = 70 := fun z => by
  unfold stS at h; rw [if_pos z] at h; exact absurd (show (5 : Int) = 0 from h) (by decide)
theorem cu.good2 {T : Int → Int} {n : Int} {C : Cu} {a bp : Int} (h1 : C.1 = 0) (h : rA T n C.2.2 a) (hbp : bp = -1) : cu T n C a (tkS T n C.2.2).2 0 bp := ⟨h1.symm, by decide, fun _ => ⟨h, rfl, hbp⟩, fun z => absurd rfl z⟩
set_option maxHeartbeats 1000000 in
theorem t_shore_95 {d : Nat} {I0 : aFI} {L0 : aFL} {Q : aPo} {T : Int → Int} {n : Int} {sh : Nat} {su : Option Nat} {E : Nat} {v1 : Value} (hE : ∀ j : Nat, tkK T n j = 341 ↔ E ≤ j) (hEn : (E : Int) ≤ n) (hEj : ∀ j : Nat, j ≤ E → (j : Int) ≤ (tkS T n j).1) (hd : 14 ≤ d) : ∀ (f : Nat) (cnt : Int) (C : Cu) (D : Nat → Int → Int) (cd : Nat → Option (List Int)) (I : aFI) (L : aFL) (a en b bp np nm : Int), (oB I T n) → (oW I) → (cu T n C a en b bp) → (C.1 = 0 → rBj I L D cd C.2.2 ∧ wfP D cd ∧ I 157 55 = iI cnt ∧ C.2.2 ≤ E ∧ cnt ≤ 70) → (1 ≤ cnt ∧ cnt ≤ 71) → (71 < cnt + f) → (frG PRs I0 I) → (frG PRl L0 L) → (∀ (I2 : aFI) (L2 : aFL) (a2 en2 b2 bp2 np2 nm2 : Int), cu T n (stN T (tkK T n) (tkP T n) (tkZ T n) f cnt C D cd).2.1 a2 en2 b2 bp2 → ((stN T (tkK T n) (tkP T n) (tkZ T n) f cnt C D cd).2.1.1 = 0 → rBj I2 L2 (stN T (tkK T n) (tkP T n) (tkZ T n) f cnt C D cd).2.2.1 (stN T (tkK T n) (tkP T n) (tkZ T n) f cnt C D cd).2.2.2 (stN T (tkK T n) (tkP T n) (tkZ T n) f cnt C D cd).2.1.2.2 ∧ wfP (stN T (tkK T n) (tkP T n) (tkZ T n) f cnt C D cd).2.2.1 (stN T (tkK T n) (tkP T n) (tkZ T n) f cnt C D cd).2.2.2 ∧ I2 157 55 = iI (stN T (tkK T n) (tkP T n) (tkZ T n) f cnt C D cd).1 ∧ (1 ≤ (stN T (tkK T n) (tkP T n) (tkZ T n) f cnt C D cd).1 ∧ (stN T (tkK T n) (tkP T n) (tkZ T n) f cnt C D cd).1 ≤ 71) ∧ (stN T (tkK T n) (tkP T n) (tkZ T n) f cnt C D cd).2.1.2.2 ≤ E) → frG PRs I0 I2 → frG PRl L0 L2 → aWp none d 156 117 [.ref 157, v1] [] (oP I2 a2 en2 b2 bp2 np2 nm2) L2 (aR sh su) Q) → aWp none d 156 95 [.ref 157, v1] [] (oP I a en b bp np nm) L (aR sh su) Q := by
  intro f
  induction f with
  | zero =>
    intro cnt C D cd I L a en b bp np nm hB hO hC hg hcr hf hF hG k
    exfalso; omega
  | succ f ih =>
    intro cnt C D cd I L a en b bp np nm hB hO hC hg hcr hf hF hG k
    have hn := hB.2.2.1
    rcases hC.cs with ⟨h1, rfl, h3, rfl, hbp⟩ | ⟨h1, h2, h3, h4, h5⟩
    · refine w_aload c_156_95 rfl ?_
      refine z_getZ c_156_96 sp_157 (by decide) rfl rfl ?_
      refine z_if_ne c_156_99 (by first | exact aRg_of _ | (unfold aRg; omega)) (fun h1_ => ?_) (fun h1_ => ?_)
      · exact absurd rfl h1_
      refine w_aload c_156_102 rfl ?_
      refine wc_136 c_156_103 sp_157 (Nat.le_of_ble_eq_true rfl) (by omega) ?_
      refine tt_look hB h3 ?_
      obtain ⟨⟨m, hmj, hRB⟩, hwf, hct, hCE, hc70⟩ := hg h1
      have hend := tkK_end hB.2.2.2 (T := T) (n := n) (j := C.2.2)
      have hlr : -1 ≤ lkc T n (tkP T n C.2.2) ∧ lkc T n (tkP T n C.2.2) < 256 := lkc_rg hB.2.2.2
      refine r_i ?_
      refine z_push c_156_106 ?_
      refine z_ic_eq c_156_107 (by first | exact aRg_of _ | (unfold aRg; omega)) (by first | exact aRg_of _ | (unfold aRg; omega)) (fun h2_ => ?_) (fun h2_ => ?_)
      · have hK : tkK T n C.2.2 = 341 := hend.mpr (by omega)
        rw [stN_e (fun z => z.2 hK)] at k
        exact k I L _ _ _ _ _ _ (cu.good2 h1 (rA_p hn.1) hbp) (fun _ => ⟨⟨m, hmj, hRB⟩, hwf, hct, hcr, hCE⟩) hF hG
      · refine w_aload c_156_110 rfl ?_
        refine wc_155 c_156_111 sp_157 (Nat.le_of_ble_eq_true rfl) (by omega) ?_
        have hK : ¬ tkK T n C.2.2 = 341 := fun z => by have := hend.mp z; omega
        have hjE : C.2.2 < E := by have := (hE C.2.2).mpr; omega
        have hst := stN_s (T := T) (PL := tkP T n) (Z := tkZ T n) (f := f) (cnt := cnt) (D := D) (cd := cd) (C := C) ⟨h1, hK⟩
        rw [hst] at k
        refine t_statementTold hB hO hbp hmj hRB hwf.1.n (hEj _ hCE) (fun r hr z => (rlR_wf hn hE hEn hr hjE z).1) hct ⟨by omega, hc70⟩ (by omega) (fun I2 L2 a2 en2 b2 bp2 np2 nm2 hC2 hr2 hF2 hG2 => ?_)
        refine r_v ?_
        refine w_goto c_156_114 ?_
        refine ih (cnt + 1) _ _ _ I2 L2 _ _ _ _ _ _ (hB.rs hF2) (hO.rs hF2) hC2 (fun z => ?_) ⟨by omega, by omega⟩ (by omega) (hF.tr hF2) (hG.tr hG2) k
        have h7 := hr2 z
        exact ⟨h7.1, stS_wf hB.2.2.2 hn hE hEn hwf hjE z, h7.2, stS_E hE hn hEn hjE z, by have := stS_70 z; omega⟩
    · have hbr := hC.2.1
      refine w_aload c_156_95 rfl ?_
      refine z_getZ c_156_96 sp_157 (by decide) rfl rfl ?_
      refine z_if_ne c_156_99 (by first | exact aRg_of _ | (unfold aRg; omega)) (fun h1_ => ?_) (fun h1_ => ?_)
      rotate_left
      · exfalso; omega
      rw [stN_e (fun z => h1 z.1)] at k
      exact k I L _ _ _ _ _ _ hC (fun z => absurd z h1) hF hG

set_option maxHeartbeats 2000000 in
theorem t_shore_40 {d : Nat} {L : aFL} {Q : aPo} {sh : Nat} {su : Option Nat} {I0 : aFI} {a en b bp np nm : Int} (kk : ∀ I2 : aFI, (∀ p : Nat, p < 3 → I2 192 p = iI 0 ∧ I2 199 p = iI (-1)) → frG (fun a k => (a = 192 ∨ a = 199) ∧ k < 3) I0 I2 → aWp none d 156 65 [.ref 157, .int (iI 3)] [] (oP I2 a en b bp np nm) L (aR sh su) Q) : ∀ (fz : Nat) (i : Int) (I : aFI), (3 - i).toNat < fz → (0 ≤ i) → (i ≤ 3) → (∀ p : Nat, (p : Int) < i → I 192 p = iI 0 ∧ I 199 p = iI (-1)) → (frG (fun a k => (a = 192 ∨ a = 199) ∧ k < 3) I0 I) → aWp none d 156 40 [.ref 157, .int (iI i)] [] (oP I a en b bp np nm) L (aR sh su) Q := by
  intro fz
  induction fz with
  | zero => intro i I h; omega
  | succ fz ih =>
    intro i I hn2 h0 h1 hp hF
    refine w_iload c_156_40 rfl ?_
    refine z_push c_156_41 ?_
    refine z_ic_ge c_156_42 (by first | exact aRg_of _ | (unfold aRg; omega)) (by first | exact aRg_of _ | (unfold aRg; omega)) (fun h1_ => ?_) (fun h1_ => ?_)
    · have hi : i = 3 := by omega
      subst hi
      exact kk I (fun p hp2 => hp p (by omega)) hF
    · refine w_aload c_156_45 rfl ?_
      refine w_getR c_156_46 sp_157 (by decide) rfl pr_157_44 ?_
      refine w_iload c_156_49 rfl ?_
      refine z_push c_156_50 ?_
      refine z_iastore c_156_51 sp_192 (by omega) (by decide) ?_
      refine oq_k hF (by omega) (by omega) (fun I1 e1 hF1 => ?_)
      refine w_aload c_156_52 rfl ?_
      refine w_getR c_156_53 sp_157 (by decide) rfl pr_157_51 ?_
      refine w_iload c_156_56 rfl ?_
      refine z_push c_156_57 ?_
      refine z_iastore c_156_58 sp_199 (by omega) (by decide) ?_
      refine oq_k hF1 (by omega) (by omega) (fun I2 e2 hF2 => ?_)
      refine z_iinc c_156_59 rfl rfl ?_
      refine w_goto c_156_62 ?_
      refine ih (i + 1) I2 (by omega) (by omega) (by omega) (fun p hp2 => ?_) hF2
      by_cases hpi : (p : Int) = i
      · rw [show p = i.toNat by omega, e2, up_ne (by omega), e1]
        exact ⟨up_eq, up_eq⟩
      · have h9 := hp p (by omega)
        rw [e2, up_ne (by omega), up_ne (by omega), e1, up_ne (by omega), up_ne (by omega)]; exact h9

/-- what a text tells as a shore -/
noncomputable def shN (T : Int → Int) (n : Int) (D0 : Nat → Int → Int) : Int × Ps := stN T (tkK T n) (tkP T n) (tkZ T n) 100 1 (laC (tkK T n) (tkP T n) (tkZ T n)) (laD (tkZ T n) D0) (fun _ => none)
abbrev PSh : Nat → Nat → Prop := fun q k => PRs q k ∨ PSt q k ∨ (q = 157 ∧ (k = 1 ∨ k = 2 ∨ k = 3 ∨ k = 4 ∨ k = 5 ∨ k = 6 ∨ k = 7 ∨ k = 8 ∨ k = 10 ∨ k = 43))
abbrev PShf : Nat → Nat → Prop := fun q k => PRs q k ∨ (q = 157 ∧ (k = 1 ∨ k = 2 ∨ k = 3 ∨ k = 4 ∨ k = 5 ∨ k = 6 ∨ k = 7 ∨ k = 8 ∨ k = 10 ∨ k = 43)) ∨ (q = 159 ∧ k = 1)
theorem oP_fr {I : aFI} {a en b bp np nm a2 en2 b2 bp2 np2 nm2 : Int} {I2 : aFI} {P : Nat → Nat → Prop} (h : frG P I I2) : frG (fun q k => P q k ∨ (q = 157 ∧ (k = 2 ∨ k = 4 ∨ k = 5 ∨ k = 6 ∨ k = 10 ∨ k = 43))) (oP I a en b bp np nm) (oP I2 a2 en2 b2 bp2 np2 nm2) := fun q k hq => by
  have h1 : ¬ P q k := fun z => hq (Or.inl z)
  have h2 : ¬ (q = 157 ∧ (k = 2 ∨ k = 4 ∨ k = 5 ∨ k = 6 ∨ k = 10 ∨ k = 43)) := fun z => hq (Or.inr z)
  unfold oP
  repeat rw [if_neg (by omega)]
  exact h q k h1
theorem laC_m {K PL Z : Nat → Int} (h : (laC K PL Z).1 = 0) : (laC K PL Z).2.2 = 8 ∧ (0 ≤ Z 2 ∧ Z 2 ≤ 9999) ∧ (0 ≤ Z 4 ∧ Z 4 ≤ 9999) ∧ (max 1 (Z 2) ≤ Z 6 ∧ Z 6 ≤ 9999) := by
  unfold laC at h ⊢
  have g8 := cWd_0 h
  have g7 := cNu_0 g8.1
  have g6 := cWd_0 g7.1
  have g5 := cNu_0 g6.1
  have g4 := cWd_0 g5.1
  have g3 := cNu_0 g4.1
  have g2 := cWd_0 g3.1
  have g1 := cWd_0 g2.1
  have h8 := g8.2.2
  have h7 := g7.2.2.2.1
  have h5 := g5.2.2.2.1
  have h3 := g3.2.2.2.1
  rw [g7.2.2.2.2, g6.2.2, g5.2.2.2.2, g4.2.2, g3.2.2.2.2, g2.2.2, g1.2.2] at h8
  rw [g6.2.2, g5.2.2.2.2, g4.2.2, g3.2.2.2.2, g2.2.2, g1.2.2] at h7
  rw [g4.2.2, g3.2.2.2.2, g2.2.2, g1.2.2] at h5
  rw [g2.2.2, g1.2.2] at h3
  refine ⟨?_, h3, h5, h7⟩
  rw [g8.2.2, g7.2.2.2.2, g6.2.2, g5.2.2.2.2, g4.2.2, g3.2.2.2.2, g2.2.2, g1.2.2]
theorem laD_wf {Z : Nat → Int} {D0 : Nat → Int → Int} (h : (0 ≤ Z 2 ∧ Z 2 ≤ 9999) ∧ (0 ≤ Z 4 ∧ Z 4 ≤ 9999) ∧ (max 1 (Z 2) ≤ Z 6 ∧ Z 6 ≤ 9999)) : wfP (laD Z D0) (fun _ => none) := by
  refine ⟨⟨?_, ?_, fun j a b => ?_, fun j a b => ?_, fun j a b => ?_, fun r hr l hl => by cases hl⟩, fun k hk i a b => ?_, ?_⟩
  · simp [laD, dU]
  · simp [laD, dU]; omega
  · exfalso; simp [laD, dU] at b; omega
  · exfalso; simp [laD, dU] at b; omega
  · exfalso; simp [laD, dU] at b; omega
  · exfalso
    rcases (show k = 0 ∨ k = 1 ∨ k = 2 by omega) with rfl | rfl | rfl <;> (simp [laD, dU] at b; omega)
  · simp [laD, dU]; omega
theorem cu.good3 {T : Int → Int} {n : Int} {C : Cu} {a en b bp : Int} (h : cu T n C a en b bp) (hz : C.1 = 0) : bp = -1 := (h.2.2.1 (h.1.trans hz)).2.2
abbrev PShb : Nat → Nat → Prop := fun q k => PRs q k ∨ (q = 157 ∧ (k = 1 ∨ k = 3))
theorem laC_E {K PL Z : Nat → Int} {E : Nat} (hE : ∀ j : Nat, K j = 341 ↔ E ≤ j) : cE E (laC K PL Z) := by
  have h0 : cE E (0, 0, 0) := fun _ => Nat.zero_le E
  exact (((((((h0.wd hE (by decide)).wd hE (by decide)).nu hE).wd hE (by decide)).nu hE).wd hE (by decide)).nu hE).wd hE (by decide)
theorem rB_la {I : aFI} {L : aFL} {Z : Nat → Int} {D0 : Nat → Int → Int} (h1 : ∀ p : Nat, p < 3 → I 192 p = iI 0 ∧ I 199 p = iI (-1)) (h2 : I 194 0 = iI (Z 2) ∧ I 194 1 = iI (Z 4) ∧ I 194 2 = iI (Z 6)) (h3 : I 198 0 = iI 0 ∧ I 198 1 = iI 1 ∧ I 198 2 = iI 0) (h4 : I 157 54 = iI 0) : rB I L (laD Z D0) (fun _ => none) 0 := by
  refine ⟨fun p hp => ?_, ⟨?_, ?_, fun j a b => ?_, fun j a b => ?_, fun j a b => ?_⟩, h4, Int.le_refl 0, fun r hr => Or.inl ⟨rfl, (h1 r hr).2⟩⟩
  · have h5 := (h1 p hp).1
    have e : laD Z D0 1 (p : Int) = 0 := by rcases (show p = 0 ∨ p = 1 ∨ p = 2 by omega) with rfl | rfl | rfl <;> simp [laD, dU]
    show I 192 p = iI (laD Z D0 1 p) ∧ (0 ≤ laD Z D0 1 p ∧ laD Z D0 1 p ≤ 8) ∧ ∀ i : Int, 0 ≤ i → i < laD Z D0 1 p → _
    rw [e]
    exact ⟨h5, by decide, fun i a b => by omega⟩
  · simpa [laD, dU] using h2
  · simpa [laD, dU] using h3
  · exfalso; simp [laD, dU] at b; omega
  · exfalso; simp [laD, dU] at b; omega
  · exfalso; simp [laD, dU] at b; omega
set_option maxHeartbeats 1000000 in
theorem t_shore {d : Nat} {I : aFI} {L : aFL} {Q : aPo} {T : Int → Int} {n : Int} {sh : Nat} {su : Option Nat} {E : Nat} {D0 : Nat → Int → Int} (hE : ∀ j : Nat, tkK T n j = 341 ↔ E ≤ j) (hEn : (E : Int) ≤ n) (hEj : ∀ j : Nat, j ≤ E → (j : Int) ≤ (tkS T n j).1) (hn1 : I 157 1 = iI n) (hn : 0 ≤ n ∧ n ≤ 1600) (hT : ∀ j : Int, 0 ≤ j → j < 1600 → I 158 j.toNat = iI (T j)) (hTr : ∀ j : Int, 0 ≤ T j ∧ T j < 256) (hO : oW I) (hd : 16 ≤ d)
  (k1 : (shN T n D0).2.1.1 = 0 → ∀ (I2 : aFI) (L2 : aFL), wfP (shN T n D0).2.2.1 (shN T n D0).2.2.2 → (1 ≤ (shN T n D0).1 ∧ (shN T n D0).1 ≤ 71) → rW I2 (shN T n D0).2.2.1 (shN T n D0).2.2.2 → rNms L2 (shN T n D0).2.2.1 → rX I2 202 (X0 (shN T n D0).2.2.1) → I2 202 27 = iI 0 → I2 157 70 = iI 0 → I2 157 67 = iI (-1) → I2 157 68 = iI (-1) → I2 157 7 = iI 0 → I2 157 8 = iI (-1) → I2 157 1 = iI 0 → frG PSh I I2 → frG (fun q _ => q = 193) L L2 → Q (some (.int (iI (shN T n D0).1))) I2 L2 (aR sh su))
  (k2 : ¬ (shN T n D0).2.1.1 = 0 → ∀ (I2 : aFI) (L2 : aFL), I2 157 7 = iI (shN T n D0).2.1.1 → I2 157 8 = iI (shN T n D0).2.1.2.1 → I2 157 1 = iI 0 → I2 159 1 = iI ((I 159 1).toInt + 1) → frG PShf I I2 → frG PRl L L2 → Q (some (.int (iI (-1)))) I2 L2 (aR sh su)) : aWp none d 156 0 [.ref 157, .null] [] I L (aR sh su) Q := by
  rw [← oP_s (I := I)]
  generalize (I 157 2).toInt = a0
  generalize (I 157 4).toInt = en0
  generalize (I 157 5).toInt = b0
  generalize (I 157 6).toInt = bp0
  generalize (I 157 10).toInt = np0
  generalize (I 157 43).toInt = nm0
  refine w_aload c_156_0 rfl ?_
  refine w_aload c_156_1 rfl ?_
  refine z_getZ c_156_2 sp_157 (by decide) rfl hn1 ?_
  refine z_putZ c_156_5 sp_157 (by decide) rfl ?_
  refine oq_k (frG.rf (P := PShb) (I := I)) (by decide) (by decide) (fun Ia ea hFa => ?_)
  refine w_aload c_156_8 rfl ?_
  refine z_push c_156_9 ?_
  refine z_putZ c_156_10 sp_157 (by decide) rfl ?_
  refine oq_k hFa (by decide) (by decide) (fun Ib eb hFb => ?_)
  refine w_aload c_156_13 rfl ?_
  refine z_push c_156_14 ?_
  refine z_putZ c_156_15 sp_157 (by decide) rfl ?_
  rw [oP_at]
  refine w_aload c_156_18 rfl ?_
  refine z_push c_156_19 ?_
  refine z_putZ c_156_20 sp_157 (by decide) rfl ?_
  rw [oP_en]
  refine w_aload c_156_23 rfl ?_
  refine z_push c_156_24 ?_
  refine z_putZ c_156_25 sp_157 (by decide) rfl ?_
  rw [oP_bad]
  refine w_aload c_156_28 rfl ?_
  refine z_push c_156_29 ?_
  refine z_putZ c_156_30 sp_157 (by decide) rfl ?_
  rw [oP_bp]
  refine w_aload c_156_33 rfl ?_
  refine z_push c_156_34 ?_
  refine z_putZ c_156_35 sp_157 (by decide) rfl ?_
  refine oq_k hFb (by decide) (by decide) (fun Ic ec hFc => ?_)
  refine z_push c_156_38 ?_
  refine w_istore c_156_39 (Nat.le_of_ble_eq_true rfl) rfl ?_
  have hend : Ic 157 3 = iI n := by rw [ec, up_ne (by decide), eb, up_ne (by decide), ea]; exact up_eq
  have htp : Ic 157 1 = iI 0 := by rw [ec, up_ne (by decide), eb]; exact up_eq
  have h54 : Ic 157 54 = iI 0 := by rw [ec]; exact up_eq
  refine t_shore_40 (I0 := Ic) ?_ _ 0 Ic (Nat.lt_succ_self _) (by decide) (by decide) (fun p hp => by omega) frG.rf
  intro I2 c2 hG2
  have hF2 : frG PShb I I2 := hFc.tr (hG2.mono (fun q k z => by omega))
  refine w_aload c_156_65 rfl ?_
  refine w_getR c_156_66 sp_157 (by decide) rfl pr_157_50 ?_
  refine z_push c_156_69 ?_
  refine z_push c_156_70 ?_
  refine z_iastore c_156_71 sp_198 (by omega) (by decide) ?_
  refine oq_k hF2 (by decide) (by decide) (fun I3 e3 hF3 => ?_)
  refine w_aload c_156_72 rfl ?_
  refine w_getR c_156_73 sp_157 (by decide) rfl pr_157_50 ?_
  refine z_push c_156_76 ?_
  refine z_push c_156_77 ?_
  refine z_iastore c_156_78 sp_198 (by omega) (by decide) ?_
  refine oq_k hF3 (by decide) (by decide) (fun I4 e4 hF4 => ?_)
  refine w_aload c_156_79 rfl ?_
  refine w_getR c_156_80 sp_157 (by decide) rfl pr_157_50 ?_
  refine z_push c_156_83 ?_
  refine z_push c_156_84 ?_
  refine z_iastore c_156_85 sp_198 (by omega) (by decide) ?_
  refine oq_k hF4 (by decide) (by decide) (fun I5 e5 hF5 => ?_)
  refine w_aload c_156_86 rfl ?_
  refine wc_150 c_156_87 sp_157 (Nat.le_of_ble_eq_true rfl) (by omega) ?_
  have k5 : ∀ q k : Nat, ¬ q = 198 → I5 q k = I2 q k := fun q k hq => by rw [e5, up_ne (by omega), e4, up_ne (by omega), e3, up_ne (by omega)]
  have hB5 : oB I5 T n := ⟨(k5 157 3 (by decide)).trans ((hG2 157 3 (by omega)).trans hend), fun j h1 h2 => (hF5 158 _ (by omega)).trans (hT j h1 h2), hn, hTr⟩
  have hO5 : oW I5 := fun q hq j h1 h2 => (hF5 q _ (by unfold isWd at hq; omega)).trans (hO q hq j h1 h2)
  refine t_lakeTold hB5 hO5 (⟨rfl, by omega, by omega⟩ : rA T n 0 0) rfl (by omega) (fun I6 a6 en6 b6 bp6 np6 nm6 hC6 hv6 hF6 => ?_)
  have hF6x : frG PShb I I6 := hF5.tr (hF6.mono (fun q k z => by omega))
  have k6 : ∀ q k : Nat, ¬ q = 194 → I6 q k = I5 q k := fun q k hq => hF6 q k (fun z => hq z.1)
  refine r_v ?_
  refine w_aload c_156_90 rfl ?_
  refine z_push c_156_91 ?_
  refine z_putZ c_156_92 sp_157 (by decide) rfl ?_
  refine oq_k hF6x (by decide) (by decide) (fun I7 e7 hF7 => ?_)
  have k7 : ∀ q k : Nat, ¬ (q = 157 ∧ k = 55) → I7 q k = I6 q k := fun q k hq => by rw [e7]; exact up_ne hq
  have hB7 : oB I7 T n := ⟨(k7 157 3 (by decide)).trans ((hB5.rd (PLa.rd hF6)).1), fun j h1 h2 => (k7 158 _ (by omega)).trans ((hB5.rd (PLa.rd hF6)).2.1 j h1 h2), hn, hTr⟩
  have hO7 : oW I7 := fun q hq j h1 h2 => (k7 q _ (by unfold isWd at hq; omega)).trans (hO5.rd (PLa.rd hF6) q hq j h1 h2)
  refine t_shore_95 (I0 := I7) (L0 := L) hE hEn hEj (by omega) 100 1 (laC (tkK T n) (tkP T n) (tkZ T n)) (laD (tkZ T n) D0) (fun _ => none) I7 L _ _ _ _ _ _ hB7 hO7 hC6 (fun z => ?_) (by decide) (by decide) frG.rf frG.rf ?_
  · have hv := hv6 z
    have hlm := laC_m z
    refine ⟨⟨0, by omega, rB_la (fun p hp => ?_) ?_ ?_ ?_⟩, laD_wf hlm.2, by rw [e7]; exact up_eq, laC_E hE z, by decide⟩
    · rw [k7 192 p (by omega), k7 199 p (by omega), k6 192 p (by decide), k6 199 p (by decide), k5 192 p (by decide), k5 199 p (by decide)]
      exact c2 p hp
    · rw [k7 194 0 (by decide), k7 194 1 (by decide), k7 194 2 (by decide)]; exact hv
    · rw [k7 198 0 (by decide), k7 198 1 (by decide), k7 198 2 (by decide), k6 198 0 (by decide), k6 198 1 (by decide), k6 198 2 (by decide)]
      exact ⟨by rw [e5, up_ne (by decide), e4, up_ne (by decide), e3]; exact up_eq, by rw [e5, up_ne (by decide), e4]; exact up_eq, by rw [e5]; exact up_eq⟩
    · rw [k7 157 54 (by decide), k6 157 54 (by decide), k5 157 54 (by decide), hG2 157 54 (by omega)]; exact h54
  intro I8 L8 a8 en8 b8 bp8 np8 nm8 hC8 hr8 hF8 hG8
  have hb8 := hC8.2.1
  have hF8x : frG PShb I I8 := hF7.tr (hF8.mono (fun q k z => Or.inl z))
  have hF8y : frG (fun q k => PShb q k ∨ (q = 157 ∧ (k = 7 ∨ k = 8))) I I8 := hF8x.mono (fun q k z => Or.inl z)
  refine w_aload c_156_117 rfl ?_
  refine w_aload c_156_118 rfl ?_
  refine z_getZ c_156_119 sp_157 (by decide) rfl rfl ?_
  refine z_putZ c_156_122 sp_157 (by decide) rfl ?_
  refine oq_k hF8y (by decide) (by decide) (fun Id ed hFd => ?_)
  refine w_aload c_156_125 rfl ?_
  refine w_aload c_156_126 rfl ?_
  refine z_getZ c_156_127 sp_157 (by decide) rfl rfl ?_
  refine z_putZ c_156_130 sp_157 (by decide) rfl ?_
  refine oq_k hFd (by decide) (by decide) (fun Ie ee hFe => ?_)
  refine w_aload c_156_133 rfl ?_
  refine z_getZ c_156_134 sp_157 (by decide) rfl rfl ?_
  refine z_if_eq c_156_137 (by first | exact aRg_of _ | (unfold aRg; omega)) (fun h151_ => ?_) (fun h151_ => ?_)
  · refine w_aload c_156_152 rfl ?_
    refine wc_157 c_156_153 sp_157 (Nat.le_of_ble_eq_true rfl) (by omega) ?_
    have hz : (shN T n D0).2.1.1 = 0 := hC8.1.symm.trans h151_
    obtain ⟨⟨m, hmj, hRB⟩, hwf, hct, hcr, hCE⟩ := hr8 hz
    have hbp8 : bp8 = -1 := hC8.good3 hz
    have hRe : rB Ie L8 (shN T n D0).2.2.1 (shN T n D0).2.2.2 m := hRB.s55 (fun q k hq => by rw [ee, up_ne (by omega), ed, up_ne (by omega)]) (by rw [ee, up_ne (by decide), ed, up_ne (by decide)])
    have hee : Ie 157 55 = iI (shN T n D0).1 := by rw [ee, up_ne (by decide), ed, up_ne (by decide)]; exact hct
    refine t_stands (rB_oP hRe) (by omega) hwf (fun If Lf f1 f2 f3 f4 f5 f6 f7 hFf hGf => ?_)
    refine r_v ?_
    refine w_aload c_156_156 rfl ?_
    refine z_getZ c_156_157 sp_157 (by decide) rfl ((hFf 157 55 (by decide)).trans hee) ?_
    refine z_ret c_156_160 rfl ?_
    have h1 : ∀ q k : Nat, ¬ (q = 157 ∧ (k = 2 ∨ k = 4 ∨ k = 5 ∨ k = 6 ∨ k = 10 ∨ k = 43)) → oP Ie a8 en8 b8 bp8 np8 nm8 q k = Ie q k := fun q k hq => by
      unfold oP
      repeat rw [if_neg (by omega)]
    refine k1 hz If Lf hwf hcr f1 f2 f3 f4 f5 f6 f7 ?_ ?_ ?_ ?_ ?_
    · rw [hFf 157 7 (by omega), h1 157 7 (by decide), ee, up_ne (by decide), ed, up_eq, h151_]
    · rw [hFf 157 8 (by omega), h1 157 8 (by decide), ee, up_eq, hbp8]
    · rw [hFf 157 1 (by omega), h1 157 1 (by decide), ee, up_ne (by decide), ed, up_ne (by decide), hF8 157 1 (by omega), e7, up_ne (by decide), hF6 157 1 (by omega), k5 157 1 (by decide), hG2 157 1 (by omega)]; exact htp
    · intro q k hq
      rw [hFf q k (by omega), h1 q k (by omega), hFe q k (by omega)]
    · intro q k hq
      rw [hGf q k (by omega), hG8 q k (by omega)]
  · refine w_aload c_156_140 rfl ?_
    refine w_getR c_156_141 sp_157 (by decide) rfl pr_157_9 ?_
    refine z_push c_156_144 ?_
    refine w_dup2 c_156_145 rfl rfl ?_
    refine z_iaload c_156_146 sp_159 (by omega) (by first | decide | omega) (iI_of _) ?_
    refine z_push c_156_147 ?_
    refine z_iadd c_156_148 ?_
    refine z_iastore c_156_149 sp_159 (by omega) (by decide) ?_
    refine z_push c_156_150 ?_
    refine z_ret c_156_151 rfl ?_
    have hz : ¬ (shN T n D0).2.1.1 = 0 := fun z => h151_ (hC8.1.trans z)
    have hbp8 : bp8 = (shN T n D0).2.1.2.1 := (hC8.2.2.2 h151_).2
    have hb8c : b8 = (shN T n D0).2.1.1 := hC8.1
    have h1 : ∀ q k : Nat, ¬ (q = 157 ∧ (k = 2 ∨ k = 4 ∨ k = 5 ∨ k = 6 ∨ k = 10 ∨ k = 43)) → oP Ie a8 en8 b8 bp8 np8 nm8 q k = Ie q k := fun q k hq => by
      unfold oP
      repeat rw [if_neg (by omega)]
    refine k2 hz _ L8 ?_ ?_ ?_ ?_ ?_ hG8
    · rw [up_ne (by decide), h1 157 7 (by decide), ee, up_ne (by decide), ed, ← hb8c]; exact up_eq
    · rw [up_ne (by decide), h1 157 8 (by decide), ee, ← hbp8]; exact up_eq
    · rw [up_ne (by decide), h1 157 1 (by decide), ee, up_ne (by decide), ed, up_ne (by decide), hF8 157 1 (by omega), e7, up_ne (by decide), hF6 157 1 (by omega), k5 157 1 (by decide), hG2 157 1 (by omega)]; exact htp
    · refine up_eq.trans ?_
      show iI ((oP Ie a8 en8 b8 bp8 np8 nm8 159 1).toInt + 1) = _
      rw [h1 159 1 (by decide), hFe 159 1 (by omega)]
    · intro q k hq
      rw [up_ne (by omega), h1 q k (by omega), hFe q k (by omega)]

