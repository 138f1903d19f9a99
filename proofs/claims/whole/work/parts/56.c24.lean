/-! the class: can be, readable, faded (p56.py) -/
theorem drwZ_rg {D : Nat → Int → Int} {cd : Nat → Option (List Int)} {X : Lk} {de : Int} (hS : wfS D cd) (h : 0 ≤ de ∧ de < D 1 2) : 0 ≤ drwZ D cd X de ∧ drwZ D cd X de ≤ 9999 := by
  have := hS.de h.1 h.2
  unfold drwZ; split
  · omega
  · exact cutz_in (by omega)
section CB
variable {D : Nat → Int → Int} {cd : Nat → Option (List Int)} {X : Lk} {de : Int}
theorem cbZ_w (h : tb X.2.2.2.1 de = true) : cbZ D cd X de = false := by unfold cbZ; rw [h]; rfl
theorem cbZ_s (h : ¬ X.1 ≤ D 9 de) : cbZ D cd X de = false := by unfold cbZ; rw [decide_eq_false h]; cases tb X.2.2.2.1 de <;> rfl
theorem cbZ_b (h : ¬ drwZ D cd X de ≤ X.2.1) : cbZ D cd X de = false := by unfold cbZ; rw [decide_eq_false h]; cases tb X.2.2.2.1 de <;> cases decide (X.1 ≤ D 9 de) <;> rfl
theorem cbZ_m {v : Bool} (h : tb X.2.2.2.1 de = false) (h2 : X.1 ≤ D 9 de) (h3 : drwZ D cd X de ≤ X.2.1) (h4 : mayZ D cd X de = v) : cbZ D cd X de = v := by unfold cbZ; rw [h, decide_eq_true h2, decide_eq_true h3, h4]; rfl
end CB
set_option maxHeartbeats 1000000 in
theorem tc_canBe {d : Nat} {I0 : aFI} {L : aFL} {Q : aPo} {sh : Nat} {su : Option Nat} {D : Nat → Int → Int} {cd : Nat → Option (List Int)} {kc : Int} {X : Lk} {q : Nat} (hsh : sh = 8 ∨ sh = 22) (hl : aLk0 q) (hS : wfS D cd) (hW : cW I0 sh D cd) (hL : isLk I0 q X.1 X.2.1 X.2.2.1 X.2.2.2.1 kc X.2.2.2.2.1 X.2.2.2.2.2) (hX : lkOK X) {de : Int} (hde : 0 ≤ de ∧ de < D 1 2) (hdr : -1000000 ≤ (I0 42 1).toInt ∧ (I0 42 1).toInt ≤ 1000000) (hd : 6 ≤ d) (k : ∀ I : aFI, frP P43 I0 I → Q (some (.int (aBo (cbZ D cd X de)))) I L (aR sh su)) : aWp none d 49 0 [.ref 42, .ref q, .int (iI de)] [] I0 L (aR sh su) Q := by
  obtain ⟨s, b, g, w, ink, age⟩ := X
  have hq := aLk_all hl
  have hx1 := hX.1
  have hx2 := hX.2.1
  have hx3 := hX.2.2.1
  have hx4 := hX.2.2.2.1
  have hx5 := hX.2.2.2.2
  have hdd := hS.n
  have hde2 := hS.de hde.1 hde.2
  have hhh := hS.h
  simp only at hx1 hx2 hx3 hx4 hx5 hL
  obtain ⟨I, hI⟩ : ∃ I : aFI, I = I0 := ⟨I0, rfl⟩
  rw [← hI] at hW hL ⊢
  have hF : frP P43 I0 I := hI ▸ frP.rf
  clear hI
  have hdr : -1000000 ≤ (I 42 1).toInt ∧ (I 42 1).toInt ≤ 1000000 := by rw [hF 42 1 (by decide)]; exact hdr
  refine w_aload c_49_0 rfl ?_
  refine w_iload c_49_1 rfl ?_
  refine wc_8 c_49_2 hq.1 (Nat.le_of_ble_eq_true rfl) (by omega) ?_
  refine tc_isWritten hl hL hx4 ⟨hde.1, by omega⟩ ?_
  refine r_i ?_
  refine b_if_ne c_49_5 (fun h1_ => ?_) (fun h1_ => ?_)
  · refine z_push c_49_37 ?_
    refine z_ret0 c_49_38 rfl ?_
    first
    | exact q_b (k I hF) (cbZ_w h1_)
    | exact q_b (k I hF) (cbZ_b (by show ¬ _ ≤ b; omega))
    | exact q_b (k I hF) (cbZ_s (by show ¬ s ≤ _; omega))
  · refine w_aload c_49_8 rfl ?_
    refine z_getZ c_49_9 hq.1 (by decide) rfl hL.1 ?_
    refine w_aload c_49_12 rfl ?_
    refine w_getR c_49_13 sp_42 (by decide) rfl pr_42_0 ?_
    refine w_getR c_49_16 (sps_0 hsh) (by decide) rfl (prs_12 hsh) ?_
    refine w_iload c_49_19 rfl ?_
    refine z_iaload c_49_20 (sps_9 hsh) (by omega) (by first | decide | omega) (hW.1.a 9 (by omega) (by omega)) ?_
    refine z_ic_gt c_49_21 (by first | exact aRg_of _ | (unfold aRg; omega)) (by first | exact aRg_of _ | (unfold aRg; omega)) (fun h2_ => ?_) (fun h2_ => ?_)
    · refine z_push c_49_37 ?_
      refine z_ret0 c_49_38 rfl ?_
      first
      | exact q_b (k I hF) (cbZ_w h1_)
      | exact q_b (k I hF) (cbZ_b (by show ¬ _ ≤ b; omega))
      | exact q_b (k I hF) (cbZ_s (by show ¬ s ≤ _; omega))
    · refine w_aload c_49_24 rfl ?_
      refine z_getZ c_49_25 hq.1 (by decide) rfl hL.2.1 ?_
      refine w_aload c_49_28 rfl ?_
      refine w_aload c_49_29 rfl ?_
      refine w_iload c_49_30 rfl ?_
      refine wc_48 c_49_31 sp_42 (Nat.le_of_ble_eq_true rfl) (by omega) ?_
      refine tc_drawnBy (X := (s, b, g, w, ink, age)) hsh hl hS hW hL hX hde hdr (by omega) (fun I hf => ?_)
      have hdw := drwZ_rg (X := (s, b, g, w, ink, age)) hS hde
      have hdr : -1000000 ≤ (I 42 1).toInt ∧ (I 42 1).toInt ≤ 1000000 := by rw [hf 42 1 (by decide)]; exact hdr
      have hF := hF.tr hf
      have hW := hW.f43 hsh hf
      have hL := hL.f43 hl hf
      refine r_i ?_
      refine z_ic_ge c_49_34 (by first | exact aRg_of _ | (unfold aRg; omega)) (by first | exact aRg_of _ | (unfold aRg; omega)) (fun h3_ => ?_) (fun h3_ => ?_)
      · rcases hW.2 2 (by omega) with ⟨q1, q2⟩ | ⟨l, f, q1, q2, q3, q4, q5⟩
        · refine w_aload c_49_39 rfl ?_
          refine w_getR c_49_40 sp_42 (by decide) rfl pr_42_0 ?_
          refine w_getR c_49_43 (sps_0 hsh) (by decide) rfl (prs_13 hsh) ?_
          refine z_push c_49_46 ?_
          refine wc_73 c_49_47 (sps_10 hsh) (Nat.le_of_ble_eq_true rfl) (by omega) ?_
          refine tc_isTold (aSm_sh hsh) (by omega) q2 (by omega) ?_
          refine r_i ?_
          refine b_if_eq c_49_50 (fun h11_ => ?_) (fun h11_ => ?_)
          rotate_left
          · exact absurd h11_ (by decide)
          refine z_push c_49_70 ?_
          refine w_goto c_49_71 ?_
          refine z_ret1 c_49_75 rfl ?_
          refine q_b (k I hF) (cbZ_m h1_ (by show s ≤ _; omega) (by show _ ≤ b; omega) ?_)
          unfold mayZ; rw [q1]
        · obtain ⟨ht, hok⟩ := hS.c (by omega) q1
          have h42 : I 42 1 = iI (I 42 1).toInt := iI_of _
          generalize (I 42 1).toInt = dr at hdr h42
          have hE : eOK (envZ D s b g ink age de dr) := eOK_dr (envZ_ok hS hde.1 hde.2 hx1 hx2 (hx5 de hde.1 (by omega)).1 (hx5 de hde.1 (by omega)).2 (by omega)) hdr
          refine w_aload c_49_39 rfl ?_
          refine w_getR c_49_40 sp_42 (by decide) rfl pr_42_0 ?_
          refine w_getR c_49_43 (sps_0 hsh) (by decide) rfl (prs_13 hsh) ?_
          refine z_push c_49_46 ?_
          refine wc_73 c_49_47 (sps_10 hsh) (Nat.le_of_ble_eq_true rfl) (by omega) ?_
          refine tc_isTold (aSm_sh hsh) (by omega) q3 (by omega) ?_
          refine r_i ?_
          refine b_if_eq c_49_50 (fun h11_ => ?_) (fun h11_ => ?_)
          · simp only [decide_eq_false_iff_not] at h11_; exfalso; omega
          refine w_aload c_49_53 rfl ?_
          refine w_aload c_49_54 rfl ?_
          refine w_getR c_49_55 sp_42 (by decide) rfl pr_42_0 ?_
          refine w_getR c_49_58 (sps_0 hsh) (by decide) rfl (prs_13 hsh) ?_
          refine z_push c_49_61 ?_
          refine w_aload c_49_62 rfl ?_
          refine w_iload c_49_63 rfl ?_
          refine wc_55 c_49_64 sp_42 (Nat.le_of_ble_eq_true rfl) (by omega) ?_
          refine tc_reckon (fr := f) (to := f + l.length) (l := l) (t := _) hsh hl (aSm_sh hsh) hW.1 hL h42 (by omega) ⟨hde.1, by omega⟩ ⟨hde2.1.1, by omega⟩ ⟨hx2.1, by omega⟩ ⟨hx3.1, by omega⟩ hE (by omega) q4 ⟨q2.1, rfl, by omega⟩ q3 q5 ht (fun I hf => ?_)
          have hv := (valC_ok (vl := D 6 de) hE ht).1
          have hv2 := hv.2
          have hF := hF.tr hf
          have hW := hW.f43 hsh hf
          have hL := hL.f43 hl hf
          refine r_i ?_
          refine z_if_eq c_49_67 (by first | exact aRg_of _ | (unfold aRg; omega)) (fun h12_ => ?_) (fun h12_ => ?_)
          · refine z_push c_49_74 ?_
            refine z_ret0 c_49_75 rfl ?_
            refine q_b (k I hF) (cbZ_m h1_ (by show s ≤ _; omega) (by show _ ≤ b; omega) ?_)
            unfold mayZ; rw [q1]
            have e9 := val_drw (D := D) (s := s) (b := b) (g := g) (ink := ink) (age := age) (de := de) (dr := dr) (v := D 6 de) (ink2 := fun _ => 0) (age2 := fun _ => 0) (dr2 := 0) (v2 := 0) (by decide) hok
            have hv1 := hv.1 rfl
            show decide (valC (envZ D s b g (fun _ => 0) (fun _ => 0) de 0) 0 l = 1) = _
            rw [← e9]
            exact decide_eq_false (by omega)
          · refine z_push c_49_70 ?_
            refine w_goto c_49_71 ?_
            refine z_ret1 c_49_75 rfl ?_
            refine q_b (k I hF) (cbZ_m h1_ (by show s ≤ _; omega) (by show _ ≤ b; omega) ?_)
            unfold mayZ; rw [q1]
            have e9 := val_drw (D := D) (s := s) (b := b) (g := g) (ink := ink) (age := age) (de := de) (dr := dr) (v := D 6 de) (ink2 := fun _ => 0) (age2 := fun _ => 0) (dr2 := 0) (v2 := 0) (by decide) hok
            have hv1 := hv.1 rfl
            show decide (valC (envZ D s b g (fun _ => 0) (fun _ => 0) de 0) 0 l = 1) = _
            rw [← e9]
            exact decide_eq_true (by omega)
      · refine z_push c_49_37 ?_
        refine z_ret0 c_49_38 rfl ?_
        first
        | exact q_b (k I hF) (cbZ_w h1_)
        | exact q_b (k I hF) (cbZ_b (by show ¬ _ ≤ b; omega))
        | exact q_b (k I hF) (cbZ_s (by show ¬ s ≤ _; omega))

set_option maxHeartbeats 1000000 in
theorem tc_fadedBy {d : Nat} {I0 : aFI} {L : aFL} {Q : aPo} {sh : Nat} {su : Option Nat} {D : Nat → Int → Int} {cd : Nat → Option (List Int)} {kc : Int} {X : Lk} {q : Nat} (hsh : sh = 8 ∨ sh = 22) (hl : aLk0 q) (hS : wfS D cd) (hW : cW I0 sh D cd) (hL : isLk I0 q X.1 X.2.1 X.2.2.1 X.2.2.2.1 kc X.2.2.2.2.1 X.2.2.2.2.2) (hX : lkOK X) {de : Int} (hde : 0 ≤ de ∧ de < D 1 2) (hdr : -1000000 ≤ (I0 42 1).toInt ∧ (I0 42 1).toInt ≤ 1000000) (hd : 5 ≤ d) (k : ∀ I : aFI, frP P43 I0 I → Q (some (.int (iI (fdZ D cd X.1 X.2.2.2.2.1 X.2.2.2.2.2 de)))) I L (aR sh su)) : aWp none d 54 0 [.ref 42, .ref q, .int (iI de)] [] I0 L (aR sh su) Q := by
  obtain ⟨s, b, g, w, ink, age⟩ := X
  have hq := aLk_all hl
  have hx1 := hX.1
  have hx2 := hX.2.1
  have hx3 := hX.2.2.1
  have hx4 := hX.2.2.2.1
  have hx5 := hX.2.2.2.2
  have hdd := hS.n
  have hde2 := hS.de hde.1 hde.2
  have hhh := hS.h
  simp only at hx1 hx2 hx3 hx4 hx5 hL
  obtain ⟨I, hI⟩ : ∃ I : aFI, I = I0 := ⟨I0, rfl⟩
  rw [← hI] at hW hL ⊢
  have hF : frP P43 I0 I := hI ▸ frP.rf
  clear hI
  have hdr : -1000000 ≤ (I 42 1).toInt ∧ (I 42 1).toInt ≤ 1000000 := by rw [hF 42 1 (by decide)]; exact hdr
  rcases hW.2 1 (by omega) with ⟨q1, q2⟩ | ⟨l, f, q1, q2, q3, q4, q5⟩
  · refine w_aload c_54_0 rfl ?_
    refine w_getR c_54_1 sp_42 (by decide) rfl pr_42_0 ?_
    refine w_getR c_54_4 (sps_0 hsh) (by decide) rfl (prs_13 hsh) ?_
    refine z_push c_54_7 ?_
    refine wc_73 c_54_8 (sps_10 hsh) (Nat.le_of_ble_eq_true rfl) (by omega) ?_
    refine tc_isTold (aSm_sh hsh) (by omega) q2 (by omega) ?_
    refine r_i ?_
    refine b_if_ne c_54_11 (fun h11_ => ?_) (fun h11_ => ?_)
    · exact absurd h11_ (by decide)
    refine z_push c_54_14 ?_
    refine z_ret c_54_15 rfl ?_
    refine q_i (k I hF) ?_
    unfold fdZ; rw [q1]
  · obtain ⟨ht, hok⟩ := hS.c (by omega) q1
    have h42 : I 42 1 = iI (I 42 1).toInt := iI_of _
    generalize (I 42 1).toInt = dr at hdr h42
    have hE : eOK (envZ D s b g ink age de dr) := eOK_dr (envZ_ok hS hde.1 hde.2 hx1 hx2 (hx5 de hde.1 (by omega)).1 (hx5 de hde.1 (by omega)).2 (by omega)) hdr
    refine w_aload c_54_0 rfl ?_
    refine w_getR c_54_1 sp_42 (by decide) rfl pr_42_0 ?_
    refine w_getR c_54_4 (sps_0 hsh) (by decide) rfl (prs_13 hsh) ?_
    refine z_push c_54_7 ?_
    refine wc_73 c_54_8 (sps_10 hsh) (Nat.le_of_ble_eq_true rfl) (by omega) ?_
    refine tc_isTold (aSm_sh hsh) (by omega) q3 (by omega) ?_
    refine r_i ?_
    refine b_if_ne c_54_11 (fun h11_ => ?_) (fun h11_ => ?_)
    rotate_left
    · simp only [decide_eq_false_iff_not] at h11_; exfalso; omega
    refine z_push c_54_16 ?_
    refine w_aload c_54_17 rfl ?_
    refine w_aload c_54_18 rfl ?_
    refine w_getR c_54_19 sp_42 (by decide) rfl pr_42_0 ?_
    refine w_getR c_54_22 (sps_0 hsh) (by decide) rfl (prs_13 hsh) ?_
    refine z_push c_54_25 ?_
    refine w_aload c_54_26 rfl ?_
    refine w_iload c_54_27 rfl ?_
    refine wc_55 c_54_28 sp_42 (Nat.le_of_ble_eq_true rfl) (by omega) ?_
    refine tc_reckon (fr := f) (to := f + l.length) (l := l) (t := _) hsh hl (aSm_sh hsh) hW.1 hL h42 (by omega) ⟨hde.1, by omega⟩ ⟨hde2.1.1, by omega⟩ ⟨hx2.1, by omega⟩ ⟨hx3.1, by omega⟩ hE (by omega) q4 ⟨q2.1, rfl, by omega⟩ q3 q5 ht (fun I hf => ?_)
    have hv := (valC_ok (vl := D 6 de) hE ht).1
    have hv2 := hv.2
    have hF := hF.tr hf
    have hW := hW.f43 hsh hf
    have hL := hL.f43 hl hf
    have hv1 := hv.2
    have hxd := hx5 de hde.1 (by omega)
    refine r_i ?_
    refine z_i2l c_54_31 (by first | exact aRg_of _ | (unfold aRg; omega)) ?_
    refine w_aload c_54_32 rfl ?_
    refine w_getR c_54_33 hq.1 (by decide) rfl (hq.2.2.2 _ _).1 ?_
    refine w_iload c_54_36 rfl ?_
    refine z_iaload c_54_37 hq.2.1 (by omega) (by first | decide | omega) (hL.2.2.2.2.2 _ (by omega) (by omega)).1 ?_
    refine wc_59 c_54_38 (Nat.le_of_ble_eq_true rfl) (by omega) ?_
    refine tc_between (by omega) (by omega) (by omega) ?_
    refine r_i ?_
    refine z_ret c_54_41 rfl ?_
    refine q_i (k I hF) ?_
    unfold fdZ; rw [q1]; have e9 := val_fad (D := D) (s := s) (b := b) (g := g) (ink := ink) (age := age) (de := de) (dr := dr) (v := D 6 de) (b2 := 0) (g2 := 0) (ink2 := ink) (age2 := age) (dr2 := 0) (v2 := 0) hok rfl rfl
    rw [e9]; rfl
set_option maxHeartbeats 1000000 in
theorem tc_readable_1 {d : Nat} {I : aFI} {L : aFL} {Q : aPo} {sh : Nat} {su : Option Nat} {D : Nat → Int → Int} {cd : Nat → Option (List Int)} {kc : Int} {X : Lk} {q : Nat} (hsh : sh = 8 ∨ sh = 22) (hl : aLk0 q) (hS : wfS D cd) (hW : cW I sh D cd) (hL : isLk I q X.1 X.2.1 X.2.2.1 X.2.2.2.1 kc X.2.2.2.2.1 X.2.2.2.2.2) (hX : lkOK X) (hd : 3 ≤ d) : ∀ (n : Nat) (i : Int), (D 1 2 - i).toNat < n → (0 ≤ i) → (i ≤ D 1 2) → (Q (some (.int (iI ((rdZ D X : Nat) : Int)))) I L (aR sh su)) → aWp none d 50 4 [.ref 42, .ref q, .int (iI ((bb (fun j : Nat => X.2.2.2.1.testBit j && decide (D 0 15 ≤ X.2.2.2.2.1 j)) i.toNat : Nat) : Int)), .int (iI i)] [] I L (aR sh su) Q := by
  intro n
  induction n with
  | zero => intro i h; omega
  | succ n ih =>
    intro i hn h0 h1 k
    have hq := aLk_all hl
    have hdd := hS.n
    have hhh := hS.h
    have hlt := bb_lt8 (fun j : Nat => X.2.2.2.1.testBit j && decide (D 0 15 ≤ X.2.2.2.2.1 j)) (n := i.toNat) (by omega)
    have hxi := fun h : i < 8 => (hX.2.2.2.2 i h0 h).1
    have hit : ((i.toNat : Nat) : Int) = i := Int.toNat_of_nonneg h0
    have hst : (i + 1).toNat = i.toNat + 1 := by omega
    refine w_iload c_50_4 rfl ?_
    refine w_aload c_50_5 rfl ?_
    refine w_getR c_50_6 sp_42 (by decide) rfl pr_42_0 ?_
    refine w_getR c_50_9 (sps_0 hsh) (by decide) rfl (prs_4 hsh) ?_
    refine z_push c_50_12 ?_
    refine z_iaload c_50_13 (sps_1 hsh) (by omega) (by first | decide | omega) (hW.1.a 1 (by omega) (by omega)) ?_
    refine z_ic_ge c_50_14 (by first | exact aRg_of _ | (unfold aRg; omega)) (by first | exact aRg_of _ | (unfold aRg; omega)) (fun h1_ => ?_) (fun h1_ => ?_)
    · refine w_iload c_50_53 rfl ?_
      refine z_ret c_50_54 rfl ?_
      refine q_i k ?_
      unfold rdZ
      rw [show i = D 1 2 by omega]
    · refine w_aload c_50_17 rfl ?_
      refine w_iload c_50_18 rfl ?_
      refine wc_8 c_50_19 hq.1 (Nat.le_of_ble_eq_true rfl) (by omega) ?_
      refine tc_isWritten hl hL hX.2.2.2.1 ⟨h0, by omega⟩ ?_
      have hxi := hxi (by omega)
      refine r_i ?_
      refine b_if_eq c_50_22 (fun h2_ => ?_) (fun h2_ => ?_)
      · refine z_iinc c_50_47 rfl rfl ?_
        refine w_goto c_50_50 ?_
        have e9 : bb (fun j : Nat => X.2.2.2.1.testBit j && decide (D 0 15 ≤ X.2.2.2.2.1 j)) (i + 1).toNat = bb (fun j : Nat => X.2.2.2.1.testBit j && decide (D 0 15 ≤ X.2.2.2.2.1 j)) i.toNat := by
          rw [hst]; simp only [bb, hit]
          rw [if_neg (by simp only [Bool.and_eq_true, decide_eq_true_eq]; rintro ⟨z1, z2⟩; first | omega | exact Bool.noConfusion ((show tb X.2.2.2.1 i = true from z1).symm.trans (show tb X.2.2.2.1 i = false by assumption)))]
        have := ih (i + 1) (by omega) (by omega) (by omega) k
        rw [e9] at this
        exact this
      · refine w_aload c_50_25 rfl ?_
        refine w_getR c_50_26 hq.1 (by decide) rfl (hq.2.2.2 _ _).1 ?_
        refine w_iload c_50_29 rfl ?_
        refine z_iaload c_50_30 hq.2.1 (by omega) (by first | decide | omega) (hL.2.2.2.2.2 _ (by omega) (by omega)).1 ?_
        refine w_aload c_50_31 rfl ?_
        refine w_getR c_50_32 sp_42 (by decide) rfl pr_42_0 ?_
        refine z_getZ c_50_35 (sps_0 hsh) (by decide) rfl hW.1.2.1.2.2.2.2.1 ?_
        refine z_ic_lt c_50_38 (by first | exact aRg_of _ | (unfold aRg; omega)) (by first | exact aRg_of _ | (unfold aRg; omega)) (fun h3_ => ?_) (fun h3_ => ?_)
        · refine z_iinc c_50_47 rfl rfl ?_
          refine w_goto c_50_50 ?_
          have e9 : bb (fun j : Nat => X.2.2.2.1.testBit j && decide (D 0 15 ≤ X.2.2.2.2.1 j)) (i + 1).toNat = bb (fun j : Nat => X.2.2.2.1.testBit j && decide (D 0 15 ≤ X.2.2.2.2.1 j)) i.toNat := by
            rw [hst]; simp only [bb, hit]
            rw [if_neg (by simp only [Bool.and_eq_true, decide_eq_true_eq]; rintro ⟨z1, z2⟩; first | omega | exact Bool.noConfusion ((show tb X.2.2.2.1 i = true from z1).symm.trans (show tb X.2.2.2.1 i = false by assumption)))]
          have := ih (i + 1) (by omega) (by omega) (by omega) k
          rw [e9] at this
          exact this
        · refine w_iload c_50_41 rfl ?_
          refine z_push c_50_42 ?_
          refine w_iload c_50_43 rfl ?_
          refine w_ishl c_50_44 (shl1 (by omega)) ?_
          refine w_ior c_50_45 (iI_or _ _) ?_
          refine w_istore c_50_46 (Nat.le_of_ble_eq_true rfl) rfl ?_
          refine z_iinc c_50_47 rfl rfl ?_
          refine w_goto c_50_50 ?_
          have e9 : bb (fun j : Nat => X.2.2.2.1.testBit j && decide (D 0 15 ≤ X.2.2.2.2.1 j)) (i + 1).toNat = bb (fun j : Nat => X.2.2.2.1.testBit j && decide (D 0 15 ≤ X.2.2.2.2.1 j)) i.toNat ||| 2 ^ i.toNat := by
            rw [hst]; simp only [bb, hit]
            rw [if_pos (by simp only [Bool.and_eq_true, decide_eq_true_eq]; exact ⟨by assumption, by omega⟩)]
          have := ih (i + 1) (by omega) (by omega) (by omega) k
          rw [e9] at this
          exact this

set_option maxHeartbeats 1000000 in
theorem tc_readable {d : Nat} {I : aFI} {L : aFL} {Q : aPo} {sh : Nat} {su : Option Nat} {D : Nat → Int → Int} {cd : Nat → Option (List Int)} {kc : Int} {X : Lk} {q : Nat} (hsh : sh = 8 ∨ sh = 22) (hl : aLk0 q) (hS : wfS D cd) (hW : cW I sh D cd) (hL : isLk I q X.1 X.2.1 X.2.2.1 X.2.2.2.1 kc X.2.2.2.2.1 X.2.2.2.2.2) (hX : lkOK X) (hd : 3 ≤ d) (k : Q (some (.int (iI ((rdZ D X : Nat) : Int)))) I L (aR sh su)) : aWp none d 50 0 [.ref 42, .ref q, .null, .null] [] I L (aR sh su) Q := by
  have hdd := hS.n
  refine z_push c_50_0 ?_
  refine w_istore c_50_1 (Nat.le_of_ble_eq_true rfl) rfl ?_
  refine z_push c_50_2 ?_
  refine w_istore c_50_3 (Nat.le_of_ble_eq_true rfl) rfl ?_
  exact tc_readable_1 hsh hl hS hW hL hX hd _ 0 (Nat.lt_succ_self _) (by omega) (by omega) k

