/-! both sides: share (p78.py) -/
def shrZ (D : Nat → Int → Int) (cd : Nat → Option (List Int)) (X : Lk) (v : Int) : Int := if D 0 0 = 1 ∧ 0 ≤ v ∧ v ≤ 2 then (if v = 0 then ((shF D cd X (D 1 2).toNat (2 ^ (D 1 2).toNat - 1)).1 : Int) else if v = 1 then shV D (shF D cd X (D 1 2).toNat (2 ^ (D 1 2).toNat - 1)).1 (D 1 2).toNat else (shF D cd X (D 1 2).toNat (2 ^ (D 1 2).toNat - 1)).2) else -1
theorem shF_le {D : Nat → Int → Int} {cd : Nat → Option (List Int)} {X : Lk} {n : Nat} (k : Nat) : (shF D cd X n k).1 ≤ k ∧ (shF D cd X n k).2 = shQ D cd X (shF D cd X n k).1 n := ⟨(shF_bst k).1, (shF_bst k).2.2.1⟩
set_option maxHeartbeats 1000000 in
theorem tc_sbegin {d : Nat} {I : aFI} {L : aFL} {Q : aPo} {sh : Nat} {su : Option Nat} {kc : Int} {X : Lk} (hL : lkX I 36 kc X) (hd : 2 ≤ d) (k : ∀ I2 : aFI, lkX I2 107 kc X → shI I2 0 0 0 (0, -1, 0) → frP PSH I I2 → Q none I2 L (aR sh su)) : aWp none d 61 0 [.ref 106, .ref 36] [] I L (aR sh su) Q := by
  refine w_aload c_61_0 rfl ?_
  refine w_getR c_61_1 sp_106 (by decide) rfl pr_106_0 ?_
  refine w_aload c_61_4 rfl ?_
  refine wc_6 c_61_5 sp_107 (Nat.le_of_ble_eq_true rfl) (by omega) ?_
  refine tc_copyOf aLk_107 aLk_36 (by decide) hL (by omega) (fun I1 hL1 hF1 => ?_)
  have hF1 : frP PSH I I1 := hF1.mono (fun p hp => by have hp : 107 ≤ p ∧ p ≤ 107 + 2 := hp; show p = 43 ∨ (106 ≤ p ∧ p ≤ 109); omega)
  refine r_v ?_
  refine w_aload c_61_8 rfl ?_
  refine z_push c_61_9 ?_
  refine z_putZ c_61_10 sp_106 (by decide) rfl ?_
  refine w_aload c_61_13 rfl ?_
  refine z_push c_61_14 ?_
  refine z_putZ c_61_15 sp_106 (by decide) rfl ?_
  refine w_aload c_61_18 rfl ?_
  refine z_push c_61_19 ?_
  refine z_putZ c_61_20 sp_106 (by decide) rfl ?_
  refine w_aload c_61_23 rfl ?_
  refine z_push c_61_24 ?_
  refine z_putZ c_61_25 sp_106 (by decide) rfl ?_
  refine w_aload c_61_28 rfl ?_
  refine z_push c_61_29 ?_
  refine z_putZ c_61_30 sp_106 (by decide) rfl ?_
  refine w_aload c_61_33 rfl ?_
  refine z_push c_61_34 ?_
  refine z_putZ c_61_35 sp_106 (by decide) rfl ?_
  refine z_retv c_61_38 ?_
  exact k _ (hL1.fr (fun p k z1 z2 => by rw [up_ne (by omega), up_ne (by omega), up_ne (by omega), up_ne (by omega), up_ne (by omega), up_ne (by omega)])) ⟨rfl, rfl, rfl, rfl, rfl, rfl⟩ ((((((hF1.up (Or.inr (by omega))).up (Or.inr (by omega))).up (Or.inr (by omega))).up (Or.inr (by omega))).up (Or.inr (by omega))).up (Or.inr (by omega)))

set_option maxHeartbeats 1000000 in
theorem tc_share {d : Nat} {I : aFI} {L : aFL} {Q : aPo} {sh : Nat} {su : Option Nat} {D : Nat → Int → Int} {cd : Nat → Option (List Int)} {X : Lk} {kc : Int} (hsh : sh = 8 ∨ sh = 22) (hS : wfS D cd) (hW : cW I sh D cd) (hL : lkX I 36 kc X) (hX : lkOK X) {v : Int} (rv : -2147483648 ≤ v ∧ v < 2147483648) (hdr : -1000000 ≤ (I 42 1).toInt ∧ (I 42 1).toInt ≤ 1000000) (hd : 20 ≤ d) (k : ∀ I2 : aFI, frP PSH I I2 → Q (some (.int (iI (shrZ D cd X v)))) I2 L (aR sh su)) : aWp none d 91 0 [.ref 0, .int (iI v)] [] I L (aR sh su) Q := by
  have hdd := hS.n
  have hx1 := hX.1
  have hx2 := hX.2.1
  have hx3 := hX.2.2.1
  have hx4 := hX.2.2.2.1
  refine w_aload c_91_0 rfl ?_
  refine w_getR c_91_1 sp_0 (by decide) rfl pr_0_3 ?_
  refine z_getB c_91_4 (sps_0 hsh) (by decide) rfl hW.1.1 ?_
  refine b_if_eq c_91_7 (fun h1_ => ?_) (fun h1_ => ?_)
  · refine z_push c_91_19 ?_
    refine z_ret c_91_20 rfl ?_
    refine q_i (k _ frP.rf) ?_
    unfold shrZ
    rw [if_neg (fun z => by first | exact Bool.noConfusion ((decide_eq_true z.1).symm.trans (show _ = false by assumption)) | omega)]
  · refine w_iload c_91_10 rfl ?_
    refine z_if_lt c_91_11 (by first | exact aRg_of _ | (unfold aRg; omega)) (fun h2_ => ?_) (fun h2_ => ?_)
    · refine z_push c_91_19 ?_
      refine z_ret c_91_20 rfl ?_
      refine q_i (k _ frP.rf) ?_
      unfold shrZ
      rw [if_neg (fun z => by first | exact Bool.noConfusion ((decide_eq_true z.1).symm.trans (show _ = false by assumption)) | omega)]
    · refine w_iload c_91_14 rfl ?_
      refine z_push c_91_15 ?_
      refine z_ic_le c_91_16 (by first | exact aRg_of _ | (unfold aRg; omega)) (by first | exact aRg_of _ | (unfold aRg; omega)) (fun h3_ => ?_) (fun h3_ => ?_)
      · refine w_aload c_91_21 rfl ?_
        refine w_getR c_91_22 sp_0 (by decide) rfl pr_0_9 ?_
        refine w_aload c_91_25 rfl ?_
        refine w_getR c_91_26 sp_0 (by decide) rfl pr_0_5 ?_
        refine wc_61 c_91_29 sp_106 (Nat.le_of_ble_eq_true rfl) (by omega) ?_
        have hte : D 0 0 = 1 := of_decide_eq_true h1_
        refine tc_sbegin hL (by omega) (fun I1 hL1 hs1 hF1 => ?_)
        refine r_v ?_
        refine w_aload c_91_32 rfl ?_
        refine z_push c_91_33 ?_
        refine wc_117 c_91_34 sp_0 (Nat.le_of_ble_eq_true rfl) (by omega) ?_
        refine tc_choose hsh hS hX (n := (D 1 2).toNat) (by omega) (D 1 2).toNat (i := 0) (t := 0) (by omega) (by decide) rfl (hW.fr (fun p k z1 z2 => hF1 p k (by show ¬ (p = 43 ∨ (106 ≤ p ∧ p ≤ 109)); omega))) hL1 hX.2.2.2.2 hs1 ⟨by decide, by decide, by decide⟩ (by rw [hF1 42 1 (by decide)]; exact hdr) (by omega) (fun I2 ink2 age2 hL2 hx2 hs2 hF2 => ?_)
        rw [ch_sh (fun j hj => by have := hS.de (j := (j : Int)) (by omega) (by omega); omega)] at hs2
        have hF3 := hF1.tr hF2
        have hp8 : 2 ^ (D 1 2).toNat ≤ 2 ^ 8 := Nat.pow_le_pow_right (by omega) (by omega)
        have hle := shF_le (D := D) (cd := cd) (X := X) (n := (D 1 2).toNat) (2 ^ (D 1 2).toNat - 1)
        have hqr := shQ_rg (cd := cd) (X := X) (t := (shF D cd X (D 1 2).toNat (2 ^ (D 1 2).toNat - 1)).1) hS (D 1 2).toNat (by omega)
        refine r_v ?_
        refine w_iload c_91_37 rfl ?_
        rcases (show (v = 0) ∨ (v = 1) ∨ (¬ v = 0 ∧ ¬ v = 1) by omega) with h4_ | h4_ | h4_
        · refine z_lsw c_91_38 (by first | exact aRg_of _ | (unfold aRg; omega)) (pc2 := 64) (by rcases h4_ with rfl <;> rfl) ?_
          refine w_aload c_91_64 rfl ?_
          refine w_getR c_91_65 sp_0 (by decide) rfl pr_0_9 ?_
          refine z_getZ c_91_68 sp_106 (by decide) rfl hs2.2.2.2.1 ?_
          refine z_ret c_91_71 rfl ?_
          refine q_i (k _ hF3) ?_
          unfold shrZ; rw [if_pos ⟨hte, by omega⟩]
          (repeat (first | rw [if_pos (by omega)] | rw [if_neg (by omega)]))
        · refine z_lsw c_91_38 (by first | exact aRg_of _ | (unfold aRg; omega)) (pc2 := 72) (by rcases h4_ with rfl <;> rfl) ?_
          refine w_aload c_91_72 rfl ?_
          refine w_getR c_91_73 sp_0 (by decide) rfl pr_0_9 ?_
          refine z_getZ c_91_76 sp_106 (by decide) rfl hs2.2.2.2.2.1 ?_
          refine z_ret c_91_79 rfl ?_
          refine q_i (k _ hF3) ?_
          unfold shrZ; rw [if_pos ⟨hte, by omega⟩]
          (repeat (first | rw [if_pos (by omega)] | rw [if_neg (by omega)]))
        · refine z_lsw c_91_38 (by first | exact aRg_of _ | (unfold aRg; omega)) (pc2 := 80) (by simp only [aLks]; repeat (first | rw [if_neg (by omega)] | rfl)) ?_
          refine w_aload c_91_80 rfl ?_
          refine w_getR c_91_81 sp_0 (by decide) rfl pr_0_9 ?_
          refine z_getZ c_91_84 sp_106 (by decide) rfl hs2.2.2.2.2.2 ?_
          refine z_ret c_91_87 rfl ?_
          refine q_i (k _ hF3) ?_
          unfold shrZ; rw [if_pos ⟨hte, by omega⟩]
          (repeat (first | rw [if_pos (by omega)] | rw [if_neg (by omega)]))
      · refine z_push c_91_19 ?_
        refine z_ret c_91_20 rfl ?_
        refine q_i (k _ frP.rf) ?_
        unfold shrZ
        rw [if_neg (fun z => by first | exact Bool.noConfusion ((decide_eq_true z.1).symm.trans (show _ = false by assumption)) | omega)]

set_option maxHeartbeats 2000000 in
theorem t_worthOf_1 {d : Nat} {I : aFI} {L : aFL} {Q : aPo} {sh : Nat} {su : Option Nat} {D : Nat → Int → Int} {cd : Nat → Option (List Int)} {t : Nat} (hS : wfS D cd) (hD : rD I D) (ht : t < 256) (hd : 1 ≤ d) : ∀ (n : Nat) (i : Nat), (D 1 2).toNat - i < n → ((i : Int) ≤ D 1 2) → (Q (some (.int (iI (shV D t (D 1 2).toNat)))) I L (aR sh su)) → aWp none d 199 4 [.ref 157, .int (iI (t : Int)), .int (iI (shV D t i)), .int (iI (i : Int))] [] I L (aR sh su) Q := by
  intro n
  induction n with
  | zero => intro i h; omega
  | succ n ih =>
    intro i hn2 h1 k
    have hdd := hS.n
    have htb := tb_one (w := t) (de := (i : Int))
    have hst : shV D t (i + 1) = shV D t i + (if tb t (i : Int) = true then D 8 i else 0) := rfl
    refine w_iload c_199_4 rfl ?_
    refine w_aload c_199_5 rfl ?_
    refine wc_161 c_199_6 sp_157 (Nat.le_of_ble_eq_true rfl) (by omega) ?_
    refine t_deedMany hD ?_
    refine r_i ?_
    refine z_ic_ge c_199_9 (by first | exact aRg_of _ | (unfold aRg; omega)) (by first | exact aRg_of _ | (unfold aRg; omega)) (fun h1_ => ?_) (fun h1_ => ?_)
    · refine w_iload c_199_41 rfl ?_
      refine z_ret c_199_42 rfl ?_
      have e9 : i = (D 1 2).toNat := by omega
      subst e9
      exact k
    · refine w_iload c_199_12 rfl ?_
      refine w_iload c_199_13 rfl ?_
      refine w_ishr c_199_14 (shr1 ht (by omega)) ?_
      refine z_push c_199_15 ?_
      refine w_iand c_199_16 tb_and ?_
      refine z_push c_199_17 ?_
      refine z_ic_ne c_199_18 (by first | exact aRg_of _ | (unfold aRg; omega)) (by first | exact aRg_of _ | (unfold aRg; omega)) (fun h2_ => ?_) (fun h2_ => ?_)
      · refine z_iinc c_199_35 rfl rfl ?_
        refine w_goto c_199_38 ?_
        rw [if_neg (by rcases htb with z | z; exact fun q => Bool.noConfusion (q.symm.trans z.2); exfalso; omega), Int.add_zero] at hst
        have hA := ih (i + 1) (by omega) (by omega) k
        rw [hst] at hA
        exact hA
      · refine w_iload c_199_21 rfl ?_
        refine w_aload c_199_22 rfl ?_
        refine w_getR c_199_23 sp_157 (by decide) rfl pr_157_49 ?_
        refine z_push c_199_26 ?_
        refine z_push c_199_28 ?_
        refine w_iload c_199_29 rfl ?_
        refine z_imul c_199_30 ?_
        refine z_iadd c_199_31 ?_
        refine z_iaload c_199_32 sp_197 (by omega) (by first | decide | omega) (hD.d8 (j := (i : Int)) (by omega) (by omega) (by omega)) ?_
        refine z_iadd c_199_33 ?_
        refine w_istore c_199_34 (Nat.le_of_ble_eq_true rfl) rfl ?_
        refine z_iinc c_199_35 rfl rfl ?_
        refine w_goto c_199_38 ?_
        rw [if_pos (by rcases htb with z | z; exfalso; omega; exact z.2)] at hst
        have hA := ih (i + 1) (by omega) (by omega) k
        rw [hst] at hA
        exact hA

set_option maxHeartbeats 1000000 in
theorem t_worthOf {d : Nat} {I : aFI} {L : aFL} {Q : aPo} {sh : Nat} {su : Option Nat} {D : Nat → Int → Int} {cd : Nat → Option (List Int)} {t : Nat} (hS : wfS D cd) (hD : rD I D) (ht : t < 256) (hd : 1 ≤ d) (k : Q (some (.int (iI (shV D t (D 1 2).toNat)))) I L (aR sh su)) : aWp none d 199 0 [.ref 157, .int (iI (t : Int)), .null, .null] [] I L (aR sh su) Q := by
  have hdd := hS.n
  refine z_push c_199_0 ?_
  refine w_istore c_199_1 (Nat.le_of_ble_eq_true rfl) rfl ?_
  refine z_push c_199_2 ?_
  refine w_istore c_199_3 (Nat.le_of_ble_eq_true rfl) rfl ?_
  exact t_worthOf_1 hS hD ht hd _ 0 (Nat.lt_succ_self _) (by omega) k

set_option maxHeartbeats 2000000 in
theorem t_writesAll_1 {d : Nat} {I0 : aFI} {L0 : aFL} {Q : aPo} {sh : Nat} {su : Option Nat} {D : Nat → Int → Int} {cd : Nat → Option (List Int)} {X : Lk} {t : Nat} (hS : wfS D cd) (hX : lkOK X) (ht : t < 256) (hth : I0 157 61 = aBo true) (hd : 6 ≤ d) : ∀ (n : Nat) (i : Nat) (I : aFI) (L : aFL), (D 1 2).toNat - i < n → ((i : Int) ≤ D 1 2) → (shO D cd X t i = true) → (rS I D cd (shS D cd X t i)) → (frG PT I0 I) → (frG LK L0 L) → (∀ (I2 : aFI) (L2 : aFL), rW I2 D cd → frG PT I0 I2 → frG LK L0 L2 → Q (some (.int (iI (if shO D cd X t (D 1 2).toNat = true then shQ D cd X t (D 1 2).toNat else -1)))) I2 L2 (aR sh su)) → aWp none d 200 4 [.ref 157, .int (iI (t : Int)), .int (iI (shQ D cd X t i)), .int (iI (i : Int))] [] I L (aR sh su) Q := by
  intro n
  induction n with
  | zero => intro i I L h; omega
  | succ n ih =>
    intro i I L hn2 h1 ho hR hF hG k
    have hdd := hS.n
    have htb := tb_one (w := t) (de := (i : Int))
    have hY := shS_ok (t := t) hS hX i h1 ho
    have hqr := shQ_rg (cd := cd) (X := X) (t := t) hS i h1
    have hs1 : shS D cd X t (i + 1) = if tb t (i : Int) = true then drawX (shS D cd X t i) i (drwZ D cd (shS D cd X t i) i) else shS D cd X t i := rfl
    have hs2 : shQ D cd X t (i + 1) = shQ D cd X t i + (if tb t (i : Int) = true then drwZ D cd (shS D cd X t i) i else 0) := rfl
    have hs3 : shO D cd X t (i + 1) = (shO D cd X t i && (!tb t (i : Int) || cbZ D cd (shS D cd X t i) i)) := rfl
    refine w_iload c_200_4 rfl ?_
    refine w_aload c_200_5 rfl ?_
    refine wc_161 c_200_6 sp_157 (Nat.le_of_ble_eq_true rfl) (by omega) ?_
    refine t_deedMany hR.1.1 ?_
    refine r_i ?_
    refine z_ic_ge c_200_9 (by first | exact aRg_of _ | (unfold aRg; omega)) (by first | exact aRg_of _ | (unfold aRg; omega)) (fun h1_ => ?_) (fun h1_ => ?_)
    · refine w_iload c_200_47 rfl ?_
      refine z_ret c_200_48 rfl ?_
      have e9 : i = (D 1 2).toNat := by omega
      subst e9
      have hk := k I L hR.1 hF hG
      rw [if_pos ho] at hk
      exact hk
    · refine w_iload c_200_12 rfl ?_
      refine w_iload c_200_13 rfl ?_
      refine w_ishr c_200_14 (shr1 ht (by omega)) ?_
      refine z_push c_200_15 ?_
      refine w_iand c_200_16 tb_and ?_
      refine z_if_ne c_200_17 (by first | exact aRg_of _ | (unfold aRg; omega)) (fun h2_ => ?_) (fun h2_ => ?_)
      · refine w_aload c_200_23 rfl ?_
        refine w_iload c_200_24 rfl ?_
        refine wc_172 c_200_25 sp_157 (Nat.le_of_ble_eq_true rfl) (by omega) ?_
        have hbt : tb t (i : Int) = true := by rcases htb with z | z; exfalso; omega; exact z.2
        refine t_canBe hS hR hY ⟨by omega, by omega⟩ (by omega) (fun I1 L1 hf hf2 => ?_)
        have hR1 := hR.pk hf
        have hF1 := hF.tr (PK.t hf)
        have hG1 := hG.tr hf2
        refine r_i ?_
        refine b_if_ne c_200_28 (fun h3_ => ?_) (fun h3_ => ?_)
        · refine w_iload c_200_33 rfl ?_
          refine w_aload c_200_34 rfl ?_
          refine w_iload c_200_35 rfl ?_
          refine wc_173 c_200_36 sp_157 (Nat.le_of_ble_eq_true rfl) (by omega) ?_
          have hcl := cbZ_le (by assumption)
          refine t_writesOne hS hR1 hY ⟨by omega, by omega⟩ hcl.1 ((hF1 157 61 (by decide)).trans hth) (by omega) (fun I2 L2 hx2 hF2 hG2 => ?_)
          have hR2 : rS I2 D cd (drawX (shS D cd X t i) i (drwZ D cd (shS D cd X t i) i)) := ⟨hR1.1.pt hF2, hx2⟩
          refine r_i ?_
          refine z_iadd c_200_39 ?_
          refine w_istore c_200_40 (Nat.le_of_ble_eq_true rfl) rfl ?_
          refine z_iinc c_200_41 rfl rfl ?_
          refine w_goto c_200_44 ?_
          rw [hbt] at hs1 hs2 hs3
          have hA := ih (i + 1) I2 L2 (by omega) (by omega) (by rw [hs3, ho, show cbZ D cd (shS D cd X t i) i = true by assumption]; rfl) (by rw [hs1, if_pos rfl]; exact hR2) (hF1.tr hF2) (hG1.tr hG2) k
          rw [hs2, if_pos rfl] at hA
          exact hA
        · refine z_push c_200_31 ?_
          refine z_ret c_200_32 rfl ?_
          have hno : ¬ shO D cd X t (D 1 2).toNat = true := fun z => by
            have z2 := shO_le (i := i + 1) (by omega) z
            rw [hs3, ho, Bool.true_and, hbt, show cbZ D cd (shS D cd X t i) i = false by assumption] at z2
            exact Bool.noConfusion z2
          have hk := k I1 L1 hR1.1 hF1 hG1
          rw [if_neg hno] at hk
          exact hk
      · refine w_goto c_200_20 ?_
        refine z_iinc c_200_41 rfl rfl ?_
        refine w_goto c_200_44 ?_
        have hbf : tb t (i : Int) = false := by rcases htb with z | z; exact z.2; exfalso; omega
        rw [hbf] at hs1 hs2 hs3
        have hA := ih (i + 1) I L (by omega) (by omega) (by rw [hs3, ho]; rfl) (by rw [hs1, if_neg Bool.noConfusion]; exact hR) hF hG k
        rw [hs2, if_neg Bool.noConfusion, Int.add_zero] at hA
        exact hA

set_option maxHeartbeats 1000000 in
theorem t_writesAll {d : Nat} {I : aFI} {L : aFL} {Q : aPo} {sh : Nat} {su : Option Nat} {D : Nat → Int → Int} {cd : Nat → Option (List Int)} {X : Lk} {t : Nat} (hS : wfS D cd) (hX : lkOK X) (ht : t < 256) (hth : I 157 61 = aBo true) (hd : 6 ≤ d) (hR : rS I D cd X) (k : ∀ (I2 : aFI) (L2 : aFL), rW I2 D cd → frG PT I I2 → frG LK L L2 → Q (some (.int (iI (if shO D cd X t (D 1 2).toNat = true then shQ D cd X t (D 1 2).toNat else -1)))) I2 L2 (aR sh su)) : aWp none d 200 0 [.ref 157, .int (iI (t : Int)), .null, .null] [] I L (aR sh su) Q := by
  have hdd := hS.n
  refine z_push c_200_0 ?_
  refine w_istore c_200_1 (Nat.le_of_ble_eq_true rfl) rfl ?_
  refine z_push c_200_2 ?_
  refine w_istore c_200_3 (Nat.le_of_ble_eq_true rfl) rfl ?_
  exact t_writesAll_1 hS hX ht hth hd _ 0 I L (Nat.lt_succ_self _) (by omega) rfl hR frG.rf frG.rf k

set_option maxHeartbeats 2000000 in
theorem t_share_1 {d : Nat} {I0 : aFI} {L0 : aFL} {Q : aPo} {sh : Nat} {su : Option Nat} {D : Nat → Int → Int} {cd : Nat → Option (List Int)} {X : Lk} {v : Int} (hS : wfS D cd) (hR0 : rS I0 D cd X) (hX : lkOK X) (hc0 : ∀ k : Nat, k < 27 → I0 203 k = I0 202 k) (hth : I0 157 61 = aBo true) (hd : 8 ≤ d) : ∀ (n : Nat) (m : Nat) (I : aFI) (L : aFL) (v5 v6 : Value), 2 ^ (D 1 2).toNat - m < n → (m + 1 ≤ 2 ^ (D 1 2).toNat) → (rS I D cd X) → (frG PT2 I0 I) → (frG LK L0 L) → (∀ (I2 : aFI) (L2 : aFL) (v5 v6 : Value), rS I2 D cd X → frG PT2 I0 I2 → frG LK L0 L2 → aWp none d 201 113 [.ref 157, .int (iI v), .int (iI ((shF D cd X (D 1 2).toNat (2 ^ (D 1 2).toNat - 1)).1 : Int)), .int (iI (shF D cd X (D 1 2).toNat (2 ^ (D 1 2).toNat - 1)).2), .int (iI ((2 ^ (D 1 2).toNat : Nat) : Int)), v5, v6] [] I2 L2 (aR sh su) Q) → aWp none d 201 32 [.ref 157, .int (iI v), .int (iI ((shF D cd X (D 1 2).toNat m).1 : Int)), .int (iI (shF D cd X (D 1 2).toNat m).2), .int (iI ((m + 1 : Nat) : Int)), v5, v6] [] I L (aR sh su) Q := by
  intro n
  induction n with
  | zero => intro m I L v5 v6 h; omega
  | succ n ih =>
    intro m I L v5 v6 hn2 h1 hR hF hG k
    have hdd := hS.n
    have hp8 : 2 ^ (D 1 2).toNat ≤ 2 ^ 8 := Nat.pow_le_pow_right (by omega) (by omega)
    have hle := shF_le (D := D) (cd := cd) (X := X) (n := (D 1 2).toNat) m
    have hqr := shQ_rg (cd := cd) (X := X) (t := (shF D cd X (D 1 2).toNat m).1) hS (D 1 2).toNat (by omega)
    have hqr2 := shQ_rg (cd := cd) (X := X) (t := m + 1) hS (D 1 2).toNat (by omega)
    have hst : shF D cd X (D 1 2).toNat (m + 1) = if shV D (m + 1) (D 1 2).toNat < shV D (shF D cd X (D 1 2).toNat m).1 (D 1 2).toNat then shF D cd X (D 1 2).toNat m else if shO D cd X (m + 1) (D 1 2).toNat = false then shF D cd X (D 1 2).toNat m else if shV D (m + 1) (D 1 2).toNat = shV D (shF D cd X (D 1 2).toNat m).1 (D 1 2).toNat ∧ (shF D cd X (D 1 2).toNat m).2 ≤ shQ D cd X (m + 1) (D 1 2).toNat then shF D cd X (D 1 2).toNat m else (m + 1, shQ D cd X (m + 1) (D 1 2).toNat) := rfl
    refine w_iload c_201_32 rfl ?_
    refine z_push c_201_34 ?_
    refine w_aload c_201_35 rfl ?_
    refine wc_161 c_201_36 sp_157 (Nat.le_of_ble_eq_true rfl) (by omega) ?_
    refine t_deedMany hR.1.1 ?_
    refine r_i ?_
    refine w_ishl c_201_39 (shl1 (by omega)) ?_
    refine z_ic_ge c_201_40 (by first | exact aRg_of _ | (unfold aRg; omega)) (by first | exact aRg_of _ | (unfold aRg; omega)) (fun h1_ => ?_) (fun h1_ => ?_)
    · have e9 : m = 2 ^ (D 1 2).toNat - 1 := by omega
      have e8 : (m + 1 : Nat) = 2 ^ (D 1 2).toNat := by omega
      rw [e8]
      subst e9
      exact k I L _ _ hR hF hG
    · refine w_aload c_201_43 rfl ?_
      refine w_iload c_201_44 rfl ?_
      refine wc_199 c_201_46 sp_157 (Nat.le_of_ble_eq_true rfl) (by omega) ?_
      refine t_worthOf hS hR.1.1 (by omega) (by omega) ?_
      refine r_i ?_
      refine w_istore c_201_49 (Nat.le_of_ble_eq_true rfl) rfl ?_
      refine w_iload c_201_51 rfl ?_
      refine w_aload c_201_53 rfl ?_
      refine w_iload c_201_54 rfl ?_
      refine wc_199 c_201_55 sp_157 (Nat.le_of_ble_eq_true rfl) (by omega) ?_
      refine t_worthOf hS hR.1.1 (by omega) (by omega) ?_
      refine r_i ?_
      refine z_ic_ge c_201_58 (by first | exact aRg_of _ | (unfold aRg; omega)) (by first | exact aRg_of _ | (unfold aRg; omega)) (fun h2_ => ?_) (fun h2_ => ?_)
      · refine w_aload c_201_64 rfl ?_
        refine w_iload c_201_65 rfl ?_
        refine wc_200 c_201_67 sp_157 (Nat.le_of_ble_eq_true rfl) (by omega) ?_
        refine t_writesAll hS hX (by omega) ((hF 157 61 (by decide)).trans hth) (by omega) hR (fun I2 L2 hW2 hF2 hG2 => ?_)
        have hvv : (shO D cd X (m + 1) (D 1 2).toNat = true ∧ (if shO D cd X (m + 1) (D 1 2).toNat = true then shQ D cd X (m + 1) (D 1 2).toNat else -1) = shQ D cd X (m + 1) (D 1 2).toNat) ∨ (shO D cd X (m + 1) (D 1 2).toNat = false ∧ (if shO D cd X (m + 1) (D 1 2).toNat = true then shQ D cd X (m + 1) (D 1 2).toNat else -1) = -1) := by
          cases hq : shO D cd X (m + 1) (D 1 2).toNat
          · exact Or.inr ⟨rfl, if_neg Bool.noConfusion⟩
          · exact Or.inl ⟨rfl, if_pos rfl⟩
        generalize (if shO D cd X (m + 1) (D 1 2).toNat = true then shQ D cd X (m + 1) (D 1 2).toNat else -1) = vv at hvv ⊢
        refine r_i ?_
        refine w_istore c_201_70 (Nat.le_of_ble_eq_true rfl) rfl ?_
        refine w_aload c_201_72 rfl ?_
        refine wc_179 c_201_73 sp_157 (Nat.le_of_ble_eq_true rfl) (by omega) ?_
        refine t_triesAnew (fun I3 hb1 hb3 => ?_)
        have hR3 : rS I3 D cd X := ⟨hW2.fr (fun q k z1 z2 => hb3 q k (by omega)) (hb3 157 56 (by decide)), hR0.2.fr (fun k hk => by rw [hb1 k hk, hF2 203 k (by omega), hF 203 k (by omega)]; exact hc0 k hk)⟩
        have hF3 : frG PT2 I0 I3 := (hF.tr (PT.t2 hF2)).tr (hb3.mono (fun q k z => Or.inr (Or.inr (Or.inr z))))
        have hG3 := hG.tr hG2
        refine r_v ?_
        refine w_iload c_201_76 rfl ?_
        refine z_push c_201_78 ?_
        refine z_ic_eq c_201_79 (by first | exact aRg_of _ | (unfold aRg; omega)) (by first | exact aRg_of _ | (unfold aRg; omega)) (fun h3_ => ?_) (fun h3_ => ?_)
        · refine z_iinc c_201_107 rfl rfl ?_
          refine w_goto c_201_110 ?_
          have ho2 : shO D cd X (m + 1) (D 1 2).toNat = false := by rcases hvv with z | z; exfalso; omega; exact z.1
          rw [if_neg (by omega), if_pos ho2] at hst
          have hA := ih (m + 1) I3 L2 (.int (iI (shV D (m + 1) (D 1 2).toNat))) (.int (iI vv)) (by omega) (by omega) hR3 hF3 hG3 k
          rw [hst] at hA
          exact hA
        · refine w_iload c_201_82 rfl ?_
          refine w_aload c_201_84 rfl ?_
          refine w_iload c_201_85 rfl ?_
          refine wc_199 c_201_86 sp_157 (Nat.le_of_ble_eq_true rfl) (by omega) ?_
          refine t_worthOf hS hR3.1.1 (by omega) (by omega) ?_
          refine r_i ?_
          refine z_ic_ne c_201_89 (by first | exact aRg_of _ | (unfold aRg; omega)) (by first | exact aRg_of _ | (unfold aRg; omega)) (fun h4_ => ?_) (fun h4_ => ?_)
          · refine w_iload c_201_101 rfl ?_
            refine w_istore c_201_103 (Nat.le_of_ble_eq_true rfl) rfl ?_
            refine w_iload c_201_104 rfl ?_
            refine w_istore c_201_106 (Nat.le_of_ble_eq_true rfl) rfl ?_
            refine z_iinc c_201_107 rfl rfl ?_
            refine w_goto c_201_110 ?_
            have ho2 : shO D cd X (m + 1) (D 1 2).toNat = true := by rcases hvv with z | z; exact z.1; exfalso; omega
            have hv2 : vv = shQ D cd X (m + 1) (D 1 2).toNat := by rcases hvv with z | z; exact z.2; exfalso; omega
            rw [if_neg (by omega), if_neg (by rw [ho2]; exact Bool.noConfusion), if_neg (by omega), ← hv2] at hst
            have hA := ih (m + 1) I3 L2 (.int (iI (shV D (m + 1) (D 1 2).toNat))) (.int (iI vv)) (by omega) (by omega) hR3 hF3 hG3 k
            rw [hst] at hA
            exact hA
          · refine w_iload c_201_92 rfl ?_
            refine w_iload c_201_94 rfl ?_
            refine z_ic_lt c_201_95 (by first | exact aRg_of _ | (unfold aRg; omega)) (by first | exact aRg_of _ | (unfold aRg; omega)) (fun h5_ => ?_) (fun h5_ => ?_)
            · refine w_iload c_201_101 rfl ?_
              refine w_istore c_201_103 (Nat.le_of_ble_eq_true rfl) rfl ?_
              refine w_iload c_201_104 rfl ?_
              refine w_istore c_201_106 (Nat.le_of_ble_eq_true rfl) rfl ?_
              refine z_iinc c_201_107 rfl rfl ?_
              refine w_goto c_201_110 ?_
              have ho2 : shO D cd X (m + 1) (D 1 2).toNat = true := by rcases hvv with z | z; exact z.1; exfalso; omega
              have hv2 : vv = shQ D cd X (m + 1) (D 1 2).toNat := by rcases hvv with z | z; exact z.2; exfalso; omega
              rw [if_neg (by omega), if_neg (by rw [ho2]; exact Bool.noConfusion), if_neg (by omega), ← hv2] at hst
              have hA := ih (m + 1) I3 L2 (.int (iI (shV D (m + 1) (D 1 2).toNat))) (.int (iI vv)) (by omega) (by omega) hR3 hF3 hG3 k
              rw [hst] at hA
              exact hA
            · refine w_goto c_201_98 ?_
              refine z_iinc c_201_107 rfl rfl ?_
              refine w_goto c_201_110 ?_
              have ho2 : shO D cd X (m + 1) (D 1 2).toNat = true := by rcases hvv with z | z; exact z.1; exfalso; omega
              have hv2 : vv = shQ D cd X (m + 1) (D 1 2).toNat := by rcases hvv with z | z; exact z.2; exfalso; omega
              rw [if_neg (by omega), if_neg (by rw [ho2]; exact Bool.noConfusion), if_pos (by omega)] at hst
              have hA := ih (m + 1) I3 L2 (.int (iI (shV D (m + 1) (D 1 2).toNat))) (.int (iI vv)) (by omega) (by omega) hR3 hF3 hG3 k
              rw [hst] at hA
              exact hA
      · refine w_goto c_201_61 ?_
        refine z_iinc c_201_107 rfl rfl ?_
        refine w_goto c_201_110 ?_
        rw [if_pos (by omega)] at hst
        have hA := ih (m + 1) I L (.int (iI (shV D (m + 1) (D 1 2).toNat))) v6 (by omega) (by omega) hR hF hG k
        rw [hst] at hA
        exact hA

set_option maxHeartbeats 1000000 in
theorem t_share {d : Nat} {I : aFI} {L : aFL} {Q : aPo} {sh : Nat} {su : Option Nat} {D : Nat → Int → Int} {cd : Nat → Option (List Int)} {X : Lk} {v : Int} (hS : wfS D cd) (hR : rS I D cd X) (hX : lkOK X) (rv : -2147483648 ≤ v ∧ v < 2147483648) (hth : I 157 61 = aBo false) (hd : 9 ≤ d) (k : ∀ (I2 : aFI) (L2 : aFL), frG PE I I2 → frG LK L L2 → Q (some (.int (iI (shrZ D cd X v)))) I2 L2 (aR sh su)) : aWp none d 201 0 [.ref 157, .int (iI v), .null, .null, .null, .null, .null] [] I L (aR sh su) Q := by
  have hdd := hS.n
  have hx1 := hX.1
  have hx2 := hX.2.1
  have hx3 := hX.2.2.1
  have hx4 := hX.2.2.2.1
  refine w_aload c_201_0 rfl ?_
  refine z_getB c_201_1 sp_157 (by decide) rfl hR.1.1.2.2.2.1 ?_
  refine b_if_eq c_201_4 (fun h1_ => ?_) (fun h1_ => ?_)
  · refine z_push c_201_19 ?_
    refine z_ret c_201_20 rfl ?_
    refine q_i (k _ _ frG.rf frG.rf) ?_
    unfold shrZ
    rw [if_neg (fun z => by first | exact Bool.noConfusion ((decide_eq_true z.1).symm.trans (show _ = false by assumption)) | (simp only [decide_eq_false_iff_not] at *; omega))]
  · refine w_iload c_201_7 rfl ?_
    refine z_i2l c_201_8 (by first | exact aRg_of _ | (unfold aRg; omega)) ?_
    refine z_pushl c_201_9 ?_
    refine z_pushl c_201_10 ?_
    refine wc_130 c_201_13 (Nat.le_of_ble_eq_true rfl) (by omega) ?_
    refine t_isIn (by first | exact aRl_of _ | (unfold aRl; omega)) (by first | exact aRl_of _ | (unfold aRl; omega)) (by first | exact aRl_of _ | (unfold aRl; omega)) ?_
    refine r_i ?_
    refine b_if_ne c_201_16 (fun h2_ => ?_) (fun h2_ => ?_)
    · refine z_push c_201_21 ?_
      refine w_istore c_201_22 (Nat.le_of_ble_eq_true rfl) rfl ?_
      refine z_push c_201_23 ?_
      refine w_istore c_201_24 (Nat.le_of_ble_eq_true rfl) rfl ?_
      refine w_aload c_201_25 rfl ?_
      refine wc_177 c_201_26 sp_157 (Nat.le_of_ble_eq_true rfl) (by omega) ?_
      have hte : D 0 0 = 1 := of_decide_eq_true h1_
      have hvr := of_decide_eq_true h2_
      refine t_putsAside (fun I1 hp1 hp2 hp3 => ?_)
      have hR1 := hR.aside hp3
      refine r_v ?_
      refine z_push c_201_29 ?_
      refine w_istore c_201_30 (Nat.le_of_ble_eq_true rfl) rfl ?_
      have hp8 : 2 ^ (D 1 2).toNat ≤ 2 ^ 8 := Nat.pow_le_pow_right (by omega) (by omega)
      have hp0 : 0 < 2 ^ (D 1 2).toNat := Nat.pow_pos (by omega)
      refine t_share_1 (v := v) hS hR1 hX (fun k hk => (hp1 k hk).trans (hp3 202 k (by omega)).symm) hp2 (by omega) _ 0 I1 L _ _ (Nat.lt_succ_self _) (by omega) hR1 frG.rf frG.rf (fun I2 L2 v5 v6 hR2 hF2 hG2 => ?_)
      have hle := shF_le (D := D) (cd := cd) (X := X) (n := (D 1 2).toNat) (2 ^ (D 1 2).toNat - 1)
      have hqr := shQ_rg (cd := cd) (X := X) (t := (shF D cd X (D 1 2).toNat (2 ^ (D 1 2).toNat - 1)).1) hS (D 1 2).toNat (by omega)
      refine w_aload c_201_113 rfl ?_
      refine wc_178 c_201_114 sp_157 (Nat.le_of_ble_eq_true rfl) (by omega) ?_
      refine t_takesBack (fun I3 hb1 hb2 hb3 => ?_)
      have hW3 : rW I3 D cd := hR2.1.fr (fun q k z1 z2 => hb3 q k (by omega)) (hb3 157 56 (by decide))
      refine r_v ?_
      refine w_iload c_201_117 rfl ?_
      refine z_if_ne c_201_118 (by first | exact aRg_of _ | (unfold aRg; omega)) (fun h31_ => ?_) (fun h31_ => ?_)
      · refine w_iload c_201_125 rfl ?_
        refine z_push c_201_126 ?_
        refine z_ic_ne c_201_127 (by first | exact aRg_of _ | (unfold aRg; omega)) (by first | exact aRg_of _ | (unfold aRg; omega)) (fun h32_ => ?_) (fun h32_ => ?_)
        · refine w_iload c_201_138 rfl ?_
          refine z_ret c_201_139 rfl ?_
          refine q_i (k _ _ (back_fr hp3 hp1 hF2 hb3 hb1 hth hb2) hG2) ?_
          unfold shrZ; rw [if_pos ⟨hte, by omega⟩]
          (repeat (first | rw [if_pos (by omega)] | rw [if_neg (by omega)]))
        · refine w_aload c_201_130 rfl ?_
          refine w_iload c_201_131 rfl ?_
          refine wc_199 c_201_132 sp_157 (Nat.le_of_ble_eq_true rfl) (by omega) ?_
          refine t_worthOf hS hW3.1 (by omega) (by omega) ?_
          refine r_i ?_
          refine w_goto c_201_135 ?_
          refine z_ret c_201_139 rfl ?_
          refine q_i (k _ _ (back_fr hp3 hp1 hF2 hb3 hb1 hth hb2) hG2) ?_
          unfold shrZ; rw [if_pos ⟨hte, by omega⟩]
          (repeat (first | rw [if_pos (by omega)] | rw [if_neg (by omega)]))
      · refine w_iload c_201_121 rfl ?_
        refine w_goto c_201_122 ?_
        refine z_ret c_201_139 rfl ?_
        refine q_i (k _ _ (back_fr hp3 hp1 hF2 hb3 hb1 hth hb2) hG2) ?_
        unfold shrZ; rw [if_pos ⟨hte, by omega⟩]
        (repeat (first | rw [if_pos (by omega)] | rw [if_neg (by omega)]))
    · refine z_push c_201_19 ?_
      refine z_ret c_201_20 rfl ?_
      refine q_i (k _ _ frG.rf frG.rf) ?_
      unfold shrZ
      rw [if_neg (fun z => by first | exact Bool.noConfusion ((decide_eq_true z.1).symm.trans (show _ = false by assumption)) | (simp only [decide_eq_false_iff_not] at *; omega))]

