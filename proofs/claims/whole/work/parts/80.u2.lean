/-! the reference: write, pour, seasons, years, seed (p80.py) -/
abbrev PR (v : Nat) : Nat → Nat → Prop := fun q k => (q = 157 ∧ k = 104) ∨ (q = 159 ∧ k = v)
abbrev PWr (s : Nat) : Nat → Nat → Prop := fun q k => PTK q k ∨ PKe s q k
theorem rS.ke {I I2 : aFI} {D : Nat → Int → Int} {cd : Nat → Option (List Int)} {X : Lk} {s : Nat} (h : rS I D cd X) (hF : frG (PKe s) I I2) : rS I2 D cd X := ⟨h.1.fr (fun q k z1 z2 => hF q k (by omega)) (hF 157 56 (by omega)), h.2.fr (fun k z => hF 202 k (by omega))⟩
set_option maxHeartbeats 1000000 in
theorem t_write {d : Nat} {I : aFI} {L : aFL} {Q : aPo} {sh : Nat} {su : Option Nat} {D : Nat → Int → Int} {cd : Nat → Option (List Int)} {X : Lk} {K : Int → Int → Int} {kc e : Int} (hS : wfS D cd) (hR : rS I D cd X) (hX : lkOK X) (re : -2147483648 ≤ e ∧ e < 2147483648) {nw ct : Int} (hnw : I 157 71 = iI nw) (hct : I 157 70 = iI ct) (hnr : 0 ≤ nw ∧ nw < 20) (hcr : 0 ≤ ct ∧ ct ≤ 20) (hth : I 157 61 = aBo false) (hkc : I 202 27 = iI kc) (h0 : 0 ≤ kc ∧ kc < 40) (hK : kpR I 202 0 K kc) (hd : 7 ≤ d) (k1 : (0 ≤ e ∧ e < D 1 2) ∧ cbZ D cd X e = true → ∀ (I2 : aFI) (L2 : aFL), rX I2 202 (drawX X e (drwZ D cd X e)) → I2 202 27 = iI (kc + 1) → kpR I2 202 0 (kA K kc X.1 e (dk X.2.1 X.2.2.1) (drwZ D cd X e)) (kc + 1) → I2 157 71 = iI ((nw + 1) % 20) → I2 157 70 = iI (min 20 (ct + 1)) → (∀ k : Nat, k < 188 → I2 207 (188 * ((nw + 1) % 20).toNat + k) = I 202 k) → frG (PWr ((nw + 1) % 20).toNat) I I2 → frG LK L L2 → Q (some (.int (iI (dk X.2.1 X.2.2.1)))) I2 L2 (aR sh su)) (k2 : ¬ ((0 ≤ e ∧ e < D 1 2) ∧ cbZ D cd X e = true) → ∀ (I2 : aFI) (L2 : aFL), I2 159 2 = iI ((I 159 2).toInt + 1) → frG (PR 2) I I2 → frG LK L L2 → Q (some (.int (iI (-1)))) I2 L2 (aR sh su)) : aWp none d 212 0 [.ref 157, .int (iI e)] [] I L (aR sh su) Q := by
  have hdd := hS.n
  have hx1 := hX.1
  have hx2 := hX.2.1
  have hx3 := hX.2.2.1
  have hx4 := hX.2.2.2.1
  refine w_aload c_212_0 rfl ?_
  refine w_iload c_212_1 rfl ?_
  refine wc_162 c_212_2 sp_157 (Nat.le_of_ble_eq_true rfl) (by omega) ?_
  refine t_isDeed hS hR.1.1 re (by omega) ?_
  refine r_i ?_
  refine b_if_eq c_212_5 (fun h1_ => ?_) (fun h1_ => ?_)
  · refine w_aload c_212_16 rfl ?_
    refine z_push c_212_17 ?_
    refine wc_205 c_212_18 sp_157 (Nat.le_of_ble_eq_true rfl) (by omega) ?_
    refine t_refuses (by omega) ?_
    refine r_i ?_
    refine z_ret c_212_21 rfl ?_
    first
    | exact k2 (fun z => absurd z.1 (of_decide_eq_false (by assumption))) _ _ up_eq (frG.rf.up (Or.inr ⟨rfl, rfl⟩)) frG.rf
    | exact k2 (fun z => Bool.noConfusion (z.2.symm.trans (by assumption))) _ _ (up_eq.trans (congrArg (fun x : Int32 => iI (x.toInt + 1)) (hf 159 2 (by decide)))) ((hf.mono (P2 := PR 2) (fun q k z => Or.inl z)).up (Or.inr ⟨rfl, rfl⟩)) hf2
  · refine w_aload c_212_8 rfl ?_
    refine w_iload c_212_9 rfl ?_
    refine wc_172 c_212_10 sp_157 (Nat.le_of_ble_eq_true rfl) (by omega) ?_
    have hdb : 0 ≤ e ∧ e < D 1 2 := of_decide_eq_true h1_
    refine t_canBe hS hR hX hdb (by omega) (fun I1 L1 hf hf2 => ?_)
    have hR1 := hR.pk hf
    refine r_i ?_
    refine b_if_ne c_212_13 (fun h2_ => ?_) (fun h2_ => ?_)
    · refine w_aload c_212_22 rfl ?_
      refine wc_210 c_212_23 sp_157 (Nat.le_of_ble_eq_true rfl) (by omega) ?_
      refine t_keeps ((hf 157 71 (by decide)).trans hnw) ((hf 157 70 (by decide)).trans hct) hnr hcr (fun I2 hn2 hc2 hr2 hF2 => ?_)
      have hR2 := hR1.ke hF2
      refine r_v ?_
      refine w_aload c_212_26 rfl ?_
      refine w_iload c_212_27 rfl ?_
      refine wc_173 c_212_28 sp_157 (Nat.le_of_ble_eq_true rfl) (by omega) ?_
      have hcl := cbZ_le (by assumption)
      refine t_writesKept hS hR2 hX hdb hcl.1 (by rw [hF2 157 61 (by omega), hf 157 61 (by decide)]; exact hth) (by rw [hF2 202 27 (by omega), hf 202 27 (by decide)]; exact hkc) h0 (fun i j x h1 h2 h3 h4 h5 => by rw [hF2 202 _ (by omega), hf 202 _ (by omega)]; exact hK i j x h1 h2 h3 h4 h5) (by omega) (fun I3 L3 hx3 hk3 hK3 hF3 hG3 => ?_)
      have hkr := dk_rg (b := X.2.1) (g := X.2.2.1)
      refine r_i ?_
      refine w_pop c_212_31 rfl ?_
      refine w_aload c_212_32 rfl ?_
      refine w_iload c_212_33 rfl ?_
      refine wc_164 c_212_34 sp_157 (Nat.le_of_ble_eq_true rfl) (by omega) ?_
      refine t_inkOf (s := (drawX X e (drwZ D cd X e)).1) (b := (drawX X e (drwZ D cd X e)).2.1) (g := (drawX X e (drwZ D cd X e)).2.2.1) (w := (drawX X e (drwZ D cd X e)).2.2.2.1) hx3 ⟨by omega, by omega⟩ ?_
      refine r_i ?_
      refine z_ret c_212_37 rfl ?_
      refine q_i (k1 ⟨hdb, by assumption⟩ I3 L3 hx3 hk3 hK3 ((hF3 157 71 (by decide)).trans hn2) ((hF3 157 70 (by decide)).trans hc2) (fun k hk => by rw [hF3 207 _ (by omega), hr2 k hk]; exact hf 202 k (by omega)) ?_ (hf2.tr hG3)) ?_
      · exact (hf.mono (P2 := PWr ((nw + 1) % 20).toNat) (fun q k z => Or.inl (Or.inl ⟨z.1, Or.inl z.2⟩))).tr ((hF2.mono (fun q k z => Or.inr z)).tr (hF3.mono (fun q k z => Or.inl z)))
      · exact cU_eq.symm
    · refine w_aload c_212_16 rfl ?_
      refine z_push c_212_17 ?_
      refine wc_205 c_212_18 sp_157 (Nat.le_of_ble_eq_true rfl) (by omega) ?_
      refine t_refuses (by omega) ?_
      refine r_i ?_
      refine z_ret c_212_21 rfl ?_
      first
      | exact k2 (fun z => absurd z.1 (of_decide_eq_false (by assumption))) _ _ up_eq (frG.rf.up (Or.inr ⟨rfl, rfl⟩)) frG.rf
      | exact k2 (fun z => Bool.noConfusion (z.2.symm.trans (by assumption))) _ _ (up_eq.trans (congrArg (fun x : Int32 => iI (x.toInt + 1)) (hf 159 2 (by decide)))) ((hf.mono (P2 := PR 2) (fun q k z => Or.inl z)).up (Or.inr ⟨rfl, rfl⟩)) hf2

set_option maxHeartbeats 1000000 in
theorem t_pour {d : Nat} {I : aFI} {L : aFL} {Q : aPo} {sh : Nat} {su : Option Nat} {D : Nat → Int → Int} {cd : Nat → Option (List Int)} {X : Lk} {v : Int} (hS : wfS D cd) (hR : rS I D cd X) (hX : lkOK X) (rv : -2147483648 ≤ v ∧ v < 2147483648) {nw ct : Int} (hnw : I 157 71 = iI nw) (hct : I 157 70 = iI ct) (hnr : 0 ≤ nw ∧ nw < 20) (hcr : 0 ≤ ct ∧ ct ≤ 20) (hd : 4 ≤ d) (k1 : (D 0 0 = 1 ∧ 1 ≤ v ∧ v ≤ 999) ∧ X.2.2.1 + v ≤ 9999 → ∀ I2 : aFI, rX I2 202 (X.1, X.2.1, X.2.2.1 + v, X.2.2.2) → I2 157 71 = iI ((nw + 1) % 20) → I2 157 70 = iI (min 20 (ct + 1)) → (∀ k : Nat, k < 188 → I2 207 (188 * ((nw + 1) % 20).toNat + k) = I 202 k) → frG (fun q k => PKe ((nw + 1) % 20).toNat q k ∨ (q = 202 ∧ k = 2)) I I2 → Q (some (.int (iI (X.2.2.1 + v)))) I2 L (aR sh su)) (k2 : ¬ ((D 0 0 = 1 ∧ 1 ≤ v ∧ v ≤ 999) ∧ X.2.2.1 + v ≤ 9999) → ∀ (I2 : aFI) (L2 : aFL), I2 159 2 = iI ((I 159 2).toInt + 1) → frG (PR 2) I I2 → frG LK L L2 → Q (some (.int (iI (-1)))) I2 L2 (aR sh su)) : aWp none d 213 0 [.ref 157, .int (iI v)] [] I L (aR sh su) Q := by
  have hdd := hS.n
  have hx1 := hX.1
  have hx2 := hX.2.1
  have hx3 := hX.2.2.1
  have hx4 := hX.2.2.2.1
  refine w_aload c_213_0 rfl ?_
  refine z_getB c_213_1 sp_157 (by decide) rfl hR.1.1.2.2.2.1 ?_
  refine b_if_eq c_213_4 (fun h1_ => ?_) (fun h1_ => ?_)
  · refine w_aload c_213_33 rfl ?_
    refine z_push c_213_34 ?_
    refine wc_205 c_213_35 sp_157 (Nat.le_of_ble_eq_true rfl) (by omega) ?_
    refine t_refuses (by omega) ?_
    refine r_i ?_
    refine z_ret c_213_38 rfl ?_
    refine k2 (fun z => by first | exact absurd z.1.1 (of_decide_eq_false (by assumption)) | exact absurd z.1.2 (of_decide_eq_false (by assumption)) | omega) _ _ up_eq (frG.rf.up (Or.inr ⟨rfl, rfl⟩)) frG.rf
  · refine w_iload c_213_7 rfl ?_
    refine z_i2l c_213_8 (by first | exact aRg_of _ | (unfold aRg; omega)) ?_
    refine z_pushl c_213_9 ?_
    refine z_pushl c_213_10 ?_
    refine wc_130 c_213_13 (Nat.le_of_ble_eq_true rfl) (by omega) ?_
    refine t_isIn (by first | exact aRl_of _ | (unfold aRl; omega)) (by first | exact aRl_of _ | (unfold aRl; omega)) (by first | exact aRl_of _ | (unfold aRl; omega)) ?_
    refine r_i ?_
    refine b_if_eq c_213_16 (fun h2_ => ?_) (fun h2_ => ?_)
    · refine w_aload c_213_33 rfl ?_
      refine z_push c_213_34 ?_
      refine wc_205 c_213_35 sp_157 (Nat.le_of_ble_eq_true rfl) (by omega) ?_
      refine t_refuses (by omega) ?_
      refine r_i ?_
      refine z_ret c_213_38 rfl ?_
      refine k2 (fun z => by first | exact absurd z.1.1 (of_decide_eq_false (by assumption)) | exact absurd z.1.2 (of_decide_eq_false (by assumption)) | omega) _ _ up_eq (frG.rf.up (Or.inr ⟨rfl, rfl⟩)) frG.rf
    · have hvv := of_decide_eq_true h2_
      refine w_aload c_213_19 rfl ?_
      refine w_getR c_213_20 sp_157 (by decide) rfl pr_157_58 ?_
      refine z_push c_213_23 ?_
      refine z_iaload c_213_24 sp_202 (by omega) (by first | decide | omega) hR.2.2.2.1 ?_
      refine w_iload c_213_25 rfl ?_
      refine z_iadd c_213_26 ?_
      refine z_push c_213_27 ?_
      refine z_ic_le c_213_30 (by first | exact aRg_of _ | (unfold aRg; omega)) (by first | exact aRg_of _ | (unfold aRg; omega)) (fun h3_ => ?_) (fun h3_ => ?_)
      · refine w_aload c_213_39 rfl ?_
        refine wc_210 c_213_40 sp_157 (Nat.le_of_ble_eq_true rfl) (by omega) ?_
        have hcc : (D 0 0 = 1 ∧ 1 ≤ v ∧ v ≤ 999) ∧ X.2.2.1 + v ≤ 9999 := ⟨⟨of_decide_eq_true h1_, of_decide_eq_true h2_⟩, by omega⟩
        refine t_keeps hnw hct hnr hcr (fun I2 hn2 hc2 hr2 hF2 => ?_)
        have hR2 := hR.ke hF2
        refine r_v ?_
        refine w_aload c_213_43 rfl ?_
        refine w_getR c_213_44 sp_157 (by decide) rfl pr_157_58 ?_
        refine z_push c_213_47 ?_
        refine w_dup2 c_213_48 rfl rfl ?_
        refine z_iaload c_213_49 sp_202 (by omega) (by first | decide | omega) hR2.2.2.2.1 ?_
        refine w_iload c_213_50 rfl ?_
        refine z_iadd c_213_51 ?_
        refine z_iastore c_213_52 sp_202 (by omega) (by decide) ?_
        refine w_aload c_213_53 rfl ?_
        refine w_getR c_213_54 sp_157 (by decide) rfl pr_157_58 ?_
        refine z_push c_213_57 ?_
        refine z_iaload c_213_58 sp_202 (by omega) (by first | decide | omega) up_eq ?_
        refine z_ret c_213_59 rfl ?_
        exact k1 hcc _ (nLk.pg hR2.2 rfl) ((up_ne (by omega)).trans hn2) ((up_ne (by omega)).trans hc2) (fun k hk => (up_ne (by omega)).trans (hr2 k hk)) ((hF2.mono (fun q k z => Or.inl z)).up (Or.inr ⟨rfl, rfl⟩))
      · refine w_aload c_213_33 rfl ?_
        refine z_push c_213_34 ?_
        refine wc_205 c_213_35 sp_157 (Nat.le_of_ble_eq_true rfl) (by omega) ?_
        refine t_refuses (by omega) ?_
        refine r_i ?_
        refine z_ret c_213_38 rfl ?_
        refine k2 (fun z => by first | exact absurd z.1.1 (of_decide_eq_false (by assumption)) | exact absurd z.1.2 (of_decide_eq_false (by assumption)) | omega) _ _ up_eq (frG.rf.up (Or.inr ⟨rfl, rfl⟩)) frG.rf

set_option maxHeartbeats 1000000 in
theorem t_seasons {d : Nat} {I : aFI} {L : aFL} {Q : aPo} {sh : Nat} {su : Option Nat} {D : Nat → Int → Int} {cd : Nat → Option (List Int)} {X : Lk} {v : Int} (hS : wfS D cd) (hR : rS I D cd X) (hX : lkOK X) (rv : -2147483648 ≤ v ∧ v < 2147483648) {nw ct : Int} (hnw : I 157 71 = iI nw) (hct : I 157 70 = iI ct) (hnr : 0 ≤ nw ∧ nw < 20) (hcr : 0 ≤ ct ∧ ct ≤ 20) (hd : 7 ≤ d) (k1 : (D 0 0 = 1 ∧ 1 ≤ v ∧ v ≤ 100) ∧ X.1 + v ≤ 999 → ∀ (I2 : aFI) (L2 : aFL), rS I2 D cd (seaN D cd X v.toNat) → I2 157 71 = iI ((nw + 1) % 20) → I2 157 70 = iI (min 20 (ct + 1)) → (∀ k : Nat, k < 188 → I2 207 (188 * ((nw + 1) % 20).toNat + k) = I 202 k) → frG (fun q k => PT q k ∨ PKe ((nw + 1) % 20).toNat q k) I I2 → frG LK L L2 → Q (some (.int (iI (ovN D cd X v.toNat)))) I2 L2 (aR sh su)) (k2 : ¬ ((D 0 0 = 1 ∧ 1 ≤ v ∧ v ≤ 100) ∧ X.1 + v ≤ 999) → ∀ (I2 : aFI) (L2 : aFL), I2 159 3 = iI ((I 159 3).toInt + 1) → frG (PR 3) I I2 → frG LK L L2 → Q (some (.int (iI (-1)))) I2 L2 (aR sh su)) : aWp none d 214 0 [.ref 157, .int (iI v)] [] I L (aR sh su) Q := by
  have hdd := hS.n
  have hx1 := hX.1
  have hx2 := hX.2.1
  have hx3 := hX.2.2.1
  have hx4 := hX.2.2.2.1
  refine w_aload c_214_0 rfl ?_
  refine z_getB c_214_1 sp_157 (by decide) rfl hR.1.1.2.2.2.1 ?_
  refine b_if_eq c_214_4 (fun h1_ => ?_) (fun h1_ => ?_)
  · refine w_aload c_214_18 rfl ?_
    refine z_push c_214_19 ?_
    refine wc_205 c_214_20 sp_157 (Nat.le_of_ble_eq_true rfl) (by omega) ?_
    refine t_refuses (by omega) ?_
    refine r_i ?_
    refine z_ret c_214_23 rfl ?_
    refine k2 (fun z => by first | exact absurd z.1.1 (of_decide_eq_false (by assumption)) | exact absurd (And.intro z.1.2 z.2) (of_decide_eq_false (by assumption))) _ _ up_eq (frG.rf.up (Or.inr ⟨rfl, rfl⟩)) frG.rf
  · refine w_aload c_214_7 rfl ?_
    refine w_iload c_214_8 rfl ?_
    refine z_push c_214_9 ?_
    refine z_push c_214_10 ?_
    refine wc_180 c_214_12 sp_157 (Nat.le_of_ble_eq_true rfl) (by omega) ?_
    refine t_isAhead hS hR hX rv (by omega) (by omega) (by omega) (by omega) ?_
    refine r_i ?_
    refine b_if_ne c_214_15 (fun h2_ => ?_) (fun h2_ => ?_)
    · refine w_aload c_214_24 rfl ?_
      refine wc_210 c_214_25 sp_157 (Nat.le_of_ble_eq_true rfl) (by omega) ?_
      have hcc : (D 0 0 = 1 ∧ 1 ≤ v ∧ v ≤ 100) ∧ X.1 + v ≤ 999 := ⟨⟨of_decide_eq_true h1_, (of_decide_eq_true h2_).1⟩, (of_decide_eq_true h2_).2⟩
      refine t_keeps hnw hct hnr hcr (fun I2 hn2 hc2 hr2 hF2 => ?_)
      have hR2 := hR.ke hF2
      refine r_v ?_
      refine w_aload c_214_28 rfl ?_
      refine z_push c_214_29 ?_
      refine z_putZ c_214_30 sp_157 (by decide) rfl ?_
      refine upG_k (frG.rf (P := PT) (I := I2)) (Or.inl ⟨rfl, Or.inr rfl⟩) (fun I3 hi3 hF3 => ?_)
      have hov3 : I3 157 63 = iI 0 := by rw [hi3]; exact up_eq
      have hR3 : rS I3 D cd X := ⟨hR2.1.pt hF3, hR2.2.fr (fun k z => by rw [hi3]; exact up_ne (by omega))⟩
      refine w_aload c_214_33 rfl ?_
      refine w_iload c_214_34 rfl ?_
      refine wc_176 c_214_35 sp_157 (Nat.le_of_ble_eq_true rfl) (by omega) ?_
      suffices hA : aWp none (d - 1) 176 0 [.ref 157, .int (iI ((v.toNat : Nat) : Int)), .null] [] I3 L (aR sh su) _ by rw [show ((v.toNat : Nat) : Int) = v by omega] at hA; exact hA
      refine t_seasonsGo hS hX (by omega) (by omega) (by omega) hR3 hov3 (fun I4 L4 hR4 hov4 hF4 hG4 => ?_)
      rw [Int.zero_add] at hov4
      refine r_v ?_
      refine w_aload c_214_38 rfl ?_
      refine z_getZ c_214_39 sp_157 (by decide) rfl hov4 ?_
      refine z_ret c_214_42 rfl ?_
      exact k1 hcc I4 L4 hR4 (by rw [hF4 157 71 (by decide), hF3 157 71 (by decide)]; exact hn2) (by rw [hF4 157 70 (by decide), hF3 157 70 (by decide)]; exact hc2) (fun k hk => by rw [hF4 207 _ (by omega), hF3 207 _ (by omega)]; exact hr2 k hk) ((hF2.mono (fun q k z => Or.inr z)).tr ((hF3.tr hF4).mono (fun q k z => Or.inl z))) hG4
    · refine w_aload c_214_18 rfl ?_
      refine z_push c_214_19 ?_
      refine wc_205 c_214_20 sp_157 (Nat.le_of_ble_eq_true rfl) (by omega) ?_
      refine t_refuses (by omega) ?_
      refine r_i ?_
      refine z_ret c_214_23 rfl ?_
      refine k2 (fun z => by first | exact absurd z.1.1 (of_decide_eq_false (by assumption)) | exact absurd (And.intro z.1.2 z.2) (of_decide_eq_false (by assumption))) _ _ up_eq (frG.rf.up (Or.inr ⟨rfl, rfl⟩)) frG.rf

set_option maxHeartbeats 1000000 in
theorem t_seed {d : Nat} {I : aFI} {L : aFL} {Q : aPo} {sh : Nat} {su : Option Nat} {v : Int} (rv : -2147483648 ≤ v ∧ v < 2147483648) (k1 : 0 ≤ v → Q (some (.int (aBo true))) I (aUp L 157 72 (lI v)) (aR sh su)) (k2 : v < 0 → Q (some (.int (aBo false))) (aUp I 159 5 (iI ((I 159 5).toInt + 1))) L (aR sh su)) : aWp none d 215 0 [.ref 157, .int (iI v)] [] I L (aR sh su) Q := by
  refine w_iload c_215_0 rfl ?_
  refine z_if_ge c_215_1 (by first | exact aRg_of _ | (unfold aRg; omega)) (fun h1_ => ?_) (fun h1_ => ?_)
  · refine w_aload c_215_16 rfl ?_
    refine w_iload c_215_17 rfl ?_
    refine z_i2l c_215_18 (by first | exact aRg_of _ | (unfold aRg; omega)) ?_
    refine w_putL c_215_19 sp_157 (by decide) rfl ?_
    refine z_push c_215_22 ?_
    refine z_ret1 c_215_23 rfl ?_
    exact k1 (by omega)
  · refine w_aload c_215_4 rfl ?_
    refine w_getR c_215_5 sp_157 (by decide) rfl pr_157_9 ?_
    refine z_push c_215_8 ?_
    refine w_dup2 c_215_9 rfl rfl ?_
    refine z_iaload c_215_10 sp_159 (by omega) (by first | decide | omega) (iI_of _) ?_
    refine z_push c_215_11 ?_
    refine z_iadd c_215_12 ?_
    refine z_iastore c_215_13 sp_159 (by omega) (by decide) ?_
    refine z_push c_215_14 ?_
    refine z_ret0 c_215_15 rfl ?_
    exact k2 (by omega)

def rnS (s : Int) : Int := (1103515245 * s + 12345) % 2147483648
def dyF (dr s : Int) : Nat → Int × Nat
  | 0 => (s, 0)
  | i + 1 => (rnS (dyF dr s i).1, if rnS (dyF dr s i).1 / 64 % 100 < dr then (dyF dr s i).2 ||| 2 ^ i else (dyF dr s i).2)
theorem rnS_rg {s : Int} : 0 ≤ rnS s ∧ rnS s < 2147483648 := by unfold rnS; omega
theorem dyF_rg {dr s : Int} (hs : 0 ≤ s ∧ s < 2147483648) : ∀ i : Nat, i ≤ 8 → (0 ≤ (dyF dr s i).1 ∧ (dyF dr s i).1 < 2147483648) ∧ (dyF dr s i).2 < 256
  | 0, _ => ⟨hs, by show 0 < 256; omega⟩
  | i + 1, h => by
    have ih := dyF_rg (dr := dr) hs i (by omega)
    refine ⟨rnS_rg, ?_⟩
    show (if _ then _ else _ : Nat) < 256
    split
    · exact or_lt (n := 8) ih.2 (Nat.pow_lt_pow_right (by omega) (by omega))
    · exact ih.2
def yrF (D : Nat → Int → Int) (cd : Nat → Option (List Int)) (X : Lk) (s : Int) : Nat → Lk × Int × Int
  | 0 => (X, s, 0)
  | k + 1 => (seaX D cd (dyF (D 0 16) (yrF D cd X s k).2.1 (D 1 0).toNat).2 (yrF D cd X s k).1, (dyF (D 0 16) (yrF D cd X s k).2.1 (D 1 0).toNat).1, (yrF D cd X s k).2.2 + popc (dyF (D 0 16) (yrF D cd X s k).2.1 (D 1 0).toNat).2)
section YRF
variable {D : Nat → Int → Int} {cd : Nat → Option (List Int)} {X : Lk} {s : Int}
theorem yrF_s : ∀ k : Nat, (yrF D cd X s k).1.1 = X.1 + k
  | 0 => by show X.1 = X.1 + 0; omega
  | k + 1 => by have := yrF_s k; show (yrF D cd X s k).1.1 + 1 = _; omega
theorem yrF_ok (hS : wfS D cd) (hX : lkOK X) (hs : 0 ≤ s ∧ s < 2147483648) : ∀ k : Nat, X.1 + k ≤ 1000 → lkOK (yrF D cd X s k).1 ∧ (0 ≤ (yrF D cd X s k).2.1 ∧ (yrF D cd X s k).2.1 < 2147483648)
  | 0, _ => ⟨hX, hs⟩
  | k + 1, h => by
    have hdd := hS.n
    have ih := yrF_ok hS hX hs k (by omega)
    have h1 := yrF_s (D := D) (cd := cd) (X := X) (s := s) k
    exact ⟨seaX_ok hS ih.1 (by omega), (dyF_rg ih.2 (D 1 0).toNat (by omega)).1⟩
end YRF
abbrev LKS : Nat → Nat → Prop := fun q k => q = 234 ∨ (q = 157 ∧ k = 72)
set_option maxHeartbeats 1000000 in
theorem t_drawOf {d : Nat} {I : aFI} {L : aFL} {Q : aPo} {sh : Nat} {su : Option Nat} {s : Int} (hs : L 157 72 = lI s) (hr : 0 ≤ s ∧ s < 2147483648) (k : Q (some (.int (iI (rnS s / 64 % 100)))) I (aUp L 157 72 (lI (rnS s))) (aR sh su)) : aWp none d 216 0 [.ref 157, .int (iI 100)] [] I L (aR sh su) Q := by
  have hrr := rnS_rg (s := s)
  refine w_aload c_216_0 rfl ?_
  refine z_pushl c_216_1 ?_
  refine w_aload c_216_4 rfl ?_
  refine z_getL c_216_5 sp_157 (by decide) rfl hs ?_
  refine z_lmul c_216_8 ?_
  refine z_pushl c_216_9 ?_
  refine z_ladd c_216_12 ?_
  refine z_pushl c_216_13 ?_
  refine z_lrem c_216_16 (by omega) (by omega) ?_
  refine w_putL c_216_17 sp_157 (by decide) rfl ?_
  change aWp _ _ _ _ _ _ _ (aUp L 157 72 (lI (rnS s))) _ _
  have hs : aUp L 157 72 (lI (rnS s)) 157 72 = lI (rnS s) := upL_eq
  refine w_aload c_216_20 rfl ?_
  refine z_getL c_216_21 sp_157 (by decide) rfl hs ?_
  refine z_pushl c_216_24 ?_
  refine z_ldiv c_216_27 (by omega) (by omega) ?_
  refine w_iload c_216_28 rfl ?_
  refine z_i2l c_216_29 (by first | exact aRg_of _ | (unfold aRg; omega)) ?_
  refine z_lrem c_216_30 (by omega) (by omega) ?_
  refine z_l2i c_216_31 ?_
  refine z_ret c_216_32 rfl ?_
  exact k

set_option maxHeartbeats 2000000 in
theorem t_years_1 {d : Nat} {I : aFI} {L0 : aFL} {Q : aPo} {sh : Nat} {su : Option Nat} {D : Nat → Int → Int} {cd : Nat → Option (List Int)} {s v c j3 : Int} (hS : wfS D cd) (hD : rD I D) (hs : 0 ≤ s ∧ s < 2147483648) (hd : 1 ≤ d) : ∀ (n : Nat) (i : Nat) (L : aFL), (D 1 0).toNat - i < n → ((i : Int) ≤ D 1 0) → (L 157 72 = lI (dyF (D 0 16) s i).1) → (frG LKS L0 L) → (∀ L2 : aFL, L2 157 72 = lI (dyF (D 0 16) s (D 1 0).toNat).1 → frG LKS L0 L2 → aWp none d 217 82 [.ref 157, .int (iI v), .int (iI c), .int (iI j3), .int (iI (((dyF (D 0 16) s (D 1 0).toNat).2 : Nat) : Int)), .int (iI (D 1 0))] [] I L2 (aR sh su) Q) → aWp none d 217 43 [.ref 157, .int (iI v), .int (iI c), .int (iI j3), .int (iI (((dyF (D 0 16) s i).2 : Nat) : Int)), .int (iI (i : Int))] [] I L (aR sh su) Q := by
  intro n
  induction n with
  | zero => intro i L h; omega
  | succ n ih =>
    intro i L hn2 h1 hL hG k
    have hdd := hS.n
    have hhh := hS.h
    have hdy := dyF_rg (dr := D 0 16) hs i (by omega)
    have hrr := rnS_rg (s := (dyF (D 0 16) s i).1)
    refine w_iload c_217_43 rfl ?_
    refine w_aload c_217_45 rfl ?_
    refine wc_159 c_217_46 sp_157 (Nat.le_of_ble_eq_true rfl) (by omega) ?_
    refine t_brookMany hD ?_
    refine r_i ?_
    refine z_ic_ge c_217_49 (by first | exact aRg_of _ | (unfold aRg; omega)) (by first | exact aRg_of _ | (unfold aRg; omega)) (fun h1_ => ?_) (fun h1_ => ?_)
    · have e9 : (D 1 0).toNat = i := by omega
      have e8 : D 1 0 = (i : Int) := by omega
      have hA := k L (by rw [e9]; exact hL) hG
      rw [e9, e8] at hA
      exact hA
    · refine w_aload c_217_52 rfl ?_
      refine z_push c_217_53 ?_
      refine wc_216 c_217_55 sp_157 (Nat.le_of_ble_eq_true rfl) (by omega) ?_
      refine t_drawOf hL (by omega) ?_
      have hL2 : aUp L 157 72 (lI (rnS (dyF (D 0 16) s i).1)) 157 72 = lI (rnS (dyF (D 0 16) s i).1) := upL_eq
      have hG2 : frG LKS L0 (aUp L 157 72 (lI (rnS (dyF (D 0 16) s i).1))) := hG.up (Or.inr ⟨rfl, rfl⟩)
      generalize aUp L 157 72 (lI (rnS (dyF (D 0 16) s i).1)) = L1 at hL2 hG2 ⊢
      refine r_i ?_
      refine w_aload c_217_58 rfl ?_
      refine w_getR c_217_59 sp_157 (by decide) rfl pr_157_50 ?_
      refine z_push c_217_62 ?_
      refine z_iaload c_217_63 sp_198 (by omega) (by first | decide | omega) hD.2.2.1.2.2 ?_
      refine z_ic_ge c_217_64 (by first | exact aRg_of _ | (unfold aRg; omega)) (by first | exact aRg_of _ | (unfold aRg; omega)) (fun h2_ => ?_) (fun h2_ => ?_)
      · refine z_iinc c_217_76 rfl rfl ?_
        refine w_goto c_217_79 ?_
        have hst : (dyF (D 0 16) s (i + 1)) = (rnS (dyF (D 0 16) s i).1, (dyF (D 0 16) s i).2) := by show (_, _) = _; rw [if_neg (by omega)]
        have hA := ih (i + 1) L1 (by omega) (by omega) (by rw [hst]; exact hL2) hG2 k
        rw [hst] at hA
        exact hA
      · refine w_iload c_217_67 rfl ?_
        refine z_push c_217_69 ?_
        refine w_iload c_217_70 rfl ?_
        refine w_ishl c_217_72 (shl1 (by omega)) ?_
        refine w_ior c_217_73 (iI_or _ _) ?_
        refine w_istore c_217_74 (Nat.le_of_ble_eq_true rfl) rfl ?_
        refine z_iinc c_217_76 rfl rfl ?_
        refine w_goto c_217_79 ?_
        have hst : (dyF (D 0 16) s (i + 1)) = (rnS (dyF (D 0 16) s i).1, (dyF (D 0 16) s i).2 ||| 2 ^ i) := by show (_, _) = _; rw [if_pos (by omega)]
        have hA := ih (i + 1) L1 (by omega) (by omega) (by rw [hst]; exact hL2) hG2 k
        rw [hst] at hA
        exact hA

set_option maxHeartbeats 2000000 in
theorem t_years_2 {d : Nat} {I0 : aFI} {L0 : aFL} {Q : aPo} {sh : Nat} {su : Option Nat} {D : Nat → Int → Int} {cd : Nat → Option (List Int)} {X : Lk} {s : Int} {m : Nat} (hS : wfS D cd) (hX : lkOK X) (hs : 0 ≤ s ∧ s < 2147483648) (hm : X.1 + m ≤ 999) (hm2 : m ≤ 100) (hd : 5 ≤ d) : ∀ (n : Nat) (i : Nat) (I : aFI) (L : aFL) (v4 v5 : Value), m + 1 - i < n → (i ≤ m) → (0 ≤ (yrF D cd X s i).2.2 ∧ (yrF D cd X s i).2.2 ≤ 8 * i) → (rS I D cd (yrF D cd X s i).1) → (L 157 72 = lI (yrF D cd X s i).2.1) → (frG PT I0 I) → (frG LKS L0 L) → (∀ (I2 : aFI) (L2 : aFL), rS I2 D cd (yrF D cd X s m).1 → L2 157 72 = lI (yrF D cd X s m).2.1 → frG PT I0 I2 → frG LKS L0 L2 → Q (some (.int (iI (yrF D cd X s m).2.2))) I2 L2 (aR sh su)) → aWp none d 217 32 [.ref 157, .int (iI (m : Int)), .int (iI (yrF D cd X s i).2.2), .int (iI (i : Int)), v4, v5] [] I L (aR sh su) Q := by
  intro n
  induction n with
  | zero => intro i I L v4 v5 h; omega
  | succ n ih =>
    intro i I L v4 v5 hn2 h1 hc hR hL hF hG k
    have hdd := hS.n
    have hss := yrF_s (D := D) (cd := cd) (X := X) (s := s) i
    have hok := yrF_ok (cd := cd) hS hX hs i (by omega)
    have hdy := dyF_rg (dr := D 0 16) hok.2 (D 1 0).toNat (by omega)
    have hpc := popc_le (n := (dyF (D 0 16) (yrF D cd X s i).2.1 (D 1 0).toNat).2) hdy.2
    refine w_iload c_217_32 rfl ?_
    refine w_iload c_217_33 rfl ?_
    refine z_ic_ge c_217_34 (by first | exact aRg_of _ | (unfold aRg; omega)) (by first | exact aRg_of _ | (unfold aRg; omega)) (fun h1_ => ?_) (fun h1_ => ?_)
    · refine w_iload c_217_104 rfl ?_
      refine z_ret c_217_105 rfl ?_
      have e9 : i = m := by omega
      subst e9
      exact k I L hR hL hF hG
    · refine z_push c_217_37 ?_
      refine w_istore c_217_38 (Nat.le_of_ble_eq_true rfl) rfl ?_
      refine z_push c_217_40 ?_
      refine w_istore c_217_41 (Nat.le_of_ble_eq_true rfl) rfl ?_
      refine t_years_1 hS hR.1.1 hok.2 (by omega) _ 0 L (Nat.lt_succ_self _) (by omega) hL frG.rf (fun L1 hL1 hG1 => ?_)
      refine w_iload c_217_82 rfl ?_
      refine w_iload c_217_83 rfl ?_
      refine wc_183 c_217_85 (Nat.le_of_ble_eq_true rfl) (by omega) ?_
      refine t_bits hdy.2 ?_
      refine r_i ?_
      refine z_iadd c_217_88 ?_
      refine w_istore c_217_89 (Nat.le_of_ble_eq_true rfl) rfl ?_
      refine w_aload c_217_90 rfl ?_
      refine w_iload c_217_91 rfl ?_
      refine z_push c_217_93 ?_
      refine z_push c_217_94 ?_
      refine wc_175 c_217_95 sp_157 (Nat.le_of_ble_eq_true rfl) (by omega) ?_
      refine t_seasonGoes0 hS hR hok.1 hdy.2 rfl (iI_of _) (by omega) (fun I2 L3 hR2 hov2 hF2 hG2 => ?_)
      have hG3 : frG LKS L0 L3 := (hG.tr hG1).tr (hG2.mono (fun q k z => Or.inl z))
      refine r_v ?_
      refine z_iinc c_217_98 rfl rfl ?_
      refine w_goto c_217_101 ?_
      exact ih (i + 1) I2 L3 _ _ (by omega) (by omega) (by show 0 ≤ _ + ((popc _ : Nat) : Int) ∧ _ + ((popc _ : Nat) : Int) ≤ _; omega) hR2 ((hG2 157 72 (by decide)).trans hL1) (hF.tr hF2) hG3 k

set_option maxHeartbeats 1000000 in
theorem t_years {d : Nat} {I : aFI} {L : aFL} {Q : aPo} {sh : Nat} {su : Option Nat} {D : Nat → Int → Int} {cd : Nat → Option (List Int)} {X : Lk} {v s : Int} (hS : wfS D cd) (hR : rS I D cd X) (hX : lkOK X) (rv : -2147483648 ≤ v ∧ v < 2147483648) {nw ct : Int} (hnw : I 157 71 = iI nw) (hct : I 157 70 = iI ct) (hnr : 0 ≤ nw ∧ nw < 20) (hcr : 0 ≤ ct ∧ ct ≤ 20) (hL : L 157 72 = lI s) (hsr : 0 ≤ s ∧ s < 2147483648) (hd : 6 ≤ d) (k1 : (D 0 0 = 1 ∧ 1 ≤ v ∧ v ≤ 100) ∧ X.1 + v ≤ 999 → ∀ (I2 : aFI) (L2 : aFL), rS I2 D cd (yrF D cd X s v.toNat).1 → L2 157 72 = lI (yrF D cd X s v.toNat).2.1 → I2 157 71 = iI ((nw + 1) % 20) → I2 157 70 = iI (min 20 (ct + 1)) → (∀ k : Nat, k < 188 → I2 207 (188 * ((nw + 1) % 20).toNat + k) = I 202 k) → frG (fun q k => PT q k ∨ PKe ((nw + 1) % 20).toNat q k) I I2 → frG LKS L L2 → Q (some (.int (iI (yrF D cd X s v.toNat).2.2))) I2 L2 (aR sh su)) (k2 : ¬ ((D 0 0 = 1 ∧ 1 ≤ v ∧ v ≤ 100) ∧ X.1 + v ≤ 999) → ∀ (I2 : aFI) (L2 : aFL), I2 159 3 = iI ((I 159 3).toInt + 1) → frG (PR 3) I I2 → frG LK L L2 → Q (some (.int (iI (-1)))) I2 L2 (aR sh su)) : aWp none d 217 0 [.ref 157, .int (iI v), .null, .null, .null, .null] [] I L (aR sh su) Q := by
  have hdd := hS.n
  have hx1 := hX.1
  have hx2 := hX.2.1
  have hx3 := hX.2.2.1
  have hx4 := hX.2.2.2.1
  refine w_aload c_217_0 rfl ?_
  refine z_getB c_217_1 sp_157 (by decide) rfl hR.1.1.2.2.2.1 ?_
  refine b_if_eq c_217_4 (fun h1_ => ?_) (fun h1_ => ?_)
  · refine w_aload c_217_18 rfl ?_
    refine z_push c_217_19 ?_
    refine wc_205 c_217_20 sp_157 (Nat.le_of_ble_eq_true rfl) (by omega) ?_
    refine t_refuses (by omega) ?_
    refine r_i ?_
    refine z_ret c_217_23 rfl ?_
    refine k2 (fun z => by first | exact absurd z.1.1 (of_decide_eq_false (by assumption)) | exact absurd (And.intro z.1.2 z.2) (of_decide_eq_false (by assumption))) _ _ up_eq (frG.rf.up (Or.inr ⟨rfl, rfl⟩)) frG.rf
  · refine w_aload c_217_7 rfl ?_
    refine w_iload c_217_8 rfl ?_
    refine z_push c_217_9 ?_
    refine z_push c_217_10 ?_
    refine wc_180 c_217_12 sp_157 (Nat.le_of_ble_eq_true rfl) (by omega) ?_
    refine t_isAhead hS hR hX rv (by omega) (by omega) (by omega) (by omega) ?_
    refine r_i ?_
    refine b_if_ne c_217_15 (fun h2_ => ?_) (fun h2_ => ?_)
    · refine w_aload c_217_24 rfl ?_
      refine wc_210 c_217_25 sp_157 (Nat.le_of_ble_eq_true rfl) (by omega) ?_
      have hcc : (D 0 0 = 1 ∧ 1 ≤ v ∧ v ≤ 100) ∧ X.1 + v ≤ 999 := ⟨⟨of_decide_eq_true h1_, (of_decide_eq_true h2_).1⟩, (of_decide_eq_true h2_).2⟩
      refine t_keeps hnw hct hnr hcr (fun I2 hn2 hc2 hr2 hF2 => ?_)
      have hR2 := hR.ke hF2
      refine r_v ?_
      refine z_push c_217_28 ?_
      refine w_istore c_217_29 (Nat.le_of_ble_eq_true rfl) rfl ?_
      refine z_push c_217_30 ?_
      refine w_istore c_217_31 (Nat.le_of_ble_eq_true rfl) rfl ?_
      suffices hA : aWp none d 217 32 [.ref 157, .int (iI ((v.toNat : Nat) : Int)), .int (iI 0), .int (iI ((0 : Nat) : Int)), .null, .null] [] I2 L (aR sh su) Q by rw [show ((v.toNat : Nat) : Int) = v by omega] at hA; exact hA
      exact t_years_2 hS hX hsr (by omega) (by omega) (by omega) _ 0 I2 L _ _ (Nat.lt_succ_self _) (by omega) ⟨Int.le_refl 0, Int.le_refl 0⟩ hR2 hL frG.rf frG.rf (fun I4 L4 hR4 hL4 hF4 hG4 => k1 hcc I4 L4 hR4 hL4 (by rw [hF4 157 71 (by decide)]; exact hn2) (by rw [hF4 157 70 (by decide)]; exact hc2) (fun k hk => by rw [hF4 207 _ (by omega)]; exact hr2 k hk) ((hF2.mono (fun q k z => Or.inr z)).tr (hF4.mono (fun q k z => Or.inl z))) hG4)
    · refine w_aload c_217_18 rfl ?_
      refine z_push c_217_19 ?_
      refine wc_205 c_217_20 sp_157 (Nat.le_of_ble_eq_true rfl) (by omega) ?_
      refine t_refuses (by omega) ?_
      refine r_i ?_
      refine z_ret c_217_23 rfl ?_
      refine k2 (fun z => by first | exact absurd z.1.1 (of_decide_eq_false (by assumption)) | exact absurd (And.intro z.1.2 z.2) (of_decide_eq_false (by assumption))) _ _ up_eq (frG.rf.up (Or.inr ⟨rfl, rfl⟩)) frG.rf

