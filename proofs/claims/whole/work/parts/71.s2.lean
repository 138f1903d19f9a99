/-! the reference: fade, finds, soonest, dip (p70.py) -/
set_option maxHeartbeats 2000000 in
theorem t_fade_1 {d : Nat} {I0 : aFI} {L0 : aFL} {Q : aPo} {sh : Nat} {su : Option Nat} {D : Nat → Int → Int} {cd : Nat → Option (List Int)} {X : Lk} {e : Int} {m : Nat} (hS : wfS D cd) (hX : lkOK X) (hm : (m : Int) = ahZ X) (hs : X.1 ≤ 999) (he : 0 ≤ e ∧ e < D 1 2) (hd : 6 ≤ d) {v3 : Value} : ∀ (n : Nat) (i : Nat) (I : aFI) (L : aFL), m + 1 - i < n → (i ≤ m) → (rS I D cd (seaN D cd X i)) → (frG PT I0 I) → (frG LK L0 L) → (∀ (j : Nat) (I2 : aFI) (L2 : aFL), j ≤ m → rS I2 D cd (seaN D cd X j) → frG PT I0 I2 → frG LK L0 L2 → fst0 (fun n => !crZ D (seaN D cd X n) e) i (m + 1 - i) = (if crZ D (seaN D cd X j) e = true then -1 else (j : Int)) → aWp none d 194 63 [.ref 157, .int (iI e), .int (iI (j : Int)), v3] [] I2 L2 (aR sh su) Q) → aWp none d 194 24 [.ref 157, .int (iI e), .int (iI (i : Int)), v3] [] I L (aR sh su) Q := by
  intro n
  induction n with
  | zero => intro i I L h; omega
  | succ n ih =>
    intro i I L hn2 h1 hR hF hG k
    have hss := seaN_s (D := D) (cd := cd) (X := X) i
    have hdd := hS.n
    have hah := ahZ_rg hX hs
    have hXi : lkOK (seaN D cd X i) := seaN_ok hS hX i (by omega)
    have hy := hXi.1
    refine w_aload c_194_24 rfl ?_
    refine w_iload c_194_25 rfl ?_
    refine wc_181 c_194_26 sp_157 (Nat.le_of_ble_eq_true rfl) (by omega) ?_
    refine t_canRead hS hR hXi (by omega) (by omega) ?_
    refine r_i ?_
    refine b_if_eq c_194_29 (fun h1_ => ?_) (fun h1_ => ?_)
    · refine k i I L h1 hR hF hG ?_
      first
      | (rw [fst0_s h1, if_pos (by simp only [*]; decide), if_neg (by simp only [*]; exact Bool.noConfusion)]; done)
      | (rw [if_pos (by assumption), show i = m by omega, fst0_s (Nat.le_refl m), if_neg (by rw [show m = i by omega]; simp only [*]; decide), fst0_z (by omega)])
    · refine w_iload c_194_32 rfl ?_
      refine z_push c_194_33 ?_
      refine z_ic_ge c_194_35 (by first | exact aRg_of _ | (unfold aRg; omega)) (by first | exact aRg_of _ | (unfold aRg; omega)) (fun h2_ => ?_) (fun h2_ => ?_)
      · refine k i I L h1 hR hF hG ?_
        first
        | (rw [fst0_s h1, if_pos (by simp only [*]; decide), if_neg (by simp only [*]; exact Bool.noConfusion)]; done)
        | (rw [if_pos (by assumption), show i = m by omega, fst0_s (Nat.le_refl m), if_neg (by rw [show m = i by omega]; simp only [*]; decide), fst0_z (by omega)])
      · refine w_aload c_194_38 rfl ?_
        refine w_getR c_194_39 sp_157 (by decide) rfl pr_157_58 ?_
        refine z_push c_194_42 ?_
        refine z_iaload c_194_43 sp_202 (by omega) (by first | decide | omega) hR.2.1 ?_
        refine z_push c_194_44 ?_
        refine z_ic_ge c_194_47 (by first | exact aRg_of _ | (unfold aRg; omega)) (by first | exact aRg_of _ | (unfold aRg; omega)) (fun h3_ => ?_) (fun h3_ => ?_)
        · refine k i I L h1 hR hF hG ?_
          first
          | (rw [fst0_s h1, if_pos (by simp only [*]; decide), if_neg (by simp only [*]; exact Bool.noConfusion)]; done)
          | (rw [if_pos (by assumption), show i = m by omega, fst0_s (Nat.le_refl m), if_neg (by rw [show m = i by omega]; simp only [*]; decide), fst0_z (by omega)])
        · refine w_aload c_194_50 rfl ?_
          refine z_push c_194_51 ?_
          refine z_push c_194_52 ?_
          refine z_push c_194_53 ?_
          refine wc_175 c_194_54 sp_157 (Nat.le_of_ble_eq_true rfl) (by omega) ?_
          refine t_seasonGoes0 (dry := 0) hS hR hXi (by decide) rfl (iI_of _) (by omega) (fun I2 L2 hR2 hov2 hF2 hG2 => ?_)
          refine r_v ?_
          refine z_iinc c_194_57 rfl rfl ?_
          refine w_goto c_194_60 ?_
          refine ih (i + 1) I2 L2 (by omega) (by omega) hR2 (hF.tr hF2) (hG.tr hG2) (fun j I3 L3 z1 z2 z3 z4 z5 => k j I3 L3 z1 z2 z3 z4 ?_)
          rw [fst0_s (by omega), if_neg (by simp only [*]; decide)]; exact z5

set_option maxHeartbeats 1000000 in
theorem t_fade {d : Nat} {I : aFI} {L : aFL} {Q : aPo} {sh : Nat} {su : Option Nat} {D : Nat → Int → Int} {cd : Nat → Option (List Int)} {X : Lk} {e : Int} (hS : wfS D cd) (hR : rS I D cd X) (hX : lkOK X) (re : -2147483648 ≤ e ∧ e < 2147483648) (hs : X.1 ≤ 999) (hth : I 157 61 = aBo false) (hd : 8 ≤ d) (k : ∀ (I2 : aFI) (L2 : aFL), frG PE I I2 → frG LK L L2 → Q (some (.int (iI (fadeZ D cd X e)))) I2 L2 (aR sh su)) : aWp none d 194 0 [.ref 157, .int (iI e), .null, .null] [] I L (aR sh su) Q := by
  have hah := ahZ_rg hX hs
  have hnn : (((ahZ X).toNat : Nat) : Int) = ahZ X := Int.toNat_of_nonneg hah.1
  have hdd := hS.n
  have hx1 := hX.1
  have hx2 := hX.2.1
  have hx3 := hX.2.2.1
  have hx4 := hX.2.2.2.1
  refine w_aload c_194_0 rfl ?_
  refine w_iload c_194_1 rfl ?_
  refine wc_162 c_194_2 sp_157 (Nat.le_of_ble_eq_true rfl) (by omega) ?_
  refine t_isDeed hS hR.1.1 re (by omega) ?_
  refine r_i ?_
  refine b_if_eq c_194_5 (fun h1_ => ?_) (fun h1_ => ?_)
  · refine z_push c_194_16 ?_
    refine z_ret c_194_17 rfl ?_
    refine q_i (k _ _ frG.rf frG.rf) ?_
    unfold fadeZ
    first
    | (rw [if_neg (fun z => Bool.noConfusion ((decide_eq_true z.1).symm.trans (show _ = false by assumption)))]; done)
    | (rw [if_neg (fun z => Bool.noConfusion (z.2.symm.trans (by assumption)))]; done)
  · refine w_aload c_194_8 rfl ?_
    refine w_iload c_194_9 rfl ?_
    refine wc_163 c_194_10 sp_157 (Nat.le_of_ble_eq_true rfl) (by omega) ?_
    have hdb : 0 ≤ e ∧ e < D 1 2 := of_decide_eq_true h1_
    refine t_isWritten hR.2 ⟨by omega, by omega⟩ ?_
    refine r_i ?_
    refine b_if_ne c_194_13 (fun h2_ => ?_) (fun h2_ => ?_)
    · refine w_aload c_194_18 rfl ?_
      refine wc_177 c_194_19 sp_157 (Nat.le_of_ble_eq_true rfl) (by omega) ?_
      refine t_putsAside (fun I1 hp1 hp2 hp3 => ?_)
      have hR1 := hR.aside hp3
      refine r_v ?_
      refine z_push c_194_22 ?_
      refine w_istore c_194_23 (Nat.le_of_ble_eq_true rfl) rfl ?_
      refine t_fade_1 (m := (ahZ X).toNat) hS hX hnn hs hdb (by omega) _ 0 I1 L (Nat.lt_succ_self _) (by omega) hR1 frG.rf frG.rf (fun j I2 L2 hj hR2 hF2 hG2 he5 => ?_)
      have hss := seaN_s (D := D) (cd := cd) (X := X) j
      have hXj : lkOK (seaN D cd X j) := seaN_ok hS hX j (by omega)
      refine w_aload c_194_63 rfl ?_
      refine w_iload c_194_64 rfl ?_
      refine wc_181 c_194_65 sp_157 (Nat.le_of_ble_eq_true rfl) (by omega) ?_
      refine t_canRead hS hR2 hXj (by omega) (by omega) ?_
      refine r_i ?_
      refine b_if_ne c_194_68 (fun h21_ => ?_) (fun h21_ => ?_)
      · refine z_push c_194_75 ?_
        refine w_istore c_194_76 (Nat.le_of_ble_eq_true rfl) rfl ?_
        refine w_aload c_194_77 rfl ?_
        refine wc_178 c_194_78 sp_157 (Nat.le_of_ble_eq_true rfl) (by omega) ?_
        refine t_takesBack (fun I3 hb1 hb2 hb3 => ?_)
        refine r_v ?_
        refine w_iload c_194_81 rfl ?_
        refine z_if_eq c_194_82 (by first | exact aRg_of _ | (unfold aRg; omega)) (fun h22_ => ?_) (fun h22_ => absurd (by decide) h22_)
        refine z_push c_194_89 ?_
        refine z_ret c_194_90 rfl ?_
        refine q_i (k _ _ (back_fr hp3 hp1 (PT.t2 hF2) hb3 hb1 hth hb2) hG2) ?_
        unfold fadeZ; rw [if_pos ⟨hdb, by assumption⟩, show (ahZ X).toNat + 1 = (ahZ X).toNat + 1 - 0 from rfl, he5]
        first | rw [if_pos (by assumption)] | rw [if_neg (by simp only [*]; exact Bool.noConfusion)]
      · refine z_push c_194_71 ?_
        refine w_goto c_194_72 ?_
        refine w_istore c_194_76 (Nat.le_of_ble_eq_true rfl) rfl ?_
        refine w_aload c_194_77 rfl ?_
        refine wc_178 c_194_78 sp_157 (Nat.le_of_ble_eq_true rfl) (by omega) ?_
        refine t_takesBack (fun I3 hb1 hb2 hb3 => ?_)
        refine r_v ?_
        refine w_iload c_194_81 rfl ?_
        refine z_if_eq c_194_82 (by first | exact aRg_of _ | (unfold aRg; omega)) (fun h23_ => absurd h23_ (by decide)) (fun h23_ => ?_)
        refine w_iload c_194_85 rfl ?_
        refine w_goto c_194_86 ?_
        refine z_ret c_194_90 rfl ?_
        refine q_i (k _ _ (back_fr hp3 hp1 (PT.t2 hF2) hb3 hb1 hth hb2) hG2) ?_
        unfold fadeZ; rw [if_pos ⟨hdb, by assumption⟩, show (ahZ X).toNat + 1 = (ahZ X).toNat + 1 - 0 from rfl, he5]
        first | rw [if_pos (by assumption)] | rw [if_neg (by simp only [*]; exact Bool.noConfusion)]
    · refine z_push c_194_16 ?_
      refine z_ret c_194_17 rfl ?_
      refine q_i (k _ _ frG.rf frG.rf) ?_
      unfold fadeZ
      first
      | (rw [if_neg (fun z => Bool.noConfusion ((decide_eq_true z.1).symm.trans (show _ = false by assumption)))]; done)
      | (rw [if_neg (fun z => Bool.noConfusion (z.2.symm.trans (by assumption)))]; done)

set_option maxHeartbeats 2000000 in
theorem t_finds_1 {d : Nat} {I0 : aFI} {L0 : aFL} {Q : aPo} {sh : Nat} {su : Option Nat} {D : Nat → Int → Int} {cd : Nat → Option (List Int)} {X : Lk} {e : Int} {m : Nat} (hS : wfS D cd) (hX : lkOK X) (hm : (m : Int) = ahZ X) (hs : X.1 ≤ 999) (he : 0 ≤ e ∧ e < D 1 2) (hd : 6 ≤ d) {t : Bool} : ∀ (n : Nat) (i : Nat) (I : aFI) (L : aFL), m + 1 - i < n → (i ≤ m) → (rS I D cd (seaN D cd X i)) → (I 157 64 = iI (fdF D cd X e t i).1) → (I 157 65 = iI (fdF D cd X e t i).2) → (frG PT2 I0 I) → (frG LK L0 L) → (∀ (I2 : aFI) (L2 : aFL), I2 157 64 = iI (fdF D cd X e t (m + 1)).1 → I2 157 65 = iI (fdF D cd X e t (m + 1)).2 → frG PT2 I0 I2 → frG LK L0 L2 → aWp none d 195 110 [.ref 157, .int (iI e), .int (aBo t), .int (iI 0), .int (iI ((m + 1 : Nat) : Int))] [] I2 L2 (aR sh su) Q) → aWp none d 195 23 [.ref 157, .int (iI e), .int (aBo t), .int (iI 1), .int (iI (i : Int))] [] I L (aR sh su) Q := by
  intro n
  induction n with
  | zero => intro i I L h; omega
  | succ n ih =>
    intro i I L hn2 h1 hR ha hb hF hG k
    have hss := seaN_s (D := D) (cd := cd) (X := X) i
    have hdd := hS.n
    have hah := ahZ_rg hX hs
    have hXi : lkOK (seaN D cd X i) := seaN_ok hS hX i (by omega)
    have hy := hXi.1
    have hfr := fdF_rg (D := D) (cd := cd) (X := X) (e := e) (t := t) i
    have hkr := dk_rg (b := (seaN D cd X i).2.1) (g := (seaN D cd X i).2.2.1)
    have hyy := hXi.2
    have hst : fdF D cd X e t (i + 1) = if cbZ D cd (seaN D cd X i) e = true ∧ ((fdF D cd X e t i).1 = -1 ∨ t = true ∧ (fdF D cd X e t i).2 < dk (seaN D cd X i).2.1 (seaN D cd X i).2.2.1) then ((i : Int), dk (seaN D cd X i).2.1 (seaN D cd X i).2.2.1) else fdF D cd X e t i := rfl
    refine w_aload c_195_23 rfl ?_
    refine w_iload c_195_24 rfl ?_
    refine wc_172 c_195_25 sp_157 (Nat.le_of_ble_eq_true rfl) (by omega) ?_
    refine t_canBe hS hR hXi he (by omega) (fun I1 L1 hf hf2 => ?_)
    have hR1 := hR.pk hf
    have hF1 := hF.tr (PK.t2 hf)
    have hG1 := hG.tr hf2
    have ha1 := (hf 157 64 (by decide)).trans ha
    have hb1 := (hf 157 65 (by decide)).trans hb
    refine r_i ?_
    refine b_if_eq c_195_28 (fun h1_ => ?_) (fun h1_ => ?_)
    · refine w_iload c_195_68 rfl ?_
      refine z_push c_195_70 ?_
      refine z_ic_ge c_195_72 (by first | exact aRg_of _ | (unfold aRg; omega)) (by first | exact aRg_of _ | (unfold aRg; omega)) (fun h2_ => ?_) (fun h2_ => ?_)
      · refine z_push c_195_91 ?_
        refine w_istore c_195_92 (Nat.le_of_ble_eq_true rfl) rfl ?_
        refine w_iload c_195_93 rfl ?_
        refine z_if_eq c_195_94 (by first | exact aRg_of _ | (unfold aRg; omega)) (fun h3_ => ?_) (fun h3_ => absurd (by decide) h3_)
        refine z_iinc c_195_104 rfl rfl ?_
        refine w_goto c_195_107 ?_
        refine w_iload c_195_19 rfl ?_
        refine z_if_eq c_195_20 (by first | exact aRg_of _ | (unfold aRg; omega)) (fun h4_ => ?_) (fun h4_ => absurd (by decide) h4_)
        rw [if_neg (fun z => by first | exact Bool.noConfusion (z.1.symm.trans (by assumption)) | (rcases z.2 with z2 | z2; exfalso; omega; exact Bool.noConfusion (z2.1.symm.trans (by assumption))) | (rcases z.2 with z2 | z2; exfalso; omega; exfalso; omega))] at hst
        have e7 : i = m := by omega
        subst e7
        exact k _ _ (by rw [hst]; exact ha1) (by rw [hst]; exact hb1) hF1 hG1
      · refine w_aload c_195_75 rfl ?_
        refine w_getR c_195_76 sp_157 (by decide) rfl pr_157_58 ?_
        refine z_push c_195_79 ?_
        refine z_iaload c_195_80 sp_202 (by omega) (by first | decide | omega) hR1.2.1 ?_
        refine z_push c_195_81 ?_
        refine z_ic_ge c_195_84 (by first | exact aRg_of _ | (unfold aRg; omega)) (by first | exact aRg_of _ | (unfold aRg; omega)) (fun h5_ => ?_) (fun h5_ => ?_)
        · refine z_push c_195_91 ?_
          refine w_istore c_195_92 (Nat.le_of_ble_eq_true rfl) rfl ?_
          refine w_iload c_195_93 rfl ?_
          refine z_if_eq c_195_94 (by first | exact aRg_of _ | (unfold aRg; omega)) (fun h6_ => ?_) (fun h6_ => absurd (by decide) h6_)
          refine z_iinc c_195_104 rfl rfl ?_
          refine w_goto c_195_107 ?_
          refine w_iload c_195_19 rfl ?_
          refine z_if_eq c_195_20 (by first | exact aRg_of _ | (unfold aRg; omega)) (fun h7_ => ?_) (fun h7_ => absurd (by decide) h7_)
          rw [if_neg (fun z => by first | exact Bool.noConfusion (z.1.symm.trans (by assumption)) | (rcases z.2 with z2 | z2; exfalso; omega; exact Bool.noConfusion (z2.1.symm.trans (by assumption))) | (rcases z.2 with z2 | z2; exfalso; omega; exfalso; omega))] at hst
          have e7 : i = m := by omega
          subst e7
          exact k _ _ (by rw [hst]; exact ha1) (by rw [hst]; exact hb1) hF1 hG1
        · refine z_push c_195_87 ?_
          refine w_goto c_195_88 ?_
          refine w_istore c_195_92 (Nat.le_of_ble_eq_true rfl) rfl ?_
          refine w_iload c_195_93 rfl ?_
          refine z_if_eq c_195_94 (by first | exact aRg_of _ | (unfold aRg; omega)) (fun h8_ => absurd h8_ (by decide)) (fun h8_ => ?_)
          refine w_aload c_195_97 rfl ?_
          refine z_push c_195_98 ?_
          refine z_push c_195_99 ?_
          refine z_push c_195_100 ?_
          refine wc_175 c_195_101 sp_157 (Nat.le_of_ble_eq_true rfl) (by omega) ?_
          refine t_seasonGoes0 (dry := 0) hS hR1 hXi (by decide) rfl (iI_of _) (by omega) (fun I2 L2 hR2 hov2 hF2 hG2 => ?_)
          refine r_v ?_
          refine z_iinc c_195_104 rfl rfl ?_
          refine w_goto c_195_107 ?_
          refine w_iload c_195_19 rfl ?_
          refine z_if_eq c_195_20 (by first | exact aRg_of _ | (unfold aRg; omega)) (fun h9_ => absurd h9_ (by decide)) (fun h9_ => ?_)
          rw [if_neg (fun z => by first | exact Bool.noConfusion (z.1.symm.trans (by assumption)) | (rcases z.2 with z2 | z2; exfalso; omega; exact Bool.noConfusion (z2.1.symm.trans (by assumption))) | (rcases z.2 with z2 | z2; exfalso; omega; exfalso; omega))] at hst
          have e8 := ih (i + 1) I2 L2 (by omega) (by omega) hR2 (by rw [hst]; exact (hF2 157 64 (by decide)).trans ha1) (by rw [hst]; exact (hF2 157 65 (by decide)).trans hb1) (hF1.tr (PT.t2 hF2)) (hG1.tr hG2) k
          exact e8
    · refine w_aload c_195_31 rfl ?_
      refine z_getZ c_195_32 sp_157 (by decide) rfl ha1 ?_
      refine z_push c_195_35 ?_
      refine z_ic_eq c_195_36 (by first | exact aRg_of _ | (unfold aRg; omega)) (by first | exact aRg_of _ | (unfold aRg; omega)) (fun h10_ => ?_) (fun h10_ => ?_)
      · refine w_aload c_195_54 rfl ?_
        refine w_iload c_195_55 rfl ?_
        refine z_putZ c_195_57 sp_157 (by decide) rfl ?_
        refine upG_k hF1 (Or.inl ⟨rfl, by omega⟩) (fun I3 hi hF1 => ?_)
        have hR1 : rS I3 D cd (seaN D cd X i) := ⟨hR1.1.fr (fun q k z1 z2 => by rw [hi]; exact up_ne (by omega)) (by rw [hi]; exact up_ne (by omega)), hR1.2.fr (fun k z1 => by rw [hi]; exact up_ne (by omega))⟩
        have ha2 : I3 157 64 = iI (i : Int) := by rw [hi]; exact up_eq
        clear hi
        refine w_aload c_195_60 rfl ?_
        refine w_aload c_195_61 rfl ?_
        refine wc_169 c_195_62 sp_157 (Nat.le_of_ble_eq_true rfl) (by omega) ?_
        refine t_darkNow (by omega) hR1.2.2.1 hR1.2.2.2.1 (by omega) (by omega) ?_
        refine r_i ?_
        refine z_putZ c_195_65 sp_157 (by decide) rfl ?_
        refine upG_k hF1 (Or.inl ⟨rfl, by omega⟩) (fun I3 hi hF1 => ?_)
        have hR1 : rS I3 D cd (seaN D cd X i) := ⟨hR1.1.fr (fun q k z1 z2 => by rw [hi]; exact up_ne (by omega)) (by rw [hi]; exact up_ne (by omega)), hR1.2.fr (fun k z1 => by rw [hi]; exact up_ne (by omega))⟩
        have ha1 : I3 157 64 = iI (i : Int) := by rw [hi]; exact (up_ne (by omega)).trans ha2
        have hb1 : I3 157 65 = iI (dk (seaN D cd X i).2.1 (seaN D cd X i).2.2.1) := by rw [hi]; exact up_eq
        clear hi
        refine w_iload c_195_68 rfl ?_
        refine z_push c_195_70 ?_
        refine z_ic_ge c_195_72 (by first | exact aRg_of _ | (unfold aRg; omega)) (by first | exact aRg_of _ | (unfold aRg; omega)) (fun h11_ => ?_) (fun h11_ => ?_)
        · refine z_push c_195_91 ?_
          refine w_istore c_195_92 (Nat.le_of_ble_eq_true rfl) rfl ?_
          refine w_iload c_195_93 rfl ?_
          refine z_if_eq c_195_94 (by first | exact aRg_of _ | (unfold aRg; omega)) (fun h12_ => ?_) (fun h12_ => absurd (by decide) h12_)
          refine z_iinc c_195_104 rfl rfl ?_
          refine w_goto c_195_107 ?_
          refine w_iload c_195_19 rfl ?_
          refine z_if_eq c_195_20 (by first | exact aRg_of _ | (unfold aRg; omega)) (fun h13_ => ?_) (fun h13_ => absurd (by decide) h13_)
          rw [if_pos ⟨by assumption, by first | exact Or.inl (by omega) | exact Or.inr ⟨by assumption, by omega⟩⟩] at hst
          have e7 : i = m := by omega
          subst e7
          exact k _ _ (by rw [hst]; exact ha1) (by rw [hst]; exact hb1) hF1 hG1
        · refine w_aload c_195_75 rfl ?_
          refine w_getR c_195_76 sp_157 (by decide) rfl pr_157_58 ?_
          refine z_push c_195_79 ?_
          refine z_iaload c_195_80 sp_202 (by omega) (by first | decide | omega) hR1.2.1 ?_
          refine z_push c_195_81 ?_
          refine z_ic_ge c_195_84 (by first | exact aRg_of _ | (unfold aRg; omega)) (by first | exact aRg_of _ | (unfold aRg; omega)) (fun h14_ => ?_) (fun h14_ => ?_)
          · refine z_push c_195_91 ?_
            refine w_istore c_195_92 (Nat.le_of_ble_eq_true rfl) rfl ?_
            refine w_iload c_195_93 rfl ?_
            refine z_if_eq c_195_94 (by first | exact aRg_of _ | (unfold aRg; omega)) (fun h15_ => ?_) (fun h15_ => absurd (by decide) h15_)
            refine z_iinc c_195_104 rfl rfl ?_
            refine w_goto c_195_107 ?_
            refine w_iload c_195_19 rfl ?_
            refine z_if_eq c_195_20 (by first | exact aRg_of _ | (unfold aRg; omega)) (fun h16_ => ?_) (fun h16_ => absurd (by decide) h16_)
            rw [if_pos ⟨by assumption, by first | exact Or.inl (by omega) | exact Or.inr ⟨by assumption, by omega⟩⟩] at hst
            have e7 : i = m := by omega
            subst e7
            exact k _ _ (by rw [hst]; exact ha1) (by rw [hst]; exact hb1) hF1 hG1
          · refine z_push c_195_87 ?_
            refine w_goto c_195_88 ?_
            refine w_istore c_195_92 (Nat.le_of_ble_eq_true rfl) rfl ?_
            refine w_iload c_195_93 rfl ?_
            refine z_if_eq c_195_94 (by first | exact aRg_of _ | (unfold aRg; omega)) (fun h17_ => absurd h17_ (by decide)) (fun h17_ => ?_)
            refine w_aload c_195_97 rfl ?_
            refine z_push c_195_98 ?_
            refine z_push c_195_99 ?_
            refine z_push c_195_100 ?_
            refine wc_175 c_195_101 sp_157 (Nat.le_of_ble_eq_true rfl) (by omega) ?_
            refine t_seasonGoes0 (dry := 0) hS hR1 hXi (by decide) rfl (iI_of _) (by omega) (fun I2 L2 hR2 hov2 hF2 hG2 => ?_)
            refine r_v ?_
            refine z_iinc c_195_104 rfl rfl ?_
            refine w_goto c_195_107 ?_
            refine w_iload c_195_19 rfl ?_
            refine z_if_eq c_195_20 (by first | exact aRg_of _ | (unfold aRg; omega)) (fun h18_ => absurd h18_ (by decide)) (fun h18_ => ?_)
            rw [if_pos ⟨by assumption, by first | exact Or.inl (by omega) | exact Or.inr ⟨by assumption, by omega⟩⟩] at hst
            have e8 := ih (i + 1) I2 L2 (by omega) (by omega) hR2 (by rw [hst]; exact (hF2 157 64 (by decide)).trans ha1) (by rw [hst]; exact (hF2 157 65 (by decide)).trans hb1) (hF1.tr (PT.t2 hF2)) (hG1.tr hG2) k
            exact e8
      · refine w_iload c_195_39 rfl ?_
        refine b_if_eq c_195_40 (fun h19_ => ?_) (fun h19_ => ?_)
        · refine w_iload c_195_68 rfl ?_
          refine z_push c_195_70 ?_
          refine z_ic_ge c_195_72 (by first | exact aRg_of _ | (unfold aRg; omega)) (by first | exact aRg_of _ | (unfold aRg; omega)) (fun h20_ => ?_) (fun h20_ => ?_)
          · refine z_push c_195_91 ?_
            refine w_istore c_195_92 (Nat.le_of_ble_eq_true rfl) rfl ?_
            refine w_iload c_195_93 rfl ?_
            refine z_if_eq c_195_94 (by first | exact aRg_of _ | (unfold aRg; omega)) (fun h21_ => ?_) (fun h21_ => absurd (by decide) h21_)
            refine z_iinc c_195_104 rfl rfl ?_
            refine w_goto c_195_107 ?_
            refine w_iload c_195_19 rfl ?_
            refine z_if_eq c_195_20 (by first | exact aRg_of _ | (unfold aRg; omega)) (fun h22_ => ?_) (fun h22_ => absurd (by decide) h22_)
            rw [if_neg (fun z => by first | exact Bool.noConfusion (z.1.symm.trans (by assumption)) | (rcases z.2 with z2 | z2; exfalso; omega; exact Bool.noConfusion (z2.1.symm.trans (by assumption))) | (rcases z.2 with z2 | z2; exfalso; omega; exfalso; omega))] at hst
            have e7 : i = m := by omega
            subst e7
            exact k _ _ (by rw [hst]; exact ha1) (by rw [hst]; exact hb1) hF1 hG1
          · refine w_aload c_195_75 rfl ?_
            refine w_getR c_195_76 sp_157 (by decide) rfl pr_157_58 ?_
            refine z_push c_195_79 ?_
            refine z_iaload c_195_80 sp_202 (by omega) (by first | decide | omega) hR1.2.1 ?_
            refine z_push c_195_81 ?_
            refine z_ic_ge c_195_84 (by first | exact aRg_of _ | (unfold aRg; omega)) (by first | exact aRg_of _ | (unfold aRg; omega)) (fun h23_ => ?_) (fun h23_ => ?_)
            · refine z_push c_195_91 ?_
              refine w_istore c_195_92 (Nat.le_of_ble_eq_true rfl) rfl ?_
              refine w_iload c_195_93 rfl ?_
              refine z_if_eq c_195_94 (by first | exact aRg_of _ | (unfold aRg; omega)) (fun h24_ => ?_) (fun h24_ => absurd (by decide) h24_)
              refine z_iinc c_195_104 rfl rfl ?_
              refine w_goto c_195_107 ?_
              refine w_iload c_195_19 rfl ?_
              refine z_if_eq c_195_20 (by first | exact aRg_of _ | (unfold aRg; omega)) (fun h25_ => ?_) (fun h25_ => absurd (by decide) h25_)
              rw [if_neg (fun z => by first | exact Bool.noConfusion (z.1.symm.trans (by assumption)) | (rcases z.2 with z2 | z2; exfalso; omega; exact Bool.noConfusion (z2.1.symm.trans (by assumption))) | (rcases z.2 with z2 | z2; exfalso; omega; exfalso; omega))] at hst
              have e7 : i = m := by omega
              subst e7
              exact k _ _ (by rw [hst]; exact ha1) (by rw [hst]; exact hb1) hF1 hG1
            · refine z_push c_195_87 ?_
              refine w_goto c_195_88 ?_
              refine w_istore c_195_92 (Nat.le_of_ble_eq_true rfl) rfl ?_
              refine w_iload c_195_93 rfl ?_
              refine z_if_eq c_195_94 (by first | exact aRg_of _ | (unfold aRg; omega)) (fun h26_ => absurd h26_ (by decide)) (fun h26_ => ?_)
              refine w_aload c_195_97 rfl ?_
              refine z_push c_195_98 ?_
              refine z_push c_195_99 ?_
              refine z_push c_195_100 ?_
              refine wc_175 c_195_101 sp_157 (Nat.le_of_ble_eq_true rfl) (by omega) ?_
              refine t_seasonGoes0 (dry := 0) hS hR1 hXi (by decide) rfl (iI_of _) (by omega) (fun I2 L2 hR2 hov2 hF2 hG2 => ?_)
              refine r_v ?_
              refine z_iinc c_195_104 rfl rfl ?_
              refine w_goto c_195_107 ?_
              refine w_iload c_195_19 rfl ?_
              refine z_if_eq c_195_20 (by first | exact aRg_of _ | (unfold aRg; omega)) (fun h27_ => absurd h27_ (by decide)) (fun h27_ => ?_)
              rw [if_neg (fun z => by first | exact Bool.noConfusion (z.1.symm.trans (by assumption)) | (rcases z.2 with z2 | z2; exfalso; omega; exact Bool.noConfusion (z2.1.symm.trans (by assumption))) | (rcases z.2 with z2 | z2; exfalso; omega; exfalso; omega))] at hst
              have e8 := ih (i + 1) I2 L2 (by omega) (by omega) hR2 (by rw [hst]; exact (hF2 157 64 (by decide)).trans ha1) (by rw [hst]; exact (hF2 157 65 (by decide)).trans hb1) (hF1.tr (PT.t2 hF2)) (hG1.tr hG2) k
              exact e8
        · refine w_aload c_195_43 rfl ?_
          refine wc_169 c_195_44 sp_157 (Nat.le_of_ble_eq_true rfl) (by omega) ?_
          refine t_darkNow (by omega) hR1.2.2.1 hR1.2.2.2.1 (by omega) (by omega) ?_
          refine r_i ?_
          refine w_aload c_195_47 rfl ?_
          refine z_getZ c_195_48 sp_157 (by decide) rfl hb1 ?_
          refine z_ic_le c_195_51 (by first | exact aRg_of _ | (unfold aRg; omega)) (by first | exact aRg_of _ | (unfold aRg; omega)) (fun h28_ => ?_) (fun h28_ => ?_)
          · refine w_iload c_195_68 rfl ?_
            refine z_push c_195_70 ?_
            refine z_ic_ge c_195_72 (by first | exact aRg_of _ | (unfold aRg; omega)) (by first | exact aRg_of _ | (unfold aRg; omega)) (fun h29_ => ?_) (fun h29_ => ?_)
            · refine z_push c_195_91 ?_
              refine w_istore c_195_92 (Nat.le_of_ble_eq_true rfl) rfl ?_
              refine w_iload c_195_93 rfl ?_
              refine z_if_eq c_195_94 (by first | exact aRg_of _ | (unfold aRg; omega)) (fun h30_ => ?_) (fun h30_ => absurd (by decide) h30_)
              refine z_iinc c_195_104 rfl rfl ?_
              refine w_goto c_195_107 ?_
              refine w_iload c_195_19 rfl ?_
              refine z_if_eq c_195_20 (by first | exact aRg_of _ | (unfold aRg; omega)) (fun h31_ => ?_) (fun h31_ => absurd (by decide) h31_)
              rw [if_neg (fun z => by first | exact Bool.noConfusion (z.1.symm.trans (by assumption)) | (rcases z.2 with z2 | z2; exfalso; omega; exact Bool.noConfusion (z2.1.symm.trans (by assumption))) | (rcases z.2 with z2 | z2; exfalso; omega; exfalso; omega))] at hst
              have e7 : i = m := by omega
              subst e7
              exact k _ _ (by rw [hst]; exact ha1) (by rw [hst]; exact hb1) hF1 hG1
            · refine w_aload c_195_75 rfl ?_
              refine w_getR c_195_76 sp_157 (by decide) rfl pr_157_58 ?_
              refine z_push c_195_79 ?_
              refine z_iaload c_195_80 sp_202 (by omega) (by first | decide | omega) hR1.2.1 ?_
              refine z_push c_195_81 ?_
              refine z_ic_ge c_195_84 (by first | exact aRg_of _ | (unfold aRg; omega)) (by first | exact aRg_of _ | (unfold aRg; omega)) (fun h32_ => ?_) (fun h32_ => ?_)
              · refine z_push c_195_91 ?_
                refine w_istore c_195_92 (Nat.le_of_ble_eq_true rfl) rfl ?_
                refine w_iload c_195_93 rfl ?_
                refine z_if_eq c_195_94 (by first | exact aRg_of _ | (unfold aRg; omega)) (fun h33_ => ?_) (fun h33_ => absurd (by decide) h33_)
                refine z_iinc c_195_104 rfl rfl ?_
                refine w_goto c_195_107 ?_
                refine w_iload c_195_19 rfl ?_
                refine z_if_eq c_195_20 (by first | exact aRg_of _ | (unfold aRg; omega)) (fun h34_ => ?_) (fun h34_ => absurd (by decide) h34_)
                rw [if_neg (fun z => by first | exact Bool.noConfusion (z.1.symm.trans (by assumption)) | (rcases z.2 with z2 | z2; exfalso; omega; exact Bool.noConfusion (z2.1.symm.trans (by assumption))) | (rcases z.2 with z2 | z2; exfalso; omega; exfalso; omega))] at hst
                have e7 : i = m := by omega
                subst e7
                exact k _ _ (by rw [hst]; exact ha1) (by rw [hst]; exact hb1) hF1 hG1
              · refine z_push c_195_87 ?_
                refine w_goto c_195_88 ?_
                refine w_istore c_195_92 (Nat.le_of_ble_eq_true rfl) rfl ?_
                refine w_iload c_195_93 rfl ?_
                refine z_if_eq c_195_94 (by first | exact aRg_of _ | (unfold aRg; omega)) (fun h35_ => absurd h35_ (by decide)) (fun h35_ => ?_)
                refine w_aload c_195_97 rfl ?_
                refine z_push c_195_98 ?_
                refine z_push c_195_99 ?_
                refine z_push c_195_100 ?_
                refine wc_175 c_195_101 sp_157 (Nat.le_of_ble_eq_true rfl) (by omega) ?_
                refine t_seasonGoes0 (dry := 0) hS hR1 hXi (by decide) rfl (iI_of _) (by omega) (fun I2 L2 hR2 hov2 hF2 hG2 => ?_)
                refine r_v ?_
                refine z_iinc c_195_104 rfl rfl ?_
                refine w_goto c_195_107 ?_
                refine w_iload c_195_19 rfl ?_
                refine z_if_eq c_195_20 (by first | exact aRg_of _ | (unfold aRg; omega)) (fun h36_ => absurd h36_ (by decide)) (fun h36_ => ?_)
                rw [if_neg (fun z => by first | exact Bool.noConfusion (z.1.symm.trans (by assumption)) | (rcases z.2 with z2 | z2; exfalso; omega; exact Bool.noConfusion (z2.1.symm.trans (by assumption))) | (rcases z.2 with z2 | z2; exfalso; omega; exfalso; omega))] at hst
                have e8 := ih (i + 1) I2 L2 (by omega) (by omega) hR2 (by rw [hst]; exact (hF2 157 64 (by decide)).trans ha1) (by rw [hst]; exact (hF2 157 65 (by decide)).trans hb1) (hF1.tr (PT.t2 hF2)) (hG1.tr hG2) k
                exact e8
          · refine w_aload c_195_54 rfl ?_
            refine w_iload c_195_55 rfl ?_
            refine z_putZ c_195_57 sp_157 (by decide) rfl ?_
            refine upG_k hF1 (Or.inl ⟨rfl, by omega⟩) (fun I3 hi hF1 => ?_)
            have hR1 : rS I3 D cd (seaN D cd X i) := ⟨hR1.1.fr (fun q k z1 z2 => by rw [hi]; exact up_ne (by omega)) (by rw [hi]; exact up_ne (by omega)), hR1.2.fr (fun k z1 => by rw [hi]; exact up_ne (by omega))⟩
            have ha2 : I3 157 64 = iI (i : Int) := by rw [hi]; exact up_eq
            clear hi
            refine w_aload c_195_60 rfl ?_
            refine w_aload c_195_61 rfl ?_
            refine wc_169 c_195_62 sp_157 (Nat.le_of_ble_eq_true rfl) (by omega) ?_
            refine t_darkNow (by omega) hR1.2.2.1 hR1.2.2.2.1 (by omega) (by omega) ?_
            refine r_i ?_
            refine z_putZ c_195_65 sp_157 (by decide) rfl ?_
            refine upG_k hF1 (Or.inl ⟨rfl, by omega⟩) (fun I3 hi hF1 => ?_)
            have hR1 : rS I3 D cd (seaN D cd X i) := ⟨hR1.1.fr (fun q k z1 z2 => by rw [hi]; exact up_ne (by omega)) (by rw [hi]; exact up_ne (by omega)), hR1.2.fr (fun k z1 => by rw [hi]; exact up_ne (by omega))⟩
            have ha1 : I3 157 64 = iI (i : Int) := by rw [hi]; exact (up_ne (by omega)).trans ha2
            have hb1 : I3 157 65 = iI (dk (seaN D cd X i).2.1 (seaN D cd X i).2.2.1) := by rw [hi]; exact up_eq
            clear hi
            refine w_iload c_195_68 rfl ?_
            refine z_push c_195_70 ?_
            refine z_ic_ge c_195_72 (by first | exact aRg_of _ | (unfold aRg; omega)) (by first | exact aRg_of _ | (unfold aRg; omega)) (fun h37_ => ?_) (fun h37_ => ?_)
            · refine z_push c_195_91 ?_
              refine w_istore c_195_92 (Nat.le_of_ble_eq_true rfl) rfl ?_
              refine w_iload c_195_93 rfl ?_
              refine z_if_eq c_195_94 (by first | exact aRg_of _ | (unfold aRg; omega)) (fun h38_ => ?_) (fun h38_ => absurd (by decide) h38_)
              refine z_iinc c_195_104 rfl rfl ?_
              refine w_goto c_195_107 ?_
              refine w_iload c_195_19 rfl ?_
              refine z_if_eq c_195_20 (by first | exact aRg_of _ | (unfold aRg; omega)) (fun h39_ => ?_) (fun h39_ => absurd (by decide) h39_)
              rw [if_pos ⟨by assumption, by first | exact Or.inl (by omega) | exact Or.inr ⟨by assumption, by omega⟩⟩] at hst
              have e7 : i = m := by omega
              subst e7
              exact k _ _ (by rw [hst]; exact ha1) (by rw [hst]; exact hb1) hF1 hG1
            · refine w_aload c_195_75 rfl ?_
              refine w_getR c_195_76 sp_157 (by decide) rfl pr_157_58 ?_
              refine z_push c_195_79 ?_
              refine z_iaload c_195_80 sp_202 (by omega) (by first | decide | omega) hR1.2.1 ?_
              refine z_push c_195_81 ?_
              refine z_ic_ge c_195_84 (by first | exact aRg_of _ | (unfold aRg; omega)) (by first | exact aRg_of _ | (unfold aRg; omega)) (fun h40_ => ?_) (fun h40_ => ?_)
              · refine z_push c_195_91 ?_
                refine w_istore c_195_92 (Nat.le_of_ble_eq_true rfl) rfl ?_
                refine w_iload c_195_93 rfl ?_
                refine z_if_eq c_195_94 (by first | exact aRg_of _ | (unfold aRg; omega)) (fun h41_ => ?_) (fun h41_ => absurd (by decide) h41_)
                refine z_iinc c_195_104 rfl rfl ?_
                refine w_goto c_195_107 ?_
                refine w_iload c_195_19 rfl ?_
                refine z_if_eq c_195_20 (by first | exact aRg_of _ | (unfold aRg; omega)) (fun h42_ => ?_) (fun h42_ => absurd (by decide) h42_)
                rw [if_pos ⟨by assumption, by first | exact Or.inl (by omega) | exact Or.inr ⟨by assumption, by omega⟩⟩] at hst
                have e7 : i = m := by omega
                subst e7
                exact k _ _ (by rw [hst]; exact ha1) (by rw [hst]; exact hb1) hF1 hG1
              · refine z_push c_195_87 ?_
                refine w_goto c_195_88 ?_
                refine w_istore c_195_92 (Nat.le_of_ble_eq_true rfl) rfl ?_
                refine w_iload c_195_93 rfl ?_
                refine z_if_eq c_195_94 (by first | exact aRg_of _ | (unfold aRg; omega)) (fun h43_ => absurd h43_ (by decide)) (fun h43_ => ?_)
                refine w_aload c_195_97 rfl ?_
                refine z_push c_195_98 ?_
                refine z_push c_195_99 ?_
                refine z_push c_195_100 ?_
                refine wc_175 c_195_101 sp_157 (Nat.le_of_ble_eq_true rfl) (by omega) ?_
                refine t_seasonGoes0 (dry := 0) hS hR1 hXi (by decide) rfl (iI_of _) (by omega) (fun I2 L2 hR2 hov2 hF2 hG2 => ?_)
                refine r_v ?_
                refine z_iinc c_195_104 rfl rfl ?_
                refine w_goto c_195_107 ?_
                refine w_iload c_195_19 rfl ?_
                refine z_if_eq c_195_20 (by first | exact aRg_of _ | (unfold aRg; omega)) (fun h44_ => absurd h44_ (by decide)) (fun h44_ => ?_)
                rw [if_pos ⟨by assumption, by first | exact Or.inl (by omega) | exact Or.inr ⟨by assumption, by omega⟩⟩] at hst
                have e8 := ih (i + 1) I2 L2 (by omega) (by omega) hR2 (by rw [hst]; exact (hF2 157 64 (by decide)).trans ha1) (by rw [hst]; exact (hF2 157 65 (by decide)).trans hb1) (hF1.tr (PT.t2 hF2)) (hG1.tr hG2) k
                exact e8

theorem finds_fr {I I0 I1 I2 I3 : aFI} (hq : frG (fun q k => q = 157 ∧ (k = 64 ∨ k = 65)) I I0) (h0 : frG PB I0 I1) (hc : ∀ k : Nat, k < 27 → I1 203 k = I0 202 k) (h1 : frG PT2 I1 I2) (h2 : frG PC I2 I3) (hc2 : ∀ k : Nat, k < 27 → I3 202 k = I2 203 k) (ht : I 157 61 = aBo false) (ht2 : I3 157 61 = aBo false) : frG PE I I3 :=
  (hq.mono (fun q k z => Or.inl ⟨z.1, by omega⟩)).tr (back_fr h0 hc h1 h2 hc2 ((hq 157 61 (by decide)).trans ht) ht2)
set_option maxHeartbeats 1000000 in
theorem t_finds {d : Nat} {I : aFI} {L : aFL} {Q : aPo} {sh : Nat} {su : Option Nat} {D : Nat → Int → Int} {cd : Nat → Option (List Int)} {X : Lk} {e : Int} {t : Bool} (hS : wfS D cd) (hR : rS I D cd X) (hX : lkOK X) (hdb : 0 ≤ e ∧ e < D 1 2) (hs : X.1 ≤ 999) (hth : I 157 61 = aBo false) (hd : 7 ≤ d) (k : ∀ (I2 : aFI) (L2 : aFL), I2 157 64 = iI (fdF D cd X e t ((ahZ X).toNat + 1)).1 → I2 157 65 = iI (fdF D cd X e t ((ahZ X).toNat + 1)).2 → frG PE I I2 → frG LK L L2 → Q none I2 L2 (aR sh su)) : aWp none d 195 0 [.ref 157, .int (iI e), .int (aBo t), .null, .null] [] I L (aR sh su) Q := by
  have hah := ahZ_rg hX hs
  have hnn : (((ahZ X).toNat : Nat) : Int) = ahZ X := Int.toNat_of_nonneg hah.1
  refine w_aload c_195_0 rfl ?_
  refine z_push c_195_1 ?_
  refine z_putZ c_195_2 sp_157 (by decide) rfl ?_
  refine w_aload c_195_5 rfl ?_
  refine z_push c_195_6 ?_
  refine z_putZ c_195_7 sp_157 (by decide) rfl ?_
  have hq1 : frG (fun q k => q = 157 ∧ (k = 64 ∨ k = 65)) I (aUp (aUp I 157 64 (iI (-1))) 157 65 (iI (-1))) := (frG.rf.up ⟨rfl, Or.inl rfl⟩).up ⟨rfl, Or.inr rfl⟩
  have hz1 : aUp (aUp I 157 64 (iI (-1))) 157 65 (iI (-1)) 157 64 = iI (-1) := (up_ne (by omega)).trans up_eq
  have hz2 : aUp (aUp I 157 64 (iI (-1))) 157 65 (iI (-1)) 157 65 = iI (-1) := up_eq
  change aWp _ _ _ _ _ _ (aUp (aUp I 157 64 (iI (-1))) 157 65 (iI (-1))) _ _ _
  generalize aUp (aUp I 157 64 (iI (-1))) 157 65 (iI (-1)) = I0 at *
  have hR0 : rS I0 D cd X := ⟨hR.1.fr (fun q k z1 z2 => hq1 q k (by omega)) (hq1 157 56 (by decide)), hR.2.fr (fun k z1 => hq1 202 k (by omega))⟩
  refine w_aload c_195_10 rfl ?_
  refine wc_177 c_195_11 sp_157 (Nat.le_of_ble_eq_true rfl) (by omega) ?_
  refine t_putsAside (fun I1 hp1 hp2 hp3 => ?_)
  have hR1 := hR0.aside hp3
  refine r_v ?_
  refine z_push c_195_14 ?_
  refine w_istore c_195_15 (Nat.le_of_ble_eq_true rfl) rfl ?_
  refine z_push c_195_16 ?_
  refine w_istore c_195_17 (Nat.le_of_ble_eq_true rfl) rfl ?_
  refine w_iload c_195_19 rfl ?_
  refine z_if_eq c_195_20 (by first | exact aRg_of _ | (unfold aRg; omega)) (fun h1_ => absurd h1_ (by decide)) (fun h1_ => ?_)
  refine t_finds_1 (m := (ahZ X).toNat) hS hX hnn hs hdb (by omega) _ 0 I1 L (Nat.lt_succ_self _) (by omega) hR1 ((hp3 157 64 (by decide)).trans hz1) ((hp3 157 65 (by decide)).trans hz2) frG.rf frG.rf (fun I2 L2 ha2 hb2x hF2 hG2 => ?_)
  refine w_aload c_195_110 rfl ?_
  refine wc_178 c_195_111 sp_157 (Nat.le_of_ble_eq_true rfl) (by omega) ?_
  refine t_takesBack (fun I3 hb1 hb2 hb3 => ?_)
  refine r_v ?_
  refine z_retv c_195_114 ?_
  exact k _ _ ((hb3 157 64 (by decide)).trans ha2) ((hb3 157 65 (by decide)).trans hb2x) (finds_fr hq1 hp3 hp1 hF2 hb3 hb1 hth hb2) hG2

set_option maxHeartbeats 1000000 in
theorem t_soonest {d : Nat} {I : aFI} {L : aFL} {Q : aPo} {sh : Nat} {su : Option Nat} {D : Nat → Int → Int} {cd : Nat → Option (List Int)} {X : Lk} {e : Int} (hS : wfS D cd) (hR : rS I D cd X) (hX : lkOK X) (re : -2147483648 ≤ e ∧ e < 2147483648) (hs : X.1 ≤ 999) (hth : I 157 61 = aBo false) (hd : 8 ≤ d) (k : ∀ (I2 : aFI) (L2 : aFL), frG PE I I2 → frG LK L L2 → Q (some (.int (iI (soonZ D cd X e)))) I2 L2 (aR sh su)) : aWp none d 196 0 [.ref 157, .int (iI e)] [] I L (aR sh su) Q := by
  refine w_aload c_196_0 rfl ?_
  refine w_iload c_196_1 rfl ?_
  refine wc_162 c_196_2 sp_157 (Nat.le_of_ble_eq_true rfl) (by omega) ?_
  refine t_isDeed hS hR.1.1 re (by omega) ?_
  refine r_i ?_
  refine b_if_ne c_196_5 (fun h1_ => ?_) (fun h1_ => ?_)
  · refine w_aload c_196_10 rfl ?_
    refine w_iload c_196_11 rfl ?_
    refine z_push c_196_12 ?_
    refine wc_195 c_196_13 sp_157 (Nat.le_of_ble_eq_true rfl) (by omega) ?_
    have hdb : 0 ≤ e ∧ e < D 1 2 := of_decide_eq_true (by assumption)
    refine t_finds (t := false) hS hR hX hdb hs hth (by omega) (fun I2 L2 ha2 hb2 hF2 hG2 => ?_)
    have hfr := fdF_rg (D := D) (cd := cd) (X := X) (e := e) (t := false) ((ahZ X).toNat + 1)
    refine r_v ?_
    refine w_aload c_196_16 rfl ?_
    refine z_getZ c_196_17 sp_157 (by decide) rfl ha2 ?_
    refine z_ret c_196_20 rfl ?_
    refine q_i (k _ _ hF2 hG2) ?_
    unfold soonZ; rw [if_pos hdb, fdF_f]
  · refine z_push c_196_8 ?_
    refine z_ret c_196_9 rfl ?_
    refine q_i (k _ _ frG.rf frG.rf) ?_
    unfold soonZ
    rw [if_neg (fun z => Bool.noConfusion ((decide_eq_true z).symm.trans (show _ = false by assumption)))]

set_option maxHeartbeats 1000000 in
theorem t_dip {d : Nat} {I : aFI} {L : aFL} {Q : aPo} {sh : Nat} {su : Option Nat} {D : Nat → Int → Int} {cd : Nat → Option (List Int)} {X : Lk} {e v : Int} (hS : wfS D cd) (hR : rS I D cd X) (hX : lkOK X) (re : -2147483648 ≤ e ∧ e < 2147483648) (rv : -2147483648 ≤ v ∧ v < 2147483648) (hs : X.1 ≤ 999) (hth : I 157 61 = aBo false) (hd : 8 ≤ d) (k : ∀ (I2 : aFI) (L2 : aFL), frG PE I I2 → frG LK L L2 → Q (some (.int (iI (dipZ D cd X e v)))) I2 L2 (aR sh su)) : aWp none d 197 0 [.ref 157, .int (iI e), .int (iI v)] [] I L (aR sh su) Q := by
  refine w_aload c_197_0 rfl ?_
  refine w_iload c_197_1 rfl ?_
  refine wc_162 c_197_2 sp_157 (Nat.le_of_ble_eq_true rfl) (by omega) ?_
  refine t_isDeed hS hR.1.1 re (by omega) ?_
  refine r_i ?_
  refine b_if_eq c_197_5 (fun h1_ => ?_) (fun h1_ => ?_)
  · refine z_push c_197_18 ?_
    refine z_ret c_197_19 rfl ?_
    refine q_i (k _ _ frG.rf frG.rf) ?_
    unfold dipZ
    first
    | (rw [if_neg (fun z => Bool.noConfusion ((decide_eq_true z.1).symm.trans (show _ = false by assumption)))]; done)
    | (rw [if_neg (fun z => Bool.noConfusion ((decide_eq_true z.2).symm.trans (show _ = false by assumption)))]; done)
  · refine w_iload c_197_8 rfl ?_
    refine z_i2l c_197_9 (by first | exact aRg_of _ | (unfold aRg; omega)) ?_
    refine z_pushl c_197_10 ?_
    refine z_pushl c_197_11 ?_
    refine wc_130 c_197_12 (Nat.le_of_ble_eq_true rfl) (by omega) ?_
    have hdb : 0 ≤ e ∧ e < D 1 2 := of_decide_eq_true (by assumption)
    refine t_isIn (by first | exact aRl_of _ | (unfold aRl; omega)) (by first | exact aRl_of _ | (unfold aRl; omega)) (by first | exact aRl_of _ | (unfold aRl; omega)) ?_
    refine r_i ?_
    refine b_if_ne c_197_15 (fun h2_ => ?_) (fun h2_ => ?_)
    · refine w_aload c_197_20 rfl ?_
      refine w_iload c_197_21 rfl ?_
      refine z_push c_197_22 ?_
      refine wc_195 c_197_23 sp_157 (Nat.le_of_ble_eq_true rfl) (by omega) ?_
      have hdv : 0 ≤ v ∧ v ≤ 1 := of_decide_eq_true (by assumption)
      refine t_finds (t := true) hS hR hX hdb hs hth (by omega) (fun I2 L2 ha2 hb2 hF2 hG2 => ?_)
      have hfr := fdF_rg (D := D) (cd := cd) (X := X) (e := e) (t := true) ((ahZ X).toNat + 1)
      refine r_v ?_
      refine w_iload c_197_26 rfl ?_
      refine z_if_ne c_197_27 (by first | exact aRg_of _ | (unfold aRg; omega)) (fun h3_ => ?_) (fun h3_ => ?_)
      · refine w_aload c_197_37 rfl ?_
        refine z_getZ c_197_38 sp_157 (by decide) rfl hb2 ?_
        refine z_ret c_197_41 rfl ?_
        refine q_i (k _ _ hF2 hG2) ?_
        unfold dipZ; rw [if_pos ⟨hdb, hdv⟩]
        (repeat (first | rw [if_pos (by omega)] | rw [if_neg (by omega)]))
      · refine w_aload c_197_30 rfl ?_
        refine z_getZ c_197_31 sp_157 (by decide) rfl ha2 ?_
        refine w_goto c_197_34 ?_
        refine z_ret c_197_41 rfl ?_
        refine q_i (k _ _ hF2 hG2) ?_
        unfold dipZ; rw [if_pos ⟨hdb, hdv⟩]
        (repeat (first | rw [if_pos (by omega)] | rw [if_neg (by omega)]))
    · refine z_push c_197_18 ?_
      refine z_ret c_197_19 rfl ?_
      refine q_i (k _ _ frG.rf frG.rf) ?_
      unfold dipZ
      first
      | (rw [if_neg (fun z => Bool.noConfusion ((decide_eq_true z.1).symm.trans (show _ = false by assumption)))]; done)
      | (rw [if_neg (fun z => Bool.noConfusion ((decide_eq_true z.2).symm.trans (show _ = false by assumption)))]; done)

