/-! both sides: all (p72.py) -/
/-- season after season, those told written -/
def alX (D : Nat → Int → Int) (cd : Nat → Option (List Int)) (ds : Nat) (X : Lk) : Nat → Lk
  | 0 => X
  | n + 1 => seaX D cd 0 (wrX D cd ds (D 1 2).toNat (alX D cd ds X n))
def alW (D : Nat → Int → Int) (cd : Nat → Option (List Int)) (ds : Nat) (X : Lk) (n : Nat) : Lk := wrX D cd ds (D 1 2).toNat (alX D cd ds X n)
section ALL
variable {D : Nat → Int → Int} {cd : Nat → Option (List Int)} {ds : Nat} {X : Lk}
theorem wrX_s : ∀ n : Nat, (wrX D cd ds n X).1 = X.1
  | 0 => rfl
  | n + 1 => by unfold wrX; split; exact wrX_s n; exact wrX_s n
theorem alX_s : ∀ n : Nat, (alX D cd ds X n).1 = X.1 + n
  | 0 => by show X.1 = X.1 + 0; omega
  | n + 1 => by
    have := alX_s n
    show (wrX D cd ds (D 1 2).toNat (alX D cd ds X n)).1 + 1 = _
    rw [wrX_s]; omega
theorem alX_ok (hS : wfS D cd) (hX : lkOK X) : ∀ n : Nat, X.1 + n ≤ 1000 → lkOK (alX D cd ds X n)
  | 0, _ => hX
  | n + 1, h => by
    have hdd := hS.n
    have h1 := alX_s (D := D) (cd := cd) (ds := ds) (X := X) n
    exact seaX_ok hS (wrX_ok hS (alX_ok hS hX n (by omega)) _ (by omega)) (by rw [wrX_s]; omega)
theorem alW_ok (hS : wfS D cd) (hX : lkOK X) (n : Nat) (h : X.1 + n ≤ 1000) : lkOK (alW D cd ds X n) := by
  have hdd := hS.n
  exact wrX_ok hS (alX_ok hS hX n h) _ (by omega)
end ALL
def allZ (D : Nat → Int → Int) (cd : Nat → Option (List Int)) (X : Lk) (a : Int) : Int := if D 0 0 = 1 ∧ (0 ≤ a ∧ a < ((2 ^ (D 1 2).toNat : Nat) : Int)) ∧ a.toNat &&& X.2.2.2.1 = 0 then fst0 (fun n => decide (ld a.toNat (alW D cd a.toNat X n).2.2.2.1 = 0)) 0 ((ahZ X).toNat + 1) else -1
set_option maxHeartbeats 2000000 in
theorem tc_all_1 {d : Nat} {I0 : aFI} {L : aFL} {Q : aPo} {sh : Nat} {su : Option Nat} {D : Nat → Int → Int} {cd : Nat → Option (List Int)} {X : Lk} {kc : Int} {ds m : Nat} (hsh : sh = 8 ∨ sh = 22) (hS : wfS D cd) (hW0 : cW I0 sh D cd) (hX : lkOK X) (hm : X.1 + m ≤ 999) (hm2 : m ≤ 60) (hds : ds < 256) (hdr : -1000000 ≤ (I0 42 1).toInt ∧ (I0 42 1).toInt ≤ 1000000) (hd : 9 ≤ d) : ∀ (n : Nat) (i : Nat) (I : aFI), m + 2 - i < n → (i ≤ m + 1) → (lkX I 39 kc (alX D cd ds X i)) → (frP (PL 39) I0 I) → (∀ I2 : aFI, frP (PL 39) I0 I2 → Q (some (.int (iI (fst0 (fun n => decide (ld ds (alW D cd ds X n).2.2.2.1 = 0)) i (m + 1 - i))))) I2 L (aR sh su)) → aWp none d 92 61 [.ref 0, .int (iI (ds : Int)), .int (iI (m : Int)), .int (iI (i : Int))] [] I L (aR sh su) Q := by
  intro n
  induction n with
  | zero => intro i I h; omega
  | succ n ih =>
    intro i I hn2 h1 hL hF k
    have hss := alX_s (D := D) (cd := cd) (ds := ds) (X := X) i
    have hdd := hS.n
    have hXi : lkOK (alX D cd ds X i) := alX_ok hS hX i (by omega)
    have hWi : lkOK (alW D cd ds X i) := alW_ok hS hX i (by omega)
    have hws : (alW D cd ds X i).1 = X.1 + i := (wrX_s _).trans hss
    have hW := hW0.fL hsh aLk_39 hF
    have hdr2 : -1000000 ≤ (I 42 1).toInt ∧ (I 42 1).toInt ≤ 1000000 := by rw [hF 42 1 (by decide)]; exact hdr
    refine w_iload c_92_61 rfl ?_
    refine w_iload c_92_62 rfl ?_
    refine z_ic_gt c_92_63 (by first | exact aRg_of _ | (unfold aRg; omega)) (by first | exact aRg_of _ | (unfold aRg; omega)) (fun h1_ => ?_) (fun h1_ => ?_)
    · refine z_push c_92_113 ?_
      refine z_ret c_92_114 rfl ?_
      have := k I hF
      rw [fst0_z (by omega)] at this
      exact this
    · refine w_aload c_92_66 rfl ?_
      refine w_getR c_92_67 sp_0 (by decide) rfl pr_0_7 ?_
      refine w_aload c_92_70 rfl ?_
      refine w_getR c_92_71 sp_0 (by decide) rfl pr_0_6 ?_
      refine w_iload c_92_74 rfl ?_
      refine wc_51 c_92_75 sp_42 (Nat.le_of_ble_eq_true rfl) (by omega) ?_
      refine tc_writeThose hsh aLk_39 hS hW hXi hds hdr2 (by omega) hL (fun I1 hL1 hF1 => ?_)
      have hL1 : lkX I1 39 kc (alW D cd ds X i) := hL1
      have hF1 := hF.tr hF1
      have hW1 := hW0.fL hsh aLk_39 hF1
      have hdr3 : -1000000 ≤ (I1 42 1).toInt ∧ (I1 42 1).toInt ≤ 1000000 := by rw [hF1 42 1 (by decide)]; exact hdr
      have hlt := ld_lt (b := (alW D cd ds X i).2.2.2.1) hds
      refine r_v ?_
      refine w_iload c_92_78 rfl ?_
      refine w_aload c_92_79 rfl ?_
      refine w_getR c_92_80 sp_0 (by decide) rfl pr_0_6 ?_
      refine z_getZ c_92_83 sp_39 (by decide) rfl hL1.2.2.2.1 ?_
      refine z_push c_92_86 ?_
      refine w_ixor c_92_87 rfl ?_
      refine w_iand c_92_88 (andn hds hWi.2.2.2.1) ?_
      refine z_if_ne c_92_89 (by first | exact aRg_of _ | (unfold aRg; omega)) (fun h2_ => ?_) (fun h2_ => ?_)
      · refine w_aload c_92_94 rfl ?_
        refine w_getR c_92_95 sp_0 (by decide) rfl pr_0_7 ?_
        refine w_aload c_92_98 rfl ?_
        refine w_getR c_92_99 sp_0 (by decide) rfl pr_0_6 ?_
        refine z_push c_92_102 ?_
        refine wc_52 c_92_103 sp_42 (Nat.le_of_ble_eq_true rfl) (by omega) ?_
        refine tc_passSeason (dry := 0) hsh aLk_39 hS hW1 hL1 hWi (by decide) hdr3 (by omega) (fun I2 hL2 hF2 => ?_)
        refine r_i ?_
        refine w_pop c_92_106 rfl ?_
        refine z_iinc c_92_107 rfl rfl ?_
        refine w_goto c_92_110 ?_
        exact ih (i + 1) I2 (by omega) (by omega) hL2 (hF1.tr hF2) (fun I3 h3 => by
          have := k I3 h3
          rw [fst0_s (by omega), if_neg (by rw [decide_eq_true_eq]; omega)] at this
          exact this)
      · refine w_iload c_92_92 rfl ?_
        refine z_ret c_92_93 rfl ?_
        have := k I1 hF1
        rw [fst0_s (by omega), if_pos (decide_eq_true (by omega))] at this
        exact this

theorem pw_rg {n : Int} (h : 0 ≤ n ∧ n ≤ 8) : 1 ≤ ((2 ^ n.toNat : Nat) : Int) ∧ ((2 ^ n.toNat : Nat) : Int) ≤ 256 := by
  have h1 : 2 ^ n.toNat ≤ 2 ^ 8 := Nat.pow_le_pow_right (by omega) (by omega)
  have h2 : 0 < 2 ^ n.toNat := Nat.pow_pos (by omega)
  omega
set_option maxHeartbeats 1000000 in
theorem tc_all {d : Nat} {I : aFI} {L : aFL} {Q : aPo} {sh : Nat} {su : Option Nat} {D : Nat → Int → Int} {cd : Nat → Option (List Int)} {X : Lk} {kc : Int} (hsh : sh = 8 ∨ sh = 22) (hS : wfS D cd) (hW : cW I sh D cd) (hL : lkX I 36 kc X) (hX : lkOK X) {a : Int} (ra : -2147483648 ≤ a ∧ a < 2147483648) (hs : X.1 ≤ 999) (hdr : -1000000 ≤ (I 42 1).toInt ∧ (I 42 1).toInt ≤ 1000000) (hd : 10 ≤ d) (k : ∀ I2 : aFI, frP (PL 39) I I2 → Q (some (.int (iI (allZ D cd X a)))) I2 L (aR sh su)) : aWp none d 92 0 [.ref 0, .int (iI a), .null, .null] [] I L (aR sh su) Q := by
  have hah := ahZ_rg hX hs
  have hnn : (((ahZ X).toNat : Nat) : Int) = ahZ X := Int.toNat_of_nonneg hah.1
  have hdd := hS.n
  have hx1 := hX.1
  have hx2 := hX.2.1
  have hx3 := hX.2.2.1
  have hx4 := hX.2.2.2.1
  have hpw := pw_rg (n := D 1 2) (by omega)
  refine w_aload c_92_0 rfl ?_
  refine w_getR c_92_1 sp_0 (by decide) rfl pr_0_3 ?_
  refine z_getB c_92_4 (sps_0 hsh) (by decide) rfl hW.1.1 ?_
  refine b_if_eq c_92_7 (fun h1_ => ?_) (fun h1_ => ?_)
  · refine z_push c_92_41 ?_
    refine z_ret c_92_42 rfl ?_
    refine q_i (k _ frP.rf) ?_
    unfold allZ
    rw [if_neg (fun z => by first | exact Bool.noConfusion ((decide_eq_true z.1).symm.trans (show _ = false by assumption)) | omega)]
  · refine w_iload c_92_10 rfl ?_
    refine z_if_lt c_92_11 (by first | exact aRg_of _ | (unfold aRg; omega)) (fun h2_ => ?_) (fun h2_ => ?_)
    · refine z_push c_92_41 ?_
      refine z_ret c_92_42 rfl ?_
      refine q_i (k _ frP.rf) ?_
      unfold allZ
      rw [if_neg (fun z => by first | exact Bool.noConfusion ((decide_eq_true z.1).symm.trans (show _ = false by assumption)) | omega)]
    · refine w_iload c_92_14 rfl ?_
      have hte : D 0 0 = 1 := of_decide_eq_true h1_
      have hna : ((a.toNat : Nat) : Int) = a := Int.toNat_of_nonneg (by omega)
      refine z_push c_92_15 ?_
      refine w_aload c_92_16 rfl ?_
      refine w_getR c_92_17 sp_0 (by decide) rfl pr_0_3 ?_
      refine w_getR c_92_20 (sps_0 hsh) (by decide) rfl (prs_4 hsh) ?_
      refine z_push c_92_23 ?_
      refine z_iaload c_92_24 (sps_1 hsh) (by omega) (by first | decide | omega) (hW.1.a 1 (by omega) (by omega)) ?_
      refine w_ishl c_92_25 (shl1 (by omega)) ?_
      refine z_ic_ge c_92_26 (by first | exact aRg_of _ | (unfold aRg; omega)) (by first | exact aRg_of _ | (unfold aRg; omega)) (fun h3_ => ?_) (fun h3_ => ?_)
      · refine z_push c_92_41 ?_
        refine z_ret c_92_42 rfl ?_
        refine q_i (k _ frP.rf) ?_
        unfold allZ
        rw [if_neg (fun z => by first | exact Bool.noConfusion ((decide_eq_true z.1).symm.trans (show _ = false by assumption)) | omega)]
      · have ha8 : a.toNat < 256 := by omega
        rw [← hna]
        refine w_iload c_92_29 rfl ?_
        refine w_aload c_92_30 rfl ?_
        refine w_getR c_92_31 sp_0 (by decide) rfl pr_0_5 ?_
        refine z_getZ c_92_34 sp_36 (by decide) rfl hL.2.2.2.1 ?_
        refine w_iand c_92_37 (iI_and _ _) ?_
        have hal : a.toNat &&& X.2.2.2.1 < 256 := Nat.lt_of_le_of_lt Nat.and_le_left ha8
        refine z_if_eq c_92_38 (by first | exact aRg_of _ | (unfold aRg; omega)) (fun h4_ => ?_) (fun h4_ => ?_)
        · refine w_aload c_92_43 rfl ?_
          refine wc_114 c_92_44 sp_0 (Nat.le_of_ble_eq_true rfl) (by omega) ?_
          refine tc_seasonsAhead hsh hS hW hL hX (by omega) ?_
          refine r_i ?_
          refine w_istore c_92_47 (Nat.le_of_ble_eq_true rfl) rfl ?_
          refine w_aload c_92_48 rfl ?_
          refine w_getR c_92_49 sp_0 (by decide) rfl pr_0_6 ?_
          refine w_aload c_92_52 rfl ?_
          refine w_getR c_92_53 sp_0 (by decide) rfl pr_0_5 ?_
          refine wc_6 c_92_56 sp_39 (Nat.le_of_ble_eq_true rfl) (by omega) ?_
          refine tc_copyOf aLk_39 aLk_36 (by decide) hL (by omega) (fun I1 hL1 hF1 => ?_)
          have hF1 : frP (PL 39) I I1 := hF1.mono (fun q hq => Or.inr hq)
          have hW1 := hW.fL hsh aLk_39 hF1
          have hdr1 : -1000000 ≤ (I1 42 1).toInt ∧ (I1 42 1).toInt ≤ 1000000 := by rw [hF1 42 1 (by decide)]; exact hdr
          refine r_v ?_
          refine z_push c_92_59 ?_
          refine w_istore c_92_60 (Nat.le_of_ble_eq_true rfl) rfl ?_
          have hk := k
          unfold allZ at hk
          rw [if_pos ⟨hte, by omega, by omega⟩] at hk
          rw [← hnn]
          exact tc_all_1 hsh hS hW1 hX (by omega) (by omega) ha8 hdr1 (by omega) _ 0 I1 (Nat.lt_succ_self _) (by omega) hL1 frP.rf (fun I2 h2 => hk I2 (hF1.tr h2))
        · refine z_push c_92_41 ?_
          refine z_ret c_92_42 rfl ?_
          refine q_i (k _ frP.rf) ?_
          unfold allZ
          rw [if_neg (fun z => by first | exact Bool.noConfusion ((decide_eq_true z.1).symm.trans (show _ = false by assumption)) | omega)]

set_option maxHeartbeats 2000000 in
theorem t_all_1 {d : Nat} {I0 : aFI} {L0 : aFL} {Q : aPo} {sh : Nat} {su : Option Nat} {D : Nat → Int → Int} {cd : Nat → Option (List Int)} {Y : Lk} {ds : Nat} {nn : Int} (hS : wfS D cd) (hY : lkOK Y) (hds : ds < 256) (hth : I0 157 61 = aBo true) (hd : 6 ≤ d) {va : Int} : ∀ (n : Nat) (i : Int) (I : aFI) (L : aFL), (D 1 2 - i).toNat < n → (0 ≤ i) → (i ≤ D 1 2) → (rS I D cd (wrX D cd ds i.toNat Y)) → (frG PT I0 I) → (frG LK L0 L) → (∀ (I2 : aFI) (L2 : aFL), rS I2 D cd (wrX D cd ds (D 1 2).toNat Y) → frG PT I0 I2 → frG LK L0 L2 → aWp none d 202 131 [.ref 157, .int (iI va), .int (iI (((ld ds (wrX D cd ds (D 1 2).toNat Y).2.2.2.1 : Nat) : Nat) : Int)), .int (iI nn), .int (iI 1), .int (iI (D 1 2))] [] I2 L2 (aR sh su) Q) → aWp none d 202 81 [.ref 157, .int (iI va), .int (iI (((ld ds (wrX D cd ds i.toNat Y).2.2.2.1 : Nat)) : Int)), .int (iI nn), .int (iI 1), .int (iI i)] [] I L (aR sh su) Q := by
  intro n
  induction n with
  | zero => intro i I L h; omega
  | succ n ih =>
    intro i I L hn2 h0 h1 hR hF hG k
    have hdd := hS.n
    have hst : (i + 1).toNat = i.toNat + 1 := by omega
    have hit : ((i.toNat : Nat) : Int) = i := Int.toNat_of_nonneg h0
    have hYi : lkOK (wrX D cd ds i.toNat Y) := wrX_ok hS hY _ (by omega)
    have hlt := ld_lt (b := (wrX D cd ds i.toNat Y).2.2.2.1) hds
    have htb := tb_one (w := ld ds (wrX D cd ds i.toNat Y).2.2.2.1) (de := i)
    have hltb : tb (ld ds (wrX D cd ds i.toNat Y).2.2.2.1) i = (ds.testBit i.toNat && !(wrX D cd ds i.toNat Y).2.2.2.1.testBit i.toNat) := ld_tb
    have hwx : wrX D cd ds (i + 1).toNat Y = if ds.testBit i.toNat = true ∧ cbZ D cd (wrX D cd ds i.toNat Y) i = true then drawX (wrX D cd ds i.toNat Y) i (drwZ D cd (wrX D cd ds i.toNat Y) i) else wrX D cd ds i.toNat Y := by rw [hst]; simp only [wrX, hit]
    refine w_iload c_202_81 rfl ?_
    refine w_aload c_202_83 rfl ?_
    refine wc_161 c_202_84 sp_157 (Nat.le_of_ble_eq_true rfl) (by omega) ?_
    refine t_deedMany hR.1.1 ?_
    refine r_i ?_
    refine z_ic_ge c_202_87 (by first | exact aRg_of _ | (unfold aRg; omega)) (by first | exact aRg_of _ | (unfold aRg; omega)) (fun h1_ => ?_) (fun h1_ => ?_)
    · have e9 : i = D 1 2 := by omega
      subst e9
      exact k I L hR hF hG
    · refine w_iload c_202_90 rfl ?_
      refine w_iload c_202_91 rfl ?_
      refine w_ishr c_202_93 (shr1 hlt (by omega)) ?_
      refine z_push c_202_94 ?_
      refine w_iand c_202_95 tb_and ?_
      refine z_push c_202_96 ?_
      refine z_ic_ne c_202_97 (by first | exact aRg_of _ | (unfold aRg; omega)) (by first | exact aRg_of _ | (unfold aRg; omega)) (fun h2_ => ?_) (fun h2_ => ?_)
      · refine z_iinc c_202_125 rfl rfl ?_
        refine w_goto c_202_128 ?_
        first
        | (have hq : cbZ D cd (wrX D cd ds i.toNat Y) i = false := by assumption
           rw [if_neg (fun z => Bool.noConfusion (z.2.symm.trans hq))] at hwx
           have hA := ih (i + 1) I1 L1 (by omega) (by omega) (by omega) (by rw [hwx]; exact hR1) hF1 hG1 k
           rw [hwx] at hA
           exact hA)
        | (rw [if_neg (fun z => by
             have z2 := (cbZ_le z.2).2.2
             have z3 : tb (ld ds (wrX D cd ds i.toNat Y).2.2.2.1) i = true := by rw [hltb, z.1, show (wrX D cd ds i.toNat Y).2.2.2.1.testBit i.toNat = false from z2]; rfl
             rcases htb with z4 | z4
             · exact Bool.noConfusion (z3.symm.trans z4.2)
             · omega)] at hwx
           have hA := ih (i + 1) I L (by omega) (by omega) (by omega) (by rw [hwx]; exact hR) hF hG k
           rw [hwx] at hA
           exact hA)
      · refine w_aload c_202_100 rfl ?_
        refine w_iload c_202_101 rfl ?_
        refine wc_172 c_202_103 sp_157 (Nat.le_of_ble_eq_true rfl) (by omega) ?_
        refine t_canBe hS hR hYi ⟨h0, by omega⟩ (by omega) (fun I1 L1 hf hf2 => ?_)
        have hR1 := hR.pk hf
        have hF1 := hF.tr (PK.t hf)
        have hG1 := hG.tr hf2
        refine r_i ?_
        refine b_if_eq c_202_106 (fun h3_ => ?_) (fun h3_ => ?_)
        · refine z_iinc c_202_125 rfl rfl ?_
          refine w_goto c_202_128 ?_
          first
          | (have hq : cbZ D cd (wrX D cd ds i.toNat Y) i = false := by assumption
             rw [if_neg (fun z => Bool.noConfusion (z.2.symm.trans hq))] at hwx
             have hA := ih (i + 1) I1 L1 (by omega) (by omega) (by omega) (by rw [hwx]; exact hR1) hF1 hG1 k
             rw [hwx] at hA
             exact hA)
          | (rw [if_neg (fun z => by
               have z2 := (cbZ_le z.2).2.2
               have z3 : tb (ld ds (wrX D cd ds i.toNat Y).2.2.2.1) i = true := by rw [hltb, z.1, show (wrX D cd ds i.toNat Y).2.2.2.1.testBit i.toNat = false from z2]; rfl
               rcases htb with z4 | z4
               · exact Bool.noConfusion (z3.symm.trans z4.2)
               · omega)] at hwx
             have hA := ih (i + 1) I L (by omega) (by omega) (by omega) (by rw [hwx]; exact hR) hF hG k
             rw [hwx] at hA
             exact hA)
        · refine w_aload c_202_109 rfl ?_
          refine w_iload c_202_110 rfl ?_
          refine wc_173 c_202_112 sp_157 (Nat.le_of_ble_eq_true rfl) (by omega) ?_
          have hcl := cbZ_le (by assumption)
          have hpi : 2 ^ i.toNat < 256 := by have : 2 ^ i.toNat ≤ 2 ^ 7 := Nat.pow_le_pow_right (by omega) (by omega); omega
          refine t_writesOne hS hR1 hYi ⟨h0, by omega⟩ hcl.1 ((hF1 157 61 (by decide)).trans hth) (by omega) (fun I2 L2 hx2 hF2 hG2 => ?_)
          have hR2 : rS I2 D cd (drawX (wrX D cd ds i.toNat Y) i (drwZ D cd (wrX D cd ds i.toNat Y) i)) := ⟨hR1.1.pt hF2, hx2⟩
          refine r_i ?_
          refine w_pop c_202_115 rfl ?_
          refine w_iload c_202_116 rfl ?_
          refine z_push c_202_117 ?_
          refine w_iload c_202_118 rfl ?_
          refine w_ishl c_202_120 (shl1 (by omega)) ?_
          refine z_push c_202_121 ?_
          refine w_ixor c_202_122 rfl ?_
          refine w_iand c_202_123 (andn hlt hpi) ?_
          refine w_istore c_202_124 (Nat.le_of_ble_eq_true rfl) rfl ?_
          refine z_iinc c_202_125 rfl rfl ?_
          refine w_goto c_202_128 ?_
          have hbt : ds.testBit i.toNat = true := by
            rcases htb with z | z
            · exfalso; omega
            · have z2 := hltb.symm.trans z.2
              cases hq : ds.testBit i.toNat
              · rw [hq] at z2; exact Bool.noConfusion z2
              · rfl
          rw [if_pos ⟨hbt, by assumption⟩] at hwx
          have hA := ih (i + 1) I2 L2 (by omega) (by omega) (by omega) (by rw [hwx]; exact hR2) (hF1.tr hF2) (hG1.tr hG2) k
          rw [hwx] at hA
          rw [ld_or]
          exact hA

set_option maxHeartbeats 2000000 in
theorem t_all_2 {d : Nat} {I0 : aFI} {L0 : aFL} {Q : aPo} {sh : Nat} {su : Option Nat} {D : Nat → Int → Int} {cd : Nat → Option (List Int)} {X : Lk} {ds m : Nat} (hS : wfS D cd) (hX : lkOK X) (hm : (m : Int) = ahZ X) (hs : X.1 ≤ 999) (hds : ds < 256) (hth : I0 157 61 = aBo true) (hd : 7 ≤ d) {va : Int} : ∀ (n : Nat) (i lf : Nat) (I : aFI) (L : aFL) (v5 : Value), m + 1 - i < n → (i ≤ m) → (lf = ld ds (alX D cd ds X i).2.2.2.1) → (rS I D cd (alX D cd ds X i)) → (frG PT I0 I) → (frG LK L0 L) → (∀ (j : Nat) (I2 : aFI) (L2 : aFL), j ≤ m → rS I2 D cd (alW D cd ds X j) → frG PT I0 I2 → frG LK L0 L2 → fst0 (fun n => decide (ld ds (alW D cd ds X n).2.2.2.1 = 0)) i (m + 1 - i) = (if ld ds (alW D cd ds X j).2.2.2.1 = 0 then (j : Int) else -1) → aWp none d 202 181 [.ref 157, .int (iI va), .int (iI (((ld ds (alW D cd ds X j).2.2.2.1 : Nat) : Nat) : Int)), .int (iI (j : Int)), .int (iI 0), .int (iI (D 1 2))] [] I2 L2 (aR sh su) Q) → aWp none d 202 78 [.ref 157, .int (iI va), .int (iI ((lf : Nat) : Int)), .int (iI (i : Int)), .int (iI 1), v5] [] I L (aR sh su) Q := by
  intro n
  induction n with
  | zero => intro i lf I L v5 h; omega
  | succ n ih =>
    intro i lf I L v5 hn2 h1 hl hR hF hG k
    have hss := alX_s (D := D) (cd := cd) (ds := ds) (X := X) i
    have hdd := hS.n
    have hah := ahZ_rg hX hs
    have hXi : lkOK (alX D cd ds X i) := alX_ok hS hX i (by omega)
    have hWi : lkOK (alW D cd ds X i) := alW_ok hS hX i (by omega)
    have hws : (alW D cd ds X i).1 = X.1 + i := (wrX_s _).trans hss
    have hlt := ld_lt (b := (alW D cd ds X i).2.2.2.1) hds
    have hx1 := hX.1
    subst hl
    refine z_push c_202_78 ?_
    refine w_istore c_202_79 (Nat.le_of_ble_eq_true rfl) rfl ?_
    refine t_all_1 hS hXi hds ((hF 157 61 (by decide)).trans hth) (by omega) _ 0 I L (Nat.lt_succ_self _) (by omega) (by omega) hR frG.rf frG.rf (fun I1 L1 hR1 hF1 hG1 => ?_)
    have hR1 : rS I1 D cd (alW D cd ds X i) := hR1
    have hF1 := hF.tr hF1
    have hG1 := hG.tr hG1
    change aWp _ _ _ _ [_, _, .int (iI ((ld ds (alW D cd ds X i).2.2.2.1 : Nat) : Int)), _, _, _] _ _ _ _ _
    refine w_iload c_202_131 rfl ?_
    refine z_if_eq c_202_132 (by first | exact aRg_of _ | (unfold aRg; omega)) (fun h11_ => ?_) (fun h11_ => ?_)
    · refine z_push c_202_157 ?_
      refine w_istore c_202_158 (Nat.le_of_ble_eq_true rfl) rfl ?_
      refine w_iload c_202_160 rfl ?_
      refine z_if_ne c_202_162 (by first | exact aRg_of _ | (unfold aRg; omega)) (fun h12_ => absurd h12_ (by decide)) (fun h12_ => ?_)
      refine w_goto c_202_165 ?_
      refine w_iload c_202_73 rfl ?_
      refine z_if_eq c_202_75 (by first | exact aRg_of _ | (unfold aRg; omega)) (fun h13_ => ?_) (fun h13_ => absurd (by decide) h13_)
      refine k i I1 L1 h1 hR1 hF1 hG1 ?_
      first
      | (rw [fst0_s h1, if_pos (decide_eq_true (by omega)), if_pos (by omega)]; done)
      | (rw [if_neg (by omega), show i = m by omega, fst0_s (Nat.le_refl m), if_neg (by rw [decide_eq_true_eq, show m = i by omega]; omega), fst0_z (by omega)])
    · refine w_iload c_202_135 rfl ?_
      refine z_push c_202_136 ?_
      refine z_ic_ge c_202_138 (by first | exact aRg_of _ | (unfold aRg; omega)) (by first | exact aRg_of _ | (unfold aRg; omega)) (fun h14_ => ?_) (fun h14_ => ?_)
      · refine z_push c_202_157 ?_
        refine w_istore c_202_158 (Nat.le_of_ble_eq_true rfl) rfl ?_
        refine w_iload c_202_160 rfl ?_
        refine z_if_ne c_202_162 (by first | exact aRg_of _ | (unfold aRg; omega)) (fun h15_ => absurd h15_ (by decide)) (fun h15_ => ?_)
        refine w_goto c_202_165 ?_
        refine w_iload c_202_73 rfl ?_
        refine z_if_eq c_202_75 (by first | exact aRg_of _ | (unfold aRg; omega)) (fun h16_ => ?_) (fun h16_ => absurd (by decide) h16_)
        refine k i I1 L1 h1 hR1 hF1 hG1 ?_
        first
        | (rw [fst0_s h1, if_pos (decide_eq_true (by omega)), if_pos (by omega)]; done)
        | (rw [if_neg (by omega), show i = m by omega, fst0_s (Nat.le_refl m), if_neg (by rw [decide_eq_true_eq, show m = i by omega]; omega), fst0_z (by omega)])
      · refine w_aload c_202_141 rfl ?_
        refine w_getR c_202_142 sp_157 (by decide) rfl pr_157_58 ?_
        refine z_push c_202_145 ?_
        refine z_iaload c_202_146 sp_202 (by omega) (by first | decide | omega) hR1.2.1 ?_
        refine z_push c_202_147 ?_
        refine z_ic_ge c_202_150 (by first | exact aRg_of _ | (unfold aRg; omega)) (by first | exact aRg_of _ | (unfold aRg; omega)) (fun h17_ => ?_) (fun h17_ => ?_)
        · refine z_push c_202_157 ?_
          refine w_istore c_202_158 (Nat.le_of_ble_eq_true rfl) rfl ?_
          refine w_iload c_202_160 rfl ?_
          refine z_if_ne c_202_162 (by first | exact aRg_of _ | (unfold aRg; omega)) (fun h18_ => absurd h18_ (by decide)) (fun h18_ => ?_)
          refine w_goto c_202_165 ?_
          refine w_iload c_202_73 rfl ?_
          refine z_if_eq c_202_75 (by first | exact aRg_of _ | (unfold aRg; omega)) (fun h19_ => ?_) (fun h19_ => absurd (by decide) h19_)
          refine k i I1 L1 h1 hR1 hF1 hG1 ?_
          first
          | (rw [fst0_s h1, if_pos (decide_eq_true (by omega)), if_pos (by omega)]; done)
          | (rw [if_neg (by omega), show i = m by omega, fst0_s (Nat.le_refl m), if_neg (by rw [decide_eq_true_eq, show m = i by omega]; omega), fst0_z (by omega)])
        · refine z_push c_202_153 ?_
          refine w_goto c_202_154 ?_
          refine w_istore c_202_158 (Nat.le_of_ble_eq_true rfl) rfl ?_
          refine w_iload c_202_160 rfl ?_
          refine z_if_ne c_202_162 (by first | exact aRg_of _ | (unfold aRg; omega)) (fun h20_ => ?_) (fun h20_ => absurd (by decide) h20_)
          refine w_aload c_202_168 rfl ?_
          refine z_push c_202_169 ?_
          refine z_push c_202_170 ?_
          refine z_push c_202_171 ?_
          refine wc_175 c_202_172 sp_157 (Nat.le_of_ble_eq_true rfl) (by omega) ?_
          refine t_seasonGoes0 (dry := 0) hS hR1 hWi (by decide) rfl (iI_of _) (by omega) (fun I2 L2 hR2 hov2 hF2 hG2 => ?_)
          refine r_v ?_
          refine z_iinc c_202_175 rfl rfl ?_
          refine w_goto c_202_178 ?_
          refine w_iload c_202_73 rfl ?_
          refine z_if_eq c_202_75 (by first | exact aRg_of _ | (unfold aRg; omega)) (fun h21_ => absurd h21_ (by decide)) (fun h21_ => ?_)
          refine ih (i + 1) _ I2 L2 _ (by omega) (by omega) rfl hR2 (hF1.tr hF2) (hG1.tr hG2) (fun j I3 L3 z1 z2 z3 z4 z5 => k j I3 L3 z1 z2 z3 z4 ?_)
          rw [fst0_s (by omega), if_neg (by rw [decide_eq_true_eq]; omega)]; exact z5

set_option maxHeartbeats 2000000 in
theorem t_all_0 {d : Nat} {I : aFI} {L : aFL} {Q : aPo} {sh : Nat} {su : Option Nat} {D : Nat → Int → Int} {cd : Nat → Option (List Int)} {X : Lk} {a : Nat} (hS : wfS D cd) (hR : rS I D cd X) (hX : lkOK X) (ha : a < 2 ^ (D 1 2).toNat) (hd : 2 ≤ d) {v3 v4 v5 : Value} : ∀ (n : Nat) (i : Int), (D 1 2 - i).toNat < n → (0 ≤ i) → (i ≤ D 1 2) → (∀ j : Nat, (j : Int) < i → ¬ (a.testBit j = true ∧ X.2.2.2.1.testBit j = true)) → (a &&& X.2.2.2.1 = 0 → aWp none d 202 62 [.ref 157, .int (iI (a : Int)), .int (iI (D 1 2)), v3, v4, v5] [] I L (aR sh su) Q) → (¬ a &&& X.2.2.2.1 = 0 → Q (some (.int (iI (-1)))) I L (aR sh su)) → aWp none d 202 29 [.ref 157, .int (iI (a : Int)), .int (iI i), v3, v4, v5] [] I L (aR sh su) Q := by
  intro n
  induction n with
  | zero => intro i h; omega
  | succ n ih =>
    intro i hn2 h0 h1 hb k1 k2
    have hdd := hS.n
    have hpw := pw_rg (n := D 1 2) (by omega)
    have ha8 : a < 256 := by omega
    have htb := tb_one (w := a) (de := i)
    refine w_iload c_202_29 rfl ?_
    refine w_aload c_202_30 rfl ?_
    refine wc_161 c_202_31 sp_157 (Nat.le_of_ble_eq_true rfl) (by omega) ?_
    refine t_deedMany hR.1.1 ?_
    refine r_i ?_
    refine z_ic_ge c_202_34 (by first | exact aRg_of _ | (unfold aRg; omega)) (by first | exact aRg_of _ | (unfold aRg; omega)) (fun h1_ => ?_) (fun h1_ => ?_)
    · have e9 : i = D 1 2 := by omega
      subst e9
      refine k1 ?_
      apply Nat.eq_of_testBit_eq; intro j
      rw [Nat.testBit_and, Nat.zero_testBit]
      by_cases hj : (j : Int) < D 1 2
      · have := hb j hj
        cases hq : a.testBit j
        · rfl
        · cases hq2 : X.2.2.2.1.testBit j
          · rfl
          · exact absurd ⟨hq, hq2⟩ this
      · rw [Nat.testBit_lt_two_pow (Nat.lt_of_lt_of_le ha (Nat.pow_le_pow_right (by omega) (by omega)))]; rfl
    · refine w_iload c_202_37 rfl ?_
      refine w_iload c_202_38 rfl ?_
      refine w_ishr c_202_39 (shr1 ha8 (by omega)) ?_
      refine z_push c_202_40 ?_
      refine w_iand c_202_41 tb_and ?_
      refine z_push c_202_42 ?_
      refine z_ic_ne c_202_43 (by first | exact aRg_of _ | (unfold aRg; omega)) (by first | exact aRg_of _ | (unfold aRg; omega)) (fun h2_ => ?_) (fun h2_ => ?_)
      · refine z_iinc c_202_56 rfl rfl ?_
        refine w_goto c_202_59 ?_
        refine ih (i + 1) (by omega) (by omega) (by omega) (fun j hj => ?_) k1 k2
        by_cases hji : (j : Int) < i
        · exact hb j hji
        have e9 : j = i.toNat := by omega
        subst e9
        rintro ⟨z1, z2⟩
        first
        | exact Bool.noConfusion ((show tb X.2.2.2.1 i = true from z2).symm.trans (show tb X.2.2.2.1 i = false by assumption))
        | (rcases htb with z | z; exact Bool.noConfusion ((show tb a i = true from z1).symm.trans z.2); omega)
      · refine w_aload c_202_46 rfl ?_
        refine w_iload c_202_47 rfl ?_
        refine wc_163 c_202_48 sp_157 (Nat.le_of_ble_eq_true rfl) (by omega) ?_
        refine t_isWritten hR.2 ⟨h0, by omega⟩ ?_
        refine r_i ?_
        refine b_if_eq c_202_51 (fun h3_ => ?_) (fun h3_ => ?_)
        · refine z_iinc c_202_56 rfl rfl ?_
          refine w_goto c_202_59 ?_
          refine ih (i + 1) (by omega) (by omega) (by omega) (fun j hj => ?_) k1 k2
          by_cases hji : (j : Int) < i
          · exact hb j hji
          have e9 : j = i.toNat := by omega
          subst e9
          rintro ⟨z1, z2⟩
          first
          | exact Bool.noConfusion ((show tb X.2.2.2.1 i = true from z2).symm.trans (show tb X.2.2.2.1 i = false by assumption))
          | (rcases htb with z | z; exact Bool.noConfusion ((show tb a i = true from z1).symm.trans z.2); omega)
        · refine z_push c_202_54 ?_
          refine z_ret c_202_55 rfl ?_
          refine k2 (fun z => ?_)
          have z1 : (a &&& X.2.2.2.1).testBit i.toNat = false := by rw [z]; exact Nat.zero_testBit _
          rw [Nat.testBit_and] at z1
          rcases htb with y | y
          · omega
          · rw [show a.testBit i.toNat = true from y.2, show X.2.2.2.1.testBit i.toNat = true by assumption] at z1
            exact Bool.noConfusion z1

set_option maxHeartbeats 1000000 in
theorem t_all {d : Nat} {I : aFI} {L : aFL} {Q : aPo} {sh : Nat} {su : Option Nat} {D : Nat → Int → Int} {cd : Nat → Option (List Int)} {X : Lk} {a : Int} (hS : wfS D cd) (hR : rS I D cd X) (hX : lkOK X) (ra : -2147483648 ≤ a ∧ a < 2147483648) (hs : X.1 ≤ 999) (hth : I 157 61 = aBo false) (hd : 9 ≤ d) (k : ∀ (I2 : aFI) (L2 : aFL), frG PE I I2 → frG LK L L2 → Q (some (.int (iI (allZ D cd X a)))) I2 L2 (aR sh su)) : aWp none d 202 0 [.ref 157, .int (iI a), .null, .null, .null, .null] [] I L (aR sh su) Q := by
  have hah := ahZ_rg hX hs
  have hnn : (((ahZ X).toNat : Nat) : Int) = ahZ X := Int.toNat_of_nonneg hah.1
  have hdd := hS.n
  have hx1 := hX.1
  have hx2 := hX.2.1
  have hx3 := hX.2.2.1
  have hx4 := hX.2.2.2.1
  have hpw := pw_rg (n := D 1 2) (by omega)
  refine w_aload c_202_0 rfl ?_
  refine z_getB c_202_1 sp_157 (by decide) rfl hR.1.1.2.2.2.1 ?_
  refine b_if_eq c_202_4 (fun h1_ => ?_) (fun h1_ => ?_)
  · refine z_push c_202_25 ?_
    refine z_ret c_202_26 rfl ?_
    refine q_i (k _ _ frG.rf frG.rf) ?_
    unfold allZ
    rw [if_neg (fun z => by first | exact Bool.noConfusion ((decide_eq_true z.1).symm.trans (show _ = false by assumption)) | (simp only [decide_eq_false_iff_not] at *; omega))]
  · refine w_iload c_202_7 rfl ?_
    refine z_i2l c_202_8 (by first | exact aRg_of _ | (unfold aRg; omega)) ?_
    refine z_pushl c_202_9 ?_
    refine z_push c_202_10 ?_
    refine w_aload c_202_11 rfl ?_
    refine wc_161 c_202_12 sp_157 (Nat.le_of_ble_eq_true rfl) (by omega) ?_
    refine t_deedMany hR.1.1 ?_
    refine r_i ?_
    refine w_ishl c_202_15 (shl1 (by omega)) ?_
    refine z_push c_202_16 ?_
    refine z_isub c_202_17 ?_
    refine z_i2l c_202_18 (by first | exact aRg_of _ | (unfold aRg; omega)) ?_
    refine wc_130 c_202_19 (Nat.le_of_ble_eq_true rfl) (by omega) ?_
    refine t_isIn (by first | exact aRl_of _ | (unfold aRl; omega)) (by first | exact aRl_of _ | (unfold aRl; omega)) (by first | exact aRl_of _ | (unfold aRl; omega)) ?_
    refine r_i ?_
    refine b_if_ne c_202_22 (fun h2_ => ?_) (fun h2_ => ?_)
    · refine z_push c_202_27 ?_
      refine w_istore c_202_28 (Nat.le_of_ble_eq_true rfl) rfl ?_
      have hte : D 0 0 = 1 := of_decide_eq_true h1_
      simp only [decide_eq_true_eq] at h2_
      have hna : ((a.toNat : Nat) : Int) = a := Int.toNat_of_nonneg (by omega)
      have ha2 : a.toNat < 2 ^ (D 1 2).toNat := by omega
      have ha8 : a.toNat < 256 := by omega
      rw [← hna]
      refine t_all_0 hS hR hX ha2 (by omega) _ 0 (Nat.lt_succ_self _) (by omega) (by omega) (fun j hj => absurd hj (by omega)) (fun hal => ?_) (fun hal => ?_)
      · refine w_iload c_202_62 rfl ?_
        refine w_istore c_202_63 (Nat.le_of_ble_eq_true rfl) rfl ?_
        refine z_push c_202_64 ?_
        refine w_istore c_202_65 (Nat.le_of_ble_eq_true rfl) rfl ?_
        refine z_push c_202_66 ?_
        refine w_istore c_202_67 (Nat.le_of_ble_eq_true rfl) rfl ?_
        refine w_aload c_202_69 rfl ?_
        refine wc_177 c_202_70 sp_157 (Nat.le_of_ble_eq_true rfl) (by omega) ?_
        refine t_putsAside (fun I1 hp1 hp2 hp3 => ?_)
        have hR1 := hR.aside hp3
        refine r_v ?_
        refine w_iload c_202_73 rfl ?_
        refine z_if_eq c_202_75 (by first | exact aRg_of _ | (unfold aRg; omega)) (fun h21_ => absurd h21_ (by decide)) (fun h21_ => ?_)
        refine t_all_2 (m := (ahZ X).toNat) hS hX hnn hs ha8 hp2 (by omega) _ 0 a.toNat I1 L _ (Nat.lt_succ_self _) (by omega) (ld_id hal).symm hR1 frG.rf frG.rf (fun j I2 L2 hj hR2 hF2 hG2 he5 => ?_)
        have hlt := ld_lt (b := (alW D cd a.toNat X j).2.2.2.1) ha8
        refine w_aload c_202_181 rfl ?_
        refine wc_178 c_202_182 sp_157 (Nat.le_of_ble_eq_true rfl) (by omega) ?_
        refine t_takesBack (fun I3 hb1 hb2 hb3 => ?_)
        refine r_v ?_
        refine w_iload c_202_185 rfl ?_
        refine z_if_ne c_202_186 (by first | exact aRg_of _ | (unfold aRg; omega)) (fun h31_ => ?_) (fun h31_ => ?_)
        · refine z_push c_202_193 ?_
          refine z_ret c_202_194 rfl ?_
          refine q_i (k _ _ (back_fr hp3 hp1 (PT.t2 hF2) hb3 hb1 hth hb2) hG2) ?_
          unfold allZ; rw [if_pos ⟨hte, by omega, hal⟩, show (ahZ X).toNat + 1 = (ahZ X).toNat + 1 - 0 from rfl, he5]
          first | rw [if_pos (by omega)] | rw [if_neg (by omega)]
        · refine w_iload c_202_189 rfl ?_
          refine w_goto c_202_190 ?_
          refine z_ret c_202_194 rfl ?_
          refine q_i (k _ _ (back_fr hp3 hp1 (PT.t2 hF2) hb3 hb1 hth hb2) hG2) ?_
          unfold allZ; rw [if_pos ⟨hte, by omega, hal⟩, show (ahZ X).toNat + 1 = (ahZ X).toNat + 1 - 0 from rfl, he5]
          first | rw [if_pos (by omega)] | rw [if_neg (by omega)]
      · refine q_i (k _ _ frG.rf frG.rf) ?_
        unfold allZ; rw [if_neg (fun z => hal z.2.2)]
    · refine z_push c_202_25 ?_
      refine z_ret c_202_26 rfl ?_
      refine q_i (k _ _ frG.rf frG.rf) ?_
      unfold allZ
      rw [if_neg (fun z => by first | exact Bool.noConfusion ((decide_eq_true z.1).symm.trans (show _ = false by assumption)) | (simp only [decide_eq_false_iff_not] at *; omega))]

