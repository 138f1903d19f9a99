/-! small numbers (a1.py) -/
def cutz (v m : Int) : Int := if v < 0 then 0 else if m < v then m else v
def btw (lo v hi : Int) : Int := if v < lo then lo else if hi < v then hi else v
def clip (v : Int) : Int := if 1000000 < v then 1000000 else if v < -1000000 then -1000000 else v
def dk (b g : Int) : Int := if b ≤ 0 then 0 else cutz (100 * g / b) 9999
theorem ed_rg {a b : Int} (ha : 0 ≤ a) (hb : 0 < b) : 0 ≤ a / b ∧ a / b ≤ a := ⟨Int.ediv_nonneg ha (by omega), Int.ediv_le_self _ ha⟩
theorem cutz_rg {v m : Int} (hm : 0 ≤ m) : 0 ≤ cutz v m ∧ cutz v m ≤ m := by
  unfold cutz; split
  · omega
  · split <;> omega
theorem dk_rg {b g : Int} : 0 ≤ dk b g ∧ dk b g ≤ 9999 := by
  unfold dk; split
  · omega
  · exact cutz_rg (by omega)
theorem iI_divt {a b : Int} (ha : aRg a) (hb : aRg b) (h : aRg (a.tdiv b)) : iI a / iI b = iI (a.tdiv b) := by
  apply Int32.toInt_inj.mp
  rw [Int32.toInt_div, iI_toInt ha, iI_toInt hb, iI_toInt h]
  obtain ⟨h1, h2⟩ := h
  rw [Int.bmod_eq_of_le] <;> omega
theorem lI_divt {a b : Int} (ha : aRl a) (hb : aRl b) (h : aRl (a.tdiv b)) : lI a / lI b = lI (a.tdiv b) := by
  apply Int64.toInt_inj.mp
  rw [Int64.toInt_div, lI_toInt ha, lI_toInt hb, lI_toInt h]
  obtain ⟨h1, h2⟩ := h
  rw [Int.bmod_eq_of_le] <;> omega
theorem td_rg {a b : Int} : (a.tdiv b).natAbs ≤ a.natAbs := by
  rw [Int.natAbs_tdiv]
  exact Nat.div_le_self _ _
theorem fdiv_td {a b : Int} (hb : b ≠ 0) : a.fdiv b = if a.tmod b ≠ 0 ∧ ((a < 0) ≠ (b < 0)) then a.tdiv b - 1 else a.tdiv b := by
  have h0 : a.tmod b = 0 ↔ b ∣ a := ⟨Int.dvd_of_tmod_eq_zero, Int.tmod_eq_zero_of_dvd⟩
  rw [Int.fdiv_eq_ediv, Int.tdiv_eq_ediv]
  by_cases hd : b ∣ a
  · have h1 : a.tmod b = 0 := h0.mpr hd
    simp [hd, h1]
  · have h1 : a.tmod b ≠ 0 := fun z => hd (h0.mp z)
    rcases Int.lt_or_gt_of_ne hb with hbn | hbp
    · have hs : b.sign = -1 := Int.sign_eq_neg_one_of_neg hbn
      by_cases ha : 0 ≤ a
      · have ha2 : ¬ a < 0 := by omega
        have hb2 : ¬ 0 ≤ b := by omega
        simp [hd, h1, ha, ha2, hb2, hbn]
      · have ha2 : a < 0 := by omega
        have hb2 : ¬ 0 ≤ b := by omega
        simp [hd, h1, ha, ha2, hb2, hbn, hs]
        try omega
    · have hs : b.sign = 1 := Int.sign_eq_one_of_pos hbp
      have hb2 : 0 ≤ b := by omega
      have hb3 : ¬ b < 0 := by omega
      by_cases ha : 0 ≤ a
      · have ha2 : ¬ a < 0 := by omega
        simp [hd, h1, ha, ha2, hb2, hb3]
      · have ha2 : a < 0 := by omega
        simp [hd, h1, ha, ha2, hb2, hb3, hs]
        try omega
section ZT
variable {sc : aSc} {d y pc nx : Nat} {ls st : List Value} {I : aFI} {L : aFL} {R : aFR} {Q : aPo}
theorem zt_idiv {a b : Int} (hc : aCod y pc = some (.idiv, nx)) (ha : aRg a) (hb : aRg b) (hr : aRg (a.tdiv b)) (hn : b ≠ 0) (k : aWp sc d y nx ls (.int (iI (a.tdiv b)) :: st) I L R Q) : aWp sc d y pc ls (.int (iI b) :: .int (iI a) :: st) I L R Q := w_idiv hc (iI_ne0 hb hn) (iI_divt ha hb hr) k
theorem zt_ldiv {a b : Int} (hc : aCod y pc = some (.ldiv, nx)) (ha : aRl a) (hb : aRl b) (hr : aRl (a.tdiv b)) (hn : b ≠ 0) (k : aWp sc d y nx ls (.long (lI (a.tdiv b)) :: st) I L R Q) : aWp sc d y pc ls (.long (lI b) :: .long (lI a) :: st) I L R Q := w_ldiv hc (lI_ne0 hb hn) (lI_divt ha hb hr) k
theorem zt_lrem {a b : Int} (hc : aCod y pc = some (.lrem, nx)) (ha : aRl a) (hb : aRl b) (hr : aRl (a.tdiv b)) (hn : b ≠ 0) (k : aWp sc d y nx ls (.long (lI (a.tmod b)) :: st) I L R Q) : aWp sc d y pc ls (.long (lI b) :: .long (lI a) :: st) I L R Q := w_lrem hc (lI_ne0 hb hn) (by rw [lI_divt ha hb hr, lI_mul, lI_sub]; congr 1; have := Int.tmod_def a b; rw [this, Int.mul_comm b]) k
end ZT
set_option maxHeartbeats 1000000 in
theorem t_cut {d : Nat} {I : aFI} {L : aFL} {R : aFR} {Q : aPo} {v m : Int} (hv : -4000000000000000000 ≤ v ∧ v ≤ 4000000000000000000) (hm : 0 ≤ m ∧ m < 2000000000) (k : Q (some (.int (iI (cutz v m)))) I L R) : aWp none d 168 0 [.long (lI v), .null, .int (iI m)] [] I L R Q := by
  refine w_lload c_168_0 rfl ?_
  refine z_pushl c_168_1 ?_
  refine z_lc_ge c_168_2 c_168_3 (by unfold aRl; omega) (by unfold aRl; omega) (fun h1_ => ?_) (fun h1_ => ?_)
  · refine w_lload c_168_10 rfl ?_
    refine w_iload c_168_11 rfl ?_
    refine z_i2l c_168_12 (by unfold aRg; omega) ?_
    refine z_lc_le c_168_13 c_168_14 (by unfold aRl; omega) (by unfold aRl; omega) (fun h2_ => ?_) (fun h2_ => ?_)
    · refine w_lload c_168_21 rfl ?_
      refine z_l2i c_168_22 ?_
      refine z_ret c_168_23 rfl ?_
      unfold cutz at k
      first
      | (rw [if_pos (by omega)] at k; exact k)
      | (rw [if_neg (by omega), if_pos (by omega)] at k; exact k)
      | (rw [if_neg (by omega), if_neg (by omega)] at k; exact k)
    · refine w_iload c_168_17 rfl ?_
      refine w_goto c_168_18 ?_
      refine z_ret c_168_23 rfl ?_
      unfold cutz at k
      first
      | (rw [if_pos (by omega)] at k; exact k)
      | (rw [if_neg (by omega), if_pos (by omega)] at k; exact k)
      | (rw [if_neg (by omega), if_neg (by omega)] at k; exact k)
  · refine z_push c_168_6 ?_
    refine w_goto c_168_7 ?_
    refine z_ret c_168_23 rfl ?_
    unfold cutz at k
    first
    | (rw [if_pos (by omega)] at k; exact k)
    | (rw [if_neg (by omega), if_pos (by omega)] at k; exact k)
    | (rw [if_neg (by omega), if_neg (by omega)] at k; exact k)

set_option maxHeartbeats 1000000 in
theorem tc_between {d : Nat} {I : aFI} {L : aFL} {R : aFR} {Q : aPo} {lo v hi : Int} (hv : -4000000000000000000 ≤ v ∧ v ≤ 4000000000000000000) (hl : -2000000000 ≤ lo ∧ lo < 2000000000) (hm : -2000000000 ≤ hi ∧ hi < 2000000000) (k : Q (some (.int (iI (btw lo v hi)))) I L R) : aWp none d 59 0 [.int (iI lo), .long (lI v), .null, .int (iI hi)] [] I L R Q := by
  refine w_lload c_59_0 rfl ?_
  refine w_iload c_59_1 rfl ?_
  refine z_i2l c_59_2 (by unfold aRg; omega) ?_
  refine z_lc_ge c_59_3 c_59_4 (by unfold aRl; omega) (by unfold aRl; omega) (fun h1_ => ?_) (fun h1_ => ?_)
  · refine w_lload c_59_11 rfl ?_
    refine w_iload c_59_12 rfl ?_
    refine z_i2l c_59_13 (by unfold aRg; omega) ?_
    refine z_lc_le c_59_14 c_59_15 (by unfold aRl; omega) (by unfold aRl; omega) (fun h2_ => ?_) (fun h2_ => ?_)
    · refine w_lload c_59_22 rfl ?_
      refine z_l2i c_59_23 ?_
      refine z_ret c_59_24 rfl ?_
      unfold btw at k
      first
      | (rw [if_pos (by omega)] at k; exact k)
      | (rw [if_neg (by omega), if_pos (by omega)] at k; exact k)
      | (rw [if_neg (by omega), if_neg (by omega)] at k; exact k)
    · refine w_iload c_59_18 rfl ?_
      refine w_goto c_59_19 ?_
      refine z_ret c_59_24 rfl ?_
      unfold btw at k
      first
      | (rw [if_pos (by omega)] at k; exact k)
      | (rw [if_neg (by omega), if_pos (by omega)] at k; exact k)
      | (rw [if_neg (by omega), if_neg (by omega)] at k; exact k)
  · refine w_iload c_59_7 rfl ?_
    refine w_goto c_59_8 ?_
    refine z_ret c_59_24 rfl ?_
    unfold btw at k
    first
    | (rw [if_pos (by omega)] at k; exact k)
    | (rw [if_neg (by omega), if_pos (by omega)] at k; exact k)
    | (rw [if_neg (by omega), if_neg (by omega)] at k; exact k)

set_option maxHeartbeats 1000000 in
theorem t_qClip {d : Nat} {I : aFI} {L : aFL} {R : aFR} {Q : aPo} {v : Int} (hv : -4000000000000000000 ≤ v ∧ v ≤ 4000000000000000000) (k : Q (some (.long (lI (clip v)))) I L R) : aWp none d 237 0 [.long (lI v), .null] [] I L R Q := by
  refine w_lload c_237_0 rfl ?_
  refine z_pushl c_237_1 ?_
  refine z_lc_le c_237_4 c_237_5 (by unfold aRl; omega) (by unfold aRl; omega) (fun h1_ => ?_) (fun h1_ => ?_)
  · refine w_lload c_237_14 rfl ?_
    refine z_pushl c_237_15 ?_
    refine z_lc_ge c_237_18 c_237_19 (by unfold aRl; omega) (by unfold aRl; omega) (fun h2_ => ?_) (fun h2_ => ?_)
    · refine w_lload c_237_28 rfl ?_
      refine z_retl c_237_29 ?_
      unfold clip at k
      first
      | (rw [if_pos (by omega)] at k; exact k)
      | (rw [if_neg (by omega), if_pos (by omega)] at k; exact k)
      | (rw [if_neg (by omega), if_neg (by omega)] at k; exact k)
    · refine z_pushl c_237_22 ?_
      refine w_goto c_237_25 ?_
      refine z_retl c_237_29 ?_
      unfold clip at k
      first
      | (rw [if_pos (by omega)] at k; exact k)
      | (rw [if_neg (by omega), if_pos (by omega)] at k; exact k)
      | (rw [if_neg (by omega), if_neg (by omega)] at k; exact k)
  · refine z_pushl c_237_8 ?_
    refine w_goto c_237_11 ?_
    refine z_retl c_237_29 ?_
    unfold clip at k
    first
    | (rw [if_pos (by omega)] at k; exact k)
    | (rw [if_neg (by omega), if_pos (by omega)] at k; exact k)
    | (rw [if_neg (by omega), if_neg (by omega)] at k; exact k)

set_option maxHeartbeats 1000000 in
theorem tc_mostOf {d : Nat} {I : aFI} {L : aFL} {R : aFR} {Q : aPo} {x : Int} (hx : 0 ≤ x ∧ x < 3) (k : Q (some (.int (iI (if x = 2 then 8 else 6)))) I L R) : aWp none d 66 0 [.int (iI x)] [] I L R Q := by
  refine w_iload c_66_0 rfl ?_
  refine z_push c_66_1 ?_
  refine z_ic_ne c_66_2 (by unfold aRg; omega) (by unfold aRg; omega) (fun h1_ => ?_) (fun h1_ => ?_)
  · refine w_iload c_66_10 rfl ?_
    refine z_push c_66_11 ?_
    refine z_ic_ne c_66_12 (by unfold aRg; omega) (by unfold aRg; omega) (fun h2_ => ?_) (fun h2_ => ?_)
    · refine z_push c_66_20 ?_
      refine z_ret c_66_22 rfl ?_
      first
      | (rw [if_pos (by omega)] at k; exact k)
      | (rw [if_neg (by omega)] at k; exact k)
    · refine z_push c_66_15 ?_
      refine w_goto c_66_17 ?_
      refine z_ret c_66_22 rfl ?_
      first
      | (rw [if_pos (by omega)] at k; exact k)
      | (rw [if_neg (by omega)] at k; exact k)
  · refine z_push c_66_5 ?_
    refine w_goto c_66_7 ?_
    refine z_ret c_66_22 rfl ?_
    first
    | (rw [if_pos (by omega)] at k; exact k)
    | (rw [if_neg (by omega)] at k; exact k)

set_option maxHeartbeats 1000000 in
theorem tc_darkness {d q : Nat} {I : aFI} {L : aFL} {Q : aPo} {sh : Nat} {su : Option Nat} {b g : Int} (hl : aLk0 q) (hb : I q 1 = iI b) (hg : I q 2 = iI g) (hbr : 0 ≤ b ∧ b < 100000) (hgr : 0 ≤ g ∧ g < 100000) (k : Q (some (.int (iI (dk b g)))) I L (aR sh su)) : aWp none d 7 0 [.ref q, .null] [] I L (aR sh su) Q := by
  have hq := aLk_all hl
  have he : ∀ h : 0 < b, 0 ≤ 100 * g / b ∧ 100 * g / b ≤ 100 * g := fun h => ed_rg (by omega) h
  refine w_aload c_7_0 rfl ?_
  refine z_getZ c_7_1 hq.1 (by decide) rfl hb ?_
  refine z_if_gt c_7_4 (by unfold aRg; omega) (fun h1_ => ?_) (fun h1_ => ?_)
  · refine z_push c_7_9 ?_
    refine w_aload c_7_11 rfl ?_
    refine z_getZ c_7_12 hq.1 (by decide) rfl hg ?_
    refine z_imul c_7_15 ?_
    refine w_aload c_7_16 rfl ?_
    refine z_getZ c_7_17 hq.1 (by decide) rfl hb ?_
    refine z_idiv c_7_20 (by omega) (by omega) ?_
    have he := he (by omega)
    refine w_istore c_7_21 (Nat.le_of_ble_eq_true rfl) rfl ?_
    refine w_iload c_7_22 rfl ?_
    refine z_push c_7_23 ?_
    refine z_ic_le c_7_26 (by unfold aRg; omega) (by unfold aRg; omega) (fun h2_ => ?_) (fun h2_ => ?_)
    · refine w_iload c_7_35 rfl ?_
      refine z_ret c_7_36 rfl ?_
      unfold dk cutz at k
      first
      | (rw [if_pos (by omega)] at k; exact k)
      | (rw [if_neg (by omega), if_neg (by omega), if_pos (by omega)] at k; exact k)
      | (rw [if_neg (by omega), if_neg (by omega), if_neg (by omega)] at k; exact k)
    · refine z_push c_7_29 ?_
      refine w_goto c_7_32 ?_
      refine z_ret c_7_36 rfl ?_
      unfold dk cutz at k
      first
      | (rw [if_pos (by omega)] at k; exact k)
      | (rw [if_neg (by omega), if_neg (by omega), if_pos (by omega)] at k; exact k)
      | (rw [if_neg (by omega), if_neg (by omega), if_neg (by omega)] at k; exact k)
  · refine z_push c_7_7 ?_
    refine z_ret c_7_8 rfl ?_
    unfold dk cutz at k
    first
    | (rw [if_pos (by omega)] at k; exact k)
    | (rw [if_neg (by omega), if_neg (by omega), if_pos (by omega)] at k; exact k)
    | (rw [if_neg (by omega), if_neg (by omega), if_neg (by omega)] at k; exact k)

set_option maxHeartbeats 1000000 in
theorem t_darkNow {d : Nat} {I : aFI} {L : aFL} {Q : aPo} {sh : Nat} {su : Option Nat} {b g : Int} (hd : 1 ≤ d) (hb : I 202 1 = iI b) (hg : I 202 2 = iI g) (hbr : 0 ≤ b ∧ b < 100000) (hgr : 0 ≤ g ∧ g < 100000) (k : Q (some (.int (iI (dk b g)))) I L (aR sh su)) : aWp none d 169 0 [.ref 157] [] I L (aR sh su) Q := by
  have he : ∀ h : 0 < b, 0 ≤ 100 * g / b ∧ 100 * g / b ≤ 100 * g := fun h => ed_rg (by omega) h
  refine w_aload c_169_0 rfl ?_
  refine w_getR c_169_1 sp_157 (by decide) rfl pr_157_58 ?_
  refine z_push c_169_4 ?_
  refine z_iaload c_169_5 sp_202 (by omega) (by first | decide | omega) hb ?_
  refine z_if_ne c_169_6 (by unfold aRg; omega) (fun h1_ => ?_) (fun h1_ => ?_)
  · refine z_pushl c_169_13 ?_
    refine w_aload c_169_16 rfl ?_
    refine w_getR c_169_17 sp_157 (by decide) rfl pr_157_58 ?_
    refine z_push c_169_20 ?_
    refine z_iaload c_169_21 sp_202 (by omega) (by first | decide | omega) hg ?_
    refine z_i2l c_169_22 (by unfold aRg; omega) ?_
    refine z_lmul c_169_23 ?_
    refine w_aload c_169_24 rfl ?_
    refine w_getR c_169_25 sp_157 (by decide) rfl pr_157_58 ?_
    refine z_push c_169_28 ?_
    refine z_iaload c_169_29 sp_202 (by omega) (by first | decide | omega) hb ?_
    refine z_i2l c_169_30 (by unfold aRg; omega) ?_
    refine z_ldiv c_169_31 (by omega) (by omega) ?_
    have he := he (by omega)
    refine z_push c_169_32 ?_
    refine wc_168 c_169_35 (Nat.le_of_ble_eq_true rfl) (by omega) ?_
    refine t_cut (by omega) (by omega) ?_
    refine r_i ?_
    refine z_ret c_169_38 rfl ?_
    unfold dk at k
    first
    | (rw [if_pos (by omega)] at k; exact k)
    | (rw [if_neg (by omega)] at k; exact k)
  · refine z_push c_169_9 ?_
    refine w_goto c_169_10 ?_
    refine z_ret c_169_38 rfl ?_
    unfold dk at k
    first
    | (rw [if_pos (by omega)] at k; exact k)
    | (rw [if_neg (by omega)] at k; exact k)

set_option maxHeartbeats 1000000 in
theorem t_qFloor {d : Nat} {I : aFI} {L : aFL} {R : aFR} {Q : aPo} {a b : Int} (ha : -1000000000 ≤ a ∧ a ≤ 1000000000) (hb : -1000000000 ≤ b ∧ b ≤ 1000000000) (k : Q (some (.long (lI (a.fdiv b)))) I L R) : aWp none d 238 0 [.long (lI a), .null, .long (lI b), .null, .null, .null] [] I L R Q := by
  have ht : (a.tdiv b).natAbs ≤ a.natAbs := td_rg
  have hm : (a.tmod b).natAbs ≤ a.natAbs := by rw [Int.natAbs_tmod]; exact Nat.mod_le _ _
  refine w_lload c_238_0 rfl ?_
  refine z_pushl c_238_1 ?_
  refine z_lc_ne c_238_2 c_238_3 (by unfold aRl; omega) (by unfold aRl; omega) (fun h1_ => ?_) (fun h1_ => ?_)
  · refine w_lload c_238_8 rfl ?_
    refine w_lload c_238_9 rfl ?_
    refine zt_ldiv c_238_10 (by unfold aRl; omega) (by unfold aRl; omega) (by unfold aRl; omega) (by omega) ?_
    refine w_lstore c_238_11 (Nat.le_of_ble_eq_true rfl) rfl ?_
    refine w_lload c_238_13 rfl ?_
    refine w_lload c_238_14 rfl ?_
    refine zt_lrem c_238_15 (by unfold aRl; omega) (by unfold aRl; omega) (by unfold aRl; omega) (by omega) ?_
    refine z_pushl c_238_16 ?_
    refine z_lc_eq c_238_17 c_238_18 (by unfold aRl; omega) (by unfold aRl; omega) (fun h2_ => ?_) (fun h2_ => ?_)
    · refine w_lload c_238_53 rfl ?_
      refine z_retl c_238_55 ?_
      first
      | (rw [show b = 0 by omega, Int.fdiv_zero] at k; exact k)
      | (rw [fdiv_td (by omega), if_pos (by refine ⟨by omega, ?_⟩; intro z; simp only [eq_iff_iff] at z; omega)] at k; exact k)
      | (rw [fdiv_td (by omega), if_neg (by intro z; apply z.2; simp only [eq_iff_iff]; omega)] at k; exact k)
      | (rw [fdiv_td (by omega), if_neg (fun z => z.1 (by omega))] at k; exact k)
    · refine w_lload c_238_21 rfl ?_
      refine z_pushl c_238_22 ?_
      refine z_lc_ge c_238_23 c_238_24 (by unfold aRl; omega) (by unfold aRl; omega) (fun h3_ => ?_) (fun h3_ => ?_)
      · refine z_push c_238_31 ?_
        refine w_lload c_238_32 rfl ?_
        refine z_pushl c_238_33 ?_
        refine z_lc_ge c_238_34 c_238_35 (by unfold aRl; omega) (by unfold aRl; omega) (fun h4_ => ?_) (fun h4_ => ?_)
        · refine z_push c_238_42 ?_
          refine z_ic_eq c_238_43 (by unfold aRg; omega) (by unfold aRg; omega) (fun h5_ => ?_) (fun h5_ => ?_)
          · refine w_lload c_238_53 rfl ?_
            refine z_retl c_238_55 ?_
            first
            | (rw [show b = 0 by omega, Int.fdiv_zero] at k; exact k)
            | (rw [fdiv_td (by omega), if_pos (by refine ⟨by omega, ?_⟩; intro z; simp only [eq_iff_iff] at z; omega)] at k; exact k)
            | (rw [fdiv_td (by omega), if_neg (by intro z; apply z.2; simp only [eq_iff_iff]; omega)] at k; exact k)
            | (rw [fdiv_td (by omega), if_neg (fun z => z.1 (by omega))] at k; exact k)
          · refine w_lload c_238_46 rfl ?_
            refine z_pushl c_238_48 ?_
            refine z_lsub c_238_49 ?_
            refine w_goto c_238_50 ?_
            refine z_retl c_238_55 ?_
            first
            | (rw [show b = 0 by omega, Int.fdiv_zero] at k; exact k)
            | (rw [fdiv_td (by omega), if_pos (by refine ⟨by omega, ?_⟩; intro z; simp only [eq_iff_iff] at z; omega)] at k; exact k)
            | (rw [fdiv_td (by omega), if_neg (by intro z; apply z.2; simp only [eq_iff_iff]; omega)] at k; exact k)
            | (rw [fdiv_td (by omega), if_neg (fun z => z.1 (by omega))] at k; exact k)
        · refine z_push c_238_38 ?_
          refine w_goto c_238_39 ?_
          refine z_ic_eq c_238_43 (by unfold aRg; omega) (by unfold aRg; omega) (fun h6_ => ?_) (fun h6_ => ?_)
          · refine w_lload c_238_53 rfl ?_
            refine z_retl c_238_55 ?_
            first
            | (rw [show b = 0 by omega, Int.fdiv_zero] at k; exact k)
            | (rw [fdiv_td (by omega), if_pos (by refine ⟨by omega, ?_⟩; intro z; simp only [eq_iff_iff] at z; omega)] at k; exact k)
            | (rw [fdiv_td (by omega), if_neg (by intro z; apply z.2; simp only [eq_iff_iff]; omega)] at k; exact k)
            | (rw [fdiv_td (by omega), if_neg (fun z => z.1 (by omega))] at k; exact k)
          · refine w_lload c_238_46 rfl ?_
            refine z_pushl c_238_48 ?_
            refine z_lsub c_238_49 ?_
            refine w_goto c_238_50 ?_
            refine z_retl c_238_55 ?_
            first
            | (rw [show b = 0 by omega, Int.fdiv_zero] at k; exact k)
            | (rw [fdiv_td (by omega), if_pos (by refine ⟨by omega, ?_⟩; intro z; simp only [eq_iff_iff] at z; omega)] at k; exact k)
            | (rw [fdiv_td (by omega), if_neg (by intro z; apply z.2; simp only [eq_iff_iff]; omega)] at k; exact k)
            | (rw [fdiv_td (by omega), if_neg (fun z => z.1 (by omega))] at k; exact k)
      · refine z_push c_238_27 ?_
        refine w_goto c_238_28 ?_
        refine w_lload c_238_32 rfl ?_
        refine z_pushl c_238_33 ?_
        refine z_lc_ge c_238_34 c_238_35 (by unfold aRl; omega) (by unfold aRl; omega) (fun h7_ => ?_) (fun h7_ => ?_)
        · refine z_push c_238_42 ?_
          refine z_ic_eq c_238_43 (by unfold aRg; omega) (by unfold aRg; omega) (fun h8_ => ?_) (fun h8_ => ?_)
          · refine w_lload c_238_53 rfl ?_
            refine z_retl c_238_55 ?_
            first
            | (rw [show b = 0 by omega, Int.fdiv_zero] at k; exact k)
            | (rw [fdiv_td (by omega), if_pos (by refine ⟨by omega, ?_⟩; intro z; simp only [eq_iff_iff] at z; omega)] at k; exact k)
            | (rw [fdiv_td (by omega), if_neg (by intro z; apply z.2; simp only [eq_iff_iff]; omega)] at k; exact k)
            | (rw [fdiv_td (by omega), if_neg (fun z => z.1 (by omega))] at k; exact k)
          · refine w_lload c_238_46 rfl ?_
            refine z_pushl c_238_48 ?_
            refine z_lsub c_238_49 ?_
            refine w_goto c_238_50 ?_
            refine z_retl c_238_55 ?_
            first
            | (rw [show b = 0 by omega, Int.fdiv_zero] at k; exact k)
            | (rw [fdiv_td (by omega), if_pos (by refine ⟨by omega, ?_⟩; intro z; simp only [eq_iff_iff] at z; omega)] at k; exact k)
            | (rw [fdiv_td (by omega), if_neg (by intro z; apply z.2; simp only [eq_iff_iff]; omega)] at k; exact k)
            | (rw [fdiv_td (by omega), if_neg (fun z => z.1 (by omega))] at k; exact k)
        · refine z_push c_238_38 ?_
          refine w_goto c_238_39 ?_
          refine z_ic_eq c_238_43 (by unfold aRg; omega) (by unfold aRg; omega) (fun h9_ => ?_) (fun h9_ => ?_)
          · refine w_lload c_238_53 rfl ?_
            refine z_retl c_238_55 ?_
            first
            | (rw [show b = 0 by omega, Int.fdiv_zero] at k; exact k)
            | (rw [fdiv_td (by omega), if_pos (by refine ⟨by omega, ?_⟩; intro z; simp only [eq_iff_iff] at z; omega)] at k; exact k)
            | (rw [fdiv_td (by omega), if_neg (by intro z; apply z.2; simp only [eq_iff_iff]; omega)] at k; exact k)
            | (rw [fdiv_td (by omega), if_neg (fun z => z.1 (by omega))] at k; exact k)
          · refine w_lload c_238_46 rfl ?_
            refine z_pushl c_238_48 ?_
            refine z_lsub c_238_49 ?_
            refine w_goto c_238_50 ?_
            refine z_retl c_238_55 ?_
            first
            | (rw [show b = 0 by omega, Int.fdiv_zero] at k; exact k)
            | (rw [fdiv_td (by omega), if_pos (by refine ⟨by omega, ?_⟩; intro z; simp only [eq_iff_iff] at z; omega)] at k; exact k)
            | (rw [fdiv_td (by omega), if_neg (by intro z; apply z.2; simp only [eq_iff_iff]; omega)] at k; exact k)
            | (rw [fdiv_td (by omega), if_neg (fun z => z.1 (by omega))] at k; exact k)
  · refine z_pushl c_238_6 ?_
    refine z_retl c_238_7 ?_
    first
    | (rw [show b = 0 by omega, Int.fdiv_zero] at k; exact k)
    | (rw [fdiv_td (by omega), if_pos (by refine ⟨by omega, ?_⟩; intro z; simp only [eq_iff_iff] at z; omega)] at k; exact k)
    | (rw [fdiv_td (by omega), if_neg (by intro z; apply z.2; simp only [eq_iff_iff]; omega)] at k; exact k)
    | (rw [fdiv_td (by omega), if_neg (fun z => z.1 (by omega))] at k; exact k)

