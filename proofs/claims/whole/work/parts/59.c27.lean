/-! the class: a deed is drawn; those told are written (p59.py) -/
/-- those of a set that can be, by numbers -/
def wrX (D : Nat → Int → Int) (cd : Nat → Option (List Int)) (ds : Nat) : Nat → Lk → Lk
  | 0, X => X
  | n + 1, X => if ds.testBit n = true ∧ cbZ D cd (wrX D cd ds n X) n = true then drawX (wrX D cd ds n X) n (drwZ D cd (wrX D cd ds n X) n) else wrX D cd ds n X
theorem cbZ_le {D : Nat → Int → Int} {cd : Nat → Option (List Int)} {X : Lk} {de : Int} (h : cbZ D cd X de = true) : drwZ D cd X de ≤ X.2.1 ∧ X.1 ≤ D 9 de ∧ tb X.2.2.2.1 de = false := by
  unfold cbZ at h
  simp only [Bool.and_eq_true, decide_eq_true_eq, Bool.not_eq_true'] at h
  exact ⟨h.2.2.1, h.2.1, h.1⟩
theorem drawX_ok {X : Lk} {de dr : Int} (hX : lkOK X) (hd : 0 ≤ de ∧ de < 8) (hr : 0 ≤ dr ∧ dr ≤ X.2.1) : lkOK (drawX X de dr) := by
  obtain ⟨s, b, g, w, ink, age⟩ := X
  obtain ⟨h1, h2, h3, h4, h5⟩ := hX
  simp only at h1 h2 h3 h4 h5 hr
  refine ⟨h1, by show 0 ≤ b - dr ∧ b - dr ≤ 30000; omega, ?_, ?_, fun j z1 z2 => ?_⟩
  · show 0 ≤ (if 0 < b then g - g * dr / b else g) ∧ (if 0 < b then g - g * dr / b else g) ≤ 30000
    split
    · rename_i hb
      have h6 := mul_rg (a := g) (b := dr) (A := g) (B := b) (by omega) hr
      have h7 : 0 ≤ g * dr / b := Int.ediv_nonneg h6.1 (by omega)
      have h8 : g * dr / b ≤ g := by
        have := Int.ediv_le_ediv hb h6.2
        rwa [Int.mul_ediv_cancel g (by omega)] at this
      omega
    · omega
  · show w ||| 2 ^ de.toNat < 256
    exact or_lt (n := 8) h4 (Nat.pow_lt_pow_right (by omega) (by omega))
  · have hk := dk_rg (b := b) (g := g)
    have h6 := h5 j z1 z2
    show (0 ≤ cU ink de (dk b g) j ∧ cU ink de (dk b g) j ≤ 9999) ∧ (0 ≤ cU age de 0 j ∧ cU age de 0 j ≤ 99)
    unfold cU
    split <;> omega
set_option maxHeartbeats 1000000 in
theorem tc_draw {d : Nat} {I0 : aFI} {L : aFL} {Q : aPo} {sh : Nat} {su : Option Nat} {kc de dr : Int} {X : Lk} {q : Nat} (hl : aLk0 q) (hL : lkX I0 q kc X) (hX : lkOK X) (hde : 0 ≤ de ∧ de < 8) (hdr : 0 ≤ dr ∧ dr ≤ 9999) (hd : 1 ≤ d) (k : ∀ I : aFI, lkX I q kc (drawX X de dr) → frP (PL q) I0 I → Q none I L (aR sh su)) : aWp none d 9 0 [.ref q, .int (iI de), .int (iI dr)] [] I0 L (aR sh su) Q := by
  obtain ⟨s, b, g, w, ink, age⟩ := X
  have hq := aLk_all hl
  have hx1 := hX.1
  have hx2 := hX.2.1
  have hx3 := hX.2.2.1
  have hx4 := hX.2.2.2.1
  simp only at hx1 hx2 hx3 hx4
  have hm := mul_rg (a := g) (b := dr) (A := 30000) (B := 9999) (by omega) (by omega)
  have hm2 : 0 < b → 0 ≤ g * dr / b ∧ g * dr / b ≤ g * dr := fun h => ed_rg (by omega) h
  have hL : isLk I0 q s b g w kc ink age := hL
  obtain ⟨I, hI⟩ : ∃ I : aFI, I = I0 := ⟨I0, rfl⟩
  rw [← hI] at hL ⊢
  have hF : frP (PL q) I0 I := hI ▸ frP.rf
  clear hI
  refine w_aload c_9_0 rfl ?_
  refine w_getR c_9_1 hq.1 (by decide) rfl (hq.2.2.2 _ _).1 ?_
  refine w_iload c_9_4 rfl ?_
  refine w_aload c_9_5 rfl ?_
  refine wc_7 c_9_6 hq.1 (Nat.le_of_ble_eq_true rfl) (by omega) ?_
  refine tc_darkness hl hL.2.1 hL.2.2.1 (by omega) (by omega) ?_
  refine r_i ?_
  refine z_iastore c_9_9 hq.2.1 (by omega) (by decide) ?_
  refine up_k hF (by show _ = 43 ∨ _; omega) (fun I hI hF => ?_)
  replace hL := hI ▸ hL.pi hde.1
  refine w_aload c_9_10 rfl ?_
  refine w_getR c_9_11 hq.1 (by decide) rfl (hq.2.2.2 _ _).2 ?_
  refine w_iload c_9_14 rfl ?_
  refine z_push c_9_15 ?_
  refine z_iastore c_9_16 hq.2.2.1 (by omega) (by decide) ?_
  refine up_k hF (by show _ = 43 ∨ _; omega) (fun I hI hF => ?_)
  replace hL := hI ▸ hL.pa hde.1
  refine w_aload c_9_17 rfl ?_
  refine w_dup c_9_18 rfl ?_
  refine z_getZ c_9_19 hq.1 (by decide) rfl hL.2.2.2.1 ?_
  refine z_push c_9_22 ?_
  refine w_iload c_9_23 rfl ?_
  refine w_ishl c_9_24 (shl1 (by omega)) ?_
  refine w_ior c_9_25 (iI_or _ _) ?_
  refine z_putZ c_9_26 hq.1 (by decide) rfl ?_
  refine up_k hF (by show _ = 43 ∨ _; omega) (fun I hI hF => ?_)
  replace hL := hI ▸ hL.pw 
  refine w_aload c_9_29 rfl ?_
  refine z_getZ c_9_30 hq.1 (by decide) rfl hL.2.1 ?_
  refine z_if_le c_9_33 (by first | exact aRg_of _ | (unfold aRg; omega)) (fun h1_ => ?_) (fun h1_ => ?_)
  · refine w_aload c_9_56 rfl ?_
    refine w_dup c_9_57 rfl ?_
    refine z_getZ c_9_58 hq.1 (by decide) rfl hL.2.1 ?_
    refine w_iload c_9_61 rfl ?_
    refine z_isub c_9_62 ?_
    refine z_putZ c_9_63 hq.1 (by decide) rfl ?_
    refine up_k hF (by show _ = 43 ∨ _; omega) (fun I hI hF => ?_)
    replace hL := hI ▸ hL.pb 
    refine z_retv c_9_66 ?_
    first
    | exact k I (hL.cast rfl rfl (by show _ = (if 0 < b then _ else _); rw [if_pos (by omega)]) rfl rfl rfl rfl) hF
    | exact k I (hL.cast rfl rfl (by show _ = (if 0 < b then _ else _); rw [if_neg (by omega)]) rfl rfl rfl rfl) hF
  · refine w_aload c_9_36 rfl ?_
    refine w_dup c_9_37 rfl ?_
    refine z_getZ c_9_38 hq.1 (by decide) rfl hL.2.2.1 ?_
    refine w_aload c_9_41 rfl ?_
    refine z_getZ c_9_42 hq.1 (by decide) rfl hL.2.2.1 ?_
    refine w_iload c_9_45 rfl ?_
    refine z_imul c_9_46 ?_
    refine w_aload c_9_47 rfl ?_
    refine z_getZ c_9_48 hq.1 (by decide) rfl hL.2.1 ?_
    have hm2 := hm2 (by omega)
    refine z_idiv c_9_51 (by omega) (by omega) ?_
    refine z_isub c_9_52 ?_
    refine z_putZ c_9_53 hq.1 (by decide) rfl ?_
    refine up_k hF (by show _ = 43 ∨ _; omega) (fun I hI hF => ?_)
    replace hL := hI ▸ hL.pg 
    refine w_aload c_9_56 rfl ?_
    refine w_dup c_9_57 rfl ?_
    refine z_getZ c_9_58 hq.1 (by decide) rfl hL.2.1 ?_
    refine w_iload c_9_61 rfl ?_
    refine z_isub c_9_62 ?_
    refine z_putZ c_9_63 hq.1 (by decide) rfl ?_
    refine up_k hF (by show _ = 43 ∨ _; omega) (fun I hI hF => ?_)
    replace hL := hI ▸ hL.pb 
    refine z_retv c_9_66 ?_
    first
    | exact k I (hL.cast rfl rfl (by show _ = (if 0 < b then _ else _); rw [if_pos (by omega)]) rfl rfl rfl rfl) hF
    | exact k I (hL.cast rfl rfl (by show _ = (if 0 < b then _ else _); rw [if_neg (by omega)]) rfl rfl rfl rfl) hF

theorem wrX_ok {D : Nat → Int → Int} {cd : Nat → Option (List Int)} {ds : Nat} {X : Lk} (hS : wfS D cd) (hX : lkOK X) : ∀ n : Nat, (n : Int) ≤ D 1 2 → lkOK (wrX D cd ds n X)
  | 0, _ => hX
  | n + 1, h => by
    have ih := wrX_ok (ds := ds) hS hX n (by omega)
    have hn := hS.n
    unfold wrX
    split
    · rename_i hc
      have := cbZ_le hc.2
      have h2 := drwZ_rg (X := wrX D cd ds n X) (de := n) hS (by omega)
      exact drawX_ok ih (by omega) (by omega)
    · exact ih
set_option maxHeartbeats 1000000 in
theorem tc_writeThose_1 {d : Nat} {I0 : aFI} {L : aFL} {Q : aPo} {sh : Nat} {su : Option Nat} {D : Nat → Int → Int} {cd : Nat → Option (List Int)} {kc : Int} {X : Lk} {q ds : Nat} (hsh : sh = 8 ∨ sh = 22) (hl : aLk0 q) (hS : wfS D cd) (hW0 : cW I0 sh D cd) (hX : lkOK X) (hds : ds < 256) (hdr : -1000000 ≤ (I0 42 1).toInt ∧ (I0 42 1).toInt ≤ 1000000) (hd : 7 ≤ d) : ∀ (n : Nat) (i : Int) (I : aFI), (D 1 2 - i).toNat < n → (0 ≤ i) → (i ≤ D 1 2) → (lkX I q kc (wrX D cd ds i.toNat X)) → (frP (PL q) I0 I) → (∀ I : aFI, lkX I q kc (wrX D cd ds (D 1 2).toNat X) → frP (PL q) I0 I → Q none I L (aR sh su)) → aWp none d 51 2 [.ref 42, .ref q, .int (iI (ds : Int)), .int (iI i)] [] I L (aR sh su) Q := by
  intro n
  induction n with
  | zero => intro i I h; omega
  | succ n ih =>
    intro i I hn h0 h1 hL hF k
    have hq := aLk_all hl
    have hdd := hS.n
    have hW := hW0.fL hsh hl hF
    have hit : ((i.toNat : Nat) : Int) = i := Int.toNat_of_nonneg h0
    have hst : (i + 1).toNat = i.toNat + 1 := by omega
    have hY : lkOK (wrX D cd ds i.toNat X) := wrX_ok hS hX _ (by omega)
    have hb1 := tb_one (w := ds) (de := i)
    have hdr2 : -1000000 ≤ (I 42 1).toInt ∧ (I 42 1).toInt ≤ 1000000 := by rw [hF 42 1 (by show ¬ (42 = 43 ∨ _); have := lk42b hl; omega)]; exact hdr
    refine w_iload c_51_2 rfl ?_
    refine w_aload c_51_3 rfl ?_
    refine w_getR c_51_4 sp_42 (by decide) rfl pr_42_0 ?_
    refine w_getR c_51_7 (sps_0 hsh) (by decide) rfl (prs_4 hsh) ?_
    refine z_push c_51_10 ?_
    refine z_iaload c_51_11 (sps_1 hsh) (by omega) (by first | decide | omega) (hW.1.a 1 (by omega) (by omega)) ?_
    refine z_ic_ge c_51_12 (by first | exact aRg_of _ | (unfold aRg; omega)) (by first | exact aRg_of _ | (unfold aRg; omega)) (fun h1_ => ?_) (fun h1_ => ?_)
    · refine z_retv c_51_49 ?_
      have e9 : i = D 1 2 := by omega
      subst e9
      exact k I hL hF
    · refine w_iload c_51_15 rfl ?_
      refine w_iload c_51_16 rfl ?_
      refine w_ishr c_51_17 (shr1 hds (by omega)) ?_
      refine z_push c_51_18 ?_
      refine w_iand c_51_19 tb_and ?_
      refine z_if_eq c_51_20 (by first | exact aRg_of _ | (unfold aRg; omega)) (fun h2_ => ?_) (fun h2_ => ?_)
      · refine z_iinc c_51_43 rfl rfl ?_
        refine w_goto c_51_46 ?_
        have e9 : wrX D cd ds (i + 1).toNat X = (wrX D cd ds i.toNat X) := by
          rw [hst]; simp only [wrX, hit]; rw [if_neg (by rintro ⟨z1, z2⟩; first | exact Bool.noConfusion (z2.symm.trans (show cbZ D cd (wrX D cd ds i.toNat X) i = false by assumption)) | (rcases hb1 with z | z; exact Bool.noConfusion ((show tb ds i = true from z1).symm.trans z.2); omega))]
        exact ih (i + 1) I (by omega) (by omega) (by omega) (by rw [e9]; exact hL) hF k
      · refine w_aload c_51_23 rfl ?_
        refine w_aload c_51_24 rfl ?_
        refine w_iload c_51_25 rfl ?_
        refine wc_49 c_51_26 sp_42 (Nat.le_of_ble_eq_true rfl) (by omega) ?_
        refine tc_canBe (X := (wrX D cd ds i.toNat X)) hsh hl hS hW hL hY ⟨h0, by omega⟩ hdr2 (by omega) (fun I hf => ?_)
        replace hF := hF.tr (frP.l hf)
        have hL := hL.f43 hl hf
        have hW := hW.f43 hsh hf
        have hdr2 : -1000000 ≤ (I 42 1).toInt ∧ (I 42 1).toInt ≤ 1000000 := by rw [hf 42 1 (by decide)]; exact hdr2
        refine r_i ?_
        refine b_if_eq c_51_29 (fun h3_ => ?_) (fun h3_ => ?_)
        · refine z_iinc c_51_43 rfl rfl ?_
          refine w_goto c_51_46 ?_
          have e9 : wrX D cd ds (i + 1).toNat X = (wrX D cd ds i.toNat X) := by
            rw [hst]; simp only [wrX, hit]; rw [if_neg (by rintro ⟨z1, z2⟩; first | exact Bool.noConfusion (z2.symm.trans (show cbZ D cd (wrX D cd ds i.toNat X) i = false by assumption)) | (rcases hb1 with z | z; exact Bool.noConfusion ((show tb ds i = true from z1).symm.trans z.2); omega))]
          exact ih (i + 1) I (by omega) (by omega) (by omega) (by rw [e9]; exact hL) hF k
        · refine w_aload c_51_32 rfl ?_
          refine w_iload c_51_33 rfl ?_
          refine w_aload c_51_34 rfl ?_
          refine w_aload c_51_35 rfl ?_
          refine w_iload c_51_36 rfl ?_
          refine wc_48 c_51_37 sp_42 (Nat.le_of_ble_eq_true rfl) (by omega) ?_
          have hle := cbZ_le (by assumption)
          have hdz := drwZ_rg (cd := cd) (X := (wrX D cd ds i.toNat X)) hS ⟨h0, by omega⟩
          refine tc_drawnBy (X := (wrX D cd ds i.toNat X)) hsh hl hS hW hL hY ⟨h0, by omega⟩ hdr2 (by omega) (fun I hf => ?_)
          replace hF := hF.tr (frP.l hf)
          have hL := hL.f43 hl hf
          have hW := hW.f43 hsh hf
          have hdr2 : -1000000 ≤ (I 42 1).toInt ∧ (I 42 1).toInt ≤ 1000000 := by rw [hf 42 1 (by decide)]; exact hdr2
          refine r_i ?_
          refine wc_9 c_51_40 hq.1 (Nat.le_of_ble_eq_true rfl) (by omega) ?_
          refine tc_draw hl hL hY ⟨h0, by omega⟩ (by omega) (by omega) (fun I hL hf => ?_)
          replace hF := hF.tr hf
          refine r_v ?_
          refine z_iinc c_51_43 rfl rfl ?_
          refine w_goto c_51_46 ?_
          have e9 : wrX D cd ds (i + 1).toNat X = drawX (wrX D cd ds i.toNat X) i (drwZ D cd (wrX D cd ds i.toNat X) i) := by
            rw [hst]; simp only [wrX, hit]; rw [if_pos ⟨by rcases hb1 with z | z; (exfalso; omega); exact z.2, by assumption⟩]
          exact ih (i + 1) I (by omega) (by omega) (by omega) (by rw [e9]; exact hL) hF k

set_option maxHeartbeats 1000000 in
theorem tc_writeThose {d : Nat} {I0 : aFI} {L : aFL} {Q : aPo} {sh : Nat} {su : Option Nat} {D : Nat → Int → Int} {cd : Nat → Option (List Int)} {kc : Int} {X : Lk} {q ds : Nat} (hsh : sh = 8 ∨ sh = 22) (hl : aLk0 q) (hS : wfS D cd) (hW : cW I0 sh D cd) (hX : lkOK X) (hds : ds < 256) (hdr : -1000000 ≤ (I0 42 1).toInt ∧ (I0 42 1).toInt ≤ 1000000) (hd : 7 ≤ d) (hL : lkX I0 q kc X) (k : ∀ I : aFI, lkX I q kc (wrX D cd ds (D 1 2).toNat X) → frP (PL q) I0 I → Q none I L (aR sh su)) : aWp none d 51 0 [.ref 42, .ref q, .int (iI (ds : Int)), .null] [] I0 L (aR sh su) Q := by
  have hdd := hS.n
  refine z_push c_51_0 ?_
  refine w_istore c_51_1 (Nat.le_of_ble_eq_true rfl) rfl ?_
  exact tc_writeThose_1 hsh hl hS hW hX hds hdr hd _ 0 I0 (Nat.lt_succ_self _) (by omega) (by omega) hL frP.rf k

