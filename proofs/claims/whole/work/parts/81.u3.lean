/-! the class: write, pour, seasons, years, undo, seed (p81.py) -/
abbrev PRc (v : Nat) : Nat → Nat → Prop := fun q k => q = 43 ∨ (q = 156 ∧ k = v)
/-- the rows of what was written, in the class -/
def kpC (I : aFI) (K : Int → Int → Int) (kc : Int) : Prop := ∀ i j : Int, 0 ≤ i → i < kc → 0 ≤ j → j < 4 → I (115 + i.toNat) j.toNat = iI (K i j)
/-- the class's cells that an act changes; p: the slot -/
abbrev PAc (p : Nat) : Nat → Prop := fun q => q = 43 ∨ q = 44 ∨ (36 ≤ q ∧ q ≤ 38) ∨ (p ≤ q ∧ q ≤ p + 2)
abbrev PKc (p r : Nat) : Nat → Prop := fun q => PAc p q ∨ q = r
theorem frP.ac {I I2 : aFI} {p : Nat} (h : frP (PA p) I I2) : frP (PAc p) I I2 := h.mono (fun q hq => by have hq : q = 44 ∨ (p ≤ q ∧ q ≤ p + 2) := hq; show q = 43 ∨ q = 44 ∨ (36 ≤ q ∧ q ≤ 38) ∨ (p ≤ q ∧ q ≤ p + 2); omega)
theorem frP.lc {I I2 : aFI} {p : Nat} (h : frP (PL 36) I I2) : frP (PAc p) I I2 := h.mono (fun q hq => by have hq : q = 43 ∨ (36 ≤ q ∧ q ≤ 38) := hq; show q = 43 ∨ q = 44 ∨ (36 ≤ q ∧ q ≤ 38) ∨ (p ≤ q ∧ q ≤ p + 2); omega)
theorem frP.sc {I I2 : aFI} {p : Nat} (h : frP P43 I I2) : frP (PAc p) I I2 := h.mono (fun q hq => Or.inl hq)
theorem kp_row {sh : Nat} {su : Option Nat} : ∀ i : Nat, i < 40 → S0[115 + i]? = some (some .int, 4) ∧ aR sh su 114 i = some (115 + i)
  | 0, _ => ⟨rfl, rfl⟩
  | 1, _ => ⟨rfl, rfl⟩
  | 2, _ => ⟨rfl, rfl⟩
  | 3, _ => ⟨rfl, rfl⟩
  | 4, _ => ⟨rfl, rfl⟩
  | 5, _ => ⟨rfl, rfl⟩
  | 6, _ => ⟨rfl, rfl⟩
  | 7, _ => ⟨rfl, rfl⟩
  | 8, _ => ⟨rfl, rfl⟩
  | 9, _ => ⟨rfl, rfl⟩
  | 10, _ => ⟨rfl, rfl⟩
  | 11, _ => ⟨rfl, rfl⟩
  | 12, _ => ⟨rfl, rfl⟩
  | 13, _ => ⟨rfl, rfl⟩
  | 14, _ => ⟨rfl, rfl⟩
  | 15, _ => ⟨rfl, rfl⟩
  | 16, _ => ⟨rfl, rfl⟩
  | 17, _ => ⟨rfl, rfl⟩
  | 18, _ => ⟨rfl, rfl⟩
  | 19, _ => ⟨rfl, rfl⟩
  | 20, _ => ⟨rfl, rfl⟩
  | 21, _ => ⟨rfl, rfl⟩
  | 22, _ => ⟨rfl, rfl⟩
  | 23, _ => ⟨rfl, rfl⟩
  | 24, _ => ⟨rfl, rfl⟩
  | 25, _ => ⟨rfl, rfl⟩
  | 26, _ => ⟨rfl, rfl⟩
  | 27, _ => ⟨rfl, rfl⟩
  | 28, _ => ⟨rfl, rfl⟩
  | 29, _ => ⟨rfl, rfl⟩
  | 30, _ => ⟨rfl, rfl⟩
  | 31, _ => ⟨rfl, rfl⟩
  | 32, _ => ⟨rfl, rfl⟩
  | 33, _ => ⟨rfl, rfl⟩
  | 34, _ => ⟨rfl, rfl⟩
  | 35, _ => ⟨rfl, rfl⟩
  | 36, _ => ⟨rfl, rfl⟩
  | 37, _ => ⟨rfl, rfl⟩
  | 38, _ => ⟨rfl, rfl⟩
  | 39, _ => ⟨rfl, rfl⟩
  | n + 40, h => absurd h (by omega)
set_option maxHeartbeats 1000000 in
theorem tc_keep {d : Nat} {I : aFI} {L : aFL} {Q : aPo} {sh : Nat} {su : Option Nat} {K : Int → Int → Int} {s b g w kc de dr : Int} {ink age : Int → Int} (hL : isLk I 36 s b g w kc ink age) (h0 : 0 ≤ kc ∧ kc < 40) (hde : 0 ≤ de ∧ de < 8) (hK : kpC I K kc) (k : ∀ I2 : aFI, isLk I2 36 s b g w (kc + 1) ink age → kpC I2 (kA K kc s de (ink de) dr) (kc + 1) → frP (fun q => q = 36 ∨ q = 115 + kc.toNat) I I2 → Q none I2 L (aR sh su)) : aWp none d 118 0 [.ref 0, .int (iI de), .int (iI dr), .null] [] I L (aR sh su) Q := by
  obtain ⟨kr, hkr⟩ : ∃ r : Nat, r = 115 + kc.toNat := ⟨_, rfl⟩
  have hrow := kp_row (sh := sh) (su := su) kc.toNat (by omega)
  have hks : S0[kr]? = some (some .int, 4) := by rw [hkr]; exact hrow.1
  have hF : frP (fun q => q = 36 ∨ q = 115 + kc.toNat) I I := frP.rf
  refine w_aload c_118_0 rfl ?_
  refine w_getR c_118_1 sp_0 (by decide) rfl pr_0_5 ?_
  refine z_getZ c_118_4 sp_36 (by decide) rfl hL.2.2.2.2.1 ?_
  refine z_push c_118_7 ?_
  refine z_ic_ge c_118_9 (by first | exact aRg_of _ | (unfold aRg; omega)) (by first | exact aRg_of _ | (unfold aRg; omega)) (fun h1_ => ?_) (fun h1_ => ?_)
  · exfalso; omega
  refine w_aload c_118_12 rfl ?_
  refine w_getR c_118_13 sp_0 (by decide) rfl pr_0_11 ?_
  refine w_aload c_118_16 rfl ?_
  refine w_getR c_118_17 sp_0 (by decide) rfl pr_0_5 ?_
  refine z_getZ c_118_20 sp_36 (by decide) rfl hL.2.2.2.2.1 ?_
  refine z_aaload_i c_118_23 sp_114 (by omega) (by decide) (hrow.2.trans (congrArg some hkr.symm)) ?_
  refine w_astore c_118_24 (Nat.le_of_ble_eq_true rfl) rfl ?_
  refine w_aload c_118_25 rfl ?_
  refine z_push c_118_26 ?_
  refine w_aload c_118_27 rfl ?_
  refine w_getR c_118_28 sp_0 (by decide) rfl pr_0_5 ?_
  refine z_getZ c_118_31 sp_36 (by decide) rfl hL.1 ?_
  refine z_iastore c_118_34 hks (by omega) (by decide) ?_
  refine up_k hF (Or.inr hkr) (fun I hi hF => ?_)
  have hL := hL.fr (I2 := I) (fun p k z1 z2 => by rw [hi]; exact up_ne (by omega))
  have hK : kpC I K kc := fun i j h1 h2 h3 h4 => by rw [hi, up_ne (by omega)]; exact hK i j h1 h2 h3 h4
  have r0 := (congrFun (congrFun hi kr) 0).trans up_eq
  clear hi
  refine w_aload c_118_35 rfl ?_
  refine z_push c_118_36 ?_
  refine w_iload c_118_37 rfl ?_
  refine z_iastore c_118_38 hks (by omega) (by decide) ?_
  refine up_k hF (Or.inr hkr) (fun I hi hF => ?_)
  have hL := hL.fr (I2 := I) (fun p k z1 z2 => by rw [hi]; exact up_ne (by omega))
  have hK : kpC I K kc := fun i j h1 h2 h3 h4 => by rw [hi, up_ne (by omega)]; exact hK i j h1 h2 h3 h4
  have r0 := (congrFun (congrFun hi kr) 0).trans ((up_ne (by omega)).trans r0)
  have r1 := (congrFun (congrFun hi kr) 1).trans up_eq
  clear hi
  refine w_aload c_118_39 rfl ?_
  refine z_push c_118_40 ?_
  refine w_aload c_118_41 rfl ?_
  refine w_getR c_118_42 sp_0 (by decide) rfl pr_0_5 ?_
  refine w_getR c_118_45 sp_36 (by decide) rfl pr_36_5 ?_
  refine w_iload c_118_48 rfl ?_
  refine z_iaload c_118_49 sp_37 (by omega) (by first | decide | omega) (hL.2.2.2.2.2 _ (by omega) (by omega)).1 ?_
  refine z_iastore c_118_50 hks (by omega) (by decide) ?_
  refine up_k hF (Or.inr hkr) (fun I hi hF => ?_)
  have hL := hL.fr (I2 := I) (fun p k z1 z2 => by rw [hi]; exact up_ne (by omega))
  have hK : kpC I K kc := fun i j h1 h2 h3 h4 => by rw [hi, up_ne (by omega)]; exact hK i j h1 h2 h3 h4
  have r0 := (congrFun (congrFun hi kr) 0).trans ((up_ne (by omega)).trans r0)
  have r1 := (congrFun (congrFun hi kr) 1).trans ((up_ne (by omega)).trans r1)
  have r2 := (congrFun (congrFun hi kr) 2).trans up_eq
  clear hi
  refine w_aload c_118_51 rfl ?_
  refine z_push c_118_52 ?_
  refine w_iload c_118_53 rfl ?_
  refine z_iastore c_118_54 hks (by omega) (by decide) ?_
  refine up_k hF (Or.inr hkr) (fun I hi hF => ?_)
  have hL := hL.fr (I2 := I) (fun p k z1 z2 => by rw [hi]; exact up_ne (by omega))
  have hK : kpC I K kc := fun i j h1 h2 h3 h4 => by rw [hi, up_ne (by omega)]; exact hK i j h1 h2 h3 h4
  have r0 := (congrFun (congrFun hi kr) 0).trans ((up_ne (by omega)).trans r0)
  have r1 := (congrFun (congrFun hi kr) 1).trans ((up_ne (by omega)).trans r1)
  have r2 := (congrFun (congrFun hi kr) 2).trans ((up_ne (by omega)).trans r2)
  have r3 := (congrFun (congrFun hi kr) 3).trans up_eq
  clear hi
  refine w_aload c_118_55 rfl ?_
  refine w_getR c_118_56 sp_0 (by decide) rfl pr_0_5 ?_
  refine w_dup c_118_59 rfl ?_
  refine z_getZ c_118_60 sp_36 (by decide) rfl hL.2.2.2.2.1 ?_
  refine z_push c_118_63 ?_
  refine z_iadd c_118_64 ?_
  refine z_putZ c_118_65 sp_36 (by decide) rfl ?_
  refine up_k hF (Or.inl rfl) (fun I hi hF => ?_)
  have hL := hi ▸ hL.pk (v := kc + 1)
  have hK : kpC I K kc := fun i j h1 h2 h3 h4 => by rw [hi, up_ne (by omega)]; exact hK i j h1 h2 h3 h4
  have r0 := (congrFun (congrFun hi kr) 0).trans ((up_ne (by omega)).trans r0)
  have r1 := (congrFun (congrFun hi kr) 1).trans ((up_ne (by omega)).trans r1)
  have r2 := (congrFun (congrFun hi kr) 2).trans ((up_ne (by omega)).trans r2)
  have r3 := (congrFun (congrFun hi kr) 3).trans ((up_ne (by omega)).trans r3)
  clear hi
  refine z_retv c_118_68 ?_
  refine k _ hL (fun i j h1 h2 h3 h4 => ?_) hF
  unfold kA
  by_cases hik : i = kc
  · subst hik
    rw [if_pos rfl, ← hkr]
    rcases (show j = 0 ∨ j = 1 ∨ j = 2 ∨ j = 3 by omega) with rfl | rfl | rfl | rfl
    · exact r0
    · exact r1
    · exact r2
    · exact r3
  · rw [if_neg hik]; exact hK i j h1 (by omega) h3 h4

theorem isLk.fac {I I2 : aFI} {kc : Int} {X : Lk} {p q : Nat} (h : lkX I q kc X) (hp : aLk0 p) (hq : aLk0 q) (hn : ¬ p = q) (hF : frP (PA p) I I2) : lkX I2 q kc X := h.fr (fun c k h1 h2 => hF c k (by
  show ¬ (c = 44 ∨ (p ≤ c ∧ c ≤ p + 2))
  have h3 := lk_apart hp hq hn
  rcases hq with rfl | rfl | rfl | ⟨m, hm, rfl⟩ <;> omega))
theorem aLk_sl {nx : Int} (h : 0 ≤ nx ∧ nx < 20) : aLk0 (46 + 3 * nx.toNat) := lk_p h
set_option maxHeartbeats 1000000 in
theorem tc_write {d : Nat} {I : aFI} {L : aFL} {Q : aPo} {sh : Nat} {su : Option Nat} {D : Nat → Int → Int} {cd : Nat → Option (List Int)} {X : Lk} {kc : Int} (hsh : sh = 8 ∨ sh = 22) (hS : wfS D cd) (hW : cW I sh D cd) (hL : lkX I 36 kc X) (hX : lkOK X) {K : Int → Int → Int} {e : Int} (re : -2147483648 ≤ e ∧ e < 2147483648) {nx ct : Int} (hnx : I 44 1 = iI nx) (hct : I 44 2 = iI ct) (hnr : 0 ≤ nx ∧ nx < 20) (hcr : 0 ≤ ct ∧ ct ≤ 20) (hdr : -1000000 ≤ (I 42 1).toInt ∧ (I 42 1).toInt ≤ 1000000) (h0 : 0 ≤ kc ∧ kc < 40) (hK : kpC I K kc) (hd : 8 ≤ d) (k1 : (0 ≤ e ∧ e < D 1 2) ∧ cbZ D cd X e = true → ∀ I2 : aFI, lkX I2 36 (kc + 1) (drawX X e (drwZ D cd X e)) → kpC I2 (kA K kc X.1 e (dk X.2.1 X.2.2.1) (drwZ D cd X e)) (kc + 1) → I2 44 1 = iI ((nx + 1) % 20) → I2 44 2 = iI (min 20 (ct + 1)) → lkX I2 (46 + 3 * nx.toNat) kc X → frP (PKc (46 + 3 * nx.toNat) (115 + kc.toNat)) I I2 → Q (some (.int (iI (dk X.2.1 X.2.2.1)))) I2 L (aR sh su)) (k2 : ¬ ((0 ≤ e ∧ e < D 1 2) ∧ cbZ D cd X e = true) → ∀ I2 : aFI, I2 156 2 = iI ((I 156 2).toInt + 1) → frG (PRc 2) I I2 → Q (some (.int (iI (-1)))) I2 L (aR sh su)) : aWp none d 97 0 [.ref 0, .int (iI e), .null] [] I L (aR sh su) Q := by
  have hdd := hS.n
  have hx1 := hX.1
  have hx2 := hX.2.1
  have hx3 := hX.2.2.1
  have hx4 := hX.2.2.2.1
  have hsl := aLk_sl hnr
  refine w_aload c_97_0 rfl ?_
  refine w_iload c_97_1 rfl ?_
  refine wc_112 c_97_2 sp_0 (Nat.le_of_ble_eq_true rfl) (by omega) ?_
  refine tc_isDeed hsh hS hW re ?_
  refine r_i ?_
  refine b_if_eq c_97_5 (fun h1_ => ?_) (fun h1_ => ?_)
  · refine w_aload c_97_23 rfl ?_
    refine z_push c_97_24 ?_
    refine wc_108 c_97_25 sp_0 (Nat.le_of_ble_eq_true rfl) (by omega) ?_
    refine tc_refuse (by omega) ?_
    refine r_i ?_
    refine z_ret c_97_28 rfl ?_
    first
    | exact k2 (fun z => absurd z.1 (of_decide_eq_false (by assumption))) _ up_eq (frG.rf.up (Or.inr ⟨rfl, rfl⟩))
    | exact k2 (fun z => Bool.noConfusion (z.2.symm.trans (by assumption))) _ (up_eq.trans (congrArg (fun x : Int32 => iI (x.toInt + 1)) (hf 156 2 (by decide)))) ((show frG (PRc 2) I I1 from fun q k z => hf q k (fun y => z (Or.inl y))).up (Or.inr ⟨rfl, rfl⟩))
  · refine w_aload c_97_8 rfl ?_
    refine w_getR c_97_9 sp_0 (by decide) rfl pr_0_7 ?_
    refine w_aload c_97_12 rfl ?_
    refine w_getR c_97_13 sp_0 (by decide) rfl pr_0_5 ?_
    refine w_iload c_97_16 rfl ?_
    refine wc_49 c_97_17 sp_42 (Nat.le_of_ble_eq_true rfl) (by omega) ?_
    have hdb : 0 ≤ e ∧ e < D 1 2 := of_decide_eq_true h1_
    refine tc_canBe hsh aLk_36 hS hW hL hX hdb hdr (by omega) (fun I1 hf => ?_)
    have hW1 := hW.f43 hsh hf
    have hL1 := hL.f43 aLk_36 hf
    have hdr1 : -1000000 ≤ (I1 42 1).toInt ∧ (I1 42 1).toInt ≤ 1000000 := by rw [hf 42 1 (by decide)]; exact hdr
    refine r_i ?_
    refine b_if_ne c_97_20 (fun h2_ => ?_) (fun h2_ => ?_)
    · refine w_aload c_97_29 rfl ?_
      refine w_getR c_97_30 sp_0 (by decide) rfl pr_0_8 ?_
      refine w_aload c_97_33 rfl ?_
      refine w_getR c_97_34 sp_0 (by decide) rfl pr_0_5 ?_
      refine wc_2 c_97_37 sp_44 (Nat.le_of_ble_eq_true rfl) (by omega) ?_
      refine tc_remember (nx := nx) (ct := ct) aLk_36 hL1 ((hf 44 1 (by decide)).trans hnx) ((hf 44 2 (by decide)).trans hct) hnr hcr (by omega) (by omega) (fun I2 hl2 hn2 hc2 hF2 => ?_)
      have hL2 : lkX I2 36 kc X := hL1.fac hsl aLk_36 (by omega) hF2
      have hW2 : cW I2 sh D cd := hW1.fr (fun p k z1 z2 => hF2 p k (by show ¬ (p = 44 ∨ _); omega))
      have hdr2 : -1000000 ≤ (I2 42 1).toInt ∧ (I2 42 1).toInt ≤ 1000000 := by rw [hF2 42 1 (by show ¬ (42 = 44 ∨ _); omega)]; exact hdr1
      refine r_v ?_
      refine w_aload c_97_40 rfl ?_
      refine w_getR c_97_41 sp_0 (by decide) rfl pr_0_7 ?_
      refine w_aload c_97_44 rfl ?_
      refine w_getR c_97_45 sp_0 (by decide) rfl pr_0_5 ?_
      refine w_iload c_97_48 rfl ?_
      refine wc_48 c_97_49 sp_42 (Nat.le_of_ble_eq_true rfl) (by omega) ?_
      have hcl := cbZ_le (by assumption)
      have hdz := drwZ_rg (cd := cd) (X := X) hS hdb
      refine tc_drawnBy hsh aLk_36 hS hW2 hL2 hX hdb hdr2 (by omega) (fun I3 hf3 => ?_)
      have hL3 := hL2.f43 aLk_36 hf3
      refine r_i ?_
      refine w_istore c_97_52 (Nat.le_of_ble_eq_true rfl) rfl ?_
      refine w_aload c_97_53 rfl ?_
      refine w_getR c_97_54 sp_0 (by decide) rfl pr_0_5 ?_
      refine w_iload c_97_57 rfl ?_
      refine w_iload c_97_58 rfl ?_
      refine wc_9 c_97_59 sp_36 (Nat.le_of_ble_eq_true rfl) (by omega) ?_
      refine tc_draw aLk_36 hL3 hX ⟨by omega, by omega⟩ (by omega) (by omega) (fun I4 hL4 hF4 => ?_)
      refine r_v ?_
      refine w_aload c_97_62 rfl ?_
      refine w_iload c_97_63 rfl ?_
      refine w_iload c_97_64 rfl ?_
      refine wc_118 c_97_65 sp_0 (Nat.le_of_ble_eq_true rfl) (by omega) ?_
      refine tc_keep (K := K) hL4 h0 ⟨by omega, by omega⟩ (fun i j h1 h2 h3 h4 => by rw [hF4 _ _ (by show ¬ (_ = 43 ∨ _); omega), hf3 _ _ (by show ¬ _ = 43; omega), hF2 _ _ (by show ¬ (_ = 44 ∨ _); omega), hf _ _ (by show ¬ _ = 43; omega)]; exact hK i j h1 h2 h3 h4) (fun I5 hL5 hK5 hF5 => ?_)
      have hkr := dk_rg (b := X.2.1) (g := X.2.2.1)
      refine r_v ?_
      refine w_aload c_97_68 rfl ?_
      refine w_getR c_97_69 sp_0 (by decide) rfl pr_0_5 ?_
      refine w_getR c_97_72 sp_36 (by decide) rfl pr_36_5 ?_
      refine w_iload c_97_75 rfl ?_
      refine z_iaload c_97_76 sp_37 (by omega) (by first | decide | omega) (hL5.2.2.2.2.2 _ (by omega) (by omega)).1 ?_
      refine z_ret c_97_77 rfl ?_
      have he5 : (drawX X e (drwZ D cd X e)).2.2.2.2.1 e = dk X.2.1 X.2.2.1 := cU_eq
      rw [he5] at hK5 ⊢
      refine k1 ⟨hdb, by assumption⟩ I5 hL5 hK5 ?_ ?_ ?_ ?_
      · rw [hF5 44 1 (by omega), hF4 44 1 (by decide), hf3 44 1 (by decide)]; exact hn2
      · rw [hF5 44 2 (by omega), hF4 44 2 (by decide), hf3 44 2 (by decide)]; exact hc2
      · exact hl2.fr (fun c k z1 z2 => by rw [hF5 c k (by omega), hF4 c k (by show ¬ (c = 43 ∨ _); omega), hf3 c k (by show ¬ c = 43; omega)])
      · intro q k hq
        have hq : ¬ ((q = 43 ∨ q = 44 ∨ (36 ≤ q ∧ q ≤ 38) ∨ (46 + 3 * nx.toNat ≤ q ∧ q ≤ 46 + 3 * nx.toNat + 2)) ∨ q = 115 + kc.toNat) := hq
        rw [hF5 q k (by omega), hF4 q k (by show ¬ (q = 43 ∨ _); omega), hf3 q k (by show ¬ q = 43; omega), hF2 q k (by show ¬ (q = 44 ∨ _); omega), hf q k (by show ¬ q = 43; omega)]
    · refine w_aload c_97_23 rfl ?_
      refine z_push c_97_24 ?_
      refine wc_108 c_97_25 sp_0 (Nat.le_of_ble_eq_true rfl) (by omega) ?_
      refine tc_refuse (by omega) ?_
      refine r_i ?_
      refine z_ret c_97_28 rfl ?_
      first
      | exact k2 (fun z => absurd z.1 (of_decide_eq_false (by assumption))) _ up_eq (frG.rf.up (Or.inr ⟨rfl, rfl⟩))
      | exact k2 (fun z => Bool.noConfusion (z.2.symm.trans (by assumption))) _ (up_eq.trans (congrArg (fun x : Int32 => iI (x.toInt + 1)) (hf 156 2 (by decide)))) ((show frG (PRc 2) I I1 from fun q k z => hf q k (fun y => z (Or.inl y))).up (Or.inr ⟨rfl, rfl⟩))

set_option maxHeartbeats 1000000 in
theorem tc_pour {d : Nat} {I : aFI} {L : aFL} {Q : aPo} {sh : Nat} {su : Option Nat} {D : Nat → Int → Int} {cd : Nat → Option (List Int)} {X : Lk} {kc : Int} (hsh : sh = 8 ∨ sh = 22) (hS : wfS D cd) (hW : cW I sh D cd) (hL : lkX I 36 kc X) (hX : lkOK X) {v : Int} (rv : -2147483648 ≤ v ∧ v < 2147483648) {nx ct : Int} (hnx : I 44 1 = iI nx) (hct : I 44 2 = iI ct) (hnr : 0 ≤ nx ∧ nx < 20) (hcr : 0 ≤ ct ∧ ct ≤ 20) (hd : 4 ≤ d) (k1 : (D 0 0 = 1 ∧ 1 ≤ v ∧ v ≤ 999) ∧ X.2.2.1 + v ≤ 9999 → ∀ I2 : aFI, lkX I2 36 kc (X.1, X.2.1, X.2.2.1 + v, X.2.2.2) → I2 44 1 = iI ((nx + 1) % 20) → I2 44 2 = iI (min 20 (ct + 1)) → lkX I2 (46 + 3 * nx.toNat) kc X → frP (PAc (46 + 3 * nx.toNat)) I I2 → Q (some (.int (iI (X.2.2.1 + v)))) I2 L (aR sh su)) (k2 : ¬ ((D 0 0 = 1 ∧ 1 ≤ v ∧ v ≤ 999) ∧ X.2.2.1 + v ≤ 9999) → ∀ I2 : aFI, I2 156 2 = iI ((I 156 2).toInt + 1) → frG (PRc 2) I I2 → Q (some (.int (iI (-1)))) I2 L (aR sh su)) : aWp none d 98 0 [.ref 0, .int (iI v)] [] I L (aR sh su) Q := by
  have hdd := hS.n
  have hx1 := hX.1
  have hx2 := hX.2.1
  have hx3 := hX.2.2.1
  have hx4 := hX.2.2.2.1
  have hsl := aLk_sl hnr
  refine w_aload c_98_0 rfl ?_
  refine w_getR c_98_1 sp_0 (by decide) rfl pr_0_3 ?_
  refine z_getB c_98_4 (sps_0 hsh) (by decide) rfl hW.1.1 ?_
  refine b_if_eq c_98_7 (fun h1_ => ?_) (fun h1_ => ?_)
  · refine w_aload c_98_37 rfl ?_
    refine z_push c_98_38 ?_
    refine wc_108 c_98_39 sp_0 (Nat.le_of_ble_eq_true rfl) (by omega) ?_
    refine tc_refuse (by omega) ?_
    refine r_i ?_
    refine z_ret c_98_42 rfl ?_
    refine k2 (fun z => by first | exact absurd z.1.1 (of_decide_eq_false (by assumption)) | omega) _ up_eq (frG.rf.up (Or.inr ⟨rfl, rfl⟩))
  · refine w_iload c_98_10 rfl ?_
    refine z_push c_98_11 ?_
    refine z_ic_lt c_98_12 (by first | exact aRg_of _ | (unfold aRg; omega)) (by first | exact aRg_of _ | (unfold aRg; omega)) (fun h2_ => ?_) (fun h2_ => ?_)
    · refine w_aload c_98_37 rfl ?_
      refine z_push c_98_38 ?_
      refine wc_108 c_98_39 sp_0 (Nat.le_of_ble_eq_true rfl) (by omega) ?_
      refine tc_refuse (by omega) ?_
      refine r_i ?_
      refine z_ret c_98_42 rfl ?_
      refine k2 (fun z => by first | exact absurd z.1.1 (of_decide_eq_false (by assumption)) | omega) _ up_eq (frG.rf.up (Or.inr ⟨rfl, rfl⟩))
    · refine w_iload c_98_15 rfl ?_
      refine z_push c_98_16 ?_
      refine z_ic_gt c_98_19 (by first | exact aRg_of _ | (unfold aRg; omega)) (by first | exact aRg_of _ | (unfold aRg; omega)) (fun h3_ => ?_) (fun h3_ => ?_)
      · refine w_aload c_98_37 rfl ?_
        refine z_push c_98_38 ?_
        refine wc_108 c_98_39 sp_0 (Nat.le_of_ble_eq_true rfl) (by omega) ?_
        refine tc_refuse (by omega) ?_
        refine r_i ?_
        refine z_ret c_98_42 rfl ?_
        refine k2 (fun z => by first | exact absurd z.1.1 (of_decide_eq_false (by assumption)) | omega) _ up_eq (frG.rf.up (Or.inr ⟨rfl, rfl⟩))
      · refine w_aload c_98_22 rfl ?_
        refine w_getR c_98_23 sp_0 (by decide) rfl pr_0_5 ?_
        refine z_getZ c_98_26 sp_36 (by decide) rfl hL.2.2.1 ?_
        refine w_iload c_98_29 rfl ?_
        refine z_iadd c_98_30 ?_
        refine z_push c_98_31 ?_
        refine z_ic_le c_98_34 (by first | exact aRg_of _ | (unfold aRg; omega)) (by first | exact aRg_of _ | (unfold aRg; omega)) (fun h4_ => ?_) (fun h4_ => ?_)
        · refine w_aload c_98_43 rfl ?_
          refine w_getR c_98_44 sp_0 (by decide) rfl pr_0_8 ?_
          refine w_aload c_98_47 rfl ?_
          refine w_getR c_98_48 sp_0 (by decide) rfl pr_0_5 ?_
          refine wc_2 c_98_51 sp_44 (Nat.le_of_ble_eq_true rfl) (by omega) ?_
          have hcc : (D 0 0 = 1 ∧ 1 ≤ v ∧ v ≤ 999) ∧ X.2.2.1 + v ≤ 9999 := ⟨⟨of_decide_eq_true h1_, by omega⟩, by omega⟩
          refine tc_remember (nx := nx) (ct := ct) aLk_36 hL hnx hct hnr hcr (by omega) (by omega) (fun I2 hl2 hn2 hc2 hF2 => ?_)
          have hL2 : lkX I2 36 kc X := hL.fac hsl aLk_36 (by omega) hF2
          have hL := hL2
          refine r_v ?_
          refine w_aload c_98_54 rfl ?_
          refine w_getR c_98_55 sp_0 (by decide) rfl pr_0_5 ?_
          refine w_dup c_98_58 rfl ?_
          refine z_getZ c_98_59 sp_36 (by decide) rfl hL.2.2.1 ?_
          refine w_iload c_98_62 rfl ?_
          refine z_iadd c_98_63 ?_
          refine z_putZ c_98_64 sp_36 (by decide) rfl ?_
          refine up_k (frP.ac (p := (46 + 3 * nx.toNat)) hF2) (Or.inr (Or.inr (Or.inl ⟨by omega, by omega⟩))) (fun I3 hi hF3 => ?_)
          have hL := hi ▸ hL2.pg (v := X.2.2.1 + v)
          refine w_aload c_98_67 rfl ?_
          refine w_getR c_98_68 sp_0 (by decide) rfl pr_0_5 ?_
          refine z_getZ c_98_71 sp_36 (by decide) rfl hL.2.2.1 ?_
          refine z_ret c_98_74 rfl ?_
          exact k1 hcc I3 hL (by rw [hi, up_ne (by omega)]; exact hn2) (by rw [hi, up_ne (by omega)]; exact hc2) (hl2.fr (fun c k z1 z2 => by rw [hi]; exact up_ne (by omega))) hF3
        · refine w_aload c_98_37 rfl ?_
          refine z_push c_98_38 ?_
          refine wc_108 c_98_39 sp_0 (Nat.le_of_ble_eq_true rfl) (by omega) ?_
          refine tc_refuse (by omega) ?_
          refine r_i ?_
          refine z_ret c_98_42 rfl ?_
          refine k2 (fun z => by first | exact absurd z.1.1 (of_decide_eq_false (by assumption)) | omega) _ up_eq (frG.rf.up (Or.inr ⟨rfl, rfl⟩))

set_option maxHeartbeats 1000000 in
theorem tc_canPass {d : Nat} {I : aFI} {L : aFL} {Q : aPo} {sh : Nat} {su : Option Nat} {D : Nat → Int → Int} {cd : Nat → Option (List Int)} {X : Lk} {kc : Int} (hsh : sh = 8 ∨ sh = 22) (hS : wfS D cd) (hW : cW I sh D cd) (hL : lkX I 36 kc X) (hX : lkOK X) {v : Int} (rv : -2147483648 ≤ v ∧ v < 2147483648) (k : Q (some (.int (aBo (decide ((D 0 0 = 1 ∧ 1 ≤ v ∧ v ≤ 100) ∧ X.1 + v ≤ 999))))) I L (aR sh su)) : aWp none d 115 0 [.ref 0, .int (iI v)] [] I L (aR sh su) Q := by
  have hx1 := hX.1
  refine w_aload c_115_0 rfl ?_
  refine w_getR c_115_1 sp_0 (by decide) rfl pr_0_3 ?_
  refine z_getB c_115_4 (sps_0 hsh) (by decide) rfl hW.1.1 ?_
  refine b_if_eq c_115_7 (fun h1_ => ?_) (fun h1_ => ?_)
  · refine z_push c_115_40 ?_
    refine z_ret0 c_115_41 rfl ?_
    first
    | exact q_b k (decide_eq_true ⟨⟨of_decide_eq_true h1_, by omega⟩, by omega⟩)
    | exact q_b k (decide_eq_false (fun z => by first | exact absurd z.1.1 (of_decide_eq_false (by assumption)) | omega))
  · refine w_iload c_115_10 rfl ?_
    refine z_push c_115_11 ?_
    refine z_ic_lt c_115_12 (by first | exact aRg_of _ | (unfold aRg; omega)) (by first | exact aRg_of _ | (unfold aRg; omega)) (fun h2_ => ?_) (fun h2_ => ?_)
    · refine z_push c_115_40 ?_
      refine z_ret0 c_115_41 rfl ?_
      first
      | exact q_b k (decide_eq_true ⟨⟨of_decide_eq_true h1_, by omega⟩, by omega⟩)
      | exact q_b k (decide_eq_false (fun z => by first | exact absurd z.1.1 (of_decide_eq_false (by assumption)) | omega))
    · refine w_iload c_115_15 rfl ?_
      refine z_push c_115_16 ?_
      refine z_ic_gt c_115_18 (by first | exact aRg_of _ | (unfold aRg; omega)) (by first | exact aRg_of _ | (unfold aRg; omega)) (fun h3_ => ?_) (fun h3_ => ?_)
      · refine z_push c_115_40 ?_
        refine z_ret0 c_115_41 rfl ?_
        first
        | exact q_b k (decide_eq_true ⟨⟨of_decide_eq_true h1_, by omega⟩, by omega⟩)
        | exact q_b k (decide_eq_false (fun z => by first | exact absurd z.1.1 (of_decide_eq_false (by assumption)) | omega))
      · refine w_aload c_115_21 rfl ?_
        refine w_getR c_115_22 sp_0 (by decide) rfl pr_0_5 ?_
        refine z_getZ c_115_25 sp_36 (by decide) rfl hL.1 ?_
        refine w_iload c_115_28 rfl ?_
        refine z_iadd c_115_29 ?_
        refine z_push c_115_30 ?_
        refine z_ic_gt c_115_33 (by first | exact aRg_of _ | (unfold aRg; omega)) (by first | exact aRg_of _ | (unfold aRg; omega)) (fun h4_ => ?_) (fun h4_ => ?_)
        · refine z_push c_115_40 ?_
          refine z_ret0 c_115_41 rfl ?_
          first
          | exact q_b k (decide_eq_true ⟨⟨of_decide_eq_true h1_, by omega⟩, by omega⟩)
          | exact q_b k (decide_eq_false (fun z => by first | exact absurd z.1.1 (of_decide_eq_false (by assumption)) | omega))
        · refine z_push c_115_36 ?_
          refine w_goto c_115_37 ?_
          refine z_ret1 c_115_41 rfl ?_
          first
          | exact q_b k (decide_eq_true ⟨⟨of_decide_eq_true h1_, by omega⟩, by omega⟩)
          | exact q_b k (decide_eq_false (fun z => by first | exact absurd z.1.1 (of_decide_eq_false (by assumption)) | omega))

set_option maxHeartbeats 2000000 in
theorem tc_seasons_1 {d : Nat} {I0 : aFI} {L : aFL} {Q : aPo} {sh : Nat} {su : Option Nat} {D : Nat → Int → Int} {cd : Nat → Option (List Int)} {X : Lk} {kc : Int} {m : Nat} (hsh : sh = 8 ∨ sh = 22) (hS : wfS D cd) (hW0 : cW I0 sh D cd) (hX : lkOK X) (hm : X.1 + m ≤ 999) (hm2 : m ≤ 100) (hdr : -1000000 ≤ (I0 42 1).toInt ∧ (I0 42 1).toInt ≤ 1000000) (hd : 8 ≤ d) : ∀ (n : Nat) (i : Nat) (I : aFI), m + 1 - i < n → (i ≤ m) → (lkX I 36 kc (seaN D cd X i)) → (frP (PL 36) I0 I) → (∀ I2 : aFI, lkX I2 36 kc (seaN D cd X m) → frP (PL 36) I0 I2 → Q (some (.int (iI (ovN D cd X m)))) I2 L (aR sh su)) → aWp none d 99 29 [.ref 0, .int (iI (m : Int)), .int (iI (ovN D cd X i)), .int (iI (i : Int))] [] I L (aR sh su) Q := by
  intro n
  induction n with
  | zero => intro i I h; omega
  | succ n ih =>
    intro i I hn2 h1 hL hF k
    have hss := seaN_s (D := D) (cd := cd) (X := X) i
    refine w_iload c_99_29 rfl ?_
    refine w_iload c_99_30 rfl ?_
    refine z_ic_ge c_99_31 (by first | exact aRg_of _ | (unfold aRg; omega)) (by first | exact aRg_of _ | (unfold aRg; omega)) (fun h1_ => ?_) (fun h1_ => ?_)
    · refine w_iload c_99_55 rfl ?_
      refine z_ret c_99_56 rfl ?_
      have e9 : i = m := by omega
      subst e9
      exact k I hL hF
    · refine w_iload c_99_34 rfl ?_
      refine w_aload c_99_35 rfl ?_
      refine w_getR c_99_36 sp_0 (by decide) rfl pr_0_7 ?_
      refine w_aload c_99_39 rfl ?_
      refine w_getR c_99_40 sp_0 (by decide) rfl pr_0_5 ?_
      refine z_push c_99_43 ?_
      refine wc_52 c_99_44 sp_42 (Nat.le_of_ble_eq_true rfl) (by omega) ?_
      refine tc_passSeason (dry := 0) hsh aLk_36 hS (hW0.fL hsh aLk_36 hF) hL (seaN_ok hS hX i (by omega)) (by decide) (by rw [hF 42 1 (by decide)]; exact hdr) (by omega) (fun I2 hL2 hF2 => ?_)
      refine r_i ?_
      refine z_iadd c_99_47 ?_
      refine w_istore c_99_48 (Nat.le_of_ble_eq_true rfl) rfl ?_
      refine z_iinc c_99_49 rfl rfl ?_
      refine w_goto c_99_52 ?_
      exact ih (i + 1) I2 (by omega) (by omega) hL2 (hF.tr hF2) k

set_option maxHeartbeats 1000000 in
theorem tc_seasons {d : Nat} {I : aFI} {L : aFL} {Q : aPo} {sh : Nat} {su : Option Nat} {D : Nat → Int → Int} {cd : Nat → Option (List Int)} {X : Lk} {kc : Int} (hsh : sh = 8 ∨ sh = 22) (hS : wfS D cd) (hW : cW I sh D cd) (hL : lkX I 36 kc X) (hX : lkOK X) {v : Int} (rv : -2147483648 ≤ v ∧ v < 2147483648) {nx ct : Int} (hnx : I 44 1 = iI nx) (hct : I 44 2 = iI ct) (hnr : 0 ≤ nx ∧ nx < 20) (hcr : 0 ≤ ct ∧ ct ≤ 20) (hdr : -1000000 ≤ (I 42 1).toInt ∧ (I 42 1).toInt ≤ 1000000) (hd : 9 ≤ d) (k1 : (D 0 0 = 1 ∧ 1 ≤ v ∧ v ≤ 100) ∧ X.1 + v ≤ 999 → ∀ I2 : aFI, lkX I2 36 kc (seaN D cd X v.toNat) → I2 44 1 = iI ((nx + 1) % 20) → I2 44 2 = iI (min 20 (ct + 1)) → lkX I2 (46 + 3 * nx.toNat) kc X → frP (PAc (46 + 3 * nx.toNat)) I I2 → Q (some (.int (iI (ovN D cd X v.toNat)))) I2 L (aR sh su)) (k2 : ¬ ((D 0 0 = 1 ∧ 1 ≤ v ∧ v ≤ 100) ∧ X.1 + v ≤ 999) → ∀ I2 : aFI, I2 156 3 = iI ((I 156 3).toInt + 1) → frG (PRc 3) I I2 → Q (some (.int (iI (-1)))) I2 L (aR sh su)) : aWp none d 99 0 [.ref 0, .int (iI v), .null, .null] [] I L (aR sh su) Q := by
  have hdd := hS.n
  have hx1 := hX.1
  have hx2 := hX.2.1
  have hx3 := hX.2.2.1
  have hx4 := hX.2.2.2.1
  have hsl := aLk_sl hnr
  refine w_aload c_99_0 rfl ?_
  refine w_iload c_99_1 rfl ?_
  refine wc_115 c_99_2 sp_0 (Nat.le_of_ble_eq_true rfl) (by omega) ?_
  refine tc_canPass hsh hS hW hL hX rv ?_
  refine r_i ?_
  refine b_if_ne c_99_5 (fun h1_ => ?_) (fun h1_ => ?_)
  · refine w_aload c_99_14 rfl ?_
    refine w_getR c_99_15 sp_0 (by decide) rfl pr_0_8 ?_
    refine w_aload c_99_18 rfl ?_
    refine w_getR c_99_19 sp_0 (by decide) rfl pr_0_5 ?_
    refine wc_2 c_99_22 sp_44 (Nat.le_of_ble_eq_true rfl) (by omega) ?_
    have hcc := of_decide_eq_true h1_
    refine tc_remember (nx := nx) (ct := ct) aLk_36 hL hnx hct hnr hcr (by omega) (by omega) (fun I2 hl2 hn2 hc2 hF2 => ?_)
    have hL2 : lkX I2 36 kc X := hL.fac hsl aLk_36 (by omega) hF2
    have hW2 : cW I2 sh D cd := hW.fr (fun p k z1 z2 => hF2 p k (by show ¬ (p = 44 ∨ _); omega))
    have hdr2 : -1000000 ≤ (I2 42 1).toInt ∧ (I2 42 1).toInt ≤ 1000000 := by rw [hF2 42 1 (by show ¬ (42 = 44 ∨ _); omega)]; exact hdr
    refine r_v ?_
    refine z_push c_99_25 ?_
    refine w_istore c_99_26 (Nat.le_of_ble_eq_true rfl) rfl ?_
    refine z_push c_99_27 ?_
    refine w_istore c_99_28 (Nat.le_of_ble_eq_true rfl) rfl ?_
    suffices hA : aWp none d 99 29 [.ref 0, .int (iI ((v.toNat : Nat) : Int)), .int (iI (ovN D cd X 0)), .int (iI ((0 : Nat) : Int))] [] I2 L (aR sh su) Q by rw [show ((v.toNat : Nat) : Int) = v by omega] at hA; exact hA
    exact tc_seasons_1 hsh hS hW2 hX (by omega) (by omega) hdr2 (by omega) _ 0 I2 (Nat.lt_succ_self _) (by omega) hL2 frP.rf (fun I3 hL3 hF3 => k1 hcc I3 hL3 (by rw [hF3 44 1 (by decide)]; exact hn2) (by rw [hF3 44 2 (by decide)]; exact hc2) (hl2.fr (fun c k z1 z2 => hF3 c k (by show ¬ (c = 43 ∨ _); omega))) ((frP.ac hF2).tr (frP.lc hF3)))
  · refine w_aload c_99_8 rfl ?_
    refine z_push c_99_9 ?_
    refine wc_108 c_99_10 sp_0 (Nat.le_of_ble_eq_true rfl) (by omega) ?_
    refine tc_refuse (by omega) ?_
    refine r_i ?_
    refine z_ret c_99_13 rfl ?_
    exact k2 (of_decide_eq_false h1_) _ up_eq (frG.rf.up (Or.inr ⟨rfl, rfl⟩))

set_option maxHeartbeats 1000000 in
theorem tc_undo {d : Nat} {I : aFI} {L : aFL} {Q : aPo} {sh : Nat} {su : Option Nat} {kc0 kc : Int} {X X0 : Lk} {nx ct : Int} (hnx : I 44 1 = iI nx) (hct : I 44 2 = iI ct) (hnr : 0 ≤ nx ∧ nx < 20) (hcr : 0 ≤ ct ∧ ct ≤ 20) (hl : ¬ ct = 0 → lkX I (46 + 3 * ((nx + 19) % 20).toNat) kc X) (hd : 4 ≤ d) (k1 : ¬ ct = 0 → ∀ I2 : aFI, lkX I2 36 kc X → I2 44 1 = iI ((nx + 19) % 20) → I2 44 2 = iI (ct - 1) → frP (PA 36) I I2 → Q (some (.int (aBo true))) I2 L (aR sh su)) (k2 : ct = 0 → Q (some (.int (aBo false))) (aUp I 156 4 (iI ((I 156 4).toInt + 1))) L (aR sh su)) : aWp none d 101 0 [.ref 0] [] I L (aR sh su) Q := by
  refine w_aload c_101_0 rfl ?_
  refine w_getR c_101_1 sp_0 (by decide) rfl pr_0_8 ?_
  refine z_getZ c_101_4 sp_44 (by decide) rfl hct ?_
  refine z_if_ne c_101_7 (by first | exact aRg_of _ | (unfold aRg; omega)) (fun h1_ => ?_) (fun h1_ => ?_)
  · refine w_aload c_101_18 rfl ?_
    refine w_getR c_101_19 sp_0 (by decide) rfl pr_0_8 ?_
    refine w_aload c_101_22 rfl ?_
    refine w_getR c_101_23 sp_0 (by decide) rfl pr_0_5 ?_
    refine wc_3 c_101_26 sp_44 (Nat.le_of_ble_eq_true rfl) (by omega) ?_
    have hcz : ¬ ct = 0 := by omega
    refine tc_recall aLk_36 hnx hct hnr hcr (hl hcz) (by omega) (by omega) (fun I2 hl2 hn2 hc2 hF2 => ?_)
    refine r_v ?_
    refine z_push c_101_29 ?_
    refine z_ret1 c_101_30 rfl ?_
    exact k1 hcz I2 hl2 hn2 hc2 hF2
  · refine w_aload c_101_10 rfl ?_
    refine z_push c_101_11 ?_
    refine wc_108 c_101_12 sp_0 (Nat.le_of_ble_eq_true rfl) (by omega) ?_
    refine tc_refuse (by omega) ?_
    refine r_i ?_
    refine w_pop c_101_15 rfl ?_
    refine z_push c_101_16 ?_
    refine z_ret0 c_101_17 rfl ?_
    exact k2 (by omega)

set_option maxHeartbeats 1000000 in
theorem tc_seed {d : Nat} {I : aFI} {L : aFL} {Q : aPo} {sh : Nat} {su : Option Nat} {v : Int} (rv : -2147483648 ≤ v ∧ v < 2147483648) (hd : 2 ≤ d) (k1 : 0 ≤ v → Q (some (.int (aBo true))) I (aUp L 0 17 (lI v)) (aR sh su)) (k2 : v < 0 → Q (some (.int (aBo false))) (aUp I 156 5 (iI ((I 156 5).toInt + 1))) L (aR sh su)) : aWp none d 102 0 [.ref 0, .int (iI v)] [] I L (aR sh su) Q := by
  refine w_iload c_102_0 rfl ?_
  refine z_if_ge c_102_1 (by first | exact aRg_of _ | (unfold aRg; omega)) (fun h1_ => ?_) (fun h1_ => ?_)
  · refine w_aload c_102_12 rfl ?_
    refine w_iload c_102_13 rfl ?_
    refine z_i2l c_102_14 (by first | exact aRg_of _ | (unfold aRg; omega)) ?_
    refine w_putL c_102_15 sp_0 (by decide) rfl ?_
    refine z_push c_102_18 ?_
    refine z_ret1 c_102_19 rfl ?_
    exact k1 (by omega)
  · refine w_aload c_102_4 rfl ?_
    refine z_push c_102_5 ?_
    refine wc_108 c_102_6 sp_0 (Nat.le_of_ble_eq_true rfl) (by omega) ?_
    refine tc_refuse (by omega) ?_
    refine r_i ?_
    refine w_pop c_102_9 rfl ?_
    refine z_push c_102_10 ?_
    refine z_ret0 c_102_11 rfl ?_
    exact k2 (by omega)

set_option maxHeartbeats 1000000 in
theorem tc_drawOfHundred {d : Nat} {I : aFI} {L : aFL} {Q : aPo} {sh : Nat} {su : Option Nat} {s : Int} (hs : L 0 17 = lI s) (hr : 0 ≤ s ∧ s < 2147483648) (k : Q (some (.int (iI (rnS s / 64 % 100)))) I (aUp L 0 17 (lI (rnS s))) (aR sh su)) : aWp none d 120 0 [.ref 0] [] I L (aR sh su) Q := by
  have hrr := rnS_rg (s := s)
  refine w_aload c_120_0 rfl ?_
  refine z_pushl c_120_1 ?_
  refine w_aload c_120_4 rfl ?_
  refine z_getL c_120_5 sp_0 (by decide) rfl hs ?_
  refine z_lmul c_120_8 ?_
  refine z_pushl c_120_9 ?_
  refine z_ladd c_120_12 ?_
  refine z_pushl c_120_13 ?_
  refine z_lrem c_120_16 (by omega) (by omega) ?_
  refine w_putL c_120_17 sp_0 (by decide) rfl ?_
  change aWp _ _ _ _ _ _ _ (aUp L 0 17 (lI (rnS s))) _ _
  have hs : aUp L 0 17 (lI (rnS s)) 0 17 = lI (rnS s) := upL_eq
  refine w_aload c_120_20 rfl ?_
  refine z_getL c_120_21 sp_0 (by decide) rfl hs ?_
  refine z_pushl c_120_24 ?_
  refine z_ldiv c_120_27 (by omega) (by omega) ?_
  refine z_pushl c_120_28 ?_
  refine z_lrem c_120_31 (by omega) (by omega) ?_
  refine z_l2i c_120_32 ?_
  refine z_ret c_120_33 rfl ?_
  exact k

abbrev LKC : Nat → Nat → Prop := fun q k => q = 0 ∧ k = 17
set_option maxHeartbeats 2000000 in
theorem tc_dry_1 {d : Nat} {I : aFI} {L0 : aFL} {Q : aPo} {sh : Nat} {su : Option Nat} {D : Nat → Int → Int} {cd : Nat → Option (List Int)} {s : Int} (hsh : sh = 8 ∨ sh = 22) (hS : wfS D cd) (hW : cW I sh D cd) (hs : 0 ≤ s ∧ s < 2147483648) (hd : 1 ≤ d) : ∀ (n : Nat) (i : Nat) (L : aFL), (D 1 0).toNat - i < n → ((i : Int) ≤ D 1 0) → (L 0 17 = lI (dyF (D 0 16) s i).1) → (frG LKC L0 L) → (∀ L2 : aFL, L2 0 17 = lI (dyF (D 0 16) s (D 1 0).toNat).1 → frG LKC L0 L2 → Q (some (.int (iI (((dyF (D 0 16) s (D 1 0).toNat).2 : Nat) : Int)))) I L2 (aR sh su)) → aWp none d 119 4 [.ref 0, .int (iI (((dyF (D 0 16) s i).2 : Nat) : Int)), .int (iI (i : Int))] [] I L (aR sh su) Q := by
  intro n
  induction n with
  | zero => intro i L h; omega
  | succ n ih =>
    intro i L hn2 h1 hL hG k
    have hdd := hS.n
    have hhh := hS.h
    have hdy := dyF_rg (dr := D 0 16) hs i (by omega)
    have hrr := rnS_rg (s := (dyF (D 0 16) s i).1)
    refine w_iload c_119_4 rfl ?_
    refine w_aload c_119_5 rfl ?_
    refine w_getR c_119_6 sp_0 (by decide) rfl pr_0_3 ?_
    refine w_getR c_119_9 (sps_0 hsh) (by decide) rfl (prs_4 hsh) ?_
    refine z_push c_119_12 ?_
    refine z_iaload c_119_13 (sps_1 hsh) (by omega) (by first | decide | omega) (hW.1.a 1 (by omega) (by omega)) ?_
    refine z_ic_ge c_119_14 (by first | exact aRg_of _ | (unfold aRg; omega)) (by first | exact aRg_of _ | (unfold aRg; omega)) (fun h1_ => ?_) (fun h1_ => ?_)
    · refine w_iload c_119_43 rfl ?_
      refine z_ret c_119_44 rfl ?_
      have e9 : (D 1 0).toNat = i := by omega
      have hA := k L (by rw [e9]; exact hL) hG
      rw [e9] at hA
      exact hA
    · refine w_aload c_119_17 rfl ?_
      refine wc_120 c_119_18 sp_0 (Nat.le_of_ble_eq_true rfl) (by omega) ?_
      refine tc_drawOfHundred hL (by omega) ?_
      have hL2 : aUp L 0 17 (lI (rnS (dyF (D 0 16) s i).1)) 0 17 = lI (rnS (dyF (D 0 16) s i).1) := upL_eq
      have hG2 : frG LKC L0 (aUp L 0 17 (lI (rnS (dyF (D 0 16) s i).1))) := hG.up ⟨rfl, rfl⟩
      generalize aUp L 0 17 (lI (rnS (dyF (D 0 16) s i).1)) = L1 at hL2 hG2 ⊢
      refine r_i ?_
      refine w_aload c_119_21 rfl ?_
      refine w_getR c_119_22 sp_0 (by decide) rfl pr_0_3 ?_
      refine z_getZ c_119_25 (sps_0 hsh) (by decide) rfl hW.1.2.1.2.2.2.2.2 ?_
      refine z_ic_ge c_119_28 (by first | exact aRg_of _ | (unfold aRg; omega)) (by first | exact aRg_of _ | (unfold aRg; omega)) (fun h2_ => ?_) (fun h2_ => ?_)
      · refine z_iinc c_119_37 rfl rfl ?_
        refine w_goto c_119_40 ?_
        have hst : (dyF (D 0 16) s (i + 1)) = (rnS (dyF (D 0 16) s i).1, (dyF (D 0 16) s i).2) := by show (_, _) = _; rw [if_neg (by omega)]
        have hA := ih (i + 1) L1 (by omega) (by omega) (by rw [hst]; exact hL2) hG2 k
        rw [hst] at hA
        exact hA
      · refine w_iload c_119_31 rfl ?_
        refine z_push c_119_32 ?_
        refine w_iload c_119_33 rfl ?_
        refine w_ishl c_119_34 (shl1 (by omega)) ?_
        refine w_ior c_119_35 (iI_or _ _) ?_
        refine w_istore c_119_36 (Nat.le_of_ble_eq_true rfl) rfl ?_
        refine z_iinc c_119_37 rfl rfl ?_
        refine w_goto c_119_40 ?_
        have hst : (dyF (D 0 16) s (i + 1)) = (rnS (dyF (D 0 16) s i).1, (dyF (D 0 16) s i).2 ||| 2 ^ i) := by show (_, _) = _; rw [if_pos (by omega)]
        have hA := ih (i + 1) L1 (by omega) (by omega) (by rw [hst]; exact hL2) hG2 k
        rw [hst] at hA
        exact hA

set_option maxHeartbeats 1000000 in
theorem tc_dry {d : Nat} {I : aFI} {L : aFL} {Q : aPo} {sh : Nat} {su : Option Nat} {D : Nat → Int → Int} {cd : Nat → Option (List Int)} {s : Int} (hsh : sh = 8 ∨ sh = 22) (hS : wfS D cd) (hW : cW I sh D cd) (hs : 0 ≤ s ∧ s < 2147483648) (hd : 1 ≤ d) (hL : L 0 17 = lI s) (k : ∀ L2 : aFL, L2 0 17 = lI (dyF (D 0 16) s (D 1 0).toNat).1 → frG LKC L L2 → Q (some (.int (iI (((dyF (D 0 16) s (D 1 0).toNat).2 : Nat) : Int)))) I L2 (aR sh su)) : aWp none d 119 0 [.ref 0, .null, .null] [] I L (aR sh su) Q := by
  have hdd := hS.n
  refine z_push c_119_0 ?_
  refine w_istore c_119_1 (Nat.le_of_ble_eq_true rfl) rfl ?_
  refine z_push c_119_2 ?_
  refine w_istore c_119_3 (Nat.le_of_ble_eq_true rfl) rfl ?_
  exact tc_dry_1 hsh hS hW hs hd _ 0 L (Nat.lt_succ_self _) (by omega) hL frG.rf k

set_option maxHeartbeats 2000000 in
theorem tc_years_1 {d : Nat} {I0 : aFI} {L0 : aFL} {Q : aPo} {sh : Nat} {su : Option Nat} {D : Nat → Int → Int} {cd : Nat → Option (List Int)} {X : Lk} {kc : Int} {s : Int} {m : Nat} (hsh : sh = 8 ∨ sh = 22) (hS : wfS D cd) (hW0 : cW I0 sh D cd) (hX : lkOK X) (hs : 0 ≤ s ∧ s < 2147483648) (hm : X.1 + m ≤ 999) (hm2 : m ≤ 100) (hdr : -1000000 ≤ (I0 42 1).toInt ∧ (I0 42 1).toInt ≤ 1000000) (hd : 8 ≤ d) : ∀ (n : Nat) (i : Nat) (I : aFI) (L : aFL) (v4 : Value), m + 1 - i < n → (i ≤ m) → (0 ≤ (yrF D cd X s i).2.2 ∧ (yrF D cd X s i).2.2 ≤ 8 * i) → (lkX I 36 kc (yrF D cd X s i).1) → (L 0 17 = lI (yrF D cd X s i).2.1) → (frP (PL 36) I0 I) → (frG LKC L0 L) → (∀ (I2 : aFI) (L2 : aFL), lkX I2 36 kc (yrF D cd X s m).1 → L2 0 17 = lI (yrF D cd X s m).2.1 → frP (PL 36) I0 I2 → frG LKC L0 L2 → Q (some (.int (iI (yrF D cd X s m).2.2))) I2 L2 (aR sh su)) → aWp none d 100 29 [.ref 0, .int (iI (m : Int)), .int (iI (yrF D cd X s i).2.2), .int (iI (i : Int)), v4] [] I L (aR sh su) Q := by
  intro n
  induction n with
  | zero => intro i I L v4 h; omega
  | succ n ih =>
    intro i I L v4 hn2 h1 hc hL hLL hF hG k
    have hdd := hS.n
    have hss := yrF_s (D := D) (cd := cd) (X := X) (s := s) i
    have hok := yrF_ok (cd := cd) hS hX hs i (by omega)
    have hdy := dyF_rg (dr := D 0 16) hok.2 (D 1 0).toNat (by omega)
    have hpc := popc_le (n := (dyF (D 0 16) (yrF D cd X s i).2.1 (D 1 0).toNat).2) hdy.2
    have hW := hW0.fL hsh aLk_36 hF
    refine w_iload c_100_29 rfl ?_
    refine w_iload c_100_30 rfl ?_
    refine z_ic_ge c_100_31 (by first | exact aRg_of _ | (unfold aRg; omega)) (by first | exact aRg_of _ | (unfold aRg; omega)) (fun h1_ => ?_) (fun h1_ => ?_)
    · refine w_iload c_100_68 rfl ?_
      refine z_ret c_100_69 rfl ?_
      have e9 : i = m := by omega
      subst e9
      exact k I L hL hLL hF hG
    · refine w_aload c_100_34 rfl ?_
      refine wc_119 c_100_35 sp_0 (Nat.le_of_ble_eq_true rfl) (by omega) ?_
      refine tc_dry hsh hS hW hok.2 (by omega) hLL (fun L1 hL1 hG1 => ?_)
      refine r_i ?_
      refine w_istore c_100_38 (Nat.le_of_ble_eq_true rfl) rfl ?_
      refine w_iload c_100_40 rfl ?_
      refine w_iload c_100_41 rfl ?_
      refine wc_257 c_100_43 (Nat.le_of_ble_eq_true rfl) (by omega) ?_
      refine t_bitCount hdy.2 ?_
      refine r_i ?_
      refine z_iadd c_100_46 ?_
      refine w_istore c_100_47 (Nat.le_of_ble_eq_true rfl) rfl ?_
      refine w_aload c_100_48 rfl ?_
      refine w_getR c_100_49 sp_0 (by decide) rfl pr_0_7 ?_
      refine w_aload c_100_52 rfl ?_
      refine w_getR c_100_53 sp_0 (by decide) rfl pr_0_5 ?_
      refine w_iload c_100_56 rfl ?_
      refine wc_52 c_100_58 sp_42 (Nat.le_of_ble_eq_true rfl) (by omega) ?_
      refine tc_passSeason hsh aLk_36 hS hW hL hok.1 hdy.2 (by rw [hF 42 1 (by decide)]; exact hdr) (by omega) (fun I2 hL2 hF2 => ?_)
      refine r_i ?_
      refine w_pop c_100_61 rfl ?_
      refine z_iinc c_100_62 rfl rfl ?_
      refine w_goto c_100_65 ?_
      exact ih (i + 1) I2 L1 _ (by omega) (by omega) (by show 0 ≤ _ + ((popc _ : Nat) : Int) ∧ _ + ((popc _ : Nat) : Int) ≤ _; omega) hL2 hL1 (hF.tr hF2) (hG.tr hG1) k

set_option maxHeartbeats 1000000 in
theorem tc_years {d : Nat} {I : aFI} {L : aFL} {Q : aPo} {sh : Nat} {su : Option Nat} {D : Nat → Int → Int} {cd : Nat → Option (List Int)} {X : Lk} {kc : Int} (hsh : sh = 8 ∨ sh = 22) (hS : wfS D cd) (hW : cW I sh D cd) (hL : lkX I 36 kc X) (hX : lkOK X) {v s : Int} (rv : -2147483648 ≤ v ∧ v < 2147483648) {nx ct : Int} (hnx : I 44 1 = iI nx) (hct : I 44 2 = iI ct) (hnr : 0 ≤ nx ∧ nx < 20) (hcr : 0 ≤ ct ∧ ct ≤ 20) (hdr : -1000000 ≤ (I 42 1).toInt ∧ (I 42 1).toInt ≤ 1000000) (hLL : L 0 17 = lI s) (hsr : 0 ≤ s ∧ s < 2147483648) (hd : 9 ≤ d) (k1 : (D 0 0 = 1 ∧ 1 ≤ v ∧ v ≤ 100) ∧ X.1 + v ≤ 999 → ∀ (I2 : aFI) (L2 : aFL), lkX I2 36 kc (yrF D cd X s v.toNat).1 → L2 0 17 = lI (yrF D cd X s v.toNat).2.1 → I2 44 1 = iI ((nx + 1) % 20) → I2 44 2 = iI (min 20 (ct + 1)) → lkX I2 (46 + 3 * nx.toNat) kc X → frP (PAc (46 + 3 * nx.toNat)) I I2 → frG LKC L L2 → Q (some (.int (iI (yrF D cd X s v.toNat).2.2))) I2 L2 (aR sh su)) (k2 : ¬ ((D 0 0 = 1 ∧ 1 ≤ v ∧ v ≤ 100) ∧ X.1 + v ≤ 999) → ∀ I2 : aFI, I2 156 3 = iI ((I 156 3).toInt + 1) → frG (PRc 3) I I2 → Q (some (.int (iI (-1)))) I2 L (aR sh su)) : aWp none d 100 0 [.ref 0, .int (iI v), .null, .null, .null] [] I L (aR sh su) Q := by
  have hdd := hS.n
  have hx1 := hX.1
  have hx2 := hX.2.1
  have hx3 := hX.2.2.1
  have hx4 := hX.2.2.2.1
  have hsl := aLk_sl hnr
  refine w_aload c_100_0 rfl ?_
  refine w_iload c_100_1 rfl ?_
  refine wc_115 c_100_2 sp_0 (Nat.le_of_ble_eq_true rfl) (by omega) ?_
  refine tc_canPass hsh hS hW hL hX rv ?_
  refine r_i ?_
  refine b_if_ne c_100_5 (fun h1_ => ?_) (fun h1_ => ?_)
  · refine w_aload c_100_14 rfl ?_
    refine w_getR c_100_15 sp_0 (by decide) rfl pr_0_8 ?_
    refine w_aload c_100_18 rfl ?_
    refine w_getR c_100_19 sp_0 (by decide) rfl pr_0_5 ?_
    refine wc_2 c_100_22 sp_44 (Nat.le_of_ble_eq_true rfl) (by omega) ?_
    have hcc := of_decide_eq_true h1_
    refine tc_remember (nx := nx) (ct := ct) aLk_36 hL hnx hct hnr hcr (by omega) (by omega) (fun I2 hl2 hn2 hc2 hF2 => ?_)
    have hL2 : lkX I2 36 kc X := hL.fac hsl aLk_36 (by omega) hF2
    have hW2 : cW I2 sh D cd := hW.fr (fun p k z1 z2 => hF2 p k (by show ¬ (p = 44 ∨ _); omega))
    have hdr2 : -1000000 ≤ (I2 42 1).toInt ∧ (I2 42 1).toInt ≤ 1000000 := by rw [hF2 42 1 (by show ¬ (42 = 44 ∨ _); omega)]; exact hdr
    refine r_v ?_
    refine z_push c_100_25 ?_
    refine w_istore c_100_26 (Nat.le_of_ble_eq_true rfl) rfl ?_
    refine z_push c_100_27 ?_
    refine w_istore c_100_28 (Nat.le_of_ble_eq_true rfl) rfl ?_
    suffices hA : aWp none d 100 29 [.ref 0, .int (iI ((v.toNat : Nat) : Int)), .int (iI 0), .int (iI ((0 : Nat) : Int)), .null] [] I2 L (aR sh su) Q by rw [show ((v.toNat : Nat) : Int) = v by omega] at hA; exact hA
    exact tc_years_1 hsh hS hW2 hX hsr (by omega) (by omega) hdr2 (by omega) _ 0 I2 L _ (Nat.lt_succ_self _) (by omega) ⟨Int.le_refl 0, Int.le_refl 0⟩ hL2 hLL frP.rf frG.rf (fun I3 L3 hL3 hLL3 hF3 hG3 => k1 hcc I3 L3 hL3 hLL3 (by rw [hF3 44 1 (by decide)]; exact hn2) (by rw [hF3 44 2 (by decide)]; exact hc2) (hl2.fr (fun c k z1 z2 => hF3 c k (by show ¬ (c = 43 ∨ _); omega))) ((frP.ac hF2).tr (frP.lc hF3)) hG3)
  · refine w_aload c_100_8 rfl ?_
    refine z_push c_100_9 ?_
    refine wc_108 c_100_10 sp_0 (Nat.le_of_ble_eq_true rfl) (by omega) ?_
    refine tc_refuse (by omega) ?_
    refine r_i ?_
    refine z_ret c_100_13 rfl ?_
    exact k2 (of_decide_eq_false h1_) _ up_eq (frG.rf.up (Or.inr ⟨rfl, rfl⟩))

