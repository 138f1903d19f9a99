/-! the class: a shore told (pa0.py) -/
theorem tkK_rg {T : Int → Int} {n : Int} (hTr : ∀ j : Int, 0 ≤ T j ∧ T j < 256) (j : Nat) : 0 ≤ tkK T n j ∧ tkK T n j ≤ 341 := by
  have h1 := wkC_rg (l := wrd T n (tkP T n j))
  have h2 := hTr (tkP T n j)
  unfold tkK
  repeat' split
  all_goals omega
theorem mkP.kB {I : aFI} {T : Int → Int} {n : Int} {E : Nat} (h : mkP I T n (E + 1)) (hTr : ∀ j : Int, 0 ≤ T j ∧ T j < 256) (hn : 0 ≤ n ∧ n ≤ 1600) (hE : ∀ j : Nat, tkK T n j = 341 ↔ E ≤ j) (hEn : (E : Int) ≤ n) : kB I ((E : Int) + 1) (tK T n) (tPl T n) (tZ T n) := by
  refine ⟨h.1.trans (congrArg iI (by omega)), fun j a b => h.2 j a (by omega), by omega, fun j a b => ⟨⟨(tkK_rg hTr _).1, (tkK_rg hTr _).2, tK_N hE j a b⟩, ?_, ?_⟩⟩
  · have := tkP_rg (T := T) (n := n) (j := j.toNat) hn.1
    show 0 ≤ tkP T n j.toNat ∧ tkP T n j.toNat ≤ 1600; omega
  · have := tkZ_rg (T := T) hn j.toNat
    show -1 ≤ tkZ T n j.toNat ∧ tkZ T n j.toNat ≤ 10000; omega
abbrev PBg : Nat → Nat → Prop := fun q k => PMk q k ∨ (q = 2 ∧ 5 ≤ k ∧ k ≤ 8)
theorem oS_s {I : aFI} {s : Nat} {a op f pl : Int} (h1 : I 2 5 = iI a) (h2 : I 2 6 = iI op) (h3 : I 2 7 = iI f) (h4 : I 2 8 = iI pl) : oS I s (Rs.mk a op f pl (I s 3).toInt (fun k => (I (s + 1) k.toNat).toInt)) = I := by
  funext q k
  unfold oS oR oU
  simp only [Rs.mka, Rs.mkop, Rs.mkf, Rs.mkpl, Rs.mkln, Rs.mkC]
  by_cases e1 : q = 2 ∧ k = 5
  · rw [if_pos e1, e1.1, e1.2]; exact h1.symm
  rw [if_neg e1]
  by_cases e2 : q = 2 ∧ k = 6
  · rw [if_pos e2, e2.1, e2.2]; exact h2.symm
  rw [if_neg e2]
  by_cases e3 : q = 2 ∧ k = 7
  · rw [if_pos e3, e3.1, e3.2]; exact h3.symm
  rw [if_neg e3]
  by_cases e4 : q = 2 ∧ k = 8
  · rw [if_pos e4, e4.1, e4.2]; exact h4.symm
  rw [if_neg e4]
  by_cases e5 : q = s ∧ k = 3
  · rw [if_pos e5, e5.1, e5.2]; exact (iI_of _).symm
  rw [if_neg e5]
  by_cases e6 : q = s + 1
  · rw [if_pos e6]; subst e6; exact (iI_of (I (s + 1) k)).symm
  · rw [if_neg e6]
theorem cdS.T {I : aFI} {s : Nat} {S : Rs} {N : Int} {cd : Nat → Option (List Int)} (hs : aSm s) (hg : gS N S) (h : cdS I s S cd) : cdT (oS I s S) s cd := by
  have hb := hg.2.2.2
  have h2 : ∀ k : Nat, oS I s S (s + 2) k = I (s + 2) k := fun k => oS_ne (by rcases hs with rfl | rfl | rfl <;> decide) (by omega) (by omega)
  have h3 : ∀ k : Nat, oS I s S (s + 3) k = I (s + 3) k := fun k => oS_ne (by rcases hs with rfl | rfl | rfl <;> decide) (by omega) (by omega)
  have hc : ∀ (l : List Int) (f : Int), 0 ≤ f → cAt S.C f l → codeAt (oS I s S) s f l := by
    intro l
    induction l with
    | nil => intro f _ _; trivial
    | cons m r ih =>
      intro f h0 h1
      refine ⟨?_, ih (f + 1) (by omega) h1.2⟩
      have e : oS I s S (s + 1) f.toNat = iI (S.C ((f.toNat : Nat) : Int)) := by
        unfold oS oR oU
        have q2 : ¬ s + 1 = 2 := by rcases hs with rfl | rfl | rfl <;> decide
        rw [if_neg (fun z => q2 z.1), if_neg (fun z => q2 z.1), if_neg (fun z => q2 z.1), if_neg (fun z => q2 z.1), if_neg (by omega), if_pos rfl]
      rw [e, Int.toNat_of_nonneg h0, h1.1]
  intro r hr
  rcases h r hr with ⟨a, b⟩ | ⟨l, f, a, b, c, d, e⟩
  · exact Or.inl ⟨a, (h2 r).trans b⟩
  · exact Or.inr ⟨l, f, a, ⟨b.1, by omega⟩, (h2 r).trans c, (h3 r).trans d, hc l f b.1 e⟩
theorem aR_sw {sh : Nat} {su : Option Nat} (hsh : sh = 8 ∨ sh = 22) : aUp (aUp (aUp (aR sh su) 0 3 (some (30 - sh))) 0 4 (some sh)) 42 0 (some (30 - sh)) = aR (30 - sh) su := by
  funext q k
  unfold aUp
  by_cases h1 : q = 42 ∧ k = 0
  · rw [if_pos h1, h1.1, h1.2]; rfl
  rw [if_neg h1]
  by_cases h2 : q = 0 ∧ k = 4
  · rw [if_pos h2, h2.1, h2.2]
    rcases hsh with rfl | rfl <;> rfl
  rw [if_neg h2]
  by_cases h3 : q = 0 ∧ k = 3
  · rw [if_pos h3, h3.1, h3.2]; rfl
  rw [if_neg h3]
  by_cases hq0 : q = 0
  · subst hq0
    match k, h2, h3 with
    | 0, _, _ => rfl
    | 1, _, _ => rfl
    | 2, _, _ => rfl
    | 3, _, z => exact absurd ⟨rfl, rfl⟩ z
    | 4, z, _ => exact absurd ⟨rfl, rfl⟩ z
    | k + 5, _, _ => rfl
  · by_cases hq : q = 42
    · subst hq
      match k, h1 with
      | 0, z => exact absurd ⟨rfl, rfl⟩ z
      | k + 1, _ => rfl
    · simp only [aR, aRT, hq0, hq, if_false]
set_option maxHeartbeats 1000000 in
theorem tb_begin {d : Nat} {I : aFI} {L : aFL} {Q : aPo} {sh : Nat} {su : Option Nat} {T : Int → Int} {n : Int} {E : Nat} (hT : ∀ j : Int, 0 ≤ j → j < 1600 → I 1 j.toNat = iI (T j)) (hTr : ∀ j : Int, 0 ≤ T j ∧ T j < 256) (hn : 0 ≤ n ∧ n ≤ 1600) (hE : ∀ j : Nat, tkK T n j = 341 ↔ E ≤ j) (hEn : (E : Int) ≤ n) (hd : 6 ≤ d) (k : ∀ I2 : aFI, kB I2 ((E : Int) + 1) (tK T n) (tPl T n) (tZ T n) → I2 2 5 = iI 0 → I2 2 6 = iI 0 → I2 2 7 = iI 0 → I2 2 8 = iI (-1) → frG PBg I I2 → Q none I2 L (aR sh su)) : aWp none d 20 0 [.ref 2, .int (iI n)] [] I L (aR sh su) Q := by
  refine w_aload c_20_0 rfl ?_
  refine w_getR c_20_1 sp_2 (by decide) rfl pr_2_1 ?_
  refine w_aload c_20_4 rfl ?_
  refine w_getR c_20_5 sp_2 (by decide) rfl pr_2_0 ?_
  refine w_iload c_20_8 rfl ?_
  refine wc_11 c_20_9 sp_3 (Nat.le_of_ble_eq_true rfl) (by omega) ?_
  refine tm_scan hT hTr hn hE hEn (by omega) (fun I1 hm1 hG1 => ?_)
  have hF1 : frG PBg I I1 := hG1.mono (fun q k z => Or.inl z)
  refine r_v ?_
  refine w_aload c_20_12 rfl ?_
  refine z_push c_20_13 ?_
  refine z_putZ c_20_14 sp_2 (by decide) rfl ?_
  refine upG_k hF1 (by decide) (fun I2 e2 hF2 => ?_)
  refine w_aload c_20_17 rfl ?_
  refine z_push c_20_18 ?_
  refine z_putZ c_20_19 sp_2 (by decide) rfl ?_
  refine upG_k hF2 (by decide) (fun I3 e3 hF3 => ?_)
  refine w_aload c_20_22 rfl ?_
  refine z_push c_20_23 ?_
  refine z_putZ c_20_24 sp_2 (by decide) rfl ?_
  refine upG_k hF3 (by decide) (fun I4 e4 hF4 => ?_)
  refine w_aload c_20_27 rfl ?_
  refine z_push c_20_28 ?_
  refine z_putZ c_20_29 sp_2 (by decide) rfl ?_
  refine upG_k hF4 (by decide) (fun I5 e5 hF5 => ?_)
  refine z_retv c_20_32 ?_
  refine k I5 ((hm1.kB hTr hn hE hEn).fr (fun q k a b => by rw [e5, up_ne (by omega), e4, up_ne (by omega), e3, up_ne (by omega), e2, up_ne (by omega)])) ?_ ?_ ?_ ?_ hF5
  · rw [e5, up_ne (by decide), e4, up_ne (by decide), e3, up_ne (by decide), e2]; exact up_eq
  · rw [e5, up_ne (by decide), e4, up_ne (by decide), e3]; exact up_eq
  · rw [e5, up_ne (by decide), e4]; exact up_eq
  · rw [e5]; exact up_eq

set_option maxHeartbeats 1000000 in
theorem tc_shore_24 {d x sh : Nat} {I0 : aFI} {L : aFL} {Q : aPo} {T : Int → Int} {n N : Int} {E : Nat} {v2 : Value} (hsh : sh = 8 ∨ sh = 22) (hx : x = 30 - sh) (hT : ∀ j : Int, 0 ≤ j → j < 1600 → I0 1 j.toNat = iI (T j) ∧ (0 ≤ T j ∧ T j < 256)) (hTr : ∀ j : Int, 0 ≤ T j ∧ T j < 256) (hn : 0 ≤ n ∧ n ≤ 1600) (hNE : N = (E : Int) + 1) (hK : kB I0 N (tK T n) (tPl T n) (tZ T n)) (hE : ∀ j : Nat, tkK T n j = 341 ↔ E ≤ j) (hEn : (E : Int) ≤ n) (hd : 85 ≤ d) : ∀ (f : Nat) (cnt : Int) (C : Cu) (D : Nat → Int → Int) (cd : Nat → Option (List Int)) (I : aFI) (S : Rs) (su : Option Nat), (gS N S) → (cc C S) → (C.1 = 0 → C.2.2 ≤ E) → (C.1 = 0 → cD I x D ∧ rgD D ∧ cdS I (x + 10) S cd ∧ wfP D cd ∧ S.ln ≤ S.a ∧ cnt ≤ 70) → (1 ≤ cnt ∧ cnt ≤ 71) → (71 < cnt + f) → (frG (PCf x) I0 I) → (∀ (I2 : aFI) (S2 : Rs) (su2 : Option Nat), gS N S2 → cc (stN T (tkK T n) (tkP T n) (tkZ T n) f cnt C D cd).2.1 S2 → ((stN T (tkK T n) (tkP T n) (tkZ T n) f cnt C D cd).2.1.1 = 0 → cD I2 x (stN T (tkK T n) (tkP T n) (tkZ T n) f cnt C D cd).2.2.1 ∧ rgD (stN T (tkK T n) (tkP T n) (tkZ T n) f cnt C D cd).2.2.1 ∧ cdS I2 (x + 10) S2 (stN T (tkK T n) (tkP T n) (tkZ T n) f cnt C D cd).2.2.2 ∧ wfP (stN T (tkK T n) (tkP T n) (tkZ T n) f cnt C D cd).2.2.1 (stN T (tkK T n) (tkP T n) (tkZ T n) f cnt C D cd).2.2.2 ∧ (1 ≤ (stN T (tkK T n) (tkP T n) (tkZ T n) f cnt C D cd).1 ∧ (stN T (tkK T n) (tkP T n) (tkZ T n) f cnt C D cd).1 ≤ 71)) → frG (PCf x) I0 I2 → aWp none d 78 58 [.ref 0, .int (iI (stN T (tkK T n) (tkP T n) (tkZ T n) f cnt C D cd).1), v2] [] (oS I2 (x + 10) S2) L (aR sh su2) Q) → aWp none d 78 24 [.ref 0, .int (iI cnt), v2] [] (oS I (x + 10) S) L (aR sh su) Q := by
  intro f
  induction f with
  | zero =>
    intro cnt C D cd I S su hg hC hcE hr hcr hf hF k
    exfalso; omega
  | succ f ih =>
    intro cnt C D cd I S su hg hC hcE hr hcr hf hF k
    have hx2 : x = 8 ∨ x = 22 := by omega
    have hs : aSm (x + 10) := aSm_sh hx2
    have hb := hg
    unfold gS at hb
    have hKI := hK.cf hx2 hF
    refine w_iload c_78_24 rfl ?_
    refine z_push c_78_25 ?_
    refine z_ic_gt c_78_27 (by first | exact aRg_of _ | (unfold aRg; omega)) (by first | exact aRg_of _ | (unfold aRg; omega)) (fun h1_ => ?_) (fun h1_ => ?_)
    · rw [stN_e (fun z => by have := (hr z.1).2.2.2.2.2; omega)] at k
      exact k I S su hg hC (fun z => ⟨(hr z).1, (hr z).2.1, (hr z).2.2.1, (hr z).2.2.2.1, hcr⟩) hF
    · refine w_aload c_78_30 rfl ?_
      refine w_getR c_78_31 sp_0 (by decide) rfl pr_0_2 ?_
      refine wc_21 c_78_34 sp_2 (Nat.le_of_ble_eq_true rfl) (by omega) ?_
      refine tc_goesOn (kB_U hs hKI) hg.1.1 hg.1.2 hg.2.2.1 (by omega) (fun z1 z2 => ?_) (fun z1 => ?_)
      · refine r_i ?_
        refine b_if_eq c_78_37 (fun h => Bool.noConfusion h) (fun _ => ?_)
        refine w_aload c_78_40 rfl ?_
        refine w_getR c_78_41 sp_0 (by decide) rfl pr_0_2 ?_
        refine w_aload c_78_44 rfl ?_
        refine w_getR c_78_45 sp_0 (by decide) rfl (show aR sh su 0 4 = some x from hx ▸ pr_0_4) ?_
        refine w_iload c_78_48 rfl ?_
        refine wc_23 c_78_49 sp_2 (Nat.le_of_ble_eq_true rfl) (by omega) ?_
        have hc0 : C.1 = 0 := hC.1.symm.trans z1
        obtain ⟨hD, hDr, hcd, hwf, hln, hc70⟩ := hr hc0
        have hat := cc.at (T := T) (n := n) (hC.2.1 z1).1
        have hK0 : ¬ tkK T n C.2.2 = 341 := fun y => z2 (hat.1.trans y)
        have hjE : C.2.2 < E := by have := (hE C.2.2).mpr; have := hcE hc0; omega
        have hst := stN_s (T := T) (PL := tkP T n) (Z := tkZ T n) (f := f) (cnt := cnt) (D := D) (cd := cd) (C := C) ⟨hc0, hK0⟩
        rw [hst] at k
        have hCz : cc (0, 0, C.2.2) S := ⟨z1, hC.2.1, fun y => absurd z1 y⟩
        refine tb_readStatement hx2 (hT_cf hT hx2 hF) hTr hn hKI hg hCz hK0 hD hwf hDr hcd hln ⟨by omega, hc70⟩ (by omega) (fun I2 S2 su2 hg2 hC2 hr2 hF2 => ?_)
        refine r_v ?_
        refine z_iinc c_78_52 rfl rfl ?_
        refine w_goto c_78_55 ?_
        refine ih (cnt + 1) _ _ _ I2 S2 su2 hg2 hC2 (fun z => stS_E hE hn hEn hjE z) (fun z => ?_) ⟨by omega, by omega⟩ (by omega) (hF.tr hF2) k
        have h7 := hr2 (hC2.1.trans z)
        exact ⟨h7.1, h7.2.1, h7.2.2.1, stS_wf hTr hn hE hEn hwf hjE z, h7.2.2.2, by have := stS_70 z; omega⟩
      · refine r_i ?_
        refine b_if_eq c_78_37 (fun _ => ?_) (fun h => Bool.noConfusion h)
        have hno : ¬ (C.1 = 0 ∧ ¬ tkK T n C.2.2 = 341) := by
          intro y
          have hf0 : S.f = 0 := hC.1.trans y.1
          rcases z1 with z1 | z1
          · exact z1 hf0
          · have hat := cc.at (T := T) (n := n) (hC.2.1 hf0).1
            exact y.2 (hat.1.symm.trans z1)
        rw [stN_e hno] at k
        exact k I S su hg hC (fun z => ⟨(hr z).1, (hr z).2.1, (hr z).2.2.1, (hr z).2.2.2.1, hcr⟩) hF

abbrev PCsh (x : Nat) : Nat → Nat → Prop := fun q k => (q = 0 ∧ (k = 1 ∨ k = 14 ∨ k = 15)) ∨ PMk q k ∨ (q = 2 ∧ 4 ≤ k ∧ k ≤ 8) ∨ q = 7 ∨ (x ≤ q ∧ q ≤ x + 13) ∨ (36 ≤ q ∧ q ≤ 38) ∨ q = 44
abbrev PCsf (x : Nat) : Nat → Nat → Prop := fun q k => (q = 0 ∧ k = 1) ∨ PMk q k ∨ (q = 2 ∧ 4 ≤ k ∧ k ≤ 8) ∨ q = 7 ∨ (x ≤ q ∧ q ≤ x + 13) ∨ (q = 156 ∧ k = 1)
theorem oS_fr {I I2 : aFI} {s : Nat} {S S2 : Rs} {P : Nat → Nat → Prop} (h : frG P I I2) : frG (fun q k => P q k ∨ (q = 2 ∧ 5 ≤ k ∧ k ≤ 8) ∨ q = s ∨ q = s + 1) (oS I s S) (oS I2 s S2) := fun q k hq => by
  have h1 : ¬ P q k := fun z => hq (Or.inl z)
  have h2 : ¬ (q = 2 ∧ 5 ≤ k ∧ k ≤ 8) := fun z => hq (Or.inr (Or.inl z))
  have h3 : ¬ q = s := fun z => hq (Or.inr (Or.inr (Or.inl z)))
  have h4 : ¬ q = s + 1 := fun z => hq (Or.inr (Or.inr (Or.inr z)))
  unfold oS oR oU
  rw [if_neg (by omega), if_neg (by omega), if_neg (by omega), if_neg (by omega), if_neg (fun z => h3 z.1), if_neg h4, if_neg (by omega), if_neg (by omega), if_neg (by omega), if_neg (by omega), if_neg (fun z => h3 z.1), if_neg h4]
  exact h q k h1
set_option maxHeartbeats 1000000 in
theorem tc_shore {d sh : Nat} {I : aFI} {L : aFL} {Q : aPo} {T : Int → Int} {n : Int} {E : Nat} {su : Option Nat} (hsh : sh = 8 ∨ sh = 22) (hn1 : I 0 1 = iI n) (hn : 0 ≤ n ∧ n ≤ 1600) (hT : ∀ j : Int, 0 ≤ j → j < 1600 → I 1 j.toNat = iI (T j)) (hTr : ∀ j : Int, 0 ≤ T j ∧ T j < 256) (hE : ∀ j : Nat, tkK T n j = 341 ↔ E ≤ j) (hEn : (E : Int) ≤ n) (hd : 86 ≤ d) (k1 : ∀ (D0 : Nat → Int → Int) (I2 : aFI) (su2 : Option Nat), (shN T n D0).2.1.1 = 0 → wfP (shN T n D0).2.2.1 (shN T n D0).2.2.2 → rgD (shN T n D0).2.2.1 → cW I2 (30 - sh) (shN T n D0).2.2.1 (shN T n D0).2.2.2 → lkX I2 36 0 (X0 (shN T n D0).2.2.1) → I2 44 1 = iI 0 → I2 44 2 = iI 0 → I2 0 14 = iI (-1) → I2 0 15 = iI (-1) → I2 2 7 = iI 0 → I2 2 8 = iI (-1) → I2 0 1 = iI 0 → frG (PCsh (30 - sh)) I I2 → Q (some (.int (iI (shN T n D0).1))) I2 L (aR (30 - sh) su2)) (k2 : ∀ (D0 : Nat → Int → Int) (I2 : aFI) (su2 : Option Nat), ¬ (shN T n D0).2.1.1 = 0 → I2 2 7 = iI (shN T n D0).2.1.1 → I2 2 8 = iI (shN T n D0).2.1.2.1 → I2 0 1 = iI 0 → I2 156 1 = iI ((I 156 1).toInt + 1) → frG (PCsf (30 - sh)) I I2 → Q (some (.int (iI (-1)))) I2 L (aR sh su2)) : aWp none d 78 0 [.ref 0, .null, .null] [] I L (aR sh su) Q := by
  obtain ⟨x, hx⟩ : ∃ x : Nat, x = 30 - sh := ⟨_, rfl⟩
  have hx2 : x = 8 ∨ x = 22 := by omega
  have hs : aSm (x + 10) := aSm_sh hx2
  rw [← hx] at k1 k2
  refine z_push c_78_0 ?_
  refine w_istore c_78_1 (Nat.le_of_ble_eq_true rfl) rfl ?_
  refine w_aload c_78_2 rfl ?_
  refine w_getR c_78_3 sp_0 (by decide) rfl pr_0_2 ?_
  refine w_aload c_78_6 rfl ?_
  refine wc_110 c_78_7 sp_0 (Nat.le_of_ble_eq_true rfl) (by omega) ?_
  refine tc_takeTape hn1 ?_
  generalize e1 : aUp I 0 1 (iI 0) = I1
  have hI1 : ∀ q k : Nat, ¬ (q = 0 ∧ k = 1) → I1 q k = I q k := fun q k h => by rw [← e1]; exact up_ne h
  have hI1t : I1 0 1 = iI 0 := by rw [← e1]; exact up_eq
  refine r_i ?_
  refine wc_20 c_78_10 sp_2 (Nat.le_of_ble_eq_true rfl) (by omega) ?_
  refine tb_begin (fun j a b => (hI1 1 _ (by omega)).trans (hT j a b)) hTr hn hE hEn (by omega) (fun I2 hK2 b5 b6 b7 b8 hF2 => ?_)
  refine r_v ?_
  refine w_aload c_78_13 rfl ?_
  refine w_getR c_78_14 sp_0 (by decide) rfl pr_0_2 ?_
  refine w_aload c_78_17 rfl ?_
  refine w_getR c_78_18 sp_0 (by decide) rfl (show aR sh _ 0 4 = some x from hx ▸ pr_0_4) ?_
  refine wc_22 c_78_21 sp_2 (Nat.le_of_ble_eq_true rfl) (by omega) ?_
  have hos := oS_s (I := I2) (s := x + 10) b5 b6 b7 b8
  rw [← hos]
  refine tb_readLake hx2 hn hK2 ?_ ?_ (by omega) (fun I3 S3 hg3 hC3 hr3 hl3 hF3 => ?_)
  · unfold gS rL0; simp only [Rs.mka, Rs.mkop, Rs.mkf, Rs.mkpl, Rs.mkln]; omega
  · exact cc.ok rfl rfl rfl rfl
  refine r_v ?_
  have hlm := laC_m (K := tkK T n) (PL := tkP T n) (Z := tkZ T n)
  refine tc_shore_24 (I0 := I3) hsh hx (fun j a b => ⟨(hF3 1 _ (by omega)).trans ((hF2 1 _ (by omega)).trans ((hI1 1 _ (by omega)).trans (hT j a b))), hTr j⟩) hTr hn rfl (hK2.cf hx2 hF3) hE hEn (by omega) 100 1 (laC (tkK T n) (tkP T n) (tkZ T n)) (laD (tkZ T n) (mD I2 x)) (fun _ => none) I3 S3 su hg3 hC3 (laC_E hE) (fun z => ?_) (by decide) (by decide) frG.rf ?_
  · have h9 := hr3 (hC3.1.trans z)
    refine ⟨h9.1, h9.2.1, fun r hr => Or.inl ⟨rfl, h9.2.2 r (by omega)⟩, laD_wf (hlm z).2, ?_, by decide⟩
    have := hg3.1; omega
  intro I4 S4 su4 hg4 hC4 hr4 hF4
  have hb4 := hg4
  unfold gS at hb4
  have hF : frG (fun q k => (q = 0 ∧ k = 1) ∨ PMk q k ∨ (q = 2 ∧ 4 ≤ k ∧ k ≤ 8) ∨ q = 7 ∨ (x ≤ q ∧ q ≤ x + 13)) I (oS I4 (x + 10) S4) := fun q k hq => by
    have h0 : I4 q k = I q k := by rw [hF4 q k (by omega), hF3 q k (by omega), hF2 q k (by omega), hI1 q k (by omega)]
    by_cases h2 : q = 2
    · subst h2
      unfold oS oR oU
      rw [if_neg (by omega), if_neg (by omega), if_neg (by omega), if_neg (by omega), if_neg (by omega), if_neg (by omega)]; exact h0
    · rw [oS_ne h2 (by omega) (by omega)]; exact h0
  refine w_aload c_78_58 rfl ?_
  refine w_getR c_78_59 sp_0 (by decide) rfl pr_0_2 ?_
  refine z_getZ c_78_62 sp_2 (by decide) rfl rfl ?_
  refine z_if_eq c_78_65 (by first | exact aRg_of _ | (unfold aRg; omega)) (fun h51_ => ?_) (fun h51_ => ?_)
  · have hZ : (shN T n (mD I2 x)).2.1.1 = 0 := hC4.1.symm.trans h51_
    have HZf : S4.f = 0 := h51_
    obtain ⟨hD, hDr, hcd, hwf, hct⟩ := hr4 hZ
    refine w_aload c_78_74 rfl ?_
    refine w_getR c_78_75 sp_0 (by decide) rfl pr_0_3 ?_
    refine w_astore c_78_78 (Nat.le_of_ble_eq_true rfl) rfl ?_
    refine w_aload c_78_79 rfl ?_
    refine w_aload c_78_80 rfl ?_
    refine w_getR c_78_81 sp_0 (by decide) rfl pr_0_4 ?_
    refine w_putR c_78_84 sp_0 (by decide) rfl ?_
    refine w_aload c_78_87 rfl ?_
    refine w_aload c_78_88 rfl ?_
    refine w_putR c_78_89 sp_0 (by decide) rfl ?_
    refine w_aload c_78_92 rfl ?_
    refine w_getR c_78_93 sp_0 (by decide) rfl (show aUp (aUp (aR sh su4) 0 3 (some (30 - sh))) 0 4 (some sh) 0 7 = some 42 from rfl) ?_
    refine w_aload c_78_96 rfl ?_
    refine w_getR c_78_97 sp_0 (by decide) rfl (show aUp (aUp (aR sh su4) 0 3 (some (30 - sh))) 0 4 (some sh) 0 3 = some (30 - sh) from rfl) ?_
    refine w_putR c_78_100 sp_42 (by decide) rfl ?_
    show aWp _ _ _ _ _ _ _ _ (aUp (aUp (aUp (aR sh su4) 0 3 (some (30 - sh))) 0 4 (some sh)) 42 0 (some (30 - sh))) _
    rw [aR_sw hsh]
    refine w_aload c_78_103 rfl ?_
    refine w_getR c_78_104 sp_0 (by decide) rfl pr_0_5 ?_
    refine w_aload c_78_107 rfl ?_
    refine w_getR c_78_108 sp_0 (by decide) rfl (show aR (30 - sh) _ 0 3 = some x from hx ▸ pr_0_3) ?_
    refine z_getZ c_78_111 (sps_0 hx2) (by decide) rfl ((oS_x0 hs hx2).trans hD.2.1.2.1) ?_
    refine w_aload c_78_114 rfl ?_
    refine w_getR c_78_115 sp_0 (by decide) rfl (show aR (30 - sh) _ 0 3 = some x from hx ▸ pr_0_3) ?_
    refine z_getZ c_78_118 (sps_0 hx2) (by decide) rfl ((oS_x0 hs hx2).trans hD.2.1.2.2.1) ?_
    refine wc_5 c_78_121 sp_36 (Nat.le_of_ble_eq_true rfl) (by omega) ?_
    refine tc_lbegin aLk_36 (fun I6 hL6 hF6 => ?_)
    refine r_v ?_
    refine w_aload c_78_124 rfl ?_
    refine w_getR c_78_125 sp_0 (by decide) rfl pr_0_8 ?_
    refine wc_1 c_78_128 sp_44 (Nat.le_of_ble_eq_true rfl) (by omega) ?_
    refine tc_forget (fun I7 h71 h72 hF7 => ?_)
    refine r_v ?_
    refine w_aload c_78_131 rfl ?_
    refine z_push c_78_132 ?_
    refine z_putZ c_78_133 sp_0 (by decide) rfl ?_
    refine upG_k (frG.rf (P := fun _ _ => True) (I := I7)) trivial (fun I8 e8 _ => ?_)
    refine w_aload c_78_136 rfl ?_
    refine z_push c_78_137 ?_
    refine z_putZ c_78_138 sp_0 (by decide) rfl ?_
    refine upG_k (frG.rf (P := fun _ _ => True) (I := I8)) trivial (fun I9 e9 _ => ?_)
    refine w_iload c_78_141 rfl ?_
    refine z_ret c_78_142 rfl ?_
    have f9 : frG (PCsh x) I I9 := fun q k hq => by
      rw [e9, up_ne (by omega), e8, up_ne (by omega), hF7 q k (by omega), hF6 q k (by show ¬ (36 ≤ q ∧ q ≤ 38); omega)]
      exact hF q k (by omega)
    have k9 : ∀ q k : Nat, ¬ q = 0 → ¬ q = 44 → ¬ (36 ≤ q ∧ q ≤ 38) → I9 q k = oS I4 (x + 10) S4 q k := fun q k a b c => by
      rw [e9, up_ne (by omega), e8, up_ne (by omega), hF7 q k (by omega), hF6 q k (by show ¬ (36 ≤ q ∧ q ≤ 38); omega)]
    rw [← hx]
    refine k1 (mD I2 x) I9 su4 hZ hwf hDr ⟨?_, ?_⟩ ?_ ?_ ?_ ?_ ?_ ?_ ?_ ?_ f9
    · exact (hD.fr (I2 := oS I4 (x + 10) S4) (fun p k a b => oS_ne (by omega) (by omega) (by omega))).fr (fun p k a b => k9 p k (by omega) (by omega) (by omega))
    · exact (cdS.T hs hg4 hcd).fr (fun p k a b => k9 p k (by omega) (by omega) (by omega))
    · refine hL6.fr (fun p k a b => ?_)
      rw [e9, up_ne (by omega), e8, up_ne (by omega), hF7 p k (by omega)]
    · rw [e9, up_ne (by decide), e8, up_ne (by decide)]; exact h71
    · rw [e9, up_ne (by decide), e8, up_ne (by decide)]; exact h72
    · rw [e9, up_ne (by decide), e8]; exact up_eq
    · rw [e9]; exact up_eq
    · rw [k9 2 7 (by decide) (by decide) (by decide)]; show iI S4.f = _; rw [HZf]
    · rw [k9 2 8 (by decide) (by decide) (by decide)]; show iI S4.pl = _; rw [(hC4.2.1 HZf).2.2]
    · rw [e9, up_ne (by decide), e8, up_ne (by decide), hF7 0 1 (by omega), hF6 0 1 (by show ¬ (36 ≤ 0 ∧ 0 ≤ 38); omega)]
      exact (oS_ne (by decide) (by omega) (by omega)).trans ((hF4 0 1 (by omega)).trans ((hF3 0 1 (by omega)).trans ((hF2 0 1 (by omega)).trans hI1t)))
  · refine w_aload c_78_68 rfl ?_
    refine z_push c_78_69 ?_
    refine wc_108 c_78_70 sp_0 (Nat.le_of_ble_eq_true rfl) (by omega) ?_
    refine tc_refuse (by decide) ?_
    refine r_i ?_
    refine z_ret c_78_73 rfl ?_
    refine k2 (mD I2 x) _ su4 (fun z => h51_ (hC4.1.trans z)) ?_ ?_ ?_ ?_ ?_
    · rw [up_ne (by decide)]; show iI S4.f = _; rw [hC4.1]; rfl
    · rw [up_ne (by decide)]; show iI S4.pl = _; rw [hC4.2.2 h51_]; rfl
    · rw [up_ne (by decide)]; exact (oS_ne (by decide) (by omega) (by omega)).trans ((hF4 0 1 (by omega)).trans ((hF3 0 1 (by omega)).trans ((hF2 0 1 (by omega)).trans hI1t)))
    · refine up_eq.trans ?_
      show iI ((oS I4 (x + 10) S4 156 1).toInt + 1) = _
      rw [hF 156 1 (by omega)]
    · intro q k hq
      rw [up_ne (by omega)]
      exact hF q k (by omega)

