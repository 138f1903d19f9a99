/-! the reference: the lake told, rules told (p9l.py) -/
abbrev PLa : Nat → Nat → Prop := fun q k => q = 194 ∧ k < 3
theorem PLa.rd {I I2 : aFI} (h : frG PLa I I2) : frG PRd I I2 := h.mono (fun q k z => by have h1 := z.1; have h2 := z.2; omega)
theorem tu_numb2 {d : Nat} {I : aFI} {L : aFL} {Q : aPo} {T : Int → Int} {n : Int} {sh : Nat} {su : Option Nat} {C : Cu} {a en b bp np nm : Int} (hB : oB I T n) {lo hi : Int} (hlo : 0 ≤ lo ∧ lo < 20000) (hhi : 0 ≤ hi ∧ hi < 20000) (hd : 1 ≤ d) (hC : cu T n C a en b bp) (k : ∀ a2 en2 b2 bp2 np2 v : Int, (0 ≤ v ∧ v ≤ 9999) → cu T n (cNu (tkK T n) (tkP T n) (tkZ T n) lo hi C) a2 en2 b2 bp2 → ((cNu (tkK T n) (tkP T n) (tkZ T n) lo hi C).1 = 0 → np2 = tkP T n C.2.2 ∧ v = tkZ T n C.2.2 ∧ lo ≤ v ∧ v ≤ hi) → Q (some (.int (iI v))) (oP I a2 en2 b2 bp2 np2 nm) L (aR sh su)) : aWp none d 142 0 [.ref 157, .int (iI lo), .int (iI hi), .null, .null] [] (oP I a en b bp np nm) L (aR sh su) Q := by
  have hn := hB.2.2.1
  unfold cNu at k
  rcases hC.cs with ⟨h1, rfl, h3, rfl, hbp⟩ | ⟨h1, h2, h3, h4, h5⟩
  · rw [if_pos h1] at k
    refine tt_number hB hlo hhi hd h3 (fun z1 => ?_) (fun z1 z2 a2 en2 hA2 => ?_) (fun z1 z2 z3 a2 en2 hA2 => ?_) (fun z1 z2 z3 a2 hA2 => ?_)
    · rw [if_pos z1] at k; exact k _ _ _ _ _ 0 (by decide) (cu.bad (by decide) ⟨tkP_rg hn.1, en_rg hn⟩) (fun z => absurd (show (1 : Int) = 0 from z) (by decide))
    · rw [if_neg (fun z => z z1), if_pos z2] at k; exact k _ _ _ _ _ 0 (by decide) (cu.bad (by decide) hA2) (fun z => absurd (show (1 : Int) = 0 from z) (by decide))
    · rw [if_neg (fun z => z z1), if_neg (by omega), if_neg z3] at k; exact k _ _ _ _ _ _ z2 (cu.bad (by decide) hA2) (fun z => absurd (show (2 : Int) = 0 from z) (by decide))
    · rw [if_neg (fun z => z z1), if_neg (by omega), if_pos z3] at k; exact k _ _ _ _ _ _ z2 (cu.good hA2 hbp) (fun _ => ⟨rfl, rfl, z3⟩)
  · rw [if_neg h1] at k
    exact tf_number hB hlo hhi hd h2 h5 h3 (k _ _ _ _ _ 0 (by decide) hC (fun z => absurd z h1))
theorem cNu_b {K PL Z : Nat → Int} {lo lo2 hi : Int} {C : Cu} (h : ¬ (cNu K PL Z lo2 hi C).1 = 0) (hl : lo2 ≤ lo) : cNu K PL Z lo hi C = cNu K PL Z lo2 hi C := by
  unfold cNu at *
  by_cases h1 : C.1 = 0
  · rw [if_pos h1] at h ⊢
    rw [if_pos h1]
    by_cases h2 : K C.2.2 = 339
    · rw [if_neg (show ¬ ¬ K C.2.2 = 339 from fun z => z h2)] at h ⊢
      rw [if_neg (show ¬ ¬ K C.2.2 = 339 from fun z => z h2)]
      by_cases h3 : Z C.2.2 = -1
      · rw [if_pos h3, if_pos h3]
      · rw [if_neg h3] at h ⊢
        rw [if_neg h3]
        by_cases h4 : lo2 ≤ Z C.2.2 ∧ Z C.2.2 ≤ hi
        · rw [if_pos h4] at h; exact absurd rfl h
        · rw [if_neg h4, if_neg (by omega)]
    · rw [if_pos h2, if_pos h2]
  · rw [if_neg h1, if_neg h1]
theorem cNu_g {K PL Z : Nat → Int} {lo lo2 hi : Int} {C : Cu} (h : (cNu K PL Z lo2 hi C).1 = 0) : cNu K PL Z lo hi C = if lo ≤ Z C.2.2 then (0, 0, C.2.2 + 1) else (2, PL C.2.2, C.2.2) := by
  have g := cNu_0 h
  unfold cNu
  rw [if_pos g.1, if_neg (fun z => z g.2.1), if_neg g.2.2.1]
  by_cases h4 : lo ≤ Z C.2.2
  · rw [if_pos ⟨h4, g.2.2.2.1.2⟩, if_pos h4]
  · rw [if_neg (fun z => h4 z.1), if_neg h4]
set_option maxHeartbeats 1000000 in
theorem t_lake_105 {d : Nat} {I : aFI} {L : aFL} {Q : aPo} {T : Int → Int} {n : Int} {sh : Nat} {su : Option Nat} {C0 : Cu} {a0 en0 b0 bp0 np nm : Int} (hB : oB I T n) (hC0 : cu T n C0 a0 en0 b0 bp0) (hd : 3 ≤ d) (k : ∀ a2 en2 b2 bp2 : Int, cu T n (cWd (tkK T n) (tkP T n) 59 C0) a2 en2 b2 bp2 → Q none (oP I a2 en2 b2 bp2 np nm) L (aR sh su)) : aWp none d 150 105 [.ref 157] [] (oP I a0 en0 b0 bp0 np nm) L (aR sh su) Q := by
  refine w_aload c_150_105 rfl ?_
  refine z_push c_150_106 ?_
  refine wc_141 c_150_108 sp_157 (Nat.le_of_ble_eq_true rfl) (by omega) ?_
  refine tu_asksSign hB (by decide) (by omega) hC0 (fun a1 en1 b1 bp1 hC1 => ?_)
  refine r_v ?_
  refine z_retv c_150_111 ?_
  exact k _ _ _ _ hC1

set_option maxHeartbeats 1000000 in
theorem t_lakeTold {d : Nat} {I : aFI} {L : aFL} {Q : aPo} {T : Int → Int} {n : Int} {sh : Nat} {su : Option Nat} {a bp np nm : Int} (hB : oB I T n) (hO : oW I) (hA : rA T n 0 a) (hbp : bp = -1) (hd : 6 ≤ d) (k : ∀ (I2 : aFI) (a2 en2 b2 bp2 np2 nm2 : Int), cu T n (laC (tkK T n) (tkP T n) (tkZ T n)) a2 en2 b2 bp2 → ((laC (tkK T n) (tkP T n) (tkZ T n)).1 = 0 → I2 194 0 = iI (tkZ T n 2) ∧ I2 194 1 = iI (tkZ T n 4) ∧ I2 194 2 = iI (tkZ T n 6)) → frG PLa I I2 → Q none (oP I2 a2 en2 b2 bp2 np2 nm2) L (aR sh su)) : aWp none d 150 0 [.ref 157] [] (oT I T n 0 a 0 bp np nm) L (aR sh su) Q := by
  have hC0 : cu T n (0, 0, 0) a (tkS T n 0).2 0 bp := cu.good hA hbp
  have hn := hB.2.2.1
  refine w_aload c_150_0 rfl ?_
  refine w_aload c_150_1 rfl ?_
  refine w_getR c_150_2 sp_157 (by decide) rfl pr_157_11 ?_
  refine wc_139 c_150_5 sp_157 (Nat.le_of_ble_eq_true rfl) (by omega) ?_
  refine tu_asks hB hO (q := 160) (Or.inl ⟨by decide, by decide⟩) (m := 300) (wk_own ⟨by decide, by decide⟩ (by decide)) (by omega) hC0 (fun a1 en1 b1 bp1 hC1 => ?_)
  refine r_v ?_
  refine w_aload c_150_8 rfl ?_
  refine w_aload c_150_9 rfl ?_
  refine w_getR c_150_10 sp_157 (by decide) rfl pr_157_12 ?_
  refine wc_139 c_150_13 sp_157 (Nat.le_of_ble_eq_true rfl) (by omega) ?_
  refine tu_asks hB hO (q := 161) (Or.inl ⟨by decide, by decide⟩) (m := 301) (wk_own ⟨by decide, by decide⟩ (by decide)) (by omega) hC1 (fun a2 en2 b2 bp2 hC2 => ?_)
  refine r_v ?_
  refine w_aload c_150_16 rfl ?_
  refine w_getR c_150_17 sp_157 (by decide) rfl pr_157_46 ?_
  refine z_push c_150_20 ?_
  refine w_aload c_150_21 rfl ?_
  refine z_push c_150_22 ?_
  refine z_push c_150_23 ?_
  refine wc_142 c_150_26 sp_157 (Nat.le_of_ble_eq_true rfl) (by omega) ?_
  refine tu_numb2 hB (by decide) (by decide) (by omega) hC2 (fun a3 en3 b3 bp3 np3 v3 hv3 hC3 hg3 => ?_)
  have hb3 := hC3.2.1
  refine r_i ?_
  refine z_iastore c_150_29 sp_194 (by omega) (by decide) ?_
  refine oq_k (frG.rf (P := PLa) (I := I)) (by decide) (by decide) (fun I1 e1 hF1 => ?_)
  have hB1 := hB.rd (PLa.rd hF1)
  have hO1 := hO.rd (PLa.rd hF1)
  refine w_aload c_150_30 rfl ?_
  refine w_aload c_150_31 rfl ?_
  refine w_getR c_150_32 sp_157 (by decide) rfl pr_157_13 ?_
  refine wc_139 c_150_35 sp_157 (Nat.le_of_ble_eq_true rfl) (by omega) ?_
  refine tu_asks hB1 hO1 (q := 162) (Or.inl ⟨by decide, by decide⟩) (m := 302) (wk_own ⟨by decide, by decide⟩ (by decide)) (by omega) hC3 (fun a4 en4 b4 bp4 hC4 => ?_)
  refine r_v ?_
  refine w_aload c_150_38 rfl ?_
  refine w_getR c_150_39 sp_157 (by decide) rfl pr_157_46 ?_
  refine z_push c_150_42 ?_
  refine w_aload c_150_43 rfl ?_
  refine z_push c_150_44 ?_
  refine z_push c_150_45 ?_
  refine wc_142 c_150_48 sp_157 (Nat.le_of_ble_eq_true rfl) (by omega) ?_
  refine tu_numb2 hB1 (by decide) (by decide) (by omega) hC4 (fun a5 en5 b5 bp5 np5 v5 hv5 hC5 hg5 => ?_)
  have hb5 := hC5.2.1
  refine r_i ?_
  refine z_iastore c_150_51 sp_194 (by omega) (by decide) ?_
  refine oq_k hF1 (by decide) (by decide) (fun I2 e2 hF2 => ?_)
  have hB2 := hB.rd (PLa.rd hF2)
  have hO2 := hO.rd (PLa.rd hF2)
  refine w_aload c_150_52 rfl ?_
  refine w_aload c_150_53 rfl ?_
  refine w_getR c_150_54 sp_157 (by decide) rfl pr_157_14 ?_
  refine wc_139 c_150_57 sp_157 (Nat.le_of_ble_eq_true rfl) (by omega) ?_
  refine tu_asks hB2 hO2 (q := 163) (Or.inl ⟨by decide, by decide⟩) (m := 303) (wk_own ⟨by decide, by decide⟩ (by decide)) (by omega) hC5 (fun a6 en6 b6 bp6 hC6 => ?_)
  refine r_v ?_
  refine w_aload c_150_60 rfl ?_
  refine w_getR c_150_61 sp_157 (by decide) rfl pr_157_46 ?_
  refine z_push c_150_64 ?_
  refine w_aload c_150_65 rfl ?_
  refine z_push c_150_66 ?_
  refine z_push c_150_67 ?_
  refine wc_142 c_150_70 sp_157 (Nat.le_of_ble_eq_true rfl) (by omega) ?_
  refine tu_numb2 hB2 (by decide) (by decide) (by omega) hC6 (fun a7 en7 b7 bp7 np7 v7 hv7 hC7 hg7 => ?_)
  have hb7 := hC7.2.1
  refine r_i ?_
  refine z_iastore c_150_73 sp_194 (by omega) (by decide) ?_
  refine oq_k hF2 (by decide) (by decide) (fun I3 e3 hF3 => ?_)
  have hB3 := hB.rd (PLa.rd hF3)
  have hO3 := hO.rd (PLa.rd hF3)
  have hval : I3 194 2 = iI v7 ∧ I3 194 1 = iI v5 ∧ I3 194 0 = iI v3 := ⟨by rw [e3]; exact up_eq, by rw [e3, up_ne (by decide), e2]; exact up_eq, by rw [e3, up_ne (by decide), e2, up_ne (by decide), e1]; exact up_eq⟩
  refine w_aload c_150_74 rfl ?_
  refine z_getZ c_150_75 sp_157 (by decide) rfl rfl ?_
  refine z_if_ne c_150_78 (by first | exact aRg_of _ | (unfold aRg; omega)) (fun h1_ => ?_) (fun h1_ => ?_)
  · have hst : cNu (tkK T n) (tkP T n) (tkZ T n) (max 1 (tkZ T n 2)) 9999 (cWd (tkK T n) (tkP T n) 303 (cNu (tkK T n) (tkP T n) (tkZ T n) 0 9999 (cWd (tkK T n) (tkP T n) 302 (cNu (tkK T n) (tkP T n) (tkZ T n) 0 9999 (cWd (tkK T n) (tkP T n) 301 (cWd (tkK T n) (tkP T n) 300 (0, 0, 0))))))) = cNu (tkK T n) (tkP T n) (tkZ T n) 1 9999 (cWd (tkK T n) (tkP T n) 303 (cNu (tkK T n) (tkP T n) (tkZ T n) 0 9999 (cWd (tkK T n) (tkP T n) 302 (cNu (tkK T n) (tkP T n) (tkZ T n) 0 9999 (cWd (tkK T n) (tkP T n) 301 (cWd (tkK T n) (tkP T n) 300 (0, 0, 0))))))) := cNu_b (fun z => by have := hC7.1; omega) (by omega)
    refine t_lake_105 hB3 hC7 (by omega) (fun a2 en2 b2 bp2 hC => ?_)
    refine k I3 _ _ _ _ _ _ (by unfold laC; rw [hst]; exact hC) (fun z => ?_) hF3
    exfalso
    have z2 := cWd_0 z
    rw [hst] at z2
    have := hC7.1; omega
  · refine w_aload c_150_81 rfl ?_
    refine w_getR c_150_82 sp_157 (by decide) rfl pr_157_46 ?_
    refine z_push c_150_85 ?_
    refine z_iaload c_150_86 sp_194 (by omega) (by first | decide | omega) hval.1 ?_
    refine w_aload c_150_87 rfl ?_
    refine w_getR c_150_88 sp_157 (by decide) rfl pr_157_46 ?_
    refine z_push c_150_91 ?_
    refine z_iaload c_150_92 sp_194 (by omega) (by first | decide | omega) hval.2.2 ?_
    refine z_ic_ge c_150_93 (by first | exact aRg_of _ | (unfold aRg; omega)) (by first | exact aRg_of _ | (unfold aRg; omega)) (fun h2_ => ?_) (fun h2_ => ?_)
    · have f7 : (cNu (tkK T n) (tkP T n) (tkZ T n) 1 9999 (cWd (tkK T n) (tkP T n) 303 (cNu (tkK T n) (tkP T n) (tkZ T n) 0 9999 (cWd (tkK T n) (tkP T n) 302 (cNu (tkK T n) (tkP T n) (tkZ T n) 0 9999 (cWd (tkK T n) (tkP T n) 301 (cWd (tkK T n) (tkP T n) 300 (0, 0, 0)))))))).1 = 0 := by have := hC7.1; omega
      have g7 := cNu_0 f7
      have g6 := cWd_0 g7.1
      have g5 := cNu_0 g6.1
      have g4 := cWd_0 g5.1
      have g3 := cNu_0 g4.1
      have g2 := cWd_0 g3.1
      have g1 := cWd_0 g2.1
      have hv7 := hg7 f7
      have hv5 := hg5 g6.1
      have hv3 := hg3 g4.1
      rw [g6.2.2, g5.2.2.2.2, g4.2.2, g3.2.2.2.2, g2.2.2, g1.2.2] at hv7
      rw [g4.2.2, g3.2.2.2.2, g2.2.2, g1.2.2] at hv5
      rw [g2.2.2, g1.2.2] at hv3
      have hz7 : v7 = tkZ T n 6 := hv7.2.1
      have hz5 : v5 = tkZ T n 4 := hv5.2.1
      have hz3 : v3 = tkZ T n 2 := hv3.2.1
      have hm : (cWd (tkK T n) (tkP T n) 303 (cNu (tkK T n) (tkP T n) (tkZ T n) 0 9999 (cWd (tkK T n) (tkP T n) 302 (cNu (tkK T n) (tkP T n) (tkZ T n) 0 9999 (cWd (tkK T n) (tkP T n) 301 (cWd (tkK T n) (tkP T n) 300 (0, 0, 0))))))).2.2 = 6 := by rw [g6.2.2, g5.2.2.2.2, g4.2.2, g3.2.2.2.2, g2.2.2, g1.2.2]
      have hst : cNu (tkK T n) (tkP T n) (tkZ T n) (max 1 (tkZ T n 2)) 9999 (cWd (tkK T n) (tkP T n) 303 (cNu (tkK T n) (tkP T n) (tkZ T n) 0 9999 (cWd (tkK T n) (tkP T n) 302 (cNu (tkK T n) (tkP T n) (tkZ T n) 0 9999 (cWd (tkK T n) (tkP T n) 301 (cWd (tkK T n) (tkP T n) 300 (0, 0, 0))))))) = cNu (tkK T n) (tkP T n) (tkZ T n) 1 9999 (cWd (tkK T n) (tkP T n) 303 (cNu (tkK T n) (tkP T n) (tkZ T n) 0 9999 (cWd (tkK T n) (tkP T n) 302 (cNu (tkK T n) (tkP T n) (tkZ T n) 0 9999 (cWd (tkK T n) (tkP T n) 301 (cWd (tkK T n) (tkP T n) 300 (0, 0, 0))))))) := by
        rw [cNu_g f7, g7.2.2.2.2, hm, if_pos (by omega)]
      refine t_lake_105 hB3 hC7 (by omega) (fun a2 en2 b2 bp2 hC => ?_)
      exact k I3 _ _ _ _ _ _ (by unfold laC; rw [hst]; exact hC) (fun z => ⟨hz3 ▸ hval.2.2, hz5 ▸ hval.2.1, hz7 ▸ hval.1⟩) hF3
    · refine w_aload c_150_96 rfl ?_
      refine z_push c_150_97 ?_
      refine w_aload c_150_98 rfl ?_
      refine z_getZ c_150_99 sp_157 (by decide) rfl rfl ?_
      refine wc_133 c_150_102 sp_157 (Nat.le_of_ble_eq_true rfl) (by omega) ?_
      refine t_fail (by unfold aRg; omega) (fun z => absurd (by omega) z) (fun _ => ?_)
      refine r_v ?_
      have f7 : (cNu (tkK T n) (tkP T n) (tkZ T n) 1 9999 (cWd (tkK T n) (tkP T n) 303 (cNu (tkK T n) (tkP T n) (tkZ T n) 0 9999 (cWd (tkK T n) (tkP T n) 302 (cNu (tkK T n) (tkP T n) (tkZ T n) 0 9999 (cWd (tkK T n) (tkP T n) 301 (cWd (tkK T n) (tkP T n) 300 (0, 0, 0)))))))).1 = 0 := by have := hC7.1; omega
      have g7 := cNu_0 f7
      have g6 := cWd_0 g7.1
      have g5 := cNu_0 g6.1
      have g4 := cWd_0 g5.1
      have g3 := cNu_0 g4.1
      have g2 := cWd_0 g3.1
      have g1 := cWd_0 g2.1
      have hv7 := hg7 f7
      have hv5 := hg5 g6.1
      have hv3 := hg3 g4.1
      rw [g6.2.2, g5.2.2.2.2, g4.2.2, g3.2.2.2.2, g2.2.2, g1.2.2] at hv7
      rw [g4.2.2, g3.2.2.2.2, g2.2.2, g1.2.2] at hv5
      rw [g2.2.2, g1.2.2] at hv3
      have hz7 : v7 = tkZ T n 6 := hv7.2.1
      have hz5 : v5 = tkZ T n 4 := hv5.2.1
      have hz3 : v3 = tkZ T n 2 := hv3.2.1
      have hm : (cWd (tkK T n) (tkP T n) 303 (cNu (tkK T n) (tkP T n) (tkZ T n) 0 9999 (cWd (tkK T n) (tkP T n) 302 (cNu (tkK T n) (tkP T n) (tkZ T n) 0 9999 (cWd (tkK T n) (tkP T n) 301 (cWd (tkK T n) (tkP T n) 300 (0, 0, 0))))))).2.2 = 6 := by rw [g6.2.2, g5.2.2.2.2, g4.2.2, g3.2.2.2.2, g2.2.2, g1.2.2]
      have hst : cNu (tkK T n) (tkP T n) (tkZ T n) (max 1 (tkZ T n 2)) 9999 (cWd (tkK T n) (tkP T n) 303 (cNu (tkK T n) (tkP T n) (tkZ T n) 0 9999 (cWd (tkK T n) (tkP T n) 302 (cNu (tkK T n) (tkP T n) (tkZ T n) 0 9999 (cWd (tkK T n) (tkP T n) 301 (cWd (tkK T n) (tkP T n) 300 (0, 0, 0))))))) = (2, tkP T n 6, 6) := by
        rw [cNu_g f7, hm, if_neg (by omega)]
      have hnp : np7 = tkP T n 6 := hv7.1
      have hC8 : cu T n (2, tkP T n 6, 6) a7 en7 2 np7 := by
        rw [hnp]; refine cu.bad (by decide) ?_
        rcases hC7.cs with ⟨_, _, h3, h4, _⟩ | ⟨h1, _⟩
        · exact h4 ▸ rA_aF hn h3
        · exact absurd f7 h1
      refine t_lake_105 hB3 hC8 (by omega) (fun a2 en2 b2 bp2 hC => ?_)
      refine k I3 _ _ _ _ _ _ (by unfold laC; rw [hst]; exact hC) (fun z => ?_) hF3
      exfalso
      have z2 := (cWd_0 z).1
      rw [hst] at z2; exact absurd (show (2 : Int) = 0 from z2) (by decide)

