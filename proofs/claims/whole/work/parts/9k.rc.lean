/-! the reference: a deed told, the lake told (p9k.py) -/
set_option maxHeartbeats 1000000 in
theorem t_deedTold_62 {d : Nat} {I : aFI} {L : aFL} {Q : aPo} {T : Int → Int} {n : Int} {sh : Nat} {su : Option Nat} {a0 en0 b0 bp0 np nm : Int} {D : Nat → Int → Int} {cd : Nat → Option (List Int)} {m pz x y of : Int} {C0 : Cu} (hB : oB I T n) (hO : oW I) (hR : rB I L D cd m) (hx : 0 ≤ x ∧ x < 1000000000) (hC0 : cu T n C0 a0 en0 b0 bp0) (hg0 : C0.1 = 0 → D 1 2 < 8 ∧ 0 ≤ D 1 2) (hd : 6 ≤ d) (k : ∀ (I2 : aFI) (L2 : aFL) (a2 en2 b2 bp2 np2 nm2 : Int), cu T n (cNu (tkK T n) (tkP T n) (tkZ T n) 0 99 (cWd (tkK T n) (tkP T n) 312 (cNu (tkK T n) (tkP T n) (tkZ T n) 0 99 (cWd (tkK T n) (tkP T n) 311 (cNu (tkK T n) (tkP T n) (tkZ T n) 1 999 (cWd (tkK T n) (tkP T n) 310 C0)))))) a2 en2 b2 bp2 → ((cNu (tkK T n) (tkP T n) (tkZ T n) 0 99 (cWd (tkK T n) (tkP T n) 312 (cNu (tkK T n) (tkP T n) (tkZ T n) 0 99 (cWd (tkK T n) (tkP T n) 311 (cNu (tkK T n) (tkP T n) (tkZ T n) 1 999 (cWd (tkK T n) (tkP T n) 310 C0)))))).1 = 0 → ∃ I1 : aFI, tN I1 L2 (fun p => if p = 2 then (fun p : Nat => D 1 p) 2 + 1 else (fun p : Nat => D 1 p) p) (fun p i => if p = 2 ∧ i = (fun p : Nat => D 1 p) 2 then x else nmR D p i) ∧ frG (fun q p => q = 192 ∧ p = 2) I I1 ∧ I2 = aUp (aUp (aUp (aUp I1 197 (4 * D 1 2).toNat (iI of)) 197 (4 * D 1 2 + 1).toNat (iI (tkZ T n (C0.2.2 + 1)))) 197 (4 * D 1 2 + 2).toNat (iI (tkZ T n (C0.2.2 + 3)))) 197 (4 * D 1 2 + 3).toNat (iI (tkZ T n (C0.2.2 + 5)))) → frG PRd I I2 → frG PRl L L2 → Q none (oP I2 a2 en2 b2 bp2 np2 nm2) L2 (aR sh su)) : aWp none d 153 62 [.ref 157, .int (iI pz), .long (lI x), .null, .long (lI y), .null, .int (iI of), .null, .null, .null, .null] [] (oP I a0 en0 b0 bp0 np nm) L (aR sh su) Q := by
  refine w_aload c_153_62 rfl ?_
  refine w_aload c_153_63 rfl ?_
  refine w_getR c_153_64 sp_157 (by decide) rfl pr_157_21 ?_
  refine wc_139 c_153_67 sp_157 (Nat.le_of_ble_eq_true rfl) (by omega) ?_
  refine tu_asks hB hO (q := 170) (Or.inl ⟨by decide, by decide⟩) (m := 310) (wk_own ⟨by decide, by decide⟩ (by decide)) (by omega) hC0 (fun a1 en1 b1 bp1 hC1 => ?_)
  refine r_v ?_
  refine w_aload c_153_70 rfl ?_
  refine z_push c_153_71 ?_
  refine z_push c_153_72 ?_
  refine wc_142 c_153_75 sp_157 (Nat.le_of_ble_eq_true rfl) (by omega) ?_
  refine tu_number hB (by decide) (by decide) (by omega) hC1 (fun a2 en2 b2 bp2 np2 v2 hv2 hC2 hg2 => ?_)
  have hb2 := hC2.2.1
  refine r_i ?_
  refine w_istore c_153_78 (Nat.le_of_ble_eq_true rfl) rfl ?_
  refine w_aload c_153_80 rfl ?_
  refine w_aload c_153_81 rfl ?_
  refine w_getR c_153_82 sp_157 (by decide) rfl pr_157_22 ?_
  refine wc_139 c_153_85 sp_157 (Nat.le_of_ble_eq_true rfl) (by omega) ?_
  refine tu_asks hB hO (q := 171) (Or.inl ⟨by decide, by decide⟩) (m := 311) (wk_own ⟨by decide, by decide⟩ (by decide)) (by omega) hC2 (fun a3 en3 b3 bp3 hC3 => ?_)
  refine r_v ?_
  refine w_aload c_153_88 rfl ?_
  refine z_push c_153_89 ?_
  refine z_push c_153_90 ?_
  refine wc_142 c_153_92 sp_157 (Nat.le_of_ble_eq_true rfl) (by omega) ?_
  refine tu_number hB (by decide) (by decide) (by omega) hC3 (fun a4 en4 b4 bp4 np4 v4 hv4 hC4 hg4 => ?_)
  have hb4 := hC4.2.1
  refine r_i ?_
  refine w_istore c_153_95 (Nat.le_of_ble_eq_true rfl) rfl ?_
  refine w_aload c_153_97 rfl ?_
  refine w_aload c_153_98 rfl ?_
  refine w_getR c_153_99 sp_157 (by decide) rfl pr_157_23 ?_
  refine wc_139 c_153_102 sp_157 (Nat.le_of_ble_eq_true rfl) (by omega) ?_
  refine tu_asks hB hO (q := 172) (Or.inl ⟨by decide, by decide⟩) (m := 312) (wk_own ⟨by decide, by decide⟩ (by decide)) (by omega) hC4 (fun a5 en5 b5 bp5 hC5 => ?_)
  refine r_v ?_
  refine w_aload c_153_105 rfl ?_
  refine z_push c_153_106 ?_
  refine z_push c_153_107 ?_
  refine wc_142 c_153_109 sp_157 (Nat.le_of_ble_eq_true rfl) (by omega) ?_
  refine tu_number hB (by decide) (by decide) (by omega) hC5 (fun a6 en6 b6 bp6 np6 v6 hv6 hC6 hg6 => ?_)
  have hb6 := hC6.2.1
  refine r_i ?_
  refine w_istore c_153_112 (Nat.le_of_ble_eq_true rfl) rfl ?_
  refine w_aload c_153_114 rfl ?_
  refine z_getZ c_153_115 sp_157 (by decide) rfl rfl ?_
  refine z_if_eq c_153_118 (by first | exact aRg_of _ | (unfold aRg; omega)) (fun h1_ => ?_) (fun h1_ => ?_)
  · refine z_push c_153_122 ?_
    refine w_aload c_153_123 rfl ?_
    refine z_push c_153_124 ?_
    refine w_lload c_153_125 rfl ?_
    refine wc_149 c_153_126 sp_157 (Nat.le_of_ble_eq_true rfl) (by omega) ?_
    have f6 : (cNu (tkK T n) (tkP T n) (tkZ T n) 0 99 (cWd (tkK T n) (tkP T n) 312 (cNu (tkK T n) (tkP T n) (tkZ T n) 0 99 (cWd (tkK T n) (tkP T n) 311 (cNu (tkK T n) (tkP T n) (tkZ T n) 1 999 (cWd (tkK T n) (tkP T n) 310 C0)))))).1 = 0 := by have := hC6.1; omega
    have g6 := cNu_0 f6
    have g5 := cWd_0 g6.1
    have g4 := cNu_0 g5.1
    have g3 := cWd_0 g4.1
    have g2 := cNu_0 g3.1
    have g1 := cWd_0 g2.1
    have hv6 := (hg6 f6).1
    have hv4 := (hg4 g5.1).1
    have hv2 := (hg2 g3.1).1
    have hgg := hg0 g1.1
    rw [g5.2.2, g4.2.2.2.2, g3.2.2, g2.2.2.2.2, g1.2.2] at hv6
    rw [g3.2.2, g2.2.2.2.2, g1.2.2] at hv4
    rw [g1.2.2] at hv2
    have hc0 : D 1 2 < 8 := hgg.1
    refine t_adds2 (k := 2) (w := D 1 2) hR.1 (by decide) rfl rfl hc0 hx (fun I1 L1 hN1 hF1 hG1 => ?_)
    refine r_i ?_
    refine z_imul c_153_129 ?_
    refine w_istore c_153_130 (Nat.le_of_ble_eq_true rfl) rfl ?_
    refine w_aload c_153_132 rfl ?_
    refine w_getR c_153_133 sp_157 (by decide) rfl pr_157_49 ?_
    refine w_iload c_153_136 rfl ?_
    refine w_iload c_153_138 rfl ?_
    refine z_iastore c_153_140 sp_197 (by omega) (by decide) ?_
    rw [oP_out (by omega)]
    refine w_aload c_153_141 rfl ?_
    refine w_getR c_153_142 sp_157 (by decide) rfl pr_157_49 ?_
    refine w_iload c_153_145 rfl ?_
    refine z_push c_153_147 ?_
    refine z_iadd c_153_148 ?_
    refine w_iload c_153_149 rfl ?_
    refine z_iastore c_153_151 sp_197 (by omega) (by decide) ?_
    rw [oP_out (by omega)]
    refine w_aload c_153_152 rfl ?_
    refine w_getR c_153_153 sp_157 (by decide) rfl pr_157_49 ?_
    refine w_iload c_153_156 rfl ?_
    refine z_push c_153_158 ?_
    refine z_iadd c_153_159 ?_
    refine w_iload c_153_160 rfl ?_
    refine z_iastore c_153_162 sp_197 (by omega) (by decide) ?_
    rw [oP_out (by omega)]
    refine w_aload c_153_163 rfl ?_
    refine w_getR c_153_164 sp_157 (by decide) rfl pr_157_49 ?_
    refine w_iload c_153_167 rfl ?_
    refine z_push c_153_169 ?_
    refine z_iadd c_153_170 ?_
    refine w_iload c_153_171 rfl ?_
    refine z_iastore c_153_173 sp_197 (by omega) (by decide) ?_
    rw [oP_out (by omega)]
    refine z_retv c_153_174 ?_
    refine k _ L1 _ _ _ _ _ _ hC6 (fun _ => ⟨I1, hN1, hF1, ?_⟩) ?_ ?_
    · rw [hv6, hv4, hv2]
    · exact ((((hF1.mono (fun q p z => by have := z.1; have := z.2; omega)).up (by omega)).up (by omega)).up (by omega)).up (by omega)
    · exact hG1.mono (fun q p z => by have h1 := z.1; have h2 := z.2; have h3 : p = (8 * 2 + D 1 2).toNat := h2; omega)
  · refine z_retv c_153_121 ?_
    exact k I L _ _ _ _ _ _ hC6 (fun z => absurd (hC6.1.trans z) (by omega)) frG.rf frG.rf

set_option maxHeartbeats 1000000 in
theorem t_deedTold {d : Nat} {I : aFI} {L : aFL} {Q : aPo} {T : Int → Int} {n : Int} {sh : Nat} {su : Option Nat} {j : Nat} {a bp np nm : Int} {D : Nat → Int → Int} {cd : Nat → Option (List Int)} {m : Int} (hB : oB I T n) (hO : oW I) (hA : rA T n (j + 1) a) (hbp : bp = -1) (hR : rB I L D cd m) (hD : (0 ≤ D 1 0 ∧ D 1 0 ≤ 6) ∧ (0 ≤ D 1 1 ∧ D 1 1 ≤ 6) ∧ (0 ≤ D 1 2 ∧ D 1 2 ≤ 8)) (hd : 6 ≤ d) (k : ∀ (I2 : aFI) (L2 : aFL) (a2 en2 b2 bp2 np2 nm2 : Int), cu T n (sDe T (tkK T n) (tkP T n) (tkZ T n) D j) a2 en2 b2 bp2 → ((sDe T (tkK T n) (tkP T n) (tkZ T n) D j).1 = 0 → rB I2 L2 (dDe T (tkP T n) (tkZ T n) D j) cd m) → frG PRd I I2 → frG PRl L L2 → Q none (oP I2 a2 en2 b2 bp2 np2 nm2) L2 (aR sh su)) : aWp none d 153 0 [.ref 157, .int (iI (tkP T n j)), .null, .null, .null, .null, .null, .null, .null, .null, .null] [] (oT I T n (j + 1) a 0 bp np nm) L (aR sh su) Q := by
  refine w_aload c_153_0 rfl ?_
  refine z_push c_153_1 ?_
  refine z_push c_153_2 ?_
  refine w_iload c_153_4 rfl ?_
  refine wc_146 c_153_5 sp_157 (Nat.le_of_ble_eq_true rfl) (by omega) ?_
  refine t_isFull (k := 2) hR.1 (by decide) (by decide) (by have := tkP_rg (T := T) (n := n) (j := j) hB.2.2.1.1; have := hB.2.2.1; unfold aRg; omega) (by omega) (fun z1 => ?_) (fun z1 => ?_)
  · refine r_i ?_
    refine b_if_eq c_153_8 (fun h => Bool.noConfusion h) (fun _ => ?_)
    refine z_retv c_153_11 ?_
    have hs : sDe T (tkK T n) (tkP T n) (tkZ T n) D j = (5, tkP T n j, j) := if_pos z1
    rw [hs] at k
    exact k I L _ _ _ _ _ _ (cu.bad (by decide) (rA_aF hB.2.2.1 hA)) (fun z => absurd (show (5 : Int) = 0 from z) (by decide)) frG.rf frG.rf
  · refine r_i ?_
    refine b_if_eq c_153_8 (fun _ => ?_) (fun h => Bool.noConfusion h)
    refine w_aload c_153_12 rfl ?_
    refine wc_148 c_153_13 sp_157 (Nat.le_of_ble_eq_true rfl) (by omega) ?_
    have z1 : ¬ D 1 2 = 8 := z1
    have hs : sDe T (tkK T n) (tkP T n) (tkZ T n) D j = _ := if_neg z1
    rw [hs] at k
    refine tu_newName hB hO hR.1 (by omega) hA hbp (fun a1 en1 b1 bp1 nm1 x hx hC1 hgx => ?_)
    have hC1 : cu T n (cNp (tkK T n) (tkP T n) (tkZ T n) (cdu T (tkP T n) (tkZ T n) D (j + 1)) (0, 0, j + 1)) a1 en1 b1 bp1 := hC1
    have hgx : (cNp (tkK T n) (tkP T n) (tkZ T n) (cdu T (tkP T n) (tkZ T n) D (j + 1)) (0, 0, j + 1)).1 = 0 → x = nmc (nmJ T (tkP T n) (tkZ T n) (j + 1)) 6 := hgx
    refine r_l ?_
    refine w_lstore c_153_16 (Nat.le_of_ble_eq_true rfl) rfl ?_
    refine w_aload c_153_17 rfl ?_
    refine w_aload c_153_18 rfl ?_
    refine w_getR c_153_19 sp_157 (by decide) rfl pr_157_20 ?_
    refine wc_139 c_153_22 sp_157 (Nat.le_of_ble_eq_true rfl) (by omega) ?_
    refine tu_asks hB hO (q := 169) (Or.inl ⟨by decide, by decide⟩) (m := 309) (wk_own ⟨by decide, by decide⟩ (by decide)) (by omega) hC1 (fun a2 en2 b2 bp2 hC2 => ?_)
    refine r_v ?_
    refine w_aload c_153_25 rfl ?_
    refine wc_144 c_153_26 sp_157 (Nat.le_of_ble_eq_true rfl) (by omega) ?_
    refine tu_name hB hO (by omega) hC2 (fun a3 en3 b3 bp3 nm3 y hy hC3 hgy => ?_)
    have hb3 := hC3.2.1
    refine r_l ?_
    refine w_lstore c_153_29 (Nat.le_of_ble_eq_true rfl) rfl ?_
    refine w_aload c_153_31 rfl ?_
    refine z_push c_153_32 ?_
    refine w_lload c_153_33 rfl ?_
    refine wc_147 c_153_35 sp_157 (Nat.le_of_ble_eq_true rfl) (by omega) ?_
    have hrg := nxI_rg (N := nmR D 1) (x := y) (D 1 1).toNat 0 (by omega)
    refine t_nameOf2 (k := 1) (w := D 1 1) hR.1.oP (by decide) rfl rfl hy ?_
    refine r_i ?_
    refine w_istore c_153_38 (Nat.le_of_ble_eq_true rfl) rfl ?_
    refine w_aload c_153_40 rfl ?_
    refine z_getZ c_153_41 sp_157 (by decide) rfl rfl ?_
    refine z_if_ne c_153_44 (by first | exact aRg_of _ | (unfold aRg; omega)) (fun h3_ => ?_) (fun h3_ => ?_)
    · have g0 : (cWd (tkK T n) (tkP T n) 309 (cNp (tkK T n) (tkP T n) (tkZ T n) (cdu T (tkP T n) (tkZ T n) D (j + 1)) (0, 0, j + 1))).1 = 0 → (cWd (tkK T n) (tkP T n) 309 (cNp (tkK T n) (tkP T n) (tkZ T n) (cdu T (tkP T n) (tkZ T n) D (j + 1)) (0, 0, j + 1))).2.2 = j + 3 ∧ x = nmc (nmJ T (tkP T n) (tkZ T n) (j + 1)) 6 := fun z => by
        have g2 := cWd_0 z
        have g1 := cNp_0 g2.1
        refine ⟨?_, hgx g2.1⟩
        rw [g2.2.2, g1.2.2.2.2]
      have hce : cVl T (tkK T n) (tkP T n) (tkZ T n) D (cWd (tkK T n) (tkP T n) 309 (cNp (tkK T n) (tkP T n) (tkZ T n) (cdu T (tkP T n) (tkZ T n) D (j + 1)) (0, 0, j + 1))) = cNp (tkK T n) (tkP T n) (tkZ T n) False (cWd (tkK T n) (tkP T n) 309 (cNp (tkK T n) (tkP T n) (tkZ T n) (cdu T (tkP T n) (tkZ T n) D (j + 1)) (0, 0, j + 1))) := cNp_du (fun z => by have := hC3.1; omega)
      refine t_deedTold_62 hB hO hR hx (C0 := cVl T (tkK T n) (tkP T n) (tkZ T n) D (cWd (tkK T n) (tkP T n) 309 (cNp (tkK T n) (tkP T n) (tkZ T n) (cdu T (tkP T n) (tkZ T n) D (j + 1)) (0, 0, j + 1)))) (hce ▸ hC3) (fun _ => ⟨by omega, by omega⟩) (by omega) ?_
      intro I2 L2 a2 en2 b2 bp2 np2 nm2 hC hI hF hG
      refine k I2 L2 a2 en2 b2 bp2 np2 nm2 hC (fun z => ?_) hF hG
      obtain ⟨I1, hN1, hF1, hI2⟩ := hI z
      have q5 := cNu_0 z
      have q4 := cWd_0 q5.1
      have q3 := cNu_0 q4.1
      have q2 := cWd_0 q3.1
      have q1 := cNu_0 q2.1
      have q0 := cWd_0 q1.1
      have qv := cNp_0 q0.1
      have qg := g0 qv.1
      have qc : (cVl T (tkK T n) (tkP T n) (tkZ T n) D (cWd (tkK T n) (tkP T n) 309 (cNp (tkK T n) (tkP T n) (tkZ T n) (cdu T (tkP T n) (tkZ T n) D (j + 1)) (0, 0, j + 1)))).2.2 = j + 4 := by show (cNp _ _ _ _ _).2.2 = _; rw [qv.2.2.2.2, qg.1]
      rw [qc] at hI2
      exfalso; rw [hce] at q0; have := hC3.1; exact absurd (this.trans q0.1) (by omega)
    · refine w_iload c_153_47 rfl ?_
      refine z_push c_153_49 ?_
      refine z_ic_ne c_153_50 (by first | exact aRg_of _ | (unfold aRg; omega)) (by first | exact aRg_of _ | (unfold aRg; omega)) (fun h4_ => ?_) (fun h4_ => ?_)
      · have g0 : (cWd (tkK T n) (tkP T n) 309 (cNp (tkK T n) (tkP T n) (tkZ T n) (cdu T (tkP T n) (tkZ T n) D (j + 1)) (0, 0, j + 1))).1 = 0 → (cWd (tkK T n) (tkP T n) 309 (cNp (tkK T n) (tkP T n) (tkZ T n) (cdu T (tkP T n) (tkZ T n) D (j + 1)) (0, 0, j + 1))).2.2 = j + 3 ∧ x = nmc (nmJ T (tkP T n) (tkZ T n) (j + 1)) 6 := fun z => by
          have g2 := cWd_0 z
          have g1 := cNp_0 g2.1
          refine ⟨?_, hgx g2.1⟩
          rw [g2.2.2, g1.2.2.2.2]
        have f3 : (cNp (tkK T n) (tkP T n) (tkZ T n) False (cWd (tkK T n) (tkP T n) 309 (cNp (tkK T n) (tkP T n) (tkZ T n) (cdu T (tkP T n) (tkZ T n) D (j + 1)) (0, 0, j + 1)))).1 = 0 := by have := hC3.1; omega
        have p3 := cNp_0 f3
        have hy2 := hgy f3
        have hvx : nxI (nmR D 1) y 0 (D 1 1).toNat = vix T (tkP T n) (tkZ T n) D (cWd (tkK T n) (tkP T n) 309 (cNp (tkK T n) (tkP T n) (tkZ T n) (cdu T (tkP T n) (tkZ T n) D (j + 1)) (0, 0, j + 1))).2.2 := by rw [hy2.1]; rfl
        have hce : cVl T (tkK T n) (tkP T n) (tkZ T n) D (cWd (tkK T n) (tkP T n) 309 (cNp (tkK T n) (tkP T n) (tkZ T n) (cdu T (tkP T n) (tkZ T n) D (j + 1)) (0, 0, j + 1))) = cNp (tkK T n) (tkP T n) (tkZ T n) False (cWd (tkK T n) (tkP T n) 309 (cNp (tkK T n) (tkP T n) (tkZ T n) (cdu T (tkP T n) (tkZ T n) D (j + 1)) (0, 0, j + 1))) := by
          show cNp _ _ _ _ _ = _
          rw [cNp_4 p3.1 p3.2.1 p3.2.2.1 (fun z => z), cNp_4 p3.1 p3.2.1 p3.2.2.1 (fun z => by rw [← hvx] at z; omega)]
        refine t_deedTold_62 hB hO hR hx (C0 := cVl T (tkK T n) (tkP T n) (tkZ T n) D (cWd (tkK T n) (tkP T n) 309 (cNp (tkK T n) (tkP T n) (tkZ T n) (cdu T (tkP T n) (tkZ T n) D (j + 1)) (0, 0, j + 1)))) (hce ▸ hC3) (fun _ => ⟨by omega, by omega⟩) (by omega) ?_
        intro I2 L2 a2 en2 b2 bp2 np2 nm2 hC hI hF hG
        refine k I2 L2 a2 en2 b2 bp2 np2 nm2 hC (fun z => ?_) hF hG
        obtain ⟨I1, hN1, hF1, hI2⟩ := hI z
        have q5 := cNu_0 z
        have q4 := cWd_0 q5.1
        have q3 := cNu_0 q4.1
        have q2 := cWd_0 q3.1
        have q1 := cNu_0 q2.1
        have q0 := cWd_0 q1.1
        have qv := cNp_0 q0.1
        have qg := g0 qv.1
        have qc : (cVl T (tkK T n) (tkP T n) (tkZ T n) D (cWd (tkK T n) (tkP T n) 309 (cNp (tkK T n) (tkP T n) (tkZ T n) (cdu T (tkP T n) (tkZ T n) D (j + 1)) (0, 0, j + 1)))).2.2 = j + 4 := by show (cNp _ _ _ _ _).2.2 = _; rw [qv.2.2.2.2, qg.1]
        rw [qc] at hI2
        exact hR.de (j := j) hN1 hF1 qg.2 ⟨⟨hD.2.2.1, hD.1.2, hD.2.1.2⟩, by omega⟩ (by rw [hI2]; rw [show vix T (tkP T n) (tkZ T n) D (j + 3) = nxI (nmR D 1) y 0 (D 1 1).toNat by rw [hvx, (g0 p3.1).1]])
      · refine w_aload c_153_53 rfl ?_
        refine z_push c_153_54 ?_
        refine w_aload c_153_55 rfl ?_
        refine z_getZ c_153_56 sp_157 (by decide) rfl rfl ?_
        refine wc_133 c_153_59 sp_157 (Nat.le_of_ble_eq_true rfl) (by omega) ?_
        refine t_fail (by unfold aRg; omega) (fun z => absurd (by omega) z) (fun _ => ?_)
        refine r_v ?_
        have g0 : (cWd (tkK T n) (tkP T n) 309 (cNp (tkK T n) (tkP T n) (tkZ T n) (cdu T (tkP T n) (tkZ T n) D (j + 1)) (0, 0, j + 1))).1 = 0 → (cWd (tkK T n) (tkP T n) 309 (cNp (tkK T n) (tkP T n) (tkZ T n) (cdu T (tkP T n) (tkZ T n) D (j + 1)) (0, 0, j + 1))).2.2 = j + 3 ∧ x = nmc (nmJ T (tkP T n) (tkZ T n) (j + 1)) 6 := fun z => by
          have g2 := cWd_0 z
          have g1 := cNp_0 g2.1
          refine ⟨?_, hgx g2.1⟩
          rw [g2.2.2, g1.2.2.2.2]
        have f3 : (cNp (tkK T n) (tkP T n) (tkZ T n) False (cWd (tkK T n) (tkP T n) 309 (cNp (tkK T n) (tkP T n) (tkZ T n) (cdu T (tkP T n) (tkZ T n) D (j + 1)) (0, 0, j + 1)))).1 = 0 := by have := hC3.1; omega
        have p3 := cNp_0 f3
        have hy2 := hgy f3
        have hvx : nxI (nmR D 1) y 0 (D 1 1).toNat = vix T (tkP T n) (tkZ T n) D (cWd (tkK T n) (tkP T n) 309 (cNp (tkK T n) (tkP T n) (tkZ T n) (cdu T (tkP T n) (tkZ T n) D (j + 1)) (0, 0, j + 1))).2.2 := by rw [hy2.1]; rfl
        have hce : cVl T (tkK T n) (tkP T n) (tkZ T n) D (cWd (tkK T n) (tkP T n) 309 (cNp (tkK T n) (tkP T n) (tkZ T n) (cdu T (tkP T n) (tkZ T n) D (j + 1)) (0, 0, j + 1))) = (3, tkP T n (cWd (tkK T n) (tkP T n) 309 (cNp (tkK T n) (tkP T n) (tkZ T n) (cdu T (tkP T n) (tkZ T n) D (j + 1)) (0, 0, j + 1))).2.2, (cWd (tkK T n) (tkP T n) 309 (cNp (tkK T n) (tkP T n) (tkZ T n) (cdu T (tkP T n) (tkZ T n) D (j + 1)) (0, 0, j + 1))).2.2) := by
          show cNp _ _ _ _ _ = _
          rw [cNp_3 p3.1 p3.2.1 p3.2.2.1 (show vix T (tkP T n) (tkZ T n) D (cWd (tkK T n) (tkP T n) 309 (cNp (tkK T n) (tkP T n) (tkZ T n) (cdu T (tkP T n) (tkZ T n) D (j + 1)) (0, 0, j + 1))).2.2 = -1 by rw [← hvx]; omega)]
        refine t_deedTold_62 hB hO hR hx (C0 := cVl T (tkK T n) (tkP T n) (tkZ T n) D (cWd (tkK T n) (tkP T n) 309 (cNp (tkK T n) (tkP T n) (tkZ T n) (cdu T (tkP T n) (tkZ T n) D (j + 1)) (0, 0, j + 1)))) (by rw [hce]; rw [hy2.2]; exact cu.bad (by decide) (by rcases hC3.cs with ⟨_, _, h3, h4, _⟩ | ⟨h1, _⟩; exact h4 ▸ rA_aF hB.2.2.1 h3; exact absurd f3 h1)) (fun _ => ⟨by omega, by omega⟩) (by omega) ?_
        intro I2 L2 a2 en2 b2 bp2 np2 nm2 hC hI hF hG
        refine k I2 L2 a2 en2 b2 bp2 np2 nm2 hC (fun z => ?_) hF hG
        obtain ⟨I1, hN1, hF1, hI2⟩ := hI z
        have q5 := cNu_0 z
        have q4 := cWd_0 q5.1
        have q3 := cNu_0 q4.1
        have q2 := cWd_0 q3.1
        have q1 := cNu_0 q2.1
        have q0 := cWd_0 q1.1
        have qv := cNp_0 q0.1
        have qg := g0 qv.1
        have qc : (cVl T (tkK T n) (tkP T n) (tkZ T n) D (cWd (tkK T n) (tkP T n) 309 (cNp (tkK T n) (tkP T n) (tkZ T n) (cdu T (tkP T n) (tkZ T n) D (j + 1)) (0, 0, j + 1)))).2.2 = j + 4 := by show (cNp _ _ _ _ _).2.2 = _; rw [qv.2.2.2.2, qg.1]
        rw [qc] at hI2
        exfalso; rw [hce] at q0; exact absurd (show (3 : Int) = 0 from q0.1) (by decide)

