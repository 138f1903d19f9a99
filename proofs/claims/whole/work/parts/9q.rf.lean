/-! the reference: a statement, a shore told (p9q.py) -/
abbrev PRs : Nat → Nat → Prop := fun q k => (q = 157 ∧ k = 55) ∨ PRd q k
theorem PRd.s {I I2 : aFI} (h : frG PRd I I2) : frG PRs I I2 := h.mono (fun q k z => Or.inr z)
theorem oB.rs {I0 I : aFI} {T : Int → Int} {n : Int} (h : oB I0 T n) (hF : frG PRs I0 I) : oB I T n := ⟨(hF 157 3 (by decide)).trans h.1, fun j h1 h2 => (hF 158 _ (by omega)).trans (h.2.1 j h1 h2), h.2.2⟩
theorem oW.rs {I0 I : aFI} (h : oW I0) (hF : frG PRs I0 I) : oW I := fun q hq j h1 h2 => (hF q _ (by unfold isWd at hq; omega)).trans (h q hq j h1 h2)
def rBj (I : aFI) (L : aFL) (D : Nat → Int → Int) (cd : Nat → Option (List Int)) (j : Nat) : Prop := ∃ m : Int, m ≤ j ∧ rB I L D cd m
theorem rBj.up {I : aFI} {L : aFL} {D : Nat → Int → Int} {cd : Nat → Option (List Int)} {j j2 : Nat} (h : rBj I L D cd j) (hj : j ≤ j2) : rBj I L D cd j2 := by
  obtain ⟨m, h1, h2⟩ := h; exact ⟨m, by omega, h2⟩
theorem rB.s55 {I I2 : aFI} {L : aFL} {D : Nat → Int → Int} {cd : Nat → Option (List Int)} {m : Int} (h : rB I L D cd m) (h0 : ∀ q k : Nat, ¬ q = 157 → I2 q k = I q k) (h1 : I2 157 54 = I 157 54) : rB I2 L D cd m := ⟨h.1.fr (fun k _ => h0 192 k (by decide)) (fun _ => rfl), h.2.1.fr2 (fun q k z1 z2 => h0 q k (by omega)), h.2.2.fr h1 (fun q k z1 z2 => h0 q k (by omega))⟩
theorem rB.set {I I2 : aFI} {L : aFL} {D : Nat → Int → Int} {cd : Nat → Option (List Int)} {m v : Int} {p : Nat} {q : Int} (h : rB I L D cd m) (hp : (p = 0 ∧ q = 14) ∨ (p = 1 ∧ q = 15) ∨ (p = 2 ∧ q = 16)) (e : I2 = aUp I 198 p (iI v)) : rB I2 L (dU D 0 q v) cd m := by
  have e0 : ∀ a k : Nat, ¬ a = 198 → I2 a k = I a k := fun a k ha => by rw [e]; exact up_ne (by omega)
  have ed : ∀ (a : Nat) (i : Int), ¬ a = 0 → dU D 0 q v a i = D a i := fun a i ha => dU_ne (fun z => ha z.1)
  have ez : ∀ i : Int, ¬ i = q → dU D 0 q v 0 i = D 0 i := fun i hi => dU_ne (fun z => hi z.2)
  refine ⟨?_, ?_, h.2.2.fr (e0 157 54 (by decide)) (fun q k z1 z2 => e0 q k (by omega))⟩
  · refine (h.1.fr (I2 := I2) (L2 := L) (fun k _ => e0 192 k (by decide)) (fun _ => rfl)).cast (fun p hp => ed 1 _ (by decide)) (fun p hp i a b => ?_)
    exact nmc_same 6 (fun j _ _ => ed 2 _ (by decide))
  · have hl := h.2.1
    refine ⟨?_, ?_, fun i a b => ?_, fun i a b => ?_, fun i a b => ?_⟩
    · rw [ez 2 (by omega), ez 3 (by omega), ez 1 (by omega), e0 194 0 (by decide), e0 194 1 (by decide), e0 194 2 (by decide)]; exact hl.1
    · rcases hp with ⟨rfl, rfl⟩ | ⟨rfl, rfl⟩ | ⟨rfl, rfl⟩
      · rw [dU_eq, ez 15 (by decide), ez 16 (by decide), e]
        exact ⟨up_eq, (up_ne (by decide)).trans hl.2.1.2.1, (up_ne (by decide)).trans hl.2.1.2.2⟩
      · rw [dU_eq, ez 14 (by decide), ez 16 (by decide), e]
        exact ⟨(up_ne (by decide)).trans hl.2.1.1, up_eq, (up_ne (by decide)).trans hl.2.1.2.2⟩
      · rw [dU_eq, ez 14 (by decide), ez 15 (by decide), e]
        exact ⟨(up_ne (by decide)).trans hl.2.1.1, (up_ne (by decide)).trans hl.2.1.2.1, up_eq⟩
    · rw [ed 1 _ (by decide)] at b
      rw [ed 3 _ (by decide), ed 4 _ (by decide), e0 195 _ (by decide), e0 195 _ (by decide)]; exact hl.2.2.1 i a b
    · rw [ed 1 _ (by decide)] at b
      rw [ed 5 _ (by decide), e0 196 _ (by decide)]; exact hl.2.2.2.1 i a b
    · rw [ed 1 _ (by decide)] at b
      rw [ed 6 _ (by decide), ed 7 _ (by decide), ed 8 _ (by decide), ed 9 _ (by decide), e0 197 _ (by decide), e0 197 _ (by decide), e0 197 _ (by decide), e0 197 _ (by decide)]; exact hl.2.2.2.2 i a b
section STC
variable {T : Int → Int} {K PL Z : Nat → Int} {D : Nat → Int → Int} {cd : Nat → Option (List Int)} {j : Nat}
theorem stC_1 (h : K j = 304) : stC T K PL Z D cd j = (sBk T K PL Z D j, dBk T PL Z D j, cd) := by unfold stC; rw [if_pos h]
theorem stC_2 (h : K j = 306) : stC T K PL Z D cd j = (sVi T K PL Z D j, dVi T PL Z D j, cd) := by unfold stC; rw [if_neg (by omega), if_pos h]
theorem stC_3 (h : K j = 308) : stC T K PL Z D cd j = (sDe T K PL Z D j, dDe T PL Z D j, cd) := by unfold stC; rw [if_neg (by omega), if_neg (by omega), if_pos h]
theorem stC_4 (h : K j = 313) : stC T K PL Z D cd j = (sRl K PL Z cd 0 j, D, cRu K PL Z cd 0 j) := by unfold stC; rw [if_neg (by omega), if_neg (by omega), if_neg (by omega), if_pos h]
theorem stC_5 (h : K j = 314) : stC T K PL Z D cd j = (sRl K PL Z cd 1 j, D, cRu K PL Z cd 1 j) := by unfold stC; rw [if_neg (by omega), if_neg (by omega), if_neg (by omega), if_neg (by omega), if_pos h]
theorem stC_6 (h : K j = 315) : stC T K PL Z D cd j = (sRl K PL Z cd 2 j, D, cRu K PL Z cd 2 j) := by unfold stC; rw [if_neg (by omega), if_neg (by omega), if_neg (by omega), if_neg (by omega), if_neg (by omega), if_pos h]
theorem stC_7 (h : K j = 316) : stC T K PL Z D cd j = (cNu K PL Z 0 100 (0, 0, j + 1), dU D 0 14 (Z (j + 1)), cd) := by unfold stC; rw [if_neg (by omega), if_neg (by omega), if_neg (by omega), if_neg (by omega), if_neg (by omega), if_neg (by omega), if_pos h]
theorem stC_8 (h : K j = 317) : stC T K PL Z D cd j = (cNu K PL Z 0 9999 (0, 0, j + 1), dU D 0 15 (Z (j + 1)), cd) := by unfold stC; rw [if_neg (by omega), if_neg (by omega), if_neg (by omega), if_neg (by omega), if_neg (by omega), if_neg (by omega), if_neg (by omega), if_pos h]
theorem stC_9 (h : K j = 318) : stC T K PL Z D cd j = (cNu K PL Z 0 100 (0, 0, j + 1), dU D 0 16 (Z (j + 1)), cd) := by unfold stC; rw [if_neg (by omega), if_neg (by omega), if_neg (by omega), if_neg (by omega), if_neg (by omega), if_neg (by omega), if_neg (by omega), if_neg (by omega), if_pos h]
theorem stC_0 (h : ¬ (K j = 304 ∨ K j = 306 ∨ K j = 308 ∨ K j = 313 ∨ K j = 314 ∨ K j = 315 ∨ K j = 316 ∨ K j = 317 ∨ K j = 318)) : stC T K PL Z D cd j = ((1, PL j, j), D, cd) := by unfold stC; rw [if_neg (by omega), if_neg (by omega), if_neg (by omega), if_neg (by omega), if_neg (by omega), if_neg (by omega), if_neg (by omega), if_neg (by omega), if_neg (by omega)]
theorem stS_n {cnt : Int} {C : Cu} {D2 : Nat → Int → Int} {cd2 : Nat → Option (List Int)} (h : ¬ cnt = 70) (he : stC T K PL Z D cd j = (C, D2, cd2)) : stS T K PL Z D cd cnt j = (cWd K PL 59 C, D2, cd2) := by unfold stS; rw [if_neg h, he]
end STC
set_option maxHeartbeats 1000000 in
theorem t_st_214 {d : Nat} {I : aFI} {L : aFL} {Q : aPo} {T : Int → Int} {n : Int} {sh : Nat} {su : Option Nat} {C0 : Cu} {a0 en0 b0 bp0 np nm cnt : Int} {v1 : Value} (hB : oB I T n) (hC0 : cu T n C0 a0 en0 b0 bp0) (hc : I 157 55 = iI cnt) (hd : 3 ≤ d) (k : ∀ (I2 : aFI) (a2 en2 b2 bp2 : Int), cu T n (cWd (tkK T n) (tkP T n) 59 C0) a2 en2 b2 bp2 → I2 = aUp I 157 55 (iI (cnt + 1)) → Q none (oP I2 a2 en2 b2 bp2 np nm) L (aR sh su)) : aWp none d 155 214 [.ref 157, v1] [] (oP I a0 en0 b0 bp0 np nm) L (aR sh su) Q := by
  refine w_aload c_155_214 rfl ?_
  refine z_push c_155_215 ?_
  refine wc_141 c_155_217 sp_157 (Nat.le_of_ble_eq_true rfl) (by omega) ?_
  refine tu_asksSign hB (by decide) (by omega) hC0 (fun a1 en1 b1 bp1 hC1 => ?_)
  refine r_v ?_
  refine w_aload c_155_220 rfl ?_
  refine w_dup c_155_221 rfl ?_
  refine z_getZ c_155_222 sp_157 (by decide) rfl hc ?_
  refine z_push c_155_225 ?_
  refine z_iadd c_155_226 ?_
  refine z_putZ c_155_227 sp_157 (by decide) rfl ?_
  rw [oP_out (by decide)]
  refine z_retv c_155_230 ?_
  exact k _ _ _ _ _ hC1 rfl

theorem t_st_end {d : Nat} {I I1 : aFI} {L L1 : aFL} {Q : aPo} {T : Int → Int} {n : Int} {sh : Nat} {su : Option Nat} {j : Nat} {a0 en0 b0 bp0 np nm cnt : Int} {v1 : Value} {D D2 : Nat → Int → Int} {cd cd2 : Nat → Option (List Int)} {C : Cu} (hB : oB I T n) (hcnt : ¬ cnt = 70) (hst : stC T (tkK T n) (tkP T n) (tkZ T n) D cd j = (C, D2, cd2)) (hC : cu T n C a0 en0 b0 bp0) (hr : C.1 = 0 → rBj I1 L1 D2 cd2 C.2.2) (hF : frG PRd I I1) (hG : frG PRl L L1) (hc : I 157 55 = iI cnt) (hd : 3 ≤ d) (k : ∀ (I2 : aFI) (L2 : aFL) (a2 en2 b2 bp2 np2 nm2 : Int), cu T n (stS T (tkK T n) (tkP T n) (tkZ T n) D cd cnt j).1 a2 en2 b2 bp2 → ((stS T (tkK T n) (tkP T n) (tkZ T n) D cd cnt j).1.1 = 0 → rBj I2 L2 (stS T (tkK T n) (tkP T n) (tkZ T n) D cd cnt j).2.1 (stS T (tkK T n) (tkP T n) (tkZ T n) D cd cnt j).2.2 (stS T (tkK T n) (tkP T n) (tkZ T n) D cd cnt j).1.2.2 ∧ I2 157 55 = iI (cnt + 1)) → frG PRs I I2 → frG PRl L L2 → Q none (oP I2 a2 en2 b2 bp2 np2 nm2) L2 (aR sh su)) : aWp none d 155 214 [.ref 157, v1] [] (oP I1 a0 en0 b0 bp0 np nm) L1 (aR sh su) Q := by
  refine t_st_214 (hB.rd hF) hC ((hF 157 55 (by decide)).trans hc) hd (fun I2 a2 en2 b2 bp2 hC2 e2 => ?_)
  rw [stS_n hcnt hst] at k
  refine k I2 L1 _ _ _ _ _ _ hC2 (fun z => ?_) ?_ hG
  · have g := cWd_0 z
    obtain ⟨m, h1, h2⟩ := hr g.1
    refine ⟨⟨m, ?_, h2.s55 (fun q k hq => by rw [e2]; exact up_ne (by omega)) (by rw [e2]; exact up_ne (by decide))⟩, by rw [e2]; exact up_eq⟩
    rw [g.2.2]; show m ≤ ((C.2.2 + 1 : Nat) : Int); omega
  · rw [e2]; exact (PRd.s hF).up (Or.inl ⟨rfl, rfl⟩)
section SM
variable {T : Int → Int} {K PL Z : Nat → Int} {D : Nat → Int → Int} {j : Nat}
theorem sBk_m (z : (sBk T K PL Z D j).1 = 0) : j ≤ (sBk T K PL Z D j).2.2 := by
  unfold sBk at z ⊢
  split at z
  · exact absurd (show (5 : Int) = 0 from z) (by decide)
  · rename_i h
    rw [if_neg h]
    have g5 := cNu_0 z
    have g4 := cWd_0 g5.1
    have g3 := cNu_0 g4.1
    have g2 := cWd_0 g3.1
    have g1 := cNp_0 g2.1
    rw [g5.2.2.2.2, g4.2.2, g3.2.2.2.2, g2.2.2, g1.2.2.2.2]; show j ≤ j + 1 + 1 + 1 + 1 + 1 + 1; omega
theorem sVi_m (z : (sVi T K PL Z D j).1 = 0) : j ≤ (sVi T K PL Z D j).2.2 := by
  unfold sVi at z ⊢
  split at z
  · exact absurd (show (5 : Int) = 0 from z) (by decide)
  · rename_i h
    rw [if_neg h]
    have g3 := cNu_0 z
    have g2 := cWd_0 g3.1
    have g1 := cNp_0 g2.1
    rw [g3.2.2.2.2, g2.2.2, g1.2.2.2.2]; show j ≤ j + 1 + 1 + 1 + 1; omega
theorem sDe_m (z : (sDe T K PL Z D j).1 = 0) : j ≤ (sDe T K PL Z D j).2.2 := by
  unfold sDe at z ⊢
  split at z
  · exact absurd (show (5 : Int) = 0 from z) (by decide)
  · rename_i h
    rw [if_neg h]
    have g9 := cNu_0 z
    have g8 := cWd_0 g9.1
    have g7 := cNu_0 g8.1
    have g6 := cWd_0 g7.1
    have g5 := cNu_0 g6.1
    have g4 := cWd_0 g5.1
    have g3 := cNp_0 g4.1
    have g2 := cWd_0 g3.1
    have g1 := cNp_0 g2.1
    have e4 : cVl T K PL Z D (cWd K PL 309 (cNp K PL Z (cdu T PL Z D (j + 1)) (0, 0, j + 1))) = (0, 0, j + 4) := by
      show cNp _ _ _ _ _ = _
      rw [g3.2.2.2.2, g2.2.2, g1.2.2.2.2]
    rw [g9.2.2.2.2, g8.2.2, g7.2.2.2.2, g6.2.2, g5.2.2.2.2, g4.2.2, e4]; show j ≤ j + 4 + 1 + 1 + 1 + 1 + 1 + 1; omega
end SM
set_option maxHeartbeats 1000000 in
theorem t_statementTold {d : Nat} {I : aFI} {L : aFL} {Q : aPo} {T : Int → Int} {n : Int} {sh : Nat} {su : Option Nat} {j : Nat} {bp np nm : Int} {D : Nat → Int → Int} {cd : Nat → Option (List Int)} {m cnt : Int} (hB : oB I T n) (hO : oW I) (hbp : bp = -1) (hmj : m ≤ j) (hRB : rB I L D cd m) (hD : (0 ≤ D 1 0 ∧ D 1 0 ≤ 6) ∧ (0 ≤ D 1 1 ∧ D 1 1 ≤ 6) ∧ (0 ≤ D 1 2 ∧ D 1 2 ≤ 8)) (hj : (j : Int) ≤ (tkS T n j).1) (hv : ∀ r : Nat, r < 3 → (rlR (tkK T n) (tkP T n) (tkZ T n) r j).1 = 0 → ∀ c ∈ (rlR (tkK T n) (tkP T n) (tkZ T n) r j).2.2.2.1, cmap (ucm c) = c) (hc : I 157 55 = iI cnt) (hcr : 0 ≤ cnt ∧ cnt ≤ 70) (hd : 13 ≤ d) (k : ∀ (I2 : aFI) (L2 : aFL) (a2 en2 b2 bp2 np2 nm2 : Int), cu T n (stS T (tkK T n) (tkP T n) (tkZ T n) D cd cnt j).1 a2 en2 b2 bp2 → ((stS T (tkK T n) (tkP T n) (tkZ T n) D cd cnt j).1.1 = 0 → rBj I2 L2 (stS T (tkK T n) (tkP T n) (tkZ T n) D cd cnt j).2.1 (stS T (tkK T n) (tkP T n) (tkZ T n) D cd cnt j).2.2 (stS T (tkK T n) (tkP T n) (tkZ T n) D cd cnt j).1.2.2 ∧ I2 157 55 = iI (cnt + 1)) → frG PRs I I2 → frG PRl L L2 → Q none (oP I2 a2 en2 b2 bp2 np2 nm2) L2 (aR sh su)) : aWp none d 155 0 [.ref 157, .null] [] (oT I T n j (tkP T n j) 0 bp np nm) L (aR sh su) Q := by
  have hn := hB.2.2.1
  have hA : rA T n j (tkP T n j) := rA_p hn.1
  have hpr := tkP_rg (T := T) (n := n) (j := j) hn.1
  refine w_aload c_155_0 rfl ?_
  refine z_getZ c_155_1 sp_157 (by decide) rfl rfl ?_
  refine w_istore c_155_4 (Nat.le_of_ble_eq_true rfl) rfl ?_
  refine w_aload c_155_5 rfl ?_
  refine z_getZ c_155_6 sp_157 (by decide) rfl hc ?_
  refine z_push c_155_9 ?_
  refine z_ic_ne c_155_11 (by first | exact aRg_of _ | (unfold aRg; omega)) (by first | exact aRg_of _ | (unfold aRg; omega)) (fun h1_ => ?_) (fun h1_ => ?_)
  · have hcnt : ¬ cnt = 70 := by omega
    refine w_aload c_155_21 rfl ?_
    refine w_aload c_155_22 rfl ?_
    refine w_getR c_155_23 sp_157 (by decide) rfl pr_157_15 ?_
    refine wc_138 c_155_26 sp_157 (Nat.le_of_ble_eq_true rfl) (by omega) ?_
    refine tt_takesW hB hO (q := 164) (Or.inl ⟨by decide, by decide⟩) (by omega) hA (fun hk a1 hA1 => ?_) (fun hk164 => ?_)
    · refine r_i ?_
      refine b_if_eq c_155_29 (fun h => Bool.noConfusion h) (fun _ => ?_)
      refine w_aload c_155_32 rfl ?_
      refine w_iload c_155_33 rfl ?_
      refine wc_151 c_155_34 sp_157 (Nat.le_of_ble_eq_true rfl) (by omega) ?_
      refine t_brookTold hB hO hA1 hbp hRB hD (by omega) (fun I2 L2 a2 en2 b2 bp2 np2 nm2 hC hr hF hG => ?_)
      refine r_v ?_
      refine w_goto c_155_37 ?_
      have hcm : (sBk T (tkK T n) (tkP T n) (tkZ T n) D j).1 = 0 → m ≤ (sBk T (tkK T n) (tkP T n) (tkZ T n) D j).2.2 := fun z => by have := sBk_m z; omega
      exact t_st_end hB hcnt (stC_1 (hk.trans (wk_own (q := 164) (m := 304) ⟨by decide, by decide⟩ (by decide)))) hC (fun z => ⟨m, by have := hcm z; omega, hr z⟩) hF hG hc (by omega) k
    · refine r_i ?_
      refine b_if_eq c_155_29 (fun _ => ?_) (fun h => Bool.noConfusion h)
      refine w_aload c_155_40 rfl ?_
      refine w_aload c_155_41 rfl ?_
      refine w_getR c_155_42 sp_157 (by decide) rfl pr_157_17 ?_
      refine wc_138 c_155_45 sp_157 (Nat.le_of_ble_eq_true rfl) (by omega) ?_
      refine tt_takesW hB hO (q := 166) (Or.inl ⟨by decide, by decide⟩) (by omega) hA (fun hk a1 hA1 => ?_) (fun hk166 => ?_)
      · refine r_i ?_
        refine b_if_eq c_155_48 (fun h => Bool.noConfusion h) (fun _ => ?_)
        refine w_aload c_155_51 rfl ?_
        refine w_iload c_155_52 rfl ?_
        refine wc_152 c_155_53 sp_157 (Nat.le_of_ble_eq_true rfl) (by omega) ?_
        refine t_villageTold hB hO hA1 hbp hRB hD (by omega) (fun I2 L2 a2 en2 b2 bp2 np2 nm2 hC hr hF hG => ?_)
        refine r_v ?_
        refine w_goto c_155_56 ?_
        have hcm : (sVi T (tkK T n) (tkP T n) (tkZ T n) D j).1 = 0 → m ≤ (sVi T (tkK T n) (tkP T n) (tkZ T n) D j).2.2 := fun z => by have := sVi_m z; omega
        exact t_st_end hB hcnt (stC_2 (hk.trans (wk_own (q := 166) (m := 306) ⟨by decide, by decide⟩ (by decide)))) hC (fun z => ⟨m, by have := hcm z; omega, hr z⟩) hF hG hc (by omega) k
      · refine r_i ?_
        refine b_if_eq c_155_48 (fun _ => ?_) (fun h => Bool.noConfusion h)
        refine w_aload c_155_59 rfl ?_
        refine w_aload c_155_60 rfl ?_
        refine w_getR c_155_61 sp_157 (by decide) rfl pr_157_19 ?_
        refine wc_138 c_155_64 sp_157 (Nat.le_of_ble_eq_true rfl) (by omega) ?_
        refine tt_takesW hB hO (q := 168) (Or.inl ⟨by decide, by decide⟩) (by omega) hA (fun hk a1 hA1 => ?_) (fun hk168 => ?_)
        · refine r_i ?_
          refine b_if_eq c_155_67 (fun h => Bool.noConfusion h) (fun _ => ?_)
          refine w_aload c_155_70 rfl ?_
          refine w_iload c_155_71 rfl ?_
          refine wc_153 c_155_72 sp_157 (Nat.le_of_ble_eq_true rfl) (by omega) ?_
          refine t_deedTold hB hO hA1 hbp hRB hD (by omega) (fun I2 L2 a2 en2 b2 bp2 np2 nm2 hC hr hF hG => ?_)
          refine r_v ?_
          refine w_goto c_155_75 ?_
          have hcm : (sDe T (tkK T n) (tkP T n) (tkZ T n) D j).1 = 0 → m ≤ (sDe T (tkK T n) (tkP T n) (tkZ T n) D j).2.2 := fun z => by have := sDe_m z; omega
          exact t_st_end hB hcnt (stC_3 (hk.trans (wk_own (q := 168) (m := 308) ⟨by decide, by decide⟩ (by decide)))) hC (fun z => ⟨m, by have := hcm z; omega, hr z⟩) hF hG hc (by omega) k
        · refine r_i ?_
          refine b_if_eq c_155_67 (fun _ => ?_) (fun h => Bool.noConfusion h)
          refine w_aload c_155_78 rfl ?_
          refine w_aload c_155_79 rfl ?_
          refine w_getR c_155_80 sp_157 (by decide) rfl pr_157_24 ?_
          refine wc_138 c_155_83 sp_157 (Nat.le_of_ble_eq_true rfl) (by omega) ?_
          refine tt_takesW hB hO (q := 173) (Or.inl ⟨by decide, by decide⟩) (by omega) hA (fun hk a1 hA1 => ?_) (fun hk173 => ?_)
          · refine r_i ?_
            refine b_if_eq c_155_86 (fun h => Bool.noConfusion h) (fun _ => ?_)
            refine w_aload c_155_89 rfl ?_
            refine z_push c_155_90 ?_
            refine w_iload c_155_91 rfl ?_
            refine wc_154 c_155_92 sp_157 (Nat.le_of_ble_eq_true rfl) (by omega) ?_
            have hkj : ¬ tkK T n j = 341 := by rw [hk.trans (wk_own (q := 173) (m := 313) ⟨by decide, by decide⟩ (by decide))]; decide
            refine t_codesTold_0 hB hO hA1 hbp hRB (tkS_up hn.1 hB.2.2.2 hj hkj) hmj (hv 0 (by decide)) (by omega) (fun I2 a2 en2 b2 bp2 np2 hC hr hF => ?_)
            refine r_v ?_
            refine w_goto c_155_95 ?_
            exact t_st_end hB hcnt (stC_4 (hk.trans (wk_own (q := 173) (m := 313) ⟨by decide, by decide⟩ (by decide)))) hC (fun z => hr z) hF frG.rf hc (by omega) k
          · refine r_i ?_
            refine b_if_eq c_155_86 (fun _ => ?_) (fun h => Bool.noConfusion h)
            refine w_aload c_155_98 rfl ?_
            refine w_aload c_155_99 rfl ?_
            refine w_getR c_155_100 sp_157 (by decide) rfl pr_157_25 ?_
            refine wc_138 c_155_103 sp_157 (Nat.le_of_ble_eq_true rfl) (by omega) ?_
            refine tt_takesW hB hO (q := 174) (Or.inl ⟨by decide, by decide⟩) (by omega) hA (fun hk a1 hA1 => ?_) (fun hk174 => ?_)
            · refine r_i ?_
              refine b_if_eq c_155_106 (fun h => Bool.noConfusion h) (fun _ => ?_)
              refine w_aload c_155_109 rfl ?_
              refine z_push c_155_110 ?_
              refine w_iload c_155_111 rfl ?_
              refine wc_154 c_155_112 sp_157 (Nat.le_of_ble_eq_true rfl) (by omega) ?_
              have hkj : ¬ tkK T n j = 341 := by rw [hk.trans (wk_own (q := 174) (m := 314) ⟨by decide, by decide⟩ (by decide))]; decide
              refine t_codesTold_1 hB hO hA1 hbp hRB (tkS_up hn.1 hB.2.2.2 hj hkj) hmj (hv 1 (by decide)) (by omega) (fun I2 a2 en2 b2 bp2 np2 hC hr hF => ?_)
              refine r_v ?_
              refine w_goto c_155_115 ?_
              exact t_st_end hB hcnt (stC_5 (hk.trans (wk_own (q := 174) (m := 314) ⟨by decide, by decide⟩ (by decide)))) hC (fun z => hr z) hF frG.rf hc (by omega) k
            · refine r_i ?_
              refine b_if_eq c_155_106 (fun _ => ?_) (fun h => Bool.noConfusion h)
              refine w_aload c_155_118 rfl ?_
              refine w_aload c_155_119 rfl ?_
              refine w_getR c_155_120 sp_157 (by decide) rfl pr_157_26 ?_
              refine wc_138 c_155_123 sp_157 (Nat.le_of_ble_eq_true rfl) (by omega) ?_
              refine tt_takesW hB hO (q := 175) (Or.inl ⟨by decide, by decide⟩) (by omega) hA (fun hk a1 hA1 => ?_) (fun hk175 => ?_)
              · refine r_i ?_
                refine b_if_eq c_155_126 (fun h => Bool.noConfusion h) (fun _ => ?_)
                refine w_aload c_155_129 rfl ?_
                refine z_push c_155_130 ?_
                refine w_iload c_155_131 rfl ?_
                refine wc_154 c_155_132 sp_157 (Nat.le_of_ble_eq_true rfl) (by omega) ?_
                have hkj : ¬ tkK T n j = 341 := by rw [hk.trans (wk_own (q := 175) (m := 315) ⟨by decide, by decide⟩ (by decide))]; decide
                refine t_codesTold_2 hB hO hA1 hbp hRB (tkS_up hn.1 hB.2.2.2 hj hkj) hmj (hv 2 (by decide)) (by omega) (fun I2 a2 en2 b2 bp2 np2 hC hr hF => ?_)
                refine r_v ?_
                refine w_goto c_155_135 ?_
                exact t_st_end hB hcnt (stC_6 (hk.trans (wk_own (q := 175) (m := 315) ⟨by decide, by decide⟩ (by decide)))) hC (fun z => hr z) hF frG.rf hc (by omega) k
              · refine r_i ?_
                refine b_if_eq c_155_126 (fun _ => ?_) (fun h => Bool.noConfusion h)
                refine w_aload c_155_138 rfl ?_
                refine w_aload c_155_139 rfl ?_
                refine w_getR c_155_140 sp_157 (by decide) rfl pr_157_27 ?_
                refine wc_138 c_155_143 sp_157 (Nat.le_of_ble_eq_true rfl) (by omega) ?_
                refine tt_takesW hB hO (q := 176) (Or.inl ⟨by decide, by decide⟩) (by omega) hA (fun hk a1 hA1 => ?_) (fun hk176 => ?_)
                · refine r_i ?_
                  refine b_if_eq c_155_146 (fun h => Bool.noConfusion h) (fun _ => ?_)
                  refine w_aload c_155_149 rfl ?_
                  refine w_getR c_155_150 sp_157 (by decide) rfl pr_157_50 ?_
                  refine z_push c_155_153 ?_
                  refine w_aload c_155_154 rfl ?_
                  refine z_push c_155_155 ?_
                  refine z_push c_155_156 ?_
                  refine wc_142 c_155_158 sp_157 (Nat.le_of_ble_eq_true rfl) (by omega) ?_
                  refine tu_number hB (by decide) (by decide) (by omega) (cu.good hA1 hbp) (fun a2 en2 b2 bp2 np2 v hvr hC hg => ?_)
                  refine r_i ?_
                  refine z_iastore c_155_161 sp_198 (by omega) (by decide) ?_
                  refine oq_k (frG.rf (P := PRd) (I := I)) (by decide) (by decide) (fun I1 e1 hF1 => ?_)
                  refine w_goto c_155_162 ?_
                  have hz : (cNu (tkK T n) (tkP T n) (tkZ T n) 0 100 (0, 0, j + 1)).1 = 0 → v = tkZ T n (j + 1) ∧ m ≤ (cNu (tkK T n) (tkP T n) (tkZ T n) 0 100 (0, 0, j + 1)).2.2 := fun z => ⟨(hg z).1, by rw [(cNu_0 z).2.2.2.2]; show m ≤ ((j + 1 + 1 : Nat) : Int); omega⟩
                  exact t_st_end hB hcnt (stC_7 (hk.trans (wk_own (q := 176) (m := 316) ⟨by decide, by decide⟩ (by decide)))) hC (fun z => ⟨m, (hz z).2, hRB.set (p := 0) (q := 14) (by decide) (by rw [e1, (hz z).1]; rfl)⟩) hF1 frG.rf hc (by omega) k
                · refine r_i ?_
                  refine b_if_eq c_155_146 (fun _ => ?_) (fun h => Bool.noConfusion h)
                  refine w_aload c_155_165 rfl ?_
                  refine w_aload c_155_166 rfl ?_
                  refine w_getR c_155_167 sp_157 (by decide) rfl pr_157_28 ?_
                  refine wc_138 c_155_170 sp_157 (Nat.le_of_ble_eq_true rfl) (by omega) ?_
                  refine tt_takesW hB hO (q := 177) (Or.inl ⟨by decide, by decide⟩) (by omega) hA (fun hk a1 hA1 => ?_) (fun hk177 => ?_)
                  · refine r_i ?_
                    refine b_if_eq c_155_173 (fun h => Bool.noConfusion h) (fun _ => ?_)
                    refine w_aload c_155_176 rfl ?_
                    refine w_getR c_155_177 sp_157 (by decide) rfl pr_157_50 ?_
                    refine z_push c_155_180 ?_
                    refine w_aload c_155_181 rfl ?_
                    refine z_push c_155_182 ?_
                    refine z_push c_155_183 ?_
                    refine wc_142 c_155_186 sp_157 (Nat.le_of_ble_eq_true rfl) (by omega) ?_
                    refine tu_number hB (by decide) (by decide) (by omega) (cu.good hA1 hbp) (fun a2 en2 b2 bp2 np2 v hvr hC hg => ?_)
                    refine r_i ?_
                    refine z_iastore c_155_189 sp_198 (by omega) (by decide) ?_
                    refine oq_k (frG.rf (P := PRd) (I := I)) (by decide) (by decide) (fun I1 e1 hF1 => ?_)
                    refine w_goto c_155_190 ?_
                    have hz : (cNu (tkK T n) (tkP T n) (tkZ T n) 0 9999 (0, 0, j + 1)).1 = 0 → v = tkZ T n (j + 1) ∧ m ≤ (cNu (tkK T n) (tkP T n) (tkZ T n) 0 9999 (0, 0, j + 1)).2.2 := fun z => ⟨(hg z).1, by rw [(cNu_0 z).2.2.2.2]; show m ≤ ((j + 1 + 1 : Nat) : Int); omega⟩
                    exact t_st_end hB hcnt (stC_8 (hk.trans (wk_own (q := 177) (m := 317) ⟨by decide, by decide⟩ (by decide)))) hC (fun z => ⟨m, (hz z).2, hRB.set (p := 1) (q := 15) (by decide) (by rw [e1, (hz z).1]; rfl)⟩) hF1 frG.rf hc (by omega) k
                  · refine r_i ?_
                    refine b_if_eq c_155_173 (fun _ => ?_) (fun h => Bool.noConfusion h)
                    refine w_aload c_155_193 rfl ?_
                    refine w_aload c_155_194 rfl ?_
                    refine w_getR c_155_195 sp_157 (by decide) rfl pr_157_29 ?_
                    refine wc_139 c_155_198 sp_157 (Nat.le_of_ble_eq_true rfl) (by omega) ?_
                    refine tu_asks hB hO (q := 178) (Or.inl ⟨by decide, by decide⟩) (m := 318) (wk_own ⟨by decide, by decide⟩ (by decide)) (by omega) (cu.good hA hbp) (fun a1 en1 b1 bp1 hC1 => ?_)
                    refine r_v ?_
                    refine w_aload c_155_201 rfl ?_
                    refine w_getR c_155_202 sp_157 (by decide) rfl pr_157_50 ?_
                    refine z_push c_155_205 ?_
                    refine w_aload c_155_206 rfl ?_
                    refine z_push c_155_207 ?_
                    refine z_push c_155_208 ?_
                    refine wc_142 c_155_210 sp_157 (Nat.le_of_ble_eq_true rfl) (by omega) ?_
                    refine tu_number hB (by decide) (by decide) (by omega) hC1 (fun a2 en2 b2 bp2 np2 v hvr hC hg => ?_)
                    refine r_i ?_
                    refine z_iastore c_155_213 sp_198 (by omega) (by decide) ?_
                    refine oq_k (frG.rf (P := PRd) (I := I)) (by decide) (by decide) (fun I1 e1 hF1 => ?_)
                    by_cases hk : tkK T n j = 318
                    · have e0 : cWd (tkK T n) (tkP T n) 318 (0, 0, j) = (0, 0, j + 1) := by unfold cWd; rw [if_pos rfl]; exact if_pos hk
                      rw [e0] at hC hg
                      have hz : (cNu (tkK T n) (tkP T n) (tkZ T n) 0 100 (0, 0, j + 1)).1 = 0 → v = tkZ T n (j + 1) ∧ m ≤ (cNu (tkK T n) (tkP T n) (tkZ T n) 0 100 (0, 0, j + 1)).2.2 := fun z => ⟨(hg z).1, by rw [(cNu_0 z).2.2.2.2]; show m ≤ ((j + 1 + 1 : Nat) : Int); omega⟩
                      exact t_st_end hB hcnt (stC_9 hk) hC (fun z => ⟨m, (hz z).2, hRB.set (p := 2) (q := 16) (by decide) (by rw [e1, (hz z).1]; rfl)⟩) hF1 frG.rf hc (by omega) k
                    · have e0 : cNu (tkK T n) (tkP T n) (tkZ T n) 0 100 (cWd (tkK T n) (tkP T n) 318 (0, 0, j)) = (1, tkP T n j, j) := by
                        have e1 : cWd (tkK T n) (tkP T n) 318 (0, 0, j) = (1, tkP T n j, j) := by unfold cWd; rw [if_pos rfl]; exact if_neg hk
                        rw [e1]; exact if_neg (show ¬ (1 : Int) = 0 by decide)
                      rw [e0] at hC
                      have hno : ¬ (tkK T n j = 304 ∨ tkK T n j = 306 ∨ tkK T n j = 308 ∨ tkK T n j = 313 ∨ tkK T n j = 314 ∨ tkK T n j = 315 ∨ tkK T n j = 316 ∨ tkK T n j = 317 ∨ tkK T n j = 318) := by
                        rw [show wcode 164 = 304 from wk_own ⟨by decide, by decide⟩ (by decide)] at hk164
                        rw [show wcode 166 = 306 from wk_own ⟨by decide, by decide⟩ (by decide)] at hk166
                        rw [show wcode 168 = 308 from wk_own ⟨by decide, by decide⟩ (by decide)] at hk168
                        rw [show wcode 173 = 313 from wk_own ⟨by decide, by decide⟩ (by decide)] at hk173
                        rw [show wcode 174 = 314 from wk_own ⟨by decide, by decide⟩ (by decide)] at hk174
                        rw [show wcode 175 = 315 from wk_own ⟨by decide, by decide⟩ (by decide)] at hk175
                        rw [show wcode 176 = 316 from wk_own ⟨by decide, by decide⟩ (by decide)] at hk176
                        rw [show wcode 177 = 317 from wk_own ⟨by decide, by decide⟩ (by decide)] at hk177
                        omega
                      exact t_st_end hB hcnt (stC_0 hno) hC (fun z => absurd (show (1 : Int) = 0 from z) (by decide)) hF1 frG.rf hc (by omega) k
  · refine w_aload c_155_14 rfl ?_
    refine z_push c_155_15 ?_
    refine w_iload c_155_16 rfl ?_
    refine wc_133 c_155_17 sp_157 (Nat.le_of_ble_eq_true rfl) (by omega) ?_
    refine t_fail (by unfold aRg; omega) (fun z => absurd rfl z) (fun _ => ?_)
    refine r_v ?_
    refine z_retv c_155_20 ?_
    have hcnt : cnt = 70 := by omega
    have hs : stS T (tkK T n) (tkP T n) (tkZ T n) D cd cnt j = ((5, tkP T n j, j), D, cd) := if_pos hcnt
    rw [hs] at k
    exact k I L _ _ _ _ _ _ (cu.bad (by decide) (rA_aF hn hA)) (fun z => absurd (show (5 : Int) = 0 from z) (by decide)) frG.rf frG.rf

