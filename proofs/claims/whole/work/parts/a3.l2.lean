/-! questions: the class (pa3.py) -/
section QU
variable (T : Int → Int) (n : Int)
def quR : Oc := rlQ (tkK T n) (tkP T n) (tkZ T n) 2 (decide (tkK T n 0 ≤ 334)) 1
def quC1 : Cu := if 332 ≤ tkK T n 0 ∧ tkK T n 0 ≤ 337 then ((quR T n).1, (quR T n).2.1, (quR T n).2.2.1) else (1, tkP T n 0, 0)
def qEnd (C : Cu) : Cu := if C.1 = 0 ∧ ¬ tkK T n C.2.2 = 341 then (1, tkP T n C.2.2, C.2.2) else C
def quC : Cu := qEnd T n (quC1 T n)
def quL : List Int := (quR T n).2.2.2.1.reverse.map ucm
end QU
theorem cc.en {T : Int → Int} {n N : Int} {C : Cu} {S : Rs} (h : cc C S) : cc (qEnd T n C) (rN (tK T n) (tPl T n) 341 S) := by
  unfold qEnd rN
  by_cases hf : S.f = 0
  · have hc : C.1 = 0 := h.1.symm.trans hf
    have hat := cc.at (T := T) (n := n) (h.2.1 hf).1
    rw [hat.1, hat.2.1]
    by_cases hk : tkK T n C.2.2 = 341
    · rw [if_neg (fun z => z.2 hk), if_pos hk, if_pos rfl]; exact h
    · rw [if_pos ⟨hc, hk⟩, if_neg hk]; exact cc.bf hf (by decide)
  · have hc : ¬ C.1 = 0 := fun z => hf (h.1.trans z)
    rw [if_neg (fun z => hc z.1)]
    split
    · rw [if_pos rfl]; exact h
    · rw [rF_b hf]; exact h
theorem oS_24 {I : aFI} {s : Nat} {S : Rs} {v : Int32} (hs : aSm s) : aUp (oS I s S) 2 4 v = oS (aUp I 2 4 v) s S := by
  show aUp (oR _ _ _ _ _) _ _ _ = _
  rw [oR_out (by omega), oU_out (by rcases hs with rfl | rfl | rfl <;> omega) (by rcases hs with rfl | rfl | rfl <;> omega)]; rfl
theorem ts_next0 {d s : Nat} {I : aFI} {L : aFL} {Q : aPo} {N : Int} {K PL SZ : Int → Int} {S : Rs} {sh : Nat} {su : Option Nat} (hs : aSm s) (hK : kB I N K PL SZ) (h0 : 0 ≤ S.a) (h1 : S.a < N) (k : Q (some (.int (iI (K S.a)))) (oS I s S) L (aR sh su)) : aWp none d 42 0 [.ref 2] [] (oS I s S) L (aR sh su) Q := tc_next (kB_U hs hK) h0 h1 k
abbrev PQu : Nat → Nat → Prop := fun q k => (q = 2 ∧ k = 4) ∨ q = 112 ∨ q = 113
theorem oS_intro {sc : aSc} {d y pc s : Nat} {ls st : List Value} {I : aFI} {L : aFL} {R : aFR} {Q : aPo} {S : Rs} (kk : ∀ I2 : aFI, I2 = I → aWp sc d y pc ls st (oS I2 s S) L R Q) : aWp sc d y pc ls st (oS I s S) L R Q := kk I rfl
theorem rN_0' {S : Rs} {K PL : Int → Int} {m : Int} (h : (rN K PL m S).f = 0) : S.f = 0 := (rN_0 h).1
set_option maxHeartbeats 1000000 in
theorem tb_readQuestion {d sh : Nat} {I : aFI} {L : aFL} {Q : aPo} {T : Int → Int} {n N : Int} {S : Rs} {su : Option Nat} (hn : 0 ≤ n ∧ n ≤ 1600) (hK : kB I N (tK T n) (tPl T n) (tZ T n)) (hg : gS N (rL0 S)) (hC : cc (0, 0, 0) S) (hd : 82 ≤ d) (kk : ∀ (I2 : aFI) (S2 : Rs), gS N S2 → cc (quC T n) S2 → (S2.f = 0 → I2 112 3 = iI 0 ∧ I2 113 3 = iI ((quL T n).length : Int) ∧ cAt S2.C 0 (quL T n) ∧ (quL T n).length ≤ 1600 ∧ tyC (quL T n) [] [decide (tkK T n 0 ≤ 334)] ∧ (∀ x ∈ quL T n, okM 3 x)) → frG PQu I I2 → Q (some (.int (iI (tkK T n 0)))) (oS I2 110 S2) L (aR sh (some 110))) : aWp none d 24 0 [.ref 2, .ref 110, .null] [] (oS I 110 S) L (aR sh su) Q := by
  have hs : aSm 110 := Or.inr (Or.inr rfl)
  have hNb := hK.2.2.1
  have hkb := hK.2.2.2 0 (by decide) (by omega)
  have hk0 : tK T n 0 = tkK T n 0 := rfl
  have hp0 : tPl T n 0 = tkP T n 0 := rfl
  have hSa : S.a = 0 := hC.2.1 hC.1 |>.1
  have hCr : cc (0, 0, 0) (rL0 S) := hC
  have hra : (rL0 S).a = 0 := hSa
  have hgb := hg
  unfold gS at hgb
  have hki := hkb.1
  rw [hk0] at hki
  refine w_aload c_24_0 rfl ?_
  refine wc_42 c_24_1 sp_2 (Nat.le_of_ble_eq_true rfl) (by omega) ?_
  refine ts_next0 hs hK (by omega) (by omega) ?_
  rw [show tK T n S.a = tkK T n 0 by rw [hSa]; rfl]
  refine r_i ?_
  refine w_istore c_24_4 (Nat.le_of_ble_eq_true rfl) rfl ?_
  refine w_aload c_24_5 rfl ?_
  refine wc_72 c_24_6 sp_110 (Nat.le_of_ble_eq_true rfl) (by omega) ?_
  refine tb_sclear hs (fun I1 hr1 hG1 => ?_)
  have hF1 : frG PQu I I1 := hG1.mono (fun q k z => by omega)
  refine r_v ?_
  refine w_aload c_24_9 rfl ?_
  refine w_aload c_24_10 rfl ?_
  refine w_putR c_24_11 sp_2 (by decide) rfl ?_
  rw [aR_put]
  refine w_aload c_24_14 rfl ?_
  refine z_push c_24_15 ?_
  refine z_putZ c_24_16 sp_2 (by decide) rfl ?_
  rw [oS_24 hs]
  refine oS_intro (I := aUp I1 2 4 (iI 3)) (fun I2 e2 => ?_)
  have hF2 : frG PQu I I2 := by rw [e2]; exact hF1.up (Or.inl ⟨rfl, rfl⟩)
  have hrl0 : I2 2 4 = iI 3 := by rw [e2]; exact up_eq
  refine w_aload c_24_19 rfl ?_
  refine w_getR c_24_20 sp_2 (by decide) rfl (show aR sh (some 110) 2 3 = some 110 from rfl) ?_
  refine w_getR c_24_23 sp_110 (by decide) rfl pr_110_1 ?_
  refine w_aload c_24_26 rfl ?_
  refine z_getZ c_24_27 sp_2 (by decide) rfl (oS_rl hs hrl0) ?_
  refine z_push c_24_30 ?_
  refine z_iastore c_24_31 sp_112 (by omega) (by decide) ?_
  rw [oS_out (by decide) (by decide) (by decide)]
  refine oS_intro (I := aUp I2 112 3 (iI 0)) (fun I3 e3 => ?_)
  have hF3 : frG PQu I I3 := by rw [e3]; exact hF2.up (Or.inr (Or.inl rfl))
  have hrl : I3 2 4 = iI 3 := by rw [e3]; exact (up_ne (by decide)).trans hrl0
  refine w_iload c_24_32 rfl ?_
  rcases (show ((tkK T n 0) = 332 ∨ (tkK T n 0) = 333 ∨ (tkK T n 0) = 334) ∨ ((tkK T n 0) = 335 ∨ (tkK T n 0) = 336 ∨ (tkK T n 0) = 337) ∨ (¬ (tkK T n 0) = 332 ∧ ¬ (tkK T n 0) = 333 ∧ ¬ (tkK T n 0) = 334 ∧ ¬ (tkK T n 0) = 335 ∧ ¬ (tkK T n 0) = 336 ∧ ¬ (tkK T n 0) = 337) by omega) with h1_ | h1_ | h1_
  · refine z_tsw c_24_33 (by first | exact aRg_of _ | (unfold aRg; omega)) (pc2 := 72) (by rcases h1_ with h1_ | h1_ | h1_ <;> (rw [h1_]; rfl)) ?_
    refine w_aload c_24_72 rfl ?_
    refine w_dup c_24_73 rfl ?_
    refine z_getZ c_24_74 sp_2 (by decide) rfl rfl ?_
    refine z_push c_24_77 ?_
    refine z_iadd c_24_78 ?_
    refine z_putZ c_24_79 sp_2 (by decide) rfl ?_
    rw [oS_I]
    refine w_aload c_24_82 rfl ?_
    refine wc_33 c_24_83 sp_2 (Nat.le_of_ble_eq_true rfl) (by omega) ?_
    have ha1 : (rL0 S).a + 1 < N := by
      have h1 := hkb.1.2.2
      rw [hk0] at h1
      have : ¬ (0 : Int) = N - 1 := fun z => by have := h1.mpr z; omega
      omega
    have gi := (rI_g hg ha1).1
    have hq := rul (rl := 3) (tk := 2) (S := rI (rL0 S)) (j := 1) hn (by decide) (by omega) (kB_K hK) gi hCr.1 (hCr.2.1 hCr.1).2.1 (by show (0 : Int) ≤ (rL0 S).a + 1; omega) (by show ((1 : Nat) : Int) = (rL0 S).a + 1; omega) (decide (tkK T n 0 ≤ 334))
    rw [show decide (tkK T n 0 ≤ 334) = true from decide_eq_true (by omega)] at hq
    have hU := rTest_g (PL := tPl T n) (SZ := tZ T n) (rl := 3) (by omega) (kB_K hK) gi
    rw [rdQ_t] at hq
    refine ts_readTest hs (hK.fr (fun q k a b => hF3 q k (by omega))) hrl (by decide) gi (by omega) ?_
    generalize hUe : rTest (tK T n) (tPl T n) (tZ T n) 3 (rI (rL0 S)) = U at hq hU ⊢
    have hUg := hU.1
    have hUgb := hUg
    unfold gS at hUgb
    have hqR : quR T n = rlQ (tkK T n) (tkP T n) (tkZ T n) 2 true 1 := by unfold quR; rw [show decide (tkK T n 0 ≤ 334) = true from decide_eq_true (by omega)]
    have hc1 : quC1 T n = ((quR T n).1, (quR T n).2.1, (quR T n).2.2.1) := if_pos (by omega)
    rw [← hqR] at hq
    have hCU : cc (quC1 T n) U := by
      rw [hc1]
      refine ⟨?_, fun z => ?_, fun z => (hq.1 z).2.symm⟩
      · by_cases z : U.f = 0
        · rw [z]; exact (hq.2 z).1.symm
        · exact (hq.1 z).1.symm
      · obtain ⟨a, b, l, c, d⟩ := hq.2 z
        exact ⟨b.symm, hU.2.2.1.trans (hCr.2.1 hCr.1).2.1, c.2.2.2.2.2.trans (hCr.2.1 hCr.1).2.2⟩
    refine r_v ?_
    refine w_goto c_24_86 ?_
    refine w_aload c_24_115 rfl ?_
    refine w_getR c_24_116 sp_2 (by decide) rfl (show aR sh (some 110) 2 3 = some 110 from rfl) ?_
    refine w_getR c_24_119 sp_110 (by decide) rfl pr_110_2 ?_
    refine w_aload c_24_122 rfl ?_
    refine z_getZ c_24_123 sp_2 (by decide) rfl (oS_rl hs hrl) ?_
    refine w_aload c_24_126 rfl ?_
    refine w_getR c_24_127 sp_2 (by decide) rfl (show aR sh (some 110) 2 3 = some 110 from rfl) ?_
    refine z_getZ c_24_130 sp_110 (by decide) rfl (rQ_ln hs) ?_
    refine z_iastore c_24_133 sp_113 (by omega) (by decide) ?_
    rw [oS_out (by decide) (by decide) (by decide)]
    refine oS_intro (fun I4 e4 => ?_)
    have hF4 : frG PQu I I4 := by rw [e4]; exact hF3.up (Or.inr (Or.inr rfl))
    refine w_aload c_24_134 rfl ?_
    refine z_push c_24_135 ?_
    refine wc_45 c_24_138 sp_2 (Nat.le_of_ble_eq_true rfl) (by omega) ?_
    refine ts_need (by decide) hs (hK.fr (fun q k a b => hF4 q k (by omega))) hUg (by omega) ?_
    refine r_v ?_
    refine w_iload c_24_141 rfl ?_
    refine z_ret c_24_142 rfl ?_
    refine kk I4 _ (rN_g hUg (kB_K hK)).1 (hCU.en (N := N)) (fun z => ?_) hF4
    have zU : U.f = 0 := (rN_0' z)
    obtain ⟨a, b, l, c, d, e, f, g⟩ := hq.2 zU
    have hl : quL T n = l := d
    have hln : U.ln = (l.length : Int) := by have := c.1; have h0 : (rI (rL0 S)).ln = 0 := rfl; omega
    rw [hl]
    refine ⟨?_, ?_, ?_, by omega, by rw [show decide (tkK T n 0 ≤ 334) = true from decide_eq_true (by omega)]; exact f, c.2.2.2.2.1⟩
    · rw [e4, up_ne (by decide), e3]; exact up_eq
    · rw [e4, ← hln]; exact up_eq
    · rw [rN_l.2]; exact c.2.2.2.1
  · refine z_tsw c_24_33 (by first | exact aRg_of _ | (unfold aRg; omega)) (pc2 := 89) (by rcases h1_ with h1_ | h1_ | h1_ <;> (rw [h1_]; rfl)) ?_
    refine w_aload c_24_89 rfl ?_
    refine w_dup c_24_90 rfl ?_
    refine z_getZ c_24_91 sp_2 (by decide) rfl rfl ?_
    refine z_push c_24_94 ?_
    refine z_iadd c_24_95 ?_
    refine z_putZ c_24_96 sp_2 (by decide) rfl ?_
    rw [oS_I]
    refine w_aload c_24_99 rfl ?_
    refine wc_36 c_24_100 sp_2 (Nat.le_of_ble_eq_true rfl) (by omega) ?_
    have ha1 : (rL0 S).a + 1 < N := by
      have h1 := hkb.1.2.2
      rw [hk0] at h1
      have : ¬ (0 : Int) = N - 1 := fun z => by have := h1.mpr z; omega
      omega
    have gi := (rI_g hg ha1).1
    have hq := rul (rl := 3) (tk := 2) (S := rI (rL0 S)) (j := 1) hn (by decide) (by omega) (kB_K hK) gi hCr.1 (hCr.2.1 hCr.1).2.1 (by show (0 : Int) ≤ (rL0 S).a + 1; omega) (by show ((1 : Nat) : Int) = (rL0 S).a + 1; omega) (decide (tkK T n 0 ≤ 334))
    rw [show decide (tkK T n 0 ≤ 334) = false from decide_eq_false (by omega)] at hq
    have hU := rSum_g (PL := tPl T n) (SZ := tZ T n) (rl := 3) (by omega) (kB_K hK) gi
    rw [rdQ_f] at hq
    refine ts_readSum hs (hK.fr (fun q k a b => hF3 q k (by omega))) hrl (by decide) gi (by omega) ?_
    generalize hUe : rSum (tK T n) (tPl T n) (tZ T n) 3 (rI (rL0 S)) = U at hq hU ⊢
    have hUg := hU.1
    have hUgb := hUg
    unfold gS at hUgb
    have hqR : quR T n = rlQ (tkK T n) (tkP T n) (tkZ T n) 2 false 1 := by unfold quR; rw [show decide (tkK T n 0 ≤ 334) = false from decide_eq_false (by omega)]
    have hc1 : quC1 T n = ((quR T n).1, (quR T n).2.1, (quR T n).2.2.1) := if_pos (by omega)
    rw [← hqR] at hq
    have hCU : cc (quC1 T n) U := by
      rw [hc1]
      refine ⟨?_, fun z => ?_, fun z => (hq.1 z).2.symm⟩
      · by_cases z : U.f = 0
        · rw [z]; exact (hq.2 z).1.symm
        · exact (hq.1 z).1.symm
      · obtain ⟨a, b, l, c, d⟩ := hq.2 z
        exact ⟨b.symm, hU.2.2.1.trans (hCr.2.1 hCr.1).2.1, c.2.2.2.2.2.trans (hCr.2.1 hCr.1).2.2⟩
    refine r_v ?_
    refine w_goto c_24_103 ?_
    refine w_aload c_24_115 rfl ?_
    refine w_getR c_24_116 sp_2 (by decide) rfl (show aR sh (some 110) 2 3 = some 110 from rfl) ?_
    refine w_getR c_24_119 sp_110 (by decide) rfl pr_110_2 ?_
    refine w_aload c_24_122 rfl ?_
    refine z_getZ c_24_123 sp_2 (by decide) rfl (oS_rl hs hrl) ?_
    refine w_aload c_24_126 rfl ?_
    refine w_getR c_24_127 sp_2 (by decide) rfl (show aR sh (some 110) 2 3 = some 110 from rfl) ?_
    refine z_getZ c_24_130 sp_110 (by decide) rfl (rQ_ln hs) ?_
    refine z_iastore c_24_133 sp_113 (by omega) (by decide) ?_
    rw [oS_out (by decide) (by decide) (by decide)]
    refine oS_intro (fun I4 e4 => ?_)
    have hF4 : frG PQu I I4 := by rw [e4]; exact hF3.up (Or.inr (Or.inr rfl))
    refine w_aload c_24_134 rfl ?_
    refine z_push c_24_135 ?_
    refine wc_45 c_24_138 sp_2 (Nat.le_of_ble_eq_true rfl) (by omega) ?_
    refine ts_need (by decide) hs (hK.fr (fun q k a b => hF4 q k (by omega))) hUg (by omega) ?_
    refine r_v ?_
    refine w_iload c_24_141 rfl ?_
    refine z_ret c_24_142 rfl ?_
    refine kk I4 _ (rN_g hUg (kB_K hK)).1 (hCU.en (N := N)) (fun z => ?_) hF4
    have zU : U.f = 0 := (rN_0' z)
    obtain ⟨a, b, l, c, d, e, f, g⟩ := hq.2 zU
    have hl : quL T n = l := d
    have hln : U.ln = (l.length : Int) := by have := c.1; have h0 : (rI (rL0 S)).ln = 0 := rfl; omega
    rw [hl]
    refine ⟨?_, ?_, ?_, by omega, by rw [show decide (tkK T n 0 ≤ 334) = false from decide_eq_false (by omega)]; exact f, c.2.2.2.2.1⟩
    · rw [e4, up_ne (by decide), e3]; exact up_eq
    · rw [e4, ← hln]; exact up_eq
    · rw [rN_l.2]; exact c.2.2.2.1
  · refine z_tsw c_24_33 (by first | exact aRg_of _ | (unfold aRg; omega)) (pc2 := 106) (by (by_cases hq : (tkK T n 0) < 332 ∨ 337 < (tkK T n 0)); (rw [if_pos hq]; rfl); (exfalso; omega)) ?_
    refine w_aload c_24_106 rfl ?_
    refine z_push c_24_107 ?_
    refine w_aload c_24_108 rfl ?_
    refine wc_43 c_24_109 sp_2 (Nat.le_of_ble_eq_true rfl) (by omega) ?_
    refine ts_nextPlace hs (hK.fr (fun q k a b => hF3 q k (by omega))) hg ?_
    refine r_i ?_
    refine wc_46 c_24_112 sp_2 (Nat.le_of_ble_eq_true rfl) (by omega) ?_
    refine ts_fail hg ?_
    refine r_v ?_
    refine w_aload c_24_115 rfl ?_
    refine w_getR c_24_116 sp_2 (by decide) rfl (show aR sh (some 110) 2 3 = some 110 from rfl) ?_
    refine w_getR c_24_119 sp_110 (by decide) rfl pr_110_2 ?_
    refine w_aload c_24_122 rfl ?_
    refine z_getZ c_24_123 sp_2 (by decide) rfl (oS_rl hs hrl) ?_
    refine w_aload c_24_126 rfl ?_
    refine w_getR c_24_127 sp_2 (by decide) rfl (show aR sh (some 110) 2 3 = some 110 from rfl) ?_
    refine z_getZ c_24_130 sp_110 (by decide) rfl (rQ_ln hs) ?_
    refine z_iastore c_24_133 sp_113 (by omega) (by decide) ?_
    rw [oS_out (by decide) (by decide) (by decide)]
    refine oS_intro (fun I4 e4 => ?_)
    have hF4 : frG PQu I I4 := by rw [e4]; exact hF3.up (Or.inr (Or.inr rfl))
    refine w_aload c_24_134 rfl ?_
    refine z_push c_24_135 ?_
    refine wc_45 c_24_138 sp_2 (Nat.le_of_ble_eq_true rfl) (by omega) ?_
    refine ts_need (by decide) hs (hK.fr (fun q k a b => hF4 q k (by omega))) (rF_g hg (by decide)).1 (by omega) ?_
    refine r_v ?_
    refine w_iload c_24_141 rfl ?_
    refine z_ret c_24_142 rfl ?_
    have hc1 : quC1 T n = (1, tkP T n 0, 0) := if_neg (by omega)
    have hCU : cc (quC1 T n) (rF 1 (tPl T n (rL0 S).a) (rL0 S)) := by rw [hc1, hra, hp0]; exact cc.bf hCr.1 (by decide)
    refine kk I4 _ (rN_g (rF_g hg (by decide)).1 (kB_K hK)).1 (hCU.en (N := N)) (fun z => absurd (rN_0' z) (rF_f (by decide))) hF4

