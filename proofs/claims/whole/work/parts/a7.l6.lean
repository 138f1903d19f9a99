/-! asking: the reference, the whole (pa7.py) -/
set_option maxHeartbeats 1000000 in
theorem t_qKind {d : Nat} {I : aFI} {L : aFL} {Q : aPo} {T : Int → Int} {n : Int} {sh : Nat} {su : Option Nat} {a bp np nm : Int} (hB : oB I T n) (hO : oW I) (hA : rA T n 0 a) (hd : 5 ≤ d) (kG : ∀ kd a2 : Int, kd = tkK T n 0 - 332 → (332 ≤ tkK T n 0 ∧ tkK T n 0 ≤ 337) → rA T n 1 a2 → Q (some (.int (iI kd))) (oT I T n 1 a2 0 bp np nm) L (aR sh su)) (kF : ¬ (332 ≤ tkK T n 0 ∧ tkK T n 0 ≤ 337) → Q (some (.int (iI 5))) (oT I T n 0 (tkP T n 0) 1 (tkP T n 0) np nm) L (aR sh su)) : aWp none d 244 0 [.ref 157, .null] [] (oT I T n 0 a 0 bp np nm) L (aR sh su) Q := by
  have hn := hB.2.2.1
  have w0 : wcode 208 = 332 := by decide
  have w1 : wcode 209 = 333 := by decide
  have w2 : wcode 210 = 334 := by decide
  have w3 : wcode 211 = 335 := by decide
  have w4 : wcode 212 = 336 := by decide
  have w5 : wcode 213 = 337 := by decide
  refine w_aload c_244_0 rfl ?_
  refine w_aload c_244_1 rfl ?_
  refine w_getR c_244_2 sp_157 (by decide) rfl pr_157_73 ?_
  refine wc_138 c_244_5 sp_157 (Nat.le_of_ble_eq_true rfl) (by omega) ?_
  refine tt_takesW (q := 208) hB hO (Or.inr ⟨by decide, by decide⟩) (by omega) hA (fun z0 a1 hA1 => ?_) (fun z0 => ?_)
  · refine r_i ?_
    refine b_if_eq c_244_8 (fun h => Bool.noConfusion h) (fun _ => ?_)
    refine z_push c_244_11 ?_
    refine w_goto c_244_12 ?_
    refine w_istore c_244_76 (Nat.le_of_ble_eq_true rfl) rfl ?_
    refine w_iload c_244_77 rfl ?_
    refine z_push c_244_78 ?_
    refine z_ic_ne c_244_79 (by first | exact aRg_of _ | (unfold aRg; omega)) (by first | exact aRg_of _ | (unfold aRg; omega)) (fun _ => ?_) (fun h => absurd h (by decide))
    refine w_iload c_244_90 rfl ?_
    refine z_ret c_244_91 rfl ?_
    rw [w0] at z0
    exact kG 0 a1 (by omega) (by omega) hA1
  · refine r_i ?_
    refine b_if_eq c_244_8 (fun _ => ?_) (fun h => Bool.noConfusion h)
    refine w_aload c_244_15 rfl ?_
    refine w_aload c_244_16 rfl ?_
    refine w_getR c_244_17 sp_157 (by decide) rfl pr_157_74 ?_
    refine wc_138 c_244_20 sp_157 (Nat.le_of_ble_eq_true rfl) (by omega) ?_
    refine tt_takesW (q := 209) hB hO (Or.inr ⟨by decide, by decide⟩) (by omega) (rA_p hn.1) (fun z1 a1 hA1 => ?_) (fun z1 => ?_)
    · refine r_i ?_
      refine b_if_eq c_244_23 (fun h => Bool.noConfusion h) (fun _ => ?_)
      refine z_push c_244_26 ?_
      refine w_goto c_244_27 ?_
      refine w_istore c_244_76 (Nat.le_of_ble_eq_true rfl) rfl ?_
      refine w_iload c_244_77 rfl ?_
      refine z_push c_244_78 ?_
      refine z_ic_ne c_244_79 (by first | exact aRg_of _ | (unfold aRg; omega)) (by first | exact aRg_of _ | (unfold aRg; omega)) (fun _ => ?_) (fun h => absurd h (by decide))
      refine w_iload c_244_90 rfl ?_
      refine z_ret c_244_91 rfl ?_
      rw [w1] at z1
      exact kG 1 a1 (by omega) (by omega) hA1
    · refine r_i ?_
      refine b_if_eq c_244_23 (fun _ => ?_) (fun h => Bool.noConfusion h)
      refine w_aload c_244_30 rfl ?_
      refine w_aload c_244_31 rfl ?_
      refine w_getR c_244_32 sp_157 (by decide) rfl pr_157_75 ?_
      refine wc_138 c_244_35 sp_157 (Nat.le_of_ble_eq_true rfl) (by omega) ?_
      refine tt_takesW (q := 210) hB hO (Or.inr ⟨by decide, by decide⟩) (by omega) (rA_p hn.1) (fun z2 a1 hA1 => ?_) (fun z2 => ?_)
      · refine r_i ?_
        refine b_if_eq c_244_38 (fun h => Bool.noConfusion h) (fun _ => ?_)
        refine z_push c_244_41 ?_
        refine w_goto c_244_42 ?_
        refine w_istore c_244_76 (Nat.le_of_ble_eq_true rfl) rfl ?_
        refine w_iload c_244_77 rfl ?_
        refine z_push c_244_78 ?_
        refine z_ic_ne c_244_79 (by first | exact aRg_of _ | (unfold aRg; omega)) (by first | exact aRg_of _ | (unfold aRg; omega)) (fun _ => ?_) (fun h => absurd h (by decide))
        refine w_iload c_244_90 rfl ?_
        refine z_ret c_244_91 rfl ?_
        rw [w2] at z2
        exact kG 2 a1 (by omega) (by omega) hA1
      · refine r_i ?_
        refine b_if_eq c_244_38 (fun _ => ?_) (fun h => Bool.noConfusion h)
        refine w_aload c_244_45 rfl ?_
        refine w_aload c_244_46 rfl ?_
        refine w_getR c_244_47 sp_157 (by decide) rfl pr_157_76 ?_
        refine wc_138 c_244_50 sp_157 (Nat.le_of_ble_eq_true rfl) (by omega) ?_
        refine tt_takesW (q := 211) hB hO (Or.inr ⟨by decide, by decide⟩) (by omega) (rA_p hn.1) (fun z3 a1 hA1 => ?_) (fun z3 => ?_)
        · refine r_i ?_
          refine b_if_eq c_244_53 (fun h => Bool.noConfusion h) (fun _ => ?_)
          refine z_push c_244_56 ?_
          refine w_goto c_244_57 ?_
          refine w_istore c_244_76 (Nat.le_of_ble_eq_true rfl) rfl ?_
          refine w_iload c_244_77 rfl ?_
          refine z_push c_244_78 ?_
          refine z_ic_ne c_244_79 (by first | exact aRg_of _ | (unfold aRg; omega)) (by first | exact aRg_of _ | (unfold aRg; omega)) (fun _ => ?_) (fun h => absurd h (by decide))
          refine w_iload c_244_90 rfl ?_
          refine z_ret c_244_91 rfl ?_
          rw [w3] at z3
          exact kG 3 a1 (by omega) (by omega) hA1
        · refine r_i ?_
          refine b_if_eq c_244_53 (fun _ => ?_) (fun h => Bool.noConfusion h)
          refine w_aload c_244_60 rfl ?_
          refine w_aload c_244_61 rfl ?_
          refine w_getR c_244_62 sp_157 (by decide) rfl pr_157_77 ?_
          refine wc_138 c_244_65 sp_157 (Nat.le_of_ble_eq_true rfl) (by omega) ?_
          refine tt_takesW (q := 212) hB hO (Or.inr ⟨by decide, by decide⟩) (by omega) (rA_p hn.1) (fun z4 a1 hA1 => ?_) (fun z4 => ?_)
          · refine r_i ?_
            refine b_if_eq c_244_68 (fun h => Bool.noConfusion h) (fun _ => ?_)
            refine z_push c_244_71 ?_
            refine w_goto c_244_72 ?_
            refine w_istore c_244_76 (Nat.le_of_ble_eq_true rfl) rfl ?_
            refine w_iload c_244_77 rfl ?_
            refine z_push c_244_78 ?_
            refine z_ic_ne c_244_79 (by first | exact aRg_of _ | (unfold aRg; omega)) (by first | exact aRg_of _ | (unfold aRg; omega)) (fun _ => ?_) (fun h => absurd h (by decide))
            refine w_iload c_244_90 rfl ?_
            refine z_ret c_244_91 rfl ?_
            rw [w4] at z4
            exact kG 4 a1 (by omega) (by omega) hA1
          · refine r_i ?_
            refine b_if_eq c_244_68 (fun _ => ?_) (fun h => Bool.noConfusion h)
            refine z_push c_244_75 ?_
            refine w_istore c_244_76 (Nat.le_of_ble_eq_true rfl) rfl ?_
            refine w_iload c_244_77 rfl ?_
            refine z_push c_244_78 ?_
            refine z_ic_ne c_244_79 (by first | exact aRg_of _ | (unfold aRg; omega)) (by first | exact aRg_of _ | (unfold aRg; omega)) (fun h => absurd h (by decide)) (fun _ => ?_)
            refine w_aload c_244_82 rfl ?_
            refine w_aload c_244_83 rfl ?_
            refine w_getR c_244_84 sp_157 (by decide) rfl pr_157_78 ?_
            refine wc_139 c_244_87 sp_157 (Nat.le_of_ble_eq_true rfl) (by omega) ?_
            refine tt_asksW (q := 213) hB hO (Or.inr ⟨by decide, by decide⟩) (by omega) (rA_p hn.1) (fun z5 a1 hA1 => ?_) (fun z5 => ?_)
            · refine r_v ?_
              refine w_iload c_244_90 rfl ?_
              refine z_ret c_244_91 rfl ?_
              rw [w5] at z5
              exact kG 5 a1 (by omega) (by omega) hA1
            · refine r_v ?_
              refine w_iload c_244_90 rfl ?_
              refine z_ret c_244_91 rfl ?_
              rw [w0] at z0
              rw [w1] at z1
              rw [w2] at z2
              rw [w3] at z3
              rw [w4] at z4
              rw [w5] at z5
              exact kF (by omega)

set_option maxHeartbeats 1000000 in
theorem t_ask_109 {d : Nat} {Q : aPo} {sh : Nat} {su : Option Nat} {D : Nat → Int → Int} {cd : Nat → Option (List Int)} {X : Lk} {kd : Int} {I0 I : aFI} {L : aFL} {v : Value} {T : Int → Int} {n : Int} {E : Nat} {a en b bp np nm : Int} (hS : wfS D cd) (hX : lkOK X) (hd : 6 ≤ d) (hR : rS I0 D cd X) (hE : ∀ j : Nat, tkK T n j = 341 ↔ E ≤ j) (hEn : (E : Int) ≤ n) (hB : oB I T n) (hF : frG PAr I0 I) (h1 : I 157 1 = iI 0) (hC : cu T n (quC1 T n) a en b bp) (hq : (quC1 T n).1 = 0 → kd = tkK T n 0 - 332 ∧ (332 ≤ tkK T n 0 ∧ tkK T n 0 ≤ 337) ∧ stk I 232 (quR T n).2.2.2.1 ∧ I 157 98 = iI ((quR T n).2.2.2.1.length : Int) ∧ (quR T n).2.2.2.1.length ≤ 1600) (k1 : ¬ (quC T n).1 = 0 → ∀ I2 : aFI, I2 157 7 = iI (quC T n).1 → I2 157 8 = iI (quC T n).2.1 → I2 157 1 = iI 0 → frG PAr I0 I2 → Q (some (.long (lI (-1000000000000000)))) I2 L (aR sh su)) (k2 : (quC T n).1 = 0 → ∀ (I2 : aFI) (L2 : aFL), I2 157 7 = iI 0 → I2 157 8 = iI (-1) → I2 157 1 = iI 0 → frG PAr I0 I2 → frG PArL L L2 → Q (some (.long (lI (aNow (askW D cd X (quL T n)) (tkK T n 0) (D 1 2).toNat)))) I2 L2 (aR sh su)) : aWp none d 246 109 [.ref 157, .int (iI kd), v] [] (oP I a en b bp np nm) L (aR sh su) Q := by
  have hn := hB.2.2.1
  have ho : ∀ (J : aFI) (a3 en3 b3 bp3 np3 nm3 : Int) (q k : Nat), ¬ (q = 157 ∧ (k = 2 ∨ k = 4 ∨ k = 5 ∨ k = 6 ∨ k = 10 ∨ k = 43)) → oP J a3 en3 b3 bp3 np3 nm3 q k = J q k := fun J a3 en3 b3 bp3 np3 nm3 q k hq => by
    unfold oP
    repeat rw [if_neg (by omega)]
  rcases hC.cs with ⟨hc1, rfl, h3, rfl, hbp⟩ | ⟨hc1, h2, h3, h4, h5⟩
  · refine w_aload c_246_109 rfl ?_
    refine z_getZ c_246_110 sp_157 (by decide) rfl rfl ?_
    refine z_if_ne c_246_113 (by first | exact aRg_of _ | (unfold aRg; omega)) (fun h1_ => ?_) (fun h1_ => ?_)
    · exact absurd rfl h1_
    refine w_aload c_246_116 rfl ?_
    refine wc_136 c_246_117 sp_157 (Nat.le_of_ble_eq_true rfl) (by omega) ?_
    refine tt_look hB h3 ?_
    have hend := tkK_end hB.2.2.2 (T := T) (n := n) (j := (quC1 T n).2.2)
    have hlr : -1 ≤ lkc T n (tkP T n (quC1 T n).2.2) ∧ lkc T n (tkP T n (quC1 T n).2.2) < 256 := lkc_rg hB.2.2.2
    refine r_i ?_
    refine z_push c_246_120 ?_
    refine z_ic_eq c_246_121 (by first | exact aRg_of _ | (unfold aRg; omega)) (by first | exact aRg_of _ | (unfold aRg; omega)) (fun h2_ => ?_) (fun h2_ => ?_)
    · refine w_aload c_246_133 rfl ?_
      refine w_aload c_246_134 rfl ?_
      refine z_getZ c_246_135 sp_157 (by decide) rfl rfl ?_
      refine z_putZ c_246_138 sp_157 (by decide) rfl ?_
      refine oq_k (P := fun q k => PAr q k) hF (by decide) (by decide) (fun I1 e1 hF1 => ?_)
      refine w_aload c_246_141 rfl ?_
      refine w_aload c_246_142 rfl ?_
      refine z_getZ c_246_143 sp_157 (by decide) rfl rfl ?_
      refine z_putZ c_246_146 sp_157 (by decide) rfl ?_
      refine oq_k hF1 (by decide) (by decide) (fun I2 e2 hF2 => ?_)
      refine w_aload c_246_149 rfl ?_
      refine z_getZ c_246_150 sp_157 (by decide) rfl rfl ?_
      refine z_if_eq c_246_153 (by first | exact aRg_of _ | (unfold aRg; omega)) (fun h81_ => ?_) (fun h81_ => ?_)
      rotate_left
      · exact absurd rfl h81_
      have hK : tkK T n (quC1 T n).2.2 = 341 := hend.mpr (by omega)
      have hqC : quC T n = quC1 T n := if_neg (fun z => z.2 hK)
      rw [hqC] at k2
      obtain ⟨q1, q2, q3, q4, q5⟩ := hq hc1
      have hc1r : (quR T n).1 = 0 := by
        have e : quC1 T n = ((quR T n).1, (quR T n).2.1, (quR T n).2.2.1) := if_pos q2
        rw [e] at hc1; exact hc1
      have hqq := quR_q hn hE hEn (by omega) hc1r
      have hll : (quR T n).2.2.2.1.length = (quL T n).length := by unfold quL; simp
      have hR2 := (hR.ar hF2)
      generalize e3 : oP I2 (tkP T n (quC1 T n).2.2) (tkS T n (quC1 T n).2.2).2 0 bp np nm = I3
      have h3 : ∀ q k : Nat, ¬ (q = 157 ∧ (k = 2 ∨ k = 4 ∨ k = 5 ∨ k = 6 ∨ k = 10 ∨ k = 43)) → I3 q k = I2 q k := fun q k hq => by rw [← e3]; exact ho _ _ _ _ _ _ _ q k hq
      have hF3 : frG PAr I0 I3 := fun q k hq => (h3 q k (by omega)).trans (hF2 q k hq)
      have e21 : ∀ q k : Nat, ¬ (q = 157 ∧ (k = 7 ∨ k = 8)) → I2 q k = I q k := fun q k hq => by rw [e2, up_ne (by omega), e1, up_ne (by omega)]
      rw [show (tkK T n 0 : Int) = 332 + kd by omega] at k2
      refine t_ask_160 (l := quL T n) (t := decide (tkK T n 0 ≤ 334)) hS hX (by omega) ⟨by omega, by omega⟩ (fun z => decide_eq_true (by omega)) (by omega) hqq.1 hqq.2.1 (hR.ar hF3) ?_ ?_ (fun I4 L4 hF4 hG4 => ?_)
      · rw [h3 157 98 (by decide), e21 157 98 (by decide), q4, hll]
      · exact (qcAt_of q3 hqq.2.2).fr (fun k => (h3 232 k (by omega)).trans (e21 232 k (by omega)))
      refine k2 hc1 I4 L4 ?_ ?_ ?_ (fun q k hq => (hF4 q k (by omega)).trans (hF3 q k hq)) hG4
      · rw [hF4 157 7 (by omega), h3 157 7 (by decide), e2, up_ne (by decide), e1]; exact up_eq
      · rw [hF4 157 8 (by omega), h3 157 8 (by decide), e2, ← hbp]; exact up_eq
      · rw [hF4 157 1 (by omega), h3 157 1 (by decide), e21 157 1 (by decide)]; exact h1
    · refine w_aload c_246_124 rfl ?_
      refine z_push c_246_125 ?_
      refine w_aload c_246_126 rfl ?_
      refine z_getZ c_246_127 sp_157 (by decide) rfl rfl ?_
      refine wc_133 c_246_130 sp_157 (Nat.le_of_ble_eq_true rfl) (by omega) ?_
      refine t_fail (by unfold aRg; omega) (fun z => absurd rfl z) (fun _ => ?_)
      refine r_v ?_
      refine w_aload c_246_133 rfl ?_
      refine w_aload c_246_134 rfl ?_
      refine z_getZ c_246_135 sp_157 (by decide) rfl rfl ?_
      refine z_putZ c_246_138 sp_157 (by decide) rfl ?_
      refine oq_k (P := fun q k => PAr q k) hF (by decide) (by decide) (fun I1 e1 hF1 => ?_)
      refine w_aload c_246_141 rfl ?_
      refine w_aload c_246_142 rfl ?_
      refine z_getZ c_246_143 sp_157 (by decide) rfl rfl ?_
      refine z_putZ c_246_146 sp_157 (by decide) rfl ?_
      refine oq_k hF1 (by decide) (by decide) (fun I2 e2 hF2 => ?_)
      refine w_aload c_246_149 rfl ?_
      refine z_getZ c_246_150 sp_157 (by decide) rfl rfl ?_
      refine z_if_eq c_246_153 (by first | exact aRg_of _ | (unfold aRg; omega)) (fun h71_ => ?_) (fun h71_ => ?_)
      · exact absurd (show (1 : Int) = 0 from h71_) (by decide)
      refine z_pushl c_246_156 ?_
      refine z_retl c_246_159 ?_
      have hK : ¬ tkK T n (quC1 T n).2.2 = 341 := fun z => by have := hend.mp z; omega
      have hqC : quC T n = (1, tkP T n (quC1 T n).2.2, (quC1 T n).2.2) := if_pos ⟨hc1, hK⟩
      refine k1 (fun z => by rw [hqC] at z; exact absurd (show (1 : Int) = 0 from z) (by decide)) _ ?_ ?_ ?_ ?_
      · rw [ho I2 _ _ _ _ _ _ 157 7 (by decide), e2, up_ne (by decide), e1, hqC]; exact up_eq
      · rw [ho I2 _ _ _ _ _ _ 157 8 (by decide), e2, hqC]; exact up_eq
      · rw [ho I2 _ _ _ _ _ _ 157 1 (by decide), e2, up_ne (by decide), e1, up_ne (by decide)]; exact h1
      · intro q k hq
        rw [ho I2 _ _ _ _ _ _ q k (by omega)]; exact hF2 q k hq
  · have h5b := h5
    unfold aRg at h5b
    refine w_aload c_246_109 rfl ?_
    refine z_getZ c_246_110 sp_157 (by decide) rfl rfl ?_
    refine z_if_ne c_246_113 (by first | exact aRg_of _ | (unfold aRg; omega)) (fun h61_ => ?_) (fun h61_ => ?_)
    rotate_left
    · exact absurd h2 h61_
    refine w_aload c_246_133 rfl ?_
    refine w_aload c_246_134 rfl ?_
    refine z_getZ c_246_135 sp_157 (by decide) rfl rfl ?_
    refine z_putZ c_246_138 sp_157 (by decide) rfl ?_
    refine oq_k (P := fun q k => PAr q k) hF (by decide) (by decide) (fun I1 e1 hF1 => ?_)
    refine w_aload c_246_141 rfl ?_
    refine w_aload c_246_142 rfl ?_
    refine z_getZ c_246_143 sp_157 (by decide) rfl rfl ?_
    refine z_putZ c_246_146 sp_157 (by decide) rfl ?_
    refine oq_k hF1 (by decide) (by decide) (fun I2 e2 hF2 => ?_)
    refine w_aload c_246_149 rfl ?_
    refine z_getZ c_246_150 sp_157 (by decide) rfl rfl ?_
    refine z_if_eq c_246_153 (by first | exact aRg_of _ | (unfold aRg; omega)) (fun h71_ => ?_) (fun h71_ => ?_)
    · exact absurd h71_ h2
    refine z_pushl c_246_156 ?_
    refine z_retl c_246_159 ?_
    have hqC : quC T n = quC1 T n := if_neg (fun z => hc1 z.1)
    refine k1 (fun z => by rw [hqC] at z; exact hc1 z) _ ?_ ?_ ?_ ?_
    · rw [ho I2 _ _ _ _ _ _ 157 7 (by decide), e2, up_ne (by decide), e1, hqC, ← hC.1]; exact up_eq
    · rw [ho I2 _ _ _ _ _ _ 157 8 (by decide), e2, hqC, ← h4]; exact up_eq
    · rw [ho I2 _ _ _ _ _ _ 157 1 (by decide), e2, up_ne (by decide), e1, up_ne (by decide)]; exact h1
    · intro q k hq
      rw [ho I2 _ _ _ _ _ _ q k (by omega)]; exact hF2 q k hq

