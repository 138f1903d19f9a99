/-! the reference: a fact read (p92.py) -/
/-- a fact: mark, codes, how many are open -/
def ftR (K PL Z : Nat → Int) (tk : Int) (j : Nat) (O : List Int) (op : Int) : Oc :=
  if K j = 329 then (0, 0, j + 1, 13 :: O, op)
  else if ¬ (rm K PL Z tk (1700 - j) 0 j [] O op).1 = 0 then rm K PL Z tk (1700 - j) 0 j [] O op
  else if ¬ (K (rm K PL Z tk (1700 - j) 0 j [] O op).2.2.1 = 60 ∨ K (rm K PL Z tk (1700 - j) 0 j [] O op).2.2.1 = 62 ∨ K (rm K PL Z tk (1700 - j) 0 j [] O op).2.2.1 = 61) then (1, PL (rm K PL Z tk (1700 - j) 0 j [] O op).2.2.1, (rm K PL Z tk (1700 - j) 0 j [] O op).2.2)
  else if ¬ (rm K PL Z tk (1700 - ((rm K PL Z tk (1700 - j) 0 j [] O op).2.2.1 + 1)) 0 ((rm K PL Z tk (1700 - j) 0 j [] O op).2.2.1 + 1) [] (rm K PL Z tk (1700 - j) 0 j [] O op).2.2.2.1 (rm K PL Z tk (1700 - j) 0 j [] O op).2.2.2.2).1 = 0 then rm K PL Z tk (1700 - ((rm K PL Z tk (1700 - j) 0 j [] O op).2.2.1 + 1)) 0 ((rm K PL Z tk (1700 - j) 0 j [] O op).2.2.1 + 1) [] (rm K PL Z tk (1700 - j) 0 j [] O op).2.2.2.1 (rm K PL Z tk (1700 - j) 0 j [] O op).2.2.2.2
  else (0, 0, (rm K PL Z tk (1700 - ((rm K PL Z tk (1700 - j) 0 j [] O op).2.2.1 + 1)) 0 ((rm K PL Z tk (1700 - j) 0 j [] O op).2.2.1 + 1) [] (rm K PL Z tk (1700 - j) 0 j [] O op).2.2.2.1 (rm K PL Z tk (1700 - j) 0 j [] O op).2.2.2.2).2.2.1, (if K (rm K PL Z tk (1700 - j) 0 j [] O op).2.2.1 = 60 then 7 else if K (rm K PL Z tk (1700 - j) 0 j [] O op).2.2.1 = 62 then 8 else 9) :: (rm K PL Z tk (1700 - ((rm K PL Z tk (1700 - j) 0 j [] O op).2.2.1 + 1)) 0 ((rm K PL Z tk (1700 - j) 0 j [] O op).2.2.1 + 1) [] (rm K PL Z tk (1700 - j) 0 j [] O op).2.2.2.1 (rm K PL Z tk (1700 - j) 0 j [] O op).2.2.2.2).2.2.2.1, (rm K PL Z tk (1700 - ((rm K PL Z tk (1700 - j) 0 j [] O op).2.2.1 + 1)) 0 ((rm K PL Z tk (1700 - j) 0 j [] O op).2.2.1 + 1) [] (rm K PL Z tk (1700 - j) 0 j [] O op).2.2.2.1 (rm K PL Z tk (1700 - j) 0 j [] O op).2.2.2.2).2.2.2.2)
theorem wk_217 : wcode 217 = 329 := by decide +kernel
set_option maxHeartbeats 1000000 in
theorem tf_qCode {d : Nat} {I : aFI} {L : aFL} {Q : aPo} {sh : Nat} {su : Option Nat} {a en b bp np nm : Int} {v c : Int} (hc : I 157 98 = iI c) (hcr : 0 ≤ c ∧ c < 1690) (k : ∀ I2 : aFI, I2 157 98 = iI (c + 1) → frG PQn I I2 → Q none (oP I2 a en b bp np nm) L (aR sh su)) : aWp none d 218 0 [.ref 157, .int (iI v)] [] (oP I a en b bp np nm) L (aR sh su) Q := by
  refine w_aload c_218_0 rfl ?_
  refine w_getR c_218_1 sp_157 (by decide) rfl pr_157_97 ?_
  refine w_aload c_218_4 rfl ?_
  refine z_getZ c_218_5 sp_157 (by decide) rfl hc ?_
  refine w_iload c_218_8 rfl ?_
  refine z_iastore c_218_9 sp_232 (by omega) (by decide) ?_
  refine oq_k (frG.rf (P := PQn) (I := I)) (Or.inr (Or.inl rfl)) (by omega) (fun I1 h1 hF1 => ?_)
  have hc1 : I1 157 98 = iI c := by rw [h1]; exact (up_ne (by omega)).trans hc
  refine w_aload c_218_10 rfl ?_
  refine w_dup c_218_11 rfl ?_
  refine z_getZ c_218_12 sp_157 (by decide) rfl hc1 ?_
  refine z_push c_218_15 ?_
  refine z_iadd c_218_16 ?_
  refine z_putZ c_218_17 sp_157 (by decide) rfl ?_
  refine oq_k hF1 (Or.inl ⟨rfl, Or.inl rfl⟩) (by decide) (fun I2 h2 hF2 => ?_)
  refine z_retv c_218_20 ?_
  exact k I2 (by rw [h2]; exact up_eq) hF2

theorem qI.code2 {T : Int → Int} {n : Int} {sl : Nat} {W O : List Int} {op v : Int} {j : Nat} (h : qI T n (sl + 1) W [] O op j) : qI T n sl W [] (v :: O) op j := ⟨h.1, by have h1 : W.length + O.length + (sl + 1) ≤ j := h.2.1; show W.length + (v :: O).length + sl ≤ j; rw [List.length_cons]; omega, h.2.2⟩
theorem qI.nxt2 {T : Int → Int} {n : Int} {sl : Nat} {B U O : List Int} {op : Int} {j : Nat} (h : qI T n sl B U O op j) (hj : ((j + 1 : Nat) : Int) ≤ (tkS T n (j + 1)).1) : qI T n (sl + 1) B U O op (j + 1) := ⟨h.1, by have := h.2.1; omega, by have := h.2.2.1; omega, h.2.2.2.1, hj⟩
set_option maxHeartbeats 1000000 in
theorem t_qFact {d : Nat} {I : aFI} {L : aFL} {Q : aPo} {T : Int → Int} {n : Int} {sh : Nat} {su : Option Nat} {j : Nat} {a bp np nm : Int} {sl : Nat} {tk b0 : Int} {W O : List Int} {op : Int} (htr : 0 ≤ tk ∧ tk < 3) (hBh : ∀ v : Int, W.head? = some v → ¬ isSu v = true) (hd : 9 ≤ d) (hB : oB I T n) (hO : oW I) (hA : rA T n j a) (hq : qS I W O op b0) (hi : qI T n sl W [] O op j) (htk : I 157 57 = iI tk) (kG : (ftR (tkK T n) (tkP T n) (tkZ T n) tk j O op).1 = 0 → ∀ (I2 : aFI) (a2 np2 : Int), j < (ftR (tkK T n) (tkP T n) (tkZ T n) tk j O op).2.2.1 → qS I2 W (ftR (tkK T n) (tkP T n) (tkZ T n) tk j O op).2.2.2.1 (ftR (tkK T n) (tkP T n) (tkZ T n) tk j O op).2.2.2.2 b0 → qI T n sl W [] (ftR (tkK T n) (tkP T n) (tkZ T n) tk j O op).2.2.2.1 (ftR (tkK T n) (tkP T n) (tkZ T n) tk j O op).2.2.2.2 (ftR (tkK T n) (tkP T n) (tkZ T n) tk j O op).2.2.1 → frG PQn I I2 → rA T n (ftR (tkK T n) (tkP T n) (tkZ T n) tk j O op).2.2.1 a2 → Q none (oT I2 T n (ftR (tkK T n) (tkP T n) (tkZ T n) tk j O op).2.2.1 a2 0 bp np2 nm) L (aR sh su)) (kF : ∀ (I2 : aFI) (a2 en2 np2 : Int), 0 < (ftR (tkK T n) (tkP T n) (tkZ T n) tk j O op).1 → (ftR (tkK T n) (tkP T n) (tkZ T n) tk j O op).1 < 10 → frG PQn I I2 → aF n a2 en2 → Q none (oP I2 a2 en2 (ftR (tkK T n) (tkP T n) (tkZ T n) tk j O op).1 (ftR (tkK T n) (tkP T n) (tkZ T n) tk j O op).2.1 np2 nm) L (aR sh su)) : aWp none d 232 0 [.ref 157, .null] [] (oT I T n j a 0 bp np nm) L (aR sh su) Q := by
  have hn := hB.2.2.1
  have hjj := hi.jb hn
  have hlen : W.length + O.length + sl ≤ j := hi.2.1
  have hA2 := rA_p (T := T) (n := n) (j := j) hn.1
  refine w_aload c_232_0 rfl ?_
  refine w_aload c_232_1 rfl ?_
  refine w_getR c_232_2 sp_157 (by decide) rfl pr_157_82 ?_
  refine wc_138 c_232_5 sp_157 (Nat.le_of_ble_eq_true rfl) (by omega) ?_
  refine tt_takesW hB hO (q := 217) (Or.inr ⟨by decide, by decide⟩) (by omega) hA (fun hk a4 hA4 => ?_) (fun hk => ?_)
  · refine r_i ?_
    refine b_if_eq c_232_8 (fun h => Bool.noConfusion h) (fun _ => ?_)
    refine w_aload c_232_11 rfl ?_
    refine z_push c_232_12 ?_
    refine wc_218 c_232_14 sp_157 (Nat.le_of_ble_eq_true rfl) (by omega) ?_
    have hk : tkK T n j = 329 := hk.trans wk_217
    have hup := tkS_up hn.1 hB.2.2.2 hi.2.2.2.2 (by omega)
    refine t_qCode hq (by omega) (fun I2 hq2 hF2 => ?_)
    refine r_v ?_
    refine z_retv c_232_17 ?_
    have hft : ftR (tkK T n) (tkP T n) (tkZ T n) tk j O op = (0, 0, j + 1, 13 :: O, op) := by
      unfold ftR; rw [if_pos hk]
    rw [hft] at kG
    exact kG rfl I2 a4 np (Nat.lt_succ_self j) hq2 (hi.code hup) hF2 hA4
  · refine r_i ?_
    refine b_if_eq c_232_8 (fun _ => ?_) (fun h => Bool.noConfusion h)
    have hk329 : ¬ tkK T n j = 329 := fun z => hk (z.trans wk_217.symm)
    obtain ⟨⟨f1, p1, j1, O1, op1⟩, hr⟩ : ∃ r : Oc, rm (tkK T n) (tkP T n) (tkZ T n) tk (1700 - j) 0 j [] O op = r := ⟨_, rfl⟩
    refine w_aload c_232_18 rfl ?_
    refine wc_231 c_232_19 sp_157 (Nat.le_of_ble_eq_true rfl) (by omega) ?_
    refine t_qSums htr hBh (by omega) hB hO hA2 hq hi htk (fun hz I1 a1 np1 hjl hq1 hi1 hF1 hA1 => ?_) (fun I1 a1 en1 np1 z1 z2 zc hF1 hA1 => ?_)
    · refine r_v ?_
      rw [hr] at hz hjl hq1 hi1 hA1 ⊢
      dsimp only at hz hjl hq1 hi1 hA1 ⊢
      have hB1 := hB.pq hF1
      have hlr1 : -1 ≤ lkc T n (tkP T n j1) ∧ lkc T n (tkP T n j1) < 256 := by have := hB.2.2.2 (tkP T n j1); unfold lkc; split <;> omega
      refine w_aload c_232_22 rfl ?_
      refine z_getZ c_232_23 sp_157 (by decide) rfl rfl ?_
      refine z_if_eq c_232_26 (by first | exact aRg_of _ | (unfold aRg; omega)) (fun h11_ => ?_) (fun h11_ => ?_)
      rotate_left
      · exact absurd rfl h11_
      refine w_aload c_232_30 rfl ?_
      refine wc_136 c_232_31 sp_157 (Nat.le_of_ble_eq_true rfl) (by omega) ?_
      refine tt_look hB1 hA1 ?_
      refine r_i ?_
      refine w_istore c_232_34 (Nat.le_of_ble_eq_true rfl) rfl ?_
      refine w_iload c_232_35 rfl ?_
      refine z_push c_232_36 ?_
      refine z_ic_eq c_232_38 (by first | exact aRg_of _ | (unfold aRg; omega)) (by first | exact aRg_of _ | (unfold aRg; omega)) (fun h12_ => ?_) (fun h12_ => ?_)
      · have hks : tkK T n j1 = 60 := (tkK_sign hB.2.2.2 (by omega) (by omega) (by omega)).mpr (by omega)
        have hcmp : tkK T n j1 = 60 ∨ tkK T n j1 = 62 ∨ tkK T n j1 = 61 := by omega
        have hup1 := tkS_up hn.1 hB.2.2.2 hi1.2.2.2.2 (show ¬ tkK T n j1 = 341 by omega)
        have hx := rA_sign (b := 0) (bp := bp) (np := np1) (nm := nm) hB1 (c := 60) (by decide) hks
        refine w_aload c_232_63 rfl ?_
        refine w_dup c_232_64 rfl ?_
        refine z_getZ c_232_65 sp_157 (by decide) rfl rfl ?_
        refine z_push c_232_68 ?_
        refine z_iadd c_232_69 ?_
        refine z_putZ c_232_70 sp_157 (by decide) rfl ?_
        rw [oP_at, hx.1]
        refine w_aload c_232_73 rfl ?_
        refine wc_231 c_232_74 sp_157 (Nat.le_of_ble_eq_true rfl) (by omega) ?_
        refine t_qSums htr hBh (by omega) hB1 (hO.pq hF1) hx.2 hq1 (hi1.nxt2 hup1) ((hF1 157 57 (by decide)).trans htk) (fun hz2 I2 a2 np2 hjl2 hq2 hi2 hF2 hA2 => ?_) (fun I2 a2 en2 np2 z1 z2 zc hF2 hA2 => ?_)
        · refine r_v ?_
          refine w_aload c_232_77 rfl ?_
          refine w_iload c_232_78 rfl ?_
          refine z_push c_232_79 ?_
          refine z_ic_ne c_232_81 (by first | exact aRg_of _ | (unfold aRg; omega)) (by first | exact aRg_of _ | (unfold aRg; omega)) (fun h31_ => ?_) (fun h31_ => ?_)
          · exfalso; omega
          refine z_push c_232_84 ?_
          refine w_goto c_232_86 ?_
          refine wc_218 c_232_102 sp_157 (Nat.le_of_ble_eq_true rfl) (by omega) ?_
          have hl2 : W.length + (rm (tkK T n) (tkP T n) (tkZ T n) tk (1700 - (j1 + 1)) 0 (j1 + 1) [] O1 op1).2.2.2.1.length + (sl + 1) ≤ (rm (tkK T n) (tkP T n) (tkZ T n) tk (1700 - (j1 + 1)) 0 (j1 + 1) [] O1 op1).2.2.1 := hi2.2.1
          have hj2 := hi2.jb hn
          refine t_qCode hq2 (by omega) (fun I3 hq3 hF3 => ?_)
          refine r_v ?_
          refine z_retv c_232_105 ?_
          have hft : ftR (tkK T n) (tkP T n) (tkZ T n) tk j O op = (0, 0, (rm (tkK T n) (tkP T n) (tkZ T n) tk (1700 - (j1 + 1)) 0 (j1 + 1) [] O1 op1).2.2.1, 7 :: (rm (tkK T n) (tkP T n) (tkZ T n) tk (1700 - (j1 + 1)) 0 (j1 + 1) [] O1 op1).2.2.2.1, (rm (tkK T n) (tkP T n) (tkZ T n) tk (1700 - (j1 + 1)) 0 (j1 + 1) [] O1 op1).2.2.2.2) := by
            unfold ftR; rw [if_neg hk329, hr]; refine (if_neg (fun z => z hz)).trans ((if_neg (fun z => z hcmp)).trans ((if_neg (fun z => z hz2)).trans ?_))
            show (_, _, _, (if tkK T n j1 = 60 then (7 : Int) else if tkK T n j1 = 62 then 8 else 9) :: _, _) = _
            rw [if_pos hks]
          rw [hft] at kG
          exact kG rfl I3 a2 np2 (Nat.lt_trans (Nat.lt_trans hjl (Nat.lt_succ_self j1)) hjl2) hq3 hi2.code2 ((hF1.tr hF2).tr hF3) hA2
        · refine r_v ?_
          refine w_aload c_232_77 rfl ?_
          refine w_iload c_232_78 rfl ?_
          refine z_push c_232_79 ?_
          refine z_ic_ne c_232_81 (by first | exact aRg_of _ | (unfold aRg; omega)) (by first | exact aRg_of _ | (unfold aRg; omega)) (fun h31_ => ?_) (fun h31_ => ?_)
          · exfalso; omega
          refine z_push c_232_84 ?_
          refine w_goto c_232_86 ?_
          refine wc_218 c_232_102 sp_157 (Nat.le_of_ble_eq_true rfl) (by omega) ?_
          obtain ⟨c0, hc0, hc1⟩ := zc
          refine tf_qCode hc0 hc1 (fun I3 _ hF3 => ?_)
          refine r_v ?_
          refine z_retv c_232_105 ?_
          have hft : ftR (tkK T n) (tkP T n) (tkZ T n) tk j O op = rm (tkK T n) (tkP T n) (tkZ T n) tk (1700 - (j1 + 1)) 0 (j1 + 1) [] O1 op1 := by
            unfold ftR; rw [if_neg hk329, hr]; exact (if_neg (fun z => z hz)).trans ((if_neg (fun z => z hcmp)).trans (if_pos (fun z => Int.ne_of_gt z1 z)))
          rw [hft] at kF
          exact kF I3 _ _ _ z1 z2 ((hF1.tr hF2).tr hF3) hA2
      · refine w_iload c_232_41 rfl ?_
        refine z_push c_232_42 ?_
        refine z_ic_eq c_232_44 (by first | exact aRg_of _ | (unfold aRg; omega)) (by first | exact aRg_of _ | (unfold aRg; omega)) (fun h13_ => ?_) (fun h13_ => ?_)
        · have hks : tkK T n j1 = 62 := (tkK_sign hB.2.2.2 (by omega) (by omega) (by omega)).mpr (by omega)
          have hcmp : tkK T n j1 = 60 ∨ tkK T n j1 = 62 ∨ tkK T n j1 = 61 := by omega
          have hup1 := tkS_up hn.1 hB.2.2.2 hi1.2.2.2.2 (show ¬ tkK T n j1 = 341 by omega)
          have hx := rA_sign (b := 0) (bp := bp) (np := np1) (nm := nm) hB1 (c := 62) (by decide) hks
          refine w_aload c_232_63 rfl ?_
          refine w_dup c_232_64 rfl ?_
          refine z_getZ c_232_65 sp_157 (by decide) rfl rfl ?_
          refine z_push c_232_68 ?_
          refine z_iadd c_232_69 ?_
          refine z_putZ c_232_70 sp_157 (by decide) rfl ?_
          rw [oP_at, hx.1]
          refine w_aload c_232_73 rfl ?_
          refine wc_231 c_232_74 sp_157 (Nat.le_of_ble_eq_true rfl) (by omega) ?_
          refine t_qSums htr hBh (by omega) hB1 (hO.pq hF1) hx.2 hq1 (hi1.nxt2 hup1) ((hF1 157 57 (by decide)).trans htk) (fun hz2 I2 a2 np2 hjl2 hq2 hi2 hF2 hA2 => ?_) (fun I2 a2 en2 np2 z1 z2 zc hF2 hA2 => ?_)
          · refine r_v ?_
            refine w_aload c_232_77 rfl ?_
            refine w_iload c_232_78 rfl ?_
            refine z_push c_232_79 ?_
            refine z_ic_ne c_232_81 (by first | exact aRg_of _ | (unfold aRg; omega)) (by first | exact aRg_of _ | (unfold aRg; omega)) (fun h31_ => ?_) (fun h31_ => ?_)
            rotate_left
            · exfalso; omega
            refine w_iload c_232_89 rfl ?_
            refine z_push c_232_90 ?_
            refine z_ic_ne c_232_92 (by first | exact aRg_of _ | (unfold aRg; omega)) (by first | exact aRg_of _ | (unfold aRg; omega)) (fun h32_ => ?_) (fun h32_ => ?_)
            · exfalso; omega
            refine z_push c_232_95 ?_
            refine w_goto c_232_97 ?_
            refine wc_218 c_232_102 sp_157 (Nat.le_of_ble_eq_true rfl) (by omega) ?_
            have hl2 : W.length + (rm (tkK T n) (tkP T n) (tkZ T n) tk (1700 - (j1 + 1)) 0 (j1 + 1) [] O1 op1).2.2.2.1.length + (sl + 1) ≤ (rm (tkK T n) (tkP T n) (tkZ T n) tk (1700 - (j1 + 1)) 0 (j1 + 1) [] O1 op1).2.2.1 := hi2.2.1
            have hj2 := hi2.jb hn
            refine t_qCode hq2 (by omega) (fun I3 hq3 hF3 => ?_)
            refine r_v ?_
            refine z_retv c_232_105 ?_
            have hft : ftR (tkK T n) (tkP T n) (tkZ T n) tk j O op = (0, 0, (rm (tkK T n) (tkP T n) (tkZ T n) tk (1700 - (j1 + 1)) 0 (j1 + 1) [] O1 op1).2.2.1, 8 :: (rm (tkK T n) (tkP T n) (tkZ T n) tk (1700 - (j1 + 1)) 0 (j1 + 1) [] O1 op1).2.2.2.1, (rm (tkK T n) (tkP T n) (tkZ T n) tk (1700 - (j1 + 1)) 0 (j1 + 1) [] O1 op1).2.2.2.2) := by
              unfold ftR; rw [if_neg hk329, hr]; refine (if_neg (fun z => z hz)).trans ((if_neg (fun z => z hcmp)).trans ((if_neg (fun z => z hz2)).trans ?_))
              show (_, _, _, (if tkK T n j1 = 60 then (7 : Int) else if tkK T n j1 = 62 then 8 else 9) :: _, _) = _
              rw [if_neg (by omega), if_pos hks]
            rw [hft] at kG
            exact kG rfl I3 a2 np2 (Nat.lt_trans (Nat.lt_trans hjl (Nat.lt_succ_self j1)) hjl2) hq3 hi2.code2 ((hF1.tr hF2).tr hF3) hA2
          · refine r_v ?_
            refine w_aload c_232_77 rfl ?_
            refine w_iload c_232_78 rfl ?_
            refine z_push c_232_79 ?_
            refine z_ic_ne c_232_81 (by first | exact aRg_of _ | (unfold aRg; omega)) (by first | exact aRg_of _ | (unfold aRg; omega)) (fun h31_ => ?_) (fun h31_ => ?_)
            rotate_left
            · exfalso; omega
            refine w_iload c_232_89 rfl ?_
            refine z_push c_232_90 ?_
            refine z_ic_ne c_232_92 (by first | exact aRg_of _ | (unfold aRg; omega)) (by first | exact aRg_of _ | (unfold aRg; omega)) (fun h32_ => ?_) (fun h32_ => ?_)
            · exfalso; omega
            refine z_push c_232_95 ?_
            refine w_goto c_232_97 ?_
            refine wc_218 c_232_102 sp_157 (Nat.le_of_ble_eq_true rfl) (by omega) ?_
            obtain ⟨c0, hc0, hc1⟩ := zc
            refine tf_qCode hc0 hc1 (fun I3 _ hF3 => ?_)
            refine r_v ?_
            refine z_retv c_232_105 ?_
            have hft : ftR (tkK T n) (tkP T n) (tkZ T n) tk j O op = rm (tkK T n) (tkP T n) (tkZ T n) tk (1700 - (j1 + 1)) 0 (j1 + 1) [] O1 op1 := by
              unfold ftR; rw [if_neg hk329, hr]; exact (if_neg (fun z => z hz)).trans ((if_neg (fun z => z hcmp)).trans (if_pos (fun z => Int.ne_of_gt z1 z)))
            rw [hft] at kF
            exact kF I3 _ _ _ z1 z2 ((hF1.tr hF2).tr hF3) hA2
        · refine w_iload c_232_47 rfl ?_
          refine z_push c_232_48 ?_
          refine z_ic_eq c_232_50 (by first | exact aRg_of _ | (unfold aRg; omega)) (by first | exact aRg_of _ | (unfold aRg; omega)) (fun h14_ => ?_) (fun h14_ => ?_)
          · have hks : tkK T n j1 = 61 := (tkK_sign hB.2.2.2 (by omega) (by omega) (by omega)).mpr (by omega)
            have hcmp : tkK T n j1 = 60 ∨ tkK T n j1 = 62 ∨ tkK T n j1 = 61 := by omega
            have hup1 := tkS_up hn.1 hB.2.2.2 hi1.2.2.2.2 (show ¬ tkK T n j1 = 341 by omega)
            have hx := rA_sign (b := 0) (bp := bp) (np := np1) (nm := nm) hB1 (c := 61) (by decide) hks
            refine w_aload c_232_63 rfl ?_
            refine w_dup c_232_64 rfl ?_
            refine z_getZ c_232_65 sp_157 (by decide) rfl rfl ?_
            refine z_push c_232_68 ?_
            refine z_iadd c_232_69 ?_
            refine z_putZ c_232_70 sp_157 (by decide) rfl ?_
            rw [oP_at, hx.1]
            refine w_aload c_232_73 rfl ?_
            refine wc_231 c_232_74 sp_157 (Nat.le_of_ble_eq_true rfl) (by omega) ?_
            refine t_qSums htr hBh (by omega) hB1 (hO.pq hF1) hx.2 hq1 (hi1.nxt2 hup1) ((hF1 157 57 (by decide)).trans htk) (fun hz2 I2 a2 np2 hjl2 hq2 hi2 hF2 hA2 => ?_) (fun I2 a2 en2 np2 z1 z2 zc hF2 hA2 => ?_)
            · refine r_v ?_
              refine w_aload c_232_77 rfl ?_
              refine w_iload c_232_78 rfl ?_
              refine z_push c_232_79 ?_
              refine z_ic_ne c_232_81 (by first | exact aRg_of _ | (unfold aRg; omega)) (by first | exact aRg_of _ | (unfold aRg; omega)) (fun h31_ => ?_) (fun h31_ => ?_)
              rotate_left
              · exfalso; omega
              refine w_iload c_232_89 rfl ?_
              refine z_push c_232_90 ?_
              refine z_ic_ne c_232_92 (by first | exact aRg_of _ | (unfold aRg; omega)) (by first | exact aRg_of _ | (unfold aRg; omega)) (fun h32_ => ?_) (fun h32_ => ?_)
              rotate_left
              · exfalso; omega
              refine z_push c_232_100 ?_
              refine wc_218 c_232_102 sp_157 (Nat.le_of_ble_eq_true rfl) (by omega) ?_
              have hl2 : W.length + (rm (tkK T n) (tkP T n) (tkZ T n) tk (1700 - (j1 + 1)) 0 (j1 + 1) [] O1 op1).2.2.2.1.length + (sl + 1) ≤ (rm (tkK T n) (tkP T n) (tkZ T n) tk (1700 - (j1 + 1)) 0 (j1 + 1) [] O1 op1).2.2.1 := hi2.2.1
              have hj2 := hi2.jb hn
              refine t_qCode hq2 (by omega) (fun I3 hq3 hF3 => ?_)
              refine r_v ?_
              refine z_retv c_232_105 ?_
              have hft : ftR (tkK T n) (tkP T n) (tkZ T n) tk j O op = (0, 0, (rm (tkK T n) (tkP T n) (tkZ T n) tk (1700 - (j1 + 1)) 0 (j1 + 1) [] O1 op1).2.2.1, 9 :: (rm (tkK T n) (tkP T n) (tkZ T n) tk (1700 - (j1 + 1)) 0 (j1 + 1) [] O1 op1).2.2.2.1, (rm (tkK T n) (tkP T n) (tkZ T n) tk (1700 - (j1 + 1)) 0 (j1 + 1) [] O1 op1).2.2.2.2) := by
                unfold ftR; rw [if_neg hk329, hr]; refine (if_neg (fun z => z hz)).trans ((if_neg (fun z => z hcmp)).trans ((if_neg (fun z => z hz2)).trans ?_))
                show (_, _, _, (if tkK T n j1 = 60 then (7 : Int) else if tkK T n j1 = 62 then 8 else 9) :: _, _) = _
                rw [if_neg (by omega), if_neg (by omega)]
              rw [hft] at kG
              exact kG rfl I3 a2 np2 (Nat.lt_trans (Nat.lt_trans hjl (Nat.lt_succ_self j1)) hjl2) hq3 hi2.code2 ((hF1.tr hF2).tr hF3) hA2
            · refine r_v ?_
              refine w_aload c_232_77 rfl ?_
              refine w_iload c_232_78 rfl ?_
              refine z_push c_232_79 ?_
              refine z_ic_ne c_232_81 (by first | exact aRg_of _ | (unfold aRg; omega)) (by first | exact aRg_of _ | (unfold aRg; omega)) (fun h31_ => ?_) (fun h31_ => ?_)
              rotate_left
              · exfalso; omega
              refine w_iload c_232_89 rfl ?_
              refine z_push c_232_90 ?_
              refine z_ic_ne c_232_92 (by first | exact aRg_of _ | (unfold aRg; omega)) (by first | exact aRg_of _ | (unfold aRg; omega)) (fun h32_ => ?_) (fun h32_ => ?_)
              rotate_left
              · exfalso; omega
              refine z_push c_232_100 ?_
              refine wc_218 c_232_102 sp_157 (Nat.le_of_ble_eq_true rfl) (by omega) ?_
              obtain ⟨c0, hc0, hc1⟩ := zc
              refine tf_qCode hc0 hc1 (fun I3 _ hF3 => ?_)
              refine r_v ?_
              refine z_retv c_232_105 ?_
              have hft : ftR (tkK T n) (tkP T n) (tkZ T n) tk j O op = rm (tkK T n) (tkP T n) (tkZ T n) tk (1700 - (j1 + 1)) 0 (j1 + 1) [] O1 op1 := by
                unfold ftR; rw [if_neg hk329, hr]; exact (if_neg (fun z => z hz)).trans ((if_neg (fun z => z hcmp)).trans (if_pos (fun z => Int.ne_of_gt z1 z)))
              rw [hft] at kF
              exact kF I3 _ _ _ z1 z2 ((hF1.tr hF2).tr hF3) hA2
          · refine w_aload c_232_53 rfl ?_
            refine z_push c_232_54 ?_
            refine w_aload c_232_55 rfl ?_
            refine z_getZ c_232_56 sp_157 (by decide) rfl rfl ?_
            refine wc_133 c_232_59 sp_157 (Nat.le_of_ble_eq_true rfl) (by omega) ?_
            refine t_fail (by unfold aRg; omega) (fun z => absurd rfl z) (fun _ => ?_)
            refine r_v ?_
            refine z_retv c_232_62 ?_
            have hcmp : ¬ (tkK T n j1 = 60 ∨ tkK T n j1 = 62 ∨ tkK T n j1 = 61) := by
              have e1 := tkK_sign hB.2.2.2 (T := T) (n := n) (j := j1) (c := 60) (by omega) (by omega) (by omega)
              have e2 := tkK_sign hB.2.2.2 (T := T) (n := n) (j := j1) (c := 62) (by omega) (by omega) (by omega)
              have e3 := tkK_sign hB.2.2.2 (T := T) (n := n) (j := j1) (c := 61) (by omega) (by omega) (by omega)
              rintro (z | z | z)
              · exact h12_ (e1.mp z)
              · exact h13_ (e2.mp z)
              · exact h14_ (e3.mp z)
            have hft : ftR (tkK T n) (tkP T n) (tkZ T n) tk j O op = (1, tkP T n j1, j1, O1, op1) := by
              unfold ftR; rw [if_neg hk329, hr]; exact (if_neg (fun z => z hz)).trans (if_pos hcmp)
            rw [hft] at kF
            exact kF I1 _ _ _ (show (0 : Int) < 1 by decide) (show (1 : Int) < 10 by decide) hF1 ⟨tkP_rg hn.1, en_rg hn⟩
    · refine r_v ?_
      refine w_aload c_232_22 rfl ?_
      refine z_getZ c_232_23 sp_157 (by decide) rfl rfl ?_
      refine z_if_eq c_232_26 (by first | exact aRg_of _ | (unfold aRg; omega)) (fun h41_ => ?_) (fun h41_ => ?_)
      · exfalso; omega
      refine z_retv c_232_29 ?_
      have hft : ftR (tkK T n) (tkP T n) (tkZ T n) tk j O op = rm (tkK T n) (tkP T n) (tkZ T n) tk (1700 - j) 0 j [] O op := by
        unfold ftR; rw [if_neg hk329, if_pos (fun z => by omega)]
      rw [hft] at kF
      exact kF I1 _ _ _ z1 z2 hF1 hA1

