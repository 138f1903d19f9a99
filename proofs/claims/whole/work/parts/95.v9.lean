/-! the reference: a test read, whole (p95.py) -/
set_option maxHeartbeats 1000000 in
theorem tf_qTest_2 {d : Nat} {I : aFI} {L : aFL} {Q : aPo} {sh : Nat} {su : Option Nat} {a en b bp np nm : Int} {c : Int} {v : Value} (hc : 0 ≤ c ∧ c < 2) (hb : 0 < b ∧ b < 10) (k : Q none (oP I a en b bp np nm) L (aR sh su)) : aWp none d 235 2 [.ref 157, .int (iI c), v] [] (oP I a en b bp np nm) L (aR sh su) Q := by
  refine w_iload c_235_2 rfl ?_
  refine z_if_eq c_235_3 (by first | exact aRg_of _ | (unfold aRg; omega)) (fun h1_ => ?_) (fun h1_ => ?_)
  · refine w_aload c_235_110 rfl ?_
    refine z_getZ c_235_111 sp_157 (by decide) rfl rfl ?_
    refine z_if_ne c_235_114 (by first | exact aRg_of _ | (unfold aRg; omega)) (fun h2_ => ?_) (fun h2_ => ?_)
    rotate_left
    · exfalso; omega
    refine z_retv c_235_131 ?_
    exact k
  · refine w_aload c_235_6 rfl ?_
    refine z_getZ c_235_7 sp_157 (by decide) rfl rfl ?_
    refine z_if_ne c_235_10 (by first | exact aRg_of _ | (unfold aRg; omega)) (fun h3_ => ?_) (fun h3_ => ?_)
    rotate_left
    · exfalso; omega
    refine w_aload c_235_110 rfl ?_
    refine z_getZ c_235_111 sp_157 (by decide) rfl rfl ?_
    refine z_if_ne c_235_114 (by first | exact aRg_of _ | (unfold aRg; omega)) (fun h4_ => ?_) (fun h4_ => ?_)
    rotate_left
    · exfalso; omega
    refine z_retv c_235_131 ?_
    exact k

set_option maxHeartbeats 2000000 in
theorem t_qTest_2 {d : Nat} {L : aFL} {Q : aPo} {T : Int → Int} {n : Int} {sh : Nat} {su : Option Nat} {bp nm tk b0 : Int} {sl : Nat} (htr : 0 ≤ tk ∧ tk < 3) (hd : 11 ≤ d) : ∀ (fz : Nat) (j f : Nat) (W O : List Int) (op a np : Int) (v : Value) (I : aFI), 1700 - j < fz → (oB I T n) → (oW I) → (rA T n j a) → (qS I W O op b0) → (qI T n sl W [] O op j) → (wT W) → (1700 ≤ f + j) → (I 157 57 = iI tk) → ((rmT (tkK T n) (tkP T n) (tkZ T n) tk f 0 j W O op).1 = 0 → ∀ (I2 : aFI) (a2 np2 : Int), j < (rmT (tkK T n) (tkP T n) (tkZ T n) tk f 0 j W O op).2.2.1 → qS I2 [] (rmT (tkK T n) (tkP T n) (tkZ T n) tk f 0 j W O op).2.2.2.1 (rmT (tkK T n) (tkP T n) (tkZ T n) tk f 0 j W O op).2.2.2.2 b0 → qI T n sl [] [] (rmT (tkK T n) (tkP T n) (tkZ T n) tk f 0 j W O op).2.2.2.1 (rmT (tkK T n) (tkP T n) (tkZ T n) tk f 0 j W O op).2.2.2.2 (rmT (tkK T n) (tkP T n) (tkZ T n) tk f 0 j W O op).2.2.1 → frG PQn I I2 → rA T n (rmT (tkK T n) (tkP T n) (tkZ T n) tk f 0 j W O op).2.2.1 a2 → Q none (oT I2 T n (rmT (tkK T n) (tkP T n) (tkZ T n) tk f 0 j W O op).2.2.1 a2 0 bp np2 nm) L (aR sh su)) → (∀ (I2 : aFI) (a2 en2 np2 : Int), 0 < (rmT (tkK T n) (tkP T n) (tkZ T n) tk f 0 j W O op).1 → (rmT (tkK T n) (tkP T n) (tkZ T n) tk f 0 j W O op).1 < 10 → frG PQn I I2 → aF n a2 en2 → Q none (oP I2 a2 en2 (rmT (tkK T n) (tkP T n) (tkZ T n) tk f 0 j W O op).1 (rmT (tkK T n) (tkP T n) (tkZ T n) tk f 0 j W O op).2.1 np2 nm) L (aR sh su)) → aWp none d 235 2 [.ref 157, .int (iI 1), v] [] (oT I T n j a 0 bp np nm) L (aR sh su) Q := by
  intro fz
  induction fz with
  | zero => intro j f W O op a np v I h; omega
  | succ fz ih =>
    intro j f W O op a np v I hn2 hB hO hA hq hi hw hf htk kG kF
    have hn := hB.2.2.1
    have hjj := hi.jb hn
    have hlen : W.length + O.length + sl ≤ j := hi.2.1
    have hlw : (W.length : Int) ≤ op + j := hi.2.2.1
    have hop := hi.2.2.2.1
    have hpr := tkP_rg (T := T) (n := n) (j := j) hn.1
    have hen := en_rg (T := T) (n := n) (j := j) hn
    have hA2 := rA_p (T := T) (n := n) (j := j) hn.1
    have hlr : -1 ≤ lkc T n (tkP T n j) ∧ lkc T n (tkP T n j) < 256 := by have := hB.2.2.2 (tkP T n j); unfold lkc; split <;> omega
    obtain ⟨f, rfl⟩ : ∃ g, f = g + 1 := ⟨f - 1, by omega⟩
    refine w_iload c_235_2 rfl ?_
    refine z_if_eq c_235_3 (by first | exact aRg_of _ | (unfold aRg; omega)) (fun h1_ => absurd h1_ (by decide)) (fun h1_ => ?_)
    refine w_aload c_235_6 rfl ?_
    refine z_getZ c_235_7 sp_157 (by decide) rfl rfl ?_
    refine z_if_ne c_235_10 (by first | exact aRg_of _ | (unfold aRg; omega)) (fun h2_ => ?_) (fun h2_ => ?_)
    · exact absurd rfl h2_
    refine w_aload c_235_13 rfl ?_
    refine wc_136 c_235_14 sp_157 (Nat.le_of_ble_eq_true rfl) (by omega) ?_
    refine tt_look hB hA ?_
    have hlk := tkK_sign hB.2.2.2 (T := T) (n := n) (j := j) (c := 91) (by omega) (by omega) (by omega)
    refine r_i ?_
    refine w_istore c_235_17 (Nat.le_of_ble_eq_true rfl) rfl ?_
    refine w_iload c_235_18 rfl ?_
    refine z_push c_235_19 ?_
    refine z_ic_ne c_235_21 (by first | exact aRg_of _ | (unfold aRg; omega)) (by first | exact aRg_of _ | (unfold aRg; omega)) (fun h3_ => ?_) (fun h3_ => ?_)
    · refine w_aload c_235_47 rfl ?_
      refine w_aload c_235_48 rfl ?_
      refine w_getR c_235_49 sp_157 (by decide) rfl pr_157_79 ?_
      refine wc_137 c_235_52 sp_157 (Nat.le_of_ble_eq_true rfl) (by omega) ?_
      refine tt_isHereW hB hO (q := 214) (Or.inr ⟨by decide, by decide⟩) (by omega) hA2 ?_
      refine r_i ?_
      refine b_if_eq c_235_55 (fun h4_ => ?_) (fun h4_ => ?_)
      · refine w_aload c_235_79 rfl ?_
        refine wc_232 c_235_80 sp_157 (Nat.le_of_ble_eq_true rfl) (by omega) ?_
        have hk91 : ¬ tkK T n j = 91 := fun z => by have := hlk.mp z; omega
        have hk328 : ¬ tkK T n j = 328 := fun z => of_decide_eq_false h4_ (z.trans wk_214.symm)
        refine t_qFact (sl := sl) (tk := tk) htr hw.su (by omega) hB hO hA2 hq hi htk (fun hz I1 a1 np1 hjl hq1 hi1 hF1 hA1 => ?_) (fun I1 a1 en1 np1 z1 z2 hF1 hA1 => ?_)
        · refine r_v ?_
          refine w_aload c_235_83 rfl ?_
          refine wc_234 c_235_84 sp_157 (Nat.le_of_ble_eq_true rfl) (by omega) ?_
          have hj1 := hi1.jb hn
          have hl1 : W.length + (ftR (tkK T n) (tkP T n) (tkZ T n) tk j O op).2.2.2.1.length + sl ≤ (ftR (tkK T n) (tkP T n) (tkZ T n) tk j O op).2.2.1 := hi1.2.1
          have hel := eN_len W (ftR (tkK T n) (tkP T n) (tkZ T n) tk j O op).2.2.2.1 (ftR (tkK T n) (tkP T n) (tkZ T n) tk j O op).2.2.2.2
          have hop1 := hi1.2.2.2.1
          refine t_qDropsNots hq1 hw (by omega) (by omega) (fun I2 hq2 hF2 => ?_)
          have hF2 := hF1.tr hF2
          have hrm : rmT (tkK T n) (tkP T n) (tkZ T n) tk (f + 1) 0 j W O op = rmT (tkK T n) (tkP T n) (tkZ T n) tk f 1 (ftR (tkK T n) (tkP T n) (tkZ T n) tk j O op).2.2.1 (eN W (ftR (tkK T n) (tkP T n) (tkZ T n) tk j O op).2.2.2.1 (ftR (tkK T n) (tkP T n) (tkZ T n) tk j O op).2.2.2.2).1 (eN W (ftR (tkK T n) (tkP T n) (tkZ T n) tk j O op).2.2.2.1 (ftR (tkK T n) (tkP T n) (tkZ T n) tk j O op).2.2.2.2).2.1 (eN W (ftR (tkK T n) (tkP T n) (tkZ T n) tk j O op).2.2.2.1 (ftR (tkK T n) (tkP T n) (tkZ T n) tk j O op).2.2.2.2).2.2 := by rw [rmT_0, if_neg hk91, if_neg hk328, if_neg (fun z => z hz)]
          have hi2 : qI T n sl (eN W (ftR (tkK T n) (tkP T n) (tkZ T n) tk j O op).2.2.2.1 (ftR (tkK T n) (tkP T n) (tkZ T n) tk j O op).2.2.2.2).1 [] (eN W (ftR (tkK T n) (tkP T n) (tkZ T n) tk j O op).2.2.2.1 (ftR (tkK T n) (tkP T n) (tkZ T n) tk j O op).2.2.2.2).2.1 (eN W (ftR (tkK T n) (tkP T n) (tkZ T n) tk j O op).2.2.2.1 (ftR (tkK T n) (tkP T n) (tkZ T n) tk j O op).2.2.2.2).2.2 (ftR (tkK T n) (tkP T n) (tkZ T n) tk j O op).2.2.1 := hi1.mv (wT.ok hw.en) (by omega) (by omega) (by omega)
          refine r_v ?_
          refine w_aload c_235_87 rfl ?_
          refine z_getZ c_235_88 sp_157 (by decide) rfl rfl ?_
          refine z_if_ne c_235_91 (by first | exact aRg_of _ | (unfold aRg; omega)) (fun h21_ => ?_) (fun h21_ => ?_)
          · exact absurd rfl h21_
          refine w_aload c_235_94 rfl ?_
          refine wc_236 c_235_95 sp_157 (Nat.le_of_ble_eq_true rfl) (by omega) ?_
          refine t_qGoesOnTest_1 (tk := tk) (by omega) _ _ f _ _ _ _ I2 (Nat.lt_succ_self _) (hB.pq hF2) (hO.pq hF2) hA1 hq2 hi2 hw.en (by omega) (fun I3 j3 f3 W3 O3 op3 a3 hj3 hr3 hf3 hq3 hi3 hw3 hF3 hA3 => ?_) (fun I3 j3 W3 O3 op3 a3 hj3 hr3 hq3 hi3 hw3 hF3 hA3 => ?_) (fun I3 a3 en3 z1 z2 hF3 hA3 => ?_)
          · refine r_i ?_
            refine b_if_eq c_235_98 (fun h => Bool.noConfusion h) (fun _ => ?_)
            refine z_push c_235_101 ?_
            refine w_goto c_235_102 ?_
            refine w_istore c_235_106 (Nat.le_of_ble_eq_true rfl) rfl ?_
            refine w_goto c_235_107 ?_
            have hrr := hrm.trans hr3
            exact ih j3 f3 W3 O3 op3 a3 np1 _ I3 (by omega) (hB.pq (hF2.tr hF3)) (hO.pq (hF2.tr hF3)) hA3 hq3 hi3 hw3 hf3 (((hF2.tr hF3) 157 57 (by decide)).trans htk)
              (fun z0 I6 a6 np6 z1 z2 z3 z4 z5 => by rw [hrr] at kG; exact kG z0 I6 a6 np6 (by omega) z2 z3 ((hF2.tr hF3).tr z4) z5)
              (fun I6 a6 en6 np6 z1 z2 z3 z4 => by rw [hrr] at kF; exact kF I6 a6 en6 np6 z1 z2 ((hF2.tr hF3).tr z3) z4)
          · refine r_i ?_
            refine b_if_eq c_235_98 (fun _ => ?_) (fun h => Bool.noConfusion h)
            refine z_push c_235_105 ?_
            refine w_istore c_235_106 (Nat.le_of_ble_eq_true rfl) rfl ?_
            refine w_goto c_235_107 ?_
            have hrr := hrm.trans hr3
            rw [hrr] at kG
            have hj4 := hi3.jb hn
            have hl3 : W3.length + O3.length + sl ≤ j3 := hi3.2.1
            have hda := dW_all W3 O3
            have hop3 := hi3.2.2.2.1
            refine w_iload c_235_2 rfl ?_
            refine z_if_eq c_235_3 (by first | exact aRg_of _ | (unfold aRg; omega)) (fun h41_ => ?_) (fun h41_ => absurd (by decide) h41_)
            refine t_qTest_110 (by omega) _ W3 O3 I3 (Nat.lt_succ_self _) hq3 hw3 (by omega) (fun I4 hq4 hF4 => ?_)
            exact kG rfl I4 a3 np1 (by show j < j3; omega) hq4 (hi3.mv (fun v hv => absurd hv List.not_mem_nil) (by show (([] : List Int).length) + _ ≤ _; rw [hda.2]; simp only [List.length_nil]; omega) (by simp only [List.length_nil]; omega) hop3) ((hF2.tr hF3).tr hF4) hA3
          · refine r_i ?_
            refine b_if_eq c_235_98 (fun _ => ?_) (fun h => Bool.noConfusion h)
            refine z_push c_235_105 ?_
            refine w_istore c_235_106 (Nat.le_of_ble_eq_true rfl) rfl ?_
            refine w_goto c_235_107 ?_
            rw [hrm] at kF
            exact tf_qTest_2 (c := 0) (by decide) ⟨z1, z2⟩ (kF I3 _ _ _ z1 z2 (hF2.tr hF3) hA3)
        · refine r_v ?_
          refine w_aload c_235_83 rfl ?_
          refine wc_234 c_235_84 sp_157 (Nat.le_of_ble_eq_true rfl) (by omega) ?_
          refine tf_qDropsNots ⟨z1, z2⟩ ?_
          refine r_v ?_
          refine w_aload c_235_87 rfl ?_
          refine z_getZ c_235_88 sp_157 (by decide) rfl rfl ?_
          refine z_if_ne c_235_91 (by first | exact aRg_of _ | (unfold aRg; omega)) (fun h21_ => ?_) (fun h21_ => ?_)
          rotate_left
          · exfalso; omega
          refine z_push c_235_105 ?_
          refine w_istore c_235_106 (Nat.le_of_ble_eq_true rfl) rfl ?_
          refine w_goto c_235_107 ?_
          have hrm : rmT (tkK T n) (tkP T n) (tkZ T n) tk (f + 1) 0 j W O op = ftR (tkK T n) (tkP T n) (tkZ T n) tk j O op := by rw [rmT_0, if_neg hk91, if_neg hk328, if_pos (Int.ne_of_gt z1)]
          rw [hrm] at kF
          exact tf_qTest_2 (c := 0) (by decide) ⟨z1, z2⟩ (kF I1 _ _ _ z1 z2 hF1 hA1)
      · refine w_aload c_235_58 rfl ?_
        refine z_push c_235_59 ?_
        refine w_aload c_235_61 rfl ?_
        refine z_getZ c_235_62 sp_157 (by decide) rfl rfl ?_
        refine wc_219 c_235_65 sp_157 (Nat.le_of_ble_eq_true rfl) (by omega) ?_
        have hk328 : tkK T n j = 328 := wk_214 ▸ of_decide_eq_true h4_
        have hk91 : ¬ tkK T n j = 91 := by omega
        have hup := tkS_up hn.1 hB.2.2.2 hi.2.2.2.2 (show ¬ tkK T n j = 341 by omega)
        refine t_qOpens hq (by omega) (by omega) rfl (by omega) (fun hop6 => ?_) (fun hop6 I1 hq1 hF1 => ?_)
        · refine r_v ?_
          refine w_aload c_235_68 rfl ?_
          refine w_aload c_235_69 rfl ?_
          refine w_getR c_235_70 sp_157 (by decide) rfl pr_157_79 ?_
          refine wc_139 c_235_73 sp_157 (Nat.le_of_ble_eq_true rfl) (by omega) ?_
          refine tf_asksW hB hO (q := 214) (Or.inr ⟨by decide, by decide⟩) (by omega) (by decide) (by first | exact aRg_of _ | (unfold aRg; omega)) ⟨hpr, hen⟩ ?_
          refine r_v ?_
          refine w_goto c_235_76 ?_
          have hrm : rmT (tkK T n) (tkP T n) (tkZ T n) tk (f + 1) 0 j W O op = (4, tkP T n j, j, O, op) := by rw [rmT_0, if_neg hk91, if_pos hk328, if_pos hop6]
          rw [hrm] at kF
          exact tf_qTest_2 (c := 1) (by decide) (by decide) (kF I (tkP T n j) _ np (show (0 : Int) < 4 by decide) (show (4 : Int) < 10 by decide) frG.rf ⟨hpr, hen⟩)
        · refine r_v ?_
          refine w_aload c_235_68 rfl ?_
          refine w_aload c_235_69 rfl ?_
          refine w_getR c_235_70 sp_157 (by decide) rfl pr_157_79 ?_
          refine wc_139 c_235_73 sp_157 (Nat.le_of_ble_eq_true rfl) (by omega) ?_
          refine tt_asksW (hB.pq hF1) (hO.pq hF1) (q := 214) (Or.inr ⟨by decide, by decide⟩) (by omega) hA2 (fun _ a4 hx2 => ?_) (fun z => absurd (hk328.trans wk_214.symm) z)
          · refine r_v ?_
            refine w_goto c_235_76 ?_
            have hrm : rmT (tkK T n) (tkP T n) (tkZ T n) tk (f + 1) 0 j W O op = rmT (tkK T n) (tkP T n) (tkZ T n) tk f 0 (j + 1) (12 :: W) O (op + 1) := by rw [rmT_0, if_neg hk91, if_pos hk328, if_neg hop6]
            exact ih (j + 1) f (12 :: W) O (op + 1) _ np _ I1 (by omega) (hB.pq hF1) (hO.pq hF1) hx2 hq1 (hi.mv1 (wT.ok (hw.cons (by decide))) (by rw [List.length_cons]; omega) (by rw [List.length_cons]; omega) (by omega) hup) (hw.cons (by decide)) (by omega) ((hF1 157 57 (by decide)).trans htk)
              (fun z0 I6 a6 np6 z1 z2 z3 z4 z5 => by rw [hrm] at kG; exact kG z0 I6 a6 np6 (by omega) z2 z3 (hF1.tr z4) z5)
              (fun I6 a6 en6 np6 z1 z2 z3 z4 => by rw [hrm] at kF; exact kF I6 a6 en6 np6 z1 z2 (hF1.tr z3) z4)
    · refine w_aload c_235_24 rfl ?_
      refine z_push c_235_25 ?_
      refine w_aload c_235_27 rfl ?_
      refine z_getZ c_235_28 sp_157 (by decide) rfl rfl ?_
      refine wc_219 c_235_31 sp_157 (Nat.le_of_ble_eq_true rfl) (by omega) ?_
      have hk91 : tkK T n j = 91 := hlk.mpr (by omega)
      have hup := tkS_up hn.1 hB.2.2.2 hi.2.2.2.2 (show ¬ tkK T n j = 341 by omega)
      have hx := rA_sign (b := 0) (bp := bp) (np := np) (nm := nm) hB (c := 91) (by decide) hk91
      have hx2 := hx.2
      have hxn : tkP T n j + 1 ≤ n := hx.2.2.2
      refine t_qOpens hq (by omega) (by omega) rfl (by omega) (fun hop6 => ?_) (fun hop6 I1 hq1 hF1 => ?_)
      · refine r_v ?_
        refine w_aload c_235_34 rfl ?_
        refine w_dup c_235_35 rfl ?_
        refine z_getZ c_235_36 sp_157 (by decide) rfl rfl ?_
        refine z_push c_235_39 ?_
        refine z_iadd c_235_40 ?_
        refine z_putZ c_235_41 sp_157 (by decide) rfl ?_
        rw [oP_at]
        refine w_goto c_235_44 ?_
        have hrm : rmT (tkK T n) (tkP T n) (tkZ T n) tk (f + 1) 0 j W O op = (4, tkP T n j, j, O, op) := by rw [rmT_0, if_pos hk91, if_pos hop6]
        rw [hrm] at kF
        exact tf_qTest_2 (c := 1) (by decide) (by decide) (kF I (tkP T n j + 1) _ np (show (0 : Int) < 4 by decide) (show (4 : Int) < 10 by decide) frG.rf ⟨by omega, hen⟩)
      · refine r_v ?_
        refine w_aload c_235_34 rfl ?_
        refine w_dup c_235_35 rfl ?_
        refine z_getZ c_235_36 sp_157 (by decide) rfl rfl ?_
        refine z_push c_235_39 ?_
        refine z_iadd c_235_40 ?_
        refine z_putZ c_235_41 sp_157 (by decide) rfl ?_
        rw [oP_at, (rA_sign (b := 0) (bp := bp) (np := np) (nm := nm) (hB.pq hF1) (c := 91) (by decide) hk91).1]
        refine w_goto c_235_44 ?_
        have hrm : rmT (tkK T n) (tkP T n) (tkZ T n) tk (f + 1) 0 j W O op = rmT (tkK T n) (tkP T n) (tkZ T n) tk f 0 (j + 1) (25 :: W) O (op + 1) := by rw [rmT_0, if_pos hk91, if_neg hop6]
        exact ih (j + 1) f (25 :: W) O (op + 1) _ np _ I1 (by omega) (hB.pq hF1) (hO.pq hF1) hx2 hq1 (hi.mv1 (wT.ok (hw.cons (by decide))) (by rw [List.length_cons]; omega) (by rw [List.length_cons]; omega) (by omega) hup) (hw.cons (by decide)) (by omega) ((hF1 157 57 (by decide)).trans htk)
          (fun z0 I6 a6 np6 z1 z2 z3 z4 z5 => by rw [hrm] at kG; exact kG z0 I6 a6 np6 (by omega) z2 z3 (hF1.tr z4) z5)
          (fun I6 a6 en6 np6 z1 z2 z3 z4 => by rw [hrm] at kF; exact kF I6 a6 en6 np6 z1 z2 (hF1.tr z3) z4)

set_option maxHeartbeats 1000000 in
theorem t_qTest {d : Nat} {I : aFI} {L : aFL} {Q : aPo} {T : Int → Int} {n : Int} {sh : Nat} {su : Option Nat} {j : Nat} {a bp np nm : Int} {sl : Nat} {tk b0 : Int} {O : List Int} {op : Int} (htr : 0 ≤ tk ∧ tk < 3) (hd : 11 ≤ d) (hB : oB I T n) (hO : oW I) (hA : rA T n j a) (hq : qS I [] O op b0) (hi : qI T n sl [] [] O op j) (htk : I 157 57 = iI tk) (kG : (rmT (tkK T n) (tkP T n) (tkZ T n) tk 1700 0 j [] O op).1 = 0 → ∀ (I2 : aFI) (a2 np2 : Int), j < (rmT (tkK T n) (tkP T n) (tkZ T n) tk 1700 0 j [] O op).2.2.1 → qS I2 [] (rmT (tkK T n) (tkP T n) (tkZ T n) tk 1700 0 j [] O op).2.2.2.1 (rmT (tkK T n) (tkP T n) (tkZ T n) tk 1700 0 j [] O op).2.2.2.2 b0 → qI T n sl [] [] (rmT (tkK T n) (tkP T n) (tkZ T n) tk 1700 0 j [] O op).2.2.2.1 (rmT (tkK T n) (tkP T n) (tkZ T n) tk 1700 0 j [] O op).2.2.2.2 (rmT (tkK T n) (tkP T n) (tkZ T n) tk 1700 0 j [] O op).2.2.1 → frG PQn I I2 → rA T n (rmT (tkK T n) (tkP T n) (tkZ T n) tk 1700 0 j [] O op).2.2.1 a2 → Q none (oT I2 T n (rmT (tkK T n) (tkP T n) (tkZ T n) tk 1700 0 j [] O op).2.2.1 a2 0 bp np2 nm) L (aR sh su)) (kF : ∀ (I2 : aFI) (a2 en2 np2 : Int), 0 < (rmT (tkK T n) (tkP T n) (tkZ T n) tk 1700 0 j [] O op).1 → (rmT (tkK T n) (tkP T n) (tkZ T n) tk 1700 0 j [] O op).1 < 10 → frG PQn I I2 → aF n a2 en2 → Q none (oP I2 a2 en2 (rmT (tkK T n) (tkP T n) (tkZ T n) tk 1700 0 j [] O op).1 (rmT (tkK T n) (tkP T n) (tkZ T n) tk 1700 0 j [] O op).2.1 np2 nm) L (aR sh su)) : aWp none d 235 0 [.ref 157, .null, .null] [] (oT I T n j a 0 bp np nm) L (aR sh su) Q := by
  refine z_push c_235_0 ?_
  refine w_istore c_235_1 (Nat.le_of_ble_eq_true rfl) rfl ?_
  exact t_qTest_2 htr hd _ j 1700 [] O op a np _ I (Nat.lt_succ_self _) hB hO hA hq hi (fun v hv => absurd hv List.not_mem_nil) (by omega) htk kG kF

