/-! asking: the reference (pa8.py) -/
set_option maxHeartbeats 1000000 in
theorem t_ask {d : Nat} {I : aFI} {L : aFL} {Q : aPo} {sh : Nat} {su : Option Nat} {D : Nat → Int → Int} {cd : Nat → Option (List Int)} {X : Lk} {T : Int → Int} {n : Int} {E : Nat} (hn1 : I 157 1 = iI n) (hn : 0 ≤ n ∧ n ≤ 1600) (hT : ∀ j : Int, 0 ≤ j → j < 1600 → I 158 j.toNat = iI (T j)) (hTr : ∀ j : Int, 0 ≤ T j ∧ T j < 256) (hE : ∀ j : Nat, tkK T n j = 341 ↔ E ≤ j) (hEn : (E : Int) ≤ n) (hEj : ∀ j : Nat, j ≤ E → (j : Int) ≤ (tkS T n j).1) (hO : oW I) (hDt : I 157 56 = aBo (decide (D 0 0 = 1))) (hw : D 0 0 = 1 → wfS D cd ∧ rS I D cd X ∧ lkOK X) (hd : 14 ≤ d) (k0 : ¬ D 0 0 = 1 → Q (some (.long (lI (-1000000000000000)))) (aUp I 157 1 (iI 0)) L (aR sh su)) (k1 : D 0 0 = 1 → ¬ (quC T n).1 = 0 → ∀ I2 : aFI, I2 157 7 = iI (quC T n).1 → I2 157 8 = iI (quC T n).2.1 → I2 157 1 = iI 0 → frG PAr I I2 → Q (some (.long (lI (-1000000000000000)))) I2 L (aR sh su)) (k2 : D 0 0 = 1 → (quC T n).1 = 0 → ∀ (I2 : aFI) (L2 : aFL), I2 157 7 = iI 0 → I2 157 8 = iI (-1) → I2 157 1 = iI 0 → frG PAr I I2 → frG PArL L L2 → Q (some (.long (lI (aNow (askW D cd X (quL T n)) (tkK T n 0) (D 1 2).toNat)))) I2 L2 (aR sh su)) : aWp none d 246 0 [.ref 157, .null, .null] [] I L (aR sh su) Q := by
  refine w_aload c_246_0 rfl ?_
  refine z_getB c_246_1 sp_157 (by decide) rfl hDt ?_
  refine b_if_ne c_246_4 (fun h1_ => ?_) (fun h1_ => ?_)
  · have hto : D 0 0 = 1 := of_decide_eq_true h1_
    obtain ⟨hS, hR, hX⟩ := hw hto
    rw [← oP_s (I := I)]
    generalize (I 157 2).toInt = a0
    generalize (I 157 4).toInt = en0
    generalize (I 157 5).toInt = b0
    generalize (I 157 6).toInt = bp0
    generalize (I 157 10).toInt = np0
    generalize (I 157 43).toInt = nm0
    refine w_aload c_246_16 rfl ?_
    refine w_aload c_246_17 rfl ?_
    refine z_getZ c_246_18 sp_157 (by decide) rfl hn1 ?_
    refine z_putZ c_246_21 sp_157 (by decide) rfl ?_
    refine oq_k (frG.rf (P := PAr) (I := I)) (by decide) (by decide) (fun Ia ea hFa => ?_)
    refine w_aload c_246_24 rfl ?_
    refine z_push c_246_25 ?_
    refine z_putZ c_246_26 sp_157 (by decide) rfl ?_
    refine oq_k hFa (by decide) (by decide) (fun Ib eb hFb => ?_)
    refine w_aload c_246_29 rfl ?_
    refine z_push c_246_30 ?_
    refine z_putZ c_246_31 sp_157 (by decide) rfl ?_
    rw [oP_at]
    refine w_aload c_246_34 rfl ?_
    refine z_push c_246_35 ?_
    refine z_putZ c_246_36 sp_157 (by decide) rfl ?_
    rw [oP_en]
    refine w_aload c_246_39 rfl ?_
    refine z_push c_246_40 ?_
    refine z_putZ c_246_41 sp_157 (by decide) rfl ?_
    rw [oP_bad]
    refine w_aload c_246_44 rfl ?_
    refine z_push c_246_45 ?_
    refine z_putZ c_246_46 sp_157 (by decide) rfl ?_
    rw [oP_bp]
    refine w_aload c_246_49 rfl ?_
    refine z_push c_246_50 ?_
    refine z_putZ c_246_51 sp_157 (by decide) rfl ?_
    refine oq_k hFb (by decide) (by decide) (fun Ic ec hFc => ?_)
    refine w_aload c_246_54 rfl ?_
    refine z_push c_246_55 ?_
    refine z_putZ c_246_56 sp_157 (by decide) rfl ?_
    refine oq_k hFc (by decide) (by decide) (fun Id ed hFd => ?_)
    refine w_aload c_246_59 rfl ?_
    refine z_push c_246_60 ?_
    refine z_putZ c_246_61 sp_157 (by decide) rfl ?_
    refine oq_k hFd (by decide) (by decide) (fun Ie ee hFe => ?_)
    refine w_aload c_246_64 rfl ?_
    refine z_push c_246_65 ?_
    refine z_putZ c_246_66 sp_157 (by decide) rfl ?_
    refine oq_k hFe (by decide) (by decide) (fun If ef hFf => ?_)
    refine w_aload c_246_69 rfl ?_
    refine z_push c_246_70 ?_
    refine z_putZ c_246_71 sp_157 (by decide) rfl ?_
    refine oq_k hFf (by decide) (by decide) (fun Ig eg hFg => ?_)
    refine w_aload c_246_74 rfl ?_
    refine wc_244 c_246_75 sp_157 (Nat.le_of_ble_eq_true rfl) (by omega) ?_
    have hB : oB Ig T n := ⟨by rw [eg, up_ne (by decide), ef, up_ne (by decide), ee, up_ne (by decide), ed, up_ne (by decide), ec, up_ne (by decide), eb, up_ne (by decide), ea]; exact up_eq, fun j h1 h2 => (hFg 158 _ (by omega)).trans (hT j h1 h2), hn, hTr⟩
    have hOg : oW Ig := fun q hq j h1 h2 => (hFg q _ (by unfold isWd at hq; omega)).trans (hO q hq j h1 h2)
    have hg1 : Ig 157 1 = iI 0 := by rw [eg, up_ne (by decide), ef, up_ne (by decide), ee, up_ne (by decide), ed, up_ne (by decide), ec, up_ne (by decide), eb]; exact up_eq
    have hq0 : qS Ig [] [] 0 0 := ⟨trivial, by rw [eg, up_ne (by decide), ef, up_ne (by decide), ee]; exact up_eq, trivial, by rw [eg, up_ne (by decide), ef, up_ne (by decide), ee, up_ne (by decide), ed]; exact up_eq, by rw [eg, up_ne (by decide), ef]; exact up_eq, by rw [eg]; exact up_eq⟩
    have htk : Ig 157 57 = iI 2 := by rw [eg, up_ne (by decide), ef, up_ne (by decide), ee, up_ne (by decide), ed, up_ne (by decide), ec]; exact up_eq
    refine t_qKind hB hOg (⟨rfl, by omega, by omega⟩ : rA T n 0 0) (by omega) (fun kd a1 hkd hkr hA1 => ?_) (fun hkr => ?_)
    · refine r_i ?_
      have hE1 : 1 ≤ E := by
        have := (hE 0).mpr
        by_cases z : E = 0
        · have := this (by omega); omega
        · omega
      have hi0 : qI T n 1 [] [] [] 0 1 := ⟨fun v hv => (by cases hv), by simp, by simp, by decide, hEj 1 hE1⟩
      refine w_istore c_246_78 (Nat.le_of_ble_eq_true rfl) rfl ?_
      refine w_aload c_246_79 rfl ?_
      refine z_getZ c_246_80 sp_157 (by decide) rfl rfl ?_
      refine z_if_ne c_246_83 (by first | exact aRg_of _ | (unfold aRg; omega)) (fun h21_ => ?_) (fun h21_ => ?_)
      · exact absurd rfl h21_
      refine w_iload c_246_86 rfl ?_
      refine z_push c_246_87 ?_
      refine z_ic_ge c_246_88 (by first | exact aRg_of _ | (unfold aRg; omega)) (by first | exact aRg_of _ | (unfold aRg; omega)) (fun h22_ => ?_) (fun h22_ => ?_)
      · refine w_aload c_246_98 rfl ?_
        refine z_getZ c_246_99 sp_157 (by decide) rfl rfl ?_
        refine z_if_ne c_246_102 (by first | exact aRg_of _ | (unfold aRg; omega)) (fun h23_ => ?_) (fun h23_ => ?_)
        · exact absurd rfl h23_
        refine w_aload c_246_105 rfl ?_
        refine wc_231 c_246_106 sp_157 (Nat.le_of_ble_eq_true rfl) (by omega) ?_
        have hdk : decide (tkK T n 0 ≤ 334) = false := decide_eq_false (by omega)
        have hRe : quR T n = rm (tkK T n) (tkP T n) (tkZ T n) 2 (1700 - 1) 0 1 [] [] 0 := by unfold quR; rw [hdk]; exact rlQ_f
        have hc1 : quC1 T n = ((quR T n).1, (quR T n).2.1, (quR T n).2.2.1) := if_pos hkr
        refine t_qSums (tk := 2) (sl := 1) (W := []) (by decide) (fun v hv => by cases hv) (by omega) hB hOg hA1 hq0 hi0 htk (fun hz I6 a6 np6 hlt hq6 hi6 hF6 hA6 => ?_) (fun I6 a6 en6 np6 hz1 hz2 hzc hF6 hA6 => ?_)
        · refine r_v ?_
          rw [← hRe] at hz hlt hq6 hi6 hA6
          rw [← hRe]
          have hlen : (quR T n).2.2.2.1.length + 1 ≤ (quR T n).2.2.1 := by have := hi6.2.1; simpa using this
          have hj6 := hi6.2.2.2.2
          have hjn := (tkS_rg (T := T) hn.1 (quR T n).2.2.1).1
          refine t_ask_109 (I0 := I) (I := I6) (E := E) hS hX (by omega) hR hE hEn (hB.pq hF6) (hFg.tr (hF6.mono (fun q k z => by omega))) ((hF6 157 1 (by decide)).trans hg1) ?_ (fun _ => ⟨hkd, hkr, hq6.2.2.1, hq6.2.2.2.1, by omega⟩) (k1 hto) (k2 hto)
          rw [hc1]
          exact ⟨hz.symm, by decide, fun _ => ⟨hA6, rfl, rfl⟩, fun z => absurd rfl z⟩
        · refine r_v ?_
          rw [← hRe] at hz1 hz2 ⊢
          refine t_ask_109 (I0 := I) (I := I6) (E := E) hS hX (by omega) hR hE hEn (hB.pq hF6) (hFg.tr (hF6.mono (fun q k z => by omega))) ((hF6 157 1 (by decide)).trans hg1) ?_ (fun z => ?_) (k1 hto) (k2 hto)
          · rw [hc1]
            exact ⟨rfl, by omega, fun z => by omega, fun _ => ⟨hA6, rfl⟩⟩
          · rw [hc1] at z; have z2 : (quR T n).1 = 0 := z; omega
      · refine w_aload c_246_91 rfl ?_
        refine wc_235 c_246_92 sp_157 (Nat.le_of_ble_eq_true rfl) (by omega) ?_
        have hdk : decide (tkK T n 0 ≤ 334) = true := decide_eq_true (by omega)
        have hRe : quR T n = rmT (tkK T n) (tkP T n) (tkZ T n) 2 1700 0 1 [] [] 0 := by unfold quR; rw [hdk]; exact rlQ_t
        have hc1 : quC1 T n = ((quR T n).1, (quR T n).2.1, (quR T n).2.2.1) := if_pos hkr
        refine t_qTest (tk := 2) (sl := 1) (by decide) (by omega) hB hOg hA1 hq0 hi0 htk (fun hz I6 a6 np6 hlt hq6 hi6 hF6 hA6 => ?_) (fun I6 a6 en6 np6 hz1 hz2 hF6 hA6 => ?_)
        · refine r_v ?_
          refine w_goto c_246_95 ?_
          rw [← hRe] at hz hlt hq6 hi6 hA6
          rw [← hRe]
          have hlen : (quR T n).2.2.2.1.length + 1 ≤ (quR T n).2.2.1 := by have := hi6.2.1; simpa using this
          have hj6 := hi6.2.2.2.2
          have hjn := (tkS_rg (T := T) hn.1 (quR T n).2.2.1).1
          refine t_ask_109 (I0 := I) (I := I6) (E := E) hS hX (by omega) hR hE hEn (hB.pq hF6) (hFg.tr (hF6.mono (fun q k z => by omega))) ((hF6 157 1 (by decide)).trans hg1) ?_ (fun _ => ⟨hkd, hkr, hq6.2.2.1, hq6.2.2.2.1, by omega⟩) (k1 hto) (k2 hto)
          rw [hc1]
          exact ⟨hz.symm, by decide, fun _ => ⟨hA6, rfl, rfl⟩, fun z => absurd rfl z⟩
        · refine r_v ?_
          refine w_goto c_246_95 ?_
          rw [← hRe] at hz1 hz2 ⊢
          refine t_ask_109 (I0 := I) (I := I6) (E := E) hS hX (by omega) hR hE hEn (hB.pq hF6) (hFg.tr (hF6.mono (fun q k z => by omega))) ((hF6 157 1 (by decide)).trans hg1) ?_ (fun z => ?_) (k1 hto) (k2 hto)
          · rw [hc1]
            exact ⟨rfl, by omega, fun z => by omega, fun _ => ⟨hA6, rfl⟩⟩
          · rw [hc1] at z; have z2 : (quR T n).1 = 0 := z; omega
    · refine r_i ?_
      refine w_istore c_246_78 (Nat.le_of_ble_eq_true rfl) rfl ?_
      refine w_aload c_246_79 rfl ?_
      refine z_getZ c_246_80 sp_157 (by decide) rfl rfl ?_
      refine z_if_ne c_246_83 (by first | exact aRg_of _ | (unfold aRg; omega)) (fun h51_ => ?_) (fun h51_ => ?_)
      rotate_left
      · exact absurd (show (1 : Int) = 0 from Classical.not_not.mp h51_) (by decide)
      refine w_aload c_246_98 rfl ?_
      refine z_getZ c_246_99 sp_157 (by decide) rfl rfl ?_
      refine z_if_ne c_246_102 (by first | exact aRg_of _ | (unfold aRg; omega)) (fun h52_ => ?_) (fun h52_ => ?_)
      rotate_left
      · exact absurd (show (1 : Int) = 0 from Classical.not_not.mp h52_) (by decide)
      have hc1 : quC1 T n = (1, tkP T n 0, 0) := if_neg hkr
      refine t_ask_109 (I0 := I) (I := Ig) (E := E) hS hX (by omega) hR hE hEn hB hFg hg1 ?_ (fun z => ?_) (k1 hto) (k2 hto)
      · rw [hc1]; exact cu.bad (by decide) ⟨tkP_rg hn.1, en_rg hn⟩
      · rw [hc1] at z; exact absurd (show (1 : Int) = 0 from z) (by decide)
  · refine w_aload c_246_7 rfl ?_
    refine z_push c_246_8 ?_
    refine z_putZ c_246_9 sp_157 (by decide) rfl ?_
    refine z_pushl c_246_12 ?_
    refine z_retl c_246_15 ?_
    exact k0 (of_decide_eq_false h1_)

