/-! the class: facts, parts, sums in brackets (c5.py) -/
theorem rd5a {g : Nat} {rl : Int} {K PL SZ : Int → Int} {S : Rs} (h0 : K S.a = 328) (h1 : S.f = 0 ∧ S.op < 6) : rd K PL SZ rl (g + 1) 5 S = rZ (rP 328 (rd K PL SZ rl g 5 (rO PL S))) := (Eq.trans (if_pos h0) (if_pos h1))
theorem rd5b {g : Nat} {rl : Int} {K PL SZ : Int → Int} {S : Rs} (h0 : K S.a = 328) (h1 : ¬ (S.f = 0 ∧ S.op < 6)) : rd K PL SZ rl (g + 1) 5 S = rO PL S := (Eq.trans (if_pos h0) (if_neg h1))
theorem rd5c {g : Nat} {rl : Int} {K PL SZ : Int → Int} {S : Rs} (h0 : ¬ K S.a = 328) (h1 : K S.a = 91) (h2 : S.f = 0 ∧ S.op < 6) : rd K PL SZ rl (g + 1) 5 S = rZ (rN K PL 93 (rd K PL SZ rl g 8 (rO PL S))) := (Eq.trans (if_neg h0) (Eq.trans (if_pos h1) (if_pos h2)))
theorem rd5d {g : Nat} {rl : Int} {K PL SZ : Int → Int} {S : Rs} (h0 : ¬ K S.a = 328) (h1 : K S.a = 91) (h2 : ¬ (S.f = 0 ∧ S.op < 6)) : rd K PL SZ rl (g + 1) 5 S = rO PL S := (Eq.trans (if_neg h0) (Eq.trans (if_pos h1) (if_neg h2)))
theorem rd5e {g : Nat} {rl : Int} {K PL SZ : Int → Int} {S : Rs} (h0 : ¬ K S.a = 328) (h1 : ¬ K S.a = 91) (h2 : K S.a = 329) : rd K PL SZ rl (g + 1) 5 S = rP 329 (rI S) := (Eq.trans (if_neg h0) (Eq.trans (if_neg h1) (if_pos h2)))
theorem rd5f {g : Nat} {rl : Int} {K PL SZ : Int → Int} {S : Rs} (h0 : ¬ K S.a = 328) (h1 : ¬ K S.a = 91) (h2 : ¬ K S.a = 329) (h3 : K (rd K PL SZ rl g 3 S).a = 60 ∨ K (rd K PL SZ rl g 3 S).a = 62 ∨ K (rd K PL SZ rl g 3 S).a = 61) : rd K PL SZ rl (g + 1) 5 S = rP (K (rd K PL SZ rl g 3 S).a) (rd K PL SZ rl g 3 (rI (rd K PL SZ rl g 3 S))) := (Eq.trans (if_neg h0) (Eq.trans (if_neg h1) (Eq.trans (if_neg h2) (if_pos h3))))
theorem rd5g {g : Nat} {rl : Int} {K PL SZ : Int → Int} {S : Rs} (h0 : ¬ K S.a = 328) (h1 : ¬ K S.a = 91) (h2 : ¬ K S.a = 329) (h3 : ¬ (K (rd K PL SZ rl g 3 S).a = 60 ∨ K (rd K PL SZ rl g 3 S).a = 62 ∨ K (rd K PL SZ rl g 3 S).a = 61)) : rd K PL SZ rl (g + 1) 5 S = rF 1 (PL (rd K PL SZ rl g 3 S).a) (rd K PL SZ rl g 3 S) := (Eq.trans (if_neg h0) (Eq.trans (if_neg h1) (Eq.trans (if_neg h2) (if_neg h3))))
theorem rd0a {g : Nat} {rl : Int} {K PL SZ : Int → Int} {S : Rs} (h : K S.a = 339) : rd K PL SZ rl (g + 1) 0 S = rP (1000 + rV K SZ S) (rM K PL SZ 0 9999 S) := by
  rw [show rV K SZ S = SZ S.a from if_pos h]; exact if_pos h
theorem rd0b {g : Nat} {rl : Int} {K PL SZ : Int → Int} {S : Rs} (h0 : ¬ K S.a = 339) (h1 : K S.a = 40) : rd K PL SZ rl (g + 1) 0 S = (rd K PL SZ rl g 10 S) := (Eq.trans (if_neg h0) (if_pos h1))
theorem rd0c {g : Nat} {rl : Int} {K PL SZ : Int → Int} {S : Rs} (h0 : ¬ K S.a = 339) (h1 : ¬ K S.a = 40) (h2 : K S.a = 330 ∨ K S.a = 331) : rd K PL SZ rl (g + 1) 0 S = rP (K S.a) (rd K PL SZ rl g 11 (rI S)) := (Eq.trans (if_neg h0) (Eq.trans (if_neg h1) (if_pos h2)))
theorem rd0d {g : Nat} {rl : Int} {K PL SZ : Int → Int} {S : Rs} (h0 : ¬ K S.a = 339) (h1 : ¬ K S.a = 40) (h2 : ¬ (K S.a = 330 ∨ K S.a = 331)) (h3 : K S.a = 312 ∧ rl = 3) (h4 : S.f = 0 ∧ S.op < 6) : rd K PL SZ rl (g + 1) 0 S = rZ (rP 312 (rd K PL SZ rl g 0 (rO PL S))) := (Eq.trans (if_neg h0) (Eq.trans (if_neg h1) (Eq.trans (if_neg h2) (Eq.trans (if_pos h3) (if_pos h4)))))
theorem rd0e {g : Nat} {rl : Int} {K PL SZ : Int → Int} {S : Rs} (h0 : ¬ K S.a = 339) (h1 : ¬ K S.a = 40) (h2 : ¬ (K S.a = 330 ∨ K S.a = 331)) (h3 : K S.a = 312 ∧ rl = 3) (h4 : ¬ (S.f = 0 ∧ S.op < 6)) : rd K PL SZ rl (g + 1) 0 S = rO PL S := (Eq.trans (if_neg h0) (Eq.trans (if_neg h1) (Eq.trans (if_neg h2) (Eq.trans (if_pos h3) (if_neg h4)))))
theorem rd0f {g : Nat} {rl : Int} {K PL SZ : Int → Int} {S : Rs} (h0 : ¬ K S.a = 339) (h1 : ¬ K S.a = 40) (h2 : ¬ (K S.a = 330 ∨ K S.a = 331)) (h3 : ¬ (K S.a = 312 ∧ rl = 3)) (h4 : partB rl (K S.a) = true) : rd K PL SZ rl (g + 1) 0 S = rP (K S.a) (rI S) := (Eq.trans (if_neg h0) (Eq.trans (if_neg h1) (Eq.trans (if_neg h2) (Eq.trans (if_neg h3) (if_pos h4)))))
theorem rd0g {g : Nat} {rl : Int} {K PL SZ : Int → Int} {S : Rs} (h0 : ¬ K S.a = 339) (h1 : ¬ K S.a = 40) (h2 : ¬ (K S.a = 330 ∨ K S.a = 331)) (h3 : ¬ (K S.a = 312 ∧ rl = 3)) (h4 : ¬ partB rl (K S.a) = true) : rd K PL SZ rl (g + 1) 0 S = rF 1 (PL S.a) S := (Eq.trans (if_neg h0) (Eq.trans (if_neg h1) (Eq.trans (if_neg h2) (Eq.trans (if_neg h3) (if_neg h4)))))
theorem rd10a {g : Nat} {rl : Int} {K PL SZ : Int → Int} {S : Rs} (h0 : K S.a = 40) (h1 : S.f = 0 ∧ S.op < 6) : rd K PL SZ rl (g + 1) 10 S = rZ (rN K PL 41 (rd K PL SZ rl g 3 (rO PL S))) := (Eq.trans (if_pos h0) (if_pos h1))
theorem rd10b {g : Nat} {rl : Int} {K PL SZ : Int → Int} {S : Rs} (h0 : K S.a = 40) (h1 : ¬ (S.f = 0 ∧ S.op < 6)) : rd K PL SZ rl (g + 1) 10 S = rO PL S := (Eq.trans (if_pos h0) (if_neg h1))
theorem rd10c {g : Nat} {rl : Int} {K PL SZ : Int → Int} {S : Rs} (h0 : ¬ K S.a = 40) : rd K PL SZ rl (g + 1) 10 S = rF 1 (PL S.a) S := (if_neg h0)
theorem rd11a {g : Nat} {rl : Int} {K PL SZ : Int → Int} {S : Rs} (h0 : K S.a = 40) (h1 : S.f = 0 ∧ S.op < 6) : rd K PL SZ rl (g + 1) 11 S = rZ (rN K PL 41 (rd K PL SZ rl g 3 (rN K PL 44 (rd K PL SZ rl g 3 (rO PL S))))) := (Eq.trans (if_pos h0) (if_pos h1))
theorem rd11b {g : Nat} {rl : Int} {K PL SZ : Int → Int} {S : Rs} (h0 : K S.a = 40) (h1 : ¬ (S.f = 0 ∧ S.op < 6)) : rd K PL SZ rl (g + 1) 11 S = rO PL S := (Eq.trans (if_pos h0) (if_neg h1))
theorem rd11c {g : Nat} {rl : Int} {K PL SZ : Int → Int} {S : Rs} (h0 : ¬ K S.a = 40) : rd K PL SZ rl (g + 1) 11 S = rF 1 (PL S.a) S := (if_neg h0)
set_option maxHeartbeats 1000000 in
theorem cs_5 {s : Nat} {I : aFI} {L : aFL} {n rl : Int} {K PL SZ : Int → Int} {sh : Nat} (hs : aSm s) (hK : kB I n K PL SZ) {g : Nat} (hF : cC s I L n rl K PL SZ sh g 35 0 5 [.ref 2, .null, .null] 4 4) (hT : cC s I L n rl K PL SZ sh g 33 0 8 [.ref 2] 6 6) (hS : cC s I L n rl K PL SZ sh g 36 0 3 [.ref 2, .null] 3 3) : cC s I L n rl K PL SZ sh (g + 1) 35 0 5 [.ref 2, .null, .null] 4 4 := by
  intro d S Q h hg hd k
  have hn := hK.2.2.1
  have hk := hK.2.2.2 _ h.1.1 h.1.2
  have hb := h
  unfold gS at hb
  refine w_aload c_35_0 rfl ?_
  refine wc_42 c_35_1 sp_2 (Nat.le_of_ble_eq_true rfl) (by omega) ?_
  refine ts_next hs hK h ?_
  refine r_i ?_
  refine w_istore c_35_4 (Nat.le_of_ble_eq_true rfl) rfl ?_
  refine w_iload c_35_5 rfl ?_
  refine z_push c_35_6 ?_
  refine z_ic_ne c_35_9 (by unfold aRg; omega) (by unfold aRg; omega) (fun h1_ => ?_) (fun h1_ => ?_)
  · refine w_iload c_35_46 rfl ?_
    refine z_push c_35_47 ?_
    refine z_ic_ne c_35_49 (by unfold aRg; omega) (by unfold aRg; omega) (fun h2_ => ?_) (fun h2_ => ?_)
    · refine w_iload c_35_82 rfl ?_
      refine z_push c_35_83 ?_
      refine z_ic_ne c_35_86 (by unfold aRg; omega) (by unfold aRg; omega) (fun h3_ => ?_) (fun h3_ => ?_)
      · refine w_aload c_35_112 rfl ?_
        refine wc_36 c_35_113 sp_2 (Nat.le_of_ble_eq_true rfl) (by omega) ?_
        have r1 : rG n 1 S (rd K PL SZ rl g 3 S) := rd_g (kB_K hK) g 3 _ h (by decide) (by simp only [rk]; omega)
        have r1b := r1
        unfold rG gS at r1b
        have hk2 := hK.2.2.2 _ r1.1.1.1 r1.1.1.2
        refine hS _ _ _ h (by omega) (by omega) ?_
        refine r_v ?_
        refine w_aload c_35_116 rfl ?_
        refine wc_42 c_35_117 sp_2 (Nat.le_of_ble_eq_true rfl) (by omega) ?_
        refine ts_next hs hK r1.1 ?_
        refine r_i ?_
        refine w_istore c_35_120 (Nat.le_of_ble_eq_true rfl) rfl ?_
        refine w_iload c_35_121 rfl ?_
        refine z_push c_35_122 ?_
        refine z_ic_eq c_35_124 (by unfold aRg; omega) (by unfold aRg; omega) (fun h4_ => ?_) (fun h4_ => ?_)
        · refine w_aload c_35_149 rfl ?_
          refine w_dup c_35_150 rfl ?_
          refine z_getZ c_35_151 sp_2 (by decide) rfl rfl ?_
          refine z_push c_35_154 ?_
          refine z_iadd c_35_155 ?_
          refine z_putZ c_35_156 sp_2 (by decide) rfl ?_
          rw [oS_I]
          refine w_aload c_35_159 rfl ?_
          refine wc_36 c_35_160 sp_2 (Nat.le_of_ble_eq_true rfl) (by omega) ?_
          have g2 : rG n 1 (rd K PL SZ rl g 3 S) (rI (rd K PL SZ rl g 3 S)) := rI_g r1.1 (by omega)
          have g2b := g2
          unfold rG gS at g2b
          have g2a : (rI (rd K PL SZ rl g 3 S)).a = (rd K PL SZ rl g 3 S).a + 1 := rfl
          have r3 : rG n 1 (rI (rd K PL SZ rl g 3 S)) (rd K PL SZ rl g 3 (rI (rd K PL SZ rl g 3 S))) := rd_g (kB_K hK) g 3 _ g2.1 (by decide) (by simp only [rk]; omega)
          have r3b := r3
          unfold rG gS at r3b
          refine hS _ _ _ g2.1 (by omega) (by omega) ?_
          refine r_v ?_
          refine w_aload c_35_163 rfl ?_
          refine w_getR c_35_164 sp_2 (by decide) rfl pr_2_3 ?_
          refine w_iload c_35_167 rfl ?_
          refine wc_74 c_35_168 (sm_0 hs) (Nat.le_of_ble_eq_true rfl) (by omega) ?_
          refine ts_put hs r3.1 ?_
          refine r_v ?_
          refine z_retv c_35_171 ?_
          first
          | (rw [rd5a (by omega) (by omega)] at k; exact k)
          | (rw [rd5b (by omega) (by omega)] at k; exact k)
          | (rw [rd5c (by omega) (by omega) (by omega)] at k; exact k)
          | (rw [rd5d (by omega) (by omega) (by omega)] at k; exact k)
          | (rw [rd5e (by omega) (by omega) (by omega)] at k; exact k)
          | (rw [rd5f (by omega) (by omega) (by omega) (by omega)] at k; exact k)
          | (rw [rd5g (by omega) (by omega) (by omega) (by omega)] at k; exact k)
          | (exfalso; omega)
        · refine w_iload c_35_127 rfl ?_
          refine z_push c_35_128 ?_
          refine z_ic_eq c_35_130 (by unfold aRg; omega) (by unfold aRg; omega) (fun h5_ => ?_) (fun h5_ => ?_)
          · refine w_aload c_35_149 rfl ?_
            refine w_dup c_35_150 rfl ?_
            refine z_getZ c_35_151 sp_2 (by decide) rfl rfl ?_
            refine z_push c_35_154 ?_
            refine z_iadd c_35_155 ?_
            refine z_putZ c_35_156 sp_2 (by decide) rfl ?_
            rw [oS_I]
            refine w_aload c_35_159 rfl ?_
            refine wc_36 c_35_160 sp_2 (Nat.le_of_ble_eq_true rfl) (by omega) ?_
            have g2 : rG n 1 (rd K PL SZ rl g 3 S) (rI (rd K PL SZ rl g 3 S)) := rI_g r1.1 (by omega)
            have g2b := g2
            unfold rG gS at g2b
            have g2a : (rI (rd K PL SZ rl g 3 S)).a = (rd K PL SZ rl g 3 S).a + 1 := rfl
            have r3 : rG n 1 (rI (rd K PL SZ rl g 3 S)) (rd K PL SZ rl g 3 (rI (rd K PL SZ rl g 3 S))) := rd_g (kB_K hK) g 3 _ g2.1 (by decide) (by simp only [rk]; omega)
            have r3b := r3
            unfold rG gS at r3b
            refine hS _ _ _ g2.1 (by omega) (by omega) ?_
            refine r_v ?_
            refine w_aload c_35_163 rfl ?_
            refine w_getR c_35_164 sp_2 (by decide) rfl pr_2_3 ?_
            refine w_iload c_35_167 rfl ?_
            refine wc_74 c_35_168 (sm_0 hs) (Nat.le_of_ble_eq_true rfl) (by omega) ?_
            refine ts_put hs r3.1 ?_
            refine r_v ?_
            refine z_retv c_35_171 ?_
            first
            | (rw [rd5a (by omega) (by omega)] at k; exact k)
            | (rw [rd5b (by omega) (by omega)] at k; exact k)
            | (rw [rd5c (by omega) (by omega) (by omega)] at k; exact k)
            | (rw [rd5d (by omega) (by omega) (by omega)] at k; exact k)
            | (rw [rd5e (by omega) (by omega) (by omega)] at k; exact k)
            | (rw [rd5f (by omega) (by omega) (by omega) (by omega)] at k; exact k)
            | (rw [rd5g (by omega) (by omega) (by omega) (by omega)] at k; exact k)
            | (exfalso; omega)
          · refine w_iload c_35_133 rfl ?_
            refine z_push c_35_134 ?_
            refine z_ic_eq c_35_136 (by unfold aRg; omega) (by unfold aRg; omega) (fun h6_ => ?_) (fun h6_ => ?_)
            · refine w_aload c_35_149 rfl ?_
              refine w_dup c_35_150 rfl ?_
              refine z_getZ c_35_151 sp_2 (by decide) rfl rfl ?_
              refine z_push c_35_154 ?_
              refine z_iadd c_35_155 ?_
              refine z_putZ c_35_156 sp_2 (by decide) rfl ?_
              rw [oS_I]
              refine w_aload c_35_159 rfl ?_
              refine wc_36 c_35_160 sp_2 (Nat.le_of_ble_eq_true rfl) (by omega) ?_
              have g2 : rG n 1 (rd K PL SZ rl g 3 S) (rI (rd K PL SZ rl g 3 S)) := rI_g r1.1 (by omega)
              have g2b := g2
              unfold rG gS at g2b
              have g2a : (rI (rd K PL SZ rl g 3 S)).a = (rd K PL SZ rl g 3 S).a + 1 := rfl
              have r3 : rG n 1 (rI (rd K PL SZ rl g 3 S)) (rd K PL SZ rl g 3 (rI (rd K PL SZ rl g 3 S))) := rd_g (kB_K hK) g 3 _ g2.1 (by decide) (by simp only [rk]; omega)
              have r3b := r3
              unfold rG gS at r3b
              refine hS _ _ _ g2.1 (by omega) (by omega) ?_
              refine r_v ?_
              refine w_aload c_35_163 rfl ?_
              refine w_getR c_35_164 sp_2 (by decide) rfl pr_2_3 ?_
              refine w_iload c_35_167 rfl ?_
              refine wc_74 c_35_168 (sm_0 hs) (Nat.le_of_ble_eq_true rfl) (by omega) ?_
              refine ts_put hs r3.1 ?_
              refine r_v ?_
              refine z_retv c_35_171 ?_
              first
              | (rw [rd5a (by omega) (by omega)] at k; exact k)
              | (rw [rd5b (by omega) (by omega)] at k; exact k)
              | (rw [rd5c (by omega) (by omega) (by omega)] at k; exact k)
              | (rw [rd5d (by omega) (by omega) (by omega)] at k; exact k)
              | (rw [rd5e (by omega) (by omega) (by omega)] at k; exact k)
              | (rw [rd5f (by omega) (by omega) (by omega) (by omega)] at k; exact k)
              | (rw [rd5g (by omega) (by omega) (by omega) (by omega)] at k; exact k)
              | (exfalso; omega)
            · refine w_aload c_35_139 rfl ?_
              refine z_push c_35_140 ?_
              refine w_aload c_35_141 rfl ?_
              refine wc_43 c_35_142 sp_2 (Nat.le_of_ble_eq_true rfl) (by omega) ?_
              refine ts_nextPlace hs hK r1.1 ?_
              refine r_i ?_
              refine wc_46 c_35_145 sp_2 (Nat.le_of_ble_eq_true rfl) (by omega) ?_
              refine ts_fail r1.1 ?_
              refine r_v ?_
              refine z_retv c_35_148 ?_
              first
              | (rw [rd5a (by omega) (by omega)] at k; exact k)
              | (rw [rd5b (by omega) (by omega)] at k; exact k)
              | (rw [rd5c (by omega) (by omega) (by omega)] at k; exact k)
              | (rw [rd5d (by omega) (by omega) (by omega)] at k; exact k)
              | (rw [rd5e (by omega) (by omega) (by omega)] at k; exact k)
              | (rw [rd5f (by omega) (by omega) (by omega) (by omega)] at k; exact k)
              | (rw [rd5g (by omega) (by omega) (by omega) (by omega)] at k; exact k)
              | (exfalso; omega)
      · refine w_aload c_35_89 rfl ?_
        refine w_dup c_35_90 rfl ?_
        refine z_getZ c_35_91 sp_2 (by decide) rfl rfl ?_
        refine z_push c_35_94 ?_
        refine z_iadd c_35_95 ?_
        refine z_putZ c_35_96 sp_2 (by decide) rfl ?_
        rw [oS_I]
        refine w_aload c_35_99 rfl ?_
        refine w_getR c_35_100 sp_2 (by decide) rfl pr_2_3 ?_
        refine z_push c_35_103 ?_
        refine wc_74 c_35_106 (sm_0 hs) (Nat.le_of_ble_eq_true rfl) (by omega) ?_
        have gi : rG n 1 S (rI S) := rI_g h (by omega)
        have gib := gi
        unfold rG gS at gib
        have gia : (rI S).a = S.a + 1 := rfl
        refine ts_put hs gi.1 ?_
        refine r_v ?_
        refine w_goto c_35_109 ?_
        refine z_retv c_35_171 ?_
        first
        | (rw [rd5a (by omega) (by omega)] at k; exact k)
        | (rw [rd5b (by omega) (by omega)] at k; exact k)
        | (rw [rd5c (by omega) (by omega) (by omega)] at k; exact k)
        | (rw [rd5d (by omega) (by omega) (by omega)] at k; exact k)
        | (rw [rd5e (by omega) (by omega) (by omega)] at k; exact k)
        | (rw [rd5f (by omega) (by omega) (by omega) (by omega)] at k; exact k)
        | (rw [rd5g (by omega) (by omega) (by omega) (by omega)] at k; exact k)
        | (exfalso; omega)
    · refine w_aload c_35_52 rfl ?_
      refine wc_41 c_35_53 sp_2 (Nat.le_of_ble_eq_true rfl) (by omega) ?_
      refine ts_opens hs hK h (by omega) (fun hc => ?_) (fun hc => ?_)
      · refine r_i ?_
        refine b_if_eq c_35_56 (fun h => Bool.noConfusion h) (fun _ => ?_)
        refine w_aload c_35_59 rfl ?_
        refine wc_33 c_35_60 sp_2 (Nat.le_of_ble_eq_true rfl) (by omega) ?_
        have go := rO_g (PL := PL) h hc (by omega)
        have gob := go
        unfold gS at gob
        have r2 : rG n 1 (rO PL S) (rd K PL SZ rl g 8 (rO PL S)) := rd_g (kB_K hK) g 8 _ go.1 (by decide) (by simp only [rk]; omega)
        have r2b := r2
        unfold rG gS at r2b
        refine hT _ _ _ go.1 (by omega) (by omega) ?_
        refine r_v ?_
        refine w_aload c_35_63 rfl ?_
        refine z_push c_35_64 ?_
        refine wc_45 c_35_66 sp_2 (Nat.le_of_ble_eq_true rfl) (by omega) ?_
        refine ts_need (by omega) hs hK r2.1 (by omega) ?_
        refine r_v ?_
        refine w_aload c_35_69 rfl ?_
        refine w_dup c_35_70 rfl ?_
        refine z_getZ c_35_71 sp_2 (by decide) rfl rfl ?_
        refine z_push c_35_74 ?_
        refine z_isub c_35_75 ?_
        refine z_putZ c_35_76 sp_2 (by decide) rfl ?_
        rw [oS_Z]
        refine w_goto c_35_79 ?_
        refine z_retv c_35_171 ?_
        first
        | (rw [rd5a (by omega) (by omega)] at k; exact k)
        | (rw [rd5b (by omega) (by omega)] at k; exact k)
        | (rw [rd5c (by omega) (by omega) (by omega)] at k; exact k)
        | (rw [rd5d (by omega) (by omega) (by omega)] at k; exact k)
        | (rw [rd5e (by omega) (by omega) (by omega)] at k; exact k)
        | (rw [rd5f (by omega) (by omega) (by omega) (by omega)] at k; exact k)
        | (rw [rd5g (by omega) (by omega) (by omega) (by omega)] at k; exact k)
        | (exfalso; omega)
      · refine r_i ?_
        refine b_if_eq c_35_56 (fun _ => ?_) (fun h => Bool.noConfusion h)
        refine z_retv c_35_171 ?_
        first
        | (rw [rd5a (by omega) (by omega)] at k; exact k)
        | (rw [rd5b (by omega) (by omega)] at k; exact k)
        | (rw [rd5c (by omega) (by omega) (by omega)] at k; exact k)
        | (rw [rd5d (by omega) (by omega) (by omega)] at k; exact k)
        | (rw [rd5e (by omega) (by omega) (by omega)] at k; exact k)
        | (rw [rd5f (by omega) (by omega) (by omega) (by omega)] at k; exact k)
        | (rw [rd5g (by omega) (by omega) (by omega) (by omega)] at k; exact k)
        | (exfalso; omega)
  · refine w_aload c_35_12 rfl ?_
    refine wc_41 c_35_13 sp_2 (Nat.le_of_ble_eq_true rfl) (by omega) ?_
    refine ts_opens hs hK h (by omega) (fun hc => ?_) (fun hc => ?_)
    · refine r_i ?_
      refine b_if_eq c_35_16 (fun h => Bool.noConfusion h) (fun _ => ?_)
      refine w_aload c_35_19 rfl ?_
      refine wc_35 c_35_20 sp_2 (Nat.le_of_ble_eq_true rfl) (by omega) ?_
      have go := rO_g (PL := PL) h hc (by omega)
      have gob := go
      unfold gS at gob
      have r2 : rG n 1 (rO PL S) (rd K PL SZ rl g 5 (rO PL S)) := rd_g (kB_K hK) g 5 _ go.1 (by decide) (by simp only [rk]; omega)
      have r2b := r2
      unfold rG gS at r2b
      refine hF _ _ _ go.1 (by omega) (by omega) ?_
      refine r_v ?_
      refine w_aload c_35_23 rfl ?_
      refine w_getR c_35_24 sp_2 (by decide) rfl pr_2_3 ?_
      refine z_push c_35_27 ?_
      refine wc_74 c_35_30 (sm_0 hs) (Nat.le_of_ble_eq_true rfl) (by omega) ?_
      refine ts_put hs r2.1 ?_
      refine r_v ?_
      refine w_aload c_35_33 rfl ?_
      refine w_dup c_35_34 rfl ?_
      refine z_getZ c_35_35 sp_2 (by decide) rfl rfl ?_
      refine z_push c_35_38 ?_
      refine z_isub c_35_39 ?_
      refine z_putZ c_35_40 sp_2 (by decide) rfl ?_
      rw [oS_Z]
      refine w_goto c_35_43 ?_
      refine z_retv c_35_171 ?_
      first
      | (rw [rd5a (by omega) (by omega)] at k; exact k)
      | (rw [rd5b (by omega) (by omega)] at k; exact k)
      | (rw [rd5c (by omega) (by omega) (by omega)] at k; exact k)
      | (rw [rd5d (by omega) (by omega) (by omega)] at k; exact k)
      | (rw [rd5e (by omega) (by omega) (by omega)] at k; exact k)
      | (rw [rd5f (by omega) (by omega) (by omega) (by omega)] at k; exact k)
      | (rw [rd5g (by omega) (by omega) (by omega) (by omega)] at k; exact k)
      | (exfalso; omega)
    · refine r_i ?_
      refine b_if_eq c_35_16 (fun _ => ?_) (fun h => Bool.noConfusion h)
      refine z_retv c_35_171 ?_
      first
      | (rw [rd5a (by omega) (by omega)] at k; exact k)
      | (rw [rd5b (by omega) (by omega)] at k; exact k)
      | (rw [rd5c (by omega) (by omega) (by omega)] at k; exact k)
      | (rw [rd5d (by omega) (by omega) (by omega)] at k; exact k)
      | (rw [rd5e (by omega) (by omega) (by omega)] at k; exact k)
      | (rw [rd5f (by omega) (by omega) (by omega) (by omega)] at k; exact k)
      | (rw [rd5g (by omega) (by omega) (by omega) (by omega)] at k; exact k)
      | (exfalso; omega)

set_option maxHeartbeats 1000000 in
theorem cs_0 {s : Nat} {I : aFI} {L : aFL} {n rl : Int} {K PL SZ : Int → Int} {sh : Nat} (hs : aSm s) (hK : kB I n K PL SZ) (hrl : I 2 4 = iI rl) (hr : 0 ≤ rl ∧ rl < 4) {g : Nat} (hP : cC s I L n rl K PL SZ sh g 38 0 0 [.ref 2, .null] 1 1) (h10 : cC s I L n rl K PL SZ sh g 39 0 10 [.ref 2, .int (iI 1)] 0 0) (h11 : cC s I L n rl K PL SZ sh g 39 0 11 [.ref 2, .int (iI 2)] 0 0) : cC s I L n rl K PL SZ sh (g + 1) 38 0 0 [.ref 2, .null] 1 1 := by
  intro d S Q h hg hd k
  have hn := hK.2.2.1
  have hk := hK.2.2.2 _ h.1.1 h.1.2
  have hb := h
  unfold gS at hb
  refine w_aload c_38_0 rfl ?_
  refine wc_42 c_38_1 sp_2 (Nat.le_of_ble_eq_true rfl) (by omega) ?_
  refine ts_next hs hK h ?_
  refine r_i ?_
  refine w_istore c_38_4 (Nat.le_of_ble_eq_true rfl) rfl ?_
  refine w_iload c_38_5 rfl ?_
  refine z_push c_38_6 ?_
  refine z_ic_ne c_38_9 (by unfold aRg; omega) (by unfold aRg; omega) (fun h1_ => ?_) (fun h1_ => ?_)
  · refine w_iload c_38_34 rfl ?_
    refine z_push c_38_35 ?_
    refine z_ic_ne c_38_37 (by unfold aRg; omega) (by unfold aRg; omega) (fun h2_ => ?_) (fun h2_ => ?_)
    · refine w_iload c_38_48 rfl ?_
      refine z_push c_38_49 ?_
      refine z_ic_eq c_38_52 (by unfold aRg; omega) (by unfold aRg; omega) (fun h3_ => ?_) (fun h3_ => ?_)
      · refine w_aload c_38_62 rfl ?_
        refine w_dup c_38_63 rfl ?_
        refine z_getZ c_38_64 sp_2 (by decide) rfl rfl ?_
        refine z_push c_38_67 ?_
        refine z_iadd c_38_68 ?_
        refine z_putZ c_38_69 sp_2 (by decide) rfl ?_
        rw [oS_I]
        refine w_aload c_38_72 rfl ?_
        refine z_push c_38_73 ?_
        refine wc_39 c_38_74 sp_2 (Nat.le_of_ble_eq_true rfl) (by omega) ?_
        have gi : rG n 1 S (rI S) := rI_g h (by omega)
        have gib := gi
        unfold rG gS at gib
        have gia : (rI S).a = S.a + 1 := rfl
        have r2 : rG n 1 (rI S) (rd K PL SZ rl g 11 (rI S)) := rd_g (kB_K hK) g 11 _ gi.1 (by decide) (by simp only [rk]; omega)
        have r2b := r2
        unfold rG gS at r2b
        refine h11 _ _ _ gi.1 (by omega) (by omega) ?_
        refine r_v ?_
        refine w_aload c_38_77 rfl ?_
        refine w_getR c_38_78 sp_2 (by decide) rfl pr_2_3 ?_
        refine w_iload c_38_81 rfl ?_
        refine wc_74 c_38_82 (sm_0 hs) (Nat.le_of_ble_eq_true rfl) (by omega) ?_
        refine ts_put hs r2.1 ?_
        refine r_v ?_
        refine w_goto c_38_85 ?_
        refine z_retv c_38_175 ?_
        first
        | (rw [rd0a (by omega)] at k; exact k)
        | (rw [rd0b (by omega) (by omega)] at k; exact k)
        | (rw [rd0c (by omega) (by omega) (by omega)] at k; exact k)
        | (rw [rd0d (by omega) (by omega) (by omega) (by omega) (by omega)] at k; exact k)
        | (rw [rd0e (by omega) (by omega) (by omega) (by omega) (by omega)] at k; exact k)
        | (rw [rd0f (by omega) (by omega) (by omega) (by omega) ‹_›] at k; exact k)
        | (rw [rd0g (by omega) (by omega) (by omega) (by omega) (Bool.eq_false_iff.mp ‹_›)] at k; exact k)
        | (exfalso; omega)
      · refine w_iload c_38_55 rfl ?_
        refine z_push c_38_56 ?_
        refine z_ic_ne c_38_59 (by unfold aRg; omega) (by unfold aRg; omega) (fun h4_ => ?_) (fun h4_ => ?_)
        · refine w_iload c_38_88 rfl ?_
          refine z_push c_38_89 ?_
          refine z_ic_ne c_38_92 (by unfold aRg; omega) (by unfold aRg; omega) (fun h5_ => ?_) (fun h5_ => ?_)
          · refine w_aload c_38_137 rfl ?_
            refine w_iload c_38_138 rfl ?_
            refine wc_40 c_38_139 sp_2 (Nat.le_of_ble_eq_true rfl) (by omega) ?_
            refine ts_isPart hs hrl hr (by omega) ?_
            refine r_i ?_
            refine b_if_eq c_38_142 (fun h6_ => ?_) (fun h6_ => ?_)
            · refine w_aload c_38_166 rfl ?_
              refine z_push c_38_167 ?_
              refine w_aload c_38_168 rfl ?_
              refine wc_43 c_38_169 sp_2 (Nat.le_of_ble_eq_true rfl) (by omega) ?_
              refine ts_nextPlace hs hK h ?_
              refine r_i ?_
              refine wc_46 c_38_172 sp_2 (Nat.le_of_ble_eq_true rfl) (by omega) ?_
              refine ts_fail h ?_
              refine r_v ?_
              refine z_retv c_38_175 ?_
              first
              | (rw [rd0a (by omega)] at k; exact k)
              | (rw [rd0b (by omega) (by omega)] at k; exact k)
              | (rw [rd0c (by omega) (by omega) (by omega)] at k; exact k)
              | (rw [rd0d (by omega) (by omega) (by omega) (by omega) (by omega)] at k; exact k)
              | (rw [rd0e (by omega) (by omega) (by omega) (by omega) (by omega)] at k; exact k)
              | (rw [rd0f (by omega) (by omega) (by omega) (by omega) ‹_›] at k; exact k)
              | (rw [rd0g (by omega) (by omega) (by omega) (by omega) (Bool.eq_false_iff.mp ‹_›)] at k; exact k)
              | (exfalso; omega)
            · refine w_aload c_38_145 rfl ?_
              refine w_dup c_38_146 rfl ?_
              refine z_getZ c_38_147 sp_2 (by decide) rfl rfl ?_
              refine z_push c_38_150 ?_
              refine z_iadd c_38_151 ?_
              refine z_putZ c_38_152 sp_2 (by decide) rfl ?_
              rw [oS_I]
              refine w_aload c_38_155 rfl ?_
              refine w_getR c_38_156 sp_2 (by decide) rfl pr_2_3 ?_
              refine w_iload c_38_159 rfl ?_
              refine wc_74 c_38_160 (sm_0 hs) (Nat.le_of_ble_eq_true rfl) (by omega) ?_
              have hpt := partB_iff.mp ‹partB rl (K S.a) = true›
              have gi : rG n 1 S (rI S) := rI_g h (by omega)
              have gib := gi
              unfold rG gS at gib
              have gia : (rI S).a = S.a + 1 := rfl
              refine ts_put hs gi.1 ?_
              refine r_v ?_
              refine w_goto c_38_163 ?_
              refine z_retv c_38_175 ?_
              first
              | (rw [rd0a (by omega)] at k; exact k)
              | (rw [rd0b (by omega) (by omega)] at k; exact k)
              | (rw [rd0c (by omega) (by omega) (by omega)] at k; exact k)
              | (rw [rd0d (by omega) (by omega) (by omega) (by omega) (by omega)] at k; exact k)
              | (rw [rd0e (by omega) (by omega) (by omega) (by omega) (by omega)] at k; exact k)
              | (rw [rd0f (by omega) (by omega) (by omega) (by omega) ‹_›] at k; exact k)
              | (rw [rd0g (by omega) (by omega) (by omega) (by omega) (Bool.eq_false_iff.mp ‹_›)] at k; exact k)
              | (exfalso; omega)
          · refine w_aload c_38_95 rfl ?_
            refine z_getZ c_38_96 sp_2 (by decide) rfl (oS_rl hs hrl) ?_
            refine z_push c_38_99 ?_
            refine z_ic_ne c_38_100 (by unfold aRg; omega) (by unfold aRg; omega) (fun h7_ => ?_) (fun h7_ => ?_)
            · refine w_aload c_38_137 rfl ?_
              refine w_iload c_38_138 rfl ?_
              refine wc_40 c_38_139 sp_2 (Nat.le_of_ble_eq_true rfl) (by omega) ?_
              refine ts_isPart hs hrl hr (by omega) ?_
              refine r_i ?_
              refine b_if_eq c_38_142 (fun h8_ => ?_) (fun h8_ => ?_)
              · refine w_aload c_38_166 rfl ?_
                refine z_push c_38_167 ?_
                refine w_aload c_38_168 rfl ?_
                refine wc_43 c_38_169 sp_2 (Nat.le_of_ble_eq_true rfl) (by omega) ?_
                refine ts_nextPlace hs hK h ?_
                refine r_i ?_
                refine wc_46 c_38_172 sp_2 (Nat.le_of_ble_eq_true rfl) (by omega) ?_
                refine ts_fail h ?_
                refine r_v ?_
                refine z_retv c_38_175 ?_
                first
                | (rw [rd0a (by omega)] at k; exact k)
                | (rw [rd0b (by omega) (by omega)] at k; exact k)
                | (rw [rd0c (by omega) (by omega) (by omega)] at k; exact k)
                | (rw [rd0d (by omega) (by omega) (by omega) (by omega) (by omega)] at k; exact k)
                | (rw [rd0e (by omega) (by omega) (by omega) (by omega) (by omega)] at k; exact k)
                | (rw [rd0f (by omega) (by omega) (by omega) (by omega) ‹_›] at k; exact k)
                | (rw [rd0g (by omega) (by omega) (by omega) (by omega) (Bool.eq_false_iff.mp ‹_›)] at k; exact k)
                | (exfalso; omega)
              · refine w_aload c_38_145 rfl ?_
                refine w_dup c_38_146 rfl ?_
                refine z_getZ c_38_147 sp_2 (by decide) rfl rfl ?_
                refine z_push c_38_150 ?_
                refine z_iadd c_38_151 ?_
                refine z_putZ c_38_152 sp_2 (by decide) rfl ?_
                rw [oS_I]
                refine w_aload c_38_155 rfl ?_
                refine w_getR c_38_156 sp_2 (by decide) rfl pr_2_3 ?_
                refine w_iload c_38_159 rfl ?_
                refine wc_74 c_38_160 (sm_0 hs) (Nat.le_of_ble_eq_true rfl) (by omega) ?_
                have hpt := partB_iff.mp ‹partB rl (K S.a) = true›
                have gi : rG n 1 S (rI S) := rI_g h (by omega)
                have gib := gi
                unfold rG gS at gib
                have gia : (rI S).a = S.a + 1 := rfl
                refine ts_put hs gi.1 ?_
                refine r_v ?_
                refine w_goto c_38_163 ?_
                refine z_retv c_38_175 ?_
                first
                | (rw [rd0a (by omega)] at k; exact k)
                | (rw [rd0b (by omega) (by omega)] at k; exact k)
                | (rw [rd0c (by omega) (by omega) (by omega)] at k; exact k)
                | (rw [rd0d (by omega) (by omega) (by omega) (by omega) (by omega)] at k; exact k)
                | (rw [rd0e (by omega) (by omega) (by omega) (by omega) (by omega)] at k; exact k)
                | (rw [rd0f (by omega) (by omega) (by omega) (by omega) ‹_›] at k; exact k)
                | (rw [rd0g (by omega) (by omega) (by omega) (by omega) (Bool.eq_false_iff.mp ‹_›)] at k; exact k)
                | (exfalso; omega)
            · refine w_aload c_38_103 rfl ?_
              refine wc_41 c_38_104 sp_2 (Nat.le_of_ble_eq_true rfl) (by omega) ?_
              refine ts_opens hs hK h (by omega) (fun hc => ?_) (fun hc => ?_)
              · refine r_i ?_
                refine b_if_eq c_38_107 (fun h => Bool.noConfusion h) (fun _ => ?_)
                refine w_aload c_38_110 rfl ?_
                refine wc_38 c_38_111 sp_2 (Nat.le_of_ble_eq_true rfl) (by omega) ?_
                have go := rO_g (PL := PL) h hc (by omega)
                have gob := go
                unfold gS at gob
                have r2 : rG n 1 (rO PL S) (rd K PL SZ rl g 0 (rO PL S)) := rd_g (kB_K hK) g 0 _ go.1 (by decide) (by simp only [rk]; omega)
                have r2b := r2
                unfold rG gS at r2b
                refine hP _ _ _ go.1 (by omega) (by omega) ?_
                refine r_v ?_
                refine w_aload c_38_114 rfl ?_
                refine w_getR c_38_115 sp_2 (by decide) rfl pr_2_3 ?_
                refine z_push c_38_118 ?_
                refine wc_74 c_38_121 (sm_0 hs) (Nat.le_of_ble_eq_true rfl) (by omega) ?_
                refine ts_put hs r2.1 ?_
                refine r_v ?_
                refine w_aload c_38_124 rfl ?_
                refine w_dup c_38_125 rfl ?_
                refine z_getZ c_38_126 sp_2 (by decide) rfl rfl ?_
                refine z_push c_38_129 ?_
                refine z_isub c_38_130 ?_
                refine z_putZ c_38_131 sp_2 (by decide) rfl ?_
                rw [oS_Z]
                refine w_goto c_38_134 ?_
                refine z_retv c_38_175 ?_
                first
                | (rw [rd0a (by omega)] at k; exact k)
                | (rw [rd0b (by omega) (by omega)] at k; exact k)
                | (rw [rd0c (by omega) (by omega) (by omega)] at k; exact k)
                | (rw [rd0d (by omega) (by omega) (by omega) (by omega) (by omega)] at k; exact k)
                | (rw [rd0e (by omega) (by omega) (by omega) (by omega) (by omega)] at k; exact k)
                | (rw [rd0f (by omega) (by omega) (by omega) (by omega) ‹_›] at k; exact k)
                | (rw [rd0g (by omega) (by omega) (by omega) (by omega) (Bool.eq_false_iff.mp ‹_›)] at k; exact k)
                | (exfalso; omega)
              · refine r_i ?_
                refine b_if_eq c_38_107 (fun _ => ?_) (fun h => Bool.noConfusion h)
                refine z_retv c_38_175 ?_
                first
                | (rw [rd0a (by omega)] at k; exact k)
                | (rw [rd0b (by omega) (by omega)] at k; exact k)
                | (rw [rd0c (by omega) (by omega) (by omega)] at k; exact k)
                | (rw [rd0d (by omega) (by omega) (by omega) (by omega) (by omega)] at k; exact k)
                | (rw [rd0e (by omega) (by omega) (by omega) (by omega) (by omega)] at k; exact k)
                | (rw [rd0f (by omega) (by omega) (by omega) (by omega) ‹_›] at k; exact k)
                | (rw [rd0g (by omega) (by omega) (by omega) (by omega) (Bool.eq_false_iff.mp ‹_›)] at k; exact k)
                | (exfalso; omega)
        · refine w_aload c_38_62 rfl ?_
          refine w_dup c_38_63 rfl ?_
          refine z_getZ c_38_64 sp_2 (by decide) rfl rfl ?_
          refine z_push c_38_67 ?_
          refine z_iadd c_38_68 ?_
          refine z_putZ c_38_69 sp_2 (by decide) rfl ?_
          rw [oS_I]
          refine w_aload c_38_72 rfl ?_
          refine z_push c_38_73 ?_
          refine wc_39 c_38_74 sp_2 (Nat.le_of_ble_eq_true rfl) (by omega) ?_
          have gi : rG n 1 S (rI S) := rI_g h (by omega)
          have gib := gi
          unfold rG gS at gib
          have gia : (rI S).a = S.a + 1 := rfl
          have r2 : rG n 1 (rI S) (rd K PL SZ rl g 11 (rI S)) := rd_g (kB_K hK) g 11 _ gi.1 (by decide) (by simp only [rk]; omega)
          have r2b := r2
          unfold rG gS at r2b
          refine h11 _ _ _ gi.1 (by omega) (by omega) ?_
          refine r_v ?_
          refine w_aload c_38_77 rfl ?_
          refine w_getR c_38_78 sp_2 (by decide) rfl pr_2_3 ?_
          refine w_iload c_38_81 rfl ?_
          refine wc_74 c_38_82 (sm_0 hs) (Nat.le_of_ble_eq_true rfl) (by omega) ?_
          refine ts_put hs r2.1 ?_
          refine r_v ?_
          refine w_goto c_38_85 ?_
          refine z_retv c_38_175 ?_
          first
          | (rw [rd0a (by omega)] at k; exact k)
          | (rw [rd0b (by omega) (by omega)] at k; exact k)
          | (rw [rd0c (by omega) (by omega) (by omega)] at k; exact k)
          | (rw [rd0d (by omega) (by omega) (by omega) (by omega) (by omega)] at k; exact k)
          | (rw [rd0e (by omega) (by omega) (by omega) (by omega) (by omega)] at k; exact k)
          | (rw [rd0f (by omega) (by omega) (by omega) (by omega) ‹_›] at k; exact k)
          | (rw [rd0g (by omega) (by omega) (by omega) (by omega) (Bool.eq_false_iff.mp ‹_›)] at k; exact k)
          | (exfalso; omega)
    · refine w_aload c_38_40 rfl ?_
      refine z_push c_38_41 ?_
      refine wc_39 c_38_42 sp_2 (Nat.le_of_ble_eq_true rfl) (by omega) ?_
      have r2 : rG n 1 S (rd K PL SZ rl g 10 S) := rd_g (kB_K hK) g 10 _ h (by decide) (by simp only [rk]; omega)
      have r2b := r2
      unfold rG gS at r2b
      refine h10 _ _ _ h (by omega) (by omega) ?_
      refine r_v ?_
      refine w_goto c_38_45 ?_
      refine z_retv c_38_175 ?_
      first
      | (rw [rd0a (by omega)] at k; exact k)
      | (rw [rd0b (by omega) (by omega)] at k; exact k)
      | (rw [rd0c (by omega) (by omega) (by omega)] at k; exact k)
      | (rw [rd0d (by omega) (by omega) (by omega) (by omega) (by omega)] at k; exact k)
      | (rw [rd0e (by omega) (by omega) (by omega) (by omega) (by omega)] at k; exact k)
      | (rw [rd0f (by omega) (by omega) (by omega) (by omega) ‹_›] at k; exact k)
      | (rw [rd0g (by omega) (by omega) (by omega) (by omega) (Bool.eq_false_iff.mp ‹_›)] at k; exact k)
      | (exfalso; omega)
  · refine w_aload c_38_12 rfl ?_
    refine w_getR c_38_13 sp_2 (by decide) rfl pr_2_3 ?_
    refine z_push c_38_16 ?_
    refine w_aload c_38_19 rfl ?_
    refine z_push c_38_20 ?_
    refine z_push c_38_21 ?_
    refine wc_32 c_38_24 sp_2 (Nat.le_of_ble_eq_true rfl) (by omega) ?_
    have gm : rG n 1 S (rM K PL SZ 0 9999 S) := rM_g h (kB_K hK)
    refine ts_number hs hK h (by omega) (by omega) (by omega) ?_
    refine r_i ?_
    refine z_iadd c_38_27 ?_
    refine wc_74 c_38_28 (sm_0 hs) (Nat.le_of_ble_eq_true rfl) (by omega) ?_
    refine ts_put hs gm.1 ?_
    refine r_v ?_
    refine w_goto c_38_31 ?_
    refine z_retv c_38_175 ?_
    first
    | (rw [rd0a (by omega)] at k; exact k)
    | (rw [rd0b (by omega) (by omega)] at k; exact k)
    | (rw [rd0c (by omega) (by omega) (by omega)] at k; exact k)
    | (rw [rd0d (by omega) (by omega) (by omega) (by omega) (by omega)] at k; exact k)
    | (rw [rd0e (by omega) (by omega) (by omega) (by omega) (by omega)] at k; exact k)
    | (rw [rd0f (by omega) (by omega) (by omega) (by omega) ‹_›] at k; exact k)
    | (rw [rd0g (by omega) (by omega) (by omega) (by omega) (Bool.eq_false_iff.mp ‹_›)] at k; exact k)
    | (exfalso; omega)

set_option maxHeartbeats 1000000 in
theorem cs_10 {s : Nat} {I : aFI} {L : aFL} {n rl : Int} {K PL SZ : Int → Int} {sh : Nat} (hs : aSm s) (hK : kB I n K PL SZ) {g : Nat} (hS : cC s I L n rl K PL SZ sh g 36 0 3 [.ref 2, .null] 3 3) : cC s I L n rl K PL SZ sh (g + 1) 39 0 10 [.ref 2, .int (iI 1)] 0 0 := by
  intro d S Q h hg hd k
  have hn := hK.2.2.1
  have hk := hK.2.2.2 _ h.1.1 h.1.2
  have hb := h
  unfold gS at hb
  refine w_aload c_39_0 rfl ?_
  refine wc_42 c_39_1 sp_2 (Nat.le_of_ble_eq_true rfl) (by omega) ?_
  refine ts_next hs hK h ?_
  refine r_i ?_
  refine z_push c_39_4 ?_
  refine z_ic_eq c_39_6 (by unfold aRg; omega) (by unfold aRg; omega) (fun h1_ => ?_) (fun h1_ => ?_)
  · refine w_aload c_39_19 rfl ?_
    refine wc_41 c_39_20 sp_2 (Nat.le_of_ble_eq_true rfl) (by omega) ?_
    refine ts_opens hs hK h (by omega) (fun hc => ?_) (fun hc => ?_)
    · refine r_i ?_
      refine b_if_eq c_39_23 (fun h => Bool.noConfusion h) (fun _ => ?_)
      refine w_aload c_39_26 rfl ?_
      refine wc_36 c_39_27 sp_2 (Nat.le_of_ble_eq_true rfl) (by omega) ?_
      have go := rO_g (PL := PL) h hc (by omega)
      have gob := go
      unfold gS at gob
      have r2 : rG n 1 (rO PL S) (rd K PL SZ rl g 3 (rO PL S)) := rd_g (kB_K hK) g 3 _ go.1 (by decide) (by simp only [rk]; omega)
      have r2b := r2
      unfold rG gS at r2b
      refine hS _ _ _ go.1 (by omega) (by omega) ?_
      refine r_v ?_
      refine w_iload c_39_30 rfl ?_
      refine z_push c_39_31 ?_
      refine z_ic_ne c_39_32 (by unfold aRg; omega) (by unfold aRg; omega) (fun _ => ?_) (fun h => absurd h (by decide))
      refine w_aload c_39_45 rfl ?_
      refine z_push c_39_46 ?_
      refine wc_45 c_39_48 sp_2 (Nat.le_of_ble_eq_true rfl) (by omega) ?_
      refine ts_need (by omega) hs hK r2.1 (by omega) ?_
      refine r_v ?_
      refine w_aload c_39_51 rfl ?_
      refine w_dup c_39_52 rfl ?_
      refine z_getZ c_39_53 sp_2 (by decide) rfl rfl ?_
      refine z_push c_39_56 ?_
      refine z_isub c_39_57 ?_
      refine z_putZ c_39_58 sp_2 (by decide) rfl ?_
      rw [oS_Z]
      refine z_retv c_39_61 ?_
      first
      | (rw [rd10a (by omega) (by omega)] at k; exact k)
      | (rw [rd10b (by omega) (by omega)] at k; exact k)
      | (rw [rd10c (by omega)] at k; exact k)
      | (exfalso; omega)
    · refine r_i ?_
      refine b_if_eq c_39_23 (fun _ => ?_) (fun h => Bool.noConfusion h)
      refine z_retv c_39_61 ?_
      first
      | (rw [rd10a (by omega) (by omega)] at k; exact k)
      | (rw [rd10b (by omega) (by omega)] at k; exact k)
      | (rw [rd10c (by omega)] at k; exact k)
      | (exfalso; omega)
  · refine w_aload c_39_9 rfl ?_
    refine z_push c_39_10 ?_
    refine w_aload c_39_11 rfl ?_
    refine wc_43 c_39_12 sp_2 (Nat.le_of_ble_eq_true rfl) (by omega) ?_
    refine ts_nextPlace hs hK h ?_
    refine r_i ?_
    refine wc_46 c_39_15 sp_2 (Nat.le_of_ble_eq_true rfl) (by omega) ?_
    refine ts_fail h ?_
    refine r_v ?_
    refine z_retv c_39_18 ?_
    first
    | (rw [rd10a (by omega) (by omega)] at k; exact k)
    | (rw [rd10b (by omega) (by omega)] at k; exact k)
    | (rw [rd10c (by omega)] at k; exact k)
    | (exfalso; omega)

set_option maxHeartbeats 1000000 in
theorem cs_11 {s : Nat} {I : aFI} {L : aFL} {n rl : Int} {K PL SZ : Int → Int} {sh : Nat} (hs : aSm s) (hK : kB I n K PL SZ) {g : Nat} (hS : cC s I L n rl K PL SZ sh g 36 0 3 [.ref 2, .null] 3 3) : cC s I L n rl K PL SZ sh (g + 1) 39 0 11 [.ref 2, .int (iI 2)] 0 0 := by
  intro d S Q h hg hd k
  have hn := hK.2.2.1
  have hk := hK.2.2.2 _ h.1.1 h.1.2
  have hb := h
  unfold gS at hb
  refine w_aload c_39_0 rfl ?_
  refine wc_42 c_39_1 sp_2 (Nat.le_of_ble_eq_true rfl) (by omega) ?_
  refine ts_next hs hK h ?_
  refine r_i ?_
  refine z_push c_39_4 ?_
  refine z_ic_eq c_39_6 (by unfold aRg; omega) (by unfold aRg; omega) (fun h1_ => ?_) (fun h1_ => ?_)
  · refine w_aload c_39_19 rfl ?_
    refine wc_41 c_39_20 sp_2 (Nat.le_of_ble_eq_true rfl) (by omega) ?_
    refine ts_opens hs hK h (by omega) (fun hc => ?_) (fun hc => ?_)
    · refine r_i ?_
      refine b_if_eq c_39_23 (fun h => Bool.noConfusion h) (fun _ => ?_)
      refine w_aload c_39_26 rfl ?_
      refine wc_36 c_39_27 sp_2 (Nat.le_of_ble_eq_true rfl) (by omega) ?_
      have go := rO_g (PL := PL) h hc (by omega)
      have gob := go
      unfold gS at gob
      have r2 : rG n 1 (rO PL S) (rd K PL SZ rl g 3 (rO PL S)) := rd_g (kB_K hK) g 3 _ go.1 (by decide) (by simp only [rk]; omega)
      have r2b := r2
      unfold rG gS at r2b
      refine hS _ _ _ go.1 (by omega) (by omega) ?_
      refine r_v ?_
      refine w_iload c_39_30 rfl ?_
      refine z_push c_39_31 ?_
      refine z_ic_ne c_39_32 (by unfold aRg; omega) (by unfold aRg; omega) (fun h => absurd h (by decide)) (fun _ => ?_)
      refine w_aload c_39_35 rfl ?_
      refine z_push c_39_36 ?_
      refine wc_45 c_39_38 sp_2 (Nat.le_of_ble_eq_true rfl) (by omega) ?_
      have g3 : rG n 0 (rd K PL SZ rl g 3 (rO PL S)) (rN K PL 44 (rd K PL SZ rl g 3 (rO PL S))) := rN_g r2.1 (kB_K hK)
      have g3b := g3
      unfold rG gS at g3b
      refine ts_need (by omega) hs hK r2.1 (by omega) ?_
      refine r_v ?_
      refine w_aload c_39_41 rfl ?_
      refine wc_36 c_39_42 sp_2 (Nat.le_of_ble_eq_true rfl) (by omega) ?_
      have r4 : rG n 1 (rN K PL 44 (rd K PL SZ rl g 3 (rO PL S))) (rd K PL SZ rl g 3 (rN K PL 44 (rd K PL SZ rl g 3 (rO PL S)))) := rd_g (kB_K hK) g 3 _ g3.1 (by decide) (by simp only [rk]; omega)
      have r4b := r4
      unfold rG gS at r4b
      refine hS _ _ _ g3.1 (by omega) (by omega) ?_
      refine r_v ?_
      refine w_aload c_39_45 rfl ?_
      refine z_push c_39_46 ?_
      refine wc_45 c_39_48 sp_2 (Nat.le_of_ble_eq_true rfl) (by omega) ?_
      refine ts_need (by omega) hs hK r4.1 (by omega) ?_
      refine r_v ?_
      refine w_aload c_39_51 rfl ?_
      refine w_dup c_39_52 rfl ?_
      refine z_getZ c_39_53 sp_2 (by decide) rfl rfl ?_
      refine z_push c_39_56 ?_
      refine z_isub c_39_57 ?_
      refine z_putZ c_39_58 sp_2 (by decide) rfl ?_
      rw [oS_Z]
      refine z_retv c_39_61 ?_
      first
      | (rw [rd11a (by omega) (by omega)] at k; exact k)
      | (rw [rd11b (by omega) (by omega)] at k; exact k)
      | (rw [rd11c (by omega)] at k; exact k)
      | (exfalso; omega)
    · refine r_i ?_
      refine b_if_eq c_39_23 (fun _ => ?_) (fun h => Bool.noConfusion h)
      refine z_retv c_39_61 ?_
      first
      | (rw [rd11a (by omega) (by omega)] at k; exact k)
      | (rw [rd11b (by omega) (by omega)] at k; exact k)
      | (rw [rd11c (by omega)] at k; exact k)
      | (exfalso; omega)
  · refine w_aload c_39_9 rfl ?_
    refine z_push c_39_10 ?_
    refine w_aload c_39_11 rfl ?_
    refine wc_43 c_39_12 sp_2 (Nat.le_of_ble_eq_true rfl) (by omega) ?_
    refine ts_nextPlace hs hK h ?_
    refine r_i ?_
    refine wc_46 c_39_15 sp_2 (Nat.le_of_ble_eq_true rfl) (by omega) ?_
    refine ts_fail h ?_
    refine r_v ?_
    refine z_retv c_39_18 ?_
    first
    | (rw [rd11a (by omega) (by omega)] at k; exact k)
    | (rw [rd11b (by omega) (by omega)] at k; exact k)
    | (rw [rd11c (by omega)] at k; exact k)
    | (exfalso; omega)

