/-! the class: the pointer to the sums, the rule (c11.py) -/
theorem aR_put {sh s : Nat} {su : Option Nat} : aUp (aR sh su) 2 3 (some s) = aR sh (some s) := by
  funext q k
  unfold aUp
  by_cases h : q = 2 ∧ k = 3
  · obtain ⟨rfl, rfl⟩ := h; rfl
  · rw [if_neg h]
    by_cases h2 : q = 2
    · subst h2
      have h3 : ¬ k = 3 := fun z => h ⟨rfl, z⟩
      match k, h3 with
      | 0, _ => rfl
      | 1, _ => rfl
      | 2, _ => rfl
      | 3, z => exact absurd rfl z
      | k + 4, _ => rfl
    · simp only [aR, aRT, h2, if_false]
section RL
variable {I : aFI} {s : Nat} {S : Rs} {NM FR TO : Int → Int} {v : Int32}
theorem oS_r (hs : aSm s) : aUp (oS (oN (oF I s FR TO) NM) s S) 2 4 v = oS (oN (oF (aUp I 2 4 v) s FR TO) NM) s S := by
  have e1 : aUp (oF I s FR TO) 2 4 v = oF (aUp I 2 4 v) s FR TO := by
    funext q k; unfold aUp oF
    by_cases h : q = 2 ∧ k = 4
    · obtain ⟨rfl, rfl⟩ := h; rcases hs with rfl | rfl | rfl <;> rfl
    · simp only [h, if_false]
  show aUp (oR _ _ _ _ _) _ _ _ = _
  rw [oR_out (by omega), oU_out (by rcases hs with rfl | rfl | rfl <;> omega) (by rcases hs with rfl | rfl | rfl <;> omega), oN_out (by omega), e1]; rfl
theorem kB_F {n : Int} {K PL SZ : Int → Int} (hs : aSm s) (hK : kB I n K PL SZ) : kB (oF I s FR TO) n K PL SZ := by rcases hs with rfl | rfl | rfl <;> exact hK
theorem kB_r {n : Int} {K PL SZ : Int → Int} (hK : kB I n K PL SZ) : kB (aUp I 2 4 v) n K PL SZ := hK
end RL
theorem rl_F {I : aFI} {s : Nat} {FR TO NM : Int → Int} {x : Int} (hs : aSm s) : oN (oF (aUp I 2 4 (iI x)) s FR TO) NM 2 4 = iI x := by rcases hs with rfl | rfl | rfl <;> rfl
set_option maxHeartbeats 1000000 in
theorem ts_rule {d s : Nat} {I : aFI} {L : aFL} {Q : aPo} {n w : Int} {K PL SZ NM FR TO : Int → Int} {S : Rs} {sh : Nat} {su : Option Nat} (hs : aSm s) (hK : kB I n K PL SZ) (h : gS n S) (h4 : S.a + 1 < n) (hw : 0 ≤ w ∧ w < 3) (hv : -1 ≤ FR w ∧ FR w ≤ 1600) (hd : 82 ≤ d) (k1 : ¬ FR w = -1 → Q none (oS (oN (oF I s FR TO) NM) s (rF 5 (PL S.a) S)) L (aR sh su)) (k2 : FR w = -1 → w = 2 → Q none (oS (oN (oF (aUp I 2 4 (iI w)) s (cU FR w S.ln) (cU TO w (rTest K PL SZ w (rI S)).ln)) NM) s (rTest K PL SZ w (rI S))) L (aR sh (some s))) (k3 : FR w = -1 → ¬ w = 2 → Q none (oS (oN (oF (aUp I 2 4 (iI w)) s (cU FR w S.ln) (cU TO w (rSum K PL SZ w (rI S)).ln)) NM) s (rSum K PL SZ w (rI S))) L (aR sh (some s))) : aWp none d 28 0 [.ref 2, .ref s, .int (iI w)] [] (oS (oN (oF I s FR TO) NM) s S) L (aR sh su) Q := by
  have hn := hK.2.2.1
  have hk := hK.2.2.2 _ h.1.1 h.1.2
  have hb := h
  unfold gS at hb
  refine w_aload c_28_0 rfl ?_
  refine w_iload c_28_1 rfl ?_
  refine wc_73 c_28_2 (sm_0 hs) (Nat.le_of_ble_eq_true rfl) (by omega) ?_
  refine tc_isTold hs (by omega) (rS_f hs (by omega)) hv ?_
  refine r_i ?_
  refine b_if_eq c_28_5 (fun h1_ => ?_) (fun h1_ => ?_)
  · refine w_aload c_28_18 rfl ?_
    refine w_dup c_28_19 rfl ?_
    refine z_getZ c_28_20 sp_2 (by decide) rfl rfl ?_
    refine z_push c_28_23 ?_
    refine z_iadd c_28_24 ?_
    refine z_putZ c_28_25 sp_2 (by decide) rfl ?_
    rw [oS_I]
    refine w_aload c_28_28 rfl ?_
    refine w_aload c_28_29 rfl ?_
    refine w_putR c_28_30 sp_2 (by decide) rfl ?_
    rw [aR_put]
    refine w_aload c_28_33 rfl ?_
    refine w_iload c_28_34 rfl ?_
    refine z_putZ c_28_35 sp_2 (by decide) rfl ?_
    rw [oS_r hs]
    refine w_aload c_28_38 rfl ?_
    refine w_getR c_28_39 sp_2 (by decide) rfl pr_2_3 ?_
    refine w_getR c_28_42 (sm_0 hs) (by decide) rfl (pm_1 hs) ?_
    refine w_aload c_28_45 rfl ?_
    refine z_getZ c_28_46 sp_2 (by decide) rfl (oS_rl hs (rl_F hs)) ?_
    refine w_aload c_28_49 rfl ?_
    refine w_getR c_28_50 sp_2 (by decide) rfl pr_2_3 ?_
    refine z_getZ c_28_53 (sm_0 hs) (by decide) rfl (rQ_ln hs) ?_
    refine z_iastore c_28_56 (sm_2 hs) (by omega) (by decide) ?_
    rw [oS_f hs (by omega)]
    refine w_iload c_28_57 rfl ?_
    refine z_push c_28_58 ?_
    refine z_ic_ne c_28_59 (by unfold aRg; omega) (by unfold aRg; omega) (fun h2_ => ?_) (fun h2_ => ?_)
    · refine w_aload c_28_69 rfl ?_
      refine wc_36 c_28_70 sp_2 (Nat.le_of_ble_eq_true rfl) (by omega) ?_
      have gi := rI_g h h4
      have gib := gi.1
      unfold gS at gib
      refine ts_readSum hs (kB_N (kB_F hs (kB_r hK))) (rl_F hs) (by omega) gi.1 (by omega) ?_
      refine r_v ?_
      refine w_aload c_28_73 rfl ?_
      refine w_getR c_28_74 sp_2 (by decide) rfl pr_2_3 ?_
      refine w_getR c_28_77 (sm_0 hs) (by decide) rfl (pm_2 hs) ?_
      refine w_aload c_28_80 rfl ?_
      refine z_getZ c_28_81 sp_2 (by decide) rfl (oS_rl hs (rl_F hs)) ?_
      refine w_aload c_28_84 rfl ?_
      refine w_getR c_28_85 sp_2 (by decide) rfl pr_2_3 ?_
      refine z_getZ c_28_88 (sm_0 hs) (by decide) rfl (rQ_ln hs) ?_
      refine z_iastore c_28_91 (sm_3 hs) (by omega) (by decide) ?_
      rw [oS_t hs (by omega)]
      refine z_retv c_28_92 ?_
      (try simp only [decide_eq_true_eq, decide_eq_false_iff_not] at *)
      first
      | exact k1 (by omega)
      | exact k2 (by omega) (by omega)
      | exact k3 (by omega) (by omega)
    · refine w_aload c_28_62 rfl ?_
      refine wc_33 c_28_63 sp_2 (Nat.le_of_ble_eq_true rfl) (by omega) ?_
      have gi := rI_g h h4
      have gib := gi.1
      unfold gS at gib
      refine ts_readTest hs (kB_N (kB_F hs (kB_r hK))) (rl_F hs) (by omega) gi.1 (by omega) ?_
      refine r_v ?_
      refine w_goto c_28_66 ?_
      refine w_aload c_28_73 rfl ?_
      refine w_getR c_28_74 sp_2 (by decide) rfl pr_2_3 ?_
      refine w_getR c_28_77 (sm_0 hs) (by decide) rfl (pm_2 hs) ?_
      refine w_aload c_28_80 rfl ?_
      refine z_getZ c_28_81 sp_2 (by decide) rfl (oS_rl hs (rl_F hs)) ?_
      refine w_aload c_28_84 rfl ?_
      refine w_getR c_28_85 sp_2 (by decide) rfl pr_2_3 ?_
      refine z_getZ c_28_88 (sm_0 hs) (by decide) rfl (rQ_ln hs) ?_
      refine z_iastore c_28_91 (sm_3 hs) (by omega) (by decide) ?_
      rw [oS_t hs (by omega)]
      refine z_retv c_28_92 ?_
      (try simp only [decide_eq_true_eq, decide_eq_false_iff_not] at *)
      first
      | exact k1 (by omega)
      | exact k2 (by omega) (by omega)
      | exact k3 (by omega) (by omega)
  · refine w_aload c_28_8 rfl ?_
    refine z_push c_28_9 ?_
    refine w_aload c_28_10 rfl ?_
    refine wc_43 c_28_11 sp_2 (Nat.le_of_ble_eq_true rfl) (by omega) ?_
    refine ts_nextPlace hs (kB_N (kB_F hs hK)) h ?_
    refine r_i ?_
    refine wc_46 c_28_14 sp_2 (Nat.le_of_ble_eq_true rfl) (by omega) ?_
    refine ts_fail h ?_
    refine r_v ?_
    refine z_retv c_28_17 ?_
    (try simp only [decide_eq_true_eq, decide_eq_false_iff_not] at *)
    first
    | exact k1 (by omega)
    | exact k2 (by omega) (by omega)
    | exact k3 (by omega) (by omega)

