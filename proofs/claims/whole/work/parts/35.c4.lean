/-! the class: the reader's own recursion (c4.py) -/
section CC
variable (s : Nat) (I : aFI) (L : aFL) (n rl : Int) (K PL SZ : Int → Int) (sh : Nat)
/-- from pc of a method on, the machine does what the function of that mode says -/
def cC (g y pc m : Nat) (ls : List Value) (r0 r1 : Int) : Prop := ∀ (d : Nat) (S : Rs) (Q : aPo), gS n S → 16 * (n - S.a) + r0 < g → 10 * (6 - S.op) + r1 + 4 ≤ d → Q none (oS I s (rd K PL SZ rl g m S)) L (aR sh (some s)) → aWp none d y pc ls [] (oS I s S) L (aR sh (some s)) Q
end CC
theorem rd2t {g : Nat} {rl : Int} {K PL SZ : Int → Int} {S : Rs} (h : S.f = 0 ∧ (K S.a = 42 ∨ K S.a = 47)) : rd K PL SZ rl (g + 1) 2 S = rd K PL SZ rl g 2 (rP (K S.a) (rd K PL SZ rl g 0 (rI S))) := if_pos h
theorem rd2f {g : Nat} {rl : Int} {K PL SZ : Int → Int} {S : Rs} (h : ¬ (S.f = 0 ∧ (K S.a = 42 ∨ K S.a = 47))) : rd K PL SZ rl (g + 1) 2 S = S := if_neg h
set_option maxHeartbeats 1000000 in
theorem cs_1 {s : Nat} {I : aFI} {L : aFL} {n rl : Int} {K PL SZ : Int → Int} {sh : Nat} (hs : aSm s) (hK : kB I n K PL SZ) {g : Nat} (hP : cC s I L n rl K PL SZ sh g 38 0 0 [.ref 2, .null] 1 1) (hT : ∀ v, cC s I L n rl K PL SZ sh g 37 4 2 [.ref 2, v] 0 2) : cC s I L n rl K PL SZ sh (g + 1) 37 0 1 [.ref 2, .null] 2 2 := by
  intro d S Q h hg hd k
  have hn := hK.2.2.1
  have hk := hK.2.2.2 _ h.1.1 h.1.2
  have hb := h
  unfold gS at hb
  refine w_aload c_37_0 rfl ?_
  refine wc_38 c_37_1 sp_2 (Nat.le_of_ble_eq_true rfl) (by omega) ?_
  have r1 : rG n 1 S (rd K PL SZ rl g 0 S) := rd_g (kB_K hK) g 0 _ h (by decide) (by simp only [rk]; omega)
  have r1b := r1
  unfold rG gS at r1b
  refine hP _ _ _ h (by omega) (by omega) ?_
  refine r_v ?_
  exact hT _ _ _ _ r1.1 (by omega) (by omega) k

set_option maxHeartbeats 1000000 in
theorem cs_2 {s : Nat} {I : aFI} {L : aFL} {n rl : Int} {K PL SZ : Int → Int} {sh : Nat} (hs : aSm s) (hK : kB I n K PL SZ) {g : Nat} (hP : cC s I L n rl K PL SZ sh g 38 0 0 [.ref 2, .null] 1 1) (hT : ∀ v, cC s I L n rl K PL SZ sh g 37 4 2 [.ref 2, v] 0 2) : ∀ v, cC s I L n rl K PL SZ sh (g + 1) 37 4 2 [.ref 2, v] 0 2 := by
  intro v
  intro d S Q h hg hd k
  have hn := hK.2.2.1
  have hk := hK.2.2.2 _ h.1.1 h.1.2
  have hb := h
  unfold gS at hb
  refine w_aload c_37_4 rfl ?_
  refine z_getZ c_37_5 sp_2 (by decide) rfl rfl ?_
  refine w_aload c_37_8 rfl ?_
  refine w_getR c_37_9 sp_2 (by decide) rfl pr_2_1 ?_
  refine z_getZ c_37_12 sp_3 (by decide) rfl (oS_n hs hK) ?_
  refine z_ic_ge c_37_15 (by unfold aRg; omega) (by unfold aRg; omega) (fun h1_ => ?_) (fun h1_ => ?_)
  · refine z_retv c_37_73 ?_
    first
    | (rw [rd2f (by omega)] at k; exact k)
    | (exfalso; omega)
  · refine w_aload c_37_18 rfl ?_
    refine z_getZ c_37_19 sp_2 (by decide) rfl rfl ?_
    refine z_if_ne c_37_22 (by unfold aRg; omega) (fun h2_ => ?_) (fun h2_ => ?_)
    · refine z_retv c_37_73 ?_
      first
      | (rw [rd2f (by omega)] at k; exact k)
      | (exfalso; omega)
    · refine w_aload c_37_25 rfl ?_
      refine wc_42 c_37_26 sp_2 (Nat.le_of_ble_eq_true rfl) (by omega) ?_
      refine ts_next hs hK h ?_
      refine r_i ?_
      refine z_push c_37_29 ?_
      refine z_ic_eq c_37_31 (by unfold aRg; omega) (by unfold aRg; omega) (fun h3_ => ?_) (fun h3_ => ?_)
      · refine w_aload c_37_43 rfl ?_
        refine wc_42 c_37_44 sp_2 (Nat.le_of_ble_eq_true rfl) (by omega) ?_
        refine ts_next hs hK h ?_
        refine r_i ?_
        refine w_istore c_37_47 (Nat.le_of_ble_eq_true rfl) rfl ?_
        refine w_aload c_37_48 rfl ?_
        refine w_dup c_37_49 rfl ?_
        refine z_getZ c_37_50 sp_2 (by decide) rfl rfl ?_
        refine z_push c_37_53 ?_
        refine z_iadd c_37_54 ?_
        refine z_putZ c_37_55 sp_2 (by decide) rfl ?_
        rw [oS_I]
        refine w_aload c_37_58 rfl ?_
        refine wc_38 c_37_59 sp_2 (Nat.le_of_ble_eq_true rfl) (by omega) ?_
        have gi : rG n 1 S (rI S) := rI_g h (by omega)
        have gib := gi
        unfold rG gS at gib
        have gia : (rI S).a = S.a + 1 := rfl
        have r2 : rG n 1 (rI S) (rd K PL SZ rl g 0 (rI S)) := rd_g (kB_K hK) g 0 _ gi.1 (by decide) (by simp only [rk]; omega)
        have r2b := r2
        unfold rG gS at r2b
        refine hP _ _ _ gi.1 (by omega) (by omega) ?_
        refine r_v ?_
        refine w_aload c_37_62 rfl ?_
        refine w_getR c_37_63 sp_2 (by decide) rfl pr_2_3 ?_
        refine w_iload c_37_66 rfl ?_
        refine wc_74 c_37_67 (sm_0 hs) (Nat.le_of_ble_eq_true rfl) (by omega) ?_
        have r3 : rG n 0 (rd K PL SZ rl g 0 (rI S)) (rP (K S.a) (rd K PL SZ rl g 0 (rI S))) := rP_g r2.1
        have r3b := r3
        unfold rG gS at r3b
        refine ts_put hs r2.1 ?_
        refine r_v ?_
        refine w_goto c_37_70 ?_
        rw [rd2t (by omega)] at k
        exact hT _ _ _ _ r3.1 (by omega) (by omega) k
      · refine w_aload c_37_34 rfl ?_
        refine wc_42 c_37_35 sp_2 (Nat.le_of_ble_eq_true rfl) (by omega) ?_
        refine ts_next hs hK h ?_
        refine r_i ?_
        refine z_push c_37_38 ?_
        refine z_ic_ne c_37_40 (by unfold aRg; omega) (by unfold aRg; omega) (fun h4_ => ?_) (fun h4_ => ?_)
        · refine z_retv c_37_73 ?_
          first
          | (rw [rd2f (by omega)] at k; exact k)
          | (exfalso; omega)
        · refine w_aload c_37_43 rfl ?_
          refine wc_42 c_37_44 sp_2 (Nat.le_of_ble_eq_true rfl) (by omega) ?_
          refine ts_next hs hK h ?_
          refine r_i ?_
          refine w_istore c_37_47 (Nat.le_of_ble_eq_true rfl) rfl ?_
          refine w_aload c_37_48 rfl ?_
          refine w_dup c_37_49 rfl ?_
          refine z_getZ c_37_50 sp_2 (by decide) rfl rfl ?_
          refine z_push c_37_53 ?_
          refine z_iadd c_37_54 ?_
          refine z_putZ c_37_55 sp_2 (by decide) rfl ?_
          rw [oS_I]
          refine w_aload c_37_58 rfl ?_
          refine wc_38 c_37_59 sp_2 (Nat.le_of_ble_eq_true rfl) (by omega) ?_
          have gi : rG n 1 S (rI S) := rI_g h (by omega)
          have gib := gi
          unfold rG gS at gib
          have gia : (rI S).a = S.a + 1 := rfl
          have r2 : rG n 1 (rI S) (rd K PL SZ rl g 0 (rI S)) := rd_g (kB_K hK) g 0 _ gi.1 (by decide) (by simp only [rk]; omega)
          have r2b := r2
          unfold rG gS at r2b
          refine hP _ _ _ gi.1 (by omega) (by omega) ?_
          refine r_v ?_
          refine w_aload c_37_62 rfl ?_
          refine w_getR c_37_63 sp_2 (by decide) rfl pr_2_3 ?_
          refine w_iload c_37_66 rfl ?_
          refine wc_74 c_37_67 (sm_0 hs) (Nat.le_of_ble_eq_true rfl) (by omega) ?_
          have r3 : rG n 0 (rd K PL SZ rl g 0 (rI S)) (rP (K S.a) (rd K PL SZ rl g 0 (rI S))) := rP_g r2.1
          have r3b := r3
          unfold rG gS at r3b
          refine ts_put hs r2.1 ?_
          refine r_v ?_
          refine w_goto c_37_70 ?_
          rw [rd2t (by omega)] at k
          exact hT _ _ _ _ r3.1 (by omega) (by omega) k

theorem rd4t {g : Nat} {rl : Int} {K PL SZ : Int → Int} {S : Rs} (h : S.f = 0 ∧ (K S.a = 43 ∨ K S.a = 45)) : rd K PL SZ rl (g + 1) 4 S = rd K PL SZ rl g 4 (rP (K S.a) (rd K PL SZ rl g 1 (rI S))) := if_pos h
theorem rd4f {g : Nat} {rl : Int} {K PL SZ : Int → Int} {S : Rs} (h : ¬ (S.f = 0 ∧ (K S.a = 43 ∨ K S.a = 45))) : rd K PL SZ rl (g + 1) 4 S = S := if_neg h
set_option maxHeartbeats 1000000 in
theorem cs_3 {s : Nat} {I : aFI} {L : aFL} {n rl : Int} {K PL SZ : Int → Int} {sh : Nat} (hs : aSm s) (hK : kB I n K PL SZ) {g : Nat} (hP : cC s I L n rl K PL SZ sh g 37 0 1 [.ref 2, .null] 2 2) (hT : ∀ v, cC s I L n rl K PL SZ sh g 36 4 4 [.ref 2, v] 0 3) : cC s I L n rl K PL SZ sh (g + 1) 36 0 3 [.ref 2, .null] 3 3 := by
  intro d S Q h hg hd k
  have hn := hK.2.2.1
  have hk := hK.2.2.2 _ h.1.1 h.1.2
  have hb := h
  unfold gS at hb
  refine w_aload c_36_0 rfl ?_
  refine wc_37 c_36_1 sp_2 (Nat.le_of_ble_eq_true rfl) (by omega) ?_
  have r1 : rG n 1 S (rd K PL SZ rl g 1 S) := rd_g (kB_K hK) g 1 _ h (by decide) (by simp only [rk]; omega)
  have r1b := r1
  unfold rG gS at r1b
  refine hP _ _ _ h (by omega) (by omega) ?_
  refine r_v ?_
  exact hT _ _ _ _ r1.1 (by omega) (by omega) k

set_option maxHeartbeats 1000000 in
theorem cs_4 {s : Nat} {I : aFI} {L : aFL} {n rl : Int} {K PL SZ : Int → Int} {sh : Nat} (hs : aSm s) (hK : kB I n K PL SZ) {g : Nat} (hP : cC s I L n rl K PL SZ sh g 37 0 1 [.ref 2, .null] 2 2) (hT : ∀ v, cC s I L n rl K PL SZ sh g 36 4 4 [.ref 2, v] 0 3) : ∀ v, cC s I L n rl K PL SZ sh (g + 1) 36 4 4 [.ref 2, v] 0 3 := by
  intro v
  intro d S Q h hg hd k
  have hn := hK.2.2.1
  have hk := hK.2.2.2 _ h.1.1 h.1.2
  have hb := h
  unfold gS at hb
  refine w_aload c_36_4 rfl ?_
  refine z_getZ c_36_5 sp_2 (by decide) rfl rfl ?_
  refine w_aload c_36_8 rfl ?_
  refine w_getR c_36_9 sp_2 (by decide) rfl pr_2_1 ?_
  refine z_getZ c_36_12 sp_3 (by decide) rfl (oS_n hs hK) ?_
  refine z_ic_ge c_36_15 (by unfold aRg; omega) (by unfold aRg; omega) (fun h1_ => ?_) (fun h1_ => ?_)
  · refine z_retv c_36_73 ?_
    first
    | (rw [rd4f (by omega)] at k; exact k)
    | (exfalso; omega)
  · refine w_aload c_36_18 rfl ?_
    refine z_getZ c_36_19 sp_2 (by decide) rfl rfl ?_
    refine z_if_ne c_36_22 (by unfold aRg; omega) (fun h2_ => ?_) (fun h2_ => ?_)
    · refine z_retv c_36_73 ?_
      first
      | (rw [rd4f (by omega)] at k; exact k)
      | (exfalso; omega)
    · refine w_aload c_36_25 rfl ?_
      refine wc_42 c_36_26 sp_2 (Nat.le_of_ble_eq_true rfl) (by omega) ?_
      refine ts_next hs hK h ?_
      refine r_i ?_
      refine z_push c_36_29 ?_
      refine z_ic_eq c_36_31 (by unfold aRg; omega) (by unfold aRg; omega) (fun h3_ => ?_) (fun h3_ => ?_)
      · refine w_aload c_36_43 rfl ?_
        refine wc_42 c_36_44 sp_2 (Nat.le_of_ble_eq_true rfl) (by omega) ?_
        refine ts_next hs hK h ?_
        refine r_i ?_
        refine w_istore c_36_47 (Nat.le_of_ble_eq_true rfl) rfl ?_
        refine w_aload c_36_48 rfl ?_
        refine w_dup c_36_49 rfl ?_
        refine z_getZ c_36_50 sp_2 (by decide) rfl rfl ?_
        refine z_push c_36_53 ?_
        refine z_iadd c_36_54 ?_
        refine z_putZ c_36_55 sp_2 (by decide) rfl ?_
        rw [oS_I]
        refine w_aload c_36_58 rfl ?_
        refine wc_37 c_36_59 sp_2 (Nat.le_of_ble_eq_true rfl) (by omega) ?_
        have gi : rG n 1 S (rI S) := rI_g h (by omega)
        have gib := gi
        unfold rG gS at gib
        have gia : (rI S).a = S.a + 1 := rfl
        have r2 : rG n 1 (rI S) (rd K PL SZ rl g 1 (rI S)) := rd_g (kB_K hK) g 1 _ gi.1 (by decide) (by simp only [rk]; omega)
        have r2b := r2
        unfold rG gS at r2b
        refine hP _ _ _ gi.1 (by omega) (by omega) ?_
        refine r_v ?_
        refine w_aload c_36_62 rfl ?_
        refine w_getR c_36_63 sp_2 (by decide) rfl pr_2_3 ?_
        refine w_iload c_36_66 rfl ?_
        refine wc_74 c_36_67 (sm_0 hs) (Nat.le_of_ble_eq_true rfl) (by omega) ?_
        have r3 : rG n 0 (rd K PL SZ rl g 1 (rI S)) (rP (K S.a) (rd K PL SZ rl g 1 (rI S))) := rP_g r2.1
        have r3b := r3
        unfold rG gS at r3b
        refine ts_put hs r2.1 ?_
        refine r_v ?_
        refine w_goto c_36_70 ?_
        rw [rd4t (by omega)] at k
        exact hT _ _ _ _ r3.1 (by omega) (by omega) k
      · refine w_aload c_36_34 rfl ?_
        refine wc_42 c_36_35 sp_2 (Nat.le_of_ble_eq_true rfl) (by omega) ?_
        refine ts_next hs hK h ?_
        refine r_i ?_
        refine z_push c_36_38 ?_
        refine z_ic_ne c_36_40 (by unfold aRg; omega) (by unfold aRg; omega) (fun h4_ => ?_) (fun h4_ => ?_)
        · refine z_retv c_36_73 ?_
          first
          | (rw [rd4f (by omega)] at k; exact k)
          | (exfalso; omega)
        · refine w_aload c_36_43 rfl ?_
          refine wc_42 c_36_44 sp_2 (Nat.le_of_ble_eq_true rfl) (by omega) ?_
          refine ts_next hs hK h ?_
          refine r_i ?_
          refine w_istore c_36_47 (Nat.le_of_ble_eq_true rfl) rfl ?_
          refine w_aload c_36_48 rfl ?_
          refine w_dup c_36_49 rfl ?_
          refine z_getZ c_36_50 sp_2 (by decide) rfl rfl ?_
          refine z_push c_36_53 ?_
          refine z_iadd c_36_54 ?_
          refine z_putZ c_36_55 sp_2 (by decide) rfl ?_
          rw [oS_I]
          refine w_aload c_36_58 rfl ?_
          refine wc_37 c_36_59 sp_2 (Nat.le_of_ble_eq_true rfl) (by omega) ?_
          have gi : rG n 1 S (rI S) := rI_g h (by omega)
          have gib := gi
          unfold rG gS at gib
          have gia : (rI S).a = S.a + 1 := rfl
          have r2 : rG n 1 (rI S) (rd K PL SZ rl g 1 (rI S)) := rd_g (kB_K hK) g 1 _ gi.1 (by decide) (by simp only [rk]; omega)
          have r2b := r2
          unfold rG gS at r2b
          refine hP _ _ _ gi.1 (by omega) (by omega) ?_
          refine r_v ?_
          refine w_aload c_36_62 rfl ?_
          refine w_getR c_36_63 sp_2 (by decide) rfl pr_2_3 ?_
          refine w_iload c_36_66 rfl ?_
          refine wc_74 c_36_67 (sm_0 hs) (Nat.le_of_ble_eq_true rfl) (by omega) ?_
          have r3 : rG n 0 (rd K PL SZ rl g 1 (rI S)) (rP (K S.a) (rd K PL SZ rl g 1 (rI S))) := rP_g r2.1
          have r3b := r3
          unfold rG gS at r3b
          refine ts_put hs r2.1 ?_
          refine r_v ?_
          refine w_goto c_36_70 ?_
          rw [rd4t (by omega)] at k
          exact hT _ _ _ _ r3.1 (by omega) (by omega) k

theorem rd7t {g : Nat} {rl : Int} {K PL SZ : Int → Int} {S : Rs} (h : S.f = 0 ∧ K S.a = 327) : rd K PL SZ rl (g + 1) 7 S = rd K PL SZ rl g 7 (rP 327 (rd K PL SZ rl g 5 (rI S))) := if_pos h
theorem rd7f {g : Nat} {rl : Int} {K PL SZ : Int → Int} {S : Rs} (h : ¬ (S.f = 0 ∧ K S.a = 327)) : rd K PL SZ rl (g + 1) 7 S = S := if_neg h
set_option maxHeartbeats 1000000 in
theorem cs_6 {s : Nat} {I : aFI} {L : aFL} {n rl : Int} {K PL SZ : Int → Int} {sh : Nat} (hs : aSm s) (hK : kB I n K PL SZ) {g : Nat} (hP : cC s I L n rl K PL SZ sh g 35 0 5 [.ref 2, .null, .null] 4 4) (hT : cC s I L n rl K PL SZ sh g 34 4 7 [.ref 2] 0 5) : cC s I L n rl K PL SZ sh (g + 1) 34 0 6 [.ref 2] 5 5 := by
  intro d S Q h hg hd k
  have hn := hK.2.2.1
  have hk := hK.2.2.2 _ h.1.1 h.1.2
  have hb := h
  unfold gS at hb
  refine w_aload c_34_0 rfl ?_
  refine wc_35 c_34_1 sp_2 (Nat.le_of_ble_eq_true rfl) (by omega) ?_
  have r1 : rG n 1 S (rd K PL SZ rl g 5 S) := rd_g (kB_K hK) g 5 _ h (by decide) (by simp only [rk]; omega)
  have r1b := r1
  unfold rG gS at r1b
  refine hP _ _ _ h (by omega) (by omega) ?_
  refine r_v ?_
  exact hT _ _ _ r1.1 (by omega) (by omega) k

set_option maxHeartbeats 1000000 in
theorem cs_7 {s : Nat} {I : aFI} {L : aFL} {n rl : Int} {K PL SZ : Int → Int} {sh : Nat} (hs : aSm s) (hK : kB I n K PL SZ) {g : Nat} (hP : cC s I L n rl K PL SZ sh g 35 0 5 [.ref 2, .null, .null] 4 4) (hT : cC s I L n rl K PL SZ sh g 34 4 7 [.ref 2] 0 5) : cC s I L n rl K PL SZ sh (g + 1) 34 4 7 [.ref 2] 0 5 := by
  intro d S Q h hg hd k
  have hn := hK.2.2.1
  have hk := hK.2.2.2 _ h.1.1 h.1.2
  have hb := h
  unfold gS at hb
  refine w_aload c_34_4 rfl ?_
  refine z_getZ c_34_5 sp_2 (by decide) rfl rfl ?_
  refine w_aload c_34_8 rfl ?_
  refine w_getR c_34_9 sp_2 (by decide) rfl pr_2_1 ?_
  refine z_getZ c_34_12 sp_3 (by decide) rfl (oS_n hs hK) ?_
  refine z_ic_ge c_34_15 (by unfold aRg; omega) (by unfold aRg; omega) (fun h1_ => ?_) (fun h1_ => ?_)
  · refine z_retv c_34_62 ?_
    first
    | (rw [rd7f (by omega)] at k; exact k)
    | (exfalso; omega)
  · refine w_aload c_34_18 rfl ?_
    refine z_getZ c_34_19 sp_2 (by decide) rfl rfl ?_
    refine z_if_ne c_34_22 (by unfold aRg; omega) (fun h2_ => ?_) (fun h2_ => ?_)
    · refine z_retv c_34_62 ?_
      first
      | (rw [rd7f (by omega)] at k; exact k)
      | (exfalso; omega)
    · refine w_aload c_34_25 rfl ?_
      refine wc_42 c_34_26 sp_2 (Nat.le_of_ble_eq_true rfl) (by omega) ?_
      refine ts_next hs hK h ?_
      refine r_i ?_
      refine z_push c_34_29 ?_
      refine z_ic_ne c_34_32 (by unfold aRg; omega) (by unfold aRg; omega) (fun h3_ => ?_) (fun h3_ => ?_)
      · refine z_retv c_34_62 ?_
        first
        | (rw [rd7f (by omega)] at k; exact k)
        | (exfalso; omega)
      · refine w_aload c_34_35 rfl ?_
        refine w_dup c_34_36 rfl ?_
        refine z_getZ c_34_37 sp_2 (by decide) rfl rfl ?_
        refine z_push c_34_40 ?_
        refine z_iadd c_34_41 ?_
        refine z_putZ c_34_42 sp_2 (by decide) rfl ?_
        rw [oS_I]
        refine w_aload c_34_45 rfl ?_
        refine wc_35 c_34_46 sp_2 (Nat.le_of_ble_eq_true rfl) (by omega) ?_
        have gi : rG n 1 S (rI S) := rI_g h (by omega)
        have gib := gi
        unfold rG gS at gib
        have gia : (rI S).a = S.a + 1 := rfl
        have r2 : rG n 1 (rI S) (rd K PL SZ rl g 5 (rI S)) := rd_g (kB_K hK) g 5 _ gi.1 (by decide) (by simp only [rk]; omega)
        have r2b := r2
        unfold rG gS at r2b
        refine hP _ _ _ gi.1 (by omega) (by omega) ?_
        refine r_v ?_
        refine w_aload c_34_49 rfl ?_
        refine w_getR c_34_50 sp_2 (by decide) rfl pr_2_3 ?_
        refine z_push c_34_53 ?_
        refine wc_74 c_34_56 (sm_0 hs) (Nat.le_of_ble_eq_true rfl) (by omega) ?_
        have r3 : rG n 0 (rd K PL SZ rl g 5 (rI S)) (rP 327 (rd K PL SZ rl g 5 (rI S))) := rP_g r2.1
        have r3b := r3
        unfold rG gS at r3b
        refine ts_put hs r2.1 ?_
        refine r_v ?_
        refine w_goto c_34_59 ?_
        rw [rd7t (by omega)] at k
        exact hT _ _ _ r3.1 (by omega) (by omega) k

theorem rd9t {g : Nat} {rl : Int} {K PL SZ : Int → Int} {S : Rs} (h : S.f = 0 ∧ K S.a = 326) : rd K PL SZ rl (g + 1) 9 S = rd K PL SZ rl g 9 (rP 326 (rd K PL SZ rl g 6 (rI S))) := if_pos h
theorem rd9f {g : Nat} {rl : Int} {K PL SZ : Int → Int} {S : Rs} (h : ¬ (S.f = 0 ∧ K S.a = 326)) : rd K PL SZ rl (g + 1) 9 S = S := if_neg h
set_option maxHeartbeats 1000000 in
theorem cs_8 {s : Nat} {I : aFI} {L : aFL} {n rl : Int} {K PL SZ : Int → Int} {sh : Nat} (hs : aSm s) (hK : kB I n K PL SZ) {g : Nat} (hP : cC s I L n rl K PL SZ sh g 34 0 6 [.ref 2] 5 5) (hT : cC s I L n rl K PL SZ sh g 33 4 9 [.ref 2] 0 6) : cC s I L n rl K PL SZ sh (g + 1) 33 0 8 [.ref 2] 6 6 := by
  intro d S Q h hg hd k
  have hn := hK.2.2.1
  have hk := hK.2.2.2 _ h.1.1 h.1.2
  have hb := h
  unfold gS at hb
  refine w_aload c_33_0 rfl ?_
  refine wc_34 c_33_1 sp_2 (Nat.le_of_ble_eq_true rfl) (by omega) ?_
  have r1 : rG n 1 S (rd K PL SZ rl g 6 S) := rd_g (kB_K hK) g 6 _ h (by decide) (by simp only [rk]; omega)
  have r1b := r1
  unfold rG gS at r1b
  refine hP _ _ _ h (by omega) (by omega) ?_
  refine r_v ?_
  exact hT _ _ _ r1.1 (by omega) (by omega) k

set_option maxHeartbeats 1000000 in
theorem cs_9 {s : Nat} {I : aFI} {L : aFL} {n rl : Int} {K PL SZ : Int → Int} {sh : Nat} (hs : aSm s) (hK : kB I n K PL SZ) {g : Nat} (hP : cC s I L n rl K PL SZ sh g 34 0 6 [.ref 2] 5 5) (hT : cC s I L n rl K PL SZ sh g 33 4 9 [.ref 2] 0 6) : cC s I L n rl K PL SZ sh (g + 1) 33 4 9 [.ref 2] 0 6 := by
  intro d S Q h hg hd k
  have hn := hK.2.2.1
  have hk := hK.2.2.2 _ h.1.1 h.1.2
  have hb := h
  unfold gS at hb
  refine w_aload c_33_4 rfl ?_
  refine z_getZ c_33_5 sp_2 (by decide) rfl rfl ?_
  refine w_aload c_33_8 rfl ?_
  refine w_getR c_33_9 sp_2 (by decide) rfl pr_2_1 ?_
  refine z_getZ c_33_12 sp_3 (by decide) rfl (oS_n hs hK) ?_
  refine z_ic_ge c_33_15 (by unfold aRg; omega) (by unfold aRg; omega) (fun h1_ => ?_) (fun h1_ => ?_)
  · refine z_retv c_33_62 ?_
    first
    | (rw [rd9f (by omega)] at k; exact k)
    | (exfalso; omega)
  · refine w_aload c_33_18 rfl ?_
    refine z_getZ c_33_19 sp_2 (by decide) rfl rfl ?_
    refine z_if_ne c_33_22 (by unfold aRg; omega) (fun h2_ => ?_) (fun h2_ => ?_)
    · refine z_retv c_33_62 ?_
      first
      | (rw [rd9f (by omega)] at k; exact k)
      | (exfalso; omega)
    · refine w_aload c_33_25 rfl ?_
      refine wc_42 c_33_26 sp_2 (Nat.le_of_ble_eq_true rfl) (by omega) ?_
      refine ts_next hs hK h ?_
      refine r_i ?_
      refine z_push c_33_29 ?_
      refine z_ic_ne c_33_32 (by unfold aRg; omega) (by unfold aRg; omega) (fun h3_ => ?_) (fun h3_ => ?_)
      · refine z_retv c_33_62 ?_
        first
        | (rw [rd9f (by omega)] at k; exact k)
        | (exfalso; omega)
      · refine w_aload c_33_35 rfl ?_
        refine w_dup c_33_36 rfl ?_
        refine z_getZ c_33_37 sp_2 (by decide) rfl rfl ?_
        refine z_push c_33_40 ?_
        refine z_iadd c_33_41 ?_
        refine z_putZ c_33_42 sp_2 (by decide) rfl ?_
        rw [oS_I]
        refine w_aload c_33_45 rfl ?_
        refine wc_34 c_33_46 sp_2 (Nat.le_of_ble_eq_true rfl) (by omega) ?_
        have gi : rG n 1 S (rI S) := rI_g h (by omega)
        have gib := gi
        unfold rG gS at gib
        have gia : (rI S).a = S.a + 1 := rfl
        have r2 : rG n 1 (rI S) (rd K PL SZ rl g 6 (rI S)) := rd_g (kB_K hK) g 6 _ gi.1 (by decide) (by simp only [rk]; omega)
        have r2b := r2
        unfold rG gS at r2b
        refine hP _ _ _ gi.1 (by omega) (by omega) ?_
        refine r_v ?_
        refine w_aload c_33_49 rfl ?_
        refine w_getR c_33_50 sp_2 (by decide) rfl pr_2_3 ?_
        refine z_push c_33_53 ?_
        refine wc_74 c_33_56 (sm_0 hs) (Nat.le_of_ble_eq_true rfl) (by omega) ?_
        have r3 : rG n 0 (rd K PL SZ rl g 6 (rI S)) (rP 326 (rd K PL SZ rl g 6 (rI S))) := rP_g r2.1
        have r3b := r3
        unfold rG gS at r3b
        refine ts_put hs r2.1 ?_
        refine r_v ?_
        refine w_goto c_33_59 ?_
        rw [rd9t (by omega)] at k
        exact hT _ _ _ r3.1 (by omega) (by omega) k

