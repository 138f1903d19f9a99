/-! the reference: its reader (m2.py) -/
set_option maxHeartbeats 1000000 in
theorem t_look {d : Nat} {I : aFI} {L : aFL} {Q : aPo} {T : Int → Int} {e a en b bp np nm : Int} (hB : oB I T e) (h0 : 0 ≤ a) (h1 : a ≤ e) {sh : Nat} {su : Option Nat} (k : Q (some (.int (iI (lkc T e (skip T e a))))) (oP I (skip T e a) en b bp np nm) L (aR sh su)) : aWp none d 136 0 [.ref 157] [] (oP I a en b bp np nm) L (aR sh su) Q := by
  suffices H : ∀ (n : Nat) (a : Int), (e - a).toNat < n → 0 ≤ a → a ≤ e → Q (some (.int (iI (lkc T e (skip T e a))))) (oP I (skip T e a) en b bp np nm) L (aR sh su) → aWp none d 136 0 [.ref 157] [] (oP I a en b bp np nm) L (aR sh su) Q from H _ a (Nat.lt_succ_self _) h0 h1 k
  clear k h0 h1
  intro n
  induction n with
  | zero => intro a h; omega
  | succ n ih =>
    intro a hn h0 h1 k
    have he := hB.2.2.1
    have hT := hB.2.2.2 a
    refine w_aload c_136_0 rfl ?_
    refine z_getZ c_136_1 sp_157 (by decide) rfl rfl ?_
    refine w_aload c_136_4 rfl ?_
    refine z_getZ c_136_5 sp_157 (by decide) rfl hB.1 ?_
    refine z_ic_ge c_136_8 (by unfold aRg; omega) (by unfold aRg; omega) (fun h1_ => ?_) (fun h1_ => ?_)
    · refine w_aload c_136_52 rfl ?_
      refine z_getZ c_136_53 sp_157 (by decide) rfl rfl ?_
      refine w_aload c_136_56 rfl ?_
      refine z_getZ c_136_57 sp_157 (by decide) rfl hB.1 ?_
      refine z_ic_ge c_136_60 (by unfold aRg; omega) (by unfold aRg; omega) (fun h2_ => ?_) (fun h2_ => ?_)
      · refine z_push c_136_75 ?_
        refine z_ret c_136_76 rfl ?_
        have h9 : skip T e a = a := skip_stop (by omega)
        rw [h9, lkc, if_neg (by omega)] at k
        exact k
      · refine w_aload c_136_63 rfl ?_
        refine w_getR c_136_64 sp_157 (by decide) rfl pr_157_0 ?_
        refine w_aload c_136_67 rfl ?_
        refine z_getZ c_136_68 sp_157 (by decide) rfl rfl ?_
        refine z_iaload c_136_71 sp_158 (by omega) (by decide) (hB.2.1 _ (by omega) (by omega)) ?_
        refine w_goto c_136_72 ?_
        refine z_ret c_136_76 rfl ?_
        have h9 : skip T e a = a := skip_stop (by omega)
        rw [h9, lkc, if_pos (by omega)] at k
        exact k
    · refine w_aload c_136_11 rfl ?_
      refine w_getR c_136_12 sp_157 (by decide) rfl pr_157_0 ?_
      refine w_aload c_136_15 rfl ?_
      refine z_getZ c_136_16 sp_157 (by decide) rfl rfl ?_
      refine z_iaload c_136_19 sp_158 (by omega) (by decide) (hB.2.1 _ (by omega) (by omega)) ?_
      refine z_push c_136_20 ?_
      refine z_ic_eq c_136_22 (by unfold aRg; omega) (by unfold aRg; omega) (fun h3_ => ?_) (fun h3_ => ?_)
      · refine w_aload c_136_39 rfl ?_
        refine w_dup c_136_40 rfl ?_
        refine z_getZ c_136_41 sp_157 (by decide) rfl rfl ?_
        refine z_push c_136_44 ?_
        refine z_iadd c_136_45 ?_
        refine z_putZ c_136_46 sp_157 (by decide) rfl ?_
        rw [oP_at]
        refine w_goto c_136_49 ?_
        refine ih (a + 1) (by omega) (by omega) (by omega) ?_
        rw [← skip_step (by omega)]
        exact k
      · refine w_aload c_136_25 rfl ?_
        refine w_getR c_136_26 sp_157 (by decide) rfl pr_157_0 ?_
        refine w_aload c_136_29 rfl ?_
        refine z_getZ c_136_30 sp_157 (by decide) rfl rfl ?_
        refine z_iaload c_136_33 sp_158 (by omega) (by decide) (hB.2.1 _ (by omega) (by omega)) ?_
        refine z_push c_136_34 ?_
        refine z_ic_ne c_136_36 (by unfold aRg; omega) (by unfold aRg; omega) (fun h4_ => ?_) (fun h4_ => ?_)
        · refine w_aload c_136_52 rfl ?_
          refine z_getZ c_136_53 sp_157 (by decide) rfl rfl ?_
          refine w_aload c_136_56 rfl ?_
          refine z_getZ c_136_57 sp_157 (by decide) rfl hB.1 ?_
          refine z_ic_ge c_136_60 (by unfold aRg; omega) (by unfold aRg; omega) (fun h5_ => ?_) (fun h5_ => ?_)
          · refine z_push c_136_75 ?_
            refine z_ret c_136_76 rfl ?_
            have h9 : skip T e a = a := skip_stop (by omega)
            rw [h9, lkc, if_neg (by omega)] at k
            exact k
          · refine w_aload c_136_63 rfl ?_
            refine w_getR c_136_64 sp_157 (by decide) rfl pr_157_0 ?_
            refine w_aload c_136_67 rfl ?_
            refine z_getZ c_136_68 sp_157 (by decide) rfl rfl ?_
            refine z_iaload c_136_71 sp_158 (by omega) (by decide) (hB.2.1 _ (by omega) (by omega)) ?_
            refine w_goto c_136_72 ?_
            refine z_ret c_136_76 rfl ?_
            have h9 : skip T e a = a := skip_stop (by omega)
            rw [h9, lkc, if_pos (by omega)] at k
            exact k
        · refine w_aload c_136_39 rfl ?_
          refine w_dup c_136_40 rfl ?_
          refine z_getZ c_136_41 sp_157 (by decide) rfl rfl ?_
          refine z_push c_136_44 ?_
          refine z_iadd c_136_45 ?_
          refine z_putZ c_136_46 sp_157 (by decide) rfl ?_
          rw [oP_at]
          refine w_goto c_136_49 ?_
          refine ih (a + 1) (by omega) (by omega) (by omega) ?_
          rw [← skip_step (by omega)]
          exact k
  
set_option maxHeartbeats 1000000 in
theorem t_fail {d : Nat} {I : aFI} {L : aFL} {Q : aPo} {a en b bp np nm x z : Int} (hb : aRg b) {sh : Nat} {su : Option Nat} (k1 : ¬ b = 0 → Q none (oP I a en b bp np nm) L (aR sh su)) (k2 : b = 0 → Q none (oP I a en x z np nm) L (aR sh su)) : aWp none d 133 0 [.ref 157, .int (iI x), .int (iI z)] [] (oP I a en b bp np nm) L (aR sh su) Q := by
  refine w_aload c_133_0 rfl ?_
  refine z_getZ c_133_1 sp_157 (by decide) rfl rfl ?_
  refine z_if_eq c_133_4 hb (fun h1_ => ?_) (fun h1_ => ?_)
  · refine w_aload c_133_8 rfl ?_
    refine w_iload c_133_9 rfl ?_
    refine z_putZ c_133_10 sp_157 (by decide) rfl ?_
    rw [oP_bad]
    refine w_aload c_133_13 rfl ?_
    refine w_iload c_133_14 rfl ?_
    refine z_putZ c_133_15 sp_157 (by decide) rfl ?_
    rw [oP_bp]
    refine z_retv c_133_18 ?_
    first | exact k1 (by omega) | exact k2 (by omega)
  · refine z_retv c_133_7 ?_
    first | exact k1 (by omega) | exact k2 (by omega)

