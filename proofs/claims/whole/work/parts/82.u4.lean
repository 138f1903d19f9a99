/-! both sides: kept, octet, status, fault, outflow, end, feed (p82.py) -/
set_option maxHeartbeats 1000000 in
theorem tc_kept {d : Nat} {I : aFI} {L : aFL} {Q : aPo} {sh : Nat} {su : Option Nat} {K : Int → Int → Int} {s b g w kc k v : Int} {ink age : Int → Int} (hL : isLk I 36 s b g w kc ink age) (rk : -2147483648 ≤ k ∧ k < 2147483648) (rv : -2147483648 ≤ v ∧ v < 2147483648) (hk0 : 0 ≤ kc ∧ kc ≤ 40) (hK : kpC I K kc) (kk : Q (some (.int (iI (keptZ K kc k v)))) I L (aR sh su)) : aWp none d 85 0 [.ref 0, .int (iI k), .int (iI v)] [] I L (aR sh su) Q := by
  refine w_iload c_85_0 rfl ?_
  refine z_if_lt c_85_1 (by first | exact aRg_of _ | (unfold aRg; omega)) (fun h1_ => ?_) (fun h1_ => ?_)
  · refine z_push c_85_24 ?_
    refine z_ret c_85_25 rfl ?_
    refine q_i kk ?_
    unfold keptZ
    (repeat (first | rw [if_pos (by omega)] | rw [if_neg (by omega)]))
  · refine w_iload c_85_4 rfl ?_
    refine w_aload c_85_5 rfl ?_
    refine w_getR c_85_6 sp_0 (by decide) rfl pr_0_5 ?_
    refine z_getZ c_85_9 sp_36 (by decide) rfl hL.2.2.2.2.1 ?_
    refine z_ic_ge c_85_12 (by first | exact aRg_of _ | (unfold aRg; omega)) (by first | exact aRg_of _ | (unfold aRg; omega)) (fun h2_ => ?_) (fun h2_ => ?_)
    · refine z_push c_85_24 ?_
      refine z_ret c_85_25 rfl ?_
      refine q_i kk ?_
      unfold keptZ
      (repeat (first | rw [if_pos (by omega)] | rw [if_neg (by omega)]))
    · refine w_iload c_85_15 rfl ?_
      refine z_if_lt c_85_16 (by first | exact aRg_of _ | (unfold aRg; omega)) (fun h3_ => ?_) (fun h3_ => ?_)
      · refine z_push c_85_24 ?_
        refine z_ret c_85_25 rfl ?_
        refine q_i kk ?_
        unfold keptZ
        (repeat (first | rw [if_pos (by omega)] | rw [if_neg (by omega)]))
      · refine w_iload c_85_19 rfl ?_
        refine z_push c_85_20 ?_
        refine z_ic_lt c_85_21 (by first | exact aRg_of _ | (unfold aRg; omega)) (by first | exact aRg_of _ | (unfold aRg; omega)) (fun h4_ => ?_) (fun h4_ => ?_)
        · refine w_aload c_85_26 rfl ?_
          refine w_getR c_85_27 sp_0 (by decide) rfl pr_0_11 ?_
          refine w_iload c_85_30 rfl ?_
          obtain ⟨kr, hkr⟩ : ∃ r : Nat, r = 115 + k.toNat := ⟨_, rfl⟩
          have hrow := kp_row (sh := sh) (su := su) k.toNat (by omega)
          have hks : S0[kr]? = some (some .int, 4) := by rw [hkr]; exact hrow.1
          refine z_aaload_i c_85_31 sp_114 (by omega) (by decide) (hrow.2.trans (congrArg some hkr.symm)) ?_
          refine w_iload c_85_32 rfl ?_
          refine z_iaload c_85_33 hks (by omega) (by first | decide | omega) (by rw [hkr]; exact hK k v (by omega) (by omega) (by omega) (by omega)) ?_
          refine z_ret c_85_34 rfl ?_
          refine q_i kk ?_
          unfold keptZ
          (repeat (first | rw [if_pos (by omega)] | rw [if_neg (by omega)]))
        · refine z_push c_85_24 ?_
          refine z_ret c_85_25 rfl ?_
          refine q_i kk ?_
          unfold keptZ
          (repeat (first | rw [if_pos (by omega)] | rw [if_neg (by omega)]))

def octZ (P : Int → Int) (n k : Int) : Int := if 0 ≤ k ∧ k < n then P k else -1
set_option maxHeartbeats 1000000 in
theorem t_octet {d : Nat} {I : aFI} {L : aFL} {Q : aPo} {sh : Nat} {su : Option Nat} {P : Int → Int} {n k : Int} (rk : -2147483648 ≤ k ∧ k < 2147483648) (hn : I 157 108 = iI n) (hn0 : 0 ≤ n ∧ n ≤ 39) (hP : ∀ j : Int, 0 ≤ j → j < n → I 235 j.toNat = iI (P j)) (kk : Q (some (.int (iI (octZ P n k)))) I L (aR sh su)) : aWp none d 251 0 [.ref 157, .int (iI k)] [] I L (aR sh su) Q := by
  refine w_iload c_251_0 rfl ?_
  refine z_if_lt c_251_1 (by first | exact aRg_of _ | (unfold aRg; omega)) (fun h1_ => ?_) (fun h1_ => ?_)
  · refine z_push c_251_21 ?_
    refine z_ret c_251_22 rfl ?_
    refine q_i kk ?_
    unfold octZ
    (repeat (first | rw [if_pos (by omega)] | rw [if_neg (by omega)]))
  · refine w_iload c_251_4 rfl ?_
    refine w_aload c_251_5 rfl ?_
    refine z_getZ c_251_6 sp_157 (by decide) rfl hn ?_
    refine z_ic_ge c_251_9 (by first | exact aRg_of _ | (unfold aRg; omega)) (by first | exact aRg_of _ | (unfold aRg; omega)) (fun h2_ => ?_) (fun h2_ => ?_)
    · refine z_push c_251_21 ?_
      refine z_ret c_251_22 rfl ?_
      refine q_i kk ?_
      unfold octZ
      (repeat (first | rw [if_pos (by omega)] | rw [if_neg (by omega)]))
    · refine w_aload c_251_12 rfl ?_
      refine w_getR c_251_13 sp_157 (by decide) rfl pr_157_107 ?_
      refine w_iload c_251_16 rfl ?_
      refine z_iaload c_251_17 sp_235 (by omega) (by first | decide | omega) (hP k (by omega) (by omega)) ?_
      refine w_goto c_251_18 ?_
      refine z_ret c_251_22 rfl ?_
      refine q_i kk ?_
      unfold octZ
      (repeat (first | rw [if_pos (by omega)] | rw [if_neg (by omega)]))

set_option maxHeartbeats 1000000 in
theorem tc_octet {d : Nat} {I : aFI} {L : aFL} {Q : aPo} {sh : Nat} {su : Option Nat} {P : Int → Int} {n k : Int} (rk : -2147483648 ≤ k ∧ k < 2147483648) (hn : I 0 13 = iI n) (hn0 : 0 ≤ n ∧ n ≤ 39) (hP : ∀ j : Int, 0 ≤ j → j < n → I 155 j.toNat = iI (P j)) (kk : Q (some (.int (iI (octZ P n k)))) I L (aR sh su)) : aWp none d 105 0 [.ref 0, .int (iI k)] [] I L (aR sh su) Q := by
  refine w_iload c_105_0 rfl ?_
  refine z_if_lt c_105_1 (by first | exact aRg_of _ | (unfold aRg; omega)) (fun h1_ => ?_) (fun h1_ => ?_)
  · refine z_push c_105_12 ?_
    refine w_goto c_105_13 ?_
    refine z_ret c_105_22 rfl ?_
    refine q_i kk ?_
    unfold octZ
    (repeat (first | rw [if_pos (by omega)] | rw [if_neg (by omega)]))
  · refine w_iload c_105_4 rfl ?_
    refine w_aload c_105_5 rfl ?_
    refine z_getZ c_105_6 sp_0 (by decide) rfl hn ?_
    refine z_ic_lt c_105_9 (by first | exact aRg_of _ | (unfold aRg; omega)) (by first | exact aRg_of _ | (unfold aRg; omega)) (fun h2_ => ?_) (fun h2_ => ?_)
    · refine w_aload c_105_16 rfl ?_
      refine w_getR c_105_17 sp_0 (by decide) rfl pr_0_12 ?_
      refine w_iload c_105_20 rfl ?_
      refine z_iaload c_105_21 sp_155 (by omega) (by first | decide | omega) (hP k (by omega) (by omega)) ?_
      refine z_ret c_105_22 rfl ?_
      refine q_i kk ?_
      unfold octZ
      (repeat (first | rw [if_pos (by omega)] | rw [if_neg (by omega)]))
    · refine z_push c_105_12 ?_
      refine w_goto c_105_13 ?_
      refine z_ret c_105_22 rfl ?_
      refine q_i kk ?_
      unfold octZ
      (repeat (first | rw [if_pos (by omega)] | rw [if_neg (by omega)]))

def staZ (f : Nat → Int32) (k : Int) : Int := if 0 ≤ k ∧ k ≤ 5 then (f k.toNat).toInt else -1
set_option maxHeartbeats 1000000 in
theorem t_status {d : Nat} {I : aFI} {L : aFL} {Q : aPo} {sh : Nat} {su : Option Nat} {v : Int} (rv : -2147483648 ≤ v ∧ v < 2147483648) (hd : 1 ≤ d) (k : Q (some (.int (iI (staZ (I 159) v)))) I L (aR sh su)) : aWp none d 256 0 [.ref 157, .int (iI v)] [] I L (aR sh su) Q := by
  refine w_iload c_256_0 rfl ?_
  refine z_i2l c_256_1 (by first | exact aRg_of _ | (unfold aRg; omega)) ?_
  refine z_pushl c_256_2 ?_
  refine z_pushl c_256_3 ?_
  refine wc_130 c_256_6 (Nat.le_of_ble_eq_true rfl) (by omega) ?_
  refine t_isIn (by first | exact aRl_of _ | (unfold aRl; omega)) (by first | exact aRl_of _ | (unfold aRl; omega)) (by first | exact aRl_of _ | (unfold aRl; omega)) ?_
  refine r_i ?_
  refine b_if_eq c_256_9 (fun h1_ => ?_) (fun h1_ => ?_)
  · have hv := of_decide_eq_false h1_
    refine z_push c_256_21 ?_
    refine z_ret c_256_22 rfl ?_
    refine q_i k ?_
    unfold staZ
    (repeat (first | rw [if_pos (by omega)] | rw [if_neg (by omega)]))
  · have hv := of_decide_eq_true h1_
    refine w_aload c_256_12 rfl ?_
    refine w_getR c_256_13 sp_157 (by decide) rfl pr_157_9 ?_
    refine w_iload c_256_16 rfl ?_
    refine z_iaload c_256_17 sp_159 (by omega) (by first | decide | omega) (iI_of _) ?_
    refine w_goto c_256_18 ?_
    refine z_ret c_256_22 rfl ?_
    refine q_i k ?_
    unfold staZ
    (repeat (first | rw [if_pos (by omega)] | rw [if_neg (by omega)]))

set_option maxHeartbeats 1000000 in
theorem tc_status {d : Nat} {I : aFI} {L : aFL} {Q : aPo} {sh : Nat} {su : Option Nat} {v : Int} (rv : -2147483648 ≤ v ∧ v < 2147483648) (k : Q (some (.int (iI (staZ (I 156) v)))) I L (aR sh su)) : aWp none d 107 0 [.ref 0, .int (iI v)] [] I L (aR sh su) Q := by
  refine w_iload c_107_0 rfl ?_
  refine z_if_lt c_107_1 (by first | exact aRg_of _ | (unfold aRg; omega)) (fun h1_ => ?_) (fun h1_ => ?_)
  · refine z_push c_107_10 ?_
    refine w_goto c_107_11 ?_
    refine z_ret c_107_20 rfl ?_
    refine q_i k ?_
    unfold staZ
    (repeat (first | rw [if_pos (by omega)] | rw [if_neg (by omega)]))
  · refine w_iload c_107_4 rfl ?_
    refine z_push c_107_5 ?_
    refine z_ic_lt c_107_7 (by first | exact aRg_of _ | (unfold aRg; omega)) (by first | exact aRg_of _ | (unfold aRg; omega)) (fun h2_ => ?_) (fun h2_ => ?_)
    · refine w_aload c_107_14 rfl ?_
      refine w_getR c_107_15 sp_0 (by decide) rfl pr_0_16 ?_
      refine w_iload c_107_18 rfl ?_
      refine z_iaload c_107_19 sp_156 (by omega) (by first | decide | omega) (iI_of _) ?_
      refine z_ret c_107_20 rfl ?_
      refine q_i k ?_
      unfold staZ
      (repeat (first | rw [if_pos (by omega)] | rw [if_neg (by omega)]))
    · refine z_push c_107_10 ?_
      refine w_goto c_107_11 ?_
      refine z_ret c_107_20 rfl ?_
      refine q_i k ?_
      unfold staZ
      (repeat (first | rw [if_pos (by omega)] | rw [if_neg (by omega)]))

def twoZ (a b : Int32) (k : Int) : Int := if k = 0 then a.toInt else if k = 1 then b.toInt else -1
set_option maxHeartbeats 1000000 in
theorem t_fault {d : Nat} {I : aFI} {L : aFL} {Q : aPo} {sh : Nat} {su : Option Nat} {v : Int} (rv : -2147483648 ≤ v ∧ v < 2147483648) (k : Q (some (.int (iI (twoZ (I 157 7) (I 157 8) v)))) I L (aR sh su)) : aWp none d 158 0 [.ref 157, .int (iI v)] [] I L (aR sh su) Q := by
  refine w_iload c_158_0 rfl ?_
  refine z_if_ne c_158_1 (by first | exact aRg_of _ | (unfold aRg; omega)) (fun h1_ => ?_) (fun h1_ => ?_)
  · refine w_iload c_158_11 rfl ?_
    refine z_push c_158_12 ?_
    refine z_ic_ne c_158_13 (by first | exact aRg_of _ | (unfold aRg; omega)) (by first | exact aRg_of _ | (unfold aRg; omega)) (fun h2_ => ?_) (fun h2_ => ?_)
    · refine z_push c_158_23 ?_
      refine z_ret c_158_24 rfl ?_
      refine q_i k ?_
      try subst h1_
      unfold twoZ
      (repeat (first | rw [if_pos (by omega)] | rw [if_neg (by omega)]))
    · refine w_aload c_158_16 rfl ?_
      refine z_getZ c_158_17 sp_157 (by decide) rfl (iI_of _) ?_
      refine w_goto c_158_20 ?_
      refine z_ret c_158_24 rfl ?_
      refine q_i k ?_
      try subst h1_
      unfold twoZ
      (repeat (first | rw [if_pos (by omega)] | rw [if_neg (by omega)]))
  · refine w_aload c_158_4 rfl ?_
    refine z_getZ c_158_5 sp_157 (by decide) rfl (iI_of _) ?_
    refine w_goto c_158_8 ?_
    refine z_ret c_158_24 rfl ?_
    refine q_i k ?_
    try subst h1_
    unfold twoZ
    (repeat (first | rw [if_pos (by omega)] | rw [if_neg (by omega)]))

set_option maxHeartbeats 1000000 in
theorem tc_fault {d : Nat} {I : aFI} {L : aFL} {Q : aPo} {sh : Nat} {su : Option Nat} {v : Int} (rv : -2147483648 ≤ v ∧ v < 2147483648) (k : Q (some (.int (iI (twoZ (I 2 7) (I 2 8) v)))) I L (aR sh su)) : aWp none d 79 0 [.ref 0, .int (iI v)] [] I L (aR sh su) Q := by
  refine w_iload c_79_0 rfl ?_
  rcases (show (v = 0) ∨ (v = 1) ∨ (¬ v = 0 ∧ ¬ v = 1) by omega) with h1_ | h1_ | h1_
  · refine z_lsw c_79_1 (by first | exact aRg_of _ | (unfold aRg; omega)) (pc2 := 28) (by rcases h1_ with rfl <;> rfl) ?_
    refine w_aload c_79_28 rfl ?_
    refine w_getR c_79_29 sp_0 (by decide) rfl pr_0_2 ?_
    refine z_getZ c_79_32 sp_2 (by decide) rfl (iI_of _) ?_
    refine z_ret c_79_35 rfl ?_
    refine q_i k ?_
    try subst h1_
    unfold twoZ
    (repeat (first | rw [if_pos (by omega)] | rw [if_neg (by omega)]))
  · refine z_lsw c_79_1 (by first | exact aRg_of _ | (unfold aRg; omega)) (pc2 := 36) (by rcases h1_ with rfl <;> rfl) ?_
    refine w_aload c_79_36 rfl ?_
    refine w_getR c_79_37 sp_0 (by decide) rfl pr_0_2 ?_
    refine z_getZ c_79_40 sp_2 (by decide) rfl (iI_of _) ?_
    refine z_ret c_79_43 rfl ?_
    refine q_i k ?_
    try subst h1_
    unfold twoZ
    (repeat (first | rw [if_pos (by omega)] | rw [if_neg (by omega)]))
  · refine z_lsw c_79_1 (by first | exact aRg_of _ | (unfold aRg; omega)) (pc2 := 44) (by simp only [aLks]; repeat (first | rw [if_neg (by omega)] | rfl)) ?_
    refine z_push c_79_44 ?_
    refine z_ret c_79_45 rfl ?_
    refine q_i k ?_
    try subst h1_
    unfold twoZ
    (repeat (first | rw [if_pos (by omega)] | rw [if_neg (by omega)]))

set_option maxHeartbeats 1000000 in
theorem t_outflow {d : Nat} {I : aFI} {L : aFL} {Q : aPo} {sh : Nat} {su : Option Nat} {v : Int} (rv : -2147483648 ≤ v ∧ v < 2147483648) (k : Q (some (.int (iI (twoZ (I 157 67) (I 157 68) v)))) I L (aR sh su)) : aWp none d 207 0 [.ref 157, .int (iI v)] [] I L (aR sh su) Q := by
  refine w_iload c_207_0 rfl ?_
  refine z_if_ne c_207_1 (by first | exact aRg_of _ | (unfold aRg; omega)) (fun h1_ => ?_) (fun h1_ => ?_)
  · refine w_iload c_207_11 rfl ?_
    refine z_push c_207_12 ?_
    refine z_ic_ne c_207_13 (by first | exact aRg_of _ | (unfold aRg; omega)) (by first | exact aRg_of _ | (unfold aRg; omega)) (fun h2_ => ?_) (fun h2_ => ?_)
    · refine z_push c_207_23 ?_
      refine z_ret c_207_24 rfl ?_
      refine q_i k ?_
      try subst h1_
      unfold twoZ
      (repeat (first | rw [if_pos (by omega)] | rw [if_neg (by omega)]))
    · refine w_aload c_207_16 rfl ?_
      refine z_getZ c_207_17 sp_157 (by decide) rfl (iI_of _) ?_
      refine w_goto c_207_20 ?_
      refine z_ret c_207_24 rfl ?_
      refine q_i k ?_
      try subst h1_
      unfold twoZ
      (repeat (first | rw [if_pos (by omega)] | rw [if_neg (by omega)]))
  · refine w_aload c_207_4 rfl ?_
    refine z_getZ c_207_5 sp_157 (by decide) rfl (iI_of _) ?_
    refine w_goto c_207_8 ?_
    refine z_ret c_207_24 rfl ?_
    refine q_i k ?_
    try subst h1_
    unfold twoZ
    (repeat (first | rw [if_pos (by omega)] | rw [if_neg (by omega)]))

set_option maxHeartbeats 1000000 in
theorem tc_outflow {d : Nat} {I : aFI} {L : aFL} {Q : aPo} {sh : Nat} {su : Option Nat} {v : Int} (rv : -2147483648 ≤ v ∧ v < 2147483648) (k : Q (some (.int (iI (twoZ (I 0 14) (I 0 15) v)))) I L (aR sh su)) : aWp none d 95 0 [.ref 0, .int (iI v)] [] I L (aR sh su) Q := by
  refine w_iload c_95_0 rfl ?_
  rcases (show (v = 0) ∨ (v = 1) ∨ (¬ v = 0 ∧ ¬ v = 1) by omega) with h1_ | h1_ | h1_
  · refine z_lsw c_95_1 (by first | exact aRg_of _ | (unfold aRg; omega)) (pc2 := 28) (by rcases h1_ with rfl <;> rfl) ?_
    refine w_aload c_95_28 rfl ?_
    refine z_getZ c_95_29 sp_0 (by decide) rfl (iI_of _) ?_
    refine z_ret c_95_32 rfl ?_
    refine q_i k ?_
    try subst h1_
    unfold twoZ
    (repeat (first | rw [if_pos (by omega)] | rw [if_neg (by omega)]))
  · refine z_lsw c_95_1 (by first | exact aRg_of _ | (unfold aRg; omega)) (pc2 := 33) (by rcases h1_ with rfl <;> rfl) ?_
    refine w_aload c_95_33 rfl ?_
    refine z_getZ c_95_34 sp_0 (by decide) rfl (iI_of _) ?_
    refine z_ret c_95_37 rfl ?_
    refine q_i k ?_
    try subst h1_
    unfold twoZ
    (repeat (first | rw [if_pos (by omega)] | rw [if_neg (by omega)]))
  · refine z_lsw c_95_1 (by first | exact aRg_of _ | (unfold aRg; omega)) (pc2 := 38) (by simp only [aLks]; repeat (first | rw [if_neg (by omega)] | rfl)) ?_
    refine z_push c_95_38 ?_
    refine z_ret c_95_39 rfl ?_
    refine q_i k ?_
    try subst h1_
    unfold twoZ
    (repeat (first | rw [if_pos (by omega)] | rw [if_neg (by omega)]))

set_option maxHeartbeats 1000000 in
theorem t_end {d : Nat} {I : aFI} {L : aFL} {Q : aPo} {sh : Nat} {su : Option Nat} {n v : Int} (rv : -2147483648 ≤ v ∧ v < 2147483648) (hn : I 157 1 = iI n) (hn0 : 0 ≤ n ∧ n ≤ 1600) (k1 : 0 ≤ v ∧ v ≤ n → Q (some (.int (aBo true))) (aUp I 157 1 (iI v)) L (aR sh su)) (k2 : ¬ (0 ≤ v ∧ v ≤ n) → Q (some (.int (aBo false))) (aUp I 159 0 (iI ((I 159 0).toInt + 1))) L (aR sh su)) : aWp none d 132 0 [.ref 157, .int (iI v)] [] I L (aR sh su) Q := by
  refine w_iload c_132_0 rfl ?_
  refine z_if_lt c_132_1 (by first | exact aRg_of _ | (unfold aRg; omega)) (fun h1_ => ?_) (fun h1_ => ?_)
  · refine w_aload c_132_12 rfl ?_
    refine w_getR c_132_13 sp_157 (by decide) rfl pr_157_9 ?_
    refine z_push c_132_16 ?_
    refine w_dup2 c_132_17 rfl rfl ?_
    refine z_iaload c_132_18 sp_159 (by omega) (by first | decide | omega) (iI_of _) ?_
    refine z_push c_132_19 ?_
    refine z_iadd c_132_20 ?_
    refine z_iastore c_132_21 sp_159 (by omega) (by decide) ?_
    refine z_push c_132_22 ?_
    refine z_ret0 c_132_23 rfl ?_
    exact k2 (by omega)
  · refine w_iload c_132_4 rfl ?_
    refine w_aload c_132_5 rfl ?_
    refine z_getZ c_132_6 sp_157 (by decide) rfl hn ?_
    refine z_ic_le c_132_9 (by first | exact aRg_of _ | (unfold aRg; omega)) (by first | exact aRg_of _ | (unfold aRg; omega)) (fun h2_ => ?_) (fun h2_ => ?_)
    · refine w_aload c_132_24 rfl ?_
      refine w_iload c_132_25 rfl ?_
      refine z_putZ c_132_26 sp_157 (by decide) rfl ?_
      refine z_push c_132_29 ?_
      refine z_ret1 c_132_30 rfl ?_
      exact k1 (by omega)
    · refine w_aload c_132_12 rfl ?_
      refine w_getR c_132_13 sp_157 (by decide) rfl pr_157_9 ?_
      refine z_push c_132_16 ?_
      refine w_dup2 c_132_17 rfl rfl ?_
      refine z_iaload c_132_18 sp_159 (by omega) (by first | decide | omega) (iI_of _) ?_
      refine z_push c_132_19 ?_
      refine z_iadd c_132_20 ?_
      refine z_iastore c_132_21 sp_159 (by omega) (by decide) ?_
      refine z_push c_132_22 ?_
      refine z_ret0 c_132_23 rfl ?_
      exact k2 (by omega)

set_option maxHeartbeats 1000000 in
theorem tc_end {d : Nat} {I : aFI} {L : aFL} {Q : aPo} {sh : Nat} {su : Option Nat} {n v : Int} (rv : -2147483648 ≤ v ∧ v < 2147483648) (hn : I 0 1 = iI n) (hn0 : 0 ≤ n ∧ n ≤ 1600) (hd : 1 ≤ d) (k1 : 0 ≤ v ∧ v ≤ n → Q (some (.int (aBo true))) (aUp I 0 1 (iI v)) L (aR sh su)) (k2 : ¬ (0 ≤ v ∧ v ≤ n) → Q (some (.int (aBo false))) (aUp I 156 0 (iI ((I 156 0).toInt + 1))) L (aR sh su)) : aWp none d 77 0 [.ref 0, .int (iI v)] [] I L (aR sh su) Q := by
  refine w_iload c_77_0 rfl ?_
  refine z_if_lt c_77_1 (by first | exact aRg_of _ | (unfold aRg; omega)) (fun h1_ => ?_) (fun h1_ => ?_)
  · refine w_aload c_77_12 rfl ?_
    refine z_push c_77_13 ?_
    refine wc_108 c_77_14 sp_0 (Nat.le_of_ble_eq_true rfl) (by omega) ?_
    refine tc_refuse (by omega) ?_
    refine r_i ?_
    refine w_pop c_77_17 rfl ?_
    refine z_push c_77_18 ?_
    refine z_ret0 c_77_19 rfl ?_
    exact k2 (by omega)
  · refine w_iload c_77_4 rfl ?_
    refine w_aload c_77_5 rfl ?_
    refine z_getZ c_77_6 sp_0 (by decide) rfl hn ?_
    refine z_ic_le c_77_9 (by first | exact aRg_of _ | (unfold aRg; omega)) (by first | exact aRg_of _ | (unfold aRg; omega)) (fun h2_ => ?_) (fun h2_ => ?_)
    · refine w_aload c_77_20 rfl ?_
      refine w_iload c_77_21 rfl ?_
      refine z_putZ c_77_22 sp_0 (by decide) rfl ?_
      refine z_push c_77_25 ?_
      refine z_ret1 c_77_26 rfl ?_
      exact k1 (by omega)
    · refine w_aload c_77_12 rfl ?_
      refine z_push c_77_13 ?_
      refine wc_108 c_77_14 sp_0 (Nat.le_of_ble_eq_true rfl) (by omega) ?_
      refine tc_refuse (by omega) ?_
      refine r_i ?_
      refine w_pop c_77_17 rfl ?_
      refine z_push c_77_18 ?_
      refine z_ret0 c_77_19 rfl ?_
      exact k2 (by omega)

/-- a number's octet; five numbers' octets -/
def byZ (a : Int) (j : Int) : Int := ((iI a >>> (iI (24 - 8 * j) &&& 31)) &&& iI 255).toInt
def bySel (a b c d e : Int) (k : Int) : Int := if k < 4 then a else if k < 8 then b else if k < 12 then c else if k < 16 then d else e
def byF (a b c d e : Int) (k : Int) : Int := byZ (bySel a b c d e k) (k % 4)
theorem and255 {x : Int32} : 0 ≤ (x &&& iI 255).toInt ∧ (x &&& iI 255).toInt ≤ 255 := by
  have h1 : (x &&& iI 255).toBitVec.toNat ≤ 255 := by
    rw [Int32.toBitVec_and, BitVec.toNat_and]
    exact Nat.and_le_right
  have h2 : (x &&& iI 255).toInt = ((x &&& iI 255).toBitVec.toNat : Int) := by
    show (x &&& iI 255).toBitVec.toInt = _
    rw [BitVec.toInt_eq_toNat_cond, if_pos (by omega)]
  omega
theorem byZ_rg {a j : Int} : 0 ≤ byZ a j ∧ byZ a j ≤ 255 := and255
theorem byZ_i {a j : Int} : (iI a >>> (iI (24 - 8 * j) &&& 31)) &&& iI 255 = iI (byZ a j) := iI_of _
abbrev PFd (n : Int) : Nat → Nat → Prop := fun q k => (q = 157 ∧ k = 1) ∨ (q = 158 ∧ n.toNat ≤ k ∧ k < n.toNat + 20)
abbrev PFc (n : Int) (m : Nat) : Nat → Nat → Prop := fun q k => (q = 0 ∧ k = 1) ∨ (q = 1 ∧ n.toNat ≤ k ∧ k < n.toNat + m)
set_option maxHeartbeats 2000000 in
theorem t_feed_1 {d : Nat} {I0 : aFI} {L : aFL} {Q : aPo} {sh : Nat} {su : Option Nat} {nt a b c e f : Int} (hn0 : 0 ≤ nt ∧ nt ≤ 1580) : ∀ (n : Nat) (i : Int) (I : aFI) (v7 : Value), (20 - i).toNat < n → (0 ≤ i) → (i ≤ 20) → (I 157 1 = iI (nt + i)) → (∀ j : Int, 0 ≤ j → j < i → I 158 (nt + j).toNat = iI (byF a b c e f j)) → (frG (PFd nt) I0 I) → (∀ I2 : aFI, I2 157 1 = iI (nt + 20) → (∀ j : Int, 0 ≤ j → j < 20 → I2 158 (nt + j).toNat = iI (byF a b c e f j)) → frG (PFd nt) I0 I2 → Q (some (.int (iI (nt + 20)))) I2 L (aR sh su)) → aWp none d 131 28 [.ref 157, .int (iI a), .int (iI b), .int (iI c), .int (iI e), .int (iI f), .int (iI i), v7] [] I L (aR sh su) Q := by
  intro n
  induction n with
  | zero => intro i I v7 h; omega
  | succ n ih =>
    intro i I v7 hn2 h0 h1 hn hT hF k
    refine w_iload c_131_28 rfl ?_
    refine z_push c_131_30 ?_
    refine z_ic_ge c_131_32 (by first | exact aRg_of _ | (unfold aRg; omega)) (by first | exact aRg_of _ | (unfold aRg; omega)) (fun h1_ => ?_) (fun h1_ => ?_)
    · refine w_aload c_131_124 rfl ?_
      refine z_getZ c_131_125 sp_157 (by decide) rfl hn ?_
      refine z_ret c_131_128 rfl ?_
      have e9 : i = 20 := by omega
      subst e9
      exact k I hn hT hF
    · refine w_iload c_131_35 rfl ?_
      refine z_push c_131_37 ?_
      refine z_ic_ge c_131_38 (by first | exact aRg_of _ | (unfold aRg; omega)) (by first | exact aRg_of _ | (unfold aRg; omega)) (fun h2_ => ?_) (fun h2_ => ?_)
      · refine w_iload c_131_45 rfl ?_
        refine z_push c_131_47 ?_
        refine z_ic_ge c_131_49 (by first | exact aRg_of _ | (unfold aRg; omega)) (by first | exact aRg_of _ | (unfold aRg; omega)) (fun h3_ => ?_) (fun h3_ => ?_)
        · refine w_iload c_131_56 rfl ?_
          refine z_push c_131_58 ?_
          refine z_ic_ge c_131_60 (by first | exact aRg_of _ | (unfold aRg; omega)) (by first | exact aRg_of _ | (unfold aRg; omega)) (fun h4_ => ?_) (fun h4_ => ?_)
          · refine w_iload c_131_67 rfl ?_
            refine z_push c_131_69 ?_
            refine z_ic_ge c_131_71 (by first | exact aRg_of _ | (unfold aRg; omega)) (by first | exact aRg_of _ | (unfold aRg; omega)) (fun h5_ => ?_) (fun h5_ => ?_)
            · refine w_iload c_131_79 rfl ?_
              have hse : bySel a b c e f i = f := by unfold bySel; repeat first | rw [if_pos (by omega)] | rw [if_neg (by omega)]
              have hby : (iI f >>> (iI (8 * (3 - i % 4)) &&& 31)) &&& iI 255 = iI (byF a b c e f i) := by unfold byF; rw [hse, ← byZ_i, show 24 - 8 * (i % 4) = 8 * (3 - i % 4) by omega]
              refine w_istore c_131_81 (Nat.le_of_ble_eq_true rfl) rfl ?_
              refine w_aload c_131_83 rfl ?_
              refine w_getR c_131_84 sp_157 (by decide) rfl pr_157_0 ?_
              refine w_aload c_131_87 rfl ?_
              refine z_getZ c_131_88 sp_157 (by decide) rfl hn ?_
              refine w_iload c_131_91 rfl ?_
              refine z_push c_131_93 ?_
              refine z_push c_131_95 ?_
              refine w_iload c_131_96 rfl ?_
              refine z_push c_131_98 ?_
              refine z_irem c_131_99 (by omega) (by omega) ?_
              refine z_isub c_131_100 ?_
              refine z_imul c_131_101 ?_
              refine w_ishr c_131_102 rfl ?_
              refine z_push c_131_103 ?_
              refine w_iand c_131_106 hby ?_
              refine z_iastore c_131_107 sp_158 (by omega) (by decide) ?_
              refine upG_k hF (Or.inr ⟨rfl, by omega, by omega⟩) (fun I1 hi hF1 => ?_)
              have hn1 : I1 157 1 = iI (nt + i) := by rw [hi]; exact (up_ne (by omega)).trans hn
              refine w_aload c_131_108 rfl ?_
              refine w_dup c_131_109 rfl ?_
              refine z_getZ c_131_110 sp_157 (by decide) rfl hn1 ?_
              refine z_push c_131_113 ?_
              refine z_iadd c_131_114 ?_
              refine z_putZ c_131_115 sp_157 (by decide) rfl ?_
              refine upG_k hF1 (Or.inl ⟨rfl, rfl⟩) (fun I2 hi2 hF2 => ?_)
              refine z_iinc c_131_118 rfl rfl ?_
              refine w_goto c_131_121 ?_
              exact ih (i + 1) I2 _ (by omega) (by omega) (by omega) (by rw [hi2]; exact up_eq.trans (congrArg iI (by omega))) (fun j z1 z2 => by
                rw [hi2, up_ne (by omega), hi]
                by_cases hji : j = i
                · subst hji; exact up_eq
                · rw [up_ne (by omega)]; exact hT j z1 (by omega)) hF2 k
            · refine w_iload c_131_74 rfl ?_
              refine w_goto c_131_76 ?_
              have hse : bySel a b c e f i = e := by unfold bySel; repeat first | rw [if_pos (by omega)] | rw [if_neg (by omega)]
              have hby : (iI e >>> (iI (8 * (3 - i % 4)) &&& 31)) &&& iI 255 = iI (byF a b c e f i) := by unfold byF; rw [hse, ← byZ_i, show 24 - 8 * (i % 4) = 8 * (3 - i % 4) by omega]
              refine w_istore c_131_81 (Nat.le_of_ble_eq_true rfl) rfl ?_
              refine w_aload c_131_83 rfl ?_
              refine w_getR c_131_84 sp_157 (by decide) rfl pr_157_0 ?_
              refine w_aload c_131_87 rfl ?_
              refine z_getZ c_131_88 sp_157 (by decide) rfl hn ?_
              refine w_iload c_131_91 rfl ?_
              refine z_push c_131_93 ?_
              refine z_push c_131_95 ?_
              refine w_iload c_131_96 rfl ?_
              refine z_push c_131_98 ?_
              refine z_irem c_131_99 (by omega) (by omega) ?_
              refine z_isub c_131_100 ?_
              refine z_imul c_131_101 ?_
              refine w_ishr c_131_102 rfl ?_
              refine z_push c_131_103 ?_
              refine w_iand c_131_106 hby ?_
              refine z_iastore c_131_107 sp_158 (by omega) (by decide) ?_
              refine upG_k hF (Or.inr ⟨rfl, by omega, by omega⟩) (fun I1 hi hF1 => ?_)
              have hn1 : I1 157 1 = iI (nt + i) := by rw [hi]; exact (up_ne (by omega)).trans hn
              refine w_aload c_131_108 rfl ?_
              refine w_dup c_131_109 rfl ?_
              refine z_getZ c_131_110 sp_157 (by decide) rfl hn1 ?_
              refine z_push c_131_113 ?_
              refine z_iadd c_131_114 ?_
              refine z_putZ c_131_115 sp_157 (by decide) rfl ?_
              refine upG_k hF1 (Or.inl ⟨rfl, rfl⟩) (fun I2 hi2 hF2 => ?_)
              refine z_iinc c_131_118 rfl rfl ?_
              refine w_goto c_131_121 ?_
              exact ih (i + 1) I2 _ (by omega) (by omega) (by omega) (by rw [hi2]; exact up_eq.trans (congrArg iI (by omega))) (fun j z1 z2 => by
                rw [hi2, up_ne (by omega), hi]
                by_cases hji : j = i
                · subst hji; exact up_eq
                · rw [up_ne (by omega)]; exact hT j z1 (by omega)) hF2 k
          · refine w_iload c_131_63 rfl ?_
            refine w_goto c_131_64 ?_
            have hse : bySel a b c e f i = c := by unfold bySel; repeat first | rw [if_pos (by omega)] | rw [if_neg (by omega)]
            have hby : (iI c >>> (iI (8 * (3 - i % 4)) &&& 31)) &&& iI 255 = iI (byF a b c e f i) := by unfold byF; rw [hse, ← byZ_i, show 24 - 8 * (i % 4) = 8 * (3 - i % 4) by omega]
            refine w_istore c_131_81 (Nat.le_of_ble_eq_true rfl) rfl ?_
            refine w_aload c_131_83 rfl ?_
            refine w_getR c_131_84 sp_157 (by decide) rfl pr_157_0 ?_
            refine w_aload c_131_87 rfl ?_
            refine z_getZ c_131_88 sp_157 (by decide) rfl hn ?_
            refine w_iload c_131_91 rfl ?_
            refine z_push c_131_93 ?_
            refine z_push c_131_95 ?_
            refine w_iload c_131_96 rfl ?_
            refine z_push c_131_98 ?_
            refine z_irem c_131_99 (by omega) (by omega) ?_
            refine z_isub c_131_100 ?_
            refine z_imul c_131_101 ?_
            refine w_ishr c_131_102 rfl ?_
            refine z_push c_131_103 ?_
            refine w_iand c_131_106 hby ?_
            refine z_iastore c_131_107 sp_158 (by omega) (by decide) ?_
            refine upG_k hF (Or.inr ⟨rfl, by omega, by omega⟩) (fun I1 hi hF1 => ?_)
            have hn1 : I1 157 1 = iI (nt + i) := by rw [hi]; exact (up_ne (by omega)).trans hn
            refine w_aload c_131_108 rfl ?_
            refine w_dup c_131_109 rfl ?_
            refine z_getZ c_131_110 sp_157 (by decide) rfl hn1 ?_
            refine z_push c_131_113 ?_
            refine z_iadd c_131_114 ?_
            refine z_putZ c_131_115 sp_157 (by decide) rfl ?_
            refine upG_k hF1 (Or.inl ⟨rfl, rfl⟩) (fun I2 hi2 hF2 => ?_)
            refine z_iinc c_131_118 rfl rfl ?_
            refine w_goto c_131_121 ?_
            exact ih (i + 1) I2 _ (by omega) (by omega) (by omega) (by rw [hi2]; exact up_eq.trans (congrArg iI (by omega))) (fun j z1 z2 => by
              rw [hi2, up_ne (by omega), hi]
              by_cases hji : j = i
              · subst hji; exact up_eq
              · rw [up_ne (by omega)]; exact hT j z1 (by omega)) hF2 k
        · refine w_iload c_131_52 rfl ?_
          refine w_goto c_131_53 ?_
          have hse : bySel a b c e f i = b := by unfold bySel; repeat first | rw [if_pos (by omega)] | rw [if_neg (by omega)]
          have hby : (iI b >>> (iI (8 * (3 - i % 4)) &&& 31)) &&& iI 255 = iI (byF a b c e f i) := by unfold byF; rw [hse, ← byZ_i, show 24 - 8 * (i % 4) = 8 * (3 - i % 4) by omega]
          refine w_istore c_131_81 (Nat.le_of_ble_eq_true rfl) rfl ?_
          refine w_aload c_131_83 rfl ?_
          refine w_getR c_131_84 sp_157 (by decide) rfl pr_157_0 ?_
          refine w_aload c_131_87 rfl ?_
          refine z_getZ c_131_88 sp_157 (by decide) rfl hn ?_
          refine w_iload c_131_91 rfl ?_
          refine z_push c_131_93 ?_
          refine z_push c_131_95 ?_
          refine w_iload c_131_96 rfl ?_
          refine z_push c_131_98 ?_
          refine z_irem c_131_99 (by omega) (by omega) ?_
          refine z_isub c_131_100 ?_
          refine z_imul c_131_101 ?_
          refine w_ishr c_131_102 rfl ?_
          refine z_push c_131_103 ?_
          refine w_iand c_131_106 hby ?_
          refine z_iastore c_131_107 sp_158 (by omega) (by decide) ?_
          refine upG_k hF (Or.inr ⟨rfl, by omega, by omega⟩) (fun I1 hi hF1 => ?_)
          have hn1 : I1 157 1 = iI (nt + i) := by rw [hi]; exact (up_ne (by omega)).trans hn
          refine w_aload c_131_108 rfl ?_
          refine w_dup c_131_109 rfl ?_
          refine z_getZ c_131_110 sp_157 (by decide) rfl hn1 ?_
          refine z_push c_131_113 ?_
          refine z_iadd c_131_114 ?_
          refine z_putZ c_131_115 sp_157 (by decide) rfl ?_
          refine upG_k hF1 (Or.inl ⟨rfl, rfl⟩) (fun I2 hi2 hF2 => ?_)
          refine z_iinc c_131_118 rfl rfl ?_
          refine w_goto c_131_121 ?_
          exact ih (i + 1) I2 _ (by omega) (by omega) (by omega) (by rw [hi2]; exact up_eq.trans (congrArg iI (by omega))) (fun j z1 z2 => by
            rw [hi2, up_ne (by omega), hi]
            by_cases hji : j = i
            · subst hji; exact up_eq
            · rw [up_ne (by omega)]; exact hT j z1 (by omega)) hF2 k
      · refine w_iload c_131_41 rfl ?_
        refine w_goto c_131_42 ?_
        have hse : bySel a b c e f i = a := by unfold bySel; repeat first | rw [if_pos (by omega)] | rw [if_neg (by omega)]
        have hby : (iI a >>> (iI (8 * (3 - i % 4)) &&& 31)) &&& iI 255 = iI (byF a b c e f i) := by unfold byF; rw [hse, ← byZ_i, show 24 - 8 * (i % 4) = 8 * (3 - i % 4) by omega]
        refine w_istore c_131_81 (Nat.le_of_ble_eq_true rfl) rfl ?_
        refine w_aload c_131_83 rfl ?_
        refine w_getR c_131_84 sp_157 (by decide) rfl pr_157_0 ?_
        refine w_aload c_131_87 rfl ?_
        refine z_getZ c_131_88 sp_157 (by decide) rfl hn ?_
        refine w_iload c_131_91 rfl ?_
        refine z_push c_131_93 ?_
        refine z_push c_131_95 ?_
        refine w_iload c_131_96 rfl ?_
        refine z_push c_131_98 ?_
        refine z_irem c_131_99 (by omega) (by omega) ?_
        refine z_isub c_131_100 ?_
        refine z_imul c_131_101 ?_
        refine w_ishr c_131_102 rfl ?_
        refine z_push c_131_103 ?_
        refine w_iand c_131_106 hby ?_
        refine z_iastore c_131_107 sp_158 (by omega) (by decide) ?_
        refine upG_k hF (Or.inr ⟨rfl, by omega, by omega⟩) (fun I1 hi hF1 => ?_)
        have hn1 : I1 157 1 = iI (nt + i) := by rw [hi]; exact (up_ne (by omega)).trans hn
        refine w_aload c_131_108 rfl ?_
        refine w_dup c_131_109 rfl ?_
        refine z_getZ c_131_110 sp_157 (by decide) rfl hn1 ?_
        refine z_push c_131_113 ?_
        refine z_iadd c_131_114 ?_
        refine z_putZ c_131_115 sp_157 (by decide) rfl ?_
        refine upG_k hF1 (Or.inl ⟨rfl, rfl⟩) (fun I2 hi2 hF2 => ?_)
        refine z_iinc c_131_118 rfl rfl ?_
        refine w_goto c_131_121 ?_
        exact ih (i + 1) I2 _ (by omega) (by omega) (by omega) (by rw [hi2]; exact up_eq.trans (congrArg iI (by omega))) (fun j z1 z2 => by
          rw [hi2, up_ne (by omega), hi]
          by_cases hji : j = i
          · subst hji; exact up_eq
          · rw [up_ne (by omega)]; exact hT j z1 (by omega)) hF2 k

set_option maxHeartbeats 1000000 in
theorem t_feed {d : Nat} {I : aFI} {L : aFL} {Q : aPo} {sh : Nat} {su : Option Nat} {nt a b c e f : Int} (hn : I 157 1 = iI nt) (hn0 : 0 ≤ nt ∧ nt ≤ 1600) (k1 : nt ≤ 1580 → ∀ I2 : aFI, I2 157 1 = iI (nt + 20) → (∀ j : Int, 0 ≤ j → j < 20 → I2 158 (nt + j).toNat = iI (byF a b c e f j)) → frG (PFd nt) I I2 → Q (some (.int (iI (nt + 20)))) I2 L (aR sh su)) (k2 : ¬ nt ≤ 1580 → Q (some (.int (iI (-1)))) (aUp I 159 0 (iI ((I 159 0).toInt + 1))) L (aR sh su)) : aWp none d 131 0 [.ref 157, .int (iI a), .int (iI b), .int (iI c), .int (iI e), .int (iI f), .null, .null] [] I L (aR sh su) Q := by
  refine w_aload c_131_0 rfl ?_
  refine z_getZ c_131_1 sp_157 (by decide) rfl hn ?_
  refine z_push c_131_4 ?_
  refine z_iadd c_131_6 ?_
  refine z_push c_131_7 ?_
  refine z_ic_le c_131_10 (by first | exact aRg_of _ | (unfold aRg; omega)) (by first | exact aRg_of _ | (unfold aRg; omega)) (fun h1_ => ?_) (fun h1_ => ?_)
  · refine z_push c_131_25 ?_
    refine w_istore c_131_26 (Nat.le_of_ble_eq_true rfl) rfl ?_
    exact t_feed_1 (by omega) _ 0 I _ (Nat.lt_succ_self _) (by omega) (by omega) (hn.trans (congrArg iI (by omega))) (fun j z1 z2 => absurd z2 (by omega)) frG.rf (k1 (by omega))
  · refine w_aload c_131_13 rfl ?_
    refine w_getR c_131_14 sp_157 (by decide) rfl pr_157_9 ?_
    refine z_push c_131_17 ?_
    refine w_dup2 c_131_18 rfl rfl ?_
    refine z_iaload c_131_19 sp_159 (by omega) (by first | decide | omega) (iI_of _) ?_
    refine z_push c_131_20 ?_
    refine z_iadd c_131_21 ?_
    refine z_iastore c_131_22 sp_159 (by omega) (by decide) ?_
    refine z_push c_131_23 ?_
    refine z_ret c_131_24 rfl ?_
    exact k2 (by omega)

set_option maxHeartbeats 2000000 in
theorem tc_putNumber_1 {d : Nat} {I0 : aFI} {L : aFL} {Q : aPo} {sh : Nat} {su : Option Nat} {nt a : Int} (hn0 : 0 ≤ nt ∧ nt ≤ 1596) : ∀ (n : Nat) (i : Int) (I : aFI), (4 - i).toNat < n → (0 ≤ i) → (i ≤ 4) → (I 0 1 = iI (nt + i)) → (∀ j : Int, 0 ≤ j → j < i → I 1 (nt + j).toNat = iI (byZ a j)) → (frG (PFc nt 4) I0 I) → (∀ I2 : aFI, I2 0 1 = iI (nt + 4) → (∀ j : Int, 0 ≤ j → j < 4 → I2 1 (nt + j).toNat = iI (byZ a j)) → frG (PFc nt 4) I0 I2 → Q none I2 L (aR sh su)) → aWp none d 109 3 [.ref 0, .int (iI a), .int (iI (24 - 8 * i))] [] I L (aR sh su) Q := by
  intro n
  induction n with
  | zero => intro i I h; omega
  | succ n ih =>
    intro i I hn2 h0 h1 hn hT hF k
    refine w_iload c_109_3 rfl ?_
    refine z_if_lt c_109_4 (by first | exact aRg_of _ | (unfold aRg; omega)) (fun h1_ => ?_) (fun h1_ => ?_)
    · refine z_retv c_109_39 ?_
      have e9 : i = 4 := by omega
      subst e9
      exact k I hn hT hF
    · refine w_aload c_109_7 rfl ?_
      refine w_getR c_109_8 sp_0 (by decide) rfl pr_0_0 ?_
      refine w_aload c_109_11 rfl ?_
      refine z_getZ c_109_12 sp_0 (by decide) rfl hn ?_
      refine w_iload c_109_15 rfl ?_
      refine w_iload c_109_16 rfl ?_
      refine w_ishr c_109_17 rfl ?_
      refine z_push c_109_18 ?_
      refine w_iand c_109_21 byZ_i ?_
      refine z_iastore c_109_22 sp_1 (by omega) (by decide) ?_
      refine upG_k hF (Or.inr ⟨rfl, by omega, by omega⟩) (fun I1 hi hF1 => ?_)
      have hn1 : I1 0 1 = iI (nt + i) := by rw [hi]; exact (up_ne (by omega)).trans hn
      refine w_aload c_109_23 rfl ?_
      refine w_dup c_109_24 rfl ?_
      refine z_getZ c_109_25 sp_0 (by decide) rfl hn1 ?_
      refine z_push c_109_28 ?_
      refine z_iadd c_109_29 ?_
      refine z_putZ c_109_30 sp_0 (by decide) rfl ?_
      refine upG_k hF1 (Or.inl ⟨rfl, rfl⟩) (fun I2 hi2 hF2 => ?_)
      refine z_iinc c_109_33 rfl rfl ?_
      refine w_goto c_109_36 ?_
      have hA := ih (i + 1) I2 (by omega) (by omega) (by omega) (by rw [hi2]; exact up_eq.trans (congrArg iI (by omega))) (fun j z1 z2 => by
        rw [hi2, up_ne (by omega), hi]
        by_cases hji : j = i
        · subst hji; exact up_eq
        · rw [up_ne (by omega)]; exact hT j z1 (by omega)) hF2 k
      rw [show 24 - 8 * (i + 1) = 24 - 8 * i + -8 by omega] at hA
      exact hA

set_option maxHeartbeats 1000000 in
theorem tc_putNumber {d : Nat} {I : aFI} {L : aFL} {Q : aPo} {sh : Nat} {su : Option Nat} {nt a : Int} (hn0 : 0 ≤ nt ∧ nt ≤ 1596) (hn : I 0 1 = iI nt) (k : ∀ I2 : aFI, I2 0 1 = iI (nt + 4) → (∀ j : Int, 0 ≤ j → j < 4 → I2 1 (nt + j).toNat = iI (byZ a j)) → frG (PFc nt 4) I I2 → Q none I2 L (aR sh su)) : aWp none d 109 0 [.ref 0, .int (iI a), .null] [] I L (aR sh su) Q := by
  refine z_push c_109_0 ?_
  refine w_istore c_109_2 (Nat.le_of_ble_eq_true rfl) rfl ?_
  exact tc_putNumber_1 hn0 _ 0 I (Nat.lt_succ_self _) (by omega) (by omega) (hn.trans (congrArg iI (by omega))) (fun j z1 z2 => absurd z2 (by omega)) frG.rf k

set_option maxHeartbeats 1000000 in
theorem tc_feed {d : Nat} {I : aFI} {L : aFL} {Q : aPo} {sh : Nat} {su : Option Nat} {nt a b c e f : Int} (hn : I 0 1 = iI nt) (hn0 : 0 ≤ nt ∧ nt ≤ 1600) (hd : 2 ≤ d) (k1 : nt ≤ 1580 → ∀ I2 : aFI, I2 0 1 = iI (nt + 20) → (∀ j : Int, 0 ≤ j → j < 20 → I2 1 (nt + j).toNat = iI (byF a b c e f j)) → frG (PFc nt 20) I I2 → Q (some (.int (iI (nt + 20)))) I2 L (aR sh su)) (k2 : ¬ nt ≤ 1580 → Q (some (.int (iI (-1)))) (aUp I 156 0 (iI ((I 156 0).toInt + 1))) L (aR sh su)) : aWp none d 76 0 [.ref 0, .int (iI a), .int (iI b), .int (iI c), .int (iI e), .int (iI f)] [] I L (aR sh su) Q := by
  refine w_aload c_76_0 rfl ?_
  refine z_getZ c_76_1 sp_0 (by decide) rfl hn ?_
  refine z_push c_76_4 ?_
  refine z_iadd c_76_6 ?_
  refine z_push c_76_7 ?_
  refine z_ic_le c_76_10 (by first | exact aRg_of _ | (unfold aRg; omega)) (by first | exact aRg_of _ | (unfold aRg; omega)) (fun h1_ => ?_) (fun h1_ => ?_)
  · refine w_aload c_76_19 rfl ?_
    refine w_iload c_76_20 rfl ?_
    refine wc_109 c_76_21 sp_0 (Nat.le_of_ble_eq_true rfl) (by omega) ?_
    refine tc_putNumber (nt := nt + 0) (by omega) (hn.trans (congrArg iI (by omega))) (fun I1 hn1 hb1 hf1 => ?_)
    refine r_v ?_
    refine w_aload c_76_24 rfl ?_
    refine w_iload c_76_25 rfl ?_
    refine wc_109 c_76_26 sp_0 (Nat.le_of_ble_eq_true rfl) (by omega) ?_
    refine tc_putNumber (nt := nt + 4) (by omega) (hn1.trans (congrArg iI (by omega))) (fun I2 hn2 hb2 hf2 => ?_)
    refine r_v ?_
    refine w_aload c_76_29 rfl ?_
    refine w_iload c_76_30 rfl ?_
    refine wc_109 c_76_31 sp_0 (Nat.le_of_ble_eq_true rfl) (by omega) ?_
    refine tc_putNumber (nt := nt + 8) (by omega) (hn2.trans (congrArg iI (by omega))) (fun I3 hn3 hb3 hf3 => ?_)
    refine r_v ?_
    refine w_aload c_76_34 rfl ?_
    refine w_iload c_76_35 rfl ?_
    refine wc_109 c_76_37 sp_0 (Nat.le_of_ble_eq_true rfl) (by omega) ?_
    refine tc_putNumber (nt := nt + 12) (by omega) (hn3.trans (congrArg iI (by omega))) (fun I4 hn4 hb4 hf4 => ?_)
    refine r_v ?_
    refine w_aload c_76_40 rfl ?_
    refine w_iload c_76_41 rfl ?_
    refine wc_109 c_76_43 sp_0 (Nat.le_of_ble_eq_true rfl) (by omega) ?_
    refine tc_putNumber (nt := nt + 16) (by omega) (hn4.trans (congrArg iI (by omega))) (fun I5 hn5 hb5 hf5 => ?_)
    refine r_v ?_
    refine w_aload c_76_46 rfl ?_
    refine z_getZ c_76_47 sp_0 (by decide) rfl hn5 ?_
    refine z_ret c_76_50 rfl ?_
    refine q_i (k1 (by omega) I5 (hn5.trans (congrArg iI (by omega))) (fun j h1 h2 => ?_) (fun q k hq => by
      have hq : ¬ ((q = 0 ∧ k = 1) ∨ (q = 1 ∧ nt.toNat ≤ k ∧ k < nt.toNat + 20)) := hq
      rw [hf5 q k (by omega), hf4 q k (by omega), hf3 q k (by omega), hf2 q k (by omega), hf1 q k (by omega)])) (by omega)
    unfold byF bySel
    rcases (show j < 4 ∨ (4 ≤ j ∧ j < 8) ∨ (8 ≤ j ∧ j < 12) ∨ (12 ≤ j ∧ j < 16) ∨ 16 ≤ j by omega) with z | z | z | z | z
    · rw [if_pos z, hf5 1 _ (by omega), hf4 1 _ (by omega), hf3 1 _ (by omega), hf2 1 _ (by omega), show nt + j = nt + 0 + j % 4 by omega]; exact hb1 (j % 4) (by omega) (by omega)
    · rw [if_neg (by omega), if_pos (by omega), hf5 1 _ (by omega), hf4 1 _ (by omega), hf3 1 _ (by omega), show nt + j = nt + 4 + j % 4 by omega]; exact hb2 (j % 4) (by omega) (by omega)
    · rw [if_neg (by omega), if_neg (by omega), if_pos (by omega), hf5 1 _ (by omega), hf4 1 _ (by omega), show nt + j = nt + 8 + j % 4 by omega]; exact hb3 (j % 4) (by omega) (by omega)
    · rw [if_neg (by omega), if_neg (by omega), if_neg (by omega), if_pos (by omega), hf5 1 _ (by omega), show nt + j = nt + 12 + j % 4 by omega]; exact hb4 (j % 4) (by omega) (by omega)
    · rw [if_neg (by omega), if_neg (by omega), if_neg (by omega), if_neg (by omega), show nt + j = nt + 16 + j % 4 by omega]; exact hb5 (j % 4) (by omega) (by omega)
  · refine w_aload c_76_13 rfl ?_
    refine z_push c_76_14 ?_
    refine wc_108 c_76_15 sp_0 (Nat.le_of_ble_eq_true rfl) (by omega) ?_
    refine tc_refuse (by omega) ?_
    refine r_i ?_
    refine z_ret c_76_18 rfl ?_
    exact k2 (by omega)

