/-! the class: worth of marks on the machine (p51.py) -/
def isLk (I : aFI) (q : Nat) (s b g w kc : Int) (ink age : Int → Int) : Prop := I q 0 = iI s ∧ I q 1 = iI b ∧ I q 2 = iI g ∧ I q 3 = iI w ∧ I q 4 = iI kc ∧ ∀ j : Int, 0 ≤ j → j < 8 → I (q + 1) j.toNat = iI (ink j) ∧ I (q + 2) j.toNat = iI (age j)
theorem isLk.fr {I I2 : aFI} {q : Nat} {s b g w kc : Int} {ink age : Int → Int} (h : isLk I q s b g w kc ink age) (h0 : ∀ p k : Nat, q ≤ p → p ≤ q + 2 → I2 p k = I p k) : isLk I2 q s b g w kc ink age := by
  unfold isLk at *
  rw [h0 q 0 (by omega) (by omega), h0 q 1 (by omega) (by omega), h0 q 2 (by omega) (by omega), h0 q 3 (by omega) (by omega), h0 q 4 (by omega) (by omega)]
  refine ⟨h.1, h.2.1, h.2.2.1, h.2.2.2.1, h.2.2.2.2.1, fun j h1 h2 => ?_⟩
  rw [h0 (q + 1) _ (by omega) (by omega), h0 (q + 2) _ (by omega) (by omega)]
  exact h.2.2.2.2.2 j h1 h2
def cD (I : aFI) (x : Nat) (D : Nat → Int → Int) : Prop := I x 0 = aBo (decide (D 0 0 = 1)) ∧ (I x 1 = iI (D 0 1) ∧ I x 2 = iI (D 0 2) ∧ I x 3 = iI (D 0 3) ∧ I x 14 = iI (D 0 14) ∧ I x 15 = iI (D 0 15) ∧ I x 16 = iI (D 0 16)) ∧ ∀ (k : Nat) (j : Int), 1 ≤ k → k ≤ 9 → 0 ≤ j → I (x + k) j.toNat = iI (D k j)
theorem cD.fr {I I2 : aFI} {x : Nat} {D : Nat → Int → Int} (h : cD I x D) (h0 : ∀ p k : Nat, x ≤ p → p ≤ x + 9 → I2 p k = I p k) : cD I2 x D := by
  unfold cD at *
  rw [h0 x 0 (by omega) (by omega), h0 x 1 (by omega) (by omega), h0 x 2 (by omega) (by omega), h0 x 3 (by omega) (by omega), h0 x 14 (by omega) (by omega), h0 x 15 (by omega) (by omega), h0 x 16 (by omega) (by omega)]
  refine ⟨h.1, h.2.1, fun k j h1 h2 h3 => ?_⟩
  rw [h0 (x + k) _ (by omega) (by omega)]
  exact h.2.2 k j h1 h2 h3
theorem cD.a {I : aFI} {x : Nat} {D : Nat → Int → Int} (h : cD I x D) (k : Nat) {j : Int} (hk : 1 ≤ k ∧ k ≤ 9) (hj : 0 ≤ j) : I (x + k) j.toNat = iI (D k j) := h.2.2 k j hk.1 hk.2 hj
/-- what a part means for one deed -/
def envZ (D : Nat → Int → Int) (s b g : Int) (ink age : Int → Int) (de dr : Int) : Int → Int := fun m =>
  if m = 310 then D 7 de else if m = 311 then D 8 de else if m = 307 then D 5 (D 6 de) else if m = 319 then s else if m = 320 then b else if m = 321 then dk b g else if m = 322 then ink de else if m = 323 then age de else if m = 324 then de else if m = 325 then D 9 de else if m = 313 then dr else 1
theorem btw_clip {v : Int} : btw (-1000000) v 1000000 = clip v := by unfold btw clip; split <;> split <;> (try split) <;> omega
theorem ior01 {a b : Int} (ha : a = 0 ∨ a = 1) (hb : b = 0 ∨ b = 1) : iI a ||| iI b = iI (max a b) := by
  rcases ha with rfl | rfl <;> rcases hb with rfl | rfl <;> rfl
theorem iand01 {a b : Int} (ha : a = 0 ∨ a = 1) (hb : b = 0 ∨ b = 1) : iI a &&& iI b = iI (min a b) := by
  rcases ha with rfl | rfl <;> rcases hb with rfl | rfl <;> rfl
set_option maxHeartbeats 1000000 in
theorem tc_isJoint {d : Nat} {I : aFI} {L : aFL} {Q : aPo} {sh : Nat} {su : Option Nat} {m : Int} (hm : 0 ≤ m ∧ m < 20000) (k : Q (some (.int (aBo (decide (isJn m))))) I L (aR sh su)) : aWp none d 56 0 [.int (iI m)] [] I L (aR sh su) Q := by
  refine w_iload c_56_0 rfl ?_
  refine z_push c_56_1 ?_
  refine z_ic_lt c_56_4 (by first | exact aRg_of _ | (unfold aRg; omega)) (by first | exact aRg_of _ | (unfold aRg; omega)) (fun h1_ => ?_) (fun h1_ => ?_)
  · refine z_push c_56_35 ?_
    refine w_goto c_56_36 ?_
    refine z_ret1 c_56_40 rfl ?_
    exact q_b k (decide_eq_true (by omega))
  · refine w_iload c_56_7 rfl ?_
    refine z_push c_56_8 ?_
    refine z_ic_eq c_56_11 (by first | exact aRg_of _ | (unfold aRg; omega)) (by first | exact aRg_of _ | (unfold aRg; omega)) (fun h2_ => ?_) (fun h2_ => ?_)
    · refine z_push c_56_35 ?_
      refine w_goto c_56_36 ?_
      refine z_ret1 c_56_40 rfl ?_
      exact q_b k (decide_eq_true (by omega))
    · refine w_iload c_56_14 rfl ?_
      refine z_push c_56_15 ?_
      refine z_ic_eq c_56_18 (by first | exact aRg_of _ | (unfold aRg; omega)) (by first | exact aRg_of _ | (unfold aRg; omega)) (fun h3_ => ?_) (fun h3_ => ?_)
      · refine z_push c_56_35 ?_
        refine w_goto c_56_36 ?_
        refine z_ret1 c_56_40 rfl ?_
        exact q_b k (decide_eq_true (by omega))
      · refine w_iload c_56_21 rfl ?_
        refine z_push c_56_22 ?_
        refine z_ic_eq c_56_25 (by first | exact aRg_of _ | (unfold aRg; omega)) (by first | exact aRg_of _ | (unfold aRg; omega)) (fun h4_ => ?_) (fun h4_ => ?_)
        · refine z_push c_56_35 ?_
          refine w_goto c_56_36 ?_
          refine z_ret1 c_56_40 rfl ?_
          exact q_b k (decide_eq_true (by omega))
        · refine w_iload c_56_28 rfl ?_
          refine z_push c_56_29 ?_
          refine z_ic_ne c_56_32 (by first | exact aRg_of _ | (unfold aRg; omega)) (by first | exact aRg_of _ | (unfold aRg; omega)) (fun h5_ => ?_) (fun h5_ => ?_)
          · refine z_push c_56_39 ?_
            refine z_ret0 c_56_40 rfl ?_
            exact q_b k (decide_eq_false (by omega))
          · refine z_push c_56_35 ?_
            refine w_goto c_56_36 ?_
            refine z_ret1 c_56_40 rfl ?_
            exact q_b k (decide_eq_true (by omega))

set_option maxHeartbeats 1000000 in
theorem tc_join {d : Nat} {I : aFI} {L : aFL} {Q : aPo} {sh : Nat} {su : Option Nat} {m a b : Int} (hd : 2 ≤ d) (hm : isAri m ∨ isCmp m ∨ isLog m ∧ (a = 0 ∨ a = 1) ∧ (b = 0 ∨ b = 1)) (ha : -1000000 ≤ a ∧ a ≤ 1000000) (hb : -1000000 ≤ b ∧ b ≤ 1000000) (k : Q (some (.int (iI (joinZ m a b)))) I L (aR sh su)) : aWp none d 57 0 [.int (iI m), .int (iI a), .int (iI b)] [] I L (aR sh su) Q := by
  have hab : -1000000000000 ≤ a * b ∧ a * b ≤ 1000000000000 := by
    have h1 : (a * b).natAbs ≤ 1000000 * 1000000 := by rw [Int.natAbs_mul]; exact Nat.mul_le_mul (by omega) (by omega)
    omega
  refine w_iload c_57_0 rfl ?_
  rcases (show (m = 42) ∨ (m = 43) ∨ (m = 45) ∨ (m = 47) ∨ (m = 60) ∨ (m = 61) ∨ (m = 62) ∨ (m = 326) ∨ (m = 327) ∨ (m = 330) ∨ (¬ m = 42 ∧ ¬ m = 43 ∧ ¬ m = 45 ∧ ¬ m = 47 ∧ ¬ m = 60 ∧ ¬ m = 61 ∧ ¬ m = 62 ∧ ¬ m = 326 ∧ ¬ m = 327 ∧ ¬ m = 330) by omega) with h1_ | h1_ | h1_ | h1_ | h1_ | h1_ | h1_ | h1_ | h1_ | h1_ | h1_
  · refine z_lsw c_57_1 (by first | exact aRg_of _ | (unfold aRg; omega)) (pc2 := 118) (by rcases h1_ with rfl <;> rfl) ?_
    refine z_push c_57_118 ?_
    refine w_iload c_57_120 rfl ?_
    refine z_i2l c_57_121 (by first | exact aRg_of _ | (unfold aRg; omega)) ?_
    refine w_iload c_57_122 rfl ?_
    refine z_i2l c_57_123 (by first | exact aRg_of _ | (unfold aRg; omega)) ?_
    refine z_lmul c_57_124 ?_
    refine z_push c_57_125 ?_
    refine wc_59 c_57_127 (Nat.le_of_ble_eq_true rfl) (by omega) ?_
    refine tc_between (by omega) (by omega) (by omega) ?_
    refine r_i ?_
    refine z_ret c_57_130 rfl ?_
    exact q_i k (by unfold joinZ; simp only [h1_, Int.reduceEq, if_false, if_true]; try (exact btw_clip.symm))
  · refine z_lsw c_57_1 (by first | exact aRg_of _ | (unfold aRg; omega)) (pc2 := 92) (by rcases h1_ with rfl <;> rfl) ?_
    refine z_push c_57_92 ?_
    refine w_iload c_57_94 rfl ?_
    refine z_i2l c_57_95 (by first | exact aRg_of _ | (unfold aRg; omega)) ?_
    refine w_iload c_57_96 rfl ?_
    refine z_i2l c_57_97 (by first | exact aRg_of _ | (unfold aRg; omega)) ?_
    refine z_ladd c_57_98 ?_
    refine z_push c_57_99 ?_
    refine wc_59 c_57_101 (Nat.le_of_ble_eq_true rfl) (by omega) ?_
    refine tc_between (by omega) (by omega) (by omega) ?_
    refine r_i ?_
    refine z_ret c_57_104 rfl ?_
    exact q_i k (by unfold joinZ; simp only [h1_, Int.reduceEq, if_false, if_true]; try (exact btw_clip.symm))
  · refine z_lsw c_57_1 (by first | exact aRg_of _ | (unfold aRg; omega)) (pc2 := 105) (by rcases h1_ with rfl <;> rfl) ?_
    refine z_push c_57_105 ?_
    refine w_iload c_57_107 rfl ?_
    refine z_i2l c_57_108 (by first | exact aRg_of _ | (unfold aRg; omega)) ?_
    refine w_iload c_57_109 rfl ?_
    refine z_i2l c_57_110 (by first | exact aRg_of _ | (unfold aRg; omega)) ?_
    refine z_lsub c_57_111 ?_
    refine z_push c_57_112 ?_
    refine wc_59 c_57_114 (Nat.le_of_ble_eq_true rfl) (by omega) ?_
    refine tc_between (by omega) (by omega) (by omega) ?_
    refine r_i ?_
    refine z_ret c_57_117 rfl ?_
    exact q_i k (by unfold joinZ; simp only [h1_, Int.reduceEq, if_false, if_true]; try (exact btw_clip.symm))
  · refine z_lsw c_57_1 (by first | exact aRg_of _ | (unfold aRg; omega)) (pc2 := 131) (by rcases h1_ with rfl <;> rfl) ?_
    refine w_iload c_57_131 rfl ?_
    refine z_if_ne c_57_132 (by first | exact aRg_of _ | (unfold aRg; omega)) (fun h2_ => ?_) (fun h2_ => ?_)
    · refine w_iload c_57_139 rfl ?_
      refine w_iload c_57_140 rfl ?_
      refine wc_258 c_57_141 (Nat.le_of_ble_eq_true rfl) (by omega) ?_
      refine t_floorDiv (by omega) (by omega) (by omega) ?_
      refine r_i ?_
      refine z_ret c_57_144 rfl ?_
      exact q_i k (by unfold joinZ; simp only [h1_, Int.reduceEq, if_false, if_true]; try (first | rfl | (rw [show b = 0 by omega, Int.fdiv_zero])))
    · refine z_push c_57_135 ?_
      refine w_goto c_57_136 ?_
      refine z_ret c_57_144 rfl ?_
      exact q_i k (by unfold joinZ; simp only [h1_, Int.reduceEq, if_false, if_true]; try (first | rfl | (rw [show b = 0 by omega, Int.fdiv_zero])))
  · refine z_lsw c_57_1 (by first | exact aRg_of _ | (unfold aRg; omega)) (pc2 := 145) (by rcases h1_ with rfl <;> rfl) ?_
    refine w_iload c_57_145 rfl ?_
    refine w_iload c_57_146 rfl ?_
    refine z_ic_ge c_57_147 (by first | exact aRg_of _ | (unfold aRg; omega)) (by first | exact aRg_of _ | (unfold aRg; omega)) (fun h3_ => ?_) (fun h3_ => ?_)
    · refine z_push c_57_154 ?_
      refine z_ret c_57_155 rfl ?_
      exact q_i k (by unfold joinZ; simp only [h1_, Int.reduceEq, if_false, if_true]; try (first | (rw [if_pos (by omega)]) | (rw [if_neg (by omega)])))
    · refine z_push c_57_150 ?_
      refine w_goto c_57_151 ?_
      refine z_ret c_57_155 rfl ?_
      exact q_i k (by unfold joinZ; simp only [h1_, Int.reduceEq, if_false, if_true]; try (first | (rw [if_pos (by omega)]) | (rw [if_neg (by omega)])))
  · refine z_lsw c_57_1 (by first | exact aRg_of _ | (unfold aRg; omega)) (pc2 := 167) (by rcases h1_ with rfl <;> rfl) ?_
    refine w_iload c_57_167 rfl ?_
    refine w_iload c_57_168 rfl ?_
    refine z_ic_ne c_57_169 (by first | exact aRg_of _ | (unfold aRg; omega)) (by first | exact aRg_of _ | (unfold aRg; omega)) (fun h4_ => ?_) (fun h4_ => ?_)
    · refine z_push c_57_176 ?_
      refine z_ret c_57_177 rfl ?_
      exact q_i k (by unfold joinZ; simp only [h1_, Int.reduceEq, if_false, if_true]; try (first | (rw [if_pos (by omega)]) | (rw [if_neg (by omega)])))
    · refine z_push c_57_172 ?_
      refine w_goto c_57_173 ?_
      refine z_ret c_57_177 rfl ?_
      exact q_i k (by unfold joinZ; simp only [h1_, Int.reduceEq, if_false, if_true]; try (first | (rw [if_pos (by omega)]) | (rw [if_neg (by omega)])))
  · refine z_lsw c_57_1 (by first | exact aRg_of _ | (unfold aRg; omega)) (pc2 := 156) (by rcases h1_ with rfl <;> rfl) ?_
    refine w_iload c_57_156 rfl ?_
    refine w_iload c_57_157 rfl ?_
    refine z_ic_le c_57_158 (by first | exact aRg_of _ | (unfold aRg; omega)) (by first | exact aRg_of _ | (unfold aRg; omega)) (fun h5_ => ?_) (fun h5_ => ?_)
    · refine z_push c_57_165 ?_
      refine z_ret c_57_166 rfl ?_
      exact q_i k (by unfold joinZ; simp only [h1_, Int.reduceEq, if_false, if_true]; try (first | (rw [if_pos (by omega)]) | (rw [if_neg (by omega)])))
    · refine z_push c_57_161 ?_
      refine w_goto c_57_162 ?_
      refine z_ret c_57_166 rfl ?_
      exact q_i k (by unfold joinZ; simp only [h1_, Int.reduceEq, if_false, if_true]; try (first | (rw [if_pos (by omega)]) | (rw [if_neg (by omega)])))
  · refine z_lsw c_57_1 (by first | exact aRg_of _ | (unfold aRg; omega)) (pc2 := 178) (by rcases h1_ with rfl <;> rfl) ?_
    refine w_iload c_57_178 rfl ?_
    refine w_iload c_57_179 rfl ?_
    refine w_ior c_57_180 (ior01 (by omega) (by omega)) ?_
    refine z_ret c_57_181 rfl ?_
    exact q_i k (by unfold joinZ; simp only [h1_, Int.reduceEq, if_false, if_true]; try (rfl))
  · refine z_lsw c_57_1 (by first | exact aRg_of _ | (unfold aRg; omega)) (pc2 := 182) (by rcases h1_ with rfl <;> rfl) ?_
    refine w_iload c_57_182 rfl ?_
    refine w_iload c_57_183 rfl ?_
    refine w_iand c_57_184 (iand01 (by omega) (by omega)) ?_
    refine z_ret c_57_185 rfl ?_
    exact q_i k (by unfold joinZ; simp only [h1_, Int.reduceEq, if_false, if_true]; try (rfl))
  · refine z_lsw c_57_1 (by first | exact aRg_of _ | (unfold aRg; omega)) (pc2 := 186) (by rcases h1_ with rfl <;> rfl) ?_
    refine w_iload c_57_186 rfl ?_
    refine w_iload c_57_187 rfl ?_
    refine z_mmin c_57_188 (by omega) (Nat.le_of_ble_eq_true rfl) (by first | exact aRg_of _ | (unfold aRg; omega)) (by first | exact aRg_of _ | (unfold aRg; omega)) ?_
    refine z_ret c_57_191 rfl ?_
    exact q_i k (by unfold joinZ; simp only [h1_, Int.reduceEq, if_false, if_true]; try (rfl))
  · refine z_lsw c_57_1 (by first | exact aRg_of _ | (unfold aRg; omega)) (pc2 := 192) (by simp only [aLks]; repeat (first | rw [if_neg (by omega)] | rfl)) ?_
    refine w_iload c_57_192 rfl ?_
    refine w_iload c_57_193 rfl ?_
    refine z_mmax c_57_194 (by omega) (Nat.le_of_ble_eq_true rfl) (by first | exact aRg_of _ | (unfold aRg; omega)) (by first | exact aRg_of _ | (unfold aRg; omega)) ?_
    refine z_ret c_57_197 rfl ?_
    exact q_i k (by unfold joinZ; simp only [h1_, Int.reduceEq, if_false, if_true]; try (rfl))

set_option maxHeartbeats 1000000 in
theorem tc_partOf {d : Nat} {I : aFI} {L : aFL} {Q : aPo} {sh : Nat} {su : Option Nat} {q : Nat} {D : Nat → Int → Int} {s b g w kc : Int} {ink age : Int → Int} {m de dr : Int} (hsh : sh = 8 ∨ sh = 22) (hl : aLk0 q) (hD : cD I sh D) (hL : isLk I q s b g w kc ink age) (hdr : I 42 1 = iI dr) (hd : 1 ≤ d) (hm : isPrt m ∨ m = 329) (hde : 0 ≤ de ∧ de < 8) (hv : 0 ≤ D 6 de ∧ D 6 de < 6) (hb : 0 ≤ b ∧ b < 100000) (hg : 0 ≤ g ∧ g < 100000) (k : Q (some (.int (iI (pvZ (envZ D s b g ink age de dr) m)))) I L (aR sh su)) : aWp none d 58 0 [.ref 42, .int (iI m), .ref q, .int (iI de)] [] I L (aR sh su) Q := by
  have hq := aLk_all hl
  refine w_iload c_58_0 rfl ?_
  rcases (show (m = 307) ∨ (m = 310) ∨ (m = 311) ∨ (m = 313) ∨ (m = 319) ∨ (m = 320) ∨ (m = 321) ∨ (m = 322) ∨ (m = 323) ∨ (m = 324) ∨ (m = 325) ∨ (m = 329) ∨ (¬ m = 307 ∧ ¬ m = 310 ∧ ¬ m = 311 ∧ ¬ m = 313 ∧ ¬ m = 319 ∧ ¬ m = 320 ∧ ¬ m = 321 ∧ ¬ m = 322 ∧ ¬ m = 323 ∧ ¬ m = 324 ∧ ¬ m = 325 ∧ ¬ m = 329) by omega) with h1_ | h1_ | h1_ | h1_ | h1_ | h1_ | h1_ | h1_ | h1_ | h1_ | h1_ | h1_ | h1_
  · refine z_tsw c_58_1 (by first | exact aRg_of _ | (unfold aRg; omega)) (pc2 := 128) (by rcases h1_ with rfl <;> rfl) ?_
    refine w_aload c_58_128 rfl ?_
    refine w_getR c_58_129 sp_42 (by decide) rfl pr_42_0 ?_
    refine w_getR c_58_132 (sps_0 hsh) (by decide) rfl (prs_8 hsh) ?_
    refine w_aload c_58_135 rfl ?_
    refine w_getR c_58_136 sp_42 (by decide) rfl pr_42_0 ?_
    refine w_getR c_58_139 (sps_0 hsh) (by decide) rfl (prs_9 hsh) ?_
    refine w_iload c_58_142 rfl ?_
    refine z_iaload c_58_143 (sps_6 hsh) (by omega) (by first | decide | omega) (hD.a 6 (by omega) (by omega)) ?_
    refine z_iaload c_58_144 (sps_5 hsh) (by omega) (by first | decide | omega) (hD.a 5 (by omega) (by omega)) ?_
    refine z_ret c_58_145 rfl ?_
    exact q_i k (by unfold pvZ envZ; simp only [h1_, Int.reduceEq, Int.reduceLE, if_false, if_true])
  · refine z_tsw c_58_1 (by first | exact aRg_of _ | (unfold aRg; omega)) (pc2 := 108) (by rcases h1_ with rfl <;> rfl) ?_
    refine w_aload c_58_108 rfl ?_
    refine w_getR c_58_109 sp_42 (by decide) rfl pr_42_0 ?_
    refine w_getR c_58_112 (sps_0 hsh) (by decide) rfl (prs_10 hsh) ?_
    refine w_iload c_58_115 rfl ?_
    refine z_iaload c_58_116 (sps_7 hsh) (by omega) (by first | decide | omega) (hD.a 7 (by omega) (by omega)) ?_
    refine z_ret c_58_117 rfl ?_
    exact q_i k (by unfold pvZ envZ; simp only [h1_, Int.reduceEq, Int.reduceLE, if_false, if_true])
  · refine z_tsw c_58_1 (by first | exact aRg_of _ | (unfold aRg; omega)) (pc2 := 118) (by rcases h1_ with rfl <;> rfl) ?_
    refine w_aload c_58_118 rfl ?_
    refine w_getR c_58_119 sp_42 (by decide) rfl pr_42_0 ?_
    refine w_getR c_58_122 (sps_0 hsh) (by decide) rfl (prs_11 hsh) ?_
    refine w_iload c_58_125 rfl ?_
    refine z_iaload c_58_126 (sps_8 hsh) (by omega) (by first | decide | omega) (hD.a 8 (by omega) (by omega)) ?_
    refine z_ret c_58_127 rfl ?_
    exact q_i k (by unfold pvZ envZ; simp only [h1_, Int.reduceEq, Int.reduceLE, if_false, if_true])
  · refine z_tsw c_58_1 (by first | exact aRg_of _ | (unfold aRg; omega)) (pc2 := 187) (by rcases h1_ with rfl <;> rfl) ?_
    refine w_aload c_58_187 rfl ?_
    refine z_getZ c_58_188 sp_42 (by decide) rfl hdr ?_
    refine z_ret c_58_191 rfl ?_
    exact q_i k (by unfold pvZ envZ; simp only [h1_, Int.reduceEq, Int.reduceLE, if_false, if_true])
  · refine z_tsw c_58_1 (by first | exact aRg_of _ | (unfold aRg; omega)) (pc2 := 146) (by rcases h1_ with rfl <;> rfl) ?_
    refine w_aload c_58_146 rfl ?_
    refine z_getZ c_58_147 hq.1 (by decide) rfl hL.1 ?_
    refine z_ret c_58_150 rfl ?_
    exact q_i k (by unfold pvZ envZ; simp only [h1_, Int.reduceEq, Int.reduceLE, if_false, if_true])
  · refine z_tsw c_58_1 (by first | exact aRg_of _ | (unfold aRg; omega)) (pc2 := 151) (by rcases h1_ with rfl <;> rfl) ?_
    refine w_aload c_58_151 rfl ?_
    refine z_getZ c_58_152 hq.1 (by decide) rfl hL.2.1 ?_
    refine z_ret c_58_155 rfl ?_
    exact q_i k (by unfold pvZ envZ; simp only [h1_, Int.reduceEq, Int.reduceLE, if_false, if_true])
  · refine z_tsw c_58_1 (by first | exact aRg_of _ | (unfold aRg; omega)) (pc2 := 156) (by rcases h1_ with rfl <;> rfl) ?_
    refine w_aload c_58_156 rfl ?_
    refine wc_7 c_58_157 hq.1 (Nat.le_of_ble_eq_true rfl) (by omega) ?_
    refine tc_darkness hl hL.2.1 hL.2.2.1 hb hg ?_
    refine r_i ?_
    refine z_ret c_58_160 rfl ?_
    exact q_i k (by unfold pvZ envZ; simp only [h1_, Int.reduceEq, Int.reduceLE, if_false, if_true])
  · refine z_tsw c_58_1 (by first | exact aRg_of _ | (unfold aRg; omega)) (pc2 := 161) (by rcases h1_ with rfl <;> rfl) ?_
    refine w_aload c_58_161 rfl ?_
    refine w_getR c_58_162 hq.1 (by decide) rfl (hq.2.2.2 _ _).1 ?_
    refine w_iload c_58_165 rfl ?_
    refine z_iaload c_58_166 hq.2.1 (by omega) (by first | decide | omega) (hL.2.2.2.2.2 _ (by omega) (by omega)).1 ?_
    refine z_ret c_58_167 rfl ?_
    exact q_i k (by unfold pvZ envZ; simp only [h1_, Int.reduceEq, Int.reduceLE, if_false, if_true])
  · refine z_tsw c_58_1 (by first | exact aRg_of _ | (unfold aRg; omega)) (pc2 := 168) (by rcases h1_ with rfl <;> rfl) ?_
    refine w_aload c_58_168 rfl ?_
    refine w_getR c_58_169 hq.1 (by decide) rfl (hq.2.2.2 _ _).2 ?_
    refine w_iload c_58_172 rfl ?_
    refine z_iaload c_58_173 hq.2.2.1 (by omega) (by first | decide | omega) (hL.2.2.2.2.2 _ (by omega) (by omega)).2 ?_
    refine z_ret c_58_174 rfl ?_
    exact q_i k (by unfold pvZ envZ; simp only [h1_, Int.reduceEq, Int.reduceLE, if_false, if_true])
  · refine z_tsw c_58_1 (by first | exact aRg_of _ | (unfold aRg; omega)) (pc2 := 175) (by rcases h1_ with rfl <;> rfl) ?_
    refine w_iload c_58_175 rfl ?_
    refine z_ret c_58_176 rfl ?_
    exact q_i k (by unfold pvZ envZ; simp only [h1_, Int.reduceEq, Int.reduceLE, if_false, if_true])
  · refine z_tsw c_58_1 (by first | exact aRg_of _ | (unfold aRg; omega)) (pc2 := 177) (by rcases h1_ with rfl <;> rfl) ?_
    refine w_aload c_58_177 rfl ?_
    refine w_getR c_58_178 sp_42 (by decide) rfl pr_42_0 ?_
    refine w_getR c_58_181 (sps_0 hsh) (by decide) rfl (prs_12 hsh) ?_
    refine w_iload c_58_184 rfl ?_
    refine z_iaload c_58_185 (sps_9 hsh) (by omega) (by first | decide | omega) (hD.a 9 (by omega) (by omega)) ?_
    refine z_ret c_58_186 rfl ?_
    exact q_i k (by unfold pvZ envZ; simp only [h1_, Int.reduceEq, Int.reduceLE, if_false, if_true])
  · refine z_tsw c_58_1 (by first | exact aRg_of _ | (unfold aRg; omega)) (pc2 := 192) (by rcases h1_ with rfl <;> rfl) ?_
    refine z_push c_58_192 ?_
    refine z_ret c_58_193 rfl ?_
    exact q_i k (by unfold pvZ envZ; simp only [h1_, Int.reduceEq, Int.reduceLE, if_false, if_true])
  · refine z_tsw c_58_1 (by first | exact aRg_of _ | (unfold aRg; omega)) (pc2 := 194) (by (by_cases hq : m < 307 ∨ 329 < m); (rw [if_pos hq]; rfl); (rw [if_neg hq]; rcases (show m = 308 ∨ m = 309 ∨ m = 312 ∨ m = 314 ∨ m = 315 ∨ m = 316 ∨ m = 317 ∨ m = 318 ∨ m = 326 ∨ m = 327 ∨ m = 328 by omega) with hq2 | hq2 | hq2 | hq2 | hq2 | hq2 | hq2 | hq2 | hq2 | hq2 | hq2 <;> first | rfl | (rw [hq2]; rfl))) ?_
    refine w_iload c_58_194 rfl ?_
    refine z_push c_58_195 ?_
    refine z_isub c_58_198 ?_
    refine z_ret c_58_199 rfl ?_
    exact q_i k (if_pos (by omega))

