/-! the reference: leaves of its reader (m1.py) -/
set_option maxHeartbeats 1000000 in
theorem t_isIn {d : Nat} {I : aFI} {L : aFL} {R : aFR} {Q : aPo} {a b c : Int} (ha : aRl a) (hb : aRl b) (hc : aRl c) (k : Q (some (.int (aBo (decide (b ≤ a ∧ a ≤ c))))) I L R) : aWp none d 130 0 [.long (lI a), .null, .long (lI b), .null, .long (lI c), .null] [] I L R Q := by
  refine w_lload c_130_0 rfl ?_
  refine w_lload c_130_1 rfl ?_
  refine z_lc_lt c_130_2 c_130_3 (by assumption) (by assumption) (fun h1_ => ?_) (fun h1_ => ?_)
  · refine z_push c_130_17 ?_
    refine z_ret0 c_130_18 rfl ?_
    exact (by have := k; rwa [show decide (b ≤ a ∧ a ≤ c) = false from by simp; omega] at this)
  · refine w_lload c_130_6 rfl ?_
    refine w_lload c_130_7 rfl ?_
    refine z_lc_gt c_130_9 c_130_10 (by assumption) (by assumption) (fun h2_ => ?_) (fun h2_ => ?_)
    · refine z_push c_130_17 ?_
      refine z_ret0 c_130_18 rfl ?_
      exact (by have := k; rwa [show decide (b ≤ a ∧ a ≤ c) = false from by simp; omega] at this)
    · refine z_push c_130_13 ?_
      refine w_goto c_130_14 ?_
      refine z_ret1 c_130_18 rfl ?_
      exact (by have := k; rwa [show decide (b ≤ a ∧ a ≤ c) = true from by simp; omega] at this)

set_option maxHeartbeats 1000000 in
theorem tm_isLetter {d : Nat} {I : aFI} {L : aFL} {R : aFR} {Q : aPo} {a : Int} (ha : aRg a) (k : Q (some (.int (aBo (decide (97 ≤ a ∧ a ≤ 122))))) I L R) : aWp none d 134 0 [.int (iI a)] [] I L R Q := by
  refine w_iload c_134_0 rfl ?_
  refine z_push c_134_1 ?_
  refine z_ic_lt c_134_3 (by unfold aRg at *; omega) (by unfold aRg at *; omega) (fun h1_ => ?_) (fun h1_ => ?_)
  · refine z_push c_134_16 ?_
    refine z_ret0 c_134_17 rfl ?_
    exact (by have := k; rwa [show decide (97 ≤ a ∧ a ≤ 122) = false from by simp; omega] at this)
  · refine w_iload c_134_6 rfl ?_
    refine z_push c_134_7 ?_
    refine z_ic_gt c_134_9 (by unfold aRg at *; omega) (by unfold aRg at *; omega) (fun h2_ => ?_) (fun h2_ => ?_)
    · refine z_push c_134_16 ?_
      refine z_ret0 c_134_17 rfl ?_
      exact (by have := k; rwa [show decide (97 ≤ a ∧ a ≤ 122) = false from by simp; omega] at this)
    · refine z_push c_134_12 ?_
      refine w_goto c_134_13 ?_
      refine z_ret1 c_134_17 rfl ?_
      exact (by have := k; rwa [show decide (97 ≤ a ∧ a ≤ 122) = true from by simp; omega] at this)

set_option maxHeartbeats 1000000 in
theorem tc_isLetter {d : Nat} {I : aFI} {L : aFL} {R : aFR} {Q : aPo} {a : Int} (ha : aRg a) (k : Q (some (.int (aBo (decide (97 ≤ a ∧ a ≤ 122))))) I L R) : aWp none d 13 0 [.int (iI a)] [] I L R Q := by
  refine w_iload c_13_0 rfl ?_
  refine z_push c_13_1 ?_
  refine z_ic_lt c_13_3 (by unfold aRg at *; omega) (by unfold aRg at *; omega) (fun h1_ => ?_) (fun h1_ => ?_)
  · refine z_push c_13_16 ?_
    refine z_ret0 c_13_17 rfl ?_
    exact (by have := k; rwa [show decide (97 ≤ a ∧ a ≤ 122) = false from by simp; omega] at this)
  · refine w_iload c_13_6 rfl ?_
    refine z_push c_13_7 ?_
    refine z_ic_gt c_13_9 (by unfold aRg at *; omega) (by unfold aRg at *; omega) (fun h2_ => ?_) (fun h2_ => ?_)
    · refine z_push c_13_16 ?_
      refine z_ret0 c_13_17 rfl ?_
      exact (by have := k; rwa [show decide (97 ≤ a ∧ a ≤ 122) = false from by simp; omega] at this)
    · refine z_push c_13_12 ?_
      refine w_goto c_13_13 ?_
      refine z_ret1 c_13_17 rfl ?_
      exact (by have := k; rwa [show decide (97 ≤ a ∧ a ≤ 122) = true from by simp; omega] at this)

set_option maxHeartbeats 1000000 in
theorem tm_isDigit {d : Nat} {I : aFI} {L : aFL} {R : aFR} {Q : aPo} {a : Int} (ha : aRg a) (k : Q (some (.int (aBo (decide (48 ≤ a ∧ a ≤ 57))))) I L R) : aWp none d 135 0 [.int (iI a)] [] I L R Q := by
  refine w_iload c_135_0 rfl ?_
  refine z_push c_135_1 ?_
  refine z_ic_lt c_135_3 (by unfold aRg at *; omega) (by unfold aRg at *; omega) (fun h1_ => ?_) (fun h1_ => ?_)
  · refine z_push c_135_16 ?_
    refine z_ret0 c_135_17 rfl ?_
    exact (by have := k; rwa [show decide (48 ≤ a ∧ a ≤ 57) = false from by simp; omega] at this)
  · refine w_iload c_135_6 rfl ?_
    refine z_push c_135_7 ?_
    refine z_ic_gt c_135_9 (by unfold aRg at *; omega) (by unfold aRg at *; omega) (fun h2_ => ?_) (fun h2_ => ?_)
    · refine z_push c_135_16 ?_
      refine z_ret0 c_135_17 rfl ?_
      exact (by have := k; rwa [show decide (48 ≤ a ∧ a ≤ 57) = false from by simp; omega] at this)
    · refine z_push c_135_12 ?_
      refine w_goto c_135_13 ?_
      refine z_ret1 c_135_17 rfl ?_
      exact (by have := k; rwa [show decide (48 ≤ a ∧ a ≤ 57) = true from by simp; omega] at this)

set_option maxHeartbeats 1000000 in
theorem tc_isDigit {d : Nat} {I : aFI} {L : aFL} {R : aFR} {Q : aPo} {a : Int} (ha : aRg a) (k : Q (some (.int (aBo (decide (48 ≤ a ∧ a ≤ 57))))) I L R) : aWp none d 14 0 [.int (iI a)] [] I L R Q := by
  refine w_iload c_14_0 rfl ?_
  refine z_push c_14_1 ?_
  refine z_ic_lt c_14_3 (by unfold aRg at *; omega) (by unfold aRg at *; omega) (fun h1_ => ?_) (fun h1_ => ?_)
  · refine z_push c_14_16 ?_
    refine z_ret0 c_14_17 rfl ?_
    exact (by have := k; rwa [show decide (48 ≤ a ∧ a ≤ 57) = false from by simp; omega] at this)
  · refine w_iload c_14_6 rfl ?_
    refine z_push c_14_7 ?_
    refine z_ic_gt c_14_9 (by unfold aRg at *; omega) (by unfold aRg at *; omega) (fun h2_ => ?_) (fun h2_ => ?_)
    · refine z_push c_14_16 ?_
      refine z_ret0 c_14_17 rfl ?_
      exact (by have := k; rwa [show decide (48 ≤ a ∧ a ≤ 57) = false from by simp; omega] at this)
    · refine z_push c_14_12 ?_
      refine w_goto c_14_13 ?_
      refine z_ret1 c_14_17 rfl ?_
      exact (by have := k; rwa [show decide (48 ≤ a ∧ a ≤ 57) = true from by simp; omega] at this)

