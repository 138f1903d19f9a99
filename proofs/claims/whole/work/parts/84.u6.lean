/-! both sides: on (p84.py) -/
def t2 (T : Int → Int) (k : Int) : Int := 256 * T k + T (k + 1)
theorem t2_rg {T : Int → Int} (hTr : ∀ j : Int, 0 ≤ T j ∧ T j ≤ 255) (k : Int) : 0 ≤ t2 T k ∧ t2 T k ≤ 65535 := by
  have h1 := hTr k
  have h2 := hTr (k + 1)
  unfold t2; omega
/-- a deed's octets can be -/
abbrev dOK (T : Int → Int) (k : Int) : Prop := (T k = 0 ∧ t2 T (k + 1) = 0 ∧ T (k + 3) = 99) ∨ (T k = 1 ∧ t2 T (k + 1) ≤ 9999 ∧ T (k + 3) ≤ 99)
abbrev ckT (T : Int → Int) (n : Nat) : Int := ckF (fun k => T k) n
def imC (D : Nat → Int → Int) (T : Int → Int) (nt : Int) : Prop := (D 0 0 = 1 ∧ nt = 7 + 4 * D 1 2 ∧ T (nt - 1) = ckT T (nt - 1).toNat) ∧ (t2 T 0 ≤ 999 ∧ t2 T 2 ≤ D 0 1 ∧ t2 T 4 ≤ 9999) ∧ ∀ i : Int, 0 ≤ i → i < D 1 2 → dOK T (6 + 4 * i)
/-- the state that an image tells -/
def onX (D : Nat → Int → Int) (T : Int → Int) : Lk := (t2 T 0, t2 T 2, t2 T 4, bb (fun i => decide (T (6 + 4 * i) = 1)) (D 1 2).toNat, (fun j => if 0 ≤ j ∧ j < D 1 2 then t2 T (7 + 4 * j) else 0), (fun j => if 0 ≤ j ∧ j < D 1 2 then T (9 + 4 * j) else 99))
theorem shlT {v i : Int} (hv : v = 0 ∨ v = 1) (hi : 0 ≤ i ∧ i < 8) : iI v <<< (iI i &&& 31) = iI ((if v = 1 then 2 ^ i.toNat else 0 : Nat) : Int) := by
  rcases hv with rfl | rfl
  · rw [if_neg (by decide)]
    have h1 : (List.range 8).all (fun i => decide (iI 0 <<< (iI (i : Nat) &&& 31) = iI ((0 : Nat) : Int))) = true := by decide +kernel
    have h2 := of_decide_eq_true (List.all_eq_true.mp h1 i.toNat (List.mem_range.mpr (by omega)))
    rwa [Int.toNat_of_nonneg hi.1] at h2
  · rw [if_pos rfl]; exact shl1 (by omega)
set_option maxHeartbeats 1000000 in
theorem t_twoAt {d : Nat} {I : aFI} {L : aFL} {Q : aPo} {sh : Nat} {su : Option Nat} {T : Int → Int} {e : Int} (hT : ∀ j : Int, 0 ≤ j → j < 1600 → I 158 j.toNat = iI (T j)) (hTr : ∀ j : Int, 0 ≤ T j ∧ T j ≤ 255) (he : 0 ≤ e ∧ e < 1599) (k : Q (some (.int (iI (t2 T e)))) I L (aR sh su)) : aWp none d 252 0 [.ref 157, .int (iI e)] [] I L (aR sh su) Q := by
  refine z_push c_252_0 ?_
  refine w_aload c_252_3 rfl ?_
  refine w_getR c_252_4 sp_157 (by decide) rfl pr_157_0 ?_
  refine w_iload c_252_7 rfl ?_
  refine z_iaload c_252_8 sp_158 (by omega) (by first | decide | omega) (hT _ (by omega) (by omega)) ?_
  refine z_imul c_252_9 ?_
  refine w_aload c_252_10 rfl ?_
  refine w_getR c_252_11 sp_157 (by decide) rfl pr_157_0 ?_
  refine w_iload c_252_14 rfl ?_
  refine z_push c_252_15 ?_
  refine z_iadd c_252_16 ?_
  refine z_iaload c_252_17 sp_158 (by omega) (by first | decide | omega) (hT _ (by omega) (by omega)) ?_
  refine z_iadd c_252_18 ?_
  refine z_ret c_252_19 rfl ?_
  exact k

set_option maxHeartbeats 1000000 in
theorem t_isDeedTold {d : Nat} {I : aFI} {L : aFL} {Q : aPo} {sh : Nat} {su : Option Nat} {T : Int → Int} {e : Int} (hT : ∀ j : Int, 0 ≤ j → j < 1600 → I 158 j.toNat = iI (T j)) (hTr : ∀ j : Int, 0 ≤ T j ∧ T j ≤ 255) (he : 0 ≤ e ∧ e < 8) (hd : 1 ≤ d) (k : Q (some (.int (aBo (decide (dOK T (6 + 4 * e)))))) I L (aR sh su)) : aWp none d 253 0 [.ref 157, .int (iI e), .null] [] I L (aR sh su) Q := by
  have h1 := hTr (6 + 4 * e)
  have h2 := hTr (6 + 4 * e + 3)
  have h3 := t2_rg hTr (6 + 4 * e + 1)
  refine z_push c_253_0 ?_
  refine z_push c_253_2 ?_
  refine w_iload c_253_3 rfl ?_
  refine z_imul c_253_4 ?_
  refine z_iadd c_253_5 ?_
  refine w_istore c_253_6 (Nat.le_of_ble_eq_true rfl) rfl ?_
  refine w_aload c_253_7 rfl ?_
  refine w_getR c_253_8 sp_157 (by decide) rfl pr_157_0 ?_
  refine w_iload c_253_11 rfl ?_
  refine z_iaload c_253_12 sp_158 (by omega) (by first | decide | omega) (hT _ (by omega) (by omega)) ?_
  refine z_if_ne c_253_13 (by first | exact aRg_of _ | (unfold aRg; omega)) (fun h1_ => ?_) (fun h1_ => ?_)
  · refine w_aload c_253_45 rfl ?_
    refine w_getR c_253_46 sp_157 (by decide) rfl pr_157_0 ?_
    refine w_iload c_253_49 rfl ?_
    refine z_iaload c_253_50 sp_158 (by omega) (by first | decide | omega) (hT _ (by omega) (by omega)) ?_
    refine z_push c_253_51 ?_
    refine z_ic_ne c_253_52 (by first | exact aRg_of _ | (unfold aRg; omega)) (by first | exact aRg_of _ | (unfold aRg; omega)) (fun h2_ => ?_) (fun h2_ => ?_)
    · refine z_push c_253_85 ?_
      refine z_ret0 c_253_86 rfl ?_
      first
      | exact q_b k (decide_eq_true (by unfold dOK; omega))
      | exact q_b k (decide_eq_false (by unfold dOK; omega))
    · refine w_aload c_253_55 rfl ?_
      refine w_iload c_253_56 rfl ?_
      refine z_push c_253_57 ?_
      refine z_iadd c_253_58 ?_
      refine wc_252 c_253_59 sp_157 (Nat.le_of_ble_eq_true rfl) (by omega) ?_
      refine t_twoAt hT hTr (by omega) ?_
      refine r_i ?_
      refine z_push c_253_62 ?_
      refine z_ic_gt c_253_65 (by first | exact aRg_of _ | (unfold aRg; omega)) (by first | exact aRg_of _ | (unfold aRg; omega)) (fun h3_ => ?_) (fun h3_ => ?_)
      · refine z_push c_253_85 ?_
        refine z_ret0 c_253_86 rfl ?_
        first
        | exact q_b k (decide_eq_true (by unfold dOK; omega))
        | exact q_b k (decide_eq_false (by unfold dOK; omega))
      · refine w_aload c_253_68 rfl ?_
        refine w_getR c_253_69 sp_157 (by decide) rfl pr_157_0 ?_
        refine w_iload c_253_72 rfl ?_
        refine z_push c_253_73 ?_
        refine z_iadd c_253_74 ?_
        refine z_iaload c_253_75 sp_158 (by omega) (by first | decide | omega) (hT _ (by omega) (by omega)) ?_
        refine z_push c_253_76 ?_
        refine z_ic_gt c_253_78 (by first | exact aRg_of _ | (unfold aRg; omega)) (by first | exact aRg_of _ | (unfold aRg; omega)) (fun h4_ => ?_) (fun h4_ => ?_)
        · refine z_push c_253_85 ?_
          refine z_ret0 c_253_86 rfl ?_
          first
          | exact q_b k (decide_eq_true (by unfold dOK; omega))
          | exact q_b k (decide_eq_false (by unfold dOK; omega))
        · refine z_push c_253_81 ?_
          refine w_goto c_253_82 ?_
          refine z_ret1 c_253_86 rfl ?_
          first
          | exact q_b k (decide_eq_true (by unfold dOK; omega))
          | exact q_b k (decide_eq_false (by unfold dOK; omega))
  · refine w_aload c_253_16 rfl ?_
    refine w_iload c_253_17 rfl ?_
    refine z_push c_253_18 ?_
    refine z_iadd c_253_19 ?_
    refine wc_252 c_253_20 sp_157 (Nat.le_of_ble_eq_true rfl) (by omega) ?_
    refine t_twoAt hT hTr (by omega) ?_
    refine r_i ?_
    refine z_if_ne c_253_23 (by first | exact aRg_of _ | (unfold aRg; omega)) (fun h5_ => ?_) (fun h5_ => ?_)
    · refine z_push c_253_43 ?_
      refine z_ret0 c_253_44 rfl ?_
      first
      | exact q_b k (decide_eq_true (by unfold dOK; omega))
      | exact q_b k (decide_eq_false (by unfold dOK; omega))
    · refine w_aload c_253_26 rfl ?_
      refine w_getR c_253_27 sp_157 (by decide) rfl pr_157_0 ?_
      refine w_iload c_253_30 rfl ?_
      refine z_push c_253_31 ?_
      refine z_iadd c_253_32 ?_
      refine z_iaload c_253_33 sp_158 (by omega) (by first | decide | omega) (hT _ (by omega) (by omega)) ?_
      refine z_push c_253_34 ?_
      refine z_ic_ne c_253_36 (by first | exact aRg_of _ | (unfold aRg; omega)) (by first | exact aRg_of _ | (unfold aRg; omega)) (fun h6_ => ?_) (fun h6_ => ?_)
      · refine z_push c_253_43 ?_
        refine z_ret0 c_253_44 rfl ?_
        first
        | exact q_b k (decide_eq_true (by unfold dOK; omega))
        | exact q_b k (decide_eq_false (by unfold dOK; omega))
      · refine z_push c_253_39 ?_
        refine w_goto c_253_40 ?_
        refine z_ret1 c_253_44 rfl ?_
        first
        | exact q_b k (decide_eq_true (by unfold dOK; omega))
        | exact q_b k (decide_eq_false (by unfold dOK; omega))

set_option maxHeartbeats 1000000 in
theorem tc_isDeedImage {d : Nat} {I : aFI} {L : aFL} {Q : aPo} {sh : Nat} {su : Option Nat} {T : Int → Int} {e : Int} (hT : ∀ j : Int, 0 ≤ j → j < 1600 → I 1 j.toNat = iI (T j)) (hTr : ∀ j : Int, 0 ≤ T j ∧ T j ≤ 255) (he : 0 ≤ e ∧ e < 8) (hd : 1 ≤ d) (k : Q (some (.int (aBo (decide (dOK T (6 + 4 * e)))))) I L (aR sh su)) : aWp none d 128 0 [.ref 0, .int (iI (6 + 4 * e)), .null, .null] [] I L (aR sh su) Q := by
  have h1 := hTr (6 + 4 * e)
  have h2 := hTr (6 + 4 * e + 3)
  have h3 := t2_rg hTr (6 + 4 * e + 1)
  have h4 : 256 * T (6 + 4 * e + 1) + T (6 + 4 * e + 1 + 1) = t2 T (6 + 4 * e + 1) := rfl
  refine w_aload c_128_0 rfl ?_
  refine w_iload c_128_1 rfl ?_
  refine z_push c_128_2 ?_
  refine z_iadd c_128_3 ?_
  refine wc_111 c_128_4 sp_0 (Nat.le_of_ble_eq_true rfl) (by omega) ?_
  refine tc_pairAt hT hTr (by omega) ?_
  refine r_i ?_
  refine w_istore c_128_7 (Nat.le_of_ble_eq_true rfl) rfl ?_
  refine w_aload c_128_8 rfl ?_
  refine w_getR c_128_9 sp_0 (by decide) rfl pr_0_0 ?_
  refine w_iload c_128_12 rfl ?_
  refine z_push c_128_13 ?_
  refine z_iadd c_128_14 ?_
  refine z_iaload c_128_15 sp_1 (by omega) (by first | decide | omega) (hT _ (by omega) (by omega)) ?_
  refine w_istore c_128_16 (Nat.le_of_ble_eq_true rfl) rfl ?_
  refine w_aload c_128_17 rfl ?_
  refine w_getR c_128_18 sp_0 (by decide) rfl pr_0_0 ?_
  refine w_iload c_128_21 rfl ?_
  refine z_iaload c_128_22 sp_1 (by omega) (by first | decide | omega) (hT _ (by omega) (by omega)) ?_
  rcases (show ((T (6 + 4 * e)) = 0) ∨ ((T (6 + 4 * e)) = 1) ∨ (¬ (T (6 + 4 * e)) = 0 ∧ ¬ (T (6 + 4 * e)) = 1) by omega) with h1_ | h1_ | h1_
  · refine z_lsw c_128_23 (by first | exact aRg_of _ | (unfold aRg; omega)) (pc2 := 48) (by rcases h1_ with h1_ <;> (rw [h1_]; rfl)) ?_
    refine w_iload c_128_48 rfl ?_
    refine z_if_ne c_128_49 (by first | exact aRg_of _ | (unfold aRg; omega)) (fun h2_ => ?_) (fun h2_ => ?_)
    · refine z_push c_128_62 ?_
      refine z_ret0 c_128_63 rfl ?_
      first
      | exact q_b k (decide_eq_true (by unfold dOK; omega))
      | exact q_b k (decide_eq_false (by unfold dOK; omega))
    · refine w_iload c_128_52 rfl ?_
      refine z_push c_128_53 ?_
      refine z_ic_ne c_128_55 (by first | exact aRg_of _ | (unfold aRg; omega)) (by first | exact aRg_of _ | (unfold aRg; omega)) (fun h3_ => ?_) (fun h3_ => ?_)
      · refine z_push c_128_62 ?_
        refine z_ret0 c_128_63 rfl ?_
        first
        | exact q_b k (decide_eq_true (by unfold dOK; omega))
        | exact q_b k (decide_eq_false (by unfold dOK; omega))
      · refine z_push c_128_58 ?_
        refine w_goto c_128_59 ?_
        refine z_ret1 c_128_63 rfl ?_
        first
        | exact q_b k (decide_eq_true (by unfold dOK; omega))
        | exact q_b k (decide_eq_false (by unfold dOK; omega))
  · refine z_lsw c_128_23 (by first | exact aRg_of _ | (unfold aRg; omega)) (pc2 := 64) (by rcases h1_ with h1_ <;> (rw [h1_]; rfl)) ?_
    refine w_iload c_128_64 rfl ?_
    refine z_push c_128_65 ?_
    refine z_ic_gt c_128_68 (by first | exact aRg_of _ | (unfold aRg; omega)) (by first | exact aRg_of _ | (unfold aRg; omega)) (fun h4_ => ?_) (fun h4_ => ?_)
    · refine z_push c_128_81 ?_
      refine z_ret0 c_128_82 rfl ?_
      first
      | exact q_b k (decide_eq_true (by unfold dOK; omega))
      | exact q_b k (decide_eq_false (by unfold dOK; omega))
    · refine w_iload c_128_71 rfl ?_
      refine z_push c_128_72 ?_
      refine z_ic_gt c_128_74 (by first | exact aRg_of _ | (unfold aRg; omega)) (by first | exact aRg_of _ | (unfold aRg; omega)) (fun h5_ => ?_) (fun h5_ => ?_)
      · refine z_push c_128_81 ?_
        refine z_ret0 c_128_82 rfl ?_
        first
        | exact q_b k (decide_eq_true (by unfold dOK; omega))
        | exact q_b k (decide_eq_false (by unfold dOK; omega))
      · refine z_push c_128_77 ?_
        refine w_goto c_128_78 ?_
        refine z_ret1 c_128_82 rfl ?_
        first
        | exact q_b k (decide_eq_true (by unfold dOK; omega))
        | exact q_b k (decide_eq_false (by unfold dOK; omega))
  · refine z_lsw c_128_23 (by first | exact aRg_of _ | (unfold aRg; omega)) (pc2 := 83) (by simp only [aLks]; repeat (first | rw [if_neg (by omega)] | rfl)) ?_
    refine z_push c_128_83 ?_
    refine z_ret0 c_128_84 rfl ?_
    first
    | exact q_b k (decide_eq_true (by unfold dOK; omega))
    | exact q_b k (decide_eq_false (by unfold dOK; omega))

set_option maxHeartbeats 2000000 in
theorem t_isImage_1 {d : Nat} {I : aFI} {L : aFL} {Q : aPo} {sh : Nat} {su : Option Nat} {D : Nat → Int → Int} {cd : Nat → Option (List Int)} {T : Int → Int} {nt : Int} (hS : wfS D cd) (hD : rD I D) (hT : ∀ j : Int, 0 ≤ j → j < 1600 → I 158 j.toNat = iI (T j)) (hTr : ∀ j : Int, 0 ≤ T j ∧ T j ≤ 255) (hn0 : 0 ≤ nt ∧ nt ≤ 1600) (hd : 3 ≤ d) : ∀ (n : Nat) (i : Int), (D 1 2 - i).toNat < n → (0 ≤ i) → (i ≤ D 1 2) → (((D 0 0 = 1 ∧ nt = 7 + 4 * D 1 2 ∧ T (nt - 1) = ckT T (nt - 1).toNat) ∧ (t2 T 0 ≤ 999 ∧ t2 T 2 ≤ D 0 1 ∧ t2 T 4 ≤ 9999))) → (∀ j : Int, 0 ≤ j → j < i → dOK T (6 + 4 * j)) → (imC D T nt → Q (some (.int (aBo true))) I L (aR sh su)) → (¬ imC D T nt → Q (some (.int (aBo false))) I L (aR sh su)) → aWp none d 254 79 [.ref 157, .int (iI nt), .int (iI i)] [] I L (aR sh su) Q := by
  intro n
  induction n with
  | zero => intro i h; omega
  | succ n ih =>
    intro i hn2 h0 h1 hA hB k1 k2
    have hdd := hS.n
    refine w_iload c_254_79 rfl ?_
    refine w_aload c_254_80 rfl ?_
    refine wc_161 c_254_81 sp_157 (Nat.le_of_ble_eq_true rfl) (by omega) ?_
    refine t_deedMany hD ?_
    refine r_i ?_
    refine z_ic_ge c_254_84 (by first | exact aRg_of _ | (unfold aRg; omega)) (by first | exact aRg_of _ | (unfold aRg; omega)) (fun h1_ => ?_) (fun h1_ => ?_)
    · refine z_push c_254_103 ?_
      refine z_ret1 c_254_104 rfl ?_
      have e9 : i = D 1 2 := by omega
      subst e9
      exact k1 ⟨hA.1, hA.2, hB⟩
    · refine w_aload c_254_87 rfl ?_
      refine w_iload c_254_88 rfl ?_
      refine wc_253 c_254_89 sp_157 (Nat.le_of_ble_eq_true rfl) (by omega) ?_
      refine t_isDeedTold hT hTr ⟨h0, by omega⟩ (by omega) ?_
      refine r_i ?_
      refine b_if_ne c_254_92 (fun h2_ => ?_) (fun h2_ => ?_)
      · refine z_iinc c_254_97 rfl rfl ?_
        refine w_goto c_254_100 ?_
        have hdo : dOK T (6 + 4 * i) := of_decide_eq_true (by assumption)
        exact ih (i + 1) (by omega) (by omega) (by omega) hA (fun j z1 z2 => by
          by_cases hji : j = i
          · subst hji; exact hdo
          · exact hB j z1 (by omega)) k1 k2
      · refine z_push c_254_95 ?_
        refine z_ret0 c_254_96 rfl ?_
        exact k2 (fun z => absurd (z.2.2 i h0 (by omega)) (of_decide_eq_false (by assumption)))

set_option maxHeartbeats 1000000 in
theorem t_isImage {d : Nat} {I : aFI} {L : aFL} {Q : aPo} {sh : Nat} {su : Option Nat} {D : Nat → Int → Int} {cd : Nat → Option (List Int)} {T : Int → Int} {nt : Int} (hS : wfS D cd) (hD : rD I D) (hT : ∀ j : Int, 0 ≤ j → j < 1600 → I 158 j.toNat = iI (T j)) (hTr : ∀ j : Int, 0 ≤ T j ∧ T j ≤ 255) (hn0 : 0 ≤ nt ∧ nt ≤ 1600) (hd : 3 ≤ d) (k1 : imC D T nt → Q (some (.int (aBo true))) I L (aR sh su)) (k2 : ¬ imC D T nt → Q (some (.int (aBo false))) I L (aR sh su)) : aWp none d 254 0 [.ref 157, .int (iI nt), .null] [] I L (aR sh su) Q := by
  have hdd := hS.n
  have hhh := hS.h
  have h2a := t2_rg hTr 0
  have h2b := t2_rg hTr 2
  have h2c := t2_rg hTr 4
  have hck := ckF_rg (f := fun k => T k) (nt - 1).toNat
  have hckT : ckT T (nt - 1).toNat = ckF (fun k => T k) (nt - 1).toNat := rfl
  have htl := hTr (nt - 1)
  refine w_aload c_254_0 rfl ?_
  refine z_getB c_254_1 sp_157 (by decide) rfl hD.2.2.2.1 ?_
  refine b_if_eq c_254_4 (fun h1_ => ?_) (fun h1_ => ?_)
  · refine z_push c_254_75 ?_
    refine z_ret0 c_254_76 rfl ?_
    exact k2 (fun z => by first | exact absurd z.1.1 (of_decide_eq_false (by assumption)) | (have z1 := z.1.2.1; omega) | (have z1 := z.1.2.2; omega) | (have z1 := z.2.1; omega))
  · refine w_iload c_254_7 rfl ?_
    refine z_push c_254_8 ?_
    refine z_push c_254_10 ?_
    refine w_aload c_254_11 rfl ?_
    refine wc_161 c_254_12 sp_157 (Nat.le_of_ble_eq_true rfl) (by omega) ?_
    refine t_deedMany hD ?_
    refine r_i ?_
    refine z_imul c_254_15 ?_
    refine z_iadd c_254_16 ?_
    refine z_ic_ne c_254_17 (by first | exact aRg_of _ | (unfold aRg; omega)) (by first | exact aRg_of _ | (unfold aRg; omega)) (fun h2_ => ?_) (fun h2_ => ?_)
    · refine z_push c_254_75 ?_
      refine z_ret0 c_254_76 rfl ?_
      exact k2 (fun z => by first | exact absurd z.1.1 (of_decide_eq_false (by assumption)) | (have z1 := z.1.2.1; omega) | (have z1 := z.1.2.2; omega) | (have z1 := z.2.1; omega))
    · refine w_aload c_254_20 rfl ?_
      refine w_getR c_254_21 sp_157 (by decide) rfl pr_157_0 ?_
      refine w_iload c_254_24 rfl ?_
      refine z_push c_254_25 ?_
      refine z_isub c_254_26 ?_
      refine z_iaload c_254_27 sp_158 (by omega) (by first | decide | omega) (hT _ (by omega) (by omega)) ?_
      refine w_aload c_254_28 rfl ?_
      refine w_getR c_254_29 sp_157 (by decide) rfl pr_157_0 ?_
      refine w_iload c_254_32 rfl ?_
      refine z_push c_254_33 ?_
      refine z_isub c_254_34 ?_
      rw [show nt - 1 = (((nt - 1).toNat : Nat) : Int) by omega]
      refine wc_247 c_254_35 (Nat.le_of_ble_eq_true rfl) (by omega) ?_
      refine t_ck158 (f := fun k => T k) (by omega) (fun k hk => hT k (by omega) (by omega)) (fun k _ => hTr k) ?_
      rw [show (((nt - 1).toNat : Nat) : Int) = nt - 1 by omega]
      refine r_i ?_
      refine z_ic_ne c_254_38 (by first | exact aRg_of _ | (unfold aRg; omega)) (by first | exact aRg_of _ | (unfold aRg; omega)) (fun h3_ => ?_) (fun h3_ => ?_)
      · refine z_push c_254_75 ?_
        refine z_ret0 c_254_76 rfl ?_
        exact k2 (fun z => by first | exact absurd z.1.1 (of_decide_eq_false (by assumption)) | (have z1 := z.1.2.1; omega) | (have z1 := z.1.2.2; omega) | (have z1 := z.2.1; omega))
      · refine w_aload c_254_41 rfl ?_
        refine z_push c_254_42 ?_
        refine wc_252 c_254_43 sp_157 (Nat.le_of_ble_eq_true rfl) (by omega) ?_
        refine t_twoAt hT hTr (by omega) ?_
        refine r_i ?_
        refine z_push c_254_46 ?_
        refine z_ic_gt c_254_49 (by first | exact aRg_of _ | (unfold aRg; omega)) (by first | exact aRg_of _ | (unfold aRg; omega)) (fun h4_ => ?_) (fun h4_ => ?_)
        · refine z_push c_254_75 ?_
          refine z_ret0 c_254_76 rfl ?_
          exact k2 (fun z => by first | exact absurd z.1.1 (of_decide_eq_false (by assumption)) | (have z1 := z.1.2.1; omega) | (have z1 := z.1.2.2; omega) | (have z1 := z.2.1; omega))
        · refine w_aload c_254_52 rfl ?_
          refine z_push c_254_53 ?_
          refine wc_252 c_254_54 sp_157 (Nat.le_of_ble_eq_true rfl) (by omega) ?_
          refine t_twoAt hT hTr (by omega) ?_
          refine r_i ?_
          refine w_aload c_254_57 rfl ?_
          refine wc_167 c_254_58 sp_157 (Nat.le_of_ble_eq_true rfl) (by omega) ?_
          refine t_holdsAll hD ?_
          refine r_i ?_
          refine z_ic_gt c_254_61 (by first | exact aRg_of _ | (unfold aRg; omega)) (by first | exact aRg_of _ | (unfold aRg; omega)) (fun h5_ => ?_) (fun h5_ => ?_)
          · refine z_push c_254_75 ?_
            refine z_ret0 c_254_76 rfl ?_
            exact k2 (fun z => by first | exact absurd z.1.1 (of_decide_eq_false (by assumption)) | (have z1 := z.1.2.1; omega) | (have z1 := z.1.2.2; omega) | (have z1 := z.2.1; omega))
          · refine w_aload c_254_64 rfl ?_
            refine z_push c_254_65 ?_
            refine wc_252 c_254_66 sp_157 (Nat.le_of_ble_eq_true rfl) (by omega) ?_
            refine t_twoAt hT hTr (by omega) ?_
            refine r_i ?_
            refine z_push c_254_69 ?_
            refine z_ic_le c_254_72 (by first | exact aRg_of _ | (unfold aRg; omega)) (by first | exact aRg_of _ | (unfold aRg; omega)) (fun h6_ => ?_) (fun h6_ => ?_)
            · refine z_push c_254_77 ?_
              refine w_istore c_254_78 (Nat.le_of_ble_eq_true rfl) rfl ?_
              exact t_isImage_1 hS hD hT hTr hn0 hd _ 0 (Nat.lt_succ_self _) (by omega) (by omega) ⟨⟨of_decide_eq_true h1_, by omega, by omega⟩, by omega, by omega, by omega⟩ (fun j z1 z2 => absurd z2 (by omega)) k1 k2
            · refine z_push c_254_75 ?_
              refine z_ret0 c_254_76 rfl ?_
              exact k2 (fun z => by first | exact absurd z.1.1 (of_decide_eq_false (by assumption)) | (have z1 := z.1.2.1; omega) | (have z1 := z.1.2.2; omega) | (have z1 := z.2.1; omega))

set_option maxHeartbeats 2000000 in
theorem tc_isImage_1 {d : Nat} {I : aFI} {L : aFL} {Q : aPo} {sh : Nat} {su : Option Nat} {D : Nat → Int → Int} {cd : Nat → Option (List Int)} {T : Int → Int} {nt : Int} (hsh : sh = 8 ∨ sh = 22) (hS : wfS D cd) (hW : cW I sh D cd) (hT : ∀ j : Int, 0 ≤ j → j < 1600 → I 1 j.toNat = iI (T j)) (hTr : ∀ j : Int, 0 ≤ T j ∧ T j ≤ 255) (hn0 : 0 ≤ nt ∧ nt ≤ 1600) (hd : 3 ≤ d) {v3 : Int} : ∀ (n : Nat) (i : Int), (D 1 2 - i).toNat < n → (0 ≤ i) → (i ≤ D 1 2) → (((D 0 0 = 1 ∧ nt = 7 + 4 * D 1 2 ∧ T (nt - 1) = ckT T (nt - 1).toNat) ∧ (t2 T 0 ≤ 999 ∧ t2 T 2 ≤ D 0 1 ∧ t2 T 4 ≤ 9999))) → (∀ j : Int, 0 ≤ j → j < i → dOK T (6 + 4 * j)) → (imC D T nt → Q (some (.int (aBo true))) I L (aR sh su)) → (¬ imC D T nt → Q (some (.int (aBo false))) I L (aR sh su)) → aWp none d 127 95 [.ref 0, .int (iI nt), .int (iI (D 1 2)), .int (iI v3), .int (iI i)] [] I L (aR sh su) Q := by
  intro n
  induction n with
  | zero => intro i h; omega
  | succ n ih =>
    intro i hn2 h0 h1 hA hB k1 k2
    have hdd := hS.n
    refine w_iload c_127_95 rfl ?_
    refine w_iload c_127_97 rfl ?_
    refine z_ic_ge c_127_98 (by first | exact aRg_of _ | (unfold aRg; omega)) (by first | exact aRg_of _ | (unfold aRg; omega)) (fun h1_ => ?_) (fun h1_ => ?_)
    · refine z_push c_127_123 ?_
      refine z_ret1 c_127_124 rfl ?_
      have e9 : i = D 1 2 := by omega
      subst e9
      exact k1 ⟨hA.1, hA.2, hB⟩
    · refine w_aload c_127_101 rfl ?_
      refine z_push c_127_102 ?_
      refine z_push c_127_104 ?_
      refine w_iload c_127_105 rfl ?_
      refine z_imul c_127_107 ?_
      refine z_iadd c_127_108 ?_
      refine wc_128 c_127_109 sp_0 (Nat.le_of_ble_eq_true rfl) (by omega) ?_
      refine tc_isDeedImage hT hTr ⟨h0, by omega⟩ (by omega) ?_
      refine r_i ?_
      refine b_if_ne c_127_112 (fun h2_ => ?_) (fun h2_ => ?_)
      · refine z_iinc c_127_117 rfl rfl ?_
        refine w_goto c_127_120 ?_
        have hdo : dOK T (6 + 4 * i) := of_decide_eq_true (by assumption)
        exact ih (i + 1) (by omega) (by omega) (by omega) hA (fun j z1 z2 => by
          by_cases hji : j = i
          · subst hji; exact hdo
          · exact hB j z1 (by omega)) k1 k2
      · refine z_push c_127_115 ?_
        refine z_ret0 c_127_116 rfl ?_
        exact k2 (fun z => absurd (z.2.2 i h0 (by omega)) (of_decide_eq_false (by assumption)))

set_option maxHeartbeats 1000000 in
theorem tc_isImage {d : Nat} {I : aFI} {L : aFL} {Q : aPo} {sh : Nat} {su : Option Nat} {D : Nat → Int → Int} {cd : Nat → Option (List Int)} {T : Int → Int} {nt : Int} (hsh : sh = 8 ∨ sh = 22) (hS : wfS D cd) (hW : cW I sh D cd) (hT : ∀ j : Int, 0 ≤ j → j < 1600 → I 1 j.toNat = iI (T j)) (hTr : ∀ j : Int, 0 ≤ T j ∧ T j ≤ 255) (hn0 : 0 ≤ nt ∧ nt ≤ 1600) (hd : 3 ≤ d) (k1 : imC D T nt → Q (some (.int (aBo true))) I L (aR sh su)) (k2 : ¬ imC D T nt → Q (some (.int (aBo false))) I L (aR sh su)) : aWp none d 127 0 [.ref 0, .int (iI nt), .null, .null, .null] [] I L (aR sh su) Q := by
  have hdd := hS.n
  have hhh := hS.h
  have h2a : 256 * T 0 + T (0 + 1) = t2 T 0 := rfl
  have h2b : 256 * T 2 + T (2 + 1) = t2 T 2 := rfl
  have h2c : 256 * T 4 + T (4 + 1) = t2 T 4 := rfl
  have h3a := t2_rg hTr 0
  have h3b := t2_rg hTr 2
  have h3c := t2_rg hTr 4
  have hle : nt = 7 + 4 * D 1 2 → 6 + 4 * D 1 2 = nt - 1 := fun z => by omega
  have hck := ckF_rg (f := fun k => T k) (nt - 1).toNat
  have hckT : ckT T (nt - 1).toNat = ckF (fun k => T k) (nt - 1).toNat := rfl
  have htl := hTr (nt - 1)
  refine w_aload c_127_0 rfl ?_
  refine w_getR c_127_1 sp_0 (by decide) rfl pr_0_3 ?_
  refine w_getR c_127_4 (sps_0 hsh) (by decide) rfl (prs_4 hsh) ?_
  refine z_push c_127_7 ?_
  refine z_iaload c_127_8 (sps_1 hsh) (by omega) (by first | decide | omega) (hW.1.a 1 (by omega) (by omega)) ?_
  refine w_istore c_127_9 (Nat.le_of_ble_eq_true rfl) rfl ?_
  refine z_push c_127_10 ?_
  refine z_push c_127_12 ?_
  refine w_iload c_127_13 rfl ?_
  refine z_imul c_127_14 ?_
  refine z_iadd c_127_15 ?_
  refine w_istore c_127_16 (Nat.le_of_ble_eq_true rfl) rfl ?_
  refine w_aload c_127_17 rfl ?_
  refine w_getR c_127_18 sp_0 (by decide) rfl pr_0_3 ?_
  refine z_getB c_127_21 (sps_0 hsh) (by decide) rfl hW.1.1 ?_
  refine b_if_eq c_127_24 (fun h1_ => ?_) (fun h1_ => ?_)
  · refine z_push c_127_51 ?_
    refine z_ret0 c_127_52 rfl ?_
    exact k2 (fun z => by first | exact absurd z.1.1 (of_decide_eq_false (by assumption)) | (have z1 := z.1.2.1; omega) | (have z1 := z.1.2.2; omega) | (have z1 := z.2.1; omega))
  · refine w_iload c_127_27 rfl ?_
    refine w_iload c_127_28 rfl ?_
    refine z_push c_127_29 ?_
    refine z_iadd c_127_30 ?_
    refine z_ic_ne c_127_31 (by first | exact aRg_of _ | (unfold aRg; omega)) (by first | exact aRg_of _ | (unfold aRg; omega)) (fun h2_ => ?_) (fun h2_ => ?_)
    · refine z_push c_127_51 ?_
      refine z_ret0 c_127_52 rfl ?_
      exact k2 (fun z => by first | exact absurd z.1.1 (of_decide_eq_false (by assumption)) | (have z1 := z.1.2.1; omega) | (have z1 := z.1.2.2; omega) | (have z1 := z.2.1; omega))
    · rw [hle (by omega)]
      refine w_aload c_127_34 rfl ?_
      refine w_getR c_127_35 sp_0 (by decide) rfl pr_0_0 ?_
      refine w_iload c_127_38 rfl ?_
      refine z_iaload c_127_39 sp_1 (by omega) (by first | decide | omega) (hT _ (by omega) (by omega)) ?_
      refine w_aload c_127_40 rfl ?_
      refine w_getR c_127_41 sp_0 (by decide) rfl pr_0_0 ?_
      refine w_iload c_127_44 rfl ?_
      rw [show nt - 1 = (((nt - 1).toNat : Nat) : Int) by omega]
      refine wc_126 c_127_45 (Nat.le_of_ble_eq_true rfl) (by omega) ?_
      refine tc_ck1 (f := fun k => T k) (by omega) (fun k hk => hT k (by omega) (by omega)) (fun k _ => hTr k) ?_
      rw [show (((nt - 1).toNat : Nat) : Int) = nt - 1 by omega]
      refine r_i ?_
      refine z_ic_eq c_127_48 (by first | exact aRg_of _ | (unfold aRg; omega)) (by first | exact aRg_of _ | (unfold aRg; omega)) (fun h3_ => ?_) (fun h3_ => ?_)
      · refine w_aload c_127_53 rfl ?_
        refine z_push c_127_54 ?_
        refine wc_111 c_127_55 sp_0 (Nat.le_of_ble_eq_true rfl) (by omega) ?_
        refine tc_pairAt hT hTr (by omega) ?_
        refine r_i ?_
        refine z_push c_127_58 ?_
        refine z_ic_gt c_127_61 (by first | exact aRg_of _ | (unfold aRg; omega)) (by first | exact aRg_of _ | (unfold aRg; omega)) (fun h4_ => ?_) (fun h4_ => ?_)
        · refine z_push c_127_90 ?_
          refine z_ret0 c_127_91 rfl ?_
          exact k2 (fun z => by first | exact absurd z.1.1 (of_decide_eq_false (by assumption)) | (have z1 := z.1.2.1; omega) | (have z1 := z.1.2.2; omega) | (have z1 := z.2.1; omega))
        · refine w_aload c_127_64 rfl ?_
          refine z_push c_127_65 ?_
          refine wc_111 c_127_66 sp_0 (Nat.le_of_ble_eq_true rfl) (by omega) ?_
          refine tc_pairAt hT hTr (by omega) ?_
          refine r_i ?_
          refine w_aload c_127_69 rfl ?_
          refine w_getR c_127_70 sp_0 (by decide) rfl pr_0_3 ?_
          refine z_getZ c_127_73 (sps_0 hsh) (by decide) rfl hW.1.2.1.1 ?_
          refine z_ic_gt c_127_76 (by first | exact aRg_of _ | (unfold aRg; omega)) (by first | exact aRg_of _ | (unfold aRg; omega)) (fun h5_ => ?_) (fun h5_ => ?_)
          · refine z_push c_127_90 ?_
            refine z_ret0 c_127_91 rfl ?_
            exact k2 (fun z => by first | exact absurd z.1.1 (of_decide_eq_false (by assumption)) | (have z1 := z.1.2.1; omega) | (have z1 := z.1.2.2; omega) | (have z1 := z.2.1; omega))
          · refine w_aload c_127_79 rfl ?_
            refine z_push c_127_80 ?_
            refine wc_111 c_127_81 sp_0 (Nat.le_of_ble_eq_true rfl) (by omega) ?_
            refine tc_pairAt hT hTr (by omega) ?_
            refine r_i ?_
            refine z_push c_127_84 ?_
            refine z_ic_le c_127_87 (by first | exact aRg_of _ | (unfold aRg; omega)) (by first | exact aRg_of _ | (unfold aRg; omega)) (fun h6_ => ?_) (fun h6_ => ?_)
            · refine z_push c_127_92 ?_
              refine w_istore c_127_93 (Nat.le_of_ble_eq_true rfl) rfl ?_
              exact tc_isImage_1 hsh hS hW hT hTr hn0 hd _ 0 (Nat.lt_succ_self _) (by omega) (by omega) ⟨⟨of_decide_eq_true h1_, by omega, by omega⟩, by omega, by omega, by omega⟩ (fun j z1 z2 => absurd z2 (by omega)) k1 k2
            · refine z_push c_127_90 ?_
              refine z_ret0 c_127_91 rfl ?_
              exact k2 (fun z => by first | exact absurd z.1.1 (of_decide_eq_false (by assumption)) | (have z1 := z.1.2.1; omega) | (have z1 := z.1.2.2; omega) | (have z1 := z.2.1; omega))
      · refine z_push c_127_51 ?_
        refine z_ret0 c_127_52 rfl ?_
        exact k2 (fun z => by first | exact absurd z.1.1 (of_decide_eq_false (by assumption)) | (have z1 := z.1.2.1; omega) | (have z1 := z.1.2.2; omega) | (have z1 := z.2.1; omega))

abbrev POn : Nat → Nat → Prop := fun q k => (q = 157 ∧ (k = 1 ∨ k = 70)) ∨ (q = 202 ∧ k < 28)
theorem rW.on {I I0 : aFI} {D : Nat → Int → Int} {cd : Nat → Option (List Int)} (h : rW I0 D cd) (hF : frG POn I0 I) : rW I D cd := h.fr (fun q k z1 z2 => hF q k (by omega)) (hF 157 56 (by decide))
set_option maxHeartbeats 2000000 in
theorem t_on_1 {d : Nat} {I0 : aFI} {L : aFL} {Q : aPo} {sh : Nat} {su : Option Nat} {D : Nat → Int → Int} {cd : Nat → Option (List Int)} {T : Int → Int} {nt : Int} (hS : wfS D cd) (hW0 : rW I0 D cd) (hT : ∀ j : Int, 0 ≤ j → j < 1600 → I0 158 j.toNat = iI (T j)) (hTr : ∀ j : Int, 0 ≤ T j ∧ T j ≤ 255) (hd : 3 ≤ d) : ∀ (n : Nat) (i : Int) (I : aFI), (3 - i).toNat < n → (0 ≤ i) → (i ≤ 3) → (∀ j : Int, 0 ≤ j → j < i → I 202 j.toNat = iI (t2 T (2 * j))) → (frG (fun q k => q = 202 ∧ k < 3) I0 I) → (∀ I2 : aFI, (∀ j : Int, 0 ≤ j → j < 3 → I2 202 j.toNat = iI (t2 T (2 * j))) → frG (fun q k => q = 202 ∧ k < 3) I0 I2 → aWp none d 255 56 [.ref 157, .int (iI nt), .int (iI 3)] [] I2 L (aR sh su) Q) → aWp none d 255 32 [.ref 157, .int (iI nt), .int (iI i)] [] I L (aR sh su) Q := by
  intro n
  induction n with
  | zero => intro i I h; omega
  | succ n ih =>
    intro i I hn2 h0 h1 hq hF k
    refine w_iload c_255_32 rfl ?_
    refine z_push c_255_33 ?_
    refine z_ic_ge c_255_34 (by first | exact aRg_of _ | (unfold aRg; omega)) (by first | exact aRg_of _ | (unfold aRg; omega)) (fun h1_ => ?_) (fun h1_ => ?_)
    · have e9 : i = 3 := by omega
      subst e9
      exact k I hq hF
    · refine w_aload c_255_37 rfl ?_
      refine w_getR c_255_38 sp_157 (by decide) rfl pr_157_58 ?_
      refine w_iload c_255_41 rfl ?_
      refine w_aload c_255_42 rfl ?_
      refine z_push c_255_43 ?_
      refine w_iload c_255_44 rfl ?_
      refine z_imul c_255_45 ?_
      refine wc_252 c_255_46 sp_157 (Nat.le_of_ble_eq_true rfl) (by omega) ?_
      refine t_twoAt (T := T) (fun j z1 z2 => by rw [hF 158 _ (by omega)]; exact hT j z1 z2) hTr (by omega) ?_
      refine r_i ?_
      refine z_iastore c_255_49 sp_202 (by omega) (by decide) ?_
      refine upG_k hF ⟨rfl, by omega⟩ (fun I2 hi hF2 => ?_)
      refine z_iinc c_255_50 rfl rfl ?_
      refine w_goto c_255_53 ?_
      refine ih (i + 1) I2 (by omega) (by omega) (by omega) (fun j z1 z2 => ?_) hF2 k
      rw [hi]
      by_cases hji : j = i
      · subst hji; exact up_eq
      · rw [up_ne (by omega)]; exact hq j z1 (by omega)

set_option maxHeartbeats 2000000 in
theorem t_on_2 {d : Nat} {I0 : aFI} {L : aFL} {Q : aPo} {sh : Nat} {su : Option Nat} {D : Nat → Int → Int} {cd : Nat → Option (List Int)} {T : Int → Int} {nt : Int} (hS : wfS D cd) (hW0 : rW I0 D cd) (hT : ∀ j : Int, 0 ≤ j → j < 1600 → I0 158 j.toNat = iI (T j)) (hTr : ∀ j : Int, 0 ≤ T j ∧ T j ≤ 255) (hd : 3 ≤ d) : ∀ (n : Nat) (i : Int) (I : aFI), (D 1 2 - i).toNat < n → (0 ≤ i) → (i ≤ D 1 2) → (∀ j : Int, 0 ≤ j → j < i → I 202 (3 + 3 * j).toNat = iI (T (6 + 4 * j)) ∧ I 202 (4 + 3 * j).toNat = iI (t2 T (7 + 4 * j)) ∧ I 202 (5 + 3 * j).toNat = iI (T (9 + 4 * j))) → (frG (fun q k => q = 202 ∧ 3 ≤ k ∧ k < 3 + 3 * (D 1 2).toNat) I0 I) → (∀ I2 : aFI, (∀ j : Int, 0 ≤ j → j < D 1 2 → I2 202 (3 + 3 * j).toNat = iI (T (6 + 4 * j)) ∧ I2 202 (4 + 3 * j).toNat = iI (t2 T (7 + 4 * j)) ∧ I2 202 (5 + 3 * j).toNat = iI (T (9 + 4 * j))) → frG (fun q k => q = 202 ∧ 3 ≤ k ∧ k < 3 + 3 * (D 1 2).toNat) I0 I2 → aWp none d 255 138 [.ref 157, .int (iI nt), .int (iI (D 1 2))] [] I2 L (aR sh su) Q) → aWp none d 255 58 [.ref 157, .int (iI nt), .int (iI i)] [] I L (aR sh su) Q := by
  intro n
  induction n with
  | zero => intro i I h; omega
  | succ n ih =>
    intro i I hn2 h0 h1 hq hF k
    have hdd := hS.n
    have hW := hW0.fr (I2 := I) (fun q k z1 z2 => hF q k (by omega)) (hF 157 56 (by omega))
    have hT0 : ∀ j : Int, 0 ≤ j → j < 1600 → I 158 j.toNat = iI (T j) := fun j z1 z2 => by rw [hF 158 _ (by omega)]; exact hT j z1 z2
    refine w_iload c_255_58 rfl ?_
    refine w_aload c_255_59 rfl ?_
    refine wc_161 c_255_60 sp_157 (Nat.le_of_ble_eq_true rfl) (by omega) ?_
    refine t_deedMany hW.1 ?_
    refine r_i ?_
    refine z_ic_ge c_255_63 (by first | exact aRg_of _ | (unfold aRg; omega)) (by first | exact aRg_of _ | (unfold aRg; omega)) (fun h1_ => ?_) (fun h1_ => ?_)
    · have e9 : i = D 1 2 := by omega
      subst e9
      exact k I hq hF
    · refine w_aload c_255_66 rfl ?_
      refine w_getR c_255_67 sp_157 (by decide) rfl pr_157_58 ?_
      refine z_push c_255_70 ?_
      refine z_push c_255_71 ?_
      refine w_iload c_255_72 rfl ?_
      refine z_imul c_255_73 ?_
      refine z_iadd c_255_74 ?_
      refine w_aload c_255_75 rfl ?_
      refine w_getR c_255_76 sp_157 (by decide) rfl pr_157_0 ?_
      refine z_push c_255_79 ?_
      refine z_push c_255_81 ?_
      refine w_iload c_255_82 rfl ?_
      refine z_imul c_255_83 ?_
      refine z_iadd c_255_84 ?_
      refine z_iaload c_255_85 sp_158 (by omega) (by first | decide | omega) (hT0 _ (by omega) (by omega)) ?_
      refine z_iastore c_255_86 sp_202 (by omega) (by decide) ?_
      refine upG_k hF ⟨rfl, by omega, by omega⟩ (fun I1 hi1 hF1 => ?_)
      have hT1 : ∀ j : Int, 0 ≤ j → j < 1600 → I1 158 j.toNat = iI (T j) := fun j z1 z2 => by rw [hF1 158 _ (by omega)]; exact hT j z1 z2
      refine w_aload c_255_87 rfl ?_
      refine w_getR c_255_88 sp_157 (by decide) rfl pr_157_58 ?_
      refine z_push c_255_91 ?_
      refine z_push c_255_92 ?_
      refine w_iload c_255_93 rfl ?_
      refine z_imul c_255_94 ?_
      refine z_iadd c_255_95 ?_
      refine z_push c_255_96 ?_
      refine z_iadd c_255_97 ?_
      refine w_aload c_255_98 rfl ?_
      refine z_push c_255_99 ?_
      refine z_push c_255_101 ?_
      refine w_iload c_255_102 rfl ?_
      refine z_imul c_255_103 ?_
      refine z_iadd c_255_104 ?_
      refine wc_252 c_255_105 sp_157 (Nat.le_of_ble_eq_true rfl) (by omega) ?_
      refine t_twoAt (T := T) hT1 hTr (by omega) ?_
      refine r_i ?_
      refine z_iastore c_255_108 sp_202 (by omega) (by decide) ?_
      refine upG_k hF1 ⟨rfl, by omega, by omega⟩ (fun I2 hi2 hF2 => ?_)
      have hT2 : ∀ j : Int, 0 ≤ j → j < 1600 → I2 158 j.toNat = iI (T j) := fun j z1 z2 => by rw [hF2 158 _ (by omega)]; exact hT j z1 z2
      refine w_aload c_255_109 rfl ?_
      refine w_getR c_255_110 sp_157 (by decide) rfl pr_157_58 ?_
      refine z_push c_255_113 ?_
      refine z_push c_255_114 ?_
      refine w_iload c_255_115 rfl ?_
      refine z_imul c_255_116 ?_
      refine z_iadd c_255_117 ?_
      refine z_push c_255_118 ?_
      refine z_iadd c_255_119 ?_
      refine w_aload c_255_120 rfl ?_
      refine w_getR c_255_121 sp_157 (by decide) rfl pr_157_0 ?_
      refine z_push c_255_124 ?_
      refine z_push c_255_126 ?_
      refine w_iload c_255_127 rfl ?_
      refine z_imul c_255_128 ?_
      refine z_iadd c_255_129 ?_
      refine z_iaload c_255_130 sp_158 (by omega) (by first | decide | omega) (hT2 _ (by omega) (by omega)) ?_
      refine z_iastore c_255_131 sp_202 (by omega) (by decide) ?_
      refine upG_k hF2 ⟨rfl, by omega, by omega⟩ (fun I3 hi3 hF3 => ?_)
      have hT3 : ∀ j : Int, 0 ≤ j → j < 1600 → I3 158 j.toNat = iI (T j) := fun j z1 z2 => by rw [hF3 158 _ (by omega)]; exact hT j z1 z2
      refine z_iinc c_255_132 rfl rfl ?_
      refine w_goto c_255_135 ?_
      refine ih (i + 1) I3 (by omega) (by omega) (by omega) (fun j z1 z2 => ?_) hF3 k
      by_cases hji : j = i
      · subst hji
        refine ⟨?_, ?_, ?_⟩
        · rw [hi3, up_ne (by omega), hi2, up_ne (by omega), hi1]; exact up_eq
        · rw [hi3, up_ne (by omega), hi2]; exact (congrArg (aUp I1 202 _ _ 202) (by omega)).trans up_eq
        · rw [hi3]; exact (congrArg (aUp I2 202 _ _ 202) (by omega)).trans up_eq
      · have hqj := hq j z1 (by omega)
        rw [hi3, up_ne (by omega), up_ne (by omega), up_ne (by omega), hi2, up_ne (by omega), up_ne (by omega), up_ne (by omega), hi1, up_ne (by omega), up_ne (by omega), up_ne (by omega)]
        exact hqj

set_option maxHeartbeats 1000000 in
theorem t_on {d : Nat} {I : aFI} {L : aFL} {Q : aPo} {sh : Nat} {su : Option Nat} {D : Nat → Int → Int} {cd : Nat → Option (List Int)} {X : Lk} {T : Int → Int} {nt : Int} (hS : wfS D cd) (hR : rS I D cd X) (hX : lkOK X) (hn : I 157 1 = iI nt) (hn0 : 0 ≤ nt ∧ nt ≤ 1600) (hT : ∀ j : Int, 0 ≤ j → j < 1600 → I 158 j.toNat = iI (T j)) (hTr : ∀ j : Int, 0 ≤ T j ∧ T j ≤ 255) (hw2 : X.2.2.2.1 < 2 ^ (D 1 2).toNat) (htail : D 0 0 = 1 → ∀ j : Int, D 1 2 ≤ j → j < 8 → X.2.2.2.2.1 j = 0 ∧ X.2.2.2.2.2 j = 99) (hd : 5 ≤ d) (k1 : imC D T nt → ∀ I2 : aFI, rX I2 202 (onX D T) → I2 202 27 = iI 0 → I2 157 70 = iI 0 → I2 157 1 = iI 0 → frG POn I I2 → Q (some (.int (aBo true))) I2 L (aR sh su)) (k2 : ¬ imC D T nt → Q (some (.int (aBo false))) (aUp (aUp I 157 1 (iI 0)) 159 5 (iI ((I 159 5).toInt + 1))) L (aR sh su)) : aWp none d 255 0 [.ref 157, .null, .null] [] I L (aR sh su) Q := by
  have hdd := hS.n
  refine w_aload c_255_0 rfl ?_
  refine z_getZ c_255_1 sp_157 (by decide) rfl hn ?_
  refine w_istore c_255_4 (Nat.le_of_ble_eq_true rfl) rfl ?_
  refine w_aload c_255_5 rfl ?_
  refine z_push c_255_6 ?_
  refine z_putZ c_255_7 sp_157 (by decide) rfl ?_
  refine upG_k (frG.rf (P := fun q k => q = 157 ∧ k = 1) (I := I)) ⟨rfl, rfl⟩ (fun I1 hi1 hF1 => ?_)
  have hW1 : rW I1 D cd := hR.1.fr (fun q k z1 z2 => hF1 q k (by omega)) (hF1 157 56 (by decide))
  have hz1 : I1 157 1 = iI 0 := by rw [hi1]; exact up_eq
  have hT1 : ∀ j : Int, 0 ≤ j → j < 1600 → I1 158 j.toNat = iI (T j) := fun j z1 z2 => by rw [hF1 158 _ (by omega)]; exact hT j z1 z2
  refine w_aload c_255_10 rfl ?_
  refine w_iload c_255_11 rfl ?_
  refine wc_254 c_255_12 sp_157 (Nat.le_of_ble_eq_true rfl) (by omega) ?_
  refine t_isImage (T := T) hS hW1.1 hT1 hTr hn0 (by omega) (fun hcc => ?_) (fun hcc => ?_)
  · refine r_i ?_
    refine b_if_ne c_255_15 (fun _ => ?_) (fun h => Bool.noConfusion h)
    refine z_push c_255_30 ?_
    refine w_istore c_255_31 (Nat.le_of_ble_eq_true rfl) rfl ?_
    refine t_on_1 (T := T) hS hW1 hT1 hTr (by omega) _ 0 I1 (Nat.lt_succ_self _) (by omega) (by omega) (fun j z1 z2 => absurd z2 (by omega)) frG.rf (fun I2 hq2 hF2 => ?_)
    refine z_push c_255_56 ?_
    refine w_istore c_255_57 (Nat.le_of_ble_eq_true rfl) rfl ?_
    have hW2 : rW I2 D cd := hW1.fr (fun q k z1 z2 => hF2 q k (by omega)) (hF2 157 56 (by decide))
    refine t_on_2 (T := T) hS hW2 (fun j z1 z2 => by rw [hF2 158 _ (by omega)]; exact hT1 j z1 z2) hTr (by omega) _ 0 I2 (Nat.lt_succ_self _) (by omega) (by omega) (fun j z1 z2 => absurd z2 (by omega)) frG.rf (fun I3 hq3 hF3 => ?_)
    refine w_aload c_255_138 rfl ?_
    refine w_getR c_255_139 sp_157 (by decide) rfl pr_157_58 ?_
    refine z_push c_255_142 ?_
    refine z_push c_255_144 ?_
    refine z_iastore c_255_145 sp_202 (by omega) (by decide) ?_
    refine w_aload c_255_146 rfl ?_
    refine z_push c_255_147 ?_
    refine z_putZ c_255_148 sp_157 (by decide) rfl ?_
    refine z_push c_255_151 ?_
    refine z_ret1 c_255_152 rfl ?_
    refine k1 hcc _ ?_ ((up_ne (by omega)).trans up_eq) up_eq ((up_ne (by omega)).trans ((up_ne (by omega)).trans (by rw [hF3 157 1 (by omega), hF2 157 1 (by decide)]; exact hz1))) (((((hF1.mono (P2 := POn) (fun q k z => Or.inl ⟨z.1, Or.inl z.2⟩)).tr (hF2.mono (fun q k z => Or.inr ⟨z.1, by omega⟩))).tr (hF3.mono (fun q k z => Or.inr ⟨z.1, by omega⟩))).up (Or.inr ⟨rfl, by decide⟩)).up (Or.inl ⟨rfl, Or.inr rfl⟩))
    have hX3 : rX I3 202 (onX D T) := by
      refine ⟨(hF3 202 0 (by omega)).trans (hq2 0 (by omega) (by omega)), (hF3 202 1 (by omega)).trans (hq2 1 (by omega) (by omega)), (hF3 202 2 (by omega)).trans (hq2 2 (by omega) (by omega)), fun j z1 z2 => ?_⟩
      by_cases hj : j < D 1 2
      · obtain ⟨h1, h2, h3⟩ := hq3 j z1 hj
        refine ⟨h1.trans (congrArg iI ?_), h2.trans (congrArg iI ?_), h3.trans (congrArg iI ?_)⟩
        · have hdo := hcc.2.2 j z1 hj
          have hbt : tb (onX D T).2.2.2.1 j = decide (T (6 + 4 * j) = 1) := by
            show (bb _ _).testBit j.toNat = _
            rw [bb_tb, decide_eq_true (show j.toNat < (D 1 2).toNat by omega), Bool.true_and, Int.toNat_of_nonneg z1]
          rw [hbt]
          unfold dOK at hdo
          by_cases h5 : T (6 + 4 * j) = 1
          · rw [h5, if_pos (by decide)]
          · rw [decide_eq_false h5, if_neg (by decide)]; omega
        · exact (if_pos ⟨z1, hj⟩).symm
        · exact (if_pos ⟨z1, hj⟩).symm
      · have hold := hR.2.2.2.2 j z1 z2
        have htl := htail hcc.1.1 j (by omega) z2
        have hbt : tb (onX D T).2.2.2.1 j = false := by
          show (bb _ _).testBit j.toNat = _
          rw [bb_tb, decide_eq_false (show ¬ j.toNat < (D 1 2).toNat by omega), Bool.false_and]
        have hbo : tb X.2.2.2.1 j = false := Nat.testBit_lt_two_pow (Nat.lt_of_lt_of_le hw2 (Nat.pow_le_pow_right (by omega) (by omega)))
        refine ⟨?_, ?_, ?_⟩
        · rw [hF3 202 _ (by omega), hF2 202 _ (by omega), hF1 202 _ (by omega), hold.1, hbo, hbt]
        · rw [hF3 202 _ (by omega), hF2 202 _ (by omega), hF1 202 _ (by omega), hold.2.1, htl.1]; exact congrArg iI (if_neg (by omega)).symm
        · rw [hF3 202 _ (by omega), hF2 202 _ (by omega), hF1 202 _ (by omega), hold.2.2, htl.2]; exact congrArg iI (if_neg (by omega)).symm
    exact hX3.fr (fun k hk => (up_ne (by omega)).trans (up_ne (by omega)))
  · refine r_i ?_
    refine b_if_ne c_255_15 (fun h => Bool.noConfusion h) (fun _ => ?_)
    refine w_aload c_255_18 rfl ?_
    refine w_getR c_255_19 sp_157 (by decide) rfl pr_157_9 ?_
    refine z_push c_255_22 ?_
    refine w_dup2 c_255_23 rfl rfl ?_
    refine z_iaload c_255_24 sp_159 (by omega) (by first | decide | omega) (iI_of _) ?_
    refine z_push c_255_25 ?_
    refine z_iadd c_255_26 ?_
    refine z_iastore c_255_27 sp_159 (by omega) (by decide) ?_
    refine z_push c_255_28 ?_
    refine z_ret0 c_255_29 rfl ?_
    subst hi1
    exact k2 hcc

abbrev PCn : Nat → Nat → Prop := fun q k => (q = 0 ∧ k = 1) ∨ (36 ≤ q ∧ q ≤ 38) ∨ q = 44
set_option maxHeartbeats 2000000 in
theorem tc_on_1 {d : Nat} {I0 : aFI} {L : aFL} {Q : aPo} {sh : Nat} {su : Option Nat} {D : Nat → Int → Int} {cd : Nat → Option (List Int)} {T : Int → Int} {nt : Int} (hsh : sh = 8 ∨ sh = 22) (hS : wfS D cd) (hW0 : cW I0 sh D cd) (hT : ∀ j : Int, 0 ≤ j → j < 1600 → I0 1 j.toNat = iI (T j)) (hTr : ∀ j : Int, 0 ≤ T j ∧ T j ≤ 255) (hcc : imC D T nt) (hd : 3 ≤ d) : ∀ (n : Nat) (i : Int) (I : aFI) (v2 : Value), (D 1 2 - i).toNat < n → (0 ≤ i) → (i ≤ D 1 2) → (isLk I 36 (t2 T 0) (t2 T 2) (t2 T 4) ((bb (fun i => decide (T (6 + 4 * i) = 1)) i.toNat : Nat) : Int) 0 (fun j => if 0 ≤ j ∧ j < i then t2 T (7 + 4 * j) else 0) (fun j => if 0 ≤ j ∧ j < i then T (9 + 4 * j) else 99)) → (frP (fun p => 36 ≤ p ∧ p ≤ 38) I0 I) → (∀ (I2 : aFI) (v3 : Value), lkX I2 36 0 (onX D T) → frP (fun p => 36 ≤ p ∧ p ≤ 38) I0 I2 → aWp none d 106 129 [.ref 0, .int (iI (D 1 2)), v3]  [] I2 L (aR sh su) Q) → aWp none d 106 50 [.ref 0, .int (iI i), v2] [] I L (aR sh su) Q := by
  intro n
  induction n with
  | zero => intro i I v2 h; omega
  | succ n ih =>
    intro i I v2 hn2 h0 h1 hL hF k
    have hdd := hS.n
    have hW := hW0.fr (I2 := I) (fun p k z1 z2 => hF p k (by omega))
    have hT0 : ∀ j : Int, 0 ≤ j → j < 1600 → I 1 j.toNat = iI (T j) := fun j z1 z2 => by rw [hF 1 _ (by decide)]; exact hT j z1 z2
    refine w_iload c_106_50 rfl ?_
    refine w_aload c_106_51 rfl ?_
    refine w_getR c_106_52 sp_0 (by decide) rfl pr_0_3 ?_
    refine w_getR c_106_55 (sps_0 hsh) (by decide) rfl (prs_4 hsh) ?_
    refine z_push c_106_58 ?_
    refine z_iaload c_106_59 (sps_1 hsh) (by omega) (by first | decide | omega) (hW.1.a 1 (by omega) (by omega)) ?_
    refine z_ic_ge c_106_60 (by first | exact aRg_of _ | (unfold aRg; omega)) (by first | exact aRg_of _ | (unfold aRg; omega)) (fun h1_ => ?_) (fun h1_ => ?_)
    · have e9 : i = D 1 2 := by omega
      subst e9
      exact k I _ hL hF
    · have hdo := hcc.2.2 i h0 (by omega)
      unfold dOK at hdo
      have hblt := bb_lt8 (fun i : Nat => decide (T (6 + 4 * i) = 1)) (n := i.toNat) (by omega)
      refine z_push c_106_63 ?_
      refine z_push c_106_65 ?_
      refine w_iload c_106_66 rfl ?_
      refine z_imul c_106_67 ?_
      refine z_iadd c_106_68 ?_
      refine w_istore c_106_69 (Nat.le_of_ble_eq_true rfl) rfl ?_
      refine w_aload c_106_70 rfl ?_
      refine w_getR c_106_71 sp_0 (by decide) rfl pr_0_5 ?_
      refine w_dup c_106_74 rfl ?_
      refine z_getZ c_106_75 sp_36 (by decide) rfl hL.2.2.2.1 ?_
      refine w_aload c_106_78 rfl ?_
      refine w_getR c_106_79 sp_0 (by decide) rfl pr_0_0 ?_
      refine w_iload c_106_82 rfl ?_
      refine z_iaload c_106_83 sp_1 (by omega) (by first | decide | omega) (hT0 _ (by omega) (by omega)) ?_
      refine w_iload c_106_84 rfl ?_
      refine w_ishl c_106_85 (shlT (by omega) (by omega)) ?_
      refine w_ior c_106_86 (iI_or _ _) ?_
      refine z_putZ c_106_87 sp_36 (by decide) rfl ?_
      refine up_k hF ⟨by omega, by omega⟩ (fun I1 hi1 hF1 => ?_)
      have hL1 := hi1 ▸ hL.pw (v := ((bb (fun i => decide (T (6 + 4 * i) = 1)) i.toNat ||| (if T (6 + 4 * i) = 1 then 2 ^ i.toNat else 0) : Nat) : Int))
      have hT1 : ∀ j : Int, 0 ≤ j → j < 1600 → I1 1 j.toNat = iI (T j) := fun j z1 z2 => by rw [hF1 1 _ (by decide)]; exact hT j z1 z2
      refine w_aload c_106_90 rfl ?_
      refine w_getR c_106_91 sp_0 (by decide) rfl pr_0_5 ?_
      refine w_getR c_106_94 sp_36 (by decide) rfl pr_36_5 ?_
      refine w_iload c_106_97 rfl ?_
      refine w_aload c_106_98 rfl ?_
      refine w_iload c_106_99 rfl ?_
      refine z_push c_106_100 ?_
      refine z_iadd c_106_101 ?_
      refine wc_111 c_106_102 sp_0 (Nat.le_of_ble_eq_true rfl) (by omega) ?_
      refine tc_pairAt (T := T) hT1 hTr (by omega) ?_
      refine r_i ?_
      refine z_iastore c_106_105 sp_37 (by omega) (by decide) ?_
      refine up_k hF1 ⟨by omega, by omega⟩ (fun I2 hi2 hF2 => ?_)
      have hL2 := hi2 ▸ hL1.pi (v := t2 T (6 + 4 * i + 1)) h0
      have hT2 : ∀ j : Int, 0 ≤ j → j < 1600 → I2 1 j.toNat = iI (T j) := fun j z1 z2 => by rw [hF2 1 _ (by decide)]; exact hT j z1 z2
      refine w_aload c_106_106 rfl ?_
      refine w_getR c_106_107 sp_0 (by decide) rfl pr_0_5 ?_
      refine w_getR c_106_110 sp_36 (by decide) rfl pr_36_6 ?_
      refine w_iload c_106_113 rfl ?_
      refine w_aload c_106_114 rfl ?_
      refine w_getR c_106_115 sp_0 (by decide) rfl pr_0_0 ?_
      refine w_iload c_106_118 rfl ?_
      refine z_push c_106_119 ?_
      refine z_iadd c_106_120 ?_
      refine z_iaload c_106_121 sp_1 (by omega) (by first | decide | omega) (hT2 _ (by omega) (by omega)) ?_
      refine z_iastore c_106_122 sp_38 (by omega) (by decide) ?_
      refine up_k hF2 ⟨by omega, by omega⟩ (fun I3 hi3 hF3 => ?_)
      have hL3 := hi3 ▸ hL2.pa (v := T (6 + 4 * i + 3)) h0
      refine z_iinc c_106_123 rfl rfl ?_
      refine w_goto c_106_126 ?_
      refine ih (i + 1) I3 _ (by omega) (by omega) (by omega) (hL3.cast rfl rfl rfl ?_ rfl ?_ ?_) hF3 k
      · rw [show (i + 1).toNat = i.toNat + 1 by omega]
        simp only [bb]
        by_cases h5 : T (6 + 4 * i) = 1
        · rw [if_pos h5, if_pos (decide_eq_true (by rw [Int.toNat_of_nonneg h0]; exact h5))]
        · rw [if_neg h5, if_neg (by rw [decide_eq_true_eq, Int.toNat_of_nonneg h0]; exact h5), Nat.or_zero]
      · funext j
        unfold cU
        by_cases hji : j = i
        · subst hji; rw [if_pos rfl, if_pos (by omega)]; exact congrArg (t2 T) (by omega)
        · rw [if_neg hji]
          show (if 0 ≤ j ∧ j < i then _ else _) = (if 0 ≤ j ∧ j < i + 1 then _ else _)
          by_cases hjl : 0 ≤ j ∧ j < i
          · rw [if_pos hjl, if_pos (by omega)]
          · rw [if_neg hjl, if_neg (by omega)]
      · funext j
        unfold cU
        by_cases hji : j = i
        · subst hji; rw [if_pos rfl, if_pos (by omega)]; exact congrArg T (by omega)
        · rw [if_neg hji]
          show (if 0 ≤ j ∧ j < i then _ else _) = (if 0 ≤ j ∧ j < i + 1 then _ else _)
          by_cases hjl : 0 ≤ j ∧ j < i
          · rw [if_pos hjl, if_pos (by omega)]
          · rw [if_neg hjl, if_neg (by omega)]

set_option maxHeartbeats 1000000 in
theorem tc_on {d : Nat} {I : aFI} {L : aFL} {Q : aPo} {sh : Nat} {su : Option Nat} {D : Nat → Int → Int} {cd : Nat → Option (List Int)} {T : Int → Int} {nt : Int} (hsh : sh = 8 ∨ sh = 22) (hS : wfS D cd) (hW : cW I sh D cd) (hn : I 0 1 = iI nt) (hn0 : 0 ≤ nt ∧ nt ≤ 1600) (hT : ∀ j : Int, 0 ≤ j → j < 1600 → I 1 j.toNat = iI (T j)) (hTr : ∀ j : Int, 0 ≤ T j ∧ T j ≤ 255) (hd : 5 ≤ d) (k1 : imC D T nt → ∀ I2 : aFI, lkX I2 36 0 (onX D T) → I2 44 1 = iI 0 → I2 44 2 = iI 0 → I2 0 1 = iI 0 → frG PCn I I2 → Q (some (.int (aBo true))) I2 L (aR sh su)) (k2 : ¬ imC D T nt → Q (some (.int (aBo false))) (aUp (aUp I 0 1 (iI 0)) 156 5 (iI ((I 156 5).toInt + 1))) L (aR sh su)) : aWp none d 106 0 [.ref 0, .null, .null] [] I L (aR sh su) Q := by
  have hdd := hS.n
  refine w_aload c_106_0 rfl ?_
  refine w_aload c_106_1 rfl ?_
  refine wc_110 c_106_2 sp_0 (Nat.le_of_ble_eq_true rfl) (by omega) ?_
  refine tc_takeTape hn ?_
  have hF1 : frG (fun q k => q = 0 ∧ k = 1) I (aUp I 0 1 (iI 0)) := frG.rf.up ⟨rfl, rfl⟩
  have hz1 : aUp I 0 1 (iI 0) 0 1 = iI 0 := up_eq
  obtain ⟨I1, hi1⟩ : ∃ I1 : aFI, I1 = aUp I 0 1 (iI 0) := ⟨_, rfl⟩
  rw [← hi1] at hF1 hz1 ⊢
  have hW1 : cW I1 sh D cd := hW.fr (fun p k z1 z2 => hF1 p k (by omega))
  have hT1 : ∀ j : Int, 0 ≤ j → j < 1600 → I1 1 j.toNat = iI (T j) := fun j z1 z2 => by rw [hF1 1 _ (by omega)]; exact hT j z1 z2
  refine r_i ?_
  refine wc_127 c_106_5 sp_0 (Nat.le_of_ble_eq_true rfl) (by omega) ?_
  refine tc_isImage (T := T) hsh hS hW1 hT1 hTr hn0 (by omega) (fun hcc => ?_) (fun hcc => ?_)
  · refine r_i ?_
    refine b_if_ne c_106_8 (fun _ => ?_) (fun h => Bool.noConfusion h)
    refine w_aload c_106_19 rfl ?_
    refine w_getR c_106_20 sp_0 (by decide) rfl pr_0_5 ?_
    refine w_aload c_106_23 rfl ?_
    refine z_push c_106_24 ?_
    refine wc_111 c_106_25 sp_0 (Nat.le_of_ble_eq_true rfl) (by omega) ?_
    refine tc_pairAt (T := T) hT1 hTr (by omega) ?_
    refine r_i ?_
    refine w_aload c_106_28 rfl ?_
    refine z_push c_106_29 ?_
    refine wc_111 c_106_30 sp_0 (Nat.le_of_ble_eq_true rfl) (by omega) ?_
    refine tc_pairAt (T := T) hT1 hTr (by omega) ?_
    refine r_i ?_
    refine wc_5 c_106_33 sp_36 (Nat.le_of_ble_eq_true rfl) (by omega) ?_
    refine tc_lbegin aLk_36 (b := t2 T 2) (g := t2 T 4) (fun I2 hL2 hF2 => ?_)
    have hT2 : ∀ j : Int, 0 ≤ j → j < 1600 → I2 1 j.toNat = iI (T j) := fun j z1 z2 => by rw [hF2 1 _ (by decide)]; exact hT1 j z1 z2
    refine r_v ?_
    refine w_aload c_106_36 rfl ?_
    refine w_getR c_106_37 sp_0 (by decide) rfl pr_0_5 ?_
    refine w_aload c_106_40 rfl ?_
    refine z_push c_106_41 ?_
    refine wc_111 c_106_42 sp_0 (Nat.le_of_ble_eq_true rfl) (by omega) ?_
    refine tc_pairAt (T := T) hT2 hTr (by omega) ?_
    refine r_i ?_
    refine z_putZ c_106_45 sp_36 (by decide) rfl ?_
    refine up_k (frP.rf (P := (fun p => 36 ≤ p ∧ p ≤ 38)) (I := I2)) ⟨by omega, by omega⟩ (fun I3 hi3 hF3 => ?_)
    have hL3 := hi3 ▸ isLk.ps (v := t2 T 0) hL2
    have hT3 : ∀ j : Int, 0 ≤ j → j < 1600 → I3 1 j.toNat = iI (T j) := fun j z1 z2 => by rw [hF3 1 _ (by decide)]; exact hT2 j z1 z2
    refine z_push c_106_48 ?_
    refine w_istore c_106_49 (Nat.le_of_ble_eq_true rfl) rfl ?_
    refine tc_on_1 (T := T) hsh hS ((hW1.fr (I2 := I2) (fun p k z1 z2 => hF2 p k (by show ¬ (36 ≤ p ∧ p ≤ 36 + 2); omega))).fr (fun p k z1 z2 => hF3 p k (by show ¬ (36 ≤ p ∧ p ≤ 38); omega))) hT3 hTr hcc (by omega) _ 0 I3 _ (Nat.lt_succ_self _) (by omega) (by omega) (hL3.cast rfl rfl rfl rfl rfl (funext fun j => (if_neg (by omega)).symm) (funext fun j => (if_neg (by omega)).symm)) frP.rf (fun I4 v4 hL4 hF4 => ?_)
    refine w_aload c_106_129 rfl ?_
    refine w_getR c_106_130 sp_0 (by decide) rfl pr_0_8 ?_
    refine wc_1 c_106_133 sp_44 (Nat.le_of_ble_eq_true rfl) (by omega) ?_
    refine tc_forget (fun I5 hf1 hf2 hf3 => ?_)
    refine r_v ?_
    refine z_push c_106_136 ?_
    refine z_ret1 c_106_137 rfl ?_
    refine k1 hcc I5 (hL4.fr (fun p k z1 z2 => hf3 p k (by show ¬ p = 44; omega))) hf1 hf2 ?_ ?_
    · rw [hf3 0 1 (by decide), hF4 0 1 (by decide), hF3 0 1 (by decide), hF2 0 1 (by decide)]; exact hz1
    · intro q k hq
      have hq : ¬ ((q = 0 ∧ k = 1) ∨ (36 ≤ q ∧ q ≤ 38) ∨ q = 44) := hq
      rw [hf3 q k (by show ¬ q = 44; omega), hF4 q k (by show ¬ (36 ≤ q ∧ q ≤ 38); omega), hF3 q k (by show ¬ (36 ≤ q ∧ q ≤ 38); omega), hF2 q k (by show ¬ (36 ≤ q ∧ q ≤ 36 + 2); omega), hF1 q k (by omega)]
  · refine r_i ?_
    refine b_if_ne c_106_8 (fun h => Bool.noConfusion h) (fun _ => ?_)
    refine w_aload c_106_11 rfl ?_
    refine z_push c_106_12 ?_
    refine wc_108 c_106_13 sp_0 (Nat.le_of_ble_eq_true rfl) (by omega) ?_
    refine tc_refuse (by omega) ?_
    refine r_i ?_
    refine w_pop c_106_16 rfl ?_
    refine z_push c_106_17 ?_
    refine z_ret0 c_106_18 rfl ?_
    subst hi1
    exact k2 hcc

