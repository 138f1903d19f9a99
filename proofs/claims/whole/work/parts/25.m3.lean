/-! the reference: words, signs (m3.py) -/
theorem iI_nat (n : Nat) : Int32.ofNat n = iI n := (Int32.ofInt_eq_ofNat).symm
def wm (T : Int → Int) (e p : Int) (n : Nat) (W : Int → Int) : Bool := decide (wend T e p - p = n) && (List.range n).all (fun j => decide (T (p + j) = W j))
theorem wm_iff {T : Int → Int} {e p : Int} {n : Nat} {W : Int → Int} : wm T e p n W = true ↔ wend T e p - p = n ∧ ∀ j : Int, 0 ≤ j → j < n → T (p + j) = W j := by
  simp only [wm, Bool.and_eq_true, decide_eq_true_eq, List.all_eq_true, List.mem_range]
  refine and_congr Iff.rfl ⟨fun h j h1 h2 => ?_, fun h j hj => h j (by omega) (by omega)⟩
  have := h j.toNat (by omega)
  rwa [Int.toNat_of_nonneg h1] at this
def hereB (T : Int → Int) (e en p : Int) (n : Nat) (W : Int → Int) : Bool := decide (p < e) && (isLe T p && (decide (p ≠ en) && wm T e p n W))
theorem hereB_iff {T : Int → Int} {e en p : Int} {n : Nat} {W : Int → Int} : hereB T e en p n W = true ↔ p < e ∧ (97 ≤ T p ∧ T p ≤ 122) ∧ p ≠ en ∧ wend T e p - p = n ∧ ∀ j : Int, 0 ≤ j → j < n → T (p + j) = W j := by
  simp only [hereB, Bool.and_eq_true, decide_eq_true_eq, isLe, wm_iff]
set_option maxHeartbeats 2000000 in
theorem t_isHere_1 {d q nn : Nat} {I : aFI} {L : aFL} {Q : aPo} {T W : Int → Int} {e a en b bp np nm : Int} {sh : Nat} {su : Option Nat} (hB : oB I T e) (hd : 1 ≤ d) : ∀ (n : Nat) (c : Int), (e - c).toNat < n → (0 ≤ c) → (c ≤ e) → (aWp none d 137 61 [.ref 157, .ref q, .int (iI (wend T e c)), .null] [] (oP I a en b bp np nm) L (aR sh su) Q) → aWp none d 137 35 [.ref 157, .ref q, .int (iI c), .null] [] (oP I a en b bp np nm) L (aR sh su) Q := by
  intro n
  induction n with
  | zero => intro c h; omega
  | succ n ih =>
    intro c hn h0 h1 k
    have he := hB.2.2.1
    have hT := hB.2.2.2 c
    refine w_iload c_137_35 rfl ?_
    refine w_aload c_137_36 rfl ?_
    refine z_getZ c_137_37 sp_157 (by decide) rfl hB.1 ?_
    refine z_ic_ge c_137_40 (by unfold aRg; omega) (by unfold aRg; omega) (fun h1_ => ?_) (fun h1_ => ?_)
    · rw [wend_stop (by simp_all; try omega)] at k
      exact k
    · refine w_aload c_137_43 rfl ?_
      refine w_getR c_137_44 sp_157 (by decide) rfl pr_157_0 ?_
      refine w_iload c_137_47 rfl ?_
      refine z_iaload c_137_48 sp_158 (by omega) (by first | decide | omega) (hB.2.1 _ (by omega) (by omega)) ?_
      refine wc_134 c_137_49 (Nat.le_of_ble_eq_true rfl) hd ?_
      refine tm_isLetter (by unfold aRg; omega) ?_
      refine r_i ?_
      refine b_if_eq c_137_52 (fun h2_ => ?_) (fun h2_ => ?_)
      · rw [wend_stop (by simp_all; try omega)] at k
        exact k
      · refine z_iinc c_137_55 rfl rfl ?_
        refine w_goto c_137_58 ?_
        refine ih (c + 1) (by omega) (by omega) (by omega) ?_
        rw [← wend_step (by simp_all)]
        exact k

set_option maxHeartbeats 2000000 in
theorem t_isHere_2 {d q nn : Nat} {I : aFI} {L : aFL} {Q : aPo} {T W : Int → Int} {e a en b bp np nm : Int} {sh : Nat} {su : Option Nat} (hB : oB I T e) (hd : 1 ≤ d) (hs : S0[q]? = some (some .char, nn)) (hnn : nn < 100) (hW : ∀ j : Int, 0 ≤ j → j < nn → I q j.toNat = iI (W j)) (hWr : ∀ j : Int, aRg (W j)) (hq : q ≠ 157) (ha : 0 ≤ a) (hae : a + nn ≤ e) (c0 : Int) : ∀ (n : Nat) (i : Int), ((nn : Int) - i).toNat < n → (0 ≤ i) → (i ≤ nn) → ((∀ j : Int, i ≤ j → j < nn → T (a + j) = W j) → Q (some (.int (aBo true))) (oP I a en b bp np nm) L (aR sh su)) → (¬ (∀ j : Int, i ≤ j → j < nn → T (a + j) = W j) → Q (some (.int (aBo false))) (oP I a en b bp np nm) L (aR sh su)) → aWp none d 137 76 [.ref 157, .ref q, .int (iI c0), .int (iI i)] [] (oP I a en b bp np nm) L (aR sh su) Q := by
  intro n
  induction n with
  | zero => intro i h; omega
  | succ n ih =>
    intro i hn h0 h1 k1 k0
    have he := hB.2.2.1
    have hT := hB.2.2.2 (a + i)
    have hWi := hWr i
    unfold aRg at hWi
    have hW : ∀ j : Int, 0 ≤ j → j < nn → oP I a en b bp np nm q j.toNat = iI (W j) := fun j h1 h2 => by unfold oP; simp only [hq, false_and, if_false]; exact hW j h1 h2
    refine w_iload c_137_76 rfl ?_
    refine w_aload c_137_77 rfl ?_
    refine w_alen_c c_137_78 hs (iI_nat _) ?_
    refine z_ic_ge c_137_79 (by unfold aRg; omega) (by unfold aRg; omega) (fun h1_ => ?_) (fun h1_ => ?_)
    · refine z_push c_137_107 ?_
      refine z_ret1 c_137_108 rfl ?_
      exact k1 (fun j h1 h2 => absurd h2 (by omega))
    · refine w_aload c_137_82 rfl ?_
      refine w_getR c_137_83 sp_157 (by decide) rfl pr_157_0 ?_
      refine w_aload c_137_86 rfl ?_
      refine z_getZ c_137_87 sp_157 (by decide) rfl rfl ?_
      refine w_iload c_137_90 rfl ?_
      refine z_iadd c_137_91 ?_
      refine z_iaload c_137_92 sp_158 (by omega) (by first | decide | omega) (hB.2.1 _ (by omega) (by omega)) ?_
      refine w_aload c_137_93 rfl ?_
      refine w_iload c_137_94 rfl ?_
      refine z_caload c_137_95 hs (by omega) (by first | decide | omega) (hW _ (by omega) (by omega)) ?_
      refine z_ic_eq c_137_96 (by unfold aRg; omega) (by unfold aRg; omega) (fun h2_ => ?_) (fun h2_ => ?_)
      · refine z_iinc c_137_101 rfl rfl ?_
        refine w_goto c_137_104 ?_
        refine ih (i + 1) (by omega) (by omega) (by omega) (fun z => k1 (fun j h1 h2 => ?_)) (fun z => k0 (fun z2 => z (fun j h1 h2 => z2 j (by omega) h2)))
        by_cases h : i < j
        · exact z j (by omega) h2
        · rw [show j = i by omega]; assumption
      · refine z_push c_137_99 ?_
        refine z_ret0 c_137_100 rfl ?_
        exact k0 (fun z => absurd (z i (Int.le_refl _) (by omega)) (by assumption))

theorem lkc_rg {T : Int → Int} {e a : Int} (hT : ∀ j : Int, 0 ≤ T j ∧ T j < 256) : -1 ≤ lkc T e a ∧ lkc T e a < 256 := by
  unfold lkc; split
  · have := hT a; omega
  · omega
theorem lkc_at {T : Int → Int} {e a : Int} : (a < e ∧ lkc T e a = T a) ∨ (¬ a < e ∧ lkc T e a = -1) := by
  unfold lkc; by_cases h : a < e
  · exact Or.inl ⟨h, if_pos h⟩
  · exact Or.inr ⟨h, if_neg h⟩
set_option maxHeartbeats 1000000 in
theorem t_isHere {d q nn : Nat} {I : aFI} {L : aFL} {Q : aPo} {T W : Int → Int} {e a en b bp np nm : Int} {sh : Nat} {su : Option Nat} (hB : oB I T e) (hd : 2 ≤ d) (h0 : 0 ≤ a) (h1 : a ≤ e) (hb : aRg b) (hen : aRg en) (hs : S0[q]? = some (some .char, nn)) (hnn : nn < 100) (hW : ∀ j : Int, 0 ≤ j → j < nn → I q j.toNat = iI (W j)) (hWr : ∀ j : Int, aRg (W j)) (hq : q ≠ 157) (kb : ¬ b = 0 → Q (some (.int (aBo false))) (oP I a en b bp np nm) L (aR sh su)) (k0 : b = 0 → Q (some (.int (aBo (hereB T e en (skip T e a) nn W)))) (oP I (skip T e a) en b bp np nm) L (aR sh su)) : aWp none d 137 0 [.ref 157, .ref q, .null, .null] [] (oP I a en b bp np nm) L (aR sh su) Q := by
  have he := hB.2.2.1
  have hT := hB.2.2.2 (skip T e a)
  have hp0 : a ≤ skip T e a := scan_ge
  have hp1 : skip T e a ≤ e := scan_le h1
  have hl := lkc_rg (T := T) (e := e) (a := skip T e a) hB.2.2.2
  have hl2 := lkc_at (T := T) (e := e) (a := skip T e a)
  have hw0 : skip T e a ≤ wend T e (skip T e a) := scan_ge
  have hw1 : wend T e (skip T e a) ≤ e := scan_le hp1
  unfold aRg at hb hen
  refine w_aload c_137_0 rfl ?_
  refine z_getZ c_137_1 sp_157 (by decide) rfl rfl ?_
  refine z_if_ne c_137_4 (by unfold aRg; omega) (fun h1_ => ?_) (fun h1_ => ?_)
  · refine z_push c_137_28 ?_
    refine z_ret0 c_137_29 rfl ?_
    first
    | exact kb (by assumption)
    | ((try simp only [decide_eq_true_eq, decide_eq_false_iff_not] at *)
       have h9 : hereB T e en (skip T e a) nn W = false := Bool.eq_false_iff.mpr (fun z => by have h8 := hereB_iff.mp z; first | omega | simp_all)
       have := k0 (by omega)
       rw [h9] at this
       exact this)
  · refine w_aload c_137_7 rfl ?_
    refine wc_136 c_137_8 sp_157 (Nat.le_of_ble_eq_true rfl) (by omega) ?_
    refine t_look hB h0 h1 ?_
    refine r_i ?_
    refine wc_134 c_137_11 (Nat.le_of_ble_eq_true rfl) (by omega) ?_
    refine tm_isLetter (by unfold aRg; omega) ?_
    refine r_i ?_
    refine b_if_eq c_137_14 (fun h2_ => ?_) (fun h2_ => ?_)
    · refine z_push c_137_28 ?_
      refine z_ret0 c_137_29 rfl ?_
      first
      | exact kb (by assumption)
      | ((try simp only [decide_eq_true_eq, decide_eq_false_iff_not] at *)
         have h9 : hereB T e en (skip T e a) nn W = false := Bool.eq_false_iff.mpr (fun z => by have h8 := hereB_iff.mp z; first | omega | simp_all)
         have := k0 (by omega)
         rw [h9] at this
         exact this)
    · refine w_aload c_137_17 rfl ?_
      refine z_getZ c_137_18 sp_157 (by decide) rfl rfl ?_
      refine w_aload c_137_21 rfl ?_
      refine z_getZ c_137_22 sp_157 (by decide) rfl rfl ?_
      refine z_ic_ne c_137_25 (by unfold aRg; omega) (by unfold aRg; omega) (fun h3_ => ?_) (fun h3_ => ?_)
      · refine w_aload c_137_30 rfl ?_
        refine z_getZ c_137_31 sp_157 (by decide) rfl rfl ?_
        refine w_istore c_137_34 (Nat.le_of_ble_eq_true rfl) rfl ?_
        refine t_isHere_1 (W := W) (nn := nn) hB (by omega) _ (skip T e a) (Nat.lt_succ_self _) (by omega) hp1 ?_
        refine w_iload c_137_61 rfl ?_
        refine w_aload c_137_62 rfl ?_
        refine z_getZ c_137_63 sp_157 (by decide) rfl rfl ?_
        refine z_isub c_137_66 ?_
        refine w_aload c_137_67 rfl ?_
        refine w_alen_c c_137_68 hs (iI_nat _) ?_
        refine z_ic_eq c_137_69 (by unfold aRg; omega) (by unfold aRg; omega) (fun h1_ => ?_) (fun h1_ => ?_)
        · refine z_push c_137_74 ?_
          refine w_istore c_137_75 (Nat.le_of_ble_eq_true rfl) rfl ?_
          (try simp only [decide_eq_true_eq, decide_eq_false_iff_not] at *)
          refine t_isHere_2 hB (by omega) hs hnn hW hWr hq (by omega) (by omega) _ _ 0 (Nat.lt_succ_self _) (by omega) (by omega) (fun z => ?_) (fun z => ?_)
          · have h9 : hereB T e en (skip T e a) nn W = true := hereB_iff.mpr ⟨by omega, by omega, by omega, by omega, z⟩
            have := k0 (by omega)
            rw [h9] at this
            exact this
          · have h9 : hereB T e en (skip T e a) nn W = false := Bool.eq_false_iff.mpr (fun z2 => z (hereB_iff.mp z2).2.2.2.2)
            have := k0 (by omega)
            rw [h9] at this
            exact this
        · refine z_push c_137_72 ?_
          refine z_ret0 c_137_73 rfl ?_
          (try simp only [decide_eq_true_eq, decide_eq_false_iff_not] at *)
          have h9 : hereB T e en (skip T e a) nn W = false := Bool.eq_false_iff.mpr (fun z => by have h8 := hereB_iff.mp z; omega)
          have := k0 (by omega)
          rw [h9] at this
          exact this
      · refine z_push c_137_28 ?_
        refine z_ret0 c_137_29 rfl ?_
        first
        | exact kb (by assumption)
        | ((try simp only [decide_eq_true_eq, decide_eq_false_iff_not] at *)
           have h9 : hereB T e en (skip T e a) nn W = false := Bool.eq_false_iff.mpr (fun z => by have h8 := hereB_iff.mp z; first | omega | simp_all)
           have := k0 (by omega)
           rw [h9] at this
           exact this)

