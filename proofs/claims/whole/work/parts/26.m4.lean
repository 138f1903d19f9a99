/-! the reference: takes, asks, signs, numbers (m4.py) -/
set_option maxHeartbeats 1000000 in
theorem t_takes {d q nn : Nat} {I : aFI} {L : aFL} {Q : aPo} {T W : Int → Int} {e a en b bp np nm : Int} {sh : Nat} {su : Option Nat} (hB : oB I T e) (hd : 3 ≤ d) (h0 : 0 ≤ a) (h1 : a ≤ e) (hb : aRg b) (hen : aRg en) (hs : S0[q]? = some (some .char, nn)) (hnn : nn < 100) (hW : ∀ j : Int, 0 ≤ j → j < nn → I q j.toNat = iI (W j)) (hWr : ∀ j : Int, aRg (W j)) (hq : q ≠ 157) (kb : ¬ b = 0 → Q (some (.int (aBo false))) (oP I a en b bp np nm) L (aR sh su)) (kt : b = 0 → hereB T e en (skip T e a) nn W = true → Q (some (.int (aBo true))) (oP I (skip T e a + nn) (skip T e a + nn) b bp np nm) L (aR sh su)) (kf : b = 0 → hereB T e en (skip T e a) nn W = false → Q (some (.int (aBo false))) (oP I (skip T e a) en b bp np nm) L (aR sh su)) : aWp none d 138 0 [.ref 157, .ref q] [] (oP I a en b bp np nm) L (aR sh su) Q := by
  have he := hB.2.2.1
  have hp0 : a ≤ skip T e a := scan_ge
  have hp1 : skip T e a ≤ e := scan_le h1
  have hl := lkc_rg (T := T) (e := e) (a := skip T e a) hB.2.2.2
  unfold aRg at hb hen
  refine w_aload c_138_0 rfl ?_
  refine w_aload c_138_1 rfl ?_
  refine wc_137 c_138_2 sp_157 (Nat.le_of_ble_eq_true rfl) (by omega) ?_
  refine t_isHere hB (by omega) h0 h1 hb hen hs hnn hW hWr hq (fun hbb => ?_) (fun hbb => ?_)
  · refine r_i ?_
    refine b_if_ne c_138_5 (fun h1_ => ?_) (fun h1_ => ?_)
    · refine w_aload c_138_10 rfl ?_
      refine w_dup c_138_11 rfl ?_
      refine z_getZ c_138_12 sp_157 (by decide) rfl rfl ?_
      refine w_aload c_138_15 rfl ?_
      refine w_alen_c c_138_16 hs (iI_nat _) ?_
      refine z_iadd c_138_17 ?_
      refine z_putZ c_138_18 sp_157 (by decide) rfl ?_
      rw [oP_at]
      refine w_aload c_138_21 rfl ?_
      refine w_aload c_138_22 rfl ?_
      refine z_getZ c_138_23 sp_157 (by decide) rfl rfl ?_
      refine z_putZ c_138_26 sp_157 (by decide) rfl ?_
      rw [oP_en]
      refine z_push c_138_29 ?_
      refine z_ret1 c_138_30 rfl ?_
      first
      | exact kb hbb
      | exact kf hbb (by assumption)
      | exact kt hbb (by assumption)
      | (exfalso; simp_all; done)
    · refine z_push c_138_8 ?_
      refine z_ret0 c_138_9 rfl ?_
      first
      | exact kb hbb
      | exact kf hbb (by assumption)
      | exact kt hbb (by assumption)
      | (exfalso; simp_all; done)
  · refine r_i ?_
    refine b_if_ne c_138_5 (fun h2_ => ?_) (fun h2_ => ?_)
    · refine w_aload c_138_10 rfl ?_
      refine w_dup c_138_11 rfl ?_
      refine z_getZ c_138_12 sp_157 (by decide) rfl rfl ?_
      refine w_aload c_138_15 rfl ?_
      refine w_alen_c c_138_16 hs (iI_nat _) ?_
      refine z_iadd c_138_17 ?_
      refine z_putZ c_138_18 sp_157 (by decide) rfl ?_
      rw [oP_at]
      refine w_aload c_138_21 rfl ?_
      refine w_aload c_138_22 rfl ?_
      refine z_getZ c_138_23 sp_157 (by decide) rfl rfl ?_
      refine z_putZ c_138_26 sp_157 (by decide) rfl ?_
      rw [oP_en]
      refine z_push c_138_29 ?_
      refine z_ret1 c_138_30 rfl ?_
      first
      | exact kb hbb
      | exact kf hbb (by assumption)
      | exact kt hbb (by assumption)
      | (exfalso; simp_all; done)
    · refine z_push c_138_8 ?_
      refine z_ret0 c_138_9 rfl ?_
      first
      | exact kb hbb
      | exact kf hbb (by assumption)
      | exact kt hbb (by assumption)
      | (exfalso; simp_all; done)

set_option maxHeartbeats 1000000 in
theorem t_asks {d q nn : Nat} {I : aFI} {L : aFL} {Q : aPo} {T W : Int → Int} {e a en b bp np nm : Int} {sh : Nat} {su : Option Nat} (hB : oB I T e) (hd : 4 ≤ d) (h0 : 0 ≤ a) (h1 : a ≤ e) (hb : aRg b) (hen : aRg en) (hs : S0[q]? = some (some .char, nn)) (hnn : nn < 100) (hW : ∀ j : Int, 0 ≤ j → j < nn → I q j.toNat = iI (W j)) (hWr : ∀ j : Int, aRg (W j)) (hq : q ≠ 157) (kb : ¬ b = 0 → Q none (oP I a en b bp np nm) L (aR sh su)) (kt : b = 0 → hereB T e en (skip T e a) nn W = true → Q none (oP I (skip T e a + nn) (skip T e a + nn) b bp np nm) L (aR sh su)) (kf : b = 0 → hereB T e en (skip T e a) nn W = false → Q none (oP I (skip T e a) en 1 (skip T e a) np nm) L (aR sh su)) : aWp none d 139 0 [.ref 157, .ref q] [] (oP I a en b bp np nm) L (aR sh su) Q := by
  have he := hB.2.2.1
  have hp0 : a ≤ skip T e a := scan_ge
  have hp1 : skip T e a ≤ e := scan_le h1
  have hl := lkc_rg (T := T) (e := e) (a := skip T e a) hB.2.2.2
  unfold aRg at hb hen
  refine w_aload c_139_0 rfl ?_
  refine z_getZ c_139_1 sp_157 (by decide) rfl rfl ?_
  refine z_if_ne c_139_4 (by unfold aRg; omega) (fun h1_ => ?_) (fun h1_ => ?_)
  · refine z_retv c_139_24 ?_
    first
    | exact kb (by assumption)
    | exact kf hbb hh
    | exact kt hbb hh
    | (exfalso; simp_all; done)
  · refine w_aload c_139_7 rfl ?_
    refine w_aload c_139_8 rfl ?_
    refine wc_138 c_139_9 sp_157 (Nat.le_of_ble_eq_true rfl) (by omega) ?_
    refine t_takes hB (by omega) h0 h1 hb hen hs hnn hW hWr hq (fun hbb => ?_) (fun hbb hh => ?_) (fun hbb hh => ?_)
    · refine r_i ?_
      refine b_if_ne c_139_12 (fun h2_ => ?_) (fun h2_ => ?_)
      · refine z_retv c_139_24 ?_
        first
        | exact kb (by assumption)
        | exact kf hbb hh
        | exact kt hbb hh
        | (exfalso; simp_all; done)
      · refine w_aload c_139_15 rfl ?_
        refine z_push c_139_16 ?_
        refine w_aload c_139_17 rfl ?_
        refine z_getZ c_139_18 sp_157 (by decide) rfl rfl ?_
        refine wc_133 c_139_21 sp_157 (Nat.le_of_ble_eq_true rfl) (by omega) ?_
        refine t_fail (by unfold aRg; omega) (fun hf => absurd hf (by omega)) (fun hf => ?_)
        refine r_v ?_
        refine z_retv c_139_24 ?_
        first
        | exact kb (by assumption)
        | exact kf hbb hh
        | exact kt hbb hh
        | (exfalso; simp_all; done)
    · refine r_i ?_
      refine b_if_ne c_139_12 (fun h3_ => ?_) (fun h3_ => ?_)
      · refine z_retv c_139_24 ?_
        first
        | exact kb (by assumption)
        | exact kf hbb hh
        | exact kt hbb hh
        | (exfalso; simp_all; done)
      · refine w_aload c_139_15 rfl ?_
        refine z_push c_139_16 ?_
        refine w_aload c_139_17 rfl ?_
        refine z_getZ c_139_18 sp_157 (by decide) rfl rfl ?_
        refine wc_133 c_139_21 sp_157 (Nat.le_of_ble_eq_true rfl) (by omega) ?_
        refine t_fail (by unfold aRg; omega) (fun hf => absurd hf (by omega)) (fun hf => ?_)
        refine r_v ?_
        refine z_retv c_139_24 ?_
        first
        | exact kb (by assumption)
        | exact kf hbb hh
        | exact kt hbb hh
        | (exfalso; simp_all; done)
    · refine r_i ?_
      refine b_if_ne c_139_12 (fun h4_ => ?_) (fun h4_ => ?_)
      · refine z_retv c_139_24 ?_
        first
        | exact kb (by assumption)
        | exact kf hbb hh
        | exact kt hbb hh
        | (exfalso; simp_all; done)
      · refine w_aload c_139_15 rfl ?_
        refine z_push c_139_16 ?_
        refine w_aload c_139_17 rfl ?_
        refine z_getZ c_139_18 sp_157 (by decide) rfl rfl ?_
        refine wc_133 c_139_21 sp_157 (Nat.le_of_ble_eq_true rfl) (by omega) ?_
        refine t_fail (by unfold aRg; omega) (fun hf => absurd hf (by omega)) (fun hf => ?_)
        refine r_v ?_
        refine z_retv c_139_24 ?_
        first
        | exact kb (by assumption)
        | exact kf hbb hh
        | exact kt hbb hh
        | (exfalso; simp_all; done)

set_option maxHeartbeats 1000000 in
theorem t_takesSign {d : Nat} {I : aFI} {L : aFL} {Q : aPo} {T : Int → Int} {e a en b bp np nm : Int} {sh : Nat} {su : Option Nat} (hB : oB I T e) {c : Int} (hc : -2 ≤ c ∧ c < 256) (hd : 1 ≤ d) (h0 : 0 ≤ a) (h1 : a ≤ e) (hb : aRg b) (hen : aRg en) (kb : ¬ b = 0 → Q (some (.int (aBo false))) (oP I a en b bp np nm) L (aR sh su)) (kt : b = 0 → lkc T e (skip T e a) = c → Q (some (.int (aBo true))) (oP I (skip T e a + 1) en b bp np nm) L (aR sh su)) (kf : b = 0 → ¬ lkc T e (skip T e a) = c → Q (some (.int (aBo false))) (oP I (skip T e a) en b bp np nm) L (aR sh su)) : aWp none d 140 0 [.ref 157, .int (iI c)] [] (oP I a en b bp np nm) L (aR sh su) Q := by
  have he := hB.2.2.1
  have hp0 : a ≤ skip T e a := scan_ge
  have hp1 : skip T e a ≤ e := scan_le h1
  have hl := lkc_rg (T := T) (e := e) (a := skip T e a) hB.2.2.2
  unfold aRg at hb hen
  refine w_aload c_140_0 rfl ?_
  refine z_getZ c_140_1 sp_157 (by decide) rfl rfl ?_
  refine z_if_ne c_140_4 (by unfold aRg; omega) (fun h1_ => ?_) (fun h1_ => ?_)
  · refine z_push c_140_15 ?_
    refine z_ret0 c_140_16 rfl ?_
    first
    | exact kb (by omega)
    | exact kf (by omega) (by omega)
    | exact kt (by omega) (by omega)
  · refine w_aload c_140_7 rfl ?_
    refine wc_136 c_140_8 sp_157 (Nat.le_of_ble_eq_true rfl) (by omega) ?_
    refine t_look hB h0 h1 ?_
    refine r_i ?_
    refine w_iload c_140_11 rfl ?_
    refine z_ic_eq c_140_12 (by unfold aRg; omega) (by unfold aRg; omega) (fun h2_ => ?_) (fun h2_ => ?_)
    · refine w_aload c_140_17 rfl ?_
      refine w_dup c_140_18 rfl ?_
      refine z_getZ c_140_19 sp_157 (by decide) rfl rfl ?_
      refine z_push c_140_22 ?_
      refine z_iadd c_140_23 ?_
      refine z_putZ c_140_24 sp_157 (by decide) rfl ?_
      rw [oP_at]
      refine z_push c_140_27 ?_
      refine z_ret1 c_140_28 rfl ?_
      first
      | exact kb (by omega)
      | exact kf (by omega) (by omega)
      | exact kt (by omega) (by omega)
    · refine z_push c_140_15 ?_
      refine z_ret0 c_140_16 rfl ?_
      first
      | exact kb (by omega)
      | exact kf (by omega) (by omega)
      | exact kt (by omega) (by omega)

set_option maxHeartbeats 1000000 in
theorem t_asksSign {d : Nat} {I : aFI} {L : aFL} {Q : aPo} {T : Int → Int} {e a en b bp np nm : Int} {sh : Nat} {su : Option Nat} (hB : oB I T e) {c : Int} (hc : -2 ≤ c ∧ c < 256) (hd : 2 ≤ d) (h0 : 0 ≤ a) (h1 : a ≤ e) (hb : aRg b) (hen : aRg en) (kb : ¬ b = 0 → Q none (oP I a en b bp np nm) L (aR sh su)) (kt : b = 0 → lkc T e (skip T e a) = c → Q none (oP I (skip T e a + 1) en b bp np nm) L (aR sh su)) (kf : b = 0 → ¬ lkc T e (skip T e a) = c → Q none (oP I (skip T e a) en 1 (skip T e a) np nm) L (aR sh su)) : aWp none d 141 0 [.ref 157, .int (iI c)] [] (oP I a en b bp np nm) L (aR sh su) Q := by
  have he := hB.2.2.1
  have hp0 : a ≤ skip T e a := scan_ge
  have hp1 : skip T e a ≤ e := scan_le h1
  have hl := lkc_rg (T := T) (e := e) (a := skip T e a) hB.2.2.2
  unfold aRg at hb hen
  refine w_aload c_141_0 rfl ?_
  refine z_getZ c_141_1 sp_157 (by decide) rfl rfl ?_
  refine z_if_ne c_141_4 (by unfold aRg; omega) (fun h1_ => ?_) (fun h1_ => ?_)
  · refine z_retv c_141_24 ?_
    first
    | exact kb (by assumption)
    | exact kf hbb hh
    | exact kt hbb hh
    | (exfalso; simp_all; done)
  · refine w_aload c_141_7 rfl ?_
    refine w_iload c_141_8 rfl ?_
    refine wc_140 c_141_9 sp_157 (Nat.le_of_ble_eq_true rfl) (by omega) ?_
    refine t_takesSign hB hc (by omega) h0 h1 hb hen (fun hbb => ?_) (fun hbb hh => ?_) (fun hbb hh => ?_)
    · refine r_i ?_
      refine b_if_ne c_141_12 (fun h2_ => ?_) (fun h2_ => ?_)
      · refine z_retv c_141_24 ?_
        first
        | exact kb (by assumption)
        | exact kf hbb hh
        | exact kt hbb hh
        | (exfalso; simp_all; done)
      · refine w_aload c_141_15 rfl ?_
        refine z_push c_141_16 ?_
        refine w_aload c_141_17 rfl ?_
        refine z_getZ c_141_18 sp_157 (by decide) rfl rfl ?_
        refine wc_133 c_141_21 sp_157 (Nat.le_of_ble_eq_true rfl) (by omega) ?_
        refine t_fail (by unfold aRg; omega) (fun hf => absurd hf (by omega)) (fun hf => ?_)
        refine r_v ?_
        refine z_retv c_141_24 ?_
        first
        | exact kb (by assumption)
        | exact kf hbb hh
        | exact kt hbb hh
        | (exfalso; simp_all; done)
    · refine r_i ?_
      refine b_if_ne c_141_12 (fun h3_ => ?_) (fun h3_ => ?_)
      · refine z_retv c_141_24 ?_
        first
        | exact kb (by assumption)
        | exact kf hbb hh
        | exact kt hbb hh
        | (exfalso; simp_all; done)
      · refine w_aload c_141_15 rfl ?_
        refine z_push c_141_16 ?_
        refine w_aload c_141_17 rfl ?_
        refine z_getZ c_141_18 sp_157 (by decide) rfl rfl ?_
        refine wc_133 c_141_21 sp_157 (Nat.le_of_ble_eq_true rfl) (by omega) ?_
        refine t_fail (by unfold aRg; omega) (fun hf => absurd hf (by omega)) (fun hf => ?_)
        refine r_v ?_
        refine z_retv c_141_24 ?_
        first
        | exact kb (by assumption)
        | exact kf hbb hh
        | exact kt hbb hh
        | (exfalso; simp_all; done)
    · refine r_i ?_
      refine b_if_ne c_141_12 (fun h4_ => ?_) (fun h4_ => ?_)
      · refine z_retv c_141_24 ?_
        first
        | exact kb (by assumption)
        | exact kf hbb hh
        | exact kt hbb hh
        | (exfalso; simp_all; done)
      · refine w_aload c_141_15 rfl ?_
        refine z_push c_141_16 ?_
        refine w_aload c_141_17 rfl ?_
        refine z_getZ c_141_18 sp_157 (by decide) rfl rfl ?_
        refine wc_133 c_141_21 sp_157 (Nat.le_of_ble_eq_true rfl) (by omega) ?_
        refine t_fail (by unfold aRg; omega) (fun hf => absurd hf (by omega)) (fun hf => ?_)
        refine r_v ?_
        refine z_retv c_141_24 ?_
        first
        | exact kb (by assumption)
        | exact kf hbb hh
        | exact kt hbb hh
        | (exfalso; simp_all; done)

def nv (T : Int → Int) (p : Int) : Nat → Int
  | 0 => 0
  | k + 1 => 10 * nv T p k + (T (p + k) - 48)
theorem nv_rg {T : Int → Int} {p : Int} : ∀ k : Nat, k ≤ 4 → (∀ j : Int, 0 ≤ j → j < k → 48 ≤ T (p + j) ∧ T (p + j) ≤ 57) → 0 ≤ nv T p k ∧ nv T p k < 10000 ∧ (k ≤ 3 → nv T p k < 1000) ∧ (k ≤ 2 → nv T p k < 100) ∧ (k ≤ 1 → nv T p k < 10) ∧ (k = 0 → nv T p k = 0)
  | 0, _, _ => by simp [nv]
  | k + 1, h, hd => by
    have ih := nv_rg k (by omega) (fun j h1 h2 => hd j h1 (by omega))
    have := hd k (by omega) (by omega)
    simp only [nv]
    refine ⟨?_, ?_, ?_, ?_, ?_, ?_⟩ <;> omega
def digAt (T : Int → Int) (e en p : Int) : Bool := decide (p < e ∧ (48 ≤ T p ∧ T p ≤ 57) ∧ p ≠ en)
def nval (T : Int → Int) (e p : Int) : Int := nv T p (dend T e p - p).toNat
set_option maxHeartbeats 2000000 in
theorem t_number_1 {d : Nat} {I : aFI} {L : aFL} {Q : aPo} {T : Int → Int} {e en b bp np nm p lo hi : Int} {sh : Nat} {su : Option Nat} (hB : oB I T e) (hd : 1 ≤ d) (hb : b = 0) (hp0 : 0 ≤ p) : ∀ (n : Nat) (c : Int), (e - c).toNat < n → (p ≤ c) → (c ≤ e) → (c - p ≤ 4) → (∀ j : Int, p ≤ j → j < c → 48 ≤ T j ∧ T j ≤ 57) → (dend T e c - p ≤ 4 → aWp none d 142 129 [.ref 157, .int (iI lo), .int (iI hi), .int (iI p), .int (iI (nv T p (dend T e c - p).toNat))] [] (oP I (dend T e c) en b bp np nm) L (aR sh su) Q) → (¬ dend T e c - p ≤ 4 → Q (some (.int (iI 0))) (oP I (p + 4) en 1 (p + 4) np nm) L (aR sh su)) → aWp none d 142 49 [.ref 157, .int (iI lo), .int (iI hi), .int (iI p), .int (iI (nv T p (c - p).toNat))] [] (oP I c en b bp np nm) L (aR sh su) Q := by
  intro n
  induction n with
  | zero => intro c h; omega
  | succ n ih =>
    intro c hn h0 h1 h2 hdg k1 k2
    have he := hB.2.2.1
    have hT := hB.2.2.2 c
    have hnv := nv_rg (T := T) (p := p) (c - p).toNat (by omega) (fun j h3 h4 => hdg (p + j) (by omega) (by omega))
    refine w_aload c_142_49 rfl ?_
    refine z_getZ c_142_50 sp_157 (by decide) rfl rfl ?_
    refine w_aload c_142_53 rfl ?_
    refine z_getZ c_142_54 sp_157 (by decide) rfl hB.1 ?_
    refine z_ic_ge c_142_57 (by unfold aRg; omega) (by unfold aRg; omega) (fun h1_ => ?_) (fun h1_ => ?_)
    · (try simp only [decide_eq_true_eq, decide_eq_false_iff_not] at *)
      have h9 : dend T e c = c := dend_stop (by omega)
      rw [h9] at k1
      exact k1 (by omega)
    · refine w_aload c_142_60 rfl ?_
      refine w_getR c_142_61 sp_157 (by decide) rfl pr_157_0 ?_
      refine w_aload c_142_64 rfl ?_
      refine z_getZ c_142_65 sp_157 (by decide) rfl rfl ?_
      refine z_iaload c_142_68 sp_158 (by omega) (by first | decide | omega) (hB.2.1 _ (by omega) (by omega)) ?_
      refine wc_135 c_142_69 (Nat.le_of_ble_eq_true rfl) (by omega) ?_
      refine tm_isDigit (by unfold aRg; omega) ?_
      refine r_i ?_
      refine b_if_eq c_142_72 (fun h2_ => ?_) (fun h2_ => ?_)
      · (try simp only [decide_eq_true_eq, decide_eq_false_iff_not] at *)
        have h9 : dend T e c = c := dend_stop (by omega)
        rw [h9] at k1
        exact k1 (by omega)
      · refine w_aload c_142_75 rfl ?_
        refine z_getZ c_142_76 sp_157 (by decide) rfl rfl ?_
        refine w_iload c_142_79 rfl ?_
        refine z_isub c_142_80 ?_
        refine z_push c_142_81 ?_
        refine z_ic_ne c_142_82 (by unfold aRg; omega) (by unfold aRg; omega) (fun h3_ => ?_) (fun h3_ => ?_)
        · refine z_push c_142_96 ?_
          refine w_iload c_142_98 rfl ?_
          refine z_imul c_142_100 ?_
          refine w_aload c_142_101 rfl ?_
          refine w_getR c_142_102 sp_157 (by decide) rfl pr_157_0 ?_
          refine w_aload c_142_105 rfl ?_
          refine z_getZ c_142_106 sp_157 (by decide) rfl rfl ?_
          refine z_iaload c_142_109 sp_158 (by omega) (by first | decide | omega) (hB.2.1 _ (by omega) (by omega)) ?_
          refine z_iadd c_142_110 ?_
          refine z_push c_142_111 ?_
          refine z_isub c_142_113 ?_
          refine w_istore c_142_114 (Nat.le_of_ble_eq_true rfl) rfl ?_
          refine w_aload c_142_116 rfl ?_
          refine w_dup c_142_117 rfl ?_
          refine z_getZ c_142_118 sp_157 (by decide) rfl rfl ?_
          refine z_push c_142_121 ?_
          refine z_iadd c_142_122 ?_
          refine z_putZ c_142_123 sp_157 (by decide) rfl ?_
          rw [oP_at]
          refine w_goto c_142_126 ?_
          (try simp only [decide_eq_true_eq, decide_eq_false_iff_not] at *)
          have h9 : dend T e c = dend T e (c + 1) := dend_step (by omega)
          rw [h9] at k1 k2
          have h8 : nv T p ((c + 1) - p).toNat = 10 * nv T p (c - p).toNat + T c - 48 := by
            rw [show ((c + 1) - p).toNat = (c - p).toNat + 1 by omega]
            simp only [nv]
            rw [show p + ((c - p).toNat : Int) = c by omega]
            omega
          rw [← h8]
          exact ih (c + 1) (by omega) (by omega) (by omega) (by omega) (fun j h3 h4 => by
            by_cases hj : j = c
            · rw [hj]; omega
            · exact hdg j h3 (by omega)) k1 k2
        · refine w_aload c_142_85 rfl ?_
          refine z_push c_142_86 ?_
          refine w_aload c_142_87 rfl ?_
          refine z_getZ c_142_88 sp_157 (by decide) rfl rfl ?_
          refine wc_133 c_142_91 sp_157 (Nat.le_of_ble_eq_true rfl) (by omega) ?_
          refine t_fail (by unfold aRg; omega) (fun hf => absurd hf (by omega)) (fun hf => ?_)
          refine r_v ?_
          refine z_push c_142_94 ?_
          refine z_ret c_142_95 rfl ?_
          (try simp only [decide_eq_true_eq, decide_eq_false_iff_not] at *)
          have h9 : dend T e c = dend T e (c + 1) := dend_step (by omega)
          have h8 : c + 1 ≤ dend T e (c + 1) := scan_ge
          have := k2 (by omega)
          rw [show p + 4 = c by omega] at this
          exact this

set_option maxHeartbeats 1000000 in
theorem t_number {d : Nat} {I : aFI} {L : aFL} {Q : aPo} {T : Int → Int} {e a en b bp np nm : Int} {sh : Nat} {su : Option Nat} (hB : oB I T e) {lo hi : Int} (hlo : 0 ≤ lo ∧ lo < 20000) (hhi : 0 ≤ hi ∧ hi < 20000) (hd : 1 ≤ d) (h0 : 0 ≤ a) (h1 : a ≤ e) (hb : aRg b) (hen : aRg en) (kb : ¬ b = 0 → Q (some (.int (iI 0))) (oP I a en b bp np nm) L (aR sh su)) (k1 : b = 0 → digAt T e en (skip T e a) = false → Q (some (.int (iI 0))) (oP I (skip T e a) en 1 (skip T e a) np nm) L (aR sh su)) (k2 : b = 0 → digAt T e en (skip T e a) = true → ¬ dend T e (skip T e a) - (skip T e a) ≤ 4 → Q (some (.int (iI 0))) (oP I ((skip T e a) + 4) en 1 ((skip T e a) + 4) np nm) L (aR sh su)) (k3 : b = 0 → digAt T e en (skip T e a) = true → dend T e (skip T e a) - (skip T e a) ≤ 4 → ¬ (lo ≤ nval T e (skip T e a) ∧ nval T e (skip T e a) ≤ hi) → Q (some (.int (iI (nval T e (skip T e a))))) (oP I (dend T e (skip T e a)) (dend T e (skip T e a)) 2 (skip T e a) (skip T e a) nm) L (aR sh su)) (k4 : b = 0 → digAt T e en (skip T e a) = true → dend T e (skip T e a) - (skip T e a) ≤ 4 → (lo ≤ nval T e (skip T e a) ∧ nval T e (skip T e a) ≤ hi) → Q (some (.int (iI (nval T e (skip T e a))))) (oP I (dend T e (skip T e a)) (dend T e (skip T e a)) b bp (skip T e a) nm) L (aR sh su)) : aWp none d 142 0 [.ref 157, .int (iI lo), .int (iI hi), .null, .null] [] (oP I a en b bp np nm) L (aR sh su) Q := by
  have he := hB.2.2.1
  have hp0 : a ≤ skip T e a := scan_ge
  have hp1 : skip T e a ≤ e := scan_le h1
  have hl := lkc_rg (T := T) (e := e) (a := skip T e a) hB.2.2.2
  unfold aRg at hb hen
  have hl2 := lkc_at (T := T) (e := e) (a := skip T e a)
  refine w_aload c_142_0 rfl ?_
  refine z_getZ c_142_1 sp_157 (by decide) rfl rfl ?_
  refine z_if_eq c_142_4 (by unfold aRg; omega) (fun h1_ => ?_) (fun h1_ => ?_)
  · refine w_aload c_142_9 rfl ?_
    refine wc_136 c_142_10 sp_157 (Nat.le_of_ble_eq_true rfl) (by omega) ?_
    refine t_look hB h0 h1 ?_
    refine r_i ?_
    refine wc_135 c_142_13 (Nat.le_of_ble_eq_true rfl) (by omega) ?_
    refine tm_isDigit (by unfold aRg; omega) ?_
    refine r_i ?_
    refine b_if_eq c_142_16 (fun h2_ => ?_) (fun h2_ => ?_)
    · refine w_aload c_142_30 rfl ?_
      refine z_push c_142_31 ?_
      refine w_aload c_142_32 rfl ?_
      refine z_getZ c_142_33 sp_157 (by decide) rfl rfl ?_
      refine wc_133 c_142_36 sp_157 (Nat.le_of_ble_eq_true rfl) (by omega) ?_
      refine t_fail (by unfold aRg; omega) (fun hf => absurd hf (by omega)) (fun hf => ?_)
      refine r_v ?_
      refine z_push c_142_39 ?_
      refine z_ret c_142_40 rfl ?_
      (try simp only [decide_eq_true_eq, decide_eq_false_iff_not] at *)
      first
      | exact kb (by omega)
      | exact k1 (by omega) (decide_eq_false (by omega))
    · refine w_aload c_142_19 rfl ?_
      refine z_getZ c_142_20 sp_157 (by decide) rfl rfl ?_
      refine w_aload c_142_23 rfl ?_
      refine z_getZ c_142_24 sp_157 (by decide) rfl rfl ?_
      refine z_ic_ne c_142_27 (by unfold aRg; omega) (by unfold aRg; omega) (fun h3_ => ?_) (fun h3_ => ?_)
      · refine w_aload c_142_41 rfl ?_
        refine z_getZ c_142_42 sp_157 (by decide) rfl rfl ?_
        refine w_istore c_142_45 (Nat.le_of_ble_eq_true rfl) rfl ?_
        refine z_push c_142_46 ?_
        refine w_istore c_142_47 (Nat.le_of_ble_eq_true rfl) rfl ?_
        (try simp only [decide_eq_true_eq, decide_eq_false_iff_not] at *)
        have hdig : digAt T e en (skip T e a) = true := decide_eq_true ⟨by omega, by omega, by omega⟩
        have hq0 : skip T e a ≤ dend T e (skip T e a) := scan_ge
        have hq1 : dend T e (skip T e a) ≤ e := scan_le hp1
        have hnv0 : ∀ h : dend T e (skip T e a) - skip T e a ≤ 4, 0 ≤ nval T e (skip T e a) ∧ nval T e (skip T e a) < 10000 := fun h => by
          have := nv_rg (T := T) (p := skip T e a) (dend T e (skip T e a) - skip T e a).toNat (by omega) (fun j h3 h4 => by
            have := scan_all (p := isDi T) (e := e) (a := skip T e a) (j := skip T e a + j) (by omega) (show _ < dend T e (skip T e a) from by omega)
            exact of_decide_eq_true this)
          exact ⟨this.1, this.2.1⟩
        refine Eq.mp ?_ (t_number_1 (L := L) (Q := Q) (en := en) (b := b) (bp := bp) (np := np) (nm := nm) (p := skip T e a) (lo := lo) (hi := hi) (sh := sh) (su := su) (d := d) hB (by omega) (by omega) (by omega) _ (skip T e a) (Nat.lt_succ_self _) (by omega) (by omega) (by omega) (fun j h3 h4 => absurd h3 (by omega)) (fun hle => ?_) (fun hle => k2 (by omega) hdig hle))
        · rw [show (skip T e a - skip T e a).toNat = 0 by omega]; rfl
        have hnv := hnv0 hle
        have hnve : nv T (skip T e a) (dend T e (skip T e a) - skip T e a).toNat = nval T e (skip T e a) := rfl
        rw [hnve]
        refine w_aload c_142_129 rfl ?_
        refine w_aload c_142_130 rfl ?_
        refine z_getZ c_142_131 sp_157 (by decide) rfl rfl ?_
        refine z_putZ c_142_134 sp_157 (by decide) rfl ?_
        rw [oP_en]
        refine w_aload c_142_137 rfl ?_
        refine w_iload c_142_138 rfl ?_
        refine z_putZ c_142_139 sp_157 (by decide) rfl ?_
        rw [oP_np]
        refine w_iload c_142_142 rfl ?_
        refine z_i2l c_142_144 (by unfold aRg; omega) ?_
        refine w_iload c_142_145 rfl ?_
        refine z_i2l c_142_146 (by unfold aRg; omega) ?_
        refine w_iload c_142_147 rfl ?_
        refine z_i2l c_142_148 (by unfold aRg; omega) ?_
        refine wc_130 c_142_149 (Nat.le_of_ble_eq_true rfl) (by omega) ?_
        refine t_isIn (by unfold aRl; omega) (by unfold aRl; omega) (by unfold aRl; omega) ?_
        refine r_i ?_
        refine b_if_ne c_142_152 (fun h1_ => ?_) (fun h1_ => ?_)
        · refine w_iload c_142_161 rfl ?_
          refine z_ret c_142_163 rfl ?_
          (try simp only [decide_eq_true_eq, decide_eq_false_iff_not] at *)
          first
          | exact k4 (by omega) hdig hle (by assumption)
          | exact k3 (by omega) hdig hle (by assumption)
        · refine w_aload c_142_155 rfl ?_
          refine z_push c_142_156 ?_
          refine w_iload c_142_157 rfl ?_
          refine wc_133 c_142_158 sp_157 (Nat.le_of_ble_eq_true rfl) (by omega) ?_
          refine t_fail (by unfold aRg; omega) (fun hf => absurd hf (by omega)) (fun hf => ?_)
          refine r_v ?_
          refine w_iload c_142_161 rfl ?_
          refine z_ret c_142_163 rfl ?_
          (try simp only [decide_eq_true_eq, decide_eq_false_iff_not] at *)
          first
          | exact k4 (by omega) hdig hle (by assumption)
          | exact k3 (by omega) hdig hle (by assumption)
      · refine w_aload c_142_30 rfl ?_
        refine z_push c_142_31 ?_
        refine w_aload c_142_32 rfl ?_
        refine z_getZ c_142_33 sp_157 (by decide) rfl rfl ?_
        refine wc_133 c_142_36 sp_157 (Nat.le_of_ble_eq_true rfl) (by omega) ?_
        refine t_fail (by unfold aRg; omega) (fun hf => absurd hf (by omega)) (fun hf => ?_)
        refine r_v ?_
        refine z_push c_142_39 ?_
        refine z_ret c_142_40 rfl ?_
        (try simp only [decide_eq_true_eq, decide_eq_false_iff_not] at *)
        first
        | exact kb (by omega)
        | exact k1 (by omega) (decide_eq_false (by omega))
  · refine z_push c_142_7 ?_
    refine z_ret c_142_8 rfl ?_
    (try simp only [decide_eq_true_eq, decide_eq_false_iff_not] at *)
    first
    | exact kb (by omega)
    | exact k1 (by omega) (decide_eq_false (by omega))

