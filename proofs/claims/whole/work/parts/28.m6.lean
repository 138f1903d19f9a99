/-! the reference: names (m6.py) -/
def nc (T : Int → Int) (p : Int) : Nat → Int
  | 0 => 0
  | k + 1 => 27 * nc T p k + T (p + k) - 97 + 1
theorem nc_rg {T : Int → Int} {p : Int} : ∀ k : Nat, k ≤ 6 → (∀ j : Int, 0 ≤ j → j < k → 97 ≤ T (p + j) ∧ T (p + j) ≤ 122) → 0 ≤ nc T p k ∧ nc T p k < 400000000 ∧ (k ≤ 5 → nc T p k < 14400000) ∧ (k ≤ 4 → nc T p k < 532000) ∧ (k ≤ 3 → nc T p k < 19700) ∧ (k ≤ 2 → nc T p k < 729) ∧ (k ≤ 1 → nc T p k < 27) ∧ (k = 0 → nc T p k = 0)
  | 0, _, _ => by simp [nc]
  | k + 1, h, hd => by
    have ih := nc_rg k (by omega) (fun j h1 h2 => hd j h1 (by omega))
    have := hd k (by omega) (by omega)
    simp only [nc]
    refine ⟨?_, ?_, ?_, ?_, ?_, ?_, ?_, ?_⟩ <;> omega
def nmAt (T : Int → Int) (e en p : Int) : Bool := decide (p < e ∧ (97 ≤ T p ∧ T p ≤ 122) ∧ p ≠ en) && !ownB T e en p
def ncode (T : Int → Int) (e p : Int) : Int := nc T p (wend T e p - p).toNat
set_option maxHeartbeats 2000000 in
theorem t_name_1 {d : Nat} {I : aFI} {L : aFL} {Q : aPo} {T : Int → Int} {e en b bp np p : Int} {sh : Nat} {su : Option Nat} (hB : oB I T e) (hd : 1 ≤ d) (hb : b = 0) (hp0 : 0 ≤ p) : ∀ (n : Nat) (c : Int), (e - c).toNat < n → (p ≤ c) → (c ≤ e) → (c - p ≤ 6) → (∀ j : Int, p ≤ j → j < c → 97 ≤ T j ∧ T j ≤ 122) → (wend T e c - p ≤ 6 → aWp none d 144 145 [.ref 157, .long (lI (nc T p (wend T e c - p).toNat)), .null] [] (oP I (wend T e c) en b bp np p) L (aR sh su) Q) → (¬ wend T e c - p ≤ 6 → Q (some (.long (lI 0))) (oP I (p + 6) en 1 (p + 6) np p) L (aR sh su)) → aWp none d 144 58 [.ref 157, .long (lI (nc T p (c - p).toNat)), .null] [] (oP I c en b bp np p) L (aR sh su) Q := by
  intro n
  induction n with
  | zero => intro c h; omega
  | succ n ih =>
    intro c hn h0 h1 h2 hdg k1 k2
    have he := hB.2.2.1
    have hT := hB.2.2.2 c
    have hnv := nc_rg (T := T) (p := p) (c - p).toNat (by omega) (fun j h3 h4 => hdg (p + j) (by omega) (by omega))
    refine w_aload c_144_58 rfl ?_
    refine z_getZ c_144_59 sp_157 (by decide) rfl rfl ?_
    refine w_aload c_144_62 rfl ?_
    refine z_getZ c_144_63 sp_157 (by decide) rfl hB.1 ?_
    refine z_ic_ge c_144_66 (by unfold aRg; omega) (by unfold aRg; omega) (fun h1_ => ?_) (fun h1_ => ?_)
    · (try simp only [decide_eq_true_eq, decide_eq_false_iff_not] at *)
      have h9 : wend T e c = c := wend_stop (by omega)
      rw [h9] at k1
      exact k1 (by omega)
    · refine w_aload c_144_69 rfl ?_
      refine w_getR c_144_70 sp_157 (by decide) rfl pr_157_0 ?_
      refine w_aload c_144_73 rfl ?_
      refine z_getZ c_144_74 sp_157 (by decide) rfl rfl ?_
      refine z_iaload c_144_77 sp_158 (by omega) (by first | decide | omega) (hB.2.1 _ (by omega) (by omega)) ?_
      refine wc_134 c_144_78 (Nat.le_of_ble_eq_true rfl) (by omega) ?_
      refine tm_isLetter (by unfold aRg; omega) ?_
      refine r_i ?_
      refine b_if_eq c_144_81 (fun h2_ => ?_) (fun h2_ => ?_)
      · (try simp only [decide_eq_true_eq, decide_eq_false_iff_not] at *)
        have h9 : wend T e c = c := wend_stop (by omega)
        rw [h9] at k1
        exact k1 (by omega)
      · refine w_aload c_144_84 rfl ?_
        refine z_getZ c_144_85 sp_157 (by decide) rfl rfl ?_
        refine w_aload c_144_88 rfl ?_
        refine z_getZ c_144_89 sp_157 (by decide) rfl rfl ?_
        refine z_isub c_144_92 ?_
        refine z_push c_144_93 ?_
        refine z_ic_ne c_144_95 (by unfold aRg; omega) (by unfold aRg; omega) (fun h3_ => ?_) (fun h3_ => ?_)
        · refine z_pushl c_144_109 ?_
          refine w_lload c_144_112 rfl ?_
          refine z_lmul c_144_113 ?_
          refine w_aload c_144_114 rfl ?_
          refine w_getR c_144_115 sp_157 (by decide) rfl pr_157_0 ?_
          refine w_aload c_144_118 rfl ?_
          refine z_getZ c_144_119 sp_157 (by decide) rfl rfl ?_
          refine z_iaload c_144_122 sp_158 (by omega) (by first | decide | omega) (hB.2.1 _ (by omega) (by omega)) ?_
          refine z_i2l c_144_123 (by unfold aRg; omega) ?_
          refine z_ladd c_144_124 ?_
          refine z_pushl c_144_125 ?_
          refine z_lsub c_144_128 ?_
          refine z_pushl c_144_129 ?_
          refine z_ladd c_144_130 ?_
          refine w_lstore c_144_131 (Nat.le_of_ble_eq_true rfl) rfl ?_
          refine w_aload c_144_132 rfl ?_
          refine w_dup c_144_133 rfl ?_
          refine z_getZ c_144_134 sp_157 (by decide) rfl rfl ?_
          refine z_push c_144_137 ?_
          refine z_iadd c_144_138 ?_
          refine z_putZ c_144_139 sp_157 (by decide) rfl ?_
          rw [oP_at]
          refine w_goto c_144_142 ?_
          (try simp only [decide_eq_true_eq, decide_eq_false_iff_not] at *)
          have h9 : wend T e c = wend T e (c + 1) := wend_step (by omega)
          rw [h9] at k1 k2
          have h8 : nc T p ((c + 1) - p).toNat = 27 * nc T p (c - p).toNat + T c - 97 + 1 := by
            rw [show ((c + 1) - p).toNat = (c - p).toNat + 1 by omega]
            simp only [nc]
            rw [show p + ((c - p).toNat : Int) = c by omega]
          rw [← h8]
          exact ih (c + 1) (by omega) (by omega) (by omega) (by omega) (fun j h3 h4 => by
            by_cases hj : j = c
            · rw [hj]; omega
            · exact hdg j h3 (by omega)) k1 k2
        · refine w_aload c_144_98 rfl ?_
          refine z_push c_144_99 ?_
          refine w_aload c_144_100 rfl ?_
          refine z_getZ c_144_101 sp_157 (by decide) rfl rfl ?_
          refine wc_133 c_144_104 sp_157 (Nat.le_of_ble_eq_true rfl) (by omega) ?_
          refine t_fail (by unfold aRg; omega) (fun hf => absurd hf (by omega)) (fun hf => ?_)
          refine r_v ?_
          refine z_pushl c_144_107 ?_
          refine z_retl c_144_108 ?_
          (try simp only [decide_eq_true_eq, decide_eq_false_iff_not] at *)
          have h9 : wend T e c = wend T e (c + 1) := wend_step (by omega)
          have h8 : c + 1 ≤ wend T e (c + 1) := scan_ge
          have := k2 (by omega)
          rw [show p + 6 = c by omega] at this
          exact this

set_option maxHeartbeats 1000000 in
theorem t_name {d : Nat} {I : aFI} {L : aFL} {Q : aPo} {T : Int → Int} {e a en b bp np nm : Int} {sh : Nat} {su : Option Nat} (hB : oB I T e) (hO : oW I) (hd : 4 ≤ d) (h0 : 0 ≤ a) (h1 : a ≤ e) (hb : aRg b) (hen : aRg en) (kb : ¬ b = 0 → Q (some (.long (lI 0))) (oP I a en b bp np nm) L (aR sh su)) (k1 : b = 0 → nmAt T e en (skip T e a) = false → Q (some (.long (lI 0))) (oP I (skip T e a) en 1 (skip T e a) np nm) L (aR sh su)) (k2 : b = 0 → nmAt T e en (skip T e a) = true → ¬ wend T e (skip T e a) - (skip T e a) ≤ 6 → Q (some (.long (lI 0))) (oP I ((skip T e a) + 6) en 1 ((skip T e a) + 6) np (skip T e a)) L (aR sh su)) (k3 : b = 0 → nmAt T e en (skip T e a) = true → wend T e (skip T e a) - (skip T e a) ≤ 6 → Q (some (.long (lI (ncode T e (skip T e a))))) (oP I (wend T e (skip T e a)) (wend T e (skip T e a)) b bp np (skip T e a)) L (aR sh su)) : aWp none d 144 0 [.ref 157, .null, .null] [] (oP I a en b bp np nm) L (aR sh su) Q := by
  have he := hB.2.2.1
  have hp0 : a ≤ skip T e a := scan_ge
  have hp1 : skip T e a ≤ e := scan_le h1
  have hl := lkc_rg (T := T) (e := e) (a := skip T e a) hB.2.2.2
  unfold aRg at hb hen
  have hl2 := lkc_at (T := T) (e := e) (a := skip T e a)
  refine w_aload c_144_0 rfl ?_
  refine z_getZ c_144_1 sp_157 (by decide) rfl rfl ?_
  refine z_if_eq c_144_4 (by unfold aRg; omega) (fun h1_ => ?_) (fun h1_ => ?_)
  · refine w_aload c_144_9 rfl ?_
    refine wc_136 c_144_10 sp_157 (Nat.le_of_ble_eq_true rfl) (by omega) ?_
    refine t_look hB h0 h1 ?_
    refine r_i ?_
    refine wc_134 c_144_13 (Nat.le_of_ble_eq_true rfl) (by omega) ?_
    refine tm_isLetter (by unfold aRg; omega) ?_
    refine r_i ?_
    refine b_if_eq c_144_16 (fun h2_ => ?_) (fun h2_ => ?_)
    · refine w_aload c_144_37 rfl ?_
      refine z_push c_144_38 ?_
      refine w_aload c_144_39 rfl ?_
      refine z_getZ c_144_40 sp_157 (by decide) rfl rfl ?_
      refine wc_133 c_144_43 sp_157 (Nat.le_of_ble_eq_true rfl) (by omega) ?_
      refine t_fail (by unfold aRg; omega) (fun hf => absurd hf (by omega)) (fun hf => ?_)
      refine r_v ?_
      refine z_pushl c_144_46 ?_
      refine z_retl c_144_47 ?_
      (try simp only [decide_eq_true_eq, decide_eq_false_iff_not] at *)
      first
      | exact kb (by omega)
      | exact k1 (by omega) (by unfold nmAt; rw [decide_eq_false (by omega)]; rfl)
      | exact k1 (by omega) (by unfold nmAt; simp only [*, Bool.not_true, Bool.and_false])
    · refine w_aload c_144_19 rfl ?_
      refine z_getZ c_144_20 sp_157 (by decide) rfl rfl ?_
      refine w_aload c_144_23 rfl ?_
      refine z_getZ c_144_24 sp_157 (by decide) rfl rfl ?_
      refine z_ic_eq c_144_27 (by unfold aRg; omega) (by unfold aRg; omega) (fun h3_ => ?_) (fun h3_ => ?_)
      · refine w_aload c_144_37 rfl ?_
        refine z_push c_144_38 ?_
        refine w_aload c_144_39 rfl ?_
        refine z_getZ c_144_40 sp_157 (by decide) rfl rfl ?_
        refine wc_133 c_144_43 sp_157 (Nat.le_of_ble_eq_true rfl) (by omega) ?_
        refine t_fail (by unfold aRg; omega) (fun hf => absurd hf (by omega)) (fun hf => ?_)
        refine r_v ?_
        refine z_pushl c_144_46 ?_
        refine z_retl c_144_47 ?_
        (try simp only [decide_eq_true_eq, decide_eq_false_iff_not] at *)
        first
        | exact kb (by omega)
        | exact k1 (by omega) (by unfold nmAt; rw [decide_eq_false (by omega)]; rfl)
        | exact k1 (by omega) (by unfold nmAt; simp only [*, Bool.not_true, Bool.and_false])
      · refine w_aload c_144_30 rfl ?_
        refine wc_143 c_144_31 sp_157 (Nat.le_of_ble_eq_true rfl) (by omega) ?_
        refine t_isOwnHere hB hO (by omega) (by omega) (by omega) (by unfold aRg; omega) (by unfold aRg; omega) (by omega) skip_skip ?_
        refine r_i ?_
        refine b_if_eq c_144_34 (fun h4_ => ?_) (fun h4_ => ?_)
        · refine w_aload c_144_48 rfl ?_
          refine w_aload c_144_49 rfl ?_
          refine z_getZ c_144_50 sp_157 (by decide) rfl rfl ?_
          refine z_putZ c_144_53 sp_157 (by decide) rfl ?_
          rw [oP_nm]
          refine z_pushl c_144_56 ?_
          refine w_lstore c_144_57 (Nat.le_of_ble_eq_true rfl) rfl ?_
          (try simp only [decide_eq_true_eq, decide_eq_false_iff_not] at *)
          have hdig : nmAt T e en (skip T e a) = true := by
            unfold nmAt
            rw [Bool.and_eq_true, Bool.not_eq_true']
            exact ⟨decide_eq_true ⟨by omega, by omega, by omega⟩, by assumption⟩
          refine Eq.mp ?_ (t_name_1 (L := L) (Q := Q) (en := en) (b := b) (bp := bp) (np := np) (p := skip T e a) (sh := sh) (su := su) (d := d) hB (by omega) (by omega) (by omega) _ (skip T e a) (Nat.lt_succ_self _) (by omega) (by omega) (by omega) (fun j h3 h4 => absurd h3 (by omega)) (fun hle => ?_) (fun hle => k2 (by omega) hdig hle))
          · rw [show (skip T e a - skip T e a).toNat = 0 by omega]; rfl
          have hnve : nc T (skip T e a) (wend T e (skip T e a) - skip T e a).toNat = ncode T e (skip T e a) := rfl
          rw [hnve]
          refine w_aload c_144_145 rfl ?_
          refine w_aload c_144_146 rfl ?_
          refine z_getZ c_144_147 sp_157 (by decide) rfl rfl ?_
          refine z_putZ c_144_150 sp_157 (by decide) rfl ?_
          rw [oP_en]
          refine w_lload c_144_153 rfl ?_
          refine z_retl c_144_154 ?_
          exact k3 (by omega) hdig hle
        · refine w_aload c_144_37 rfl ?_
          refine z_push c_144_38 ?_
          refine w_aload c_144_39 rfl ?_
          refine z_getZ c_144_40 sp_157 (by decide) rfl rfl ?_
          refine wc_133 c_144_43 sp_157 (Nat.le_of_ble_eq_true rfl) (by omega) ?_
          refine t_fail (by unfold aRg; omega) (fun hf => absurd hf (by omega)) (fun hf => ?_)
          refine r_v ?_
          refine z_pushl c_144_46 ?_
          refine z_retl c_144_47 ?_
          (try simp only [decide_eq_true_eq, decide_eq_false_iff_not] at *)
          first
          | exact kb (by omega)
          | exact k1 (by omega) (by unfold nmAt; rw [decide_eq_false (by omega)]; rfl)
          | exact k1 (by omega) (by unfold nmAt; simp only [*, Bool.not_true, Bool.and_false])
  · refine z_pushl c_144_7 ?_
    refine z_retl c_144_8 ?_
    (try simp only [decide_eq_true_eq, decide_eq_false_iff_not] at *)
    first
    | exact kb (by omega)
    | exact k1 (by omega) (by unfold nmAt; rw [decide_eq_false (by omega)]; rfl)
    | exact k1 (by omega) (by unfold nmAt; simp only [*, Bool.not_true, Bool.and_false])

