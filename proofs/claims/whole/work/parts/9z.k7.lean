/-! the class: a text taken apart (p9z.py) -/
set_option maxHeartbeats 2000000 in
theorem tm_endW_2 {d : Nat} {I : aFI} {L : aFL} {Q : aPo} {T : Int → Int} {sh : Nat} {su : Option Nat} (hT : ∀ j : Int, 0 ≤ j → j < 1600 → I 1 j.toNat = iI (T j)) (hTr : ∀ j : Int, 0 ≤ T j ∧ T j < 256) {a n : Int} (hn : 0 ≤ n ∧ n ≤ 1600) (hd : 1 ≤ d) : ∀ (fz : Nat) (i : Int), (n - i).toNat < fz → (0 ≤ i) → (i ≤ n) → (Q (some (.int (iI (wend T n i)))) I L (aR sh su)) → aWp none d 15 2 [.ref 1, .int (iI a), .int (iI n), .int (iI i)] [] I L (aR sh su) Q := by
  intro fz
  induction fz with
  | zero => intro i h; omega
  | succ fz ih =>
    intro i hn2 h0 h1 k
    refine w_iload c_15_2 rfl ?_
    refine w_iload c_15_3 rfl ?_
    refine z_ic_ge c_15_4 (by first | exact aRg_of _ | (unfold aRg; omega)) (by first | exact aRg_of _ | (unfold aRg; omega)) (fun h1_ => ?_) (fun h1_ => ?_)
    · refine w_iload c_15_22 rfl ?_
      refine z_ret c_15_23 rfl ?_
      first
      | (rw [wend_stop (by omega)] at k; exact k)
      | (rw [wend_stop (fun z => (of_decide_eq_false h2_) z.2)] at k; exact k)
    · refine w_aload c_15_7 rfl ?_
      refine w_iload c_15_8 rfl ?_
      refine z_iaload c_15_9 sp_1 (by omega) (by first | decide | omega) (hT _ (by omega) (by omega)) ?_
      refine wc_13 c_15_10 (Nat.le_of_ble_eq_true rfl) (by omega) ?_
      have htr := hTr i
      refine tc_isLetter (by unfold aRg; omega) ?_
      refine r_i ?_
      refine b_if_eq c_15_13 (fun h2_ => ?_) (fun h2_ => ?_)
      · refine w_iload c_15_22 rfl ?_
        refine z_ret c_15_23 rfl ?_
        first
        | (rw [wend_stop (by omega)] at k; exact k)
        | (rw [wend_stop (fun z => (of_decide_eq_false h2_) z.2)] at k; exact k)
      · refine z_iinc c_15_16 rfl rfl ?_
        refine w_goto c_15_19 ?_
        have hb := of_decide_eq_true h2_
        rw [wend_step ⟨by omega, hb⟩] at k
        exact ih (i + 1) (by omega) (by omega) (by omega) k

set_option maxHeartbeats 1000000 in
theorem tm_endW {d : Nat} {I : aFI} {L : aFL} {Q : aPo} {T : Int → Int} {sh : Nat} {su : Option Nat} (hT : ∀ j : Int, 0 ≤ j → j < 1600 → I 1 j.toNat = iI (T j)) (hTr : ∀ j : Int, 0 ≤ T j ∧ T j < 256) {a n : Int} (hn : 0 ≤ n ∧ n ≤ 1600) (ha : 0 ≤ a ∧ a ≤ n) (hd : 1 ≤ d) (k : Q (some (.int (iI (wend T n a)))) I L (aR sh su)) : aWp none d 15 0 [.ref 1, .int (iI a), .int (iI n), .null] [] I L (aR sh su) Q := by
  refine w_iload c_15_0 rfl ?_
  refine w_istore c_15_1 (Nat.le_of_ble_eq_true rfl) rfl ?_
  exact tm_endW_2 hT hTr hn hd _ a (Nat.lt_succ_self _) ha.1 ha.2 k

set_option maxHeartbeats 2000000 in
theorem tm_endN_2 {d : Nat} {I : aFI} {L : aFL} {Q : aPo} {T : Int → Int} {sh : Nat} {su : Option Nat} (hT : ∀ j : Int, 0 ≤ j → j < 1600 → I 1 j.toNat = iI (T j)) (hTr : ∀ j : Int, 0 ≤ T j ∧ T j < 256) {a n : Int} (hn : 0 ≤ n ∧ n ≤ 1600) (hd : 1 ≤ d) : ∀ (fz : Nat) (i : Int), (n - i).toNat < fz → (0 ≤ i) → (i ≤ n) → (Q (some (.int (iI (dend T n i)))) I L (aR sh su)) → aWp none d 16 2 [.ref 1, .int (iI a), .int (iI n), .int (iI i)] [] I L (aR sh su) Q := by
  intro fz
  induction fz with
  | zero => intro i h; omega
  | succ fz ih =>
    intro i hn2 h0 h1 k
    refine w_iload c_16_2 rfl ?_
    refine w_iload c_16_3 rfl ?_
    refine z_ic_ge c_16_4 (by first | exact aRg_of _ | (unfold aRg; omega)) (by first | exact aRg_of _ | (unfold aRg; omega)) (fun h1_ => ?_) (fun h1_ => ?_)
    · refine w_iload c_16_22 rfl ?_
      refine z_ret c_16_23 rfl ?_
      first
      | (rw [dend_stop (by omega)] at k; exact k)
      | (rw [dend_stop (fun z => (of_decide_eq_false h2_) z.2)] at k; exact k)
    · refine w_aload c_16_7 rfl ?_
      refine w_iload c_16_8 rfl ?_
      refine z_iaload c_16_9 sp_1 (by omega) (by first | decide | omega) (hT _ (by omega) (by omega)) ?_
      refine wc_14 c_16_10 (Nat.le_of_ble_eq_true rfl) (by omega) ?_
      have htr := hTr i
      refine tc_isDigit (by unfold aRg; omega) ?_
      refine r_i ?_
      refine b_if_eq c_16_13 (fun h2_ => ?_) (fun h2_ => ?_)
      · refine w_iload c_16_22 rfl ?_
        refine z_ret c_16_23 rfl ?_
        first
        | (rw [dend_stop (by omega)] at k; exact k)
        | (rw [dend_stop (fun z => (of_decide_eq_false h2_) z.2)] at k; exact k)
      · refine z_iinc c_16_16 rfl rfl ?_
        refine w_goto c_16_19 ?_
        have hb := of_decide_eq_true h2_
        rw [dend_step ⟨by omega, hb⟩] at k
        exact ih (i + 1) (by omega) (by omega) (by omega) k

set_option maxHeartbeats 1000000 in
theorem tm_endN {d : Nat} {I : aFI} {L : aFL} {Q : aPo} {T : Int → Int} {sh : Nat} {su : Option Nat} (hT : ∀ j : Int, 0 ≤ j → j < 1600 → I 1 j.toNat = iI (T j)) (hTr : ∀ j : Int, 0 ≤ T j ∧ T j < 256) {a n : Int} (hn : 0 ≤ n ∧ n ≤ 1600) (ha : 0 ≤ a ∧ a ≤ n) (hd : 1 ≤ d) (k : Q (some (.int (iI (dend T n a)))) I L (aR sh su)) : aWp none d 16 0 [.ref 1, .int (iI a), .int (iI n), .null] [] I L (aR sh su) Q := by
  refine w_iload c_16_0 rfl ?_
  refine w_istore c_16_1 (Nat.le_of_ble_eq_true rfl) rfl ?_
  exact tm_endN_2 hT hTr hn hd _ a (Nat.lt_succ_self _) ha.1 ha.2 k

set_option maxHeartbeats 2000000 in
theorem tm_val_14 {d : Nat} {I : aFI} {L : aFL} {Q : aPo} {T : Int → Int} {sh : Nat} {su : Option Nat} (hT : ∀ j : Int, 0 ≤ j → j < 1600 → I 1 j.toNat = iI (T j)) (hTr : ∀ j : Int, 0 ≤ T j ∧ T j < 256) {a b : Int} (hab : 0 ≤ a ∧ a ≤ b ∧ b ≤ 1600) (h4 : b - a ≤ 4) (hdg : ∀ j : Int, 0 ≤ j → j < b - a → 48 ≤ T (a + j) ∧ T (a + j) ≤ 57) (k : Q (some (.int (iI (nv T a (b - a).toNat)))) I L (aR sh su)) : ∀ (fz : Nat) (i v : Int), (b - i).toNat < fz → (a ≤ i) → (i ≤ b) → (v = nv T a (i - a).toNat) → aWp none d 17 14 [.ref 1, .int (iI a), .int (iI b), .int (iI v), .int (iI i)] [] I L (aR sh su) Q := by
  intro fz
  induction fz with
  | zero => intro i v h; omega
  | succ fz ih =>
    intro i v hn2 h0 h1 hv
    refine w_iload c_17_14 rfl ?_
    refine w_iload c_17_16 rfl ?_
    refine z_ic_ge c_17_17 (by first | exact aRg_of _ | (unfold aRg; omega)) (by first | exact aRg_of _ | (unfold aRg; omega)) (fun h1_ => ?_) (fun h1_ => ?_)
    · refine w_iload c_17_39 rfl ?_
      refine z_ret c_17_40 rfl ?_
      have hi : i = b := by omega
      subst hi
      rw [hv]; exact k
    · have hnr := nv_rg (T := T) (p := a) (i - a).toNat (by omega) (fun j z1 z2 => hdg j z1 (by omega))
      have htr := hdg (i - a) (by omega) (by omega)
      rw [show a + (i - a) = i by omega] at htr
      refine z_push c_17_20 ?_
      refine w_iload c_17_22 rfl ?_
      refine z_imul c_17_23 ?_
      refine w_aload c_17_24 rfl ?_
      refine w_iload c_17_25 rfl ?_
      refine z_iaload c_17_27 sp_1 (by omega) (by first | decide | omega) (hT _ (by omega) (by omega)) ?_
      refine z_iadd c_17_28 ?_
      refine z_push c_17_29 ?_
      refine z_isub c_17_31 ?_
      refine w_istore c_17_32 (Nat.le_of_ble_eq_true rfl) rfl ?_
      refine z_iinc c_17_33 rfl rfl ?_
      refine w_goto c_17_36 ?_
      refine ih (i + 1) _ (by omega) (by omega) (by omega) ?_
      rw [show (i + 1 - a).toNat = (i - a).toNat + 1 by omega]
      show _ = 10 * nv T a (i - a).toNat + (T (a + ((i - a).toNat : Nat)) - 48)
      rw [hv, show a + (((i - a).toNat : Nat) : Int) = i by omega]; omega

set_option maxHeartbeats 1000000 in
theorem tm_val {d : Nat} {I : aFI} {L : aFL} {Q : aPo} {T : Int → Int} {sh : Nat} {su : Option Nat} (hT : ∀ j : Int, 0 ≤ j → j < 1600 → I 1 j.toNat = iI (T j)) (hTr : ∀ j : Int, 0 ≤ T j ∧ T j < 256) {a b : Int} (hab : 0 ≤ a ∧ a ≤ b ∧ b ≤ 1600) (hdg : ∀ j : Int, 0 ≤ j → j < b - a → 48 ≤ T (a + j) ∧ T (a + j) ≤ 57) (k : Q (some (.int (iI (if 4 < b - a then -1 else nv T a (b - a).toNat)))) I L (aR sh su)) : aWp none d 17 0 [.ref 1, .int (iI a), .int (iI b), .null, .null] [] I L (aR sh su) Q := by
  refine z_push c_17_0 ?_
  refine w_istore c_17_1 (Nat.le_of_ble_eq_true rfl) rfl ?_
  refine w_iload c_17_2 rfl ?_
  refine w_iload c_17_3 rfl ?_
  refine z_isub c_17_4 ?_
  refine z_push c_17_5 ?_
  refine z_ic_le c_17_6 (by first | exact aRg_of _ | (unfold aRg; omega)) (by first | exact aRg_of _ | (unfold aRg; omega)) (fun h1_ => ?_) (fun h1_ => ?_)
  · refine w_iload c_17_11 rfl ?_
    refine w_istore c_17_12 (Nat.le_of_ble_eq_true rfl) rfl ?_
    rw [if_neg (by omega)] at k
    exact tm_val_14 hT hTr hab (by omega) hdg k _ a 0 (Nat.lt_succ_self _) (Int.le_refl _) (by omega) (by rw [Int.sub_self]; rfl)
  · refine z_push c_17_9 ?_
    refine z_ret c_17_10 rfl ?_
    rw [if_pos (by omega)] at k
    exact k

/-- the marks put so far -/
def mkP (I : aFI) (T : Int → Int) (n : Int) (j : Nat) : Prop := I 3 3 = iI (j : Int) ∧ ∀ i : Int, 0 ≤ i → i < j → I 4 i.toNat = iI (tK T n i) ∧ I 5 i.toNat = iI (tPl T n i) ∧ I 6 i.toNat = iI (tZ T n i)
abbrev PMk : Nat → Nat → Prop := fun q k => (q = 3 ∧ k = 3) ∨ q = 4 ∨ q = 5 ∨ q = 6
theorem mkP.add {I I2 : aFI} {T : Int → Int} {n k p z : Int} {j : Nat} (h : mkP I T n j) (hk : k = tkK T n j) (hp : p = tkP T n j) (hz : z = tkZ T n j) (h3 : I2 3 3 = iI ((j : Int) + 1)) (h4 : ∀ i : Int, 0 ≤ i → I2 4 i.toNat = if i = j then iI k else I 4 i.toNat) (h5 : ∀ i : Int, 0 ≤ i → I2 5 i.toNat = if i = j then iI p else I 5 i.toNat) (h6 : ∀ i : Int, 0 ≤ i → I2 6 i.toNat = if i = j then iI z else I 6 i.toNat) : mkP I2 T n (j + 1) := by
  refine ⟨by rw [h3]; exact congrArg iI (by omega), fun i a b => ?_⟩
  rw [h4 i a, h5 i a, h6 i a]
  by_cases e : i = j
  · subst e
    rw [if_pos rfl, if_pos rfl, if_pos rfl, hk, hp, hz]
    refine ⟨?_, ?_, ?_⟩
    · show _ = iI (tkK T n ((j : Int)).toNat); rw [Int.toNat_natCast]
    · show _ = iI (tkP T n ((j : Int)).toNat); rw [Int.toNat_natCast]
    · show _ = iI (tkZ T n ((j : Int)).toNat); rw [Int.toNat_natCast]
  · rw [if_neg e, if_neg e, if_neg e]; exact h.2 i a (by omega)
set_option maxHeartbeats 1000000 in
theorem tm_put {d : Nat} {I : aFI} {L : aFL} {Q : aPo} {T : Int → Int} {sh : Nat} {su : Option Nat} {n c p z : Int} {j : Nat} (hm : mkP I T n j) (hj : j ≤ 1600) (hk : c = tkK T n j) (hp : p = tkP T n j) (hz : z = tkZ T n j) (k : ∀ I2 : aFI, mkP I2 T n (j + 1) → frG PMk I I2 → Q none I2 L (aR sh su)) : aWp none d 12 0 [.ref 3, .int (iI c), .int (iI p), .int (iI z)] [] I L (aR sh su) Q := by
  refine w_aload c_12_0 rfl ?_
  refine z_getZ c_12_1 sp_3 (by decide) rfl hm.1 ?_
  refine w_aload c_12_4 rfl ?_
  refine w_getR c_12_5 sp_3 (by decide) rfl pr_3_0 ?_
  refine w_alen_i c_12_8 sp_4 (iI_nat _) ?_
  refine z_ic_ge c_12_9 (by first | exact aRg_of _ | (unfold aRg; omega)) (by first | exact aRg_of _ | (unfold aRg; omega)) (fun h1_ => ?_) (fun h1_ => ?_)
  · exfalso; omega
  refine w_aload c_12_12 rfl ?_
  refine w_getR c_12_13 sp_3 (by decide) rfl pr_3_0 ?_
  refine w_aload c_12_16 rfl ?_
  refine z_getZ c_12_17 sp_3 (by decide) rfl hm.1 ?_
  refine w_iload c_12_20 rfl ?_
  refine z_iastore c_12_21 sp_4 (by omega) (by decide) ?_
  refine upG_k (frG.rf (P := PMk) (I := I)) (Or.inr (Or.inl rfl)) (fun I1 e1 hF1 => ?_)
  have hc1 : I1 3 3 = iI (j : Int) := by rw [e1, up_ne (by omega)]; exact hm.1
  refine w_aload c_12_22 rfl ?_
  refine w_getR c_12_23 sp_3 (by decide) rfl pr_3_1 ?_
  refine w_aload c_12_26 rfl ?_
  refine z_getZ c_12_27 sp_3 (by decide) rfl hc1 ?_
  refine w_iload c_12_30 rfl ?_
  refine z_iastore c_12_31 sp_5 (by omega) (by decide) ?_
  refine upG_k hF1 (Or.inr (Or.inr (Or.inl rfl))) (fun I2 e2 hF2 => ?_)
  have hc2 : I2 3 3 = iI (j : Int) := by rw [e2, up_ne (by omega)]; exact hc1
  refine w_aload c_12_32 rfl ?_
  refine w_getR c_12_33 sp_3 (by decide) rfl pr_3_2 ?_
  refine w_aload c_12_36 rfl ?_
  refine z_getZ c_12_37 sp_3 (by decide) rfl hc2 ?_
  refine w_iload c_12_40 rfl ?_
  refine z_iastore c_12_41 sp_6 (by omega) (by decide) ?_
  refine upG_k hF2 (Or.inr (Or.inr (Or.inr rfl))) (fun I3 e3 hF3 => ?_)
  have hc3 : I3 3 3 = iI (j : Int) := by rw [e3, up_ne (by omega)]; exact hc2
  refine w_aload c_12_42 rfl ?_
  refine w_dup c_12_43 rfl ?_
  refine z_getZ c_12_44 sp_3 (by decide) rfl hc3 ?_
  refine z_push c_12_47 ?_
  refine z_iadd c_12_48 ?_
  refine z_putZ c_12_49 sp_3 (by decide) rfl ?_
  refine upG_k hF3 (Or.inl ⟨rfl, rfl⟩) (fun I4 e4 hF4 => ?_)
  refine z_retv c_12_52 ?_
  refine k I4 (hm.add hk hp hz (by rw [e4]; exact up_eq) (fun i a => ?_) (fun i a => ?_) (fun i a => ?_)) hF4
  · rw [e4, up_ne (by omega), e3, up_ne (by omega), e2, up_ne (by omega), e1]
    by_cases e : i = j
    · subst e; rw [if_pos rfl]; exact up_eq
    · rw [if_neg e, up_ne (by omega)]
  · rw [e4, up_ne (by omega), e3, up_ne (by omega), e2]
    by_cases e : i = j
    · subst e; rw [if_pos rfl]; exact up_eq
    · rw [if_neg e, up_ne (by omega), e1, up_ne (by omega)]
  · rw [e4, up_ne (by omega), e3]
    by_cases e : i = j
    · subst e; rw [if_pos rfl]; exact up_eq
    · rw [if_neg e, up_ne (by omega), e2, up_ne (by omega), e1, up_ne (by omega)]

theorem skip_nb {T : Int → Int} {n a : Int} (h : ¬ (T a = 10 ∨ T a = 32)) : skip T n a = a := skip_stop (fun z => h z.2)
set_option maxHeartbeats 2000000 in
theorem tm_scan_10 {d : Nat} {I0 : aFI} {L : aFL} {Q : aPo} {T : Int → Int} {sh : Nat} {su : Option Nat} (hT : ∀ j : Int, 0 ≤ j → j < 1600 → I0 1 j.toNat = iI (T j)) (hTr : ∀ j : Int, 0 ≤ T j ∧ T j < 256) {n : Int} {E : Nat} (hn : 0 ≤ n ∧ n ≤ 1600) (hE : ∀ j : Nat, tkK T n j = 341 ↔ E ≤ j) (hEn : (E : Int) ≤ n) (hd : 5 ≤ d) (k : ∀ I2 : aFI, mkP I2 T n (E + 1) → frG PMk I0 I2 → Q none I2 L (aR sh su)) : ∀ (fz : Nat) (a g : Int) (j : Nat) (I : aFI) (z : Value), (n - a).toNat < fz → (0 ≤ a) → (a ≤ n) → (skip T n a = tkP T n j) → (g = (tkS T n j).2) → (mkP I T n j) → (j ≤ E) → (frG PMk I0 I) → aWp none d 11 10 [.ref 3, .ref 1, .int (iI n), .int (iI a), .int (iI g), z] [] I L (aR sh su) Q := by
  intro fz
  induction fz with
  | zero => intro a g j I z h; omega
  | succ fz ih =>
    intro a g j I z hn2 h0 h1 hA hg hm hjE hF
    refine w_iload c_11_10 rfl ?_
    refine w_iload c_11_11 rfl ?_
    refine z_ic_ge c_11_12 (by first | exact aRg_of _ | (unfold aRg; omega)) (by first | exact aRg_of _ | (unfold aRg; omega)) (fun h2_ => ?_) (fun h2_ => ?_)
    · have hPn : tkP T n j = a := by
        rw [← hA]; exact skip_stop (fun z => by omega)
      have han : a = n := by omega
      have hjEE : j = E := by
        have h9 := (hE j).mp ((tkK_341 hTr).mpr (by omega))
        omega
      refine w_aload c_11_154 rfl ?_
      refine z_push c_11_155 ?_
      refine w_iload c_11_158 rfl ?_
      refine z_push c_11_159 ?_
      refine wc_12 c_11_160 sp_3 (Nat.le_of_ble_eq_true rfl) (by omega) ?_
      refine tm_put hm (by omega) ?_ ?_ ?_ (fun I1 hm1 hF1 => ?_)
      · exact ((tkK_341 hTr).mpr (by omega)).symm
      · omega
      · have hZ0 : tkZ T n j = if n ≤ tkP T n j then 0 else _ := rfl
        rw [hZ0, if_pos (by omega)]
      refine r_v ?_
      refine z_retv c_11_163 ?_
      subst hjEE
      exact k I1 hm1 (hF.tr hF1)
    · have han : a < n := by omega
      have hsr := tkS_rg (T := T) hn.1 j
      have htr := hTr a
      have hK0 : tkK T n j = if n ≤ tkP T n j then 341 else if isLe T (tkP T n j) = true then (if tkP T n j = (tkS T n j).2 then 340 else wkC (wrd T n (tkP T n j))) else if isDi T (tkP T n j) = true then (if tkP T n j = (tkS T n j).2 then 340 else 339) else T (tkP T n j) := rfl
      have hZ0 : tkZ T n j = if n ≤ tkP T n j then 0 else if isLe T (tkP T n j) = true then wend T n (tkP T n j) - tkP T n j else if isDi T (tkP T n j) = true then (if 4 < dend T n (tkP T n j) - tkP T n j then -1 else nval T n (tkP T n j)) else 1 := rfl
      refine w_iload c_11_15 rfl ?_
      refine z_push c_11_16 ?_
      refine z_iadd c_11_17 ?_
      refine w_istore c_11_18 (Nat.le_of_ble_eq_true rfl) rfl ?_
      refine w_aload c_11_20 rfl ?_
      refine w_iload c_11_21 rfl ?_
      refine z_iaload c_11_22 sp_1 (by omega) (by first | decide | omega) ((hF 1 _ (by omega)).trans (hT _ (by omega) (by omega))) ?_
      refine wc_13 c_11_23 (Nat.le_of_ble_eq_true rfl) (by omega) ?_
      refine tc_isLetter (by unfold aRg; omega) ?_
      refine r_i ?_
      refine b_if_eq c_11_26 (fun h3_ => ?_) (fun h3_ => ?_)
      · refine w_aload c_11_72 rfl ?_
        refine w_iload c_11_73 rfl ?_
        refine z_iaload c_11_74 sp_1 (by omega) (by first | decide | omega) ((hF 1 _ (by omega)).trans (hT _ (by omega) (by omega))) ?_
        refine wc_14 c_11_75 (Nat.le_of_ble_eq_true rfl) (by omega) ?_
        refine tc_isDigit (by unfold aRg; omega) ?_
        refine r_i ?_
        refine b_if_eq c_11_78 (fun h4_ => ?_) (fun h4_ => ?_)
        · refine w_aload c_11_123 rfl ?_
          refine w_iload c_11_124 rfl ?_
          refine z_iaload c_11_125 sp_1 (by omega) (by first | decide | omega) ((hF 1 _ (by omega)).trans (hT _ (by omega) (by omega))) ?_
          refine z_push c_11_126 ?_
          refine z_ic_eq c_11_128 (by first | exact aRg_of _ | (unfold aRg; omega)) (by first | exact aRg_of _ | (unfold aRg; omega)) (fun h5_ => ?_) (fun h5_ => ?_)
          · refine w_iload c_11_148 rfl ?_
            refine w_istore c_11_150 (Nat.le_of_ble_eq_true rfl) rfl ?_
            refine w_goto c_11_151 ?_
            refine ih _ _ j I _ (by omega) (by omega) (by omega) ?_ hg hm hjE hF
            rw [← hA]; exact (skip_step ⟨by omega, by omega⟩).symm
          · refine w_aload c_11_131 rfl ?_
            refine w_iload c_11_132 rfl ?_
            refine z_iaload c_11_133 sp_1 (by omega) (by first | decide | omega) ((hF 1 _ (by omega)).trans (hT _ (by omega) (by omega))) ?_
            refine z_push c_11_134 ?_
            refine z_ic_eq c_11_136 (by first | exact aRg_of _ | (unfold aRg; omega)) (by first | exact aRg_of _ | (unfold aRg; omega)) (fun h6_ => ?_) (fun h6_ => ?_)
            · refine w_iload c_11_148 rfl ?_
              refine w_istore c_11_150 (Nat.le_of_ble_eq_true rfl) rfl ?_
              refine w_goto c_11_151 ?_
              refine ih _ _ j I _ (by omega) (by omega) (by omega) ?_ hg hm hjE hF
              rw [← hA]; exact (skip_step ⟨by omega, by omega⟩).symm
            · have hl2 := of_decide_eq_false h3_
              have hd2 := of_decide_eq_false h4_
              have hP : tkP T n j = a := by rw [← hA]; exact skip_nb (by omega)
              have hlt : tkP T n j < n := by omega
              have hjE2 : j < E := by
                have h9 : ¬ tkK T n j = 341 := fun z => (tkK_341 hTr).mp z hlt
                rw [hE] at h9; omega
              have hle : ¬ isLe T (tkP T n j) = true := by rw [isLe_iff, hP]; exact hl2
              have hdi : ¬ isDi T (tkP T n j) = true := by rw [isDi_iff, hP]; exact hd2
              have hKl : tkK T n j = T a := by rw [hK0, if_neg (by omega), if_neg hle, if_neg hdi, hP]
              have hZl : tkZ T n j = 1 := by rw [hZ0, if_neg (by omega), if_neg hle, if_neg hdi]
              have hSl := tkS_sign hlt hle hdi
              rw [hP] at hSl
              refine w_aload c_11_139 rfl ?_
              refine w_aload c_11_140 rfl ?_
              refine w_iload c_11_141 rfl ?_
              refine z_iaload c_11_142 sp_1 (by omega) (by first | decide | omega) ((hF 1 _ (by omega)).trans (hT _ (by omega) (by omega))) ?_
              refine w_iload c_11_143 rfl ?_
              refine z_push c_11_144 ?_
              refine wc_12 c_11_145 sp_3 (Nat.le_of_ble_eq_true rfl) (by omega) ?_
              refine tm_put hm (by omega) (by first | (rw [hKl, if_pos (by omega)]) | (rw [hKl, if_neg (by omega)]) | exact hKl.symm) hP.symm (by first | exact hZl.symm | omega) (fun I1 hm1 hF1 => ?_)
              refine r_v ?_
              refine w_iload c_11_148 rfl ?_
              refine w_istore c_11_150 (Nat.le_of_ble_eq_true rfl) rfl ?_
              refine w_goto c_11_151 ?_
              refine ih _ _ (j + 1) I1 _ (by omega) (by omega) (by omega) ?_ ?_ hm1 (by omega) (hF.tr hF1)
              · show skip T n _ = skip T n (tkS T n (j + 1)).1
                rw [hSl]
              · rw [hSl]; exact hg
        · have hl2 := of_decide_eq_false h3_
          have hd2 := of_decide_eq_true h4_
          have hP : tkP T n j = a := by rw [← hA]; exact skip_nb (by omega)
          have hlt : tkP T n j < n := by omega
          have hjE2 : j < E := by
            have h9 : ¬ tkK T n j = 341 := fun z => (tkK_341 hTr).mp z hlt
            rw [hE] at h9; omega
          have hle : ¬ isLe T (tkP T n j) = true := by rw [isLe_iff, hP]; omega
          have hdi : isDi T (tkP T n j) = true := by rw [isDi_iff, hP]; exact hd2
          have hw1 : a ≤ dend T n a := scan_ge
          have hw2 : dend T n a ≤ n := scan_le h1
          have hw3 : dend T n a = dend T n (a + 1) := dend_step ⟨han, hd2⟩
          have hw4 : a + 1 ≤ dend T n (a + 1) := scan_ge
          have hKl : tkK T n j = if a = g then 340 else 339 := by rw [hK0, if_neg (by omega), if_neg hle, if_pos hdi, hP, hg]
          have hZl : tkZ T n j = if 4 < dend T n a - a then -1 else nv T a (dend T n a - a).toNat := by rw [hZ0, if_neg (by omega), if_neg hle, if_pos hdi, hP]; rfl
          have hSl := tkS_dig hlt hdi
          rw [hP] at hSl
          refine w_aload c_11_81 rfl ?_
          refine w_iload c_11_82 rfl ?_
          refine w_iload c_11_83 rfl ?_
          refine wc_16 c_11_84 (Nat.le_of_ble_eq_true rfl) (by omega) ?_
          refine tm_endN (fun j a b => (hF 1 _ (by omega)).trans (hT j a b)) hTr hn ⟨h0, h1⟩ (by omega) ?_
          refine r_i ?_
          refine w_istore c_11_87 (Nat.le_of_ble_eq_true rfl) rfl ?_
          refine w_aload c_11_89 rfl ?_
          refine w_iload c_11_90 rfl ?_
          refine w_iload c_11_91 rfl ?_
          refine z_ic_ne c_11_93 (by first | exact aRg_of _ | (unfold aRg; omega)) (by first | exact aRg_of _ | (unfold aRg; omega)) (fun h7_ => ?_) (fun h7_ => ?_)
          · refine z_push c_11_102 ?_
            refine w_iload c_11_105 rfl ?_
            refine w_aload c_11_106 rfl ?_
            refine w_iload c_11_107 rfl ?_
            refine w_iload c_11_108 rfl ?_
            refine wc_17 c_11_110 (Nat.le_of_ble_eq_true rfl) (by omega) ?_
            refine tm_val (fun j a b => (hF 1 _ (by omega)).trans (hT j a b)) hTr (by omega) (fun j z1 z2 => isDi_iff.mp (scan_all (p := isDi T) (e := n) (a := a) (by omega) (show a + j < dend T n a by omega))) ?_
            refine r_i ?_
            refine wc_12 c_11_113 sp_3 (Nat.le_of_ble_eq_true rfl) (by omega) ?_
            refine tm_put hm (by omega) (by first | (rw [hKl, if_pos (by omega)]) | (rw [hKl, if_neg (by omega)]) | exact hKl.symm) hP.symm (by first | exact hZl.symm | omega) (fun I1 hm1 hF1 => ?_)
            refine r_v ?_
            refine w_iload c_11_116 rfl ?_
            refine w_istore c_11_118 (Nat.le_of_ble_eq_true rfl) rfl ?_
            refine w_goto c_11_120 ?_
            refine w_iload c_11_148 rfl ?_
            refine w_istore c_11_150 (Nat.le_of_ble_eq_true rfl) rfl ?_
            refine w_goto c_11_151 ?_
            refine ih _ _ (j + 1) I1 _ (by omega) (by omega) (by omega) ?_ ?_ hm1 (by omega) (hF.tr hF1)
            · show skip T n _ = skip T n (tkS T n (j + 1)).1
              rw [hSl]
            · rw [hSl]
          · refine z_push c_11_96 ?_
            refine w_goto c_11_99 ?_
            refine w_iload c_11_105 rfl ?_
            refine w_aload c_11_106 rfl ?_
            refine w_iload c_11_107 rfl ?_
            refine w_iload c_11_108 rfl ?_
            refine wc_17 c_11_110 (Nat.le_of_ble_eq_true rfl) (by omega) ?_
            refine tm_val (fun j a b => (hF 1 _ (by omega)).trans (hT j a b)) hTr (by omega) (fun j z1 z2 => isDi_iff.mp (scan_all (p := isDi T) (e := n) (a := a) (by omega) (show a + j < dend T n a by omega))) ?_
            refine r_i ?_
            refine wc_12 c_11_113 sp_3 (Nat.le_of_ble_eq_true rfl) (by omega) ?_
            refine tm_put hm (by omega) (by first | (rw [hKl, if_pos (by omega)]) | (rw [hKl, if_neg (by omega)]) | exact hKl.symm) hP.symm (by first | exact hZl.symm | omega) (fun I1 hm1 hF1 => ?_)
            refine r_v ?_
            refine w_iload c_11_116 rfl ?_
            refine w_istore c_11_118 (Nat.le_of_ble_eq_true rfl) rfl ?_
            refine w_goto c_11_120 ?_
            refine w_iload c_11_148 rfl ?_
            refine w_istore c_11_150 (Nat.le_of_ble_eq_true rfl) rfl ?_
            refine w_goto c_11_151 ?_
            refine ih _ _ (j + 1) I1 _ (by omega) (by omega) (by omega) ?_ ?_ hm1 (by omega) (hF.tr hF1)
            · show skip T n _ = skip T n (tkS T n (j + 1)).1
              rw [hSl]
            · rw [hSl]
      · have hl2 := of_decide_eq_true h3_
        have hP : tkP T n j = a := by rw [← hA]; exact skip_nb (by omega)
        have hlt : tkP T n j < n := by omega
        have hjE2 : j < E := by
          have h9 : ¬ tkK T n j = 341 := fun z => (tkK_341 hTr).mp z hlt
          rw [hE] at h9; omega
        have hle : isLe T (tkP T n j) = true := by rw [isLe_iff, hP]; exact hl2
        have hw1 : a ≤ wend T n a := scan_ge
        have hw2 : wend T n a ≤ n := scan_le h1
        have hw3 : wend T n a = wend T n (a + 1) := wend_step ⟨han, hl2⟩
        have hw4 : a + 1 ≤ wend T n (a + 1) := scan_ge
        have hKl : tkK T n j = if a = g then 340 else wkC (wrd T n a) := by rw [hK0, if_neg (by omega), if_pos hle, hP, hg]
        have hZl : tkZ T n j = wend T n a - a := by rw [hZ0, if_neg (by omega), if_pos hle, hP]
        have hSl := tkS_word hlt hle
        rw [hP] at hSl
        refine w_aload c_11_29 rfl ?_
        refine w_iload c_11_30 rfl ?_
        refine w_iload c_11_31 rfl ?_
        refine wc_15 c_11_32 (Nat.le_of_ble_eq_true rfl) (by omega) ?_
        refine tm_endW (fun j a b => (hF 1 _ (by omega)).trans (hT j a b)) hTr hn ⟨h0, h1⟩ (by omega) ?_
        refine r_i ?_
        refine w_istore c_11_35 (Nat.le_of_ble_eq_true rfl) rfl ?_
        refine w_aload c_11_37 rfl ?_
        refine w_iload c_11_38 rfl ?_
        refine w_iload c_11_39 rfl ?_
        refine z_ic_ne c_11_41 (by first | exact aRg_of _ | (unfold aRg; omega)) (by first | exact aRg_of _ | (unfold aRg; omega)) (fun h8_ => ?_) (fun h8_ => ?_)
        · refine w_aload c_11_50 rfl ?_
          refine w_iload c_11_51 rfl ?_
          refine w_iload c_11_52 rfl ?_
          refine wc_18 c_11_54 (Nat.le_of_ble_eq_true rfl) (by omega) ?_
          refine tc_wordMark (n := n) (fun j a b => (hF 1 _ (by omega)).trans (hT j a b)) hTr (by omega) (by omega) (by omega) (fun i z1 z2 => isLe_iff.mp (scan_all (p := isLe T) (e := n) (a := a) z1 z2)) rfl ?_
          have hwk := wkC_rg (l := wrd T n a)
          refine r_i ?_
          refine w_iload c_11_57 rfl ?_
          refine w_iload c_11_58 rfl ?_
          refine w_iload c_11_60 rfl ?_
          refine z_isub c_11_61 ?_
          refine wc_12 c_11_62 sp_3 (Nat.le_of_ble_eq_true rfl) (by omega) ?_
          refine tm_put hm (by omega) (by first | (rw [hKl, if_pos (by omega)]) | (rw [hKl, if_neg (by omega)]) | exact hKl.symm) hP.symm (by first | exact hZl.symm | omega) (fun I1 hm1 hF1 => ?_)
          refine r_v ?_
          refine w_iload c_11_65 rfl ?_
          refine w_istore c_11_67 (Nat.le_of_ble_eq_true rfl) rfl ?_
          refine w_goto c_11_69 ?_
          refine w_iload c_11_148 rfl ?_
          refine w_istore c_11_150 (Nat.le_of_ble_eq_true rfl) rfl ?_
          refine w_goto c_11_151 ?_
          refine ih _ _ (j + 1) I1 _ (by omega) (by omega) (by omega) ?_ ?_ hm1 (by omega) (hF.tr hF1)
          · show skip T n _ = skip T n (tkS T n (j + 1)).1
            rw [hSl]
          · rw [hSl]
        · refine z_push c_11_44 ?_
          refine w_goto c_11_47 ?_
          refine w_iload c_11_57 rfl ?_
          refine w_iload c_11_58 rfl ?_
          refine w_iload c_11_60 rfl ?_
          refine z_isub c_11_61 ?_
          refine wc_12 c_11_62 sp_3 (Nat.le_of_ble_eq_true rfl) (by omega) ?_
          refine tm_put hm (by omega) (by first | (rw [hKl, if_pos (by omega)]) | (rw [hKl, if_neg (by omega)]) | exact hKl.symm) hP.symm (by first | exact hZl.symm | omega) (fun I1 hm1 hF1 => ?_)
          refine r_v ?_
          refine w_iload c_11_65 rfl ?_
          refine w_istore c_11_67 (Nat.le_of_ble_eq_true rfl) rfl ?_
          refine w_goto c_11_69 ?_
          refine w_iload c_11_148 rfl ?_
          refine w_istore c_11_150 (Nat.le_of_ble_eq_true rfl) rfl ?_
          refine w_goto c_11_151 ?_
          refine ih _ _ (j + 1) I1 _ (by omega) (by omega) (by omega) ?_ ?_ hm1 (by omega) (hF.tr hF1)
          · show skip T n _ = skip T n (tkS T n (j + 1)).1
            rw [hSl]
          · rw [hSl]

set_option maxHeartbeats 1000000 in
theorem tm_scan {d : Nat} {I : aFI} {L : aFL} {Q : aPo} {T : Int → Int} {sh : Nat} {su : Option Nat} (hT : ∀ j : Int, 0 ≤ j → j < 1600 → I 1 j.toNat = iI (T j)) (hTr : ∀ j : Int, 0 ≤ T j ∧ T j < 256) {n : Int} {E : Nat} (hn : 0 ≤ n ∧ n ≤ 1600) (hE : ∀ j : Nat, tkK T n j = 341 ↔ E ≤ j) (hEn : (E : Int) ≤ n) (hd : 5 ≤ d) (k : ∀ I2 : aFI, mkP I2 T n (E + 1) → frG PMk I I2 → Q none I2 L (aR sh su)) : aWp none d 11 0 [.ref 3, .ref 1, .int (iI n), .null, .null, .null] [] I L (aR sh su) Q := by
  refine z_push c_11_0 ?_
  refine w_istore c_11_1 (Nat.le_of_ble_eq_true rfl) rfl ?_
  refine z_push c_11_2 ?_
  refine w_istore c_11_3 (Nat.le_of_ble_eq_true rfl) rfl ?_
  refine w_aload c_11_5 rfl ?_
  refine z_push c_11_6 ?_
  refine z_putZ c_11_7 sp_3 (by decide) rfl ?_
  refine upG_k (frG.rf (P := PMk) (I := I)) (Or.inl ⟨rfl, rfl⟩) (fun I1 e1 hF1 => ?_)
  exact tm_scan_10 (I0 := I) hT hTr hn hE hEn hd k _ 0 (-1) 0 I1 _ (Nat.lt_succ_self _) (by decide) hn.1 rfl rfl ⟨by rw [e1]; exact up_eq, fun i a b => by omega⟩ (Nat.zero_le _) hF1

