/-! the reference: many seasons; the lake put aside and taken back (p67.py) -/
/-- seasons, one after another; what flows over -/
def seaN (D : Nat → Int → Int) (cd : Nat → Option (List Int)) (X : Lk) : Nat → Lk
  | 0 => X
  | n + 1 => seaX D cd 0 (seaN D cd X n)
def ovN (D : Nat → Int → Int) (cd : Nat → Option (List Int)) (X : Lk) : Nat → Int
  | 0 => 0
  | n + 1 => ovN D cd X n + seaO D 0 (seaN D cd X n)
theorem seaN_s {D : Nat → Int → Int} {cd : Nat → Option (List Int)} {X : Lk} : ∀ n : Nat, (seaN D cd X n).1 = X.1 + n
  | 0 => by show X.1 = X.1 + 0; omega
  | n + 1 => by have := seaN_s (D := D) (cd := cd) (X := X) n; show (seaN D cd X n).1 + 1 = _; omega
theorem seaN_ok {D : Nat → Int → Int} {cd : Nat → Option (List Int)} {X : Lk} (hS : wfS D cd) (hX : lkOK X) : ∀ n : Nat, X.1 + n ≤ 1000 → lkOK (seaN D cd X n)
  | 0, _ => hX
  | n + 1, h => seaX_ok hS (seaN_ok hS hX n (by omega)) (by have := seaN_s (D := D) (cd := cd) (X := X) n; omega)
set_option maxHeartbeats 2000000 in
theorem t_seasonsGo_1 {d : Nat} {I0 : aFI} {L0 : aFL} {Q : aPo} {sh : Nat} {su : Option Nat} {D : Nat → Int → Int} {cd : Nat → Option (List Int)} {X : Lk} {ov : Int} {m : Nat} (hS : wfS D cd) (hX : lkOK X) (hm : X.1 + m ≤ 1000) (hm2 : m < 2000) (hd : 5 ≤ d) : ∀ (n : Nat) (i : Nat) (I : aFI) (L : aFL), m - i < n → (i ≤ m) → (rS I D cd (seaN D cd X i)) → (I 157 63 = iI (ov + ovN D cd X i)) → (frG PT I0 I) → (frG LK L0 L) → (∀ (I2 : aFI) (L2 : aFL), rS I2 D cd (seaN D cd X m) → I2 157 63 = iI (ov + ovN D cd X m) → frG PT I0 I2 → frG LK L0 L2 → Q none I2 L2 (aR sh su)) → aWp none d 176 2 [.ref 157, .int (iI (m : Int)), .int (iI (i : Int))] [] I L (aR sh su) Q := by
  intro n
  induction n with
  | zero => intro i I L h; omega
  | succ n ih =>
    intro i I L hn2 h1 hR hov hF hG k
    refine w_iload c_176_2 rfl ?_
    refine w_iload c_176_3 rfl ?_
    refine z_ic_ge c_176_4 (by first | exact aRg_of _ | (unfold aRg; omega)) (by first | exact aRg_of _ | (unfold aRg; omega)) (fun h1_ => ?_) (fun h1_ => ?_)
    · refine z_retv c_176_20 ?_
      have e9 : i = m := by omega
      subst e9
      exact k I L hR hov hF hG
    · refine w_aload c_176_7 rfl ?_
      refine z_push c_176_8 ?_
      refine z_push c_176_9 ?_
      refine z_push c_176_10 ?_
      refine wc_175 c_176_11 sp_157 (Nat.le_of_ble_eq_true rfl) (by omega) ?_
      refine t_seasonGoes0 (dry := 0) hS hR (seaN_ok hS hX i (by omega)) (by decide) rfl hov (by omega) (fun I2 L2 hR2 hov2 hF2 hG2 => ?_)
      refine r_v ?_
      refine z_iinc c_176_14 rfl rfl ?_
      refine w_goto c_176_17 ?_
      exact ih (i + 1) I2 L2 (by omega) (by omega) hR2 (hov2.trans (congrArg iI (Int.add_assoc _ _ _))) (hF.tr hF2) (hG.tr hG2) k

set_option maxHeartbeats 1000000 in
theorem t_seasonsGo {d : Nat} {I : aFI} {L : aFL} {Q : aPo} {sh : Nat} {su : Option Nat} {D : Nat → Int → Int} {cd : Nat → Option (List Int)} {X : Lk} {ov : Int} {m : Nat} (hS : wfS D cd) (hX : lkOK X) (hm : X.1 + m ≤ 1000) (hm2 : m < 2000) (hd : 5 ≤ d) (hR : rS I D cd X) (hov : I 157 63 = iI ov) (k : ∀ (I2 : aFI) (L2 : aFL), rS I2 D cd (seaN D cd X m) → I2 157 63 = iI (ov + ovN D cd X m) → frG PT I I2 → frG LK L L2 → Q none I2 L2 (aR sh su)) : aWp none d 176 0 [.ref 157, .int (iI (m : Int)), .null] [] I L (aR sh su) Q := by
  refine z_push c_176_0 ?_
  refine w_istore c_176_1 (Nat.le_of_ble_eq_true rfl) rfl ?_
  exact t_seasonsGo_1 hS hX hm hm2 hd _ 0 I L (Nat.lt_succ_self _) (by omega) hR (hov.trans (congrArg iI (by unfold ovN; omega))) frG.rf frG.rf k

abbrev PB : Nat → Nat → Prop := fun q k => (q = 157 ∧ k = 61) ∨ (q = 203 ∧ k < 27)
abbrev PB0 : Nat → Nat → Prop := fun q k => q = 203 ∧ k < 27
abbrev PC : Nat → Nat → Prop := fun q k => (q = 157 ∧ k = 61) ∨ (q = 202 ∧ k < 27)
abbrev PD : Nat → Nat → Prop := fun q k => q = 202 ∧ k < 27
set_option maxHeartbeats 2000000 in
theorem t_putsAside_1 {d : Nat} {I0 : aFI} {L : aFL} {Q : aPo} {sh : Nat} {su : Option Nat}  : ∀ (n : Nat) (i : Int) (I : aFI), (27 - i).toNat < n → (0 ≤ i) → (i ≤ 27) → (∀ k : Nat, k < i.toNat → I 203 k = I0 202 k) → (frG PB0 I0 I) → (∀ I2 : aFI, (∀ k : Nat, k < 27 → I2 203 k = I0 202 k) → frG PB0 I0 I2 → aWp none d 177 31 [.ref 157, .int (iI 27)] [] I2 L (aR sh su) Q) → aWp none d 177 7 [.ref 157, .int (iI i)] [] I L (aR sh su) Q := by
  intro n
  induction n with
  | zero => intro i I h; omega
  | succ n ih =>
    intro i I hn2 h0 h1 hc hF k
    refine w_iload c_177_7 rfl ?_
    refine z_push c_177_8 ?_
    refine z_ic_ge c_177_10 (by first | exact aRg_of _ | (unfold aRg; omega)) (by first | exact aRg_of _ | (unfold aRg; omega)) (fun h1_ => ?_) (fun h1_ => ?_)
    · have e9 : i = 27 := by omega
      subst e9
      exact k I (fun j hj => hc j (by omega)) hF
    · refine w_aload c_177_13 rfl ?_
      refine w_getR c_177_14 sp_157 (by decide) rfl pr_157_59 ?_
      refine w_iload c_177_17 rfl ?_
      refine w_aload c_177_18 rfl ?_
      refine w_getR c_177_19 sp_157 (by decide) rfl pr_157_58 ?_
      refine w_iload c_177_22 rfl ?_
      refine z_iaload c_177_23 sp_202 (by omega) (by first | decide | omega) (iI_of _) ?_
      refine z_iastore c_177_24 sp_203 (by omega) (by decide) ?_
      refine upG_k hF (⟨rfl, by omega⟩) (fun I2 hi hF2 => ?_)
      refine z_iinc c_177_25 rfl rfl ?_
      refine w_goto c_177_28 ?_
      refine ih (i + 1) I2 (by omega) (by omega) (by omega) (fun k hk => ?_) hF2 k
      rw [hi]
      by_cases hki : k = i.toNat
      · subst hki; rw [up_eq, ← iI_of]; exact hF _ _ (by omega)
      · rw [up_ne (by omega)]; exact hc k (by omega)

set_option maxHeartbeats 2000000 in
theorem t_takesBack_1 {d : Nat} {I0 : aFI} {L : aFL} {Q : aPo} {sh : Nat} {su : Option Nat}  : ∀ (n : Nat) (i : Int) (I : aFI), (27 - i).toNat < n → (0 ≤ i) → (i ≤ 27) → (∀ k : Nat, k < i.toNat → I 202 k = I0 203 k) → (frG PD I0 I) → (∀ I2 : aFI, (∀ k : Nat, k < 27 → I2 202 k = I0 203 k) → frG PD I0 I2 → aWp none d 178 26 [.ref 157, .int (iI 27)] [] I2 L (aR sh su) Q) → aWp none d 178 2 [.ref 157, .int (iI i)] [] I L (aR sh su) Q := by
  intro n
  induction n with
  | zero => intro i I h; omega
  | succ n ih =>
    intro i I hn2 h0 h1 hc hF k
    refine w_iload c_178_2 rfl ?_
    refine z_push c_178_3 ?_
    refine z_ic_ge c_178_5 (by first | exact aRg_of _ | (unfold aRg; omega)) (by first | exact aRg_of _ | (unfold aRg; omega)) (fun h1_ => ?_) (fun h1_ => ?_)
    · have e9 : i = 27 := by omega
      subst e9
      exact k I (fun j hj => hc j (by omega)) hF
    · refine w_aload c_178_8 rfl ?_
      refine w_getR c_178_9 sp_157 (by decide) rfl pr_157_58 ?_
      refine w_iload c_178_12 rfl ?_
      refine w_aload c_178_13 rfl ?_
      refine w_getR c_178_14 sp_157 (by decide) rfl pr_157_59 ?_
      refine w_iload c_178_17 rfl ?_
      refine z_iaload c_178_18 sp_203 (by omega) (by first | decide | omega) (iI_of _) ?_
      refine z_iastore c_178_19 sp_202 (by omega) (by decide) ?_
      refine upG_k hF (⟨rfl, by omega⟩) (fun I2 hi hF2 => ?_)
      refine z_iinc c_178_20 rfl rfl ?_
      refine w_goto c_178_23 ?_
      refine ih (i + 1) I2 (by omega) (by omega) (by omega) (fun k hk => ?_) hF2 k
      rw [hi]
      by_cases hki : k = i.toNat
      · subst hki; rw [up_eq, ← iI_of]; exact hF _ _ (by omega)
      · rw [up_ne (by omega)]; exact hc k (by omega)

set_option maxHeartbeats 2000000 in
theorem t_triesAnew_1 {d : Nat} {I0 : aFI} {L : aFL} {Q : aPo} {sh : Nat} {su : Option Nat}  : ∀ (n : Nat) (i : Int) (I : aFI), (27 - i).toNat < n → (0 ≤ i) → (i ≤ 27) → (∀ k : Nat, k < i.toNat → I 202 k = I0 203 k) → (frG PD I0 I) → (∀ I2 : aFI, (∀ k : Nat, k < 27 → I2 202 k = I0 203 k) → frG PD I0 I2 → aWp none d 179 26 [.ref 157, .int (iI 27)] [] I2 L (aR sh su) Q) → aWp none d 179 2 [.ref 157, .int (iI i)] [] I L (aR sh su) Q := by
  intro n
  induction n with
  | zero => intro i I h; omega
  | succ n ih =>
    intro i I hn2 h0 h1 hc hF k
    refine w_iload c_179_2 rfl ?_
    refine z_push c_179_3 ?_
    refine z_ic_ge c_179_5 (by first | exact aRg_of _ | (unfold aRg; omega)) (by first | exact aRg_of _ | (unfold aRg; omega)) (fun h1_ => ?_) (fun h1_ => ?_)
    · have e9 : i = 27 := by omega
      subst e9
      exact k I (fun j hj => hc j (by omega)) hF
    · refine w_aload c_179_8 rfl ?_
      refine w_getR c_179_9 sp_157 (by decide) rfl pr_157_58 ?_
      refine w_iload c_179_12 rfl ?_
      refine w_aload c_179_13 rfl ?_
      refine w_getR c_179_14 sp_157 (by decide) rfl pr_157_59 ?_
      refine w_iload c_179_17 rfl ?_
      refine z_iaload c_179_18 sp_203 (by omega) (by first | decide | omega) (iI_of _) ?_
      refine z_iastore c_179_19 sp_202 (by omega) (by decide) ?_
      refine upG_k hF (⟨rfl, by omega⟩) (fun I2 hi hF2 => ?_)
      refine z_iinc c_179_20 rfl rfl ?_
      refine w_goto c_179_23 ?_
      refine ih (i + 1) I2 (by omega) (by omega) (by omega) (fun k hk => ?_) hF2 k
      rw [hi]
      by_cases hki : k = i.toNat
      · subst hki; rw [up_eq, ← iI_of]; exact hF _ _ (by omega)
      · rw [up_ne (by omega)]; exact hc k (by omega)

set_option maxHeartbeats 1000000 in
theorem t_putsAside {d : Nat} {I : aFI} {L : aFL} {Q : aPo} {sh : Nat} {su : Option Nat} (k : ∀ I2 : aFI, (∀ k : Nat, k < 27 → I2 203 k = I 202 k) → I2 157 61 = aBo true → frG PB I I2 → Q none I2 L (aR sh su)) : aWp none d 177 0 [.ref 157, .null] [] I L (aR sh su) Q := by
  refine w_aload c_177_0 rfl ?_
  refine z_push c_177_1 ?_
  refine z_putB (b := true) c_177_2 sp_157 (by decide) rfl ?_
  refine z_push c_177_5 ?_
  refine w_istore c_177_6 (Nat.le_of_ble_eq_true rfl) rfl ?_
  refine t_putsAside_1 _ 0 _ (Nat.lt_succ_self _) (by omega) (by omega) (fun k hk => absurd hk (by omega)) frG.rf (fun I2 hc hF => ?_)
  refine z_retv c_177_31 ?_
  exact k I2 hc ((hF _ _ (by decide)).trans up_eq) ((frG.rf.up (Or.inl ⟨rfl, rfl⟩)).tr (hF.mono (fun q k z => Or.inr z)))

set_option maxHeartbeats 1000000 in
theorem t_takesBack {d : Nat} {I : aFI} {L : aFL} {Q : aPo} {sh : Nat} {su : Option Nat} (k : ∀ I2 : aFI, (∀ k : Nat, k < 27 → I2 202 k = I 203 k) → I2 157 61 = aBo false → frG PC I I2 → Q none I2 L (aR sh su)) : aWp none d 178 0 [.ref 157, .null] [] I L (aR sh su) Q := by
  refine z_push c_178_0 ?_
  refine w_istore c_178_1 (Nat.le_of_ble_eq_true rfl) rfl ?_
  refine t_takesBack_1 _ 0 _ (Nat.lt_succ_self _) (by omega) (by omega) (fun k hk => absurd hk (by omega)) frG.rf (fun I2 hc hF => ?_)
  refine w_aload c_178_26 rfl ?_
  refine z_push c_178_27 ?_
  refine z_putB (b := false) c_178_28 sp_157 (by decide) rfl ?_
  refine z_retv c_178_31 ?_
  exact k _ (fun j hj => (up_ne (by omega)).trans (hc j hj)) up_eq ((hF.mono (P2 := PC) (fun q k z => Or.inr z)).up (Or.inl ⟨rfl, rfl⟩))

set_option maxHeartbeats 1000000 in
theorem t_triesAnew {d : Nat} {I : aFI} {L : aFL} {Q : aPo} {sh : Nat} {su : Option Nat} (k : ∀ I2 : aFI, (∀ k : Nat, k < 27 → I2 202 k = I 203 k) → frG PD I I2 → Q none I2 L (aR sh su)) : aWp none d 179 0 [.ref 157, .null] [] I L (aR sh su) Q := by
  refine z_push c_179_0 ?_
  refine w_istore c_179_1 (Nat.le_of_ble_eq_true rfl) rfl ?_
  refine t_triesAnew_1 _ 0 _ (Nat.lt_succ_self _) (by omega) (by omega) (fun k hk => absurd hk (by omega)) frG.rf (fun I2 hc hF => ?_)
  refine z_retv c_179_26 ?_
  exact k I2 hc hF

