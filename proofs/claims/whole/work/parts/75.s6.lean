/-! both sides: outflows as a whole (p74.py) -/
abbrev PF2 : Nat → Nat → Prop := fun q k => q = 157 ∧ (k = 67 ∨ k = 68)
abbrev POF : Nat → Nat → Prop := fun q k => PE q k ∨ (q = 157 ∧ (k = 1 ∨ k = 67 ∨ k = 68))
abbrev outC (D : Nat → Int → Int) (X : Lk) (n : Int) : Prop := (D 0 0 = 1 ∧ ¬ n = 0) ∧ n % 2 = 0 ∧ n / 2 ≤ 10 ∧ X.1 + n / 2 ≤ 999
set_option maxHeartbeats 1000000 in
theorem t_refuses {d : Nat} {I : aFI} {L : aFL} {Q : aPo} {sh : Nat} {su : Option Nat} {v : Int} (hv : 0 ≤ v ∧ v < 6) (k : Q (some (.int (iI (-1)))) (aUp I 159 v.toNat (iI ((I 159 v.toNat).toInt + 1))) L (aR sh su)) : aWp none d 205 0 [.ref 157, .int (iI v)] [] I L (aR sh su) Q := by
  refine w_aload c_205_0 rfl ?_
  refine w_getR c_205_1 sp_157 (by decide) rfl pr_157_9 ?_
  refine w_iload c_205_4 rfl ?_
  refine w_dup2 c_205_5 rfl rfl ?_
  refine z_iaload c_205_6 sp_159 (by omega) (by first | decide | omega) (iI_of _) ?_
  refine z_push c_205_7 ?_
  refine z_iadd c_205_8 ?_
  refine z_iastore c_205_9 sp_159 (by omega) (by decide) ?_
  refine z_push c_205_10 ?_
  refine z_ret c_205_11 rfl ?_
  exact k

set_option maxHeartbeats 1000000 in
theorem tc_refuse {d : Nat} {I : aFI} {L : aFL} {Q : aPo} {sh : Nat} {su : Option Nat} {v : Int} (hv : 0 ≤ v ∧ v < 6) (k : Q (some (.int (iI (-1)))) (aUp I 156 v.toNat (iI ((I 156 v.toNat).toInt + 1))) L (aR sh su)) : aWp none d 108 0 [.ref 0, .int (iI v)] [] I L (aR sh su) Q := by
  refine w_aload c_108_0 rfl ?_
  refine w_getR c_108_1 sp_0 (by decide) rfl pr_0_16 ?_
  refine w_iload c_108_4 rfl ?_
  refine w_dup2 c_108_5 rfl rfl ?_
  refine z_iaload c_108_6 sp_156 (by omega) (by first | decide | omega) (iI_of _) ?_
  refine z_push c_108_7 ?_
  refine z_iadd c_108_8 ?_
  refine z_iastore c_108_9 sp_156 (by omega) (by decide) ?_
  refine z_push c_108_10 ?_
  refine z_ret c_108_11 rfl ?_
  exact k

set_option maxHeartbeats 1000000 in
theorem tc_takeTape {d : Nat} {I : aFI} {L : aFL} {Q : aPo} {sh : Nat} {su : Option Nat} {nt : Int} (hn : I 0 1 = iI nt) (k : Q (some (.int (iI nt))) (aUp I 0 1 (iI 0)) L (aR sh su)) : aWp none d 110 0 [.ref 0, .null] [] I L (aR sh su) Q := by
  refine w_aload c_110_0 rfl ?_
  refine z_getZ c_110_1 sp_0 (by decide) rfl hn ?_
  refine w_istore c_110_4 (Nat.le_of_ble_eq_true rfl) rfl ?_
  refine w_aload c_110_5 rfl ?_
  refine z_push c_110_6 ?_
  refine z_putZ c_110_7 sp_0 (by decide) rfl ?_
  refine w_iload c_110_10 rfl ?_
  refine z_ret c_110_11 rfl ?_
  exact k

set_option maxHeartbeats 2000000 in
theorem t_outflows_1 {d : Nat} {I0 : aFI} {L : aFL} {Q : aPo} {sh : Nat} {su : Option Nat} {T : Int → Int} {nt : Int} {m : Nat} (hn : nt / 2 = m) (hn0 : 0 ≤ nt ∧ nt ≤ 1600) (hm : m ≤ 10) (hT : ∀ j : Int, 0 ≤ j → j < 1600 → I0 158 j.toNat = iI (T j)) (hTr : ∀ j : Int, 0 ≤ T j ∧ T j ≤ 255) : ∀ (n : Nat) (i : Nat) (I : aFI), m + 1 - i < n → (i ≤ m) → (∀ j : Int, 0 ≤ j → j < i → I 206 j.toNat = iI (rowV T j)) → (frG (fun q _ => q = 206) I0 I) → (∀ I2 : aFI, (∀ j : Int, 0 ≤ j → j < m → I2 206 j.toNat = iI (rowV T j)) → frG (fun q _ => q = 206) I0 I2 → aWp none d 206 101 [.ref 157, .int (iI nt), .int (iI (m : Int)), .null, .null] [] I2 L (aR sh su) Q) → aWp none d 206 59 [.ref 157, .int (iI nt), .int (iI (i : Int)), .null, .null] [] I L (aR sh su) Q := by
  intro n
  induction n with
  | zero => intro i I h; omega
  | succ n ih =>
    intro i I hn2 h1 hr hF k
    have hte := hTr (2 * i)
    have hte2 := hTr (2 * i + 1)
    refine w_iload c_206_59 rfl ?_
    refine w_iload c_206_60 rfl ?_
    refine z_push c_206_61 ?_
    refine z_idiv c_206_62 (by omega) (by omega) ?_
    refine z_ic_ge c_206_63 (by first | exact aRg_of _ | (unfold aRg; omega)) (by first | exact aRg_of _ | (unfold aRg; omega)) (fun h1_ => ?_) (fun h1_ => ?_)
    · have e9 : i = m := by omega
      subst e9
      exact k I hr hF
    · refine w_aload c_206_66 rfl ?_
      refine w_getR c_206_67 sp_157 (by decide) rfl pr_157_66 ?_
      refine w_iload c_206_70 rfl ?_
      refine z_push c_206_71 ?_
      refine w_aload c_206_74 rfl ?_
      refine w_getR c_206_75 sp_157 (by decide) rfl pr_157_0 ?_
      refine z_push c_206_78 ?_
      refine w_iload c_206_79 rfl ?_
      refine z_imul c_206_80 ?_
      refine z_iaload c_206_81 sp_158 (by omega) (by first | decide | omega) ((hF 158 _ (by omega)).trans (hT _ (by omega) (by omega))) ?_
      refine z_imul c_206_82 ?_
      refine w_aload c_206_83 rfl ?_
      refine w_getR c_206_84 sp_157 (by decide) rfl pr_157_0 ?_
      refine z_push c_206_87 ?_
      refine w_iload c_206_88 rfl ?_
      refine z_imul c_206_89 ?_
      refine z_push c_206_90 ?_
      refine z_iadd c_206_91 ?_
      refine z_iaload c_206_92 sp_158 (by omega) (by first | decide | omega) ((hF 158 _ (by omega)).trans (hT _ (by omega) (by omega))) ?_
      refine z_iadd c_206_93 ?_
      refine z_iastore c_206_94 sp_206 (by omega) (by decide) ?_
      refine upG_k hF rfl (fun I2 hi hF2 => ?_)
      refine z_iinc c_206_95 rfl rfl ?_
      refine w_goto c_206_98 ?_
      refine ih (i + 1) I2 (by omega) (by omega) (fun j z1 z2 => ?_) hF2 k
      rw [hi]
      by_cases hji : j = i
      · subst hji; exact up_eq.trans (congrArg iI rfl)
      · rw [up_ne (by omega)]; exact hr j z1 (by omega)

set_option maxHeartbeats 2000000 in
theorem t_outflows_2 {d : Nat} {I0 : aFI} {L0 : aFL} {Q : aPo} {sh : Nat} {su : Option Nat} {D : Nat → Int → Int} {cd : Nat → Option (List Int)} {X : Lk} {T : Int → Int} {nt : Int} {m : Nat} (hS : wfS D cd) (hR0 : rS I0 D cd X) (hX : lkOK X) (hc0 : ∀ k : Nat, k < 27 → I0 203 k = I0 202 k) (hn : nt / 2 = m) (hn0 : 0 ≤ nt ∧ nt ≤ 1600) (hm : X.1 + m ≤ 999) (hm2 : m ≤ 10) (hrw : ∀ j : Int, 0 ≤ j → j < m → I0 206 j.toNat = iI (rowV T j)) (hTr : ∀ j : Int, 0 ≤ T j ∧ T j ≤ 255) (hd : 6 ≤ d) : ∀ (n : Nat) (f : Nat) (I : aFI) (L : aFL) (v4 : Value), 1001 - f < n → (f ≤ 1000) → (rS I D cd X) → (I 157 67 = iI (olF D T X.2.1 X.2.2.1 m f).2.1) → (I 157 68 = iI (olF D T X.2.1 X.2.2.1 m f).2.2) → (∀ j : Int, 0 ≤ j → j < m → I 206 j.toNat = iI (rowV T j)) → (∀ k : Nat, k < 27 → I 203 k = I0 203 k) → (frG (fun q k => PT2 q k ∨ PF2 q k) I0 I) → (frG LK L0 L) → (∀ (I2 : aFI) (L2 : aFL) (v4 : Value), I2 157 67 = iI (olF D T X.2.1 X.2.2.1 m 1000).2.1 → I2 157 68 = iI (olF D T X.2.1 X.2.2.1 m 1000).2.2 → frG (fun q k => PT2 q k ∨ PF2 q k) I0 I2 → frG LK L0 L2 → aWp none d 206 175 [.ref 157, .int (iI nt), .int (iI (olF D T X.2.1 X.2.2.1 m 1000).1), .int (iI 1000), v4] [] I2 L2 (aR sh su) Q) → aWp none d 206 119 [.ref 157, .int (iI nt), .int (iI (olF D T X.2.1 X.2.2.1 m f).1), .int (iI (f : Int)), v4] [] I L (aR sh su) Q := by
  intro n
  induction n with
  | zero => intro f I L v4 h; omega
  | succ n ih =>
    intro f I L v4 hn2 h1 hR hle hmo hrw2 hc hF hG k
    have hol := olF_rg (D := D) (T := T) (b := X.2.1) (g := X.2.2.1) (m := m) f
    have hst : olF D T X.2.1 X.2.2.1 m (f + 1) = if okF D T f X.2.1 X.2.2.1 m = true then ((olF D T X.2.1 X.2.2.1 m f).1 + 1, (if (olF D T X.2.1 X.2.2.1 m f).2.1 = -1 then (f : Int) else (olF D T X.2.1 X.2.2.1 m f).2.1), (f : Int)) else olF D T X.2.1 X.2.2.1 m f := rfl
    refine w_iload c_206_119 rfl ?_
    refine z_push c_206_120 ?_
    refine z_ic_gt c_206_123 (by first | exact aRg_of _ | (unfold aRg; omega)) (by first | exact aRg_of _ | (unfold aRg; omega)) (fun h1_ => ?_) (fun h1_ => ?_)
    · have e9 : f = 1000 := by omega
      subst e9
      exact k I L _ hle hmo hF hG
    · refine w_aload c_206_126 rfl ?_
      refine w_iload c_206_127 rfl ?_
      refine w_iload c_206_128 rfl ?_
      refine z_push c_206_129 ?_
      refine z_idiv c_206_130 (by omega) (by omega) ?_
      rw [hn]
      refine wc_204 c_206_131 sp_157 (Nat.le_of_ble_eq_true rfl) (by omega) ?_
      refine t_isFlow (T := T) hS hX (by omega) hm hm2 hrw2 hTr (by omega) hR (fun I2 L2 hW2 hF2 hG2 => ?_)
      refine r_i ?_
      refine w_istore c_206_134 (Nat.le_of_ble_eq_true rfl) rfl ?_
      refine w_aload c_206_136 rfl ?_
      refine wc_179 c_206_137 sp_157 (Nat.le_of_ble_eq_true rfl) (by omega) ?_
      refine t_triesAnew (fun I3 hb1 hb3 => ?_)
      have hR3 : rS I3 D cd X := ⟨hW2.fr (fun q k z1 z2 => hb3 q k (by omega)) (hb3 157 56 (by decide)), hR0.2.fr (fun k hk => by rw [hb1 k hk, hF2 203 k (by omega), hc k hk]; exact hc0 k hk)⟩
      have hF3 : frG (fun q k => PT2 q k ∨ PF2 q k) I0 I3 := (hF.tr (hF2.mono (fun q k z => Or.inl (by first | omega)))).tr (hb3.mono (fun q k z => Or.inl (Or.inr (Or.inr (Or.inr z)))))
      have hc3 : ∀ k : Nat, k < 27 → I3 203 k = I0 203 k := fun k hk => by rw [hb3 203 k (by omega), hF2 203 k (by omega)]; exact hc k hk
      have hle3 : I3 157 67 = iI (olF D T X.2.1 X.2.2.1 m f).2.1 := by rw [hb3 157 67 (by decide), hF2 157 67 (by decide)]; exact hle
      have hmo3 : I3 157 68 = iI (olF D T X.2.1 X.2.2.1 m f).2.2 := by rw [hb3 157 68 (by decide), hF2 157 68 (by decide)]; exact hmo
      have hrw3 : ∀ j : Int, 0 ≤ j → j < m → I3 206 j.toNat = iI (rowV T j) := fun j z1 z2 => by rw [hb3 206 _ (by omega), hF2 206 _ (by omega)]; exact hrw2 j z1 z2
      refine r_v ?_
      refine w_iload c_206_140 rfl ?_
      refine b_if_ne c_206_142 (fun h2_ => ?_) (fun h2_ => ?_)
      · refine z_iinc c_206_148 rfl rfl ?_
        refine w_aload c_206_151 rfl ?_
        refine z_getZ c_206_152 sp_157 (by decide) rfl hle3 ?_
        refine z_push c_206_155 ?_
        refine z_ic_ne c_206_156 (by first | exact aRg_of _ | (unfold aRg; omega)) (by first | exact aRg_of _ | (unfold aRg; omega)) (fun h3_ => ?_) (fun h3_ => ?_)
        · refine w_aload c_206_164 rfl ?_
          refine w_iload c_206_165 rfl ?_
          refine z_putZ c_206_166 sp_157 (by decide) rfl ?_
          refine upG_k hF3 (Or.inr ⟨rfl, by decide⟩) (fun I3 hi hF3 => ?_)
          have hR3 : rS I3 D cd X := ⟨hR3.1.fr (fun q k z1 z2 => by rw [hi]; exact up_ne (by omega)) (by rw [hi]; exact up_ne (by omega)), hR3.2.fr (fun k z1 => by rw [hi]; exact up_ne (by omega))⟩
          have hc3 : ∀ k : Nat, k < 27 → I3 203 k = I0 203 k := fun k hk => by rw [hi, up_ne (by omega)]; exact hc3 k hk
          have hrw3 : ∀ j : Int, 0 ≤ j → j < m → I3 206 j.toNat = iI (rowV T j) := fun j z1 z2 => by rw [hi, up_ne (by omega)]; exact hrw3 j z1 z2
          have hle3 := (congrFun (congrFun hi 157) 67).trans ((up_ne (by omega)).trans hle3)
          have hmo3 : I3 157 68 = iI (f : Int) := by rw [hi]; exact up_eq
          clear hi
          refine z_iinc c_206_169 rfl rfl ?_
          refine w_goto c_206_172 ?_
          rw [if_pos (by assumption)] at hst
          have hA := ih (f + 1) I3 L2 (.int (aBo (okF D T f X.2.1 X.2.2.1 m))) (by omega) (by omega) hR3 (by rw [hst]; show _ = iI (if _ then _ else _); first | (rw [if_pos (by omega)]; exact hle3) | (rw [if_neg (by omega)]; exact hle3)) (by rw [hst]; exact hmo3) hrw3 hc3 hF3 (hG.tr hG2) k
          rw [hst] at hA
          exact hA
        · refine w_aload c_206_159 rfl ?_
          refine w_iload c_206_160 rfl ?_
          refine z_putZ c_206_161 sp_157 (by decide) rfl ?_
          refine upG_k hF3 (Or.inr ⟨rfl, by decide⟩) (fun I3 hi hF3 => ?_)
          have hR3 : rS I3 D cd X := ⟨hR3.1.fr (fun q k z1 z2 => by rw [hi]; exact up_ne (by omega)) (by rw [hi]; exact up_ne (by omega)), hR3.2.fr (fun k z1 => by rw [hi]; exact up_ne (by omega))⟩
          have hc3 : ∀ k : Nat, k < 27 → I3 203 k = I0 203 k := fun k hk => by rw [hi, up_ne (by omega)]; exact hc3 k hk
          have hrw3 : ∀ j : Int, 0 ≤ j → j < m → I3 206 j.toNat = iI (rowV T j) := fun j z1 z2 => by rw [hi, up_ne (by omega)]; exact hrw3 j z1 z2
          have hle3 : I3 157 67 = iI (f : Int) := by rw [hi]; exact up_eq
          have hmo3 : I3 157 68 = iI (olF D T X.2.1 X.2.2.1 m f).2.2 := by rw [hi, up_ne (by omega)]; exact hmo3
          clear hi
          refine w_aload c_206_164 rfl ?_
          refine w_iload c_206_165 rfl ?_
          refine z_putZ c_206_166 sp_157 (by decide) rfl ?_
          refine upG_k hF3 (Or.inr ⟨rfl, by decide⟩) (fun I3 hi hF3 => ?_)
          have hR3 : rS I3 D cd X := ⟨hR3.1.fr (fun q k z1 z2 => by rw [hi]; exact up_ne (by omega)) (by rw [hi]; exact up_ne (by omega)), hR3.2.fr (fun k z1 => by rw [hi]; exact up_ne (by omega))⟩
          have hc3 : ∀ k : Nat, k < 27 → I3 203 k = I0 203 k := fun k hk => by rw [hi, up_ne (by omega)]; exact hc3 k hk
          have hrw3 : ∀ j : Int, 0 ≤ j → j < m → I3 206 j.toNat = iI (rowV T j) := fun j z1 z2 => by rw [hi, up_ne (by omega)]; exact hrw3 j z1 z2
          have hle3 := (congrFun (congrFun hi 157) 67).trans ((up_ne (by omega)).trans hle3)
          have hmo3 : I3 157 68 = iI (f : Int) := by rw [hi]; exact up_eq
          clear hi
          refine z_iinc c_206_169 rfl rfl ?_
          refine w_goto c_206_172 ?_
          rw [if_pos (by assumption)] at hst
          have hA := ih (f + 1) I3 L2 (.int (aBo (okF D T f X.2.1 X.2.2.1 m))) (by omega) (by omega) hR3 (by rw [hst]; show _ = iI (if _ then _ else _); first | (rw [if_pos (by omega)]; exact hle3) | (rw [if_neg (by omega)]; exact hle3)) (by rw [hst]; exact hmo3) hrw3 hc3 hF3 (hG.tr hG2) k
          rw [hst] at hA
          exact hA
      · refine w_goto c_206_145 ?_
        refine z_iinc c_206_169 rfl rfl ?_
        refine w_goto c_206_172 ?_
        rw [if_neg (by simp only [*]; exact Bool.noConfusion)] at hst
        have hA := ih (f + 1) I3 L2 (.int (aBo (okF D T f X.2.1 X.2.2.1 m))) (by omega) (by omega) hR3 (by rw [hst]; exact hle3) (by rw [hst]; exact hmo3) hrw3 hc3 hF3 (hG.tr hG2) k
        rw [hst] at hA
        exact hA

theorem back_fr2 {I I1 I2 I3 : aFI} (h0 : frG PB I I1) (hc : ∀ k : Nat, k < 27 → I1 203 k = I 202 k) (h1 : frG (fun q k => PT2 q k ∨ PF2 q k) I1 I2) (h2 : frG PC I2 I3) (hc2 : ∀ k : Nat, k < 27 → I3 202 k = I2 203 k) (ht : I 157 61 = aBo false) (ht2 : I3 157 61 = aBo false) : frG POF I I3 := by
  intro q k hq
  by_cases h : q = 157 ∧ k = 61
  · rw [h.1, h.2, ht, ht2]
  by_cases h3 : q = 202 ∧ k < 27
  · obtain ⟨rfl, h3⟩ := h3
    rw [hc2 k h3, h1 203 k (by omega), hc k h3]
  · rw [h2 q k (by omega), h1 q k (by omega), h0 q k (by omega)]
set_option maxHeartbeats 1000000 in
theorem t_outflows {d : Nat} {I : aFI} {L : aFL} {Q : aPo} {sh : Nat} {su : Option Nat} {D : Nat → Int → Int} {cd : Nat → Option (List Int)} {X : Lk} {T : Int → Int} {nt : Int} (hS : wfS D cd) (hR : rS I D cd X) (hX : lkOK X) (hs : X.1 ≤ 999) (hn : I 157 1 = iI nt) (hn0 : 0 ≤ nt ∧ nt ≤ 1600) (hT : ∀ j : Int, 0 ≤ j → j < 1600 → I 158 j.toNat = iI (T j)) (hTr : ∀ j : Int, 0 ≤ T j ∧ T j ≤ 255) (hth : I 157 61 = aBo false) (hd : 7 ≤ d) (k1 : outC D X nt → ∀ (I2 : aFI) (L2 : aFL), I2 157 1 = iI 0 → I2 157 67 = iI (olF D T X.2.1 X.2.2.1 (nt / 2).toNat 1000).2.1 → I2 157 68 = iI (olF D T X.2.1 X.2.2.1 (nt / 2).toNat 1000).2.2 → frG POF I I2 → frG LK L L2 → Q (some (.int (iI (olF D T X.2.1 X.2.2.1 (nt / 2).toNat 1000).1))) I2 L2 (aR sh su)) (k2 : ¬ outC D X nt → Q (some (.int (iI (-1)))) (aUp (aUp I 157 1 (iI 0)) 159 1 (iI ((I 159 1).toInt + 1))) L (aR sh su)) : aWp none d 206 0 [.ref 157, .null, .null, .null, .null] [] I L (aR sh su) Q := by
  have hdd := hS.n
  have hx1 := hX.1
  have hx2 := hX.2.1
  have hx3 := hX.2.2.1
  have hx4 := hX.2.2.2.1
  refine w_aload c_206_0 rfl ?_
  refine z_getZ c_206_1 sp_157 (by decide) rfl hn ?_
  refine w_istore c_206_4 (Nat.le_of_ble_eq_true rfl) rfl ?_
  refine w_aload c_206_5 rfl ?_
  refine z_push c_206_6 ?_
  refine z_putZ c_206_7 sp_157 (by decide) rfl ?_
  refine upG_k (frG.rf (P := fun q k => q = 157 ∧ k = 1) (I := I)) ⟨rfl, rfl⟩ (fun I1 hi1 hF1 => ?_)
  have hR1 : rS I1 D cd X := ⟨hR.1.fr (fun q k z1 z2 => hF1 q k (by omega)) (hF1 157 56 (by decide)), hR.2.fr (fun k z => hF1 202 k (by omega))⟩
  refine w_aload c_206_10 rfl ?_
  refine z_getB c_206_11 sp_157 (by decide) rfl hR1.1.1.2.2.2.1 ?_
  refine b_if_eq c_206_14 (fun h1_ => ?_) (fun h1_ => ?_)
  · refine w_aload c_206_51 rfl ?_
    refine z_push c_206_52 ?_
    refine wc_205 c_206_53 sp_157 (Nat.le_of_ble_eq_true rfl) (by omega) ?_
    refine t_refuses (by omega) ?_
    refine r_i ?_
    refine z_ret c_206_56 rfl ?_
    subst hi1
    exact k2 (fun z => by first | exact Bool.noConfusion ((decide_eq_true z.1.1).symm.trans (show _ = false by assumption)) | (have z1 := z.1.2; have z2 := z.2.1; have z3 := z.2.2.1; have z4 := z.2.2.2; omega))
  · refine w_iload c_206_17 rfl ?_
    refine z_if_eq c_206_18 (by first | exact aRg_of _ | (unfold aRg; omega)) (fun h2_ => ?_) (fun h2_ => ?_)
    · refine w_aload c_206_51 rfl ?_
      refine z_push c_206_52 ?_
      refine wc_205 c_206_53 sp_157 (Nat.le_of_ble_eq_true rfl) (by omega) ?_
      refine t_refuses (by omega) ?_
      refine r_i ?_
      refine z_ret c_206_56 rfl ?_
      subst hi1
      exact k2 (fun z => by first | exact Bool.noConfusion ((decide_eq_true z.1.1).symm.trans (show _ = false by assumption)) | (have z1 := z.1.2; have z2 := z.2.1; have z3 := z.2.2.1; have z4 := z.2.2.2; omega))
    · refine w_iload c_206_21 rfl ?_
      refine z_push c_206_22 ?_
      refine z_irem c_206_23 (by omega) (by omega) ?_
      refine z_if_ne c_206_24 (by first | exact aRg_of _ | (unfold aRg; omega)) (fun h3_ => ?_) (fun h3_ => ?_)
      · refine w_aload c_206_51 rfl ?_
        refine z_push c_206_52 ?_
        refine wc_205 c_206_53 sp_157 (Nat.le_of_ble_eq_true rfl) (by omega) ?_
        refine t_refuses (by omega) ?_
        refine r_i ?_
        refine z_ret c_206_56 rfl ?_
        subst hi1
        exact k2 (fun z => by first | exact Bool.noConfusion ((decide_eq_true z.1.1).symm.trans (show _ = false by assumption)) | (have z1 := z.1.2; have z2 := z.2.1; have z3 := z.2.2.1; have z4 := z.2.2.2; omega))
      · refine w_iload c_206_27 rfl ?_
        refine z_push c_206_28 ?_
        refine z_idiv c_206_29 (by omega) (by omega) ?_
        refine z_push c_206_30 ?_
        refine z_ic_gt c_206_32 (by first | exact aRg_of _ | (unfold aRg; omega)) (by first | exact aRg_of _ | (unfold aRg; omega)) (fun h4_ => ?_) (fun h4_ => ?_)
        · refine w_aload c_206_51 rfl ?_
          refine z_push c_206_52 ?_
          refine wc_205 c_206_53 sp_157 (Nat.le_of_ble_eq_true rfl) (by omega) ?_
          refine t_refuses (by omega) ?_
          refine r_i ?_
          refine z_ret c_206_56 rfl ?_
          subst hi1
          exact k2 (fun z => by first | exact Bool.noConfusion ((decide_eq_true z.1.1).symm.trans (show _ = false by assumption)) | (have z1 := z.1.2; have z2 := z.2.1; have z3 := z.2.2.1; have z4 := z.2.2.2; omega))
        · refine w_aload c_206_35 rfl ?_
          refine w_getR c_206_36 sp_157 (by decide) rfl pr_157_58 ?_
          refine z_push c_206_39 ?_
          refine z_iaload c_206_40 sp_202 (by omega) (by first | decide | omega) hR1.2.1 ?_
          refine w_iload c_206_41 rfl ?_
          refine z_push c_206_42 ?_
          refine z_idiv c_206_43 (by omega) (by omega) ?_
          refine z_iadd c_206_44 ?_
          refine z_push c_206_45 ?_
          refine z_ic_le c_206_48 (by first | exact aRg_of _ | (unfold aRg; omega)) (by first | exact aRg_of _ | (unfold aRg; omega)) (fun h5_ => ?_) (fun h5_ => ?_)
          · refine z_push c_206_57 ?_
            refine w_istore c_206_58 (Nat.le_of_ble_eq_true rfl) rfl ?_
            have hcc : outC D X nt := ⟨⟨of_decide_eq_true (by assumption), by omega⟩, by omega, by omega, by omega⟩
            have hmn : nt / 2 = (((nt / 2).toNat : Nat) : Int) := by omega
            refine t_outflows_1 (T := T) hmn hn0 (by omega) (fun j z1 z2 => by rw [hF1 158 _ (by omega)]; exact hT j z1 z2) hTr _ 0 I1 (Nat.lt_succ_self _) (by omega) (fun j z1 z2 => absurd z2 (by omega)) frG.rf (fun I2 hrw hF2 => ?_)
            have hR2 : rS I2 D cd X := ⟨hR1.1.fr (fun q k z1 z2 => hF2 q k (by omega)) (hF2 157 56 (by decide)), hR1.2.fr (fun k z => hF2 202 k (by omega))⟩
            refine z_push c_206_101 ?_
            refine w_istore c_206_102 (Nat.le_of_ble_eq_true rfl) rfl ?_
            refine w_aload c_206_103 rfl ?_
            refine z_push c_206_104 ?_
            refine z_putZ c_206_105 sp_157 (by decide) rfl ?_
            refine upG_k (frG.rf (P := PF2) (I := I2)) ⟨rfl, Or.inl rfl⟩ (fun I3 hi3 hF3 => ?_)
            have hle3 : I3 157 67 = iI (-1) := by rw [hi3]; exact up_eq
            clear hi3
            refine w_aload c_206_108 rfl ?_
            refine z_push c_206_109 ?_
            refine z_putZ c_206_110 sp_157 (by decide) rfl ?_
            refine upG_k hF3 ⟨rfl, Or.inr rfl⟩ (fun I3 hi3 hF3 => ?_)
            have hle3 := (congrFun (congrFun hi3 157) 67).trans ((up_ne (by omega)).trans hle3)
            have hmo3 : I3 157 68 = iI (-1) := by rw [hi3]; exact up_eq
            clear hi3
            have hR3 : rS I3 D cd X := ⟨hR2.1.fr (fun q k z1 z2 => hF3 q k (by omega)) (hF3 157 56 (by decide)), hR2.2.fr (fun k z => hF3 202 k (by omega))⟩
            refine w_aload c_206_113 rfl ?_
            refine wc_177 c_206_114 sp_157 (Nat.le_of_ble_eq_true rfl) (by omega) ?_
            refine t_putsAside (fun I4 hp1 hp2 hp3 => ?_)
            have hR4 := hR3.aside hp3
            have hth3 : I3 157 61 = aBo false := by rw [hF3 157 61 (by decide), hF2 157 61 (by decide), hF1 157 61 (by decide)]; exact hth
            refine r_v ?_
            refine z_push c_206_117 ?_
            refine w_istore c_206_118 (Nat.le_of_ble_eq_true rfl) rfl ?_
            refine t_outflows_2 (T := T) hS hR4 hX (fun k hk => (hp1 k hk).trans (hp3 202 k (by omega)).symm) hmn hn0 (by omega) (by omega) (fun j z1 z2 => by rw [hp3 206 _ (by omega), hF3 206 _ (by omega)]; exact hrw j z1 z2) hTr (by omega) _ 0 I4 L .null (Nat.lt_succ_self _) (by omega) hR4 ((hp3 157 67 (by decide)).trans hle3) ((hp3 157 68 (by decide)).trans hmo3) (fun j z1 z2 => by rw [hp3 206 _ (by omega), hF3 206 _ (by omega)]; exact hrw j z1 z2) (fun k hk => rfl) frG.rf frG.rf (fun I5 L5 v4 hle5 hmo5 hF5 hG5 => ?_)
            have hol := olF_rg (D := D) (T := T) (b := X.2.1) (g := X.2.2.1) (m := (nt / 2).toNat) 1000
            refine w_aload c_206_175 rfl ?_
            refine wc_178 c_206_176 sp_157 (Nat.le_of_ble_eq_true rfl) (by omega) ?_
            refine t_takesBack (fun I6 hb1 hb2 hb3 => ?_)
            refine r_v ?_
            refine w_iload c_206_179 rfl ?_
            refine z_ret c_206_180 rfl ?_
            refine k1 hcc _ _ ?_ ((hb3 157 67 (by decide)).trans hle5) ((hb3 157 68 (by decide)).trans hmo5) ((hF1.mono (P2 := POF) (fun q k z => Or.inr ⟨z.1, Or.inl z.2⟩)).tr ((hF2.mono (P2 := POF) (fun q k z => Or.inl (Or.inr (Or.inr (Or.inl z))))).tr ((hF3.mono (P2 := POF) (fun q k z => Or.inr ⟨z.1, Or.inr z.2⟩)).tr (back_fr2 hp3 hp1 hF5 hb3 hb1 hth3 hb2)))) hG5
            rw [hb3 157 1 (by decide), hF5 157 1 (by decide), hp3 157 1 (by decide), hF3 157 1 (by decide), hF2 157 1 (by decide), hi1]; exact up_eq
          · refine w_aload c_206_51 rfl ?_
            refine z_push c_206_52 ?_
            refine wc_205 c_206_53 sp_157 (Nat.le_of_ble_eq_true rfl) (by omega) ?_
            refine t_refuses (by omega) ?_
            refine r_i ?_
            refine z_ret c_206_56 rfl ?_
            subst hi1
            exact k2 (fun z => by first | exact Bool.noConfusion ((decide_eq_true z.1.1).symm.trans (show _ = false by assumption)) | (have z1 := z.1.2; have z2 := z.2.1; have z3 := z.2.2.1; have z4 := z.2.2.2; omega))

abbrev PCX : Nat → Nat → Prop := fun q k => (q = 43 ∨ (39 ≤ q ∧ q ≤ 41)) ∨ (q = 0 ∧ (k = 14 ∨ k = 15))
abbrev PCY : Nat → Nat → Prop := fun q k => (q = 43 ∨ (39 ≤ q ∧ q ≤ 41)) ∨ (q = 0 ∧ (k = 1 ∨ k = 14 ∨ k = 15))
theorem frP.cx {I I2 : aFI} (h : frP (PL 39) I I2) : frG PCX I I2 := fun q k hq => h q k (fun z => hq (Or.inl z))
set_option maxHeartbeats 2000000 in
theorem tc_outflows_1 {d : Nat} {I0 : aFI} {L : aFL} {Q : aPo} {sh : Nat} {su : Option Nat} {D : Nat → Int → Int} {cd : Nat → Option (List Int)} {X : Lk} {T : Int → Int} {kc nt : Int} {m : Nat} (hsh : sh = 8 ∨ sh = 22) (hS : wfS D cd) (hW0 : cW I0 sh D cd) (hL0 : lkX I0 36 kc X) (hX : lkOK X) (hm2 : m ≤ 10) (hT : ∀ j : Int, 0 ≤ j → j < 1600 → I0 1 j.toNat = iI (T j)) (hTr : ∀ j : Int, 0 ≤ T j ∧ T j ≤ 255) (hd : 5 ≤ d) : ∀ (n : Nat) (f : Nat) (I : aFI), 1001 - f < n → (f ≤ 1000) → (I 0 14 = iI (olF D T X.2.1 X.2.2.1 m f).2.1) → (I 0 15 = iI (olF D T X.2.1 X.2.2.1 m f).2.2) → (frG PCX I0 I) → (∀ I2 : aFI, I2 0 14 = iI (olF D T X.2.1 X.2.2.1 m 1000).2.1 → I2 0 15 = iI (olF D T X.2.1 X.2.2.1 m 1000).2.2 → frG PCX I0 I2 → aWp none d 94 123 [.ref 0, .int (iI nt), .int (iI (m : Int)), .int (iI (olF D T X.2.1 X.2.2.1 m 1000).1), .int (iI ((1000 : Nat) : Int))] [] I2 L (aR sh su) Q) → aWp none d 94 72 [.ref 0, .int (iI nt), .int (iI (m : Int)), .int (iI (olF D T X.2.1 X.2.2.1 m f).1), .int (iI (f : Int))] [] I L (aR sh su) Q := by
  intro n
  induction n with
  | zero => intro f I h; omega
  | succ n ih =>
    intro f I hn2 h1 hle hmo hF k
    have hol := olF_rg (D := D) (T := T) (b := X.2.1) (g := X.2.2.1) (m := m) f
    have hst : olF D T X.2.1 X.2.2.1 m (f + 1) = if okF D T f X.2.1 X.2.2.1 m = true then ((olF D T X.2.1 X.2.2.1 m f).1 + 1, (if (olF D T X.2.1 X.2.2.1 m f).2.1 = -1 then (f : Int) else (olF D T X.2.1 X.2.2.1 m f).2.1), (f : Int)) else olF D T X.2.1 X.2.2.1 m f := rfl
    refine w_iload c_94_72 rfl ?_
    refine z_push c_94_74 ?_
    refine z_ic_gt c_94_77 (by first | exact aRg_of _ | (unfold aRg; omega)) (by first | exact aRg_of _ | (unfold aRg; omega)) (fun h1_ => ?_) (fun h1_ => ?_)
    · have e9 : f = 1000 := by omega
      subst e9
      exact k I hle hmo hF
    · refine w_aload c_94_80 rfl ?_
      refine w_iload c_94_81 rfl ?_
      refine w_iload c_94_83 rfl ?_
      refine wc_116 c_94_84 sp_0 (Nat.le_of_ble_eq_true rfl) (by omega) ?_
      refine tc_tells (T := T) (kc := kc) hsh hS (hW0.fr (fun p k z1 z2 => hF p k (by omega))) hX (by omega) hm2 (fun j z1 z2 => by rw [hF 1 _ (by omega)]; exact hT j z1 z2) hTr (by omega) (hL0.fr (fun p k z1 z2 => hF p k (by omega))) (fun I2 hf => ?_)
      have hle2 : I2 0 14 = iI (olF D T X.2.1 X.2.2.1 m f).2.1 := (hf 0 14 (by omega)).trans hle
      have hmo2 : I2 0 15 = iI (olF D T X.2.1 X.2.2.1 m f).2.2 := (hf 0 15 (by omega)).trans hmo
      have hF2 : frG PCX I0 I2 := hF.tr (frP.cx hf)
      refine r_i ?_
      refine b_if_eq c_94_87 (fun h2_ => ?_) (fun h2_ => ?_)
      · refine z_iinc c_94_117 rfl rfl ?_
        refine w_goto c_94_120 ?_
        rw [if_neg (by simp only [*]; exact Bool.noConfusion)] at hst
        have hA := ih (f + 1) I2 (by omega) (by omega) (by rw [hst]; exact hle2) (by rw [hst]; exact hmo2) hF2 k
        rw [hst] at hA
        exact hA
      · refine z_iinc c_94_90 rfl rfl ?_
        refine w_aload c_94_93 rfl ?_
        refine w_iload c_94_94 rfl ?_
        refine z_push c_94_95 ?_
        refine z_ic_ne c_94_96 (by first | exact aRg_of _ | (unfold aRg; omega)) (by first | exact aRg_of _ | (unfold aRg; omega)) (fun h3_ => ?_) (fun h3_ => ?_)
        · refine w_aload c_94_104 rfl ?_
          refine z_getZ c_94_105 sp_0 (by decide) rfl hle2 ?_
          refine z_putZ c_94_108 sp_0 (by decide) rfl ?_
          refine upG_k hF2 (Or.inr ⟨rfl, by decide⟩) (fun I3 hi hF2 => ?_)
          have hle3 : I3 0 14 = iI (if (olF D T X.2.1 X.2.2.1 m f).2.1 = -1 then (f : Int) else (olF D T X.2.1 X.2.2.1 m f).2.1) := by rw [hi]; refine up_eq.trans ?_; first | rw [if_pos (by omega)] | rw [if_neg (by omega)]
          clear hi
          refine w_aload c_94_111 rfl ?_
          refine w_iload c_94_112 rfl ?_
          refine z_putZ c_94_114 sp_0 (by decide) rfl ?_
          refine upG_k hF2 (Or.inr ⟨rfl, by decide⟩) (fun I3 hi hF2 => ?_)
          have hle3 := (congrFun (congrFun hi 0) 14).trans ((up_ne (by omega)).trans hle3)
          have hmo3 : I3 0 15 = iI (f : Int) := by rw [hi]; exact up_eq
          clear hi
          refine z_iinc c_94_117 rfl rfl ?_
          refine w_goto c_94_120 ?_
          rw [if_pos (by assumption)] at hst
          have hA := ih (f + 1) I3 (by omega) (by omega) (by rw [hst]; exact hle3) (by rw [hst]; exact hmo3) hF2 k
          rw [hst] at hA
          exact hA
        · refine w_iload c_94_99 rfl ?_
          refine w_goto c_94_101 ?_
          refine z_putZ c_94_108 sp_0 (by decide) rfl ?_
          refine upG_k hF2 (Or.inr ⟨rfl, by decide⟩) (fun I3 hi hF2 => ?_)
          have hle3 : I3 0 14 = iI (if (olF D T X.2.1 X.2.2.1 m f).2.1 = -1 then (f : Int) else (olF D T X.2.1 X.2.2.1 m f).2.1) := by rw [hi]; refine up_eq.trans ?_; first | rw [if_pos (by omega)] | rw [if_neg (by omega)]
          clear hi
          refine w_aload c_94_111 rfl ?_
          refine w_iload c_94_112 rfl ?_
          refine z_putZ c_94_114 sp_0 (by decide) rfl ?_
          refine upG_k hF2 (Or.inr ⟨rfl, by decide⟩) (fun I3 hi hF2 => ?_)
          have hle3 := (congrFun (congrFun hi 0) 14).trans ((up_ne (by omega)).trans hle3)
          have hmo3 : I3 0 15 = iI (f : Int) := by rw [hi]; exact up_eq
          clear hi
          refine z_iinc c_94_117 rfl rfl ?_
          refine w_goto c_94_120 ?_
          rw [if_pos (by assumption)] at hst
          have hA := ih (f + 1) I3 (by omega) (by omega) (by rw [hst]; exact hle3) (by rw [hst]; exact hmo3) hF2 k
          rw [hst] at hA
          exact hA

set_option maxHeartbeats 1000000 in
theorem tc_outflows {d : Nat} {I : aFI} {L : aFL} {Q : aPo} {sh : Nat} {su : Option Nat} {D : Nat → Int → Int} {cd : Nat → Option (List Int)} {X : Lk} {kc : Int} (hsh : sh = 8 ∨ sh = 22) (hS : wfS D cd) (hW : cW I sh D cd) (hL : lkX I 36 kc X) (hX : lkOK X) {T : Int → Int} {nt : Int} (hs : X.1 ≤ 999) (hn : I 0 1 = iI nt) (hn0 : 0 ≤ nt ∧ nt ≤ 1600) (hT : ∀ j : Int, 0 ≤ j → j < 1600 → I 1 j.toNat = iI (T j)) (hTr : ∀ j : Int, 0 ≤ T j ∧ T j ≤ 255) (hd : 6 ≤ d) (k1 : outC D X nt → ∀ I2 : aFI, I2 0 1 = iI 0 → I2 0 14 = iI (olF D T X.2.1 X.2.2.1 (nt / 2).toNat 1000).2.1 → I2 0 15 = iI (olF D T X.2.1 X.2.2.1 (nt / 2).toNat 1000).2.2 → frG PCY I I2 → Q (some (.int (iI (olF D T X.2.1 X.2.2.1 (nt / 2).toNat 1000).1))) I2 L (aR sh su)) (k2 : ¬ outC D X nt → Q (some (.int (iI (-1)))) (aUp (aUp I 0 1 (iI 0)) 156 1 (iI ((I 156 1).toInt + 1))) L (aR sh su)) : aWp none d 94 0 [.ref 0, .null, .null, .null, .null] [] I L (aR sh su) Q := by
  have hdd := hS.n
  have hx1 := hX.1
  have hx2 := hX.2.1
  have hx3 := hX.2.2.1
  have hx4 := hX.2.2.2.1
  refine w_aload c_94_0 rfl ?_
  refine wc_110 c_94_1 sp_0 (Nat.le_of_ble_eq_true rfl) (by omega) ?_
  refine tc_takeTape hn ?_
  have hF1 : frG PCY I (aUp I 0 1 (iI 0)) := frG.rf.up (Or.inr ⟨rfl, Or.inl rfl⟩)
  have hz1 : aUp I 0 1 (iI 0) 0 1 = iI 0 := up_eq
  obtain ⟨I1, hi1⟩ : ∃ I1 : aFI, I1 = aUp I 0 1 (iI 0) := ⟨_, rfl⟩
  rw [← hi1] at hF1 hz1 ⊢
  have hW1 : cW I1 sh D cd := hW.fr (fun p k z1 z2 => hF1 p k (by omega))
  have hL1 : lkX I1 36 kc X := hL.fr (fun p k z1 z2 => hF1 p k (by omega))
  refine r_i ?_
  refine w_istore c_94_4 (Nat.le_of_ble_eq_true rfl) rfl ?_
  refine w_iload c_94_5 rfl ?_
  refine z_push c_94_6 ?_
  refine z_idiv c_94_7 (by omega) (by omega) ?_
  refine w_istore c_94_8 (Nat.le_of_ble_eq_true rfl) rfl ?_
  refine w_aload c_94_9 rfl ?_
  refine w_getR c_94_10 sp_0 (by decide) rfl pr_0_3 ?_
  refine z_getB c_94_13 (sps_0 hsh) (by decide) rfl hW1.1.1 ?_
  refine b_if_eq c_94_16 (fun h1_ => ?_) (fun h1_ => ?_)
  · refine w_aload c_94_51 rfl ?_
    refine z_push c_94_52 ?_
    refine wc_108 c_94_53 sp_0 (Nat.le_of_ble_eq_true rfl) (by omega) ?_
    refine tc_refuse (by omega) ?_
    refine r_i ?_
    refine z_ret c_94_56 rfl ?_
    subst hi1
    exact k2 (fun z => by first | exact Bool.noConfusion ((decide_eq_true z.1.1).symm.trans (show _ = false by assumption)) | (have z1 := z.1.2; have z2 := z.2.1; have z3 := z.2.2.1; have z4 := z.2.2.2; omega))
  · refine w_iload c_94_19 rfl ?_
    refine z_push c_94_20 ?_
    refine z_irem c_94_21 (by omega) (by omega) ?_
    refine z_if_ne c_94_22 (by first | exact aRg_of _ | (unfold aRg; omega)) (fun h2_ => ?_) (fun h2_ => ?_)
    · refine w_aload c_94_51 rfl ?_
      refine z_push c_94_52 ?_
      refine wc_108 c_94_53 sp_0 (Nat.le_of_ble_eq_true rfl) (by omega) ?_
      refine tc_refuse (by omega) ?_
      refine r_i ?_
      refine z_ret c_94_56 rfl ?_
      subst hi1
      exact k2 (fun z => by first | exact Bool.noConfusion ((decide_eq_true z.1.1).symm.trans (show _ = false by assumption)) | (have z1 := z.1.2; have z2 := z.2.1; have z3 := z.2.2.1; have z4 := z.2.2.2; omega))
    · refine w_iload c_94_25 rfl ?_
      refine z_push c_94_26 ?_
      refine z_ic_lt c_94_27 (by first | exact aRg_of _ | (unfold aRg; omega)) (by first | exact aRg_of _ | (unfold aRg; omega)) (fun h3_ => ?_) (fun h3_ => ?_)
      · refine w_aload c_94_51 rfl ?_
        refine z_push c_94_52 ?_
        refine wc_108 c_94_53 sp_0 (Nat.le_of_ble_eq_true rfl) (by omega) ?_
        refine tc_refuse (by omega) ?_
        refine r_i ?_
        refine z_ret c_94_56 rfl ?_
        subst hi1
        exact k2 (fun z => by first | exact Bool.noConfusion ((decide_eq_true z.1.1).symm.trans (show _ = false by assumption)) | (have z1 := z.1.2; have z2 := z.2.1; have z3 := z.2.2.1; have z4 := z.2.2.2; omega))
      · refine w_iload c_94_30 rfl ?_
        refine z_push c_94_31 ?_
        refine z_ic_gt c_94_33 (by first | exact aRg_of _ | (unfold aRg; omega)) (by first | exact aRg_of _ | (unfold aRg; omega)) (fun h4_ => ?_) (fun h4_ => ?_)
        · refine w_aload c_94_51 rfl ?_
          refine z_push c_94_52 ?_
          refine wc_108 c_94_53 sp_0 (Nat.le_of_ble_eq_true rfl) (by omega) ?_
          refine tc_refuse (by omega) ?_
          refine r_i ?_
          refine z_ret c_94_56 rfl ?_
          subst hi1
          exact k2 (fun z => by first | exact Bool.noConfusion ((decide_eq_true z.1.1).symm.trans (show _ = false by assumption)) | (have z1 := z.1.2; have z2 := z.2.1; have z3 := z.2.2.1; have z4 := z.2.2.2; omega))
        · refine w_aload c_94_36 rfl ?_
          refine w_getR c_94_37 sp_0 (by decide) rfl pr_0_5 ?_
          refine z_getZ c_94_40 sp_36 (by decide) rfl hL1.1 ?_
          refine w_iload c_94_43 rfl ?_
          refine z_iadd c_94_44 ?_
          refine z_push c_94_45 ?_
          refine z_ic_le c_94_48 (by first | exact aRg_of _ | (unfold aRg; omega)) (by first | exact aRg_of _ | (unfold aRg; omega)) (fun h5_ => ?_) (fun h5_ => ?_)
          · refine z_push c_94_57 ?_
            refine w_istore c_94_58 (Nat.le_of_ble_eq_true rfl) rfl ?_
            refine w_aload c_94_59 rfl ?_
            refine z_push c_94_60 ?_
            refine z_putZ c_94_61 sp_0 (by decide) rfl ?_
            refine upG_k (frG.rf (P := PCX) (I := I1)) (Or.inr ⟨rfl, Or.inl rfl⟩) (fun I3 hi3 hF3 => ?_)
            have hle3 : I3 0 14 = iI (-1) := by rw [hi3]; exact up_eq
            clear hi3
            refine w_aload c_94_64 rfl ?_
            refine z_push c_94_65 ?_
            refine z_putZ c_94_66 sp_0 (by decide) rfl ?_
            refine upG_k hF3 (Or.inr ⟨rfl, Or.inr rfl⟩) (fun I3 hi3 hF3 => ?_)
            have hle3 := (congrFun (congrFun hi3 0) 14).trans ((up_ne (by omega)).trans hle3)
            have hmo3 : I3 0 15 = iI (-1) := by rw [hi3]; exact up_eq
            clear hi3
            refine z_push c_94_69 ?_
            refine w_istore c_94_70 (Nat.le_of_ble_eq_true rfl) rfl ?_
            have hcc : outC D X nt := ⟨⟨of_decide_eq_true (by assumption), by omega⟩, by omega, by omega, by omega⟩
            have hmn : nt / 2 = (((nt / 2).toNat : Nat) : Int) := by omega
            suffices hA : aWp none d 94 72 [.ref 0, .int (iI nt), .int (iI (((nt / 2).toNat : Nat) : Int)), .int (iI (olF D T X.2.1 X.2.2.1 (nt / 2).toNat 0).1), .int (iI ((0 : Nat) : Int))] [] I3 L (aR sh su) Q by rw [← hmn] at hA; exact hA
            refine tc_outflows_1 (T := T) (kc := kc) hsh hS (hW1.fr (fun p k z1 z2 => hF3 p k (by omega))) (hL1.fr (fun p k z1 z2 => hF3 p k (by omega))) hX (by omega) (fun j z1 z2 => by rw [hF3 1 _ (by omega), hF1 1 _ (by omega)]; exact hT j z1 z2) hTr (by omega) _ 0 I3 (Nat.lt_succ_self _) (by omega) hle3 hmo3 frG.rf (fun I5 hle5 hmo5 hF5 => ?_)
            have hF5 := hF3.tr hF5
            have hol := olF_rg (D := D) (T := T) (b := X.2.1) (g := X.2.2.1) (m := (nt / 2).toNat) 1000
            refine w_iload c_94_123 rfl ?_
            refine z_ret c_94_124 rfl ?_
            refine k1 hcc I5 ?_ hle5 hmo5 (hF1.tr (hF5.mono (fun q k z => by omega)))
            rw [hF5 0 1 (by decide)]; exact hz1
          · refine w_aload c_94_51 rfl ?_
            refine z_push c_94_52 ?_
            refine wc_108 c_94_53 sp_0 (Nat.le_of_ble_eq_true rfl) (by omega) ?_
            refine tc_refuse (by omega) ?_
            refine r_i ?_
            refine z_ret c_94_56 rfl ?_
            subst hi1
            exact k2 (fun z => by first | exact Bool.noConfusion ((decide_eq_true z.1.1).symm.trans (show _ = false by assumption)) | (have z1 := z.1.2; have z2 := z.2.1; have z3 := z.2.2.1; have z4 := z.2.2.2; omega))

