/-! the reference: a name told, a sort full (p9f.py) -/
set_option maxHeartbeats 1000000 in
theorem t_isFull {d : Nat} {I : aFI} {L : aFL} {Q : aPo} {sh : Nat} {su : Option Nat} {a en bp np nm : Int} {c : Nat → Int} {N : Nat → Int → Int} {k : Nat} {mx pl : Int} (hN : tN I L c N) (hk : k < 3) (hm : 0 ≤ mx ∧ mx < 100) (hpl : aRg pl) (hd : 1 ≤ d) (k1 : c k = mx → Q (some (.int (aBo true))) (oP I a en 5 pl np nm) L (aR sh su)) (k2 : ¬ c k = mx → Q (some (.int (aBo false))) (oP I a en 0 bp np nm) L (aR sh su)) : aWp none d 146 0 [.ref 157, .int (iI (k : Int)), .int (iI mx), .int (iI pl)] [] (oP I a en 0 bp np nm) L (aR sh su) Q := by
  have hc := (hN k hk).2.1
  refine w_aload c_146_0 rfl ?_
  refine z_getZ c_146_1 sp_157 (by decide) rfl rfl ?_
  refine z_if_ne c_146_4 (by first | exact aRg_of _ | (unfold aRg; omega)) (fun h1_ => ?_) (fun h1_ => ?_)
  · refine w_aload c_146_23 rfl ?_
    refine z_getZ c_146_24 sp_157 (by decide) rfl rfl ?_
    refine z_if_eq c_146_27 (by first | exact aRg_of _ | (unfold aRg; omega)) (fun h2_ => ?_) (fun h2_ => ?_)
    · refine z_push c_146_34 ?_
      refine z_ret0 c_146_35 rfl ?_
      first | exact k1 (by omega) | exact k2 (by omega) | omega | (first | exact absurd (show (5 : Int) = 0 from h5_) (by decide) | exact absurd rfl (show ¬ (0 : Int) = 0 from h2_) | exact absurd rfl (show ¬ (0 : Int) = 0 from h4_))
    · refine z_push c_146_30 ?_
      refine w_goto c_146_31 ?_
      refine z_ret1 c_146_35 rfl ?_
      first | exact k1 (by omega) | exact k2 (by omega) | omega | (first | exact absurd (show (5 : Int) = 0 from h5_) (by decide) | exact absurd rfl (show ¬ (0 : Int) = 0 from h2_) | exact absurd rfl (show ¬ (0 : Int) = 0 from h4_))
  · refine w_aload c_146_7 rfl ?_
    refine w_getR c_146_8 sp_157 (by decide) rfl pr_157_44 ?_
    refine w_iload c_146_11 rfl ?_
    refine z_iaload c_146_12 sp_192 (by omega) (by first | decide | omega) (hN.oP.n hk rfl) ?_
    refine w_iload c_146_13 rfl ?_
    refine z_ic_ne c_146_14 (by first | exact aRg_of _ | (unfold aRg; omega)) (by first | exact aRg_of _ | (unfold aRg; omega)) (fun h3_ => ?_) (fun h3_ => ?_)
    · refine w_aload c_146_23 rfl ?_
      refine z_getZ c_146_24 sp_157 (by decide) rfl rfl ?_
      refine z_if_eq c_146_27 (by first | exact aRg_of _ | (unfold aRg; omega)) (fun h4_ => ?_) (fun h4_ => ?_)
      · refine z_push c_146_34 ?_
        refine z_ret0 c_146_35 rfl ?_
        first | exact k1 (by omega) | exact k2 (by omega) | omega | (first | exact absurd (show (5 : Int) = 0 from h5_) (by decide) | exact absurd rfl (show ¬ (0 : Int) = 0 from h2_) | exact absurd rfl (show ¬ (0 : Int) = 0 from h4_))
      · refine z_push c_146_30 ?_
        refine w_goto c_146_31 ?_
        refine z_ret1 c_146_35 rfl ?_
        first | exact k1 (by omega) | exact k2 (by omega) | omega | (first | exact absurd (show (5 : Int) = 0 from h5_) (by decide) | exact absurd rfl (show ¬ (0 : Int) = 0 from h2_) | exact absurd rfl (show ¬ (0 : Int) = 0 from h4_))
    · refine w_aload c_146_17 rfl ?_
      refine z_push c_146_18 ?_
      refine w_iload c_146_19 rfl ?_
      refine wc_133 c_146_20 sp_157 (Nat.le_of_ble_eq_true rfl) (by omega) ?_
      refine t_fail (by unfold aRg; omega) (fun z => absurd rfl z) (fun _ => ?_)
      refine r_v ?_
      refine w_aload c_146_23 rfl ?_
      refine z_getZ c_146_24 sp_157 (by decide) rfl rfl ?_
      refine z_if_eq c_146_27 (by first | exact aRg_of _ | (unfold aRg; omega)) (fun h5_ => ?_) (fun h5_ => ?_)
      · refine z_push c_146_34 ?_
        refine z_ret0 c_146_35 rfl ?_
        first | exact k1 (by omega) | exact k2 (by omega) | omega | (first | exact absurd (show (5 : Int) = 0 from h5_) (by decide) | exact absurd rfl (show ¬ (0 : Int) = 0 from h2_) | exact absurd rfl (show ¬ (0 : Int) = 0 from h4_))
      · refine z_push c_146_30 ?_
        refine w_goto c_146_31 ?_
        refine z_ret1 c_146_35 rfl ?_
        first | exact k1 (by omega) | exact k2 (by omega) | omega | (first | exact absurd (show (5 : Int) = 0 from h5_) (by decide) | exact absurd rfl (show ¬ (0 : Int) = 0 from h2_) | exact absurd rfl (show ¬ (0 : Int) = 0 from h4_))

abbrev PAd (k : Nat) (e : Nat) : Nat → Nat → Prop := fun q p => (q = 192 ∧ p = k) ∨ (q = 193 ∧ p = e)
theorem tN.add {I I2 : aFI} {L L2 : aFL} {c : Nat → Int} {N : Nat → Int → Int} {k : Nat} {x : Int} (h : tN I L c N) (hk : k < 3) (hc : c k < 8) (hx : 0 ≤ x ∧ x < 1000000000) (h2 : L2 = aUp L 193 (8 * k + c k).toNat (lI x)) (h1 : ∀ p : Nat, ¬ p = k → I2 192 p = I 192 p) (h3 : I2 192 k = iI (c k + 1)) : tN I2 L2 (fun p => if p = k then c k + 1 else c p) (fun p i => if p = k ∧ i = c k then x else N p i) := by
  intro p hp
  have hck := (h k hk).2.1
  have hcp := (h p hp).2.1
  by_cases e : p = k
  · subst e
    simp only [if_pos rfl, true_and]
    refine ⟨h3, by omega, fun i h0 h4 => ?_⟩
    by_cases e2 : i = c p
    · subst e2; rw [if_pos rfl, h2]; exact ⟨upL_eq, hx⟩
    · rw [if_neg e2, h2]
      have := (h p hp).2.2 i h0 (by omega)
      exact ⟨(upL_ne (by omega)).trans this.1, this.2⟩
  · simp only [if_neg e]
    refine ⟨(h1 p e).trans (h p hp).1, hcp, fun i h0 h4 => ?_⟩
    rw [if_neg (fun z => e z.1), h2]
    have := (h p hp).2.2 i h0 h4
    exact ⟨(upL_ne (by omega)).trans this.1, this.2⟩
set_option maxHeartbeats 1000000 in
theorem t_adds {d : Nat} {I : aFI} {L : aFL} {Q : aPo} {sh : Nat} {su : Option Nat} {a en b bp np nm : Int} {c : Nat → Int} {N : Nat → Int → Int} {k : Nat} {x : Int} (hN : tN I L c N) (hk : k < 3) (hcm : c k < 8) (hx : 0 ≤ x ∧ x < 1000000000) (kk : ∀ (I2 : aFI) (L2 : aFL), tN I2 L2 (fun p => if p = k then c k + 1 else c p) (fun p i => if p = k ∧ i = c k then x else N p i) → frG (fun q p => q = 192 ∧ p = k) I I2 → frG (fun q p => q = 193 ∧ p = (8 * (k : Int) + c k).toNat) L L2 → Q (some (.int (iI (c k)))) (oP I2 a en b bp np nm) L2 (aR sh su)) : aWp none d 149 0 [.ref 157, .int (iI (k : Int)), .long (lI x), .null] [] (oP I a en b bp np nm) L (aR sh su) Q := by
  have hc := (hN k hk).2.1
  have hkk : ((k : Int)).toNat = k := by omega
  refine w_aload c_149_0 rfl ?_
  refine w_getR c_149_1 sp_157 (by decide) rfl pr_157_45 ?_
  refine z_push c_149_4 ?_
  refine w_iload c_149_6 rfl ?_
  refine z_imul c_149_7 ?_
  refine w_aload c_149_8 rfl ?_
  refine w_getR c_149_9 sp_157 (by decide) rfl pr_157_44 ?_
  refine w_iload c_149_12 rfl ?_
  refine z_iaload c_149_13 sp_192 (by omega) (by first | decide | omega) (hN.oP.n hk rfl) ?_
  refine z_iadd c_149_14 ?_
  refine w_lload c_149_15 rfl ?_
  refine z_lastore c_149_16 sp_193 (by omega) (by decide) ?_
  refine w_aload c_149_17 rfl ?_
  refine w_getR c_149_18 sp_157 (by decide) rfl pr_157_44 ?_
  refine w_iload c_149_21 rfl ?_
  refine w_dup2 c_149_22 rfl rfl ?_
  refine z_iaload c_149_23 sp_192 (by omega) (by first | decide | omega) (hN.oP.n hk rfl) ?_
  refine z_push c_149_24 ?_
  refine z_iadd c_149_25 ?_
  refine z_iastore c_149_26 sp_192 (by omega) (by decide) ?_
  rw [oP_out (by omega)]
  have HI : aUp I 192 ((k : Int)).toNat (iI (c k + 1)) 192 ((k : Int)).toNat = iI (c k + 1) := up_eq
  refine w_aload c_149_27 rfl ?_
  refine w_getR c_149_28 sp_157 (by decide) rfl pr_157_44 ?_
  refine w_iload c_149_31 rfl ?_
  refine z_iaload c_149_32 sp_192 (by omega) (by first | decide | omega) (show oP _ _ _ _ _ _ _ 192 _ = _ from HI) ?_
  refine z_push c_149_33 ?_
  refine z_isub c_149_34 ?_
  refine z_ret c_149_35 rfl ?_
  rw [show c k + 1 - 1 = c k by omega]
  exact kk _ _ (hN.add (I2 := aUp I 192 ((k : Int)).toNat (iI (c k + 1))) hk hcm hx rfl (fun p hp => up_ne (by omega)) (by rw [hkk]; exact up_eq)) (frG.rf.up ⟨rfl, hkk⟩) (frG.rf.up ⟨rfl, rfl⟩)

