/-! short names: the reference (pa1.py) -/
theorem nm_at {L : aFL} {D : Nat → Int → Int} {cd : Nat → Option (List Int)} (hwf : wfQ D cd) (hN : rNms L D) {k p : Int} (hk : 0 ≤ k ∧ k < D 1 2) (hp : p = 40 + k) : L 193 p.toNat = lI (nmc (nrw D (12 + k)) (zlf (nrw D (12 + k)))) := by
  have h := hN 2 (by decide) k hk.1 hk.2
  have e : nmR D 2 k = nmc (nrw D (12 + k)) 6 := by unfold nmR; rw [rowB_n.2.2]
  rw [e, (hwf.row hk.1 hk.2).z.2.2.2] at h
  rw [hp, show (40 + k).toNat = (24 + 8 * ((2 : Nat) : Int) + k).toNat by omega]; exact h
set_option maxHeartbeats 2000000 in
theorem t_bg_17 {d : Nat} {I : aFI} {L : aFL} {Q : aPo} {sh : Nat} {su : Option Nat} {D : Nat → Int → Int} {cd : Nat → Option (List Int)} {e : Int} {m : Nat} (hwf : wfQ D cd) (hD : rD I D) (hN : rNms L D) (he : 0 ≤ e ∧ e < D 1 2) (hm : 1 ≤ m ∧ m ≤ zlf (nrw D (12 + e))) {u : Int} (hu : u = nmc (nrw D (12 + e)) m) (hd : 2 ≤ d) (k1 : bgZ D e m → Q (some (.int (aBo true))) I L (aR sh su)) (k2 : ¬ bgZ D e m → Q (some (.int (aBo false))) I L (aR sh su)) : ∀ (fz : Nat) (o : Int), (D 1 2 - o).toNat < fz → (0 ≤ o) → (o ≤ D 1 2) → (∀ q : Int, 0 ≤ q → q < o → ¬ bgS D e m q) → aWp none d 208 17 [.ref 157, .int (iI e), .int (iI (m : Int)), .long (lI u), .null, .int (iI o)] [] I L (aR sh su) Q := by
  intro fz
  induction fz with
  | zero => intro o h; omega
  | succ fz ih =>
    intro o hn2 h0 h1 hp
    have hcn := hwf.1.n
    have hez := (hwf.row he.1 he.2).z
    have hel := nmc_b (f := nrw D (12 + e)) (z := m) (by omega) (fun j a b => hez.2.1 j a (by omega))
    refine w_iload c_208_17 rfl ?_
    refine w_aload c_208_19 rfl ?_
    refine wc_161 c_208_20 sp_157 (Nat.le_of_ble_eq_true rfl) (by omega) ?_
    refine t_deedMany hD ?_
    refine r_i ?_
    refine z_ic_ge c_208_23 (by first | exact aRg_of _ | (unfold aRg; omega)) (by first | exact aRg_of _ | (unfold aRg; omega)) (fun h1_ => ?_) (fun h1_ => ?_)
    · refine z_push c_208_76 ?_
      refine z_ret0 c_208_77 rfl ?_
      refine k2 (fun z => ?_)
      obtain ⟨q, a, b⟩ := z
      exact hp q a.1 (by omega) b
    · refine w_iload c_208_26 rfl ?_
      refine w_iload c_208_28 rfl ?_
      refine z_ic_eq c_208_29 (by first | exact aRg_of _ | (unfold aRg; omega)) (by first | exact aRg_of _ | (unfold aRg; omega)) (fun h2_ => ?_) (fun h2_ => ?_)
      · refine z_iinc c_208_70 rfl rfl ?_
        refine w_goto c_208_73 ?_
        refine ih (o + 1) (by omega) (by omega) (by omega) (fun q a b => ?_)
        by_cases z : q = o
        · subst z; exact fun y => absurd (show _ from y.1) (by omega)
        · exact hp q a (by omega)
      · have hoz := (hwf.row h0 (show o < D 1 2 by omega)).z
        have hol := nmc_b (f := nrw D (12 + o)) hoz.1.2 hoz.2.1
        refine w_aload c_208_32 rfl ?_
        refine w_getR c_208_33 sp_157 (by decide) rfl pr_157_45 ?_
        refine z_push c_208_36 ?_
        refine w_iload c_208_38 rfl ?_
        refine z_iadd c_208_40 ?_
        refine z_laload c_208_41 sp_193 (by omega) (by first | decide | omega) (nm_at hwf hN ⟨h0, by omega⟩ rfl) ?_
        refine wc_186 c_208_42 (Nat.le_of_ble_eq_true rfl) (by omega) ?_
        refine t_lettersOf (f := nrw D (12 + o)) rfl hoz.1.2 hoz.2.1 ?_
        refine r_i ?_
        refine w_iload c_208_45 rfl ?_
        refine z_ic_lt c_208_46 (by first | exact aRg_of _ | (unfold aRg; omega)) (by first | exact aRg_of _ | (unfold aRg; omega)) (fun h3_ => ?_) (fun h3_ => ?_)
        · refine z_iinc c_208_70 rfl rfl ?_
          refine w_goto c_208_73 ?_
          refine ih (o + 1) (by omega) (by omega) (by omega) (fun q a b => ?_)
          by_cases z : q = o
          · subst z; exact fun y => by have h9 := (bg_ref hwf he ⟨a, by omega⟩ hm.2).mpr y.2; omega
          · exact hp q a (by omega)
        · refine w_aload c_208_49 rfl ?_
          refine w_getR c_208_50 sp_157 (by decide) rfl pr_157_45 ?_
          refine z_push c_208_53 ?_
          refine w_iload c_208_55 rfl ?_
          refine z_iadd c_208_57 ?_
          refine z_laload c_208_58 sp_193 (by omega) (by first | decide | omega) (nm_at hwf hN ⟨h0, by omega⟩ rfl) ?_
          refine w_iload c_208_59 rfl ?_
          refine wc_187 c_208_60 (Nat.le_of_ble_eq_true rfl) (by omega) ?_
          refine t_firstOf (f := nrw D (12 + o)) (m := m) rfl rfl hoz.1.2 (by omega) hoz.2.1 (by omega) ?_
          have hol2 := nmc_b (f := nrw D (12 + o)) (z := m) (by omega) (fun j a b => hoz.2.1 j a (by omega))
          refine r_l ?_
          refine w_lload c_208_63 rfl ?_
          refine z_lc_ne c_208_64 c_208_65 (by first | exact aRl_of _ | (unfold aRl; omega)) (by first | exact aRl_of _ | (unfold aRl; omega)) (fun h4_ => ?_) (fun h4_ => ?_)
          · refine z_iinc c_208_70 rfl rfl ?_
            refine w_goto c_208_73 ?_
            refine ih (o + 1) (by omega) (by omega) (by omega) (fun q a b => ?_)
            by_cases z : q = o
            · subst z; exact fun y => by have h9 := (bg_ref hwf he ⟨a, by omega⟩ hm.2).mpr y.2; omega
            · exact hp q a (by omega)
          · refine z_push c_208_68 ?_
            refine z_ret1 c_208_69 rfl ?_
            exact k1 ⟨o, ⟨h0, by omega⟩, by omega, (bg_ref hwf he ⟨h0, by omega⟩ hm.2).mp ⟨by omega, by omega⟩⟩

set_option maxHeartbeats 1000000 in
theorem t_beginsSo {d : Nat} {I : aFI} {L : aFL} {Q : aPo} {sh : Nat} {su : Option Nat} {D : Nat → Int → Int} {cd : Nat → Option (List Int)} {e : Int} {m : Nat} (hwf : wfQ D cd) (hD : rD I D) (hN : rNms L D) (he : 0 ≤ e ∧ e < D 1 2) (hm : 1 ≤ m ∧ m ≤ zlf (nrw D (12 + e))) (hd : 3 ≤ d) (k1 : bgZ D e m → Q (some (.int (aBo true))) I L (aR sh su)) (k2 : ¬ bgZ D e m → Q (some (.int (aBo false))) I L (aR sh su)) : aWp none d 208 0 [.ref 157, .int (iI e), .int (iI (m : Int)), .null, .null, .null] [] I L (aR sh su) Q := by
  have hcn := hwf.1.n
  have hez := (hwf.row he.1 he.2).z
  refine w_aload c_208_0 rfl ?_
  refine w_getR c_208_1 sp_157 (by decide) rfl pr_157_45 ?_
  refine z_push c_208_4 ?_
  refine w_iload c_208_6 rfl ?_
  refine z_iadd c_208_7 ?_
  refine z_laload c_208_8 sp_193 (by omega) (by first | decide | omega) (nm_at hwf hN he rfl) ?_
  refine w_iload c_208_9 rfl ?_
  refine wc_187 c_208_10 (Nat.le_of_ble_eq_true rfl) (by omega) ?_
  refine t_firstOf (f := nrw D (12 + e)) (m := m) rfl rfl hez.1.2 hm.2 hez.2.1 (by omega) ?_
  refine r_l ?_
  refine w_lstore c_208_13 (Nat.le_of_ble_eq_true rfl) rfl ?_
  refine z_push c_208_14 ?_
  refine w_istore c_208_15 (Nat.le_of_ble_eq_true rfl) rfl ?_
  exact t_bg_17 hwf hD hN he hm rfl (by omega) k1 k2 _ 0 (Nat.lt_succ_self _) (by decide) (by omega) (fun q a b => by omega)

set_option maxHeartbeats 2000000 in
theorem t_br_25 {d : Nat} {I : aFI} {L : aFL} {Q : aPo} {sh : Nat} {su : Option Nat} {D : Nat → Int → Int} {cd : Nat → Option (List Int)} {e : Int} (hwf : wfQ D cd) (hD : rD I D) (hN : rNms L D) (he : 0 ≤ e ∧ e < D 1 2) (hd : 4 ≤ d) : ∀ (fz : Nat) (m : Nat), 7 - m < fz → (1 ≤ m) → (m ≤ zlf (nrw D (12 + e))) → (Q (some (.int (iI (brL D e (8 - m) m)))) I L (aR sh su)) → aWp none d 209 25 [.ref 157, .int (iI e), .int (iI (zlf (nrw D (12 + e)) : Int)), .int (iI (m : Int))] [] I L (aR sh su) Q := by
  intro fz
  induction fz with
  | zero => intro m h; omega
  | succ fz ih =>
    intro m hn2 h0 h1 kk
    have hwz := (hwf.row he.1 he.2).z
    refine w_iload c_209_25 rfl ?_
    refine w_iload c_209_26 rfl ?_
    refine z_ic_ge c_209_27 (by first | exact aRg_of _ | (unfold aRg; omega)) (by first | exact aRg_of _ | (unfold aRg; omega)) (fun h1_ => ?_) (fun h1_ => ?_)
    · refine w_iload c_209_45 rfl ?_
      refine z_ret c_209_46 rfl ?_
      first
      | (rw [brL_f (fun y => z y.2)] at kk; exact kk)
      | (rw [brL_f (fun y => by omega)] at kk; exact kk)
    · refine w_aload c_209_30 rfl ?_
      refine w_iload c_209_31 rfl ?_
      refine w_iload c_209_32 rfl ?_
      refine wc_208 c_209_33 sp_157 (Nat.le_of_ble_eq_true rfl) (by omega) ?_
      refine t_beginsSo hwf hD hN he ⟨h0, h1⟩ (by omega) (fun z => ?_) (fun z => ?_)
      · refine r_i ?_
        refine b_if_eq c_209_36 (fun h => Bool.noConfusion h) (fun _ => ?_)
        refine z_iinc c_209_39 rfl rfl ?_
        refine w_goto c_209_42 ?_
        rw [show 8 - m = (8 - (m + 1)) + 1 by omega, brL_t ⟨by omega, z⟩] at kk
        rw [show (m : Int) + 1 = ((m + 1 : Nat) : Int) by omega] at kk ⊢
        exact ih (m + 1) (by omega) (by omega) (by omega) kk
      · refine r_i ?_
        refine b_if_eq c_209_36 (fun _ => ?_) (fun h => Bool.noConfusion h)
        refine w_iload c_209_45 rfl ?_
        refine z_ret c_209_46 rfl ?_
        first
        | (rw [brL_f (fun y => z y.2)] at kk; exact kk)
        | (rw [brL_f (fun y => by omega)] at kk; exact kk)

set_option maxHeartbeats 1000000 in
theorem t_brief {d : Nat} {I : aFI} {L : aFL} {Q : aPo} {sh : Nat} {su : Option Nat} {D : Nat → Int → Int} {cd : Nat → Option (List Int)} {e : Int} (hwf : wfQ D cd) (hD : rD I D) (hN : rNms L D) (re : -2147483648 ≤ e ∧ e < 2147483648) (hd : 5 ≤ d) (kk : Q (some (.int (iI (brZ D e)))) I L (aR sh su)) : aWp none d 209 0 [.ref 157, .int (iI e), .null, .null] [] I L (aR sh su) Q := by
  have hcn := hwf.1.n
  refine w_aload c_209_0 rfl ?_
  refine w_iload c_209_1 rfl ?_
  refine wc_162 c_209_2 sp_157 (Nat.le_of_ble_eq_true rfl) (by omega) ?_
  refine t_isDeed hwf.1 hD (by omega) (by omega) ?_
  refine r_i ?_
  refine b_if_ne c_209_5 (fun h1_ => ?_) (fun h1_ => ?_)
  · have he := of_decide_eq_true h1_
    have hez := (hwf.row he.1 he.2).z
    refine w_aload c_209_10 rfl ?_
    refine w_getR c_209_11 sp_157 (by decide) rfl pr_157_45 ?_
    refine z_push c_209_14 ?_
    refine w_iload c_209_16 rfl ?_
    refine z_iadd c_209_17 ?_
    refine z_laload c_209_18 sp_193 (by omega) (by first | decide | omega) (nm_at hwf hN he rfl) ?_
    refine wc_186 c_209_19 (Nat.le_of_ble_eq_true rfl) (by omega) ?_
    refine t_lettersOf (f := nrw D (12 + e)) rfl hez.1.2 hez.2.1 ?_
    refine r_i ?_
    refine w_istore c_209_22 (Nat.le_of_ble_eq_true rfl) rfl ?_
    refine z_push c_209_23 ?_
    refine w_istore c_209_24 (Nat.le_of_ble_eq_true rfl) rfl ?_
    unfold brZ at kk; rw [if_pos he] at kk
    exact t_br_25 hwf hD hN he (by omega) _ 1 (Nat.lt_succ_self _) (by decide) hez.1.1 kk
  · refine z_push c_209_8 ?_
    refine z_ret c_209_9 rfl ?_
    have he := of_decide_eq_false h1_
    unfold brZ at kk; rw [if_neg he] at kk
    exact kk

