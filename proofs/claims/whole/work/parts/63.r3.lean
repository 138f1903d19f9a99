/-! the reference: what a deed draws, whether it can be, what can be read (p63.py) -/
def rS (I : aFI) (D : Nat → Int → Int) (cd : Nat → Option (List Int)) (X : Lk) : Prop := rW I D cd ∧ rX I 202 X
theorem rS.pk {I I2 : aFI} {D : Nat → Int → Int} {cd : Nat → Option (List Int)} {X : Lk} (h : rS I D cd X) (hF : frG PK I I2) : rS I2 D cd X :=
  ⟨h.1.fr (fun q k h1 h2 => pk_fr hF (by omega)) (hF 157 56 (by decide)), h.2.pk hF (by decide)⟩
set_option maxHeartbeats 1000000 in
theorem t_brookMany {d : Nat} {I : aFI} {L : aFL} {Q : aPo} {sh : Nat} {su : Option Nat} {D : Nat → Int → Int} (hD : rD I D) (k : Q (some (.int (iI (D 1 0)))) I L (aR sh su)) : aWp none d 159 0 [.ref 157] [] I L (aR sh su) Q := by
  refine w_aload c_159_0 rfl ?_
  refine w_getR c_159_1 sp_157 (by decide) rfl pr_157_44 ?_
  refine z_push c_159_4 ?_
  refine z_iaload c_159_5 sp_192 (by omega) (by first | decide | omega) hD.1.1 ?_
  refine z_ret c_159_6 rfl ?_
  exact k

set_option maxHeartbeats 1000000 in
theorem t_villageMany {d : Nat} {I : aFI} {L : aFL} {Q : aPo} {sh : Nat} {su : Option Nat} {D : Nat → Int → Int} (hD : rD I D) (k : Q (some (.int (iI (D 1 1)))) I L (aR sh su)) : aWp none d 160 0 [.ref 157] [] I L (aR sh su) Q := by
  refine w_aload c_160_0 rfl ?_
  refine w_getR c_160_1 sp_157 (by decide) rfl pr_157_44 ?_
  refine z_push c_160_4 ?_
  refine z_iaload c_160_5 sp_192 (by omega) (by first | decide | omega) hD.1.2.1 ?_
  refine z_ret c_160_6 rfl ?_
  exact k

set_option maxHeartbeats 1000000 in
theorem t_deedMany {d : Nat} {I : aFI} {L : aFL} {Q : aPo} {sh : Nat} {su : Option Nat} {D : Nat → Int → Int} (hD : rD I D) (k : Q (some (.int (iI (D 1 2)))) I L (aR sh su)) : aWp none d 161 0 [.ref 157] [] I L (aR sh su) Q := by
  refine w_aload c_161_0 rfl ?_
  refine w_getR c_161_1 sp_157 (by decide) rfl pr_157_44 ?_
  refine z_push c_161_4 ?_
  refine z_iaload c_161_5 sp_192 (by omega) (by first | decide | omega) hD.1.2.2 ?_
  refine z_ret c_161_6 rfl ?_
  exact k

set_option maxHeartbeats 1000000 in
theorem t_holdsAll {d : Nat} {I : aFI} {L : aFL} {Q : aPo} {sh : Nat} {su : Option Nat} {D : Nat → Int → Int} (hD : rD I D) (k : Q (some (.int (iI (D 0 1)))) I L (aR sh su)) : aWp none d 167 0 [.ref 157] [] I L (aR sh su) Q := by
  refine w_aload c_167_0 rfl ?_
  refine w_getR c_167_1 sp_157 (by decide) rfl pr_157_46 ?_
  refine z_push c_167_4 ?_
  refine z_iaload c_167_5 sp_194 (by omega) (by first | decide | omega) hD.2.1 ?_
  refine z_ret c_167_6 rfl ?_
  exact k

set_option maxHeartbeats 1000000 in
theorem t_drawnBy {d : Nat} {I : aFI} {L : aFL} {Q : aPo} {sh : Nat} {su : Option Nat} {D : Nat → Int → Int} {cd : Nat → Option (List Int)} {X : Lk} (hS : wfS D cd) (hR : rS I D cd X) (hX : lkOK X) {de : Int} (hde : 0 ≤ de ∧ de < D 1 2) (hd : 4 ≤ d) (k : ∀ (I2 : aFI) (L2 : aFL), frG PK I I2 → frG LK L L2 → Q (some (.int (iI (drwZ D cd X de)))) I2 L2 (aR sh su)) : aWp none d 171 0 [.ref 157, .int (iI de)] [] I L (aR sh su) Q := by
  obtain ⟨s, b, g, w, ink, age⟩ := X
  have hx1 := hX.1
  have hx2 := hX.2.1
  have hx3 := hX.2.2.1
  have hx4 := hX.2.2.2.1
  have hx5 := hX.2.2.2.2
  have hdd := hS.n
  have hhh := hS.h
  simp only at hx1 hx2 hx3 hx4 hx5
  have hF : frG PK I I := frG.rf
  have hG : frG LK L L := frG.rf
  have hxd := hx5 de hde.1 (by omega)
  have hde2 := hS.de hde.1 hde.2
  have hE : eOK (envZ D s b g ink age de 0) := envZ_ok hS hde.1 hde.2 hx1 hx2 (hx5 de hde.1 (by omega)).1 (hx5 de hde.1 (by omega)).2 (by omega)
  rcases hR.1.2 (by omega) 0 (by omega) with ⟨q1, q2⟩ | ⟨l, f, q1, q2, q3, q4, q5⟩
  · refine w_aload c_171_0 rfl ?_
    refine w_getR c_171_1 sp_157 (by decide) rfl pr_157_51 ?_
    refine z_push c_171_4 ?_
    refine z_iaload c_171_5 sp_199 (by omega) (by first | decide | omega) q2 ?_
    refine z_push c_171_6 ?_
    refine z_ic_ne c_171_7 (by first | exact aRg_of _ | (unfold aRg; omega)) (by first | exact aRg_of _ | (unfold aRg; omega)) (fun h11_ => ?_) (fun h11_ => ?_)
    · exact absurd rfl h11_
    refine w_aload c_171_10 rfl ?_
    refine w_getR c_171_11 sp_157 (by decide) rfl pr_157_49 ?_
    refine z_push c_171_14 ?_
    refine z_push c_171_16 ?_
    refine w_iload c_171_17 rfl ?_
    refine z_imul c_171_18 ?_
    refine z_iadd c_171_19 ?_
    refine z_iaload c_171_20 sp_197 (by omega) (by first | decide | omega) (hR.1.1.d7 hde.1 hde.2 (by omega)) ?_
    refine w_goto c_171_21 ?_
    refine z_ret c_171_36 rfl ?_
    refine q_i (k I L hF hG) ?_
    unfold drwZ; rw [q1]
  · obtain ⟨ht, hok⟩ := hS.c (by omega) q1
    refine w_aload c_171_0 rfl ?_
    refine w_getR c_171_1 sp_157 (by decide) rfl pr_157_51 ?_
    refine z_push c_171_4 ?_
    refine z_iaload c_171_5 sp_199 (by omega) (by first | decide | omega) q3 ?_
    refine z_push c_171_6 ?_
    refine z_ic_ne c_171_7 (by first | exact aRg_of _ | (unfold aRg; omega)) (by first | exact aRg_of _ | (unfold aRg; omega)) (fun h11_ => ?_) (fun h11_ => ?_)
    rotate_left
    · exfalso; omega
    refine w_aload c_171_24 rfl ?_
    refine z_push c_171_25 ?_
    refine w_iload c_171_26 rfl ?_
    refine wc_170 c_171_27 sp_157 (Nat.le_of_ble_eq_true rfl) (by omega) ?_
    refine t_codesTell (r := 0) (fr := f) (to := f + l.length) (l := l) hS hR.1.1 (show nLk _ 202 s b g w ink age from hR.2) ⟨hde.1, hde.2⟩ (by omega) (by omega) (by omega) (by omega) (by omega) hE (by omega) (by omega) q3 q4 ⟨q2.1, rfl, by omega⟩ q5 ht hok (fun I L hf hf2 => ?_)
    have hv := (valC_ok (vl := D 6 de) hE ht).1
    have hv2 := hv.2
    have hF := hF.tr hf
    have hG := hG.tr hf2
    have hR := hR.pk hf
    refine r_l ?_
    refine z_push c_171_30 ?_
    refine wc_168 c_171_33 (Nat.le_of_ble_eq_true rfl) (by omega) ?_
    refine t_cut (by omega) (by omega) ?_
    refine r_i ?_
    refine z_ret c_171_36 rfl ?_
    refine q_i (k I L hF hG) ?_
    unfold drwZ; rw [q1]
    exact (congrArg (cutz · 9999) (val_drw (by decide) hok)).symm

set_option maxHeartbeats 1000000 in
theorem t_canBe {d : Nat} {I : aFI} {L : aFL} {Q : aPo} {sh : Nat} {su : Option Nat} {D : Nat → Int → Int} {cd : Nat → Option (List Int)} {X : Lk} (hS : wfS D cd) (hR : rS I D cd X) (hX : lkOK X) {de : Int} (hde : 0 ≤ de ∧ de < D 1 2) (hd : 5 ≤ d) (k : ∀ (I2 : aFI) (L2 : aFL), frG PK I I2 → frG LK L L2 → Q (some (.int (aBo (cbZ D cd X de)))) I2 L2 (aR sh su)) : aWp none d 172 0 [.ref 157, .int (iI de)] [] I L (aR sh su) Q := by
  obtain ⟨s, b, g, w, ink, age⟩ := X
  have hx1 := hX.1
  have hx2 := hX.2.1
  have hx3 := hX.2.2.1
  have hx4 := hX.2.2.2.1
  have hx5 := hX.2.2.2.2
  have hdd := hS.n
  have hhh := hS.h
  simp only at hx1 hx2 hx3 hx4 hx5
  have hF : frG PK I I := frG.rf
  have hG : frG LK L L := frG.rf
  have hxd := hx5 de hde.1 (by omega)
  have hde2 := hS.de hde.1 hde.2
  have hE : eOK (envZ D s b g ink age de 0) := envZ_ok hS hde.1 hde.2 hx1 hx2 (hx5 de hde.1 (by omega)).1 (hx5 de hde.1 (by omega)).2 (by omega)
  refine w_aload c_172_0 rfl ?_
  refine w_iload c_172_1 rfl ?_
  refine wc_163 c_172_2 sp_157 (Nat.le_of_ble_eq_true rfl) (by omega) ?_
  refine t_isWritten hR.2 ⟨hde.1, by omega⟩ ?_
  refine r_i ?_
  refine b_if_ne c_172_5 (fun h1_ => ?_) (fun h1_ => ?_)
  · refine z_push c_172_36 ?_
    refine z_ret0 c_172_37 rfl ?_
    first
    | exact q_b (k I L hF hG) (cbZ_w h1_)
    | exact q_b (k I L hF hG) (cbZ_b (by show ¬ _ ≤ b; omega))
    | exact q_b (k I L hF hG) (cbZ_s (by show ¬ s ≤ _; omega))
  · refine w_aload c_172_8 rfl ?_
    refine w_getR c_172_9 sp_157 (by decide) rfl pr_157_58 ?_
    refine z_push c_172_12 ?_
    refine z_iaload c_172_13 sp_202 (by omega) (by first | decide | omega) (show _ = iI s from hR.2.1) ?_
    refine w_aload c_172_14 rfl ?_
    refine w_iload c_172_15 rfl ?_
    refine wc_166 c_172_16 sp_157 (Nat.le_of_ble_eq_true rfl) (by omega) ?_
    refine t_termOf hR.1.1 hde (by omega) ?_
    refine r_i ?_
    refine z_ic_gt c_172_19 (by first | exact aRg_of _ | (unfold aRg; omega)) (by first | exact aRg_of _ | (unfold aRg; omega)) (fun h2_ => ?_) (fun h2_ => ?_)
    · refine z_push c_172_36 ?_
      refine z_ret0 c_172_37 rfl ?_
      first
      | exact q_b (k I L hF hG) (cbZ_w h1_)
      | exact q_b (k I L hF hG) (cbZ_b (by show ¬ _ ≤ b; omega))
      | exact q_b (k I L hF hG) (cbZ_s (by show ¬ s ≤ _; omega))
    · refine w_aload c_172_22 rfl ?_
      refine w_getR c_172_23 sp_157 (by decide) rfl pr_157_58 ?_
      refine z_push c_172_26 ?_
      refine z_iaload c_172_27 sp_202 (by omega) (by first | decide | omega) (show _ = iI b from hR.2.2.1) ?_
      refine w_aload c_172_28 rfl ?_
      refine w_iload c_172_29 rfl ?_
      refine wc_171 c_172_30 sp_157 (Nat.le_of_ble_eq_true rfl) (by omega) ?_
      refine t_drawnBy (X := (s, b, g, w, ink, age)) hS hR hX hde (by omega) (fun I L hf hf2 => ?_)
      have hdw := drwZ_rg (X := (s, b, g, w, ink, age)) hS hde
      have hF := hF.tr hf
      have hG := hG.tr hf2
      have hR := hR.pk hf
      refine r_i ?_
      refine z_ic_ge c_172_33 (by first | exact aRg_of _ | (unfold aRg; omega)) (by first | exact aRg_of _ | (unfold aRg; omega)) (fun h3_ => ?_) (fun h3_ => ?_)
      · rcases hR.1.2 (by omega) 2 (by omega) with ⟨q1, q2⟩ | ⟨l, f, q1, q2, q3, q4, q5⟩
        · refine w_aload c_172_38 rfl ?_
          refine w_getR c_172_39 sp_157 (by decide) rfl pr_157_51 ?_
          refine z_push c_172_42 ?_
          refine z_iaload c_172_43 sp_199 (by omega) (by first | decide | omega) q2 ?_
          refine z_push c_172_44 ?_
          refine z_ic_eq c_172_45 (by first | exact aRg_of _ | (unfold aRg; omega)) (by first | exact aRg_of _ | (unfold aRg; omega)) (fun h11_ => ?_) (fun h11_ => ?_)
          rotate_left
          · exact absurd rfl h11_
          refine z_push c_172_59 ?_
          refine w_goto c_172_60 ?_
          refine z_ret1 c_172_64 rfl ?_
          refine q_b (k I L hF hG) (cbZ_m h1_ (by show s ≤ _; omega) (by show _ ≤ b; omega) ?_)
          unfold mayZ; rw [q1]
        · obtain ⟨ht, hok⟩ := hS.c (by omega) q1
          refine w_aload c_172_38 rfl ?_
          refine w_getR c_172_39 sp_157 (by decide) rfl pr_157_51 ?_
          refine z_push c_172_42 ?_
          refine z_iaload c_172_43 sp_199 (by omega) (by first | decide | omega) q3 ?_
          refine z_push c_172_44 ?_
          refine z_ic_eq c_172_45 (by first | exact aRg_of _ | (unfold aRg; omega)) (by first | exact aRg_of _ | (unfold aRg; omega)) (fun h11_ => ?_) (fun h11_ => ?_)
          · exfalso; omega
          refine w_aload c_172_48 rfl ?_
          refine z_push c_172_49 ?_
          refine w_iload c_172_50 rfl ?_
          refine wc_170 c_172_51 sp_157 (Nat.le_of_ble_eq_true rfl) (by omega) ?_
          refine t_codesTell (r := 2) (fr := f) (to := f + l.length) (l := l) hS hR.1.1 (show nLk _ 202 s b g w ink age from hR.2) ⟨hde.1, hde.2⟩ (by omega) (by omega) (by omega) (by omega) (by omega) hE (by omega) (by omega) q3 q4 ⟨q2.1, rfl, by omega⟩ q5 ht hok (fun I L hf hf2 => ?_)
          have hv := (valC_ok (vl := D 6 de) hE ht).1
          have hv2 := hv.2
          have hF := hF.tr hf
          have hG := hG.tr hf2
          have hR := hR.pk hf
          refine r_l ?_
          refine z_pushl c_172_54 ?_
          refine z_lc_ne c_172_55 c_172_56 (by first | exact aRl_of _ | (unfold aRl; omega)) (by first | exact aRl_of _ | (unfold aRl; omega)) (fun h12_ => ?_) (fun h12_ => ?_)
          · refine z_push c_172_63 ?_
            refine z_ret0 c_172_64 rfl ?_
            refine q_b (k I L hF hG) (cbZ_m h1_ (by show s ≤ _; omega) (by show _ ≤ b; omega) ?_)
            unfold mayZ; rw [q1]
            have e9 := val_drw (D := D) (s := s) (b := b) (g := g) (ink := ink) (age := age) (de := de) (dr := 0) (v := D 6 de) (ink2 := fun _ => 0) (age2 := fun _ => 0) (dr2 := 0) (v2 := 0) (by decide) hok
            have hv1 := hv.1 rfl
            show decide (valC (envZ D s b g (fun _ => 0) (fun _ => 0) de 0) 0 l = 1) = _
            rw [← e9]
            exact decide_eq_false (by omega)
          · refine z_push c_172_59 ?_
            refine w_goto c_172_60 ?_
            refine z_ret1 c_172_64 rfl ?_
            refine q_b (k I L hF hG) (cbZ_m h1_ (by show s ≤ _; omega) (by show _ ≤ b; omega) ?_)
            unfold mayZ; rw [q1]
            have e9 := val_drw (D := D) (s := s) (b := b) (g := g) (ink := ink) (age := age) (de := de) (dr := 0) (v := D 6 de) (ink2 := fun _ => 0) (age2 := fun _ => 0) (dr2 := 0) (v2 := 0) (by decide) hok
            have hv1 := hv.1 rfl
            show decide (valC (envZ D s b g (fun _ => 0) (fun _ => 0) de 0) 0 l = 1) = _
            rw [← e9]
            exact decide_eq_true (by omega)
      · refine z_push c_172_36 ?_
        refine z_ret0 c_172_37 rfl ?_
        first
        | exact q_b (k I L hF hG) (cbZ_w h1_)
        | exact q_b (k I L hF hG) (cbZ_b (by show ¬ _ ≤ b; omega))
        | exact q_b (k I L hF hG) (cbZ_s (by show ¬ s ≤ _; omega))

def crZ (D : Nat → Int → Int) (X : Lk) (de : Int) : Bool := tb X.2.2.2.1 de && decide (D 0 15 ≤ X.2.2.2.2.1 de)
set_option maxHeartbeats 1000000 in
theorem t_canRead {d : Nat} {I : aFI} {L : aFL} {Q : aPo} {sh : Nat} {su : Option Nat} {D : Nat → Int → Int} {cd : Nat → Option (List Int)} {X : Lk} {de : Int} (hS : wfS D cd) (hR : rS I D cd X) (hX : lkOK X) (hde0 : 0 ≤ de ∧ de < D 1 2) (hd : 1 ≤ d) (k : Q (some (.int (aBo (crZ D X de)))) I L (aR sh su)) : aWp none d 181 0 [.ref 157, .int (iI de)] [] I L (aR sh su) Q := by
  have hde : 0 ≤ de ∧ de < 8 := by have := hS.n; omega
  have hx5 := hX.2.2.2.2 de hde.1 hde.2
  have hhh := hS.h
  refine w_aload c_181_0 rfl ?_
  refine w_iload c_181_1 rfl ?_
  refine wc_163 c_181_2 sp_157 (Nat.le_of_ble_eq_true rfl) (by omega) ?_
  refine t_isWritten hR.2 hde ?_
  refine r_i ?_
  refine b_if_eq c_181_5 (fun h1_ => ?_) (fun h1_ => ?_)
  · refine z_push c_181_26 ?_
    refine z_ret0 c_181_27 rfl ?_
    first
    | exact q_b k (by unfold crZ; rw [h1_]; exact decide_eq_true (by omega))
    | exact q_b k (by unfold crZ; rw [h1_]; exact decide_eq_false (by omega))
    | exact q_b k (by unfold crZ; rw [h1_]; rfl)
  · refine w_aload c_181_8 rfl ?_
    refine w_iload c_181_9 rfl ?_
    refine wc_164 c_181_10 sp_157 (Nat.le_of_ble_eq_true rfl) (by omega) ?_
    refine t_inkOf hR.2 hde ?_
    refine r_i ?_
    refine w_aload c_181_13 rfl ?_
    refine w_getR c_181_14 sp_157 (by decide) rfl pr_157_50 ?_
    refine z_push c_181_17 ?_
    refine z_iaload c_181_18 sp_198 (by omega) (by first | decide | omega) (hR.1.1.2.2.1.2.1 (by omega)) ?_
    refine z_ic_lt c_181_19 (by first | exact aRg_of _ | (unfold aRg; omega)) (by first | exact aRg_of _ | (unfold aRg; omega)) (fun h2_ => ?_) (fun h2_ => ?_)
    · refine z_push c_181_26 ?_
      refine z_ret0 c_181_27 rfl ?_
      first
      | exact q_b k (by unfold crZ; rw [h1_]; exact decide_eq_true (by omega))
      | exact q_b k (by unfold crZ; rw [h1_]; exact decide_eq_false (by omega))
      | exact q_b k (by unfold crZ; rw [h1_]; rfl)
    · refine z_push c_181_22 ?_
      refine w_goto c_181_23 ?_
      refine z_ret1 c_181_27 rfl ?_
      first
      | exact q_b k (by unfold crZ; rw [h1_]; exact decide_eq_true (by omega))
      | exact q_b k (by unfold crZ; rw [h1_]; exact decide_eq_false (by omega))
      | exact q_b k (by unfold crZ; rw [h1_]; rfl)

set_option maxHeartbeats 1000000 in
theorem t_readable_1 {d : Nat} {I : aFI} {L : aFL} {Q : aPo} {sh : Nat} {su : Option Nat} {D : Nat → Int → Int} {cd : Nat → Option (List Int)} {X : Lk} (hS : wfS D cd) (hR : rS I D cd X) (hX : lkOK X) (hd : 2 ≤ d) : ∀ (n : Nat) (i : Int), (D 1 2 - i).toNat < n → (0 ≤ i) → (i ≤ D 1 2) → (Q (some (.int (iI ((rdZ D X : Nat) : Int)))) I L (aR sh su)) → aWp none d 182 4 [.ref 157, .int (iI ((bb (fun j : Nat => X.2.2.2.1.testBit j && decide (D 0 15 ≤ X.2.2.2.2.1 j)) i.toNat : Nat) : Int)), .int (iI i)] [] I L (aR sh su) Q := by
  intro n
  induction n with
  | zero => intro i h; omega
  | succ n ih =>
    intro i hn h0 h1 k
    have hdd := hS.n
    have hit : ((i.toNat : Nat) : Int) = i := Int.toNat_of_nonneg h0
    have hst : (i + 1).toNat = i.toNat + 1 := by omega
    refine w_iload c_182_4 rfl ?_
    refine w_aload c_182_5 rfl ?_
    refine wc_161 c_182_6 sp_157 (Nat.le_of_ble_eq_true rfl) (by omega) ?_
    refine t_deedMany hR.1.1 ?_
    refine r_i ?_
    refine z_ic_ge c_182_9 (by first | exact aRg_of _ | (unfold aRg; omega)) (by first | exact aRg_of _ | (unfold aRg; omega)) (fun h1_ => ?_) (fun h1_ => ?_)
    · refine w_iload c_182_32 rfl ?_
      refine z_ret c_182_33 rfl ?_
      refine q_i k ?_
      unfold rdZ
      rw [show i = D 1 2 by omega]
    · refine w_aload c_182_12 rfl ?_
      refine w_iload c_182_13 rfl ?_
      refine wc_181 c_182_14 sp_157 (Nat.le_of_ble_eq_true rfl) (by omega) ?_
      refine t_canRead hS hR hX (by omega) (by omega) ?_
      refine r_i ?_
      refine b_if_eq c_182_17 (fun h2_ => ?_) (fun h2_ => ?_)
      · refine z_iinc c_182_26 rfl rfl ?_
        refine w_goto c_182_29 ?_
        have e9 : bb (fun j : Nat => X.2.2.2.1.testBit j && decide (D 0 15 ≤ X.2.2.2.2.1 j)) (i + 1).toNat = bb (fun j : Nat => X.2.2.2.1.testBit j && decide (D 0 15 ≤ X.2.2.2.2.1 j)) i.toNat := by
          rw [hst]; simp only [bb, hit]
          rw [if_neg (fun z => Bool.noConfusion (z.symm.trans (show (tb X.2.2.2.1 i && decide (D 0 15 ≤ X.2.2.2.2.1 i)) = false by assumption)))]
        have := ih (i + 1) (by omega) (by omega) (by omega) k
        rw [e9] at this
        exact this
      · refine w_iload c_182_20 rfl ?_
        refine z_push c_182_21 ?_
        refine w_iload c_182_22 rfl ?_
        refine w_ishl c_182_23 (shl1 (by omega)) ?_
        refine w_ior c_182_24 (iI_or _ _) ?_
        refine w_istore c_182_25 (Nat.le_of_ble_eq_true rfl) rfl ?_
        refine z_iinc c_182_26 rfl rfl ?_
        refine w_goto c_182_29 ?_
        have e9 : bb (fun j : Nat => X.2.2.2.1.testBit j && decide (D 0 15 ≤ X.2.2.2.2.1 j)) (i + 1).toNat = bb (fun j : Nat => X.2.2.2.1.testBit j && decide (D 0 15 ≤ X.2.2.2.2.1 j)) i.toNat ||| 2 ^ i.toNat := by
          rw [hst]; simp only [bb, hit]
          rw [if_pos (show (X.2.2.2.1.testBit i.toNat && decide (D 0 15 ≤ X.2.2.2.2.1 i)) = true by assumption)]
        have := ih (i + 1) (by omega) (by omega) (by omega) k
        rw [e9] at this
        exact this

set_option maxHeartbeats 1000000 in
theorem t_readable {d : Nat} {I : aFI} {L : aFL} {Q : aPo} {sh : Nat} {su : Option Nat} {D : Nat → Int → Int} {cd : Nat → Option (List Int)} {X : Lk} (hS : wfS D cd) (hR : rS I D cd X) (hX : lkOK X) (hd : 2 ≤ d) (k : Q (some (.int (iI ((rdZ D X : Nat) : Int)))) I L (aR sh su)) : aWp none d 182 0 [.ref 157, .null, .null] [] I L (aR sh su) Q := by
  have hdd := hS.n
  refine z_push c_182_0 ?_
  refine w_istore c_182_1 (Nat.le_of_ble_eq_true rfl) rfl ?_
  refine z_push c_182_2 ?_
  refine w_istore c_182_3 (Nat.le_of_ble_eq_true rfl) rfl ?_
  exact t_readable_1 hS hR hX hd _ 0 (Nat.lt_succ_self _) (by omega) (by omega) k

