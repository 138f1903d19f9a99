/-! the reference: deeds written and kept, acts kept and taken back (p79.py) -/
/-- what was written, a row more -/
def kA (K : Int → Int → Int) (kc s de ink dr : Int) : Int → Int → Int := fun i j => if i = kc then (if j = 0 then s else if j = 1 then de else if j = 2 then ink else dr) else K i j
/-- the rows of what was written, in the reference -/
def kpR (I : aFI) (c o : Nat) (K : Int → Int → Int) (kc : Int) : Prop := ∀ i j e : Int, 0 ≤ i → i < kc → 0 ≤ j → j < 4 → e = o + 28 + 4 * i + j → I c e.toNat = iI (K i j)
abbrev PW : Nat → Nat → Prop := fun q k => q = 202 ∧ 27 ≤ k ∧ k < 188
abbrev PTK : Nat → Nat → Prop := fun q k => (q = 157 ∧ (k = 104 ∨ k = 63)) ∨ q = 205 ∨ (q = 202 ∧ k < 188)
set_option maxHeartbeats 1000000 in
theorem t_isKept {d : Nat} {I : aFI} {L : aFL} {Q : aPo} {sh : Nat} {su : Option Nat} {K : Int → Int → Int} {kc s b g de ink dr : Int} {w : Nat} {inks age : Int → Int} (hN : nLk I 202 s b g w inks age) (hkc : I 202 27 = iI kc) (h0 : 0 ≤ kc ∧ kc < 40) (hK : kpR I 202 0 K kc) (k : ∀ I2 : aFI, nLk I2 202 s b g w inks age → I2 202 27 = iI (kc + 1) → kpR I2 202 0 (kA K kc s de ink dr) (kc + 1) → frG PW I I2 → Q none I2 L (aR sh su)) : aWp none d 174 0 [.ref 157, .int (iI de), .int (iI ink), .int (iI dr), .null] [] I L (aR sh su) Q := by
  refine w_aload c_174_0 rfl ?_
  refine w_getR c_174_1 sp_157 (by decide) rfl pr_157_58 ?_
  refine z_push c_174_4 ?_
  refine z_iaload c_174_6 sp_202 (by omega) (by first | decide | omega) hkc ?_
  refine z_push c_174_7 ?_
  refine z_ic_ne c_174_9 (by first | exact aRg_of _ | (unfold aRg; omega)) (by first | exact aRg_of _ | (unfold aRg; omega)) (fun h1_ => ?_) (fun h1_ => ?_)
  rotate_left
  · exfalso; omega
  refine w_aload c_174_49 rfl ?_
  refine w_getR c_174_50 sp_157 (by decide) rfl pr_157_58 ?_
  refine z_push c_174_53 ?_
  refine w_dup2 c_174_55 rfl rfl ?_
  refine z_iaload c_174_56 sp_202 (by omega) (by first | decide | omega) hkc ?_
  refine z_push c_174_57 ?_
  refine z_iadd c_174_58 ?_
  refine z_iastore c_174_59 sp_202 (by omega) (by decide) ?_
  refine z_push c_174_60 ?_
  refine z_push c_174_62 ?_
  refine w_aload c_174_63 rfl ?_
  refine w_getR c_174_64 sp_157 (by decide) rfl pr_157_58 ?_
  refine z_push c_174_67 ?_
  refine z_iaload c_174_69 sp_202 (by omega) (by first | decide | omega) up_eq ?_
  refine z_imul c_174_70 ?_
  refine z_iadd c_174_71 ?_
  refine z_push c_174_72 ?_
  refine z_isub c_174_73 ?_
  refine w_istore c_174_74 (Nat.le_of_ble_eq_true rfl) rfl ?_
  refine w_aload c_174_76 rfl ?_
  refine w_getR c_174_77 sp_157 (by decide) rfl pr_157_58 ?_
  refine w_iload c_174_80 rfl ?_
  refine w_aload c_174_82 rfl ?_
  refine w_getR c_174_83 sp_157 (by decide) rfl pr_157_58 ?_
  refine z_push c_174_86 ?_
  refine z_iaload c_174_87 sp_202 (by omega) (by first | decide | omega) ((up_ne (by omega)).trans hN.1) ?_
  refine z_iastore c_174_88 sp_202 (by omega) (by decide) ?_
  refine w_aload c_174_89 rfl ?_
  refine w_getR c_174_90 sp_157 (by decide) rfl pr_157_58 ?_
  refine w_iload c_174_93 rfl ?_
  refine z_push c_174_95 ?_
  refine z_iadd c_174_96 ?_
  refine w_iload c_174_97 rfl ?_
  refine z_iastore c_174_98 sp_202 (by omega) (by decide) ?_
  refine w_aload c_174_99 rfl ?_
  refine w_getR c_174_100 sp_157 (by decide) rfl pr_157_58 ?_
  refine w_iload c_174_103 rfl ?_
  refine z_push c_174_105 ?_
  refine z_iadd c_174_106 ?_
  refine w_iload c_174_107 rfl ?_
  refine z_iastore c_174_108 sp_202 (by omega) (by decide) ?_
  refine w_aload c_174_109 rfl ?_
  refine w_getR c_174_110 sp_157 (by decide) rfl pr_157_58 ?_
  refine w_iload c_174_113 rfl ?_
  refine z_push c_174_115 ?_
  refine z_iadd c_174_116 ?_
  refine w_iload c_174_117 rfl ?_
  refine z_iastore c_174_118 sp_202 (by omega) (by decide) ?_
  refine z_retv c_174_119 ?_
  refine k _ (hN.fr (fun k hk => by rw [up_ne (by omega), up_ne (by omega), up_ne (by omega), up_ne (by omega), up_ne (by omega)])) ((up_ne (by omega)).trans ((up_ne (by omega)).trans ((up_ne (by omega)).trans ((up_ne (by omega)).trans up_eq)))) (fun i j e h1 h2 h3 h4 he => ?_) (((((frG.rf.up ⟨rfl, by decide, by decide⟩).up ⟨rfl, by omega, by omega⟩).up ⟨rfl, by omega, by omega⟩).up ⟨rfl, by omega, by omega⟩).up ⟨rfl, by omega, by omega⟩)
  subst he
  unfold kA
  by_cases hik : i = kc
  · subst hik
    rw [if_pos rfl]
    rcases (show j = 0 ∨ j = 1 ∨ j = 2 ∨ j = 3 by omega) with rfl | rfl | rfl | rfl
    · rw [if_pos rfl, up_ne (by omega), up_ne (by omega), up_ne (by omega)]
      exact (congrArg (aUp _ 202 _ _ 202) (by omega)).trans up_eq
    · rw [if_neg (by decide), if_pos rfl, up_ne (by omega), up_ne (by omega)]
      exact (congrArg (aUp _ 202 _ _ 202) (by omega)).trans up_eq
    · rw [if_neg (by decide), if_neg (by decide), if_pos rfl, up_ne (by omega)]
      exact (congrArg (aUp _ 202 _ _ 202) (by omega)).trans up_eq
    · rw [if_neg (by decide), if_neg (by decide), if_neg (by decide)]
      exact (congrArg (aUp _ 202 _ _ 202) (by omega)).trans up_eq
  · rw [if_neg hik, up_ne (by omega), up_ne (by omega), up_ne (by omega), up_ne (by omega), up_ne (by omega)]
    exact hK i j _ h1 (by omega) h3 h4 rfl

set_option maxHeartbeats 1000000 in
theorem t_writesKept {d : Nat} {I : aFI} {L : aFL} {Q : aPo} {sh : Nat} {su : Option Nat} {D : Nat → Int → Int} {cd : Nat → Option (List Int)} {X : Lk} {K : Int → Int → Int} {kc : Int} (hS : wfS D cd) (hR : rS I D cd X) (hX : lkOK X) {de : Int} (hde : 0 ≤ de ∧ de < D 1 2) (hle : drwZ D cd X de ≤ X.2.1) (hth : I 157 61 = aBo false) (hkc : I 202 27 = iI kc) (h0 : 0 ≤ kc ∧ kc < 40) (hK : kpR I 202 0 K kc) (hd : 5 ≤ d) (k : ∀ (I2 : aFI) (L2 : aFL), rX I2 202 (drawX X de (drwZ D cd X de)) → I2 202 27 = iI (kc + 1) → kpR I2 202 0 (kA K kc X.1 de (dk X.2.1 X.2.2.1) (drwZ D cd X de)) (kc + 1) → frG PTK I I2 → frG LK L L2 → Q (some (.int (iI (drwZ D cd X de)))) I2 L2 (aR sh su)) : aWp none d 173 0 [.ref 157, .int (iI de), .null, .null] [] I L (aR sh su) Q := by
  obtain ⟨s, b, g, w, ink, age⟩ := X
  have hx1 := hX.1
  have hx2 := hX.2.1
  have hx3 := hX.2.2.1
  have hx4 := hX.2.2.2.1
  have hx5 := hX.2.2.2.2
  have hdd := hS.n
  have hhh := hS.h
  simp only at hx1 hx2 hx3 hx4 hx5
  refine w_aload c_173_0 rfl ?_
  refine w_iload c_173_1 rfl ?_
  refine wc_171 c_173_2 sp_157 (Nat.le_of_ble_eq_true rfl) (by omega) ?_
  refine t_drawnBy (X := (s, b, g, w, ink, age)) hS hR hX hde (by omega) (fun I L hf hf2 => ?_)
  have hdw := drwZ_rg (X := (s, b, g, w, ink, age)) hS hde
  generalize drwZ D cd (s, b, g, w, ink, age) de = dr at *
  have hle : dr ≤ b := hle
  have hm := mul_rg (a := g) (b := dr) (A := 30000) (B := 9999) (by omega) (by omega)
  have hm2 : 0 < b → 0 ≤ g * dr / b ∧ g * dr / b ≤ g * dr := fun h => ed_rg (by omega) h
  have hF : frG PT _ I := PK.t hf
  have hG : frG LK _ L := hf2
  have hN : nLk I 202 s b g w ink age := (hR.pk hf).2
  have hkc : I 202 27 = iI kc := (hf 202 27 (by decide)).trans hkc
  have hK : kpR I 202 0 K kc := fun i j e h1 h2 h3 h4 h5 => by rw [pk_fr hf (by decide)]; exact hK i j e h1 h2 h3 h4 h5
  refine r_i ?_
  refine w_istore c_173_5 (Nat.le_of_ble_eq_true rfl) rfl ?_
  refine w_aload c_173_6 rfl ?_
  refine wc_169 c_173_7 sp_157 (Nat.le_of_ble_eq_true rfl) (by omega) ?_
  refine t_darkNow (by omega) hN.2.1 hN.2.2.1 (by omega) (by omega) ?_
  refine r_i ?_
  refine w_istore c_173_10 (Nat.le_of_ble_eq_true rfl) rfl ?_
  refine w_iload c_173_11 rfl ?_
  refine z_if_le c_173_12 (by first | exact aRg_of _ | (unfold aRg; omega)) (fun h1_ => ?_) (fun h1_ => ?_)
  · refine w_aload c_173_53 rfl ?_
    refine w_getR c_173_54 sp_157 (by decide) rfl pr_157_58 ?_
    refine z_push c_173_57 ?_
    refine z_push c_173_58 ?_
    refine w_iload c_173_59 rfl ?_
    refine z_imul c_173_60 ?_
    refine z_iadd c_173_61 ?_
    refine z_push c_173_62 ?_
    refine z_iastore c_173_63 sp_202 (by omega) (by decide) ?_
    refine upG_k hF (Or.inr (Or.inr ⟨rfl, by omega⟩)) (fun I hi hF => ?_)
    have hN := hN.pw (j := de) (by omega) (by omega) hi
    have hkc := (congrFun (congrFun hi 202) 27).trans ((up_ne (by omega)).trans hkc)
    have hK : kpR I 202 0 K kc := fun i j e h1 h2 h3 h4 h5 => by rw [hi, up_ne (by omega)]; exact hK i j e h1 h2 h3 h4 h5
    refine w_aload c_173_64 rfl ?_
    refine w_getR c_173_65 sp_157 (by decide) rfl pr_157_58 ?_
    refine z_push c_173_68 ?_
    refine z_push c_173_69 ?_
    refine w_iload c_173_70 rfl ?_
    refine z_imul c_173_71 ?_
    refine z_iadd c_173_72 ?_
    refine z_push c_173_73 ?_
    refine z_iadd c_173_74 ?_
    refine w_iload c_173_75 rfl ?_
    refine z_iastore c_173_76 sp_202 (by omega) (by decide) ?_
    refine upG_k hF (Or.inr (Or.inr ⟨rfl, by omega⟩)) (fun I hi hF => ?_)
    have hN := hN.pi (j := de) (by omega) (by omega) hi
    have hkc := (congrFun (congrFun hi 202) 27).trans ((up_ne (by omega)).trans hkc)
    have hK : kpR I 202 0 K kc := fun i j e h1 h2 h3 h4 h5 => by rw [hi, up_ne (by omega)]; exact hK i j e h1 h2 h3 h4 h5
    refine w_aload c_173_77 rfl ?_
    refine w_getR c_173_78 sp_157 (by decide) rfl pr_157_58 ?_
    refine z_push c_173_81 ?_
    refine z_push c_173_82 ?_
    refine w_iload c_173_83 rfl ?_
    refine z_imul c_173_84 ?_
    refine z_iadd c_173_85 ?_
    refine z_push c_173_86 ?_
    refine z_iadd c_173_87 ?_
    refine z_push c_173_88 ?_
    refine z_iastore c_173_89 sp_202 (by omega) (by decide) ?_
    refine upG_k hF (Or.inr (Or.inr ⟨rfl, by omega⟩)) (fun I hi hF => ?_)
    have hN := hN.pa (j := de) (by omega) (by omega) hi
    have hkc := (congrFun (congrFun hi 202) 27).trans ((up_ne (by omega)).trans hkc)
    have hK : kpR I 202 0 K kc := fun i j e h1 h2 h3 h4 h5 => by rw [hi, up_ne (by omega)]; exact hK i j e h1 h2 h3 h4 h5
    refine w_aload c_173_90 rfl ?_
    refine z_getB c_173_91 sp_157 (by decide) rfl ((hF _ _ (by decide)).trans hth) ?_
    refine b_if_ne c_173_94 (fun h2_ => ?_) (fun h2_ => ?_)
    · exact absurd h2_ (by decide)
    refine w_aload c_173_97 rfl ?_
    refine w_iload c_173_98 rfl ?_
    refine w_iload c_173_99 rfl ?_
    refine w_iload c_173_100 rfl ?_
    refine wc_174 c_173_101 sp_157 (Nat.le_of_ble_eq_true rfl) (by omega) ?_
    refine t_isKept hN hkc h0 hK (fun I2 hN2 hkc2 hK2 hF2 => ?_)
    have hF3 : frG PTK _ I2 := (hF.mono (P2 := PTK) (fun q k z => by rcases z with z | z | z; exact Or.inl z; exact Or.inr (Or.inl z); exact Or.inr (Or.inr ⟨z.1, by omega⟩))).tr (hF2.mono (fun q k z => Or.inr (Or.inr ⟨z.1, z.2.2⟩)))
    refine r_v ?_
    refine w_iload c_173_104 rfl ?_
    refine z_ret c_173_105 rfl ?_
    refine k I2 L ?_ hkc2 hK2 hF3 hG
    unfold drawX
    refine hN2.cast rfl (by first | rfl | (show _ = b - dr; omega)) ?_ rfl rfl rfl
    show _ = (if 0 < b then g - g * dr / b else g)
    first
    | rw [if_pos (by omega)]
    | (rw [show dr = 0 by omega]; simp)
  · refine w_aload c_173_15 rfl ?_
    refine w_getR c_173_16 sp_157 (by decide) rfl pr_157_58 ?_
    refine z_push c_173_19 ?_
    refine w_dup2 c_173_20 rfl rfl ?_
    refine z_iaload c_173_21 sp_202 (by omega) (by first | decide | omega) hN.2.2.1 ?_
    refine w_aload c_173_22 rfl ?_
    refine w_getR c_173_23 sp_157 (by decide) rfl pr_157_58 ?_
    refine z_push c_173_26 ?_
    refine z_iaload c_173_27 sp_202 (by omega) (by first | decide | omega) hN.2.2.1 ?_
    refine z_i2l c_173_28 (by first | exact aRg_of _ | (unfold aRg; omega)) ?_
    refine w_iload c_173_29 rfl ?_
    refine z_i2l c_173_30 (by first | exact aRg_of _ | (unfold aRg; omega)) ?_
    refine z_lmul c_173_31 ?_
    refine w_aload c_173_32 rfl ?_
    refine w_getR c_173_33 sp_157 (by decide) rfl pr_157_58 ?_
    refine z_push c_173_36 ?_
    refine z_iaload c_173_37 sp_202 (by omega) (by first | decide | omega) hN.2.1 ?_
    refine z_i2l c_173_38 (by first | exact aRg_of _ | (unfold aRg; omega)) ?_
    have hm2 := hm2 (by omega)
    refine z_ldiv c_173_39 (by omega) (by omega) ?_
    refine z_l2i c_173_40 ?_
    refine z_isub c_173_41 ?_
    refine z_iastore c_173_42 sp_202 (by omega) (by decide) ?_
    refine upG_k hF (Or.inr (Or.inr ⟨rfl, by omega⟩)) (fun I hi hF => ?_)
    have hN := hN.pg hi
    have hkc := (congrFun (congrFun hi 202) 27).trans ((up_ne (by omega)).trans hkc)
    have hK : kpR I 202 0 K kc := fun i j e h1 h2 h3 h4 h5 => by rw [hi, up_ne (by omega)]; exact hK i j e h1 h2 h3 h4 h5
    refine w_aload c_173_43 rfl ?_
    refine w_getR c_173_44 sp_157 (by decide) rfl pr_157_58 ?_
    refine z_push c_173_47 ?_
    refine w_dup2 c_173_48 rfl rfl ?_
    refine z_iaload c_173_49 sp_202 (by omega) (by first | decide | omega) hN.2.1 ?_
    refine w_iload c_173_50 rfl ?_
    refine z_isub c_173_51 ?_
    refine z_iastore c_173_52 sp_202 (by omega) (by decide) ?_
    refine upG_k hF (Or.inr (Or.inr ⟨rfl, by omega⟩)) (fun I hi hF => ?_)
    have hN := hN.pb hi
    have hkc := (congrFun (congrFun hi 202) 27).trans ((up_ne (by omega)).trans hkc)
    have hK : kpR I 202 0 K kc := fun i j e h1 h2 h3 h4 h5 => by rw [hi, up_ne (by omega)]; exact hK i j e h1 h2 h3 h4 h5
    refine w_aload c_173_53 rfl ?_
    refine w_getR c_173_54 sp_157 (by decide) rfl pr_157_58 ?_
    refine z_push c_173_57 ?_
    refine z_push c_173_58 ?_
    refine w_iload c_173_59 rfl ?_
    refine z_imul c_173_60 ?_
    refine z_iadd c_173_61 ?_
    refine z_push c_173_62 ?_
    refine z_iastore c_173_63 sp_202 (by omega) (by decide) ?_
    refine upG_k hF (Or.inr (Or.inr ⟨rfl, by omega⟩)) (fun I hi hF => ?_)
    have hN := hN.pw (j := de) (by omega) (by omega) hi
    have hkc := (congrFun (congrFun hi 202) 27).trans ((up_ne (by omega)).trans hkc)
    have hK : kpR I 202 0 K kc := fun i j e h1 h2 h3 h4 h5 => by rw [hi, up_ne (by omega)]; exact hK i j e h1 h2 h3 h4 h5
    refine w_aload c_173_64 rfl ?_
    refine w_getR c_173_65 sp_157 (by decide) rfl pr_157_58 ?_
    refine z_push c_173_68 ?_
    refine z_push c_173_69 ?_
    refine w_iload c_173_70 rfl ?_
    refine z_imul c_173_71 ?_
    refine z_iadd c_173_72 ?_
    refine z_push c_173_73 ?_
    refine z_iadd c_173_74 ?_
    refine w_iload c_173_75 rfl ?_
    refine z_iastore c_173_76 sp_202 (by omega) (by decide) ?_
    refine upG_k hF (Or.inr (Or.inr ⟨rfl, by omega⟩)) (fun I hi hF => ?_)
    have hN := hN.pi (j := de) (by omega) (by omega) hi
    have hkc := (congrFun (congrFun hi 202) 27).trans ((up_ne (by omega)).trans hkc)
    have hK : kpR I 202 0 K kc := fun i j e h1 h2 h3 h4 h5 => by rw [hi, up_ne (by omega)]; exact hK i j e h1 h2 h3 h4 h5
    refine w_aload c_173_77 rfl ?_
    refine w_getR c_173_78 sp_157 (by decide) rfl pr_157_58 ?_
    refine z_push c_173_81 ?_
    refine z_push c_173_82 ?_
    refine w_iload c_173_83 rfl ?_
    refine z_imul c_173_84 ?_
    refine z_iadd c_173_85 ?_
    refine z_push c_173_86 ?_
    refine z_iadd c_173_87 ?_
    refine z_push c_173_88 ?_
    refine z_iastore c_173_89 sp_202 (by omega) (by decide) ?_
    refine upG_k hF (Or.inr (Or.inr ⟨rfl, by omega⟩)) (fun I hi hF => ?_)
    have hN := hN.pa (j := de) (by omega) (by omega) hi
    have hkc := (congrFun (congrFun hi 202) 27).trans ((up_ne (by omega)).trans hkc)
    have hK : kpR I 202 0 K kc := fun i j e h1 h2 h3 h4 h5 => by rw [hi, up_ne (by omega)]; exact hK i j e h1 h2 h3 h4 h5
    refine w_aload c_173_90 rfl ?_
    refine z_getB c_173_91 sp_157 (by decide) rfl ((hF _ _ (by decide)).trans hth) ?_
    refine b_if_ne c_173_94 (fun h3_ => ?_) (fun h3_ => ?_)
    · exact absurd h3_ (by decide)
    refine w_aload c_173_97 rfl ?_
    refine w_iload c_173_98 rfl ?_
    refine w_iload c_173_99 rfl ?_
    refine w_iload c_173_100 rfl ?_
    refine wc_174 c_173_101 sp_157 (Nat.le_of_ble_eq_true rfl) (by omega) ?_
    refine t_isKept hN hkc h0 hK (fun I2 hN2 hkc2 hK2 hF2 => ?_)
    have hF3 : frG PTK _ I2 := (hF.mono (P2 := PTK) (fun q k z => by rcases z with z | z | z; exact Or.inl z; exact Or.inr (Or.inl z); exact Or.inr (Or.inr ⟨z.1, by omega⟩))).tr (hF2.mono (fun q k z => Or.inr (Or.inr ⟨z.1, z.2.2⟩)))
    refine r_v ?_
    refine w_iload c_173_104 rfl ?_
    refine z_ret c_173_105 rfl ?_
    refine k I2 L ?_ hkc2 hK2 hF3 hG
    unfold drawX
    refine hN2.cast rfl (by first | rfl | (show _ = b - dr; omega)) ?_ rfl rfl rfl
    show _ = (if 0 < b then g - g * dr / b else g)
    first
    | rw [if_pos (by omega)]
    | (rw [show dr = 0 by omega]; simp)

abbrev PKe (s : Nat) : Nat → Nat → Prop := fun q k => (q = 157 ∧ (k = 70 ∨ k = 71)) ∨ (q = 207 ∧ 188 * s ≤ k ∧ k < 188 * s + 188)
abbrev PU : Nat → Nat → Prop := fun q k => (q = 157 ∧ (k = 70 ∨ k = 71)) ∨ (q = 202 ∧ k < 188)
abbrev PK7 (s : Nat) : Nat → Nat → Prop := fun q k => q = 207 ∧ 188 * s ≤ k ∧ k < 188 * s + 188
theorem PK7.e {s : Nat} {I I2 : aFI} (h : frG (PK7 s) I I2) : frG (PKe s) I I2 := h.mono (fun q k z => Or.inr z)
set_option maxHeartbeats 2000000 in
theorem t_keeps_1 {d : Nat} {I0 : aFI} {L : aFL} {Q : aPo} {sh : Nat} {su : Option Nat} {s : Nat} (hs : s < 20) : ∀ (n : Nat) (i : Int) (I : aFI), (188 - i).toNat < n → (0 ≤ i) → (i ≤ 188) → (I 157 71 = iI (s : Int)) → (∀ k : Nat, k < i.toNat → I 207 (188 * s + k) = I0 202 k) → (frG (PK7 s) I0 I) → (∀ I2 : aFI, (∀ k : Nat, k < 188 → I2 207 (188 * s + k) = I0 202 k) → frG (PK7 s) I0 I2 → aWp none d 210 49 [.ref 157, .int (iI 188)] [] I2 L (aR sh su) Q) → aWp none d 210 15 [.ref 157, .int (iI i)] [] I L (aR sh su) Q := by
  intro n
  induction n with
  | zero => intro i I h; omega
  | succ n ih =>
    intro i I hn2 h0 h1 hnw hc hF k
    refine w_iload c_210_15 rfl ?_
    refine z_push c_210_16 ?_
    refine z_ic_ge c_210_19 (by first | exact aRg_of _ | (unfold aRg; omega)) (by first | exact aRg_of _ | (unfold aRg; omega)) (fun h1_ => ?_) (fun h1_ => ?_)
    · have e9 : i = 188 := by omega
      subst e9
      exact k I (fun j hj => hc j (by omega)) hF
    · refine w_aload c_210_22 rfl ?_
      refine w_getR c_210_23 sp_157 (by decide) rfl pr_157_69 ?_
      refine z_push c_210_26 ?_
      refine w_aload c_210_29 rfl ?_
      refine z_getZ c_210_30 sp_157 (by decide) rfl hnw ?_
      refine z_imul c_210_33 ?_
      refine w_iload c_210_34 rfl ?_
      refine z_iadd c_210_35 ?_
      refine w_aload c_210_36 rfl ?_
      refine w_getR c_210_37 sp_157 (by decide) rfl pr_157_58 ?_
      refine w_iload c_210_40 rfl ?_
      refine z_iaload c_210_41 sp_202 (by omega) (by first | decide | omega) (iI_of _) ?_
      refine z_iastore c_210_42 sp_207 (by omega) (by decide) ?_
      refine upG_k hF ⟨rfl, by omega, by omega⟩ (fun I2 hi hF2 => ?_)
      refine z_iinc c_210_43 rfl rfl ?_
      refine w_goto c_210_46 ?_
      refine ih (i + 1) I2 (by omega) (by omega) (by omega) (by rw [hi]; exact (up_ne (by omega)).trans hnw) (fun k hk => ?_) hF2 k
      rw [hi]
      by_cases hki : k = i.toNat
      · subst hki; refine (congrArg (aUp _ 207 _ _ 207) (show 188 * s + i.toNat = (188 * (s : Int) + i).toNat by omega)).trans (up_eq.trans ?_); rw [← iI_of]; exact hF _ _ (by omega)
      · rw [up_ne (by omega)]; exact hc k (by omega)

set_option maxHeartbeats 1000000 in
theorem t_keeps {d : Nat} {I : aFI} {L : aFL} {Q : aPo} {sh : Nat} {su : Option Nat} {nw ct : Int} (hnw : I 157 71 = iI nw) (hct : I 157 70 = iI ct) (h0 : 0 ≤ nw ∧ nw < 20) (h1 : 0 ≤ ct ∧ ct ≤ 20) (k : ∀ I2 : aFI, I2 157 71 = iI ((nw + 1) % 20) → I2 157 70 = iI (min 20 (ct + 1)) → (∀ k : Nat, k < 188 → I2 207 (188 * ((nw + 1) % 20).toNat + k) = I 202 k) → frG (PKe ((nw + 1) % 20).toNat) I I2 → Q none I2 L (aR sh su)) : aWp none d 210 0 [.ref 157, .null] [] I L (aR sh su) Q := by
  refine w_aload c_210_0 rfl ?_
  refine w_aload c_210_1 rfl ?_
  refine z_getZ c_210_2 sp_157 (by decide) rfl hnw ?_
  refine z_push c_210_5 ?_
  refine z_iadd c_210_6 ?_
  refine z_push c_210_7 ?_
  refine z_irem c_210_9 (by omega) (by omega) ?_
  refine z_putZ c_210_10 sp_157 (by decide) rfl ?_
  refine upG_k (frG.rf (P := PKe ((nw + 1) % 20).toNat) (I := I)) (Or.inl ⟨rfl, Or.inr rfl⟩) (fun I1 hi hF1 => ?_)
  have hnw1 : I1 157 71 = iI ((nw + 1) % 20) := by rw [hi]; exact up_eq
  refine z_push c_210_13 ?_
  refine w_istore c_210_14 (Nat.le_of_ble_eq_true rfl) rfl ?_
  refine t_keeps_1 (s := ((nw + 1) % 20).toNat) (by omega) _ 0 I1 (Nat.lt_succ_self _) (by omega) (by omega) (hnw1.trans (congrArg iI (by omega))) (fun k hk => absurd hk (by omega)) frG.rf (fun I2 hc hF2 => ?_)
  have hF3 := hF1.tr (PK7.e hF2)
  have hnw2 := hnw1
  have hc2 : ∀ k : Nat, k < 188 → I2 207 (188 * ((nw + 1) % 20).toNat + k) = I 202 k := fun k hk => (hc k hk).trans (hF1 202 k (by omega))
  have hct2 : I2 157 70 = iI ct := by rw [hF2 157 70 (by omega), hi, up_ne (by omega)]; exact hct
  refine w_aload c_210_49 rfl ?_
  refine z_getZ c_210_50 sp_157 (by decide) rfl hct2 ?_
  refine z_push c_210_53 ?_
  refine z_ic_ge c_210_55 (by first | exact aRg_of _ | (unfold aRg; omega)) (by first | exact aRg_of _ | (unfold aRg; omega)) (fun h21_ => ?_) (fun h21_ => ?_)
  · refine z_retv c_210_68 ?_
    first
    | exact k _ (by rw [hF2 157 71 (by omega)]; exact hnw2) (hct2.trans (congrArg iI (by omega))) hc2 hF3
    | exact k _ ((up_ne (by omega)).trans (by rw [hF2 157 71 (by omega)]; exact hnw2)) (up_eq.trans (congrArg iI (by omega))) (fun k hk => (up_ne (by omega)).trans (hc2 k hk)) (hF3.up (Or.inl ⟨rfl, Or.inl rfl⟩))
  · refine w_aload c_210_58 rfl ?_
    refine w_dup c_210_59 rfl ?_
    refine z_getZ c_210_60 sp_157 (by decide) rfl hct2 ?_
    refine z_push c_210_63 ?_
    refine z_iadd c_210_64 ?_
    refine z_putZ c_210_65 sp_157 (by decide) rfl ?_
    refine z_retv c_210_68 ?_
    first
    | exact k _ (by rw [hF2 157 71 (by omega)]; exact hnw2) (hct2.trans (congrArg iI (by omega))) hc2 hF3
    | exact k _ ((up_ne (by omega)).trans (by rw [hF2 157 71 (by omega)]; exact hnw2)) (up_eq.trans (congrArg iI (by omega))) (fun k hk => (up_ne (by omega)).trans (hc2 k hk)) (hF3.up (Or.inl ⟨rfl, Or.inl rfl⟩))

set_option maxHeartbeats 2000000 in
theorem t_undo_1 {d : Nat} {I0 : aFI} {L : aFL} {Q : aPo} {sh : Nat} {su : Option Nat} {s : Nat} (hs : s < 20) : ∀ (n : Nat) (i : Int) (I : aFI), (188 - i).toNat < n → (0 ≤ i) → (i ≤ 188) → (I 157 71 = iI (s : Int)) → (∀ k : Nat, k < i.toNat → I 202 k = I0 207 (188 * s + k)) → (frG (fun q k => q = 202 ∧ k < 188) I0 I) → (∀ I2 : aFI, (∀ k : Nat, k < 188 → I2 202 k = I0 207 (188 * s + k)) → frG (fun q k => q = 202 ∧ k < 188) I0 I2 → aWp none d 211 55 [.ref 157, .int (iI 188)] [] I2 L (aR sh su) Q) → aWp none d 211 21 [.ref 157, .int (iI i)] [] I L (aR sh su) Q := by
  intro n
  induction n with
  | zero => intro i I h; omega
  | succ n ih =>
    intro i I hn2 h0 h1 hnw hc hF k
    refine w_iload c_211_21 rfl ?_
    refine z_push c_211_22 ?_
    refine z_ic_ge c_211_25 (by first | exact aRg_of _ | (unfold aRg; omega)) (by first | exact aRg_of _ | (unfold aRg; omega)) (fun h1_ => ?_) (fun h1_ => ?_)
    · have e9 : i = 188 := by omega
      subst e9
      exact k I (fun j hj => hc j (by omega)) hF
    · refine w_aload c_211_28 rfl ?_
      refine w_getR c_211_29 sp_157 (by decide) rfl pr_157_58 ?_
      refine w_iload c_211_32 rfl ?_
      refine w_aload c_211_33 rfl ?_
      refine w_getR c_211_34 sp_157 (by decide) rfl pr_157_69 ?_
      refine z_push c_211_37 ?_
      refine w_aload c_211_40 rfl ?_
      refine z_getZ c_211_41 sp_157 (by decide) rfl hnw ?_
      refine z_imul c_211_44 ?_
      refine w_iload c_211_45 rfl ?_
      refine z_iadd c_211_46 ?_
      refine z_iaload c_211_47 sp_207 (by omega) (by first | decide | omega) (iI_of _) ?_
      refine z_iastore c_211_48 sp_202 (by omega) (by decide) ?_
      refine upG_k hF ⟨rfl, by omega⟩ (fun I2 hi hF2 => ?_)
      refine z_iinc c_211_49 rfl rfl ?_
      refine w_goto c_211_52 ?_
      refine ih (i + 1) I2 (by omega) (by omega) (by omega) (by rw [hi]; exact (up_ne (by omega)).trans hnw) (fun k hk => ?_) hF2 k
      rw [hi]
      by_cases hki : k = i.toNat
      · subst hki; refine up_eq.trans ?_; rw [← iI_of, show 188 * s + i.toNat = (188 * (s : Int) + i).toNat by omega]; exact hF _ _ (by omega)
      · rw [up_ne (by omega)]; exact hc k (by omega)

set_option maxHeartbeats 1000000 in
theorem t_undo {d : Nat} {I : aFI} {L : aFL} {Q : aPo} {sh : Nat} {su : Option Nat} {nw ct : Int} (hnw : I 157 71 = iI nw) (hct : I 157 70 = iI ct) (h0 : 0 ≤ nw ∧ nw < 20) (h1 : 0 ≤ ct ∧ ct ≤ 20) (k1 : ¬ ct = 0 → ∀ I2 : aFI, I2 157 71 = iI ((nw + 19) % 20) → I2 157 70 = iI (ct - 1) → (∀ k : Nat, k < 188 → I2 202 k = I 207 (188 * nw.toNat + k)) → frG PU I I2 → Q (some (.int (aBo true))) I2 L (aR sh su)) (k2 : ct = 0 → Q (some (.int (aBo false))) (aUp I 159 4 (iI ((I 159 4).toInt + 1))) L (aR sh su)) : aWp none d 211 0 [.ref 157, .null] [] I L (aR sh su) Q := by
  refine w_aload c_211_0 rfl ?_
  refine z_getZ c_211_1 sp_157 (by decide) rfl hct ?_
  refine z_if_ne c_211_4 (by first | exact aRg_of _ | (unfold aRg; omega)) (fun h1_ => ?_) (fun h1_ => ?_)
  · refine z_push c_211_19 ?_
    refine w_istore c_211_20 (Nat.le_of_ble_eq_true rfl) rfl ?_
    refine t_undo_1 (s := nw.toNat) (by omega) _ 0 I (Nat.lt_succ_self _) (by omega) (by omega) (hnw.trans (congrArg iI (by omega))) (fun k hk => absurd hk (by omega)) frG.rf (fun I2 hc hF => ?_)
    have hnw2 : I2 157 71 = iI nw := (hF 157 71 (by decide)).trans hnw
    have hct2 : I2 157 70 = iI ct := (hF 157 70 (by decide)).trans hct
    refine w_aload c_211_55 rfl ?_
    refine w_aload c_211_56 rfl ?_
    refine z_getZ c_211_57 sp_157 (by decide) rfl hnw2 ?_
    refine z_push c_211_60 ?_
    refine z_iadd c_211_62 ?_
    refine z_push c_211_63 ?_
    refine z_isub c_211_64 ?_
    refine z_push c_211_65 ?_
    refine z_irem c_211_67 (by omega) (by omega) ?_
    refine z_putZ c_211_68 sp_157 (by decide) rfl ?_
    refine w_aload c_211_71 rfl ?_
    refine w_dup c_211_72 rfl ?_
    refine z_getZ c_211_73 sp_157 (by decide) rfl ((up_ne (by omega)).trans hct2) ?_
    refine z_push c_211_76 ?_
    refine z_isub c_211_77 ?_
    refine z_putZ c_211_78 sp_157 (by decide) rfl ?_
    refine z_push c_211_81 ?_
    refine z_ret1 c_211_82 rfl ?_
    refine k1 (by omega) _ ((up_ne (by omega)).trans (up_eq.trans (congrArg iI (by omega)))) up_eq (fun k hk => (up_ne (by omega)).trans ((up_ne (by omega)).trans (hc k hk))) (((hF.mono (P2 := PU) (fun q k z => Or.inr z)).up (Or.inl ⟨rfl, Or.inr rfl⟩)).up (Or.inl ⟨rfl, Or.inl rfl⟩))
  · refine w_aload c_211_7 rfl ?_
    refine w_getR c_211_8 sp_157 (by decide) rfl pr_157_9 ?_
    refine z_push c_211_11 ?_
    refine w_dup2 c_211_12 rfl rfl ?_
    refine z_iaload c_211_13 sp_159 (by omega) (by first | decide | omega) (iI_of _) ?_
    refine z_push c_211_14 ?_
    refine z_iadd c_211_15 ?_
    refine z_iastore c_211_16 sp_159 (by omega) (by decide) ?_
    refine z_push c_211_17 ?_
    refine z_ret0 c_211_18 rfl ?_
    exact k2 (by omega)

