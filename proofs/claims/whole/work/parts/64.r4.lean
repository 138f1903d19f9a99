/-! the reference: its lake written, a season (p64.py) -/
/-- what may differ while the reference plays -/
abbrev PT : Nat → Nat → Prop := fun q k => (q = 157 ∧ (k = 104 ∨ k = 63)) ∨ q = 205 ∨ (q = 202 ∧ k < 27)
theorem PK.t {I I2 : aFI} (h : frG PK I I2) : frG PT I I2 := h.mono (fun q k z => Or.inl ⟨z.1, Or.inl z.2⟩)
theorem rW.pt {I I0 : aFI} {D : Nat → Int → Int} {cd : Nat → Option (List Int)} (h : rW I0 D cd) (hF : frG PT I0 I) : rW I D cd :=
  h.fr (fun q k h1 h2 => hF q k (by show ¬ ((q = 157 ∧ (k = 104 ∨ k = 63)) ∨ q = 205 ∨ (q = 202 ∧ k < 27)); omega)) (hF 157 56 (by decide))
section RNP
variable {I I2 : aFI} {c : Nat} {s b g : Int} {w : Nat} {ink age ink2 age2 : Int → Int} {j e v : Int}
theorem nLk.ext (h : nLk I c s b g w ink age) (he : ∀ j : Int, 0 ≤ j → j < 8 → ink j = ink2 j ∧ age j = age2 j) : nLk I c s b g w ink2 age2 := by
  refine ⟨h.1, h.2.1, h.2.2.1, fun j z1 z2 => ?_⟩
  have h1 := h.2.2.2 j z1 z2
  have h2 := he j z1 z2
  rw [← h2.1, ← h2.2]; exact h1
theorem nLk.ps (h : nLk I c s b g w ink age) (e : I2 = aUp I c 0 (iI v)) : nLk I2 c v b g w ink age := by
  subst e
  refine ⟨up_eq, (up_ne (by omega)).trans h.2.1, (up_ne (by omega)).trans h.2.2.1, fun j z1 z2 => ?_⟩
  rw [up_ne (by omega), up_ne (by omega), up_ne (by omega)]; exact h.2.2.2 j z1 z2
theorem nLk.pb (h : nLk I c s b g w ink age) (e : I2 = aUp I c 1 (iI v)) : nLk I2 c s v g w ink age := by
  subst e
  refine ⟨(up_ne (by omega)).trans h.1, up_eq, (up_ne (by omega)).trans h.2.2.1, fun j z1 z2 => ?_⟩
  rw [up_ne (by omega), up_ne (by omega), up_ne (by omega)]; exact h.2.2.2 j z1 z2
theorem nLk.pg (h : nLk I c s b g w ink age) (e : I2 = aUp I c 2 (iI v)) : nLk I2 c s b v w ink age := by
  subst e
  refine ⟨(up_ne (by omega)).trans h.1, (up_ne (by omega)).trans h.2.1, up_eq, fun j z1 z2 => ?_⟩
  rw [up_ne (by omega), up_ne (by omega), up_ne (by omega)]; exact h.2.2.2 j z1 z2
theorem tb_put {j : Int} (h0 : 0 ≤ j) {i : Int} (h1 : 0 ≤ i) : tb (w ||| 2 ^ j.toNat) i = if i = j then true else tb w i := by
  unfold tb
  rw [Nat.testBit_or, Nat.testBit_two_pow]
  by_cases h : i = j
  · subst h; simp
  · rw [if_neg h, decide_eq_false (by omega), Bool.or_false]
theorem nLk.pw (h : nLk I c s b g w ink age) (h0 : 0 ≤ j) (he : e = 3 + 3 * j) (hi : I2 = aUp I c e.toNat (iI 1)) : nLk I2 c s b g (w ||| 2 ^ j.toNat) ink age := by
  subst hi; subst he
  refine ⟨(up_ne (by omega)).trans h.1, (up_ne (by omega)).trans h.2.1, (up_ne (by omega)).trans h.2.2.1, fun i z1 z2 => ?_⟩
  rw [up_ne (k2 := (4 + 3 * i).toNat) (by omega), up_ne (k2 := (5 + 3 * i).toNat) (by omega), tb_put h0 z1]
  refine ⟨?_, (h.2.2.2 i z1 z2).2⟩
  by_cases hij : i = j
  · subst hij; rw [if_pos rfl, if_pos rfl]; exact up_eq
  · rw [up_ne (by omega), if_neg hij]; exact (h.2.2.2 i z1 z2).1
theorem nLk.pi (h : nLk I c s b g w ink age) (h0 : 0 ≤ j) (he : e = 4 + 3 * j) (hi : I2 = aUp I c e.toNat (iI v)) : nLk I2 c s b g w (cU ink j v) age := by
  subst hi; subst he
  refine ⟨(up_ne (by omega)).trans h.1, (up_ne (by omega)).trans h.2.1, (up_ne (by omega)).trans h.2.2.1, fun i z1 z2 => ?_⟩
  rw [up_ne (k2 := (3 + 3 * i).toNat) (by omega), up_ne (k2 := (5 + 3 * i).toNat) (by omega)]
  refine ⟨(h.2.2.2 i z1 z2).1, ?_, (h.2.2.2 i z1 z2).2.2⟩
  by_cases hij : i = j
  · subst hij; rw [cU_eq]; exact up_eq
  · rw [up_ne (by omega), cU_ne hij]; exact (h.2.2.2 i z1 z2).2.1
theorem nLk.pa (h : nLk I c s b g w ink age) (h0 : 0 ≤ j) (he : e = 5 + 3 * j) (hi : I2 = aUp I c e.toNat (iI v)) : nLk I2 c s b g w ink (cU age j v) := by
  subst hi; subst he
  refine ⟨(up_ne (by omega)).trans h.1, (up_ne (by omega)).trans h.2.1, (up_ne (by omega)).trans h.2.2.1, fun i z1 z2 => ?_⟩
  rw [up_ne (k2 := (3 + 3 * i).toNat) (by omega), up_ne (k2 := (4 + 3 * i).toNat) (by omega)]
  refine ⟨(h.2.2.2 i z1 z2).1, (h.2.2.2 i z1 z2).2.1, ?_⟩
  by_cases hij : i = j
  · subst hij; rw [cU_eq]; exact up_eq
  · rw [up_ne (by omega), cU_ne hij]; exact (h.2.2.2 i z1 z2).2.2
theorem nLk.cast {s2 b2 g2 : Int} {w2 : Nat} (h : nLk I c s b g w ink age) (h1 : s = s2) (h2 : b = b2) (h3 : g = g2) (h4 : w = w2) (h5 : ink = ink2) (h6 : age = age2) : nLk I c s2 b2 g2 w2 ink2 age2 := by subst h1; subst h2; subst h3; subst h4; subst h5; subst h6; exact h
theorem cU_id {f : Int → Int} (h : f j = v) : cU f j v = f := by
  funext i
  by_cases hij : i = j
  · subst hij; rw [cU_eq]; exact h.symm
  · exact cU_ne hij
end RNP
set_option maxHeartbeats 1000000 in
theorem t_writesOne {d : Nat} {I : aFI} {L : aFL} {Q : aPo} {sh : Nat} {su : Option Nat} {D : Nat → Int → Int} {cd : Nat → Option (List Int)} {X : Lk} (hS : wfS D cd) (hR : rS I D cd X) (hX : lkOK X) {de : Int} (hde : 0 ≤ de ∧ de < D 1 2) (hle : drwZ D cd X de ≤ X.2.1) (hth : I 157 61 = aBo true) (hd : 5 ≤ d) (k : ∀ (I2 : aFI) (L2 : aFL), rX I2 202 (drawX X de (drwZ D cd X de)) → frG PT I I2 → frG LK L L2 → Q (some (.int (iI (drwZ D cd X de)))) I2 L2 (aR sh su)) : aWp none d 173 0 [.ref 157, .int (iI de), .null, .null] [] I L (aR sh su) Q := by
  obtain ⟨s, b, g, w, ink, age⟩ := X
  have hx1 := hX.1
  have hx2 := hX.2.1
  have hx3 := hX.2.2.1
  have hx4 := hX.2.2.2.1
  have hx5 := hX.2.2.2.2
  have hdd := hS.n
  have hhh := hS.h
  simp only at hx1 hx2 hx3 hx4 hx5
  refine w_aload c_173_0 rfl ?_
  refine w_iload c_173_1 rfl ?_
  refine wc_171 c_173_2 sp_157 (Nat.le_of_ble_eq_true rfl) (by omega) ?_
  refine t_drawnBy (X := (s, b, g, w, ink, age)) hS hR hX hde (by omega) (fun I L hf hf2 => ?_)
  have hdw := drwZ_rg (X := (s, b, g, w, ink, age)) hS hde
  generalize drwZ D cd (s, b, g, w, ink, age) de = dr at *
  have hle : dr ≤ b := hle
  have hm := mul_rg (a := g) (b := dr) (A := 30000) (B := 9999) (by omega) (by omega)
  have hm2 : 0 < b → 0 ≤ g * dr / b ∧ g * dr / b ≤ g * dr := fun h => ed_rg (by omega) h
  have hF : frG PT _ I := PK.t hf
  have hG : frG LK _ L := hf2
  have hN : nLk I 202 s b g w ink age := (hR.pk hf).2
  refine r_i ?_
  refine w_istore c_173_5 (Nat.le_of_ble_eq_true rfl) rfl ?_
  refine w_aload c_173_6 rfl ?_
  refine wc_169 c_173_7 sp_157 (Nat.le_of_ble_eq_true rfl) (by omega) ?_
  refine t_darkNow (by omega) hN.2.1 hN.2.2.1 (by omega) (by omega) ?_
  refine r_i ?_
  refine w_istore c_173_10 (Nat.le_of_ble_eq_true rfl) rfl ?_
  refine w_iload c_173_11 rfl ?_
  refine z_if_le c_173_12 (by first | exact aRg_of _ | (unfold aRg; omega)) (fun h1_ => ?_) (fun h1_ => ?_)
  · refine w_aload c_173_53 rfl ?_
    refine w_getR c_173_54 sp_157 (by decide) rfl pr_157_58 ?_
    refine z_push c_173_57 ?_
    refine z_push c_173_58 ?_
    refine w_iload c_173_59 rfl ?_
    refine z_imul c_173_60 ?_
    refine z_iadd c_173_61 ?_
    refine z_push c_173_62 ?_
    refine z_iastore c_173_63 sp_202 (by omega) (by decide) ?_
    refine upG_k hF (Or.inr (Or.inr ⟨rfl, by omega⟩)) (fun I hi hF => ?_)
    have hN := hN.pw (j := de) (by omega) (by omega) hi
    refine w_aload c_173_64 rfl ?_
    refine w_getR c_173_65 sp_157 (by decide) rfl pr_157_58 ?_
    refine z_push c_173_68 ?_
    refine z_push c_173_69 ?_
    refine w_iload c_173_70 rfl ?_
    refine z_imul c_173_71 ?_
    refine z_iadd c_173_72 ?_
    refine z_push c_173_73 ?_
    refine z_iadd c_173_74 ?_
    refine w_iload c_173_75 rfl ?_
    refine z_iastore c_173_76 sp_202 (by omega) (by decide) ?_
    refine upG_k hF (Or.inr (Or.inr ⟨rfl, by omega⟩)) (fun I hi hF => ?_)
    have hN := hN.pi (j := de) (by omega) (by omega) hi
    refine w_aload c_173_77 rfl ?_
    refine w_getR c_173_78 sp_157 (by decide) rfl pr_157_58 ?_
    refine z_push c_173_81 ?_
    refine z_push c_173_82 ?_
    refine w_iload c_173_83 rfl ?_
    refine z_imul c_173_84 ?_
    refine z_iadd c_173_85 ?_
    refine z_push c_173_86 ?_
    refine z_iadd c_173_87 ?_
    refine z_push c_173_88 ?_
    refine z_iastore c_173_89 sp_202 (by omega) (by decide) ?_
    refine upG_k hF (Or.inr (Or.inr ⟨rfl, by omega⟩)) (fun I hi hF => ?_)
    have hN := hN.pa (j := de) (by omega) (by omega) hi
    refine w_aload c_173_90 rfl ?_
    refine z_getB c_173_91 sp_157 (by decide) rfl ((hF _ _ (by decide)).trans hth) ?_
    refine b_if_ne c_173_94 (fun h2_ => ?_) (fun h2_ => ?_)
    rotate_left
    · exact absurd h2_ (by decide)
    refine w_iload c_173_104 rfl ?_
    refine z_ret c_173_105 rfl ?_
    refine k I L ?_ hF hG
    unfold drawX
    refine hN.cast rfl (by first | rfl | (show _ = b - dr; omega)) ?_ rfl rfl rfl
    show _ = (if 0 < b then g - g * dr / b else g)
    first
    | rw [if_pos (by omega)]
    | (rw [show dr = 0 by omega]; simp)
  · refine w_aload c_173_15 rfl ?_
    refine w_getR c_173_16 sp_157 (by decide) rfl pr_157_58 ?_
    refine z_push c_173_19 ?_
    refine w_dup2 c_173_20 rfl rfl ?_
    refine z_iaload c_173_21 sp_202 (by omega) (by first | decide | omega) hN.2.2.1 ?_
    refine w_aload c_173_22 rfl ?_
    refine w_getR c_173_23 sp_157 (by decide) rfl pr_157_58 ?_
    refine z_push c_173_26 ?_
    refine z_iaload c_173_27 sp_202 (by omega) (by first | decide | omega) hN.2.2.1 ?_
    refine z_i2l c_173_28 (by first | exact aRg_of _ | (unfold aRg; omega)) ?_
    refine w_iload c_173_29 rfl ?_
    refine z_i2l c_173_30 (by first | exact aRg_of _ | (unfold aRg; omega)) ?_
    refine z_lmul c_173_31 ?_
    refine w_aload c_173_32 rfl ?_
    refine w_getR c_173_33 sp_157 (by decide) rfl pr_157_58 ?_
    refine z_push c_173_36 ?_
    refine z_iaload c_173_37 sp_202 (by omega) (by first | decide | omega) hN.2.1 ?_
    refine z_i2l c_173_38 (by first | exact aRg_of _ | (unfold aRg; omega)) ?_
    have hm2 := hm2 (by omega)
    refine z_ldiv c_173_39 (by omega) (by omega) ?_
    refine z_l2i c_173_40 ?_
    refine z_isub c_173_41 ?_
    refine z_iastore c_173_42 sp_202 (by omega) (by decide) ?_
    refine upG_k hF (Or.inr (Or.inr ⟨rfl, by omega⟩)) (fun I hi hF => ?_)
    have hN := hN.pg hi
    refine w_aload c_173_43 rfl ?_
    refine w_getR c_173_44 sp_157 (by decide) rfl pr_157_58 ?_
    refine z_push c_173_47 ?_
    refine w_dup2 c_173_48 rfl rfl ?_
    refine z_iaload c_173_49 sp_202 (by omega) (by first | decide | omega) hN.2.1 ?_
    refine w_iload c_173_50 rfl ?_
    refine z_isub c_173_51 ?_
    refine z_iastore c_173_52 sp_202 (by omega) (by decide) ?_
    refine upG_k hF (Or.inr (Or.inr ⟨rfl, by omega⟩)) (fun I hi hF => ?_)
    have hN := hN.pb hi
    refine w_aload c_173_53 rfl ?_
    refine w_getR c_173_54 sp_157 (by decide) rfl pr_157_58 ?_
    refine z_push c_173_57 ?_
    refine z_push c_173_58 ?_
    refine w_iload c_173_59 rfl ?_
    refine z_imul c_173_60 ?_
    refine z_iadd c_173_61 ?_
    refine z_push c_173_62 ?_
    refine z_iastore c_173_63 sp_202 (by omega) (by decide) ?_
    refine upG_k hF (Or.inr (Or.inr ⟨rfl, by omega⟩)) (fun I hi hF => ?_)
    have hN := hN.pw (j := de) (by omega) (by omega) hi
    refine w_aload c_173_64 rfl ?_
    refine w_getR c_173_65 sp_157 (by decide) rfl pr_157_58 ?_
    refine z_push c_173_68 ?_
    refine z_push c_173_69 ?_
    refine w_iload c_173_70 rfl ?_
    refine z_imul c_173_71 ?_
    refine z_iadd c_173_72 ?_
    refine z_push c_173_73 ?_
    refine z_iadd c_173_74 ?_
    refine w_iload c_173_75 rfl ?_
    refine z_iastore c_173_76 sp_202 (by omega) (by decide) ?_
    refine upG_k hF (Or.inr (Or.inr ⟨rfl, by omega⟩)) (fun I hi hF => ?_)
    have hN := hN.pi (j := de) (by omega) (by omega) hi
    refine w_aload c_173_77 rfl ?_
    refine w_getR c_173_78 sp_157 (by decide) rfl pr_157_58 ?_
    refine z_push c_173_81 ?_
    refine z_push c_173_82 ?_
    refine w_iload c_173_83 rfl ?_
    refine z_imul c_173_84 ?_
    refine z_iadd c_173_85 ?_
    refine z_push c_173_86 ?_
    refine z_iadd c_173_87 ?_
    refine z_push c_173_88 ?_
    refine z_iastore c_173_89 sp_202 (by omega) (by decide) ?_
    refine upG_k hF (Or.inr (Or.inr ⟨rfl, by omega⟩)) (fun I hi hF => ?_)
    have hN := hN.pa (j := de) (by omega) (by omega) hi
    refine w_aload c_173_90 rfl ?_
    refine z_getB c_173_91 sp_157 (by decide) rfl ((hF _ _ (by decide)).trans hth) ?_
    refine b_if_ne c_173_94 (fun h3_ => ?_) (fun h3_ => ?_)
    rotate_left
    · exact absurd h3_ (by decide)
    refine w_iload c_173_104 rfl ?_
    refine z_ret c_173_105 rfl ?_
    refine k I L ?_ hF hG
    unfold drawX
    refine hN.cast rfl (by first | rfl | (show _ = b - dr; omega)) ?_ rfl rfl rfl
    show _ = (if 0 < b then g - g * dr / b else g)
    first
    | rw [if_pos (by omega)]
    | (rw [show dr = 0 by omega]; simp)

/-- the rows of numbers put aside -/
abbrev asN (I : aFI) (J : aFI) : Prop := ∀ k : Nat, k < 27 → I 203 k = J 202 k
