/-! the class: the best share (p77.py) -/
theorem aLk_107 : aLk0 107 := Or.inr (Or.inr (Or.inl rfl))
/-- the share's numbers -/
def shI (I : aFI) (t : Nat) (v q : Int) (b : Nat × Int × Int) : Prop := I 106 1 = iI (t : Int) ∧ I 106 2 = iI v ∧ I 106 3 = iI q ∧ I 106 4 = iI (b.1 : Int) ∧ I 106 5 = iI b.2.1 ∧ I 106 6 = iI b.2.2
theorem shI.fr {I I2 : aFI} {t : Nat} {v q : Int} {b : Nat × Int × Int} (h : shI I t v q b) (h0 : ∀ k : Nat, 1 ≤ k → k ≤ 6 → I2 106 k = I 106 k) : shI I2 t v q b := by
  unfold shI at *
  rw [h0 1 (by omega) (by omega), h0 2 (by omega) (by omega), h0 3 (by omega) (by omega), h0 4 (by omega) (by omega), h0 5 (by omega) (by omega), h0 6 (by omega) (by omega)]; exact h
theorem shI.ne {I : aFI} {t : Nat} {v q : Int} {b : Nat × Int × Int} {p k : Nat} {x : Int32} (h : shI I t v q b) (hp : ¬ p = 106) : shI (aUp I p k x) t v q b := h.fr (fun k2 _ _ => up_ne (by omega))
theorem shI.p1 {I : aFI} {t t2 : Nat} {v q : Int} {b : Nat × Int × Int} (h : shI I t v q b) : shI (aUp I 106 1 (iI (t2 : Int))) t2 v q b := ⟨up_eq, (up_ne (by omega)).trans h.2.1, (up_ne (by omega)).trans h.2.2.1, (up_ne (by omega)).trans h.2.2.2.1, (up_ne (by omega)).trans h.2.2.2.2.1, (up_ne (by omega)).trans h.2.2.2.2.2⟩
theorem shI.p2 {I : aFI} {t : Nat} {v q v2 : Int} {b : Nat × Int × Int} (h : shI I t v q b) : shI (aUp I 106 2 (iI v2)) t v2 q b := ⟨(up_ne (by omega)).trans h.1, up_eq, (up_ne (by omega)).trans h.2.2.1, (up_ne (by omega)).trans h.2.2.2.1, (up_ne (by omega)).trans h.2.2.2.2.1, (up_ne (by omega)).trans h.2.2.2.2.2⟩
theorem shI.p3 {I : aFI} {t : Nat} {v q q2 : Int} {b : Nat × Int × Int} (h : shI I t v q b) : shI (aUp I 106 3 (iI q2)) t v q2 b := ⟨(up_ne (by omega)).trans h.1, (up_ne (by omega)).trans h.2.1, up_eq, (up_ne (by omega)).trans h.2.2.2.1, (up_ne (by omega)).trans h.2.2.2.2.1, (up_ne (by omega)).trans h.2.2.2.2.2⟩
theorem shI.p4 {I : aFI} {t t2 : Nat} {v q : Int} {b : Nat × Int × Int} (h : shI I t v q b) : shI (aUp I 106 4 (iI (t2 : Int))) t v q (t2, b.2) := ⟨(up_ne (by omega)).trans h.1, (up_ne (by omega)).trans h.2.1, (up_ne (by omega)).trans h.2.2.1, up_eq, (up_ne (by omega)).trans h.2.2.2.2.1, (up_ne (by omega)).trans h.2.2.2.2.2⟩
theorem shI.p5 {I : aFI} {t : Nat} {v q v2 : Int} {b : Nat × Int × Int} (h : shI I t v q b) : shI (aUp I 106 5 (iI v2)) t v q (b.1, v2, b.2.2) := ⟨(up_ne (by omega)).trans h.1, (up_ne (by omega)).trans h.2.1, (up_ne (by omega)).trans h.2.2.1, (up_ne (by omega)).trans h.2.2.2.1, up_eq, (up_ne (by omega)).trans h.2.2.2.2.2⟩
theorem shI.p6 {I : aFI} {t : Nat} {v q q2 : Int} {b : Nat × Int × Int} (h : shI I t v q b) : shI (aUp I 106 6 (iI q2)) t v q (b.1, b.2.1, q2) := ⟨(up_ne (by omega)).trans h.1, (up_ne (by omega)).trans h.2.1, (up_ne (by omega)).trans h.2.2.1, (up_ne (by omega)).trans h.2.2.2.1, (up_ne (by omega)).trans h.2.2.2.2.1, up_eq⟩
abbrev P106 : Nat → Prop := fun p => p = 106
abbrev PSH : Nat → Prop := fun p => p = 43 ∨ (106 ≤ p ∧ p ≤ 109)
abbrev bOK (b : Nat × Int × Int) : Prop := b.1 < 256 ∧ (-1 ≤ b.2.1 ∧ b.2.1 ≤ 2000) ∧ (0 ≤ b.2.2 ∧ b.2.2 ≤ 200000)
set_option maxHeartbeats 1000000 in
theorem tc_compare {d : Nat} {I : aFI} {L : aFL} {Q : aPo} {sh : Nat} {su : Option Nat} {t : Nat} {v q : Int} {b : Nat × Int × Int} (hs : shI I t v q b) (ht : t < 256) (hv : 0 ≤ v ∧ v ≤ 2000) (hq : 0 ≤ q ∧ q ≤ 200000) (hb : bOK b) (k : ∀ I2 : aFI, shI I2 t v q (chU t v q b) → frP P106 I I2 → Q none I2 L (aR sh su)) : aWp none d 62 0 [.ref 106, .null] [] I L (aR sh su) Q := by
  have hF : frP P106 I I := frP.rf
  have hb1 := hb.1
  have hb2 := hb.2.1
  have hb3 := hb.2.2
  refine w_aload c_62_0 rfl ?_
  refine z_getZ c_62_1 sp_106 (by decide) rfl hs.2.2.1 ?_
  refine w_aload c_62_4 rfl ?_
  refine z_getZ c_62_5 sp_106 (by decide) rfl hs.2.2.2.2.2 ?_
  refine z_ic_lt c_62_8 (by first | exact aRg_of _ | (unfold aRg; omega)) (by first | exact aRg_of _ | (unfold aRg; omega)) (fun h1_ => ?_) (fun h1_ => ?_)
  · refine z_push c_62_33 ?_
    refine w_goto c_62_34 ?_
    refine w_istore c_62_38 (Nat.le_of_ble_eq_true rfl) rfl ?_
    refine w_aload c_62_39 rfl ?_
    refine z_getZ c_62_40 sp_106 (by decide) rfl hs.2.1 ?_
    refine w_aload c_62_43 rfl ?_
    refine z_getZ c_62_44 sp_106 (by decide) rfl hs.2.2.2.2.1 ?_
    refine z_ic_gt c_62_47 (by first | exact aRg_of _ | (unfold aRg; omega)) (by first | exact aRg_of _ | (unfold aRg; omega)) (fun h2_ => ?_) (fun h2_ => ?_)
    · refine w_aload c_62_65 rfl ?_
      refine w_aload c_62_66 rfl ?_
      refine z_getZ c_62_67 sp_106 (by decide) rfl hs.1 ?_
      refine z_putZ c_62_70 sp_106 (by decide) rfl ?_
      refine up_k hF rfl (fun I hi hF => ?_)
      replace hs := hi ▸ hs.p4
      refine w_aload c_62_73 rfl ?_
      refine w_aload c_62_74 rfl ?_
      refine z_getZ c_62_75 sp_106 (by decide) rfl hs.2.1 ?_
      refine z_putZ c_62_78 sp_106 (by decide) rfl ?_
      refine up_k hF rfl (fun I hi hF => ?_)
      replace hs := hi ▸ hs.p5
      refine w_aload c_62_81 rfl ?_
      refine w_aload c_62_82 rfl ?_
      refine z_getZ c_62_83 sp_106 (by decide) rfl hs.2.2.1 ?_
      refine z_putZ c_62_86 sp_106 (by decide) rfl ?_
      refine up_k hF rfl (fun I hi hF => ?_)
      replace hs := hi ▸ hs.p6
      refine z_retv c_62_89 ?_
      first
      | (refine k I ?_ hF
         unfold chU; rw [if_pos (by omega)]; exact hs)
      | (refine k I ?_ hF
         unfold chU; rw [if_neg (by omega)]; exact hs)
    · refine w_aload c_62_50 rfl ?_
      refine z_getZ c_62_51 sp_106 (by decide) rfl hs.2.1 ?_
      refine w_aload c_62_54 rfl ?_
      refine z_getZ c_62_55 sp_106 (by decide) rfl hs.2.2.2.2.1 ?_
      refine z_ic_ne c_62_58 (by first | exact aRg_of _ | (unfold aRg; omega)) (by first | exact aRg_of _ | (unfold aRg; omega)) (fun h3_ => ?_) (fun h3_ => ?_)
      · refine z_retv c_62_89 ?_
        first
        | (refine k I ?_ hF
           unfold chU; rw [if_pos (by omega)]; exact hs)
        | (refine k I ?_ hF
           unfold chU; rw [if_neg (by omega)]; exact hs)
      · refine w_iload c_62_61 rfl ?_
        refine z_if_eq c_62_62 (by first | exact aRg_of _ | (unfold aRg; omega)) (fun h4_ => absurd h4_ (by decide)) (fun h4_ => ?_)
        refine w_aload c_62_65 rfl ?_
        refine w_aload c_62_66 rfl ?_
        refine z_getZ c_62_67 sp_106 (by decide) rfl hs.1 ?_
        refine z_putZ c_62_70 sp_106 (by decide) rfl ?_
        refine up_k hF rfl (fun I hi hF => ?_)
        replace hs := hi ▸ hs.p4
        refine w_aload c_62_73 rfl ?_
        refine w_aload c_62_74 rfl ?_
        refine z_getZ c_62_75 sp_106 (by decide) rfl hs.2.1 ?_
        refine z_putZ c_62_78 sp_106 (by decide) rfl ?_
        refine up_k hF rfl (fun I hi hF => ?_)
        replace hs := hi ▸ hs.p5
        refine w_aload c_62_81 rfl ?_
        refine w_aload c_62_82 rfl ?_
        refine z_getZ c_62_83 sp_106 (by decide) rfl hs.2.2.1 ?_
        refine z_putZ c_62_86 sp_106 (by decide) rfl ?_
        refine up_k hF rfl (fun I hi hF => ?_)
        replace hs := hi ▸ hs.p6
        refine z_retv c_62_89 ?_
        first
        | (refine k I ?_ hF
           unfold chU; rw [if_pos (by omega)]; exact hs)
        | (refine k I ?_ hF
           unfold chU; rw [if_neg (by omega)]; exact hs)
  · refine w_aload c_62_11 rfl ?_
    refine z_getZ c_62_12 sp_106 (by decide) rfl hs.2.2.1 ?_
    refine w_aload c_62_15 rfl ?_
    refine z_getZ c_62_16 sp_106 (by decide) rfl hs.2.2.2.2.2 ?_
    refine z_ic_ne c_62_19 (by first | exact aRg_of _ | (unfold aRg; omega)) (by first | exact aRg_of _ | (unfold aRg; omega)) (fun h5_ => ?_) (fun h5_ => ?_)
    · refine z_push c_62_37 ?_
      refine w_istore c_62_38 (Nat.le_of_ble_eq_true rfl) rfl ?_
      refine w_aload c_62_39 rfl ?_
      refine z_getZ c_62_40 sp_106 (by decide) rfl hs.2.1 ?_
      refine w_aload c_62_43 rfl ?_
      refine z_getZ c_62_44 sp_106 (by decide) rfl hs.2.2.2.2.1 ?_
      refine z_ic_gt c_62_47 (by first | exact aRg_of _ | (unfold aRg; omega)) (by first | exact aRg_of _ | (unfold aRg; omega)) (fun h6_ => ?_) (fun h6_ => ?_)
      · refine w_aload c_62_65 rfl ?_
        refine w_aload c_62_66 rfl ?_
        refine z_getZ c_62_67 sp_106 (by decide) rfl hs.1 ?_
        refine z_putZ c_62_70 sp_106 (by decide) rfl ?_
        refine up_k hF rfl (fun I hi hF => ?_)
        replace hs := hi ▸ hs.p4
        refine w_aload c_62_73 rfl ?_
        refine w_aload c_62_74 rfl ?_
        refine z_getZ c_62_75 sp_106 (by decide) rfl hs.2.1 ?_
        refine z_putZ c_62_78 sp_106 (by decide) rfl ?_
        refine up_k hF rfl (fun I hi hF => ?_)
        replace hs := hi ▸ hs.p5
        refine w_aload c_62_81 rfl ?_
        refine w_aload c_62_82 rfl ?_
        refine z_getZ c_62_83 sp_106 (by decide) rfl hs.2.2.1 ?_
        refine z_putZ c_62_86 sp_106 (by decide) rfl ?_
        refine up_k hF rfl (fun I hi hF => ?_)
        replace hs := hi ▸ hs.p6
        refine z_retv c_62_89 ?_
        first
        | (refine k I ?_ hF
           unfold chU; rw [if_pos (by omega)]; exact hs)
        | (refine k I ?_ hF
           unfold chU; rw [if_neg (by omega)]; exact hs)
      · refine w_aload c_62_50 rfl ?_
        refine z_getZ c_62_51 sp_106 (by decide) rfl hs.2.1 ?_
        refine w_aload c_62_54 rfl ?_
        refine z_getZ c_62_55 sp_106 (by decide) rfl hs.2.2.2.2.1 ?_
        refine z_ic_ne c_62_58 (by first | exact aRg_of _ | (unfold aRg; omega)) (by first | exact aRg_of _ | (unfold aRg; omega)) (fun h7_ => ?_) (fun h7_ => ?_)
        · refine z_retv c_62_89 ?_
          first
          | (refine k I ?_ hF
             unfold chU; rw [if_pos (by omega)]; exact hs)
          | (refine k I ?_ hF
             unfold chU; rw [if_neg (by omega)]; exact hs)
        · refine w_iload c_62_61 rfl ?_
          refine z_if_eq c_62_62 (by first | exact aRg_of _ | (unfold aRg; omega)) (fun h8_ => ?_) (fun h8_ => absurd (by decide) h8_)
          refine z_retv c_62_89 ?_
          first
          | (refine k I ?_ hF
             unfold chU; rw [if_pos (by omega)]; exact hs)
          | (refine k I ?_ hF
             unfold chU; rw [if_neg (by omega)]; exact hs)
    · refine w_aload c_62_22 rfl ?_
      refine z_getZ c_62_23 sp_106 (by decide) rfl hs.1 ?_
      refine w_aload c_62_26 rfl ?_
      refine z_getZ c_62_27 sp_106 (by decide) rfl hs.2.2.2.1 ?_
      refine z_ic_ge c_62_30 (by first | exact aRg_of _ | (unfold aRg; omega)) (by first | exact aRg_of _ | (unfold aRg; omega)) (fun h9_ => ?_) (fun h9_ => ?_)
      · refine z_push c_62_37 ?_
        refine w_istore c_62_38 (Nat.le_of_ble_eq_true rfl) rfl ?_
        refine w_aload c_62_39 rfl ?_
        refine z_getZ c_62_40 sp_106 (by decide) rfl hs.2.1 ?_
        refine w_aload c_62_43 rfl ?_
        refine z_getZ c_62_44 sp_106 (by decide) rfl hs.2.2.2.2.1 ?_
        refine z_ic_gt c_62_47 (by first | exact aRg_of _ | (unfold aRg; omega)) (by first | exact aRg_of _ | (unfold aRg; omega)) (fun h10_ => ?_) (fun h10_ => ?_)
        · refine w_aload c_62_65 rfl ?_
          refine w_aload c_62_66 rfl ?_
          refine z_getZ c_62_67 sp_106 (by decide) rfl hs.1 ?_
          refine z_putZ c_62_70 sp_106 (by decide) rfl ?_
          refine up_k hF rfl (fun I hi hF => ?_)
          replace hs := hi ▸ hs.p4
          refine w_aload c_62_73 rfl ?_
          refine w_aload c_62_74 rfl ?_
          refine z_getZ c_62_75 sp_106 (by decide) rfl hs.2.1 ?_
          refine z_putZ c_62_78 sp_106 (by decide) rfl ?_
          refine up_k hF rfl (fun I hi hF => ?_)
          replace hs := hi ▸ hs.p5
          refine w_aload c_62_81 rfl ?_
          refine w_aload c_62_82 rfl ?_
          refine z_getZ c_62_83 sp_106 (by decide) rfl hs.2.2.1 ?_
          refine z_putZ c_62_86 sp_106 (by decide) rfl ?_
          refine up_k hF rfl (fun I hi hF => ?_)
          replace hs := hi ▸ hs.p6
          refine z_retv c_62_89 ?_
          first
          | (refine k I ?_ hF
             unfold chU; rw [if_pos (by omega)]; exact hs)
          | (refine k I ?_ hF
             unfold chU; rw [if_neg (by omega)]; exact hs)
        · refine w_aload c_62_50 rfl ?_
          refine z_getZ c_62_51 sp_106 (by decide) rfl hs.2.1 ?_
          refine w_aload c_62_54 rfl ?_
          refine z_getZ c_62_55 sp_106 (by decide) rfl hs.2.2.2.2.1 ?_
          refine z_ic_ne c_62_58 (by first | exact aRg_of _ | (unfold aRg; omega)) (by first | exact aRg_of _ | (unfold aRg; omega)) (fun h11_ => ?_) (fun h11_ => ?_)
          · refine z_retv c_62_89 ?_
            first
            | (refine k I ?_ hF
               unfold chU; rw [if_pos (by omega)]; exact hs)
            | (refine k I ?_ hF
               unfold chU; rw [if_neg (by omega)]; exact hs)
          · refine w_iload c_62_61 rfl ?_
            refine z_if_eq c_62_62 (by first | exact aRg_of _ | (unfold aRg; omega)) (fun h12_ => ?_) (fun h12_ => absurd (by decide) h12_)
            refine z_retv c_62_89 ?_
            first
            | (refine k I ?_ hF
               unfold chU; rw [if_pos (by omega)]; exact hs)
            | (refine k I ?_ hF
               unfold chU; rw [if_neg (by omega)]; exact hs)
      · refine z_push c_62_33 ?_
        refine w_goto c_62_34 ?_
        refine w_istore c_62_38 (Nat.le_of_ble_eq_true rfl) rfl ?_
        refine w_aload c_62_39 rfl ?_
        refine z_getZ c_62_40 sp_106 (by decide) rfl hs.2.1 ?_
        refine w_aload c_62_43 rfl ?_
        refine z_getZ c_62_44 sp_106 (by decide) rfl hs.2.2.2.2.1 ?_
        refine z_ic_gt c_62_47 (by first | exact aRg_of _ | (unfold aRg; omega)) (by first | exact aRg_of _ | (unfold aRg; omega)) (fun h13_ => ?_) (fun h13_ => ?_)
        · refine w_aload c_62_65 rfl ?_
          refine w_aload c_62_66 rfl ?_
          refine z_getZ c_62_67 sp_106 (by decide) rfl hs.1 ?_
          refine z_putZ c_62_70 sp_106 (by decide) rfl ?_
          refine up_k hF rfl (fun I hi hF => ?_)
          replace hs := hi ▸ hs.p4
          refine w_aload c_62_73 rfl ?_
          refine w_aload c_62_74 rfl ?_
          refine z_getZ c_62_75 sp_106 (by decide) rfl hs.2.1 ?_
          refine z_putZ c_62_78 sp_106 (by decide) rfl ?_
          refine up_k hF rfl (fun I hi hF => ?_)
          replace hs := hi ▸ hs.p5
          refine w_aload c_62_81 rfl ?_
          refine w_aload c_62_82 rfl ?_
          refine z_getZ c_62_83 sp_106 (by decide) rfl hs.2.2.1 ?_
          refine z_putZ c_62_86 sp_106 (by decide) rfl ?_
          refine up_k hF rfl (fun I hi hF => ?_)
          replace hs := hi ▸ hs.p6
          refine z_retv c_62_89 ?_
          first
          | (refine k I ?_ hF
             unfold chU; rw [if_pos (by omega)]; exact hs)
          | (refine k I ?_ hF
             unfold chU; rw [if_neg (by omega)]; exact hs)
        · refine w_aload c_62_50 rfl ?_
          refine z_getZ c_62_51 sp_106 (by decide) rfl hs.2.1 ?_
          refine w_aload c_62_54 rfl ?_
          refine z_getZ c_62_55 sp_106 (by decide) rfl hs.2.2.2.2.1 ?_
          refine z_ic_ne c_62_58 (by first | exact aRg_of _ | (unfold aRg; omega)) (by first | exact aRg_of _ | (unfold aRg; omega)) (fun h14_ => ?_) (fun h14_ => ?_)
          · refine z_retv c_62_89 ?_
            first
            | (refine k I ?_ hF
               unfold chU; rw [if_pos (by omega)]; exact hs)
            | (refine k I ?_ hF
               unfold chU; rw [if_neg (by omega)]; exact hs)
          · refine w_iload c_62_61 rfl ?_
            refine z_if_eq c_62_62 (by first | exact aRg_of _ | (unfold aRg; omega)) (fun h15_ => absurd h15_ (by decide)) (fun h15_ => ?_)
            refine w_aload c_62_65 rfl ?_
            refine w_aload c_62_66 rfl ?_
            refine z_getZ c_62_67 sp_106 (by decide) rfl hs.1 ?_
            refine z_putZ c_62_70 sp_106 (by decide) rfl ?_
            refine up_k hF rfl (fun I hi hF => ?_)
            replace hs := hi ▸ hs.p4
            refine w_aload c_62_73 rfl ?_
            refine w_aload c_62_74 rfl ?_
            refine z_getZ c_62_75 sp_106 (by decide) rfl hs.2.1 ?_
            refine z_putZ c_62_78 sp_106 (by decide) rfl ?_
            refine up_k hF rfl (fun I hi hF => ?_)
            replace hs := hi ▸ hs.p5
            refine w_aload c_62_81 rfl ?_
            refine w_aload c_62_82 rfl ?_
            refine z_getZ c_62_83 sp_106 (by decide) rfl hs.2.2.1 ?_
            refine z_putZ c_62_86 sp_106 (by decide) rfl ?_
            refine up_k hF rfl (fun I hi hF => ?_)
            replace hs := hi ▸ hs.p6
            refine z_retv c_62_89 ?_
            first
            | (refine k I ?_ hF
               unfold chU; rw [if_pos (by omega)]; exact hs)
            | (refine k I ?_ hF
               unfold chU; rw [if_neg (by omega)]; exact hs)

theorem cb_same {D : Nat → Int → Int} {cd : Nat → Option (List Int)} {Y : Lk} {ink age : Int → Int} {de : Int} : cbZ D cd (Y.1, Y.2.1, Y.2.2.1, Y.2.2.2.1, ink, age) de = cbZ D cd Y de := rfl
theorem dr_same {D : Nat → Int → Int} {cd : Nat → Option (List Int)} {Y : Lk} {ink age : Int → Int} {de : Int} : drwZ D cd (Y.1, Y.2.1, Y.2.2.1, Y.2.2.2.1, ink, age) de = drwZ D cd Y de := rfl
theorem shS_ok {D : Nat → Int → Int} {cd : Nat → Option (List Int)} {X : Lk} {t : Nat} (hS : wfS D cd) (hX : lkOK X) : ∀ i : Nat, (i : Int) ≤ D 1 2 → shO D cd X t i = true → lkOK (shS D cd X t i)
  | 0, _, _ => hX
  | i + 1, h, ho => by
    have hdd := hS.n
    simp only [shO] at ho; rw [Bool.and_eq_true] at ho
    have ih := shS_ok (t := t) hS hX i (by omega) ho.1
    simp only [shS]
    split
    · rename_i hb
      have hc : cbZ D cd (shS D cd X t i) i = true := by have := ho.2; rw [hb, Bool.not_true, Bool.false_or] at this; exact this
      have h1 := cbZ_le hc
      have h2 := drwZ_rg (X := shS D cd X t i) (de := i) hS (by omega)
      exact drawX_ok ih (by omega) (by omega)
    · exact ih
theorem shQ_rg {D : Nat → Int → Int} {cd : Nat → Option (List Int)} {X : Lk} {t : Nat} (hS : wfS D cd) : ∀ i : Nat, (i : Int) ≤ D 1 2 → (0 ≤ shQ D cd X t i ∧ shQ D cd X t i ≤ 9999 * i) ∧ (0 ≤ shV D t i ∧ shV D t i ≤ 99 * i)
  | 0, _ => by unfold shQ shV; omega
  | i + 1, h => by
    have ih := shQ_rg (cd := cd) (X := X) (t := t) hS i (by omega)
    have h2 := drwZ_rg (cd := cd) (X := shS D cd X t i) (de := i) hS (by omega)
    have h3 := hS.de (j := i) (by omega) (by omega)
    simp only [shQ, shV]
    constructor <;> split <;> omega
theorem chU_ok {t : Nat} {v q : Int} {b : Nat × Int × Int} (ht : t < 256) (hv : 0 ≤ v ∧ v ≤ 2000) (hq : 0 ≤ q ∧ q ≤ 200000) (hb : bOK b) : bOK (chU t v q b) := by
  unfold chU; split
  · exact ⟨ht, ⟨by show (-1 : Int) ≤ v; omega, hv.2⟩, hq⟩
  · exact hb
theorem chF_ok {D : Nat → Int → Int} {cd : Nat → Option (List Int)} {X : Lk} {n : Nat} (hS : wfS D cd) (hn : (n : Int) = D 1 2) : ∀ (r : Nat) {t : Nat} {b : Nat × Int × Int}, t < 256 → bOK b → bOK (chF D cd X n r t b)
  | 0, t, b, ht, hb => by
    have h := shQ_rg (cd := cd) (X := X) (t := t) hS n (by omega)
    have hdd := hS.n
    exact chU_ok ht (by omega) (by omega) hb
  | r + 1, t, b, ht, hb => by
    have hdd := hS.n
    have h1 := chF_ok (X := X) hS hn r ht hb
    simp only [chF]
    split
    · exact chF_ok hS hn r (or_lt (n := 8) ht (Nat.pow_lt_pow_right (by omega) (by omega))) h1
    · exact h1
theorem ld_back {a i : Nat} (h : a.testBit i = false) : ld (a ||| 2 ^ i) (2 ^ i) = a := by
  apply Nat.eq_of_testBit_eq; intro j
  rw [ld_tb, Nat.testBit_or, Nat.testBit_two_pow]
  by_cases hj : i = j
  · subst hj; rw [h]; simp
  · rw [decide_eq_false hj]; simp
set_option maxHeartbeats 2000000 in
theorem tc_choose {D : Nat → Int → Int} {cd : Nat → Option (List Int)} {X : Lk} {kc : Int} {n : Nat} {L : aFL} {sh : Nat} {su : Option Nat} (hsh : sh = 8 ∨ sh = 22) (hS : wfS D cd) (hX : lkOK X) (hn : (n : Int) = D 1 2) : ∀ (r : Nat) {d : Nat} {Q : aPo} {i t : Nat} {I : aFI} {b : Nat × Int × Int} {ink age : Int → Int}, i + r = n → t < 2 ^ i → shO D cd X t i = true → cW I sh D cd → isLk I 107 (shS D cd X t i).1 (shS D cd X t i).2.1 (shS D cd X t i).2.2.1 (shS D cd X t i).2.2.2.1 kc ink age → (∀ j : Int, 0 ≤ j → j < 8 → (0 ≤ ink j ∧ ink j ≤ 9999) ∧ (0 ≤ age j ∧ age j ≤ 99)) → shI I t (shV D t i) (shQ D cd X t i) b → bOK b → (-1000000 ≤ (I 42 1).toInt ∧ (I 42 1).toInt ≤ 1000000) → r + 10 ≤ d → (∀ (I2 : aFI) (ink2 age2 : Int → Int), isLk I2 107 (shS D cd X t i).1 (shS D cd X t i).2.1 (shS D cd X t i).2.2.1 (shS D cd X t i).2.2.2.1 kc ink2 age2 → (∀ j : Int, 0 ≤ j → j < 8 → (0 ≤ ink2 j ∧ ink2 j ≤ 9999) ∧ (0 ≤ age2 j ∧ age2 j ≤ 99)) → shI I2 t (shV D t i) (shQ D cd X t i) (chF D cd X n r t b) → frP PSH I I2 → Q none I2 L (aR sh su)) → aWp none d 117 0 [.ref 0, .int (iI (i : Int)), .null, .null, .null, .null] [] I L (aR sh su) Q := by
  intro r
  induction r with
  | zero =>
    intro d Q i t I b ink age hi ht ho hW hL hx hs hb hdr hd k
    have hdd := hS.n
    have hni : i = n := by omega
    subst hni
    have h8 : 2 ^ i ≤ 2 ^ 8 := Nat.pow_le_pow_right (by omega) (by omega)
    have hq := shQ_rg (cd := cd) (X := X) (t := t) hS i (by omega)
    refine w_iload c_117_0 rfl ?_
    refine w_aload c_117_1 rfl ?_
    refine w_getR c_117_2 sp_0 (by decide) rfl pr_0_3 ?_
    refine w_getR c_117_5 (sps_0 hsh) (by decide) rfl (prs_4 hsh) ?_
    refine z_push c_117_8 ?_
    refine z_iaload c_117_9 (sps_1 hsh) (by omega) (by first | decide | omega) (hW.1.a 1 (by omega) (by omega)) ?_
    refine z_ic_ge c_117_10 (by first | exact aRg_of _ | (unfold aRg; omega)) (by first | exact aRg_of _ | (unfold aRg; omega)) (fun h1_ => ?_) (fun h1_ => ?_)
    rotate_left
    · exfalso; omega
    refine w_aload c_117_19 rfl ?_
    refine w_getR c_117_20 sp_0 (by decide) rfl pr_0_9 ?_
    refine wc_62 c_117_23 sp_106 (Nat.le_of_ble_eq_true rfl) (by omega) ?_
    refine tc_compare hs (by omega) (by omega) (by omega) hb (fun I2 hs2 hF2 => ?_)
    refine r_v ?_
    refine z_retv c_117_26 ?_
    exact k I2 ink age (hL.fr (fun p k z1 z2 => hF2 p k (by show ¬ p = 106; omega))) hx hs2 (hF2.mono (fun p hp => Or.inr (by have : p = 106 := hp; omega)))
  | succ r ih =>
    intro d Q i t I b ink age hi ht ho hW hL hx hs hb hdr hd k
    have hdd := hS.n
    have hir : n - (r + 1) = i := by omega
    have hY := shS_ok (t := t) hS hX i (by omega) ho
    have hYt : lkOK ((shS D cd X t i).1, (shS D cd X t i).2.1, (shS D cd X t i).2.2.1, (shS D cd X t i).2.2.2.1, ink, age) := ⟨hY.1, hY.2.1, hY.2.2.1, hY.2.2.2.1, hx⟩
    have h8 : 2 ^ i ≤ 2 ^ 7 := Nat.pow_le_pow_right (by omega) (by omega)
    have hq := shQ_rg (cd := cd) (X := X) (t := t) hS i (by omega)
    have hoff := sh_off (D := D) (cd := cd) (X := X) (bit_top ht)
    have hon := sh_on (D := D) (cd := cd) (X := X) (t := t) (i := i)
    have hlt : t < 2 ^ (i + 1) := Nat.lt_of_lt_of_le ht (Nat.pow_le_pow_right (by omega) (by omega))
    have hde := hS.de (j := (i : Int)) (by omega) (by omega)
    refine w_iload c_117_0 rfl ?_
    refine w_aload c_117_1 rfl ?_
    refine w_getR c_117_2 sp_0 (by decide) rfl pr_0_3 ?_
    refine w_getR c_117_5 (sps_0 hsh) (by decide) rfl (prs_4 hsh) ?_
    refine z_push c_117_8 ?_
    refine z_iaload c_117_9 (sps_1 hsh) (by omega) (by first | decide | omega) (hW.1.a 1 (by omega) (by omega)) ?_
    refine z_ic_ge c_117_10 (by first | exact aRg_of _ | (unfold aRg; omega)) (by first | exact aRg_of _ | (unfold aRg; omega)) (fun h1_ => ?_) (fun h1_ => ?_)
    · exfalso; omega
    refine w_iload c_117_13 rfl ?_
    refine z_push c_117_14 ?_
    refine z_ic_lt c_117_16 (by first | exact aRg_of _ | (unfold aRg; omega)) (by first | exact aRg_of _ | (unfold aRg; omega)) (fun h2_ => ?_) (fun h2_ => ?_)
    rotate_left
    · exfalso; omega
    refine w_aload c_117_27 rfl ?_
    refine w_iload c_117_28 rfl ?_
    refine z_push c_117_29 ?_
    refine z_iadd c_117_30 ?_
    refine wc_117 c_117_31 sp_0 (Nat.le_of_ble_eq_true rfl) (by omega) ?_
    refine ih (i := i + 1) (t := t) (by omega) hlt (by rw [hoff.2.2.1]; exact ho) hW (by rw [hoff.1]; exact hL) hx (by rw [hoff.2.1, hoff.2.2.2]; exact hs) hb hdr (by omega) (fun I1 ink age hL hx hs1 hF1 => ?_)
    rw [hoff.1] at hL
    rw [hoff.2.1, hoff.2.2.2] at hs1
    have hb1 := chF_ok (cd := cd) (X := X) hS hn r (t := t) (by omega) hb
    have hYt : lkOK ((shS D cd X t i).1, (shS D cd X t i).2.1, (shS D cd X t i).2.2.1, (shS D cd X t i).2.2.2.1, ink, age) := ⟨hY.1, hY.2.1, hY.2.2.1, hY.2.2.2.1, hx⟩
    have hF : frP PSH I I1 := hF1
    have hs := hs1
    have hW : cW I1 sh D cd := hW.fr (fun p k z1 z2 => hF p k (by show ¬ (p = 43 ∨ (106 ≤ p ∧ p ≤ 109)); omega))
    have hdr1 : -1000000 ≤ (I1 42 1).toInt ∧ (I1 42 1).toInt ≤ 1000000 := by rw [hF 42 1 (by decide)]; exact hdr
    refine r_v ?_
    refine w_aload c_117_34 rfl ?_
    refine w_getR c_117_35 sp_0 (by decide) rfl pr_0_9 ?_
    refine w_getR c_117_38 sp_106 (by decide) rfl pr_106_0 ?_
    refine w_astore c_117_41 (Nat.le_of_ble_eq_true rfl) rfl ?_
    refine w_aload c_117_42 rfl ?_
    refine w_getR c_117_43 sp_0 (by decide) rfl pr_0_7 ?_
    refine w_aload c_117_46 rfl ?_
    refine w_iload c_117_47 rfl ?_
    refine wc_49 c_117_48 sp_42 (Nat.le_of_ble_eq_true rfl) (by omega) ?_
    refine tc_canBe (X := ((shS D cd X t i).1, (shS D cd X t i).2.1, (shS D cd X t i).2.2.1, (shS D cd X t i).2.2.2.1, ink, age)) hsh aLk_107 hS hW hL hYt ⟨by omega, by omega⟩ hdr1 (by omega) (fun I2 hf => ?_)
    rw [cb_same]
    have hL := hL.f43 aLk_107 hf
    have hs := hs.fr (fun k _ _ => hf 106 k (by decide))
    have hW := hW.f43 hsh hf
    have hF : frP PSH I _ := hF.tr (hf.mono (fun p hp => Or.inl hp))
    have hdr2 : -1000000 ≤ (I2 42 1).toInt ∧ (I2 42 1).toInt ≤ 1000000 := by rw [hf 42 1 (by decide)]; exact hdr1
    refine r_i ?_
    refine b_if_eq c_117_51 (fun h3_ => ?_) (fun h3_ => ?_)
    · refine z_retv c_117_217 ?_
      refine k I2 ink age hL hx ?_ hF
      simp only [chF]
      rw [hir, if_neg (fun z => Bool.noConfusion (z.symm.trans (show cbZ D cd (shS D cd X t i) i = false by assumption)))]
      exact hs
    · refine w_aload c_117_54 rfl ?_
      refine z_getZ c_117_55 sp_107 (by decide) rfl hL.2.1 ?_
      refine w_istore c_117_58 (Nat.le_of_ble_eq_true rfl) rfl ?_
      refine w_aload c_117_59 rfl ?_
      refine z_getZ c_117_60 sp_107 (by decide) rfl hL.2.2.1 ?_
      refine w_istore c_117_63 (Nat.le_of_ble_eq_true rfl) rfl ?_
      refine w_aload c_117_65 rfl ?_
      refine w_getR c_117_66 sp_0 (by decide) rfl pr_0_7 ?_
      refine w_aload c_117_69 rfl ?_
      refine w_iload c_117_70 rfl ?_
      refine wc_48 c_117_71 sp_42 (Nat.le_of_ble_eq_true rfl) (by omega) ?_
      have hcb : cbZ D cd (shS D cd X t i) i = true := by assumption
      have hcl := cbZ_le hcb
      have hdz := drwZ_rg (cd := cd) (X := (shS D cd X t i)) (de := i) hS ⟨by omega, by omega⟩
      refine tc_drawnBy (X := ((shS D cd X t i).1, (shS D cd X t i).2.1, (shS D cd X t i).2.2.1, (shS D cd X t i).2.2.2.1, ink, age)) hsh aLk_107 hS hW hL hYt ⟨by omega, by omega⟩ hdr2 (by omega) (fun I3 hf3 => ?_)
      rw [dr_same]
      have hL := hL.f43 aLk_107 hf3
      have hs := hs.fr (fun k _ _ => hf3 106 k (by decide))
      have hW := hW.f43 hsh hf3
      have hF : frP PSH I _ := hF.tr (hf3.mono (fun p hp => Or.inl hp))
      have hdr3 : -1000000 ≤ (I3 42 1).toInt ∧ (I3 42 1).toInt ≤ 1000000 := by rw [hf3 42 1 (by decide)]; exact hdr2
      refine r_i ?_
      refine w_istore c_117_74 (Nat.le_of_ble_eq_true rfl) rfl ?_
      refine w_aload c_117_76 rfl ?_
      refine w_iload c_117_77 rfl ?_
      refine w_iload c_117_78 rfl ?_
      refine wc_9 c_117_80 sp_107 (Nat.le_of_ble_eq_true rfl) (by omega) ?_
      refine tc_draw (X := ((shS D cd X t i).1, (shS D cd X t i).2.1, (shS D cd X t i).2.2.1, (shS D cd X t i).2.2.2.1, ink, age)) aLk_107 hL hYt ⟨by omega, by omega⟩ (by omega) (by omega) (fun I4 hL4 hF4 => ?_)
      have hs := hs.fr (fun k _ _ => hF4 106 k (by decide))
      have hW := hW.fr (fun p k z1 z2 => hF4 p k (by show ¬ (p = 43 ∨ (107 ≤ p ∧ p ≤ 109)); omega))
      have hF : frP PSH I I4 := hF.tr (hF4.mono (fun p hp => by have hp : p = 43 ∨ (107 ≤ p ∧ p ≤ 107 + 2) := hp; show p = 43 ∨ (106 ≤ p ∧ p ≤ 109); omega))
      have hdr4 : -1000000 ≤ (I4 42 1).toInt ∧ (I4 42 1).toInt ≤ 1000000 := by rw [hF4 42 1 (by decide)]; exact hdr3
      have hY4 := drawX_ok (X := ((shS D cd X t i).1, (shS D cd X t i).2.1, (shS D cd X t i).2.2.1, (shS D cd X t i).2.2.2.1, ink, age)) (de := i) (dr := (drwZ D cd (shS D cd X t i) i)) hYt (by omega) ⟨hdz.1, hcl.1⟩
      have hL := hL4
      refine r_v ?_
      refine w_aload c_117_83 rfl ?_
      refine w_getR c_117_84 sp_0 (by decide) rfl pr_0_9 ?_
      refine w_dup c_117_87 rfl ?_
      refine z_getZ c_117_88 sp_106 (by decide) rfl hs.1 ?_
      refine z_push c_117_91 ?_
      refine w_iload c_117_92 rfl ?_
      refine w_ishl c_117_93 (shl1 (by omega)) ?_
      refine w_ior c_117_94 (iI_or _ _) ?_
      refine z_putZ c_117_95 sp_106 (by decide) rfl ?_
      refine up_k hF (Or.inr (by omega)) (fun I hi hF => ?_)
      have hs := hi ▸ hs.p1
      have hL := hL.fr (I2 := I) (fun p k z1 z2 => by rw [hi]; exact up_ne (by omega))
      have hW := hW.fr (I2 := I) (fun p k z1 z2 => by rw [hi]; exact up_ne (by omega))
      have hdr4 : -1000000 ≤ (I 42 1).toInt ∧ (I 42 1).toInt ≤ 1000000 := by rw [hi, up_ne (by omega)]; exact hdr4
      clear hi
      refine w_aload c_117_98 rfl ?_
      refine w_getR c_117_99 sp_0 (by decide) rfl pr_0_9 ?_
      refine w_dup c_117_102 rfl ?_
      refine z_getZ c_117_103 sp_106 (by decide) rfl hs.2.1 ?_
      refine w_aload c_117_106 rfl ?_
      refine w_getR c_117_107 sp_0 (by decide) rfl pr_0_3 ?_
      refine w_getR c_117_110 (sps_0 hsh) (by decide) rfl (prs_11 hsh) ?_
      refine w_iload c_117_113 rfl ?_
      refine z_iaload c_117_114 (sps_8 hsh) (by omega) (by first | decide | omega) (hW.1.a 8 (by omega) (by omega)) ?_
      refine z_iadd c_117_115 ?_
      refine z_putZ c_117_116 sp_106 (by decide) rfl ?_
      refine up_k hF (Or.inr (by omega)) (fun I hi hF => ?_)
      have hs := hi ▸ hs.p2
      have hL := hL.fr (I2 := I) (fun p k z1 z2 => by rw [hi]; exact up_ne (by omega))
      have hW := hW.fr (I2 := I) (fun p k z1 z2 => by rw [hi]; exact up_ne (by omega))
      have hdr4 : -1000000 ≤ (I 42 1).toInt ∧ (I 42 1).toInt ≤ 1000000 := by rw [hi, up_ne (by omega)]; exact hdr4
      clear hi
      refine w_aload c_117_119 rfl ?_
      refine w_getR c_117_120 sp_0 (by decide) rfl pr_0_9 ?_
      refine w_dup c_117_123 rfl ?_
      refine z_getZ c_117_124 sp_106 (by decide) rfl hs.2.2.1 ?_
      refine w_iload c_117_127 rfl ?_
      refine z_iadd c_117_129 ?_
      refine z_putZ c_117_130 sp_106 (by decide) rfl ?_
      refine up_k hF (Or.inr (by omega)) (fun I hi hF => ?_)
      have hs := hi ▸ hs.p3
      have hL := hL.fr (I2 := I) (fun p k z1 z2 => by rw [hi]; exact up_ne (by omega))
      have hW := hW.fr (I2 := I) (fun p k z1 z2 => by rw [hi]; exact up_ne (by omega))
      have hdr4 : -1000000 ≤ (I 42 1).toInt ∧ (I 42 1).toInt ≤ 1000000 := by rw [hi, up_ne (by omega)]; exact hdr4
      clear hi
      refine w_aload c_117_133 rfl ?_
      refine w_iload c_117_134 rfl ?_
      refine z_push c_117_135 ?_
      refine z_iadd c_117_136 ?_
      refine wc_117 c_117_137 sp_0 (Nat.le_of_ble_eq_true rfl) (by omega) ?_
      have ht2 := or_top ht
      have ht8 : t ||| 2 ^ i < 256 := or_lt (n := 8) (by omega) (by omega)
      refine ih (i := i + 1) (t := (t ||| 2 ^ i)) (ink := cU ink i (dk (shS D cd X t i).2.1 (shS D cd X t i).2.2.1)) (age := cU age i 0) (by omega) ht2 (by rw [hon.2.2.1, ho, hcb]; rfl) hW (by rw [hon.1]; exact hL) hY4.2.2.2.2 (by rw [hon.2.1, hon.2.2.2]; exact hs) hb1 hdr4 (by omega) (fun I5 ink age hL hx hs5 hF5 => ?_)
      rw [hon.1] at hL
      rw [hon.2.1, hon.2.2.2] at hs5
      have hs := hs5
      have hF : frP PSH _ I5 := hF.tr hF5
      have hW : cW I5 sh D cd := hW.fr (fun p k z1 z2 => hF5 p k (by show ¬ (p = 43 ∨ (106 ≤ p ∧ p ≤ 109)); omega))
      have hbw : (shS D cd X t i).2.2.2.1.testBit i = false := hcl.2.2
      have hb2 := chF_ok (cd := cd) (X := X) hS hn r (t := (t ||| 2 ^ i)) ht8 hb1
      have hq2 := shQ_rg (cd := cd) (X := X) (t := (t ||| 2 ^ i)) hS (i + 1) (by omega)
      rw [hon.2.1, hon.2.2.2] at hq2
      have hpi : 2 ^ i < 256 := by omega
      have hwl : (shS D cd X t i).2.2.2.1 ||| 2 ^ i < 256 := or_lt (n := 8) hY.2.2.2.1 hpi
      refine r_v ?_
      refine w_aload c_117_140 rfl ?_
      refine w_getR c_117_141 sp_0 (by decide) rfl pr_0_9 ?_
      refine w_dup c_117_144 rfl ?_
      refine z_getZ c_117_145 sp_106 (by decide) rfl hs.2.2.1 ?_
      refine w_iload c_117_148 rfl ?_
      refine z_isub c_117_150 ?_
      refine z_putZ c_117_151 sp_106 (by decide) rfl ?_
      refine up_k hF (Or.inr (by omega)) (fun I hi hF => ?_)
      have hs := hi ▸ hs.p3
      have hL := hL.fr (I2 := I) (fun p k z1 z2 => by rw [hi]; exact up_ne (by omega))
      have hW := hW.fr (I2 := I) (fun p k z1 z2 => by rw [hi]; exact up_ne (by omega))
      clear hi
      refine w_aload c_117_154 rfl ?_
      refine w_getR c_117_155 sp_0 (by decide) rfl pr_0_9 ?_
      refine w_dup c_117_158 rfl ?_
      refine z_getZ c_117_159 sp_106 (by decide) rfl hs.2.1 ?_
      refine w_aload c_117_162 rfl ?_
      refine w_getR c_117_163 sp_0 (by decide) rfl pr_0_3 ?_
      refine w_getR c_117_166 (sps_0 hsh) (by decide) rfl (prs_11 hsh) ?_
      refine w_iload c_117_169 rfl ?_
      refine z_iaload c_117_170 (sps_8 hsh) (by omega) (by first | decide | omega) (hW.1.a 8 (by omega) (by omega)) ?_
      refine z_isub c_117_171 ?_
      refine z_putZ c_117_172 sp_106 (by decide) rfl ?_
      refine up_k hF (Or.inr (by omega)) (fun I hi hF => ?_)
      have hs := hi ▸ hs.p2
      have hL := hL.fr (I2 := I) (fun p k z1 z2 => by rw [hi]; exact up_ne (by omega))
      have hW := hW.fr (I2 := I) (fun p k z1 z2 => by rw [hi]; exact up_ne (by omega))
      clear hi
      refine w_aload c_117_175 rfl ?_
      refine w_getR c_117_176 sp_0 (by decide) rfl pr_0_9 ?_
      refine w_dup c_117_179 rfl ?_
      refine z_getZ c_117_180 sp_106 (by decide) rfl hs.1 ?_
      refine z_push c_117_183 ?_
      refine w_iload c_117_184 rfl ?_
      refine w_ishl c_117_185 (shl1 (by omega)) ?_
      refine z_push c_117_186 ?_
      refine w_ixor c_117_187 rfl ?_
      refine w_iand c_117_188 ((andn (by omega) hpi).trans (by rw [ld_back (bit_top ht)])) ?_
      refine z_putZ c_117_189 sp_106 (by decide) rfl ?_
      refine up_k hF (Or.inr (by omega)) (fun I hi hF => ?_)
      have hs := hi ▸ hs.p1
      have hL := hL.fr (I2 := I) (fun p k z1 z2 => by rw [hi]; exact up_ne (by omega))
      have hW := hW.fr (I2 := I) (fun p k z1 z2 => by rw [hi]; exact up_ne (by omega))
      clear hi
      refine w_aload c_117_192 rfl ?_
      refine w_dup c_117_193 rfl ?_
      refine z_getZ c_117_194 sp_107 (by decide) rfl hL.2.2.2.1 ?_
      refine z_push c_117_197 ?_
      refine w_iload c_117_198 rfl ?_
      refine w_ishl c_117_199 (shl1 (by omega)) ?_
      refine z_push c_117_200 ?_
      refine w_ixor c_117_201 rfl ?_
      refine w_iand c_117_202 ((andn hwl hpi).trans (by rw [ld_back hbw])) ?_
      refine z_putZ c_117_203 sp_107 (by decide) rfl ?_
      refine up_k hF (Or.inr (by omega)) (fun I hi hF => ?_)
      have hL := hi ▸ hL.pw
      have hs := hs.fr (I2 := I) (fun k _ _ => by rw [hi]; exact up_ne (by omega))
      clear hi
      refine w_aload c_117_206 rfl ?_
      refine w_iload c_117_207 rfl ?_
      refine z_putZ c_117_209 sp_107 (by decide) rfl ?_
      refine up_k hF (Or.inr (by omega)) (fun I hi hF => ?_)
      have hL := hi ▸ hL.pg
      have hs := hs.fr (I2 := I) (fun k _ _ => by rw [hi]; exact up_ne (by omega))
      clear hi
      refine w_aload c_117_212 rfl ?_
      refine w_iload c_117_213 rfl ?_
      refine z_putZ c_117_214 sp_107 (by decide) rfl ?_
      refine up_k hF (Or.inr (by omega)) (fun I hi hF => ?_)
      have hL := hi ▸ hL.pb
      have hs := hs.fr (I2 := I) (fun k _ _ => by rw [hi]; exact up_ne (by omega))
      clear hi
      refine z_retv c_117_217 ?_
      refine k I ink age (hL.cast rfl rfl rfl rfl rfl rfl rfl) hx ?_ hF
      simp only [chF]
      rw [hir, if_pos hcb]
      have e1 : shV D t i + D 8 i - D 8 i = shV D t i := by omega
      have e2 : shQ D cd X t i + drwZ D cd (shS D cd X t i) i - drwZ D cd (shS D cd X t i) i = shQ D cd X t i := by omega
      rw [e1, e2] at hs
      exact hs

