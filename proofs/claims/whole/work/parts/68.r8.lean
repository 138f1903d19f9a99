/-! both sides: has, brook, deed, miles, kept (p68.py) -/
theorem aLk_36 : aLk0 36 := Or.inl rfl
theorem rD.cnt {I : aFI} {D : Nat → Int → Int} {j e : Int} (h : rD I D) (h0 : 0 ≤ j) (h1 : j < 3) (he : e = 3 + j) : I 192 e.toNat = iI (D 1 j) := by
  subst he
  rcases (show j = 0 ∨ j = 1 ∨ j = 2 by omega) with rfl | rfl | rfl
  · exact h.1.1
  · exact h.1.2.1
  · exact h.1.2.2
def X3 (X : Lk) (j : Int) : Int := if j = 0 then X.1 else if j = 1 then X.2.1 else X.2.2.1
theorem rX3 {I : aFI} {c : Nat} {X : Lk} {j : Int} (h : rX I c X) (h0 : 0 ≤ j) (h1 : j < 3) : I c j.toNat = iI (X3 X j) := by
  rcases (show j = 0 ∨ j = 1 ∨ j = 2 by omega) with rfl | rfl | rfl
  · exact h.1
  · exact h.2.1
  · exact h.2.2.1
def hasZ (D : Nat → Int → Int) (X : Lk) (kc ct w : Int) : Int := if 0 ≤ w ∧ w ≤ 2 then D 1 w else if w = 3 then D 0 1 else if 4 ≤ w ∧ w ≤ 6 then X3 X (w - 4) else if w = 7 then dk X.2.1 X.2.2.1 else if w = 8 then popc X.2.2.2.1 else if w = 9 then popc (rdZ D X) else if w = 10 then kc else if w = 11 then ct else -1
def cntB (w : Nat) : Nat → Nat
  | 0 => 0
  | n + 1 => cntB w n + (if w.testBit n = true then 1 else 0)
theorem cntB_popc : (List.range 9).all (fun n => (List.range (2 ^ n)).all (fun w => decide (cntB w n = popc w))) = true := by decide +kernel
theorem cntB_eq {w n : Nat} (hn : n ≤ 8) (hw : w < 2 ^ n) : cntB w n = popc w := by
  have h := List.all_eq_true.mp cntB_popc n (List.mem_range.mpr (by omega))
  have h2 := List.all_eq_true.mp h w (List.mem_range.mpr hw)
  exact of_decide_eq_true h2
theorem cntB_le (w : Nat) : ∀ n : Nat, cntB w n ≤ n
  | 0 => Nat.le_refl 0
  | n + 1 => by have := cntB_le w n; unfold cntB; split <;> omega
theorem rdZ_lt {D : Nat → Int → Int} {X : Lk} (h : D 1 2 ≤ 8) : rdZ D X < 256 := bb_lt8 _ (by omega)
set_option maxHeartbeats 2000000 in
theorem t_writtenMany_1 {d : Nat} {I : aFI} {L : aFL} {Q : aPo} {sh : Nat} {su : Option Nat} {D : Nat → Int → Int} {cd : Nat → Option (List Int)} {X : Lk} (hS : wfS D cd) (hR : rS I D cd X) (hX : lkOK X) (hd : 1 ≤ d) : ∀ (n : Nat) (i : Int), (D 1 2 - i).toNat < n → (0 ≤ i) → (i ≤ D 1 2) → (Q (some (.int (iI ((cntB X.2.2.2.1 (D 1 2).toNat : Nat) : Int)))) I L (aR sh su)) → aWp none d 184 4 [.ref 157, .int (iI ((cntB X.2.2.2.1 i.toNat : Nat) : Int)), .int (iI i)] [] I L (aR sh su) Q := by
  intro n
  induction n with
  | zero => intro i h; omega
  | succ n ih =>
    intro i hn2 h0 h1 k
    have hdd := hS.n
    have hst : (i + 1).toNat = i.toNat + 1 := by omega
    refine w_iload c_184_4 rfl ?_
    refine w_aload c_184_5 rfl ?_
    refine wc_161 c_184_6 sp_157 (Nat.le_of_ble_eq_true rfl) (by omega) ?_
    refine t_deedMany hR.1.1 ?_
    refine r_i ?_
    refine z_ic_ge c_184_9 (by first | exact aRg_of _ | (unfold aRg; omega)) (by first | exact aRg_of _ | (unfold aRg; omega)) (fun h1_ => ?_) (fun h1_ => ?_)
    · refine w_iload c_184_29 rfl ?_
      refine z_ret c_184_30 rfl ?_
      have e9 : i = D 1 2 := by omega
      subst e9
      exact k
    · refine w_aload c_184_12 rfl ?_
      refine w_iload c_184_13 rfl ?_
      refine wc_163 c_184_14 sp_157 (Nat.le_of_ble_eq_true rfl) (by omega) ?_
      refine t_isWritten hR.2 ⟨h0, by omega⟩ ?_
      refine r_i ?_
      refine b_if_eq c_184_17 (fun h2_ => ?_) (fun h2_ => ?_)
      · refine z_iinc c_184_23 rfl rfl ?_
        refine w_goto c_184_26 ?_
        have ht2 : tb X.2.2.2.1 i = false := by assumption
        have e9 : ((cntB X.2.2.2.1 (i + 1).toNat : Nat) : Int) = ((cntB X.2.2.2.1 i.toNat : Nat) : Int) := by
          rw [hst]; simp only [cntB]; rw [show (X.2.2.2.1).testBit i.toNat = false from ht2]; simp
        have := ih (i + 1) (by omega) (by omega) (by omega) k
        rw [e9] at this
        exact this
      · refine z_iinc c_184_20 rfl rfl ?_
        refine z_iinc c_184_23 rfl rfl ?_
        refine w_goto c_184_26 ?_
        have ht2 : tb X.2.2.2.1 i = true := by assumption
        have e9 : ((cntB X.2.2.2.1 (i + 1).toNat : Nat) : Int) = ((cntB X.2.2.2.1 i.toNat : Nat) : Int) + 1 := by
          rw [hst]; simp only [cntB]; rw [show (X.2.2.2.1).testBit i.toNat = true from ht2]; simp
        have := ih (i + 1) (by omega) (by omega) (by omega) k
        rw [e9] at this
        exact this

set_option maxHeartbeats 1000000 in
theorem t_writtenMany {d : Nat} {I : aFI} {L : aFL} {Q : aPo} {sh : Nat} {su : Option Nat} {D : Nat → Int → Int} {cd : Nat → Option (List Int)} {X : Lk} (hS : wfS D cd) (hR : rS I D cd X) (hX : lkOK X) (hd : 1 ≤ d) (k : Q (some (.int (iI ((cntB X.2.2.2.1 (D 1 2).toNat : Nat) : Int)))) I L (aR sh su)) : aWp none d 184 0 [.ref 157, .null, .null] [] I L (aR sh su) Q := by
  have hdd := hS.n
  refine z_push c_184_0 ?_
  refine w_istore c_184_1 (Nat.le_of_ble_eq_true rfl) rfl ?_
  refine z_push c_184_2 ?_
  refine w_istore c_184_3 (Nat.le_of_ble_eq_true rfl) rfl ?_
  exact t_writtenMany_1 hS hR hX hd _ 0 (Nat.lt_succ_self _) (by omega) (by omega) k

set_option maxHeartbeats 1000000 in
theorem t_has {d : Nat} {I : aFI} {L : aFL} {Q : aPo} {sh : Nat} {su : Option Nat} {D : Nat → Int → Int} {cd : Nat → Option (List Int)} {X : Lk} {kc ct what : Int} (hS : wfS D cd) (hR : rS I D cd X) (hX : lkOK X) (rwhat : -2147483648 ≤ what ∧ what < 2147483648) (hw2 : X.2.2.2.1 < 2 ^ (D 1 2).toNat) (hkc : I 202 27 = iI kc) (hct : I 157 70 = iI ct) (hd : 3 ≤ d) (k : Q (some (.int (iI (hasZ D X kc ct what)))) I L (aR sh su)) : aWp none d 185 0 [.ref 157, .int (iI what)] [] I L (aR sh su) Q := by
  have hdd := hS.n
  have hx := hX.2
  have hwm := cntB_eq (n := (D 1 2).toNat) (by omega) hw2
  refine w_iload c_185_0 rfl ?_
  rcases (show (what = 0 ∨ what = 1 ∨ what = 2) ∨ (what = 3) ∨ (what = 4 ∨ what = 5 ∨ what = 6) ∨ (what = 7) ∨ (what = 8) ∨ (what = 9) ∨ (what = 10) ∨ (what = 11) ∨ (¬ what = 0 ∧ ¬ what = 1 ∧ ¬ what = 2 ∧ ¬ what = 3 ∧ ¬ what = 4 ∧ ¬ what = 5 ∧ ¬ what = 6 ∧ ¬ what = 7 ∧ ¬ what = 8 ∧ ¬ what = 9 ∧ ¬ what = 10 ∧ ¬ what = 11) by omega) with h1_ | h1_ | h1_ | h1_ | h1_ | h1_ | h1_ | h1_ | h1_
  · refine z_tsw c_185_1 (by first | exact aRg_of _ | (unfold aRg; omega)) (pc2 := 64) (by rcases h1_ with rfl | rfl | rfl <;> rfl) ?_
    refine w_aload c_185_64 rfl ?_
    refine w_getR c_185_65 sp_157 (by decide) rfl pr_157_44 ?_
    refine z_push c_185_68 ?_
    refine w_iload c_185_69 rfl ?_
    refine z_iadd c_185_70 ?_
    refine z_iaload c_185_71 sp_192 (by omega) (by first | decide | omega) (hR.1.1.cnt (j := what) (by omega) (by omega) (by omega)) ?_
    refine z_ret c_185_72 rfl ?_
    refine q_i k ?_
    unfold hasZ
    (repeat (first | rw [if_pos (by omega)] | rw [if_neg (by omega)]))
  · refine z_tsw c_185_1 (by first | exact aRg_of _ | (unfold aRg; omega)) (pc2 := 73) (by rcases h1_ with rfl <;> rfl) ?_
    refine w_aload c_185_73 rfl ?_
    refine wc_167 c_185_74 sp_157 (Nat.le_of_ble_eq_true rfl) (by omega) ?_
    refine t_holdsAll hR.1.1 ?_
    refine r_i ?_
    refine z_ret c_185_77 rfl ?_
    refine q_i k ?_
    unfold hasZ
    (repeat (first | rw [if_pos (by omega)] | rw [if_neg (by omega)]))
  · refine z_tsw c_185_1 (by first | exact aRg_of _ | (unfold aRg; omega)) (pc2 := 78) (by rcases h1_ with rfl | rfl | rfl <;> rfl) ?_
    refine w_aload c_185_78 rfl ?_
    refine w_getR c_185_79 sp_157 (by decide) rfl pr_157_58 ?_
    refine w_iload c_185_82 rfl ?_
    refine z_push c_185_83 ?_
    refine z_isub c_185_84 ?_
    refine z_iaload c_185_85 sp_202 (by omega) (by first | decide | omega) (rX3 hR.2 (by omega) (by omega)) ?_
    refine z_ret c_185_86 rfl ?_
    refine q_i k ?_
    unfold hasZ
    (repeat (first | rw [if_pos (by omega)] | rw [if_neg (by omega)]))
  · refine z_tsw c_185_1 (by first | exact aRg_of _ | (unfold aRg; omega)) (pc2 := 87) (by rcases h1_ with rfl <;> rfl) ?_
    refine w_aload c_185_87 rfl ?_
    refine wc_169 c_185_88 sp_157 (Nat.le_of_ble_eq_true rfl) (by omega) ?_
    refine t_darkNow (by omega) hR.2.2.1 hR.2.2.2.1 (by omega) (by omega) ?_
    refine r_i ?_
    refine z_ret c_185_91 rfl ?_
    refine q_i k ?_
    unfold hasZ
    (repeat (first | rw [if_pos (by omega)] | rw [if_neg (by omega)]))
  · refine z_tsw c_185_1 (by first | exact aRg_of _ | (unfold aRg; omega)) (pc2 := 92) (by rcases h1_ with rfl <;> rfl) ?_
    refine w_aload c_185_92 rfl ?_
    refine wc_184 c_185_93 sp_157 (Nat.le_of_ble_eq_true rfl) (by omega) ?_
    refine t_writtenMany hS hR hX (by omega) ?_
    rw [hwm]
    refine r_i ?_
    refine z_ret c_185_96 rfl ?_
    refine q_i k ?_
    unfold hasZ
    (repeat (first | rw [if_pos (by omega)] | rw [if_neg (by omega)]))
  · refine z_tsw c_185_1 (by first | exact aRg_of _ | (unfold aRg; omega)) (pc2 := 97) (by rcases h1_ with rfl <;> rfl) ?_
    refine w_aload c_185_97 rfl ?_
    refine wc_182 c_185_98 sp_157 (Nat.le_of_ble_eq_true rfl) (by omega) ?_
    refine t_readable hS hR hX (by omega) ?_
    refine r_i ?_
    refine wc_183 c_185_101 (Nat.le_of_ble_eq_true rfl) (by omega) ?_
    refine t_bits (rdZ_lt (by omega)) ?_
    refine r_i ?_
    refine z_ret c_185_104 rfl ?_
    refine q_i k ?_
    unfold hasZ
    (repeat (first | rw [if_pos (by omega)] | rw [if_neg (by omega)]))
  · refine z_tsw c_185_1 (by first | exact aRg_of _ | (unfold aRg; omega)) (pc2 := 105) (by rcases h1_ with rfl <;> rfl) ?_
    refine w_aload c_185_105 rfl ?_
    refine w_getR c_185_106 sp_157 (by decide) rfl pr_157_58 ?_
    refine z_push c_185_109 ?_
    refine z_iaload c_185_111 sp_202 (by omega) (by first | decide | omega) hkc ?_
    refine z_ret c_185_112 rfl ?_
    refine q_i k ?_
    unfold hasZ
    (repeat (first | rw [if_pos (by omega)] | rw [if_neg (by omega)]))
  · refine z_tsw c_185_1 (by first | exact aRg_of _ | (unfold aRg; omega)) (pc2 := 113) (by rcases h1_ with rfl <;> rfl) ?_
    refine w_aload c_185_113 rfl ?_
    refine z_getZ c_185_114 sp_157 (by decide) rfl hct ?_
    refine z_ret c_185_117 rfl ?_
    refine q_i k ?_
    unfold hasZ
    (repeat (first | rw [if_pos (by omega)] | rw [if_neg (by omega)]))
  · refine z_tsw c_185_1 (by first | exact aRg_of _ | (unfold aRg; omega)) (pc2 := 118) (by (by_cases hq : what < 0 ∨ 11 < what); (rw [if_pos hq]; rfl); (exfalso; omega)) ?_
    refine z_push c_185_118 ?_
    refine z_ret c_185_119 rfl ?_
    refine q_i k ?_
    unfold hasZ
    (repeat (first | rw [if_pos (by omega)] | rw [if_neg (by omega)]))

set_option maxHeartbeats 1000000 in
theorem tc_has {d : Nat} {I : aFI} {L : aFL} {Q : aPo} {sh : Nat} {su : Option Nat} {D : Nat → Int → Int} {cd : Nat → Option (List Int)} {X : Lk} {kc : Int} (hsh : sh = 8 ∨ sh = 22) (hS : wfS D cd) (hW : cW I sh D cd) (hL : lkX I 36 kc X) (hX : lkOK X) {ct what : Int} (rwhat : -2147483648 ≤ what ∧ what < 2147483648) (hct : I 44 2 = iI ct) (hd : 4 ≤ d) (k : Q (some (.int (iI (hasZ D X kc ct what)))) I L (aR sh su)) : aWp none d 80 0 [.ref 0, .int (iI what)] [] I L (aR sh su) Q := by
  have hdd := hS.n
  have hx := hX.2
  refine w_iload c_80_0 rfl ?_
  rcases (show (what = 0) ∨ (what = 1) ∨ (what = 2) ∨ (what = 3) ∨ (what = 4) ∨ (what = 5) ∨ (what = 6) ∨ (what = 7) ∨ (what = 8) ∨ (what = 9) ∨ (what = 10) ∨ (what = 11) ∨ (¬ what = 0 ∧ ¬ what = 1 ∧ ¬ what = 2 ∧ ¬ what = 3 ∧ ¬ what = 4 ∧ ¬ what = 5 ∧ ¬ what = 6 ∧ ¬ what = 7 ∧ ¬ what = 8 ∧ ¬ what = 9 ∧ ¬ what = 10 ∧ ¬ what = 11) by omega) with h1_ | h1_ | h1_ | h1_ | h1_ | h1_ | h1_ | h1_ | h1_ | h1_ | h1_ | h1_ | h1_
  · refine z_tsw c_80_1 (by first | exact aRg_of _ | (unfold aRg; omega)) (pc2 := 64) (by rcases h1_ with rfl <;> rfl) ?_
    refine w_aload c_80_64 rfl ?_
    refine w_getR c_80_65 sp_0 (by decide) rfl pr_0_3 ?_
    refine w_getR c_80_68 (sps_0 hsh) (by decide) rfl (prs_4 hsh) ?_
    refine z_push c_80_71 ?_
    refine z_iaload c_80_72 (sps_1 hsh) (by omega) (by first | decide | omega) (hW.1.a 1 (by omega) (by omega)) ?_
    refine z_ret c_80_73 rfl ?_
    refine q_i k ?_
    try subst h1_
    unfold hasZ
    (repeat (first | rw [if_pos (by omega)] | rw [if_neg (by omega)]))
    try rfl
  · refine z_tsw c_80_1 (by first | exact aRg_of _ | (unfold aRg; omega)) (pc2 := 74) (by rcases h1_ with rfl <;> rfl) ?_
    refine w_aload c_80_74 rfl ?_
    refine w_getR c_80_75 sp_0 (by decide) rfl pr_0_3 ?_
    refine w_getR c_80_78 (sps_0 hsh) (by decide) rfl (prs_4 hsh) ?_
    refine z_push c_80_81 ?_
    refine z_iaload c_80_82 (sps_1 hsh) (by omega) (by first | decide | omega) (hW.1.a 1 (by omega) (by omega)) ?_
    refine z_ret c_80_83 rfl ?_
    refine q_i k ?_
    try subst h1_
    unfold hasZ
    (repeat (first | rw [if_pos (by omega)] | rw [if_neg (by omega)]))
    try rfl
  · refine z_tsw c_80_1 (by first | exact aRg_of _ | (unfold aRg; omega)) (pc2 := 84) (by rcases h1_ with rfl <;> rfl) ?_
    refine w_aload c_80_84 rfl ?_
    refine w_getR c_80_85 sp_0 (by decide) rfl pr_0_3 ?_
    refine w_getR c_80_88 (sps_0 hsh) (by decide) rfl (prs_4 hsh) ?_
    refine z_push c_80_91 ?_
    refine z_iaload c_80_92 (sps_1 hsh) (by omega) (by first | decide | omega) (hW.1.a 1 (by omega) (by omega)) ?_
    refine z_ret c_80_93 rfl ?_
    refine q_i k ?_
    try subst h1_
    unfold hasZ
    (repeat (first | rw [if_pos (by omega)] | rw [if_neg (by omega)]))
    try rfl
  · refine z_tsw c_80_1 (by first | exact aRg_of _ | (unfold aRg; omega)) (pc2 := 94) (by rcases h1_ with rfl <;> rfl) ?_
    refine w_aload c_80_94 rfl ?_
    refine w_getR c_80_95 sp_0 (by decide) rfl pr_0_3 ?_
    refine z_getZ c_80_98 (sps_0 hsh) (by decide) rfl hW.1.2.1.1 ?_
    refine z_ret c_80_101 rfl ?_
    refine q_i k ?_
    try subst h1_
    unfold hasZ
    (repeat (first | rw [if_pos (by omega)] | rw [if_neg (by omega)]))
    try rfl
  · refine z_tsw c_80_1 (by first | exact aRg_of _ | (unfold aRg; omega)) (pc2 := 102) (by rcases h1_ with rfl <;> rfl) ?_
    refine w_aload c_80_102 rfl ?_
    refine w_getR c_80_103 sp_0 (by decide) rfl pr_0_5 ?_
    refine z_getZ c_80_106 sp_36 (by decide) rfl hL.1 ?_
    refine z_ret c_80_109 rfl ?_
    refine q_i k ?_
    try subst h1_
    unfold hasZ
    (repeat (first | rw [if_pos (by omega)] | rw [if_neg (by omega)]))
    try rfl
  · refine z_tsw c_80_1 (by first | exact aRg_of _ | (unfold aRg; omega)) (pc2 := 110) (by rcases h1_ with rfl <;> rfl) ?_
    refine w_aload c_80_110 rfl ?_
    refine w_getR c_80_111 sp_0 (by decide) rfl pr_0_5 ?_
    refine z_getZ c_80_114 sp_36 (by decide) rfl hL.2.1 ?_
    refine z_ret c_80_117 rfl ?_
    refine q_i k ?_
    try subst h1_
    unfold hasZ
    (repeat (first | rw [if_pos (by omega)] | rw [if_neg (by omega)]))
    try rfl
  · refine z_tsw c_80_1 (by first | exact aRg_of _ | (unfold aRg; omega)) (pc2 := 118) (by rcases h1_ with rfl <;> rfl) ?_
    refine w_aload c_80_118 rfl ?_
    refine w_getR c_80_119 sp_0 (by decide) rfl pr_0_5 ?_
    refine z_getZ c_80_122 sp_36 (by decide) rfl hL.2.2.1 ?_
    refine z_ret c_80_125 rfl ?_
    refine q_i k ?_
    try subst h1_
    unfold hasZ
    (repeat (first | rw [if_pos (by omega)] | rw [if_neg (by omega)]))
    try rfl
  · refine z_tsw c_80_1 (by first | exact aRg_of _ | (unfold aRg; omega)) (pc2 := 126) (by rcases h1_ with rfl <;> rfl) ?_
    refine w_aload c_80_126 rfl ?_
    refine w_getR c_80_127 sp_0 (by decide) rfl pr_0_5 ?_
    refine wc_7 c_80_130 sp_36 (Nat.le_of_ble_eq_true rfl) (by omega) ?_
    refine tc_darkness aLk_36 hL.2.1 hL.2.2.1 (by omega) (by omega) ?_
    refine r_i ?_
    refine z_ret c_80_133 rfl ?_
    refine q_i k ?_
    try subst h1_
    unfold hasZ
    (repeat (first | rw [if_pos (by omega)] | rw [if_neg (by omega)]))
    try rfl
  · refine z_tsw c_80_1 (by first | exact aRg_of _ | (unfold aRg; omega)) (pc2 := 134) (by rcases h1_ with rfl <;> rfl) ?_
    refine w_aload c_80_134 rfl ?_
    refine w_getR c_80_135 sp_0 (by decide) rfl pr_0_5 ?_
    refine z_getZ c_80_138 sp_36 (by decide) rfl hL.2.2.2.1 ?_
    refine wc_257 c_80_141 (Nat.le_of_ble_eq_true rfl) (by omega) ?_
    refine t_bitCount hX.2.2.2.1 ?_
    refine r_i ?_
    refine z_ret c_80_144 rfl ?_
    refine q_i k ?_
    try subst h1_
    unfold hasZ
    (repeat (first | rw [if_pos (by omega)] | rw [if_neg (by omega)]))
    try rfl
  · refine z_tsw c_80_1 (by first | exact aRg_of _ | (unfold aRg; omega)) (pc2 := 145) (by rcases h1_ with rfl <;> rfl) ?_
    refine w_aload c_80_145 rfl ?_
    refine w_getR c_80_146 sp_0 (by decide) rfl pr_0_7 ?_
    refine w_aload c_80_149 rfl ?_
    refine w_getR c_80_150 sp_0 (by decide) rfl pr_0_5 ?_
    refine wc_50 c_80_153 sp_42 (Nat.le_of_ble_eq_true rfl) (by omega) ?_
    refine tc_readable hsh aLk_36 hS hW hL hX (by omega) ?_
    refine r_i ?_
    refine wc_257 c_80_156 (Nat.le_of_ble_eq_true rfl) (by omega) ?_
    refine t_bitCount (rdZ_lt (by omega)) ?_
    refine r_i ?_
    refine z_ret c_80_159 rfl ?_
    refine q_i k ?_
    try subst h1_
    unfold hasZ
    (repeat (first | rw [if_pos (by omega)] | rw [if_neg (by omega)]))
    try rfl
  · refine z_tsw c_80_1 (by first | exact aRg_of _ | (unfold aRg; omega)) (pc2 := 160) (by rcases h1_ with rfl <;> rfl) ?_
    refine w_aload c_80_160 rfl ?_
    refine w_getR c_80_161 sp_0 (by decide) rfl pr_0_5 ?_
    refine z_getZ c_80_164 sp_36 (by decide) rfl hL.2.2.2.2.1 ?_
    refine z_ret c_80_167 rfl ?_
    refine q_i k ?_
    try subst h1_
    unfold hasZ
    (repeat (first | rw [if_pos (by omega)] | rw [if_neg (by omega)]))
    try rfl
  · refine z_tsw c_80_1 (by first | exact aRg_of _ | (unfold aRg; omega)) (pc2 := 168) (by rcases h1_ with rfl <;> rfl) ?_
    refine w_aload c_80_168 rfl ?_
    refine w_getR c_80_169 sp_0 (by decide) rfl pr_0_8 ?_
    refine z_getZ c_80_172 sp_44 (by decide) rfl hct ?_
    refine z_ret c_80_175 rfl ?_
    refine q_i k ?_
    try subst h1_
    unfold hasZ
    (repeat (first | rw [if_pos (by omega)] | rw [if_neg (by omega)]))
    try rfl
  · refine z_tsw c_80_1 (by first | exact aRg_of _ | (unfold aRg; omega)) (pc2 := 176) (by (by_cases hq : what < 0 ∨ 11 < what); (rw [if_pos hq]; rfl); (exfalso; omega)) ?_
    refine z_push c_80_176 ?_
    refine z_ret c_80_177 rfl ?_
    refine q_i k ?_
    try subst h1_
    unfold hasZ
    (repeat (first | rw [if_pos (by omega)] | rw [if_neg (by omega)]))
    try rfl

def brookZ (D : Nat → Int → Int) (b v : Int) : Int := if 0 ≤ b ∧ b < D 1 0 then (if v = 0 then D 3 b else if v = 1 then D 4 b else -1) else -1
theorem rD.brv {I : aFI} {D : Nat → Int → Int} {j v e : Int} (h : rD I D) (h0 : 0 ≤ j) (h1 : j < D 1 0) (hv : 0 ≤ v ∧ v ≤ 1) (he : e = 12 + 2 * j + v) : I 195 e.toNat = iI (if v = 0 then D 3 j else D 4 j) := by
  rcases (show v = 0 ∨ v = 1 by omega) with rfl | rfl
  · exact h.br h0 h1 (by omega)
  · exact h.bb h0 h1 (by omega)
set_option maxHeartbeats 1000000 in
theorem t_brook {d : Nat} {I : aFI} {L : aFL} {Q : aPo} {sh : Nat} {su : Option Nat} {D : Nat → Int → Int} {cd : Nat → Option (List Int)} {b v : Int} (hS : wfS D cd) (hD : rD I D) (rb : -2147483648 ≤ b ∧ b < 2147483648) (rv : -2147483648 ≤ v ∧ v < 2147483648) (hd : 2 ≤ d) (k : Q (some (.int (iI (brookZ D b v)))) I L (aR sh su)) : aWp none d 189 0 [.ref 157, .int (iI b), .int (iI v)] [] I L (aR sh su) Q := by
  have hdd := hS.n
  refine w_iload c_189_0 rfl ?_
  refine z_i2l c_189_1 (by first | exact aRg_of _ | (unfold aRg; omega)) ?_
  refine z_pushl c_189_2 ?_
  refine w_aload c_189_3 rfl ?_
  refine wc_159 c_189_4 sp_157 (Nat.le_of_ble_eq_true rfl) (by omega) ?_
  refine t_brookMany hD ?_
  refine r_i ?_
  refine z_push c_189_7 ?_
  refine z_isub c_189_8 ?_
  refine z_i2l c_189_9 (by first | exact aRg_of _ | (unfold aRg; omega)) ?_
  refine wc_130 c_189_10 (Nat.le_of_ble_eq_true rfl) (by omega) ?_
  refine t_isIn (by first | exact aRl_of _ | (unfold aRl; omega)) (by first | exact aRl_of _ | (unfold aRl; omega)) (by first | exact aRl_of _ | (unfold aRl; omega)) ?_
  refine r_i ?_
  refine b_if_eq c_189_13 (fun h1_ => ?_) (fun h1_ => ?_)
  · simp only [decide_eq_true_eq, decide_eq_false_iff_not] at *
    refine z_push c_189_42 ?_
    refine z_ret c_189_43 rfl ?_
    refine q_i k ?_
    unfold brookZ
    first
    | (rw [if_pos (by omega)]; split <;> (try split) <;> omega)
    | (rw [if_neg (by omega)]; done)
    | (rw [if_pos (by omega), if_neg (by omega), if_neg (by omega)]; done)
  · refine w_iload c_189_16 rfl ?_
    refine z_i2l c_189_17 (by first | exact aRg_of _ | (unfold aRg; omega)) ?_
    refine z_pushl c_189_18 ?_
    refine z_pushl c_189_19 ?_
    refine wc_130 c_189_20 (Nat.le_of_ble_eq_true rfl) (by omega) ?_
    refine t_isIn (by first | exact aRl_of _ | (unfold aRl; omega)) (by first | exact aRl_of _ | (unfold aRl; omega)) (by first | exact aRl_of _ | (unfold aRl; omega)) ?_
    refine r_i ?_
    refine b_if_eq c_189_23 (fun h2_ => ?_) (fun h2_ => ?_)
    · simp only [decide_eq_true_eq, decide_eq_false_iff_not] at *
      refine z_push c_189_42 ?_
      refine z_ret c_189_43 rfl ?_
      refine q_i k ?_
      unfold brookZ
      first
      | (rw [if_pos (by omega)]; split <;> (try split) <;> omega)
      | (rw [if_neg (by omega)]; done)
      | (rw [if_pos (by omega), if_neg (by omega), if_neg (by omega)]; done)
    · simp only [decide_eq_true_eq, decide_eq_false_iff_not] at *
      refine w_aload c_189_26 rfl ?_
      refine w_getR c_189_27 sp_157 (by decide) rfl pr_157_47 ?_
      refine z_push c_189_30 ?_
      refine z_push c_189_32 ?_
      refine w_iload c_189_33 rfl ?_
      refine z_imul c_189_34 ?_
      refine z_iadd c_189_35 ?_
      refine w_iload c_189_36 rfl ?_
      refine z_iadd c_189_37 ?_
      refine z_iaload c_189_38 sp_195 (by omega) (by first | decide | omega) (hD.brv (j := b) (v := v) (by omega) (by omega) (by omega) (by omega)) ?_
      refine w_goto c_189_39 ?_
      refine z_ret c_189_43 rfl ?_
      refine q_i k ?_
      unfold brookZ
      first
      | (rw [if_pos (by omega)]; split <;> (try split) <;> omega)
      | (rw [if_neg (by omega)]; done)
      | (rw [if_pos (by omega), if_neg (by omega), if_neg (by omega)]; done)

set_option maxHeartbeats 1000000 in
theorem tc_brook {d : Nat} {I : aFI} {L : aFL} {Q : aPo} {sh : Nat} {su : Option Nat} {D : Nat → Int → Int} {cd : Nat → Option (List Int)} {b v : Int} (hsh : sh = 8 ∨ sh = 22) (hS : wfS D cd) (hW : cW I sh D cd) (rb : -2147483648 ≤ b ∧ b < 2147483648) (rv : -2147483648 ≤ v ∧ v < 2147483648) (k : Q (some (.int (iI (brookZ D b v)))) I L (aR sh su)) : aWp none d 82 0 [.ref 0, .int (iI b), .int (iI v)] [] I L (aR sh su) Q := by
  have hdd := hS.n
  refine w_iload c_82_0 rfl ?_
  refine z_if_lt c_82_1 (by first | exact aRg_of _ | (unfold aRg; omega)) (fun h1_ => ?_) (fun h1_ => ?_)
  · refine z_push c_82_17 ?_
    refine z_ret c_82_18 rfl ?_
    refine q_i k ?_
    unfold brookZ
    (repeat (first | rw [if_pos (by omega)] | rw [if_neg (by omega)]))
  · refine w_iload c_82_4 rfl ?_
    refine w_aload c_82_5 rfl ?_
    refine w_getR c_82_6 sp_0 (by decide) rfl pr_0_3 ?_
    refine w_getR c_82_9 (sps_0 hsh) (by decide) rfl (prs_4 hsh) ?_
    refine z_push c_82_12 ?_
    refine z_iaload c_82_13 (sps_1 hsh) (by omega) (by first | decide | omega) (hW.1.a 1 (by omega) (by omega)) ?_
    refine z_ic_lt c_82_14 (by first | exact aRg_of _ | (unfold aRg; omega)) (by first | exact aRg_of _ | (unfold aRg; omega)) (fun h2_ => ?_) (fun h2_ => ?_)
    · refine w_iload c_82_19 rfl ?_
      rcases (show (v = 0) ∨ (v = 1) ∨ (¬ v = 0 ∧ ¬ v = 1) by omega) with h3_ | h3_ | h3_
      · refine z_lsw c_82_20 (by first | exact aRg_of _ | (unfold aRg; omega)) (pc2 := 48) (by rcases h3_ with rfl <;> rfl) ?_
        refine w_aload c_82_48 rfl ?_
        refine w_getR c_82_49 sp_0 (by decide) rfl pr_0_3 ?_
        refine w_getR c_82_52 (sps_0 hsh) (by decide) rfl (prs_6 hsh) ?_
        refine w_iload c_82_55 rfl ?_
        refine z_iaload c_82_56 (sps_3 hsh) (by omega) (by first | decide | omega) (hW.1.a 3 (by omega) (by omega)) ?_
        refine z_ret c_82_57 rfl ?_
        refine q_i k ?_
        unfold brookZ
        (repeat (first | rw [if_pos (by omega)] | rw [if_neg (by omega)]))
      · refine z_lsw c_82_20 (by first | exact aRg_of _ | (unfold aRg; omega)) (pc2 := 58) (by rcases h3_ with rfl <;> rfl) ?_
        refine w_aload c_82_58 rfl ?_
        refine w_getR c_82_59 sp_0 (by decide) rfl pr_0_3 ?_
        refine w_getR c_82_62 (sps_0 hsh) (by decide) rfl (prs_7 hsh) ?_
        refine w_iload c_82_65 rfl ?_
        refine z_iaload c_82_66 (sps_4 hsh) (by omega) (by first | decide | omega) (hW.1.a 4 (by omega) (by omega)) ?_
        refine z_ret c_82_67 rfl ?_
        refine q_i k ?_
        unfold brookZ
        (repeat (first | rw [if_pos (by omega)] | rw [if_neg (by omega)]))
      · refine z_lsw c_82_20 (by first | exact aRg_of _ | (unfold aRg; omega)) (pc2 := 68) (by simp only [aLks]; repeat (first | rw [if_neg (by omega)] | rfl)) ?_
        refine z_push c_82_68 ?_
        refine z_ret c_82_69 rfl ?_
        refine q_i k ?_
        unfold brookZ
        (repeat (first | rw [if_pos (by omega)] | rw [if_neg (by omega)]))
    · refine z_push c_82_17 ?_
      refine z_ret c_82_18 rfl ?_
      refine q_i k ?_
      unfold brookZ
      (repeat (first | rw [if_pos (by omega)] | rw [if_neg (by omega)]))

def milesZ (D : Nat → Int → Int) (v : Int) : Int := if 0 ≤ v ∧ v < D 1 1 then D 5 v else -1
set_option maxHeartbeats 1000000 in
theorem t_miles {d : Nat} {I : aFI} {L : aFL} {Q : aPo} {sh : Nat} {su : Option Nat} {D : Nat → Int → Int} {cd : Nat → Option (List Int)} {v : Int} (hS : wfS D cd) (hD : rD I D) (rv : -2147483648 ≤ v ∧ v < 2147483648) (hd : 2 ≤ d) (k : Q (some (.int (iI (milesZ D v)))) I L (aR sh su)) : aWp none d 191 0 [.ref 157, .int (iI v)] [] I L (aR sh su) Q := by
  have hdd := hS.n
  refine w_iload c_191_0 rfl ?_
  refine z_i2l c_191_1 (by first | exact aRg_of _ | (unfold aRg; omega)) ?_
  refine z_pushl c_191_2 ?_
  refine w_aload c_191_3 rfl ?_
  refine wc_160 c_191_4 sp_157 (Nat.le_of_ble_eq_true rfl) (by omega) ?_
  refine t_villageMany hD ?_
  refine r_i ?_
  refine z_push c_191_7 ?_
  refine z_isub c_191_8 ?_
  refine z_i2l c_191_9 (by first | exact aRg_of _ | (unfold aRg; omega)) ?_
  refine wc_130 c_191_10 (Nat.le_of_ble_eq_true rfl) (by omega) ?_
  refine t_isIn (by first | exact aRl_of _ | (unfold aRl; omega)) (by first | exact aRl_of _ | (unfold aRl; omega)) (by first | exact aRl_of _ | (unfold aRl; omega)) ?_
  refine r_i ?_
  refine b_if_eq c_191_13 (fun h1_ => ?_) (fun h1_ => ?_)
  · simp only [decide_eq_true_eq, decide_eq_false_iff_not] at *
    refine z_push c_191_28 ?_
    refine z_ret c_191_29 rfl ?_
    refine q_i k ?_
    unfold milesZ
    (repeat (first | rw [if_pos (by omega)] | rw [if_neg (by omega)]))
  · simp only [decide_eq_true_eq, decide_eq_false_iff_not] at *
    refine w_aload c_191_16 rfl ?_
    refine w_getR c_191_17 sp_157 (by decide) rfl pr_157_48 ?_
    refine z_push c_191_20 ?_
    refine w_iload c_191_22 rfl ?_
    refine z_iadd c_191_23 ?_
    refine z_iaload c_191_24 sp_196 (by omega) (by first | decide | omega) (hD.mi (j := v) (by omega) (by omega) (by omega)) ?_
    refine w_goto c_191_25 ?_
    refine z_ret c_191_29 rfl ?_
    refine q_i k ?_
    unfold milesZ
    (repeat (first | rw [if_pos (by omega)] | rw [if_neg (by omega)]))

set_option maxHeartbeats 1000000 in
theorem tc_miles {d : Nat} {I : aFI} {L : aFL} {Q : aPo} {sh : Nat} {su : Option Nat} {D : Nat → Int → Int} {cd : Nat → Option (List Int)} {v : Int} (hsh : sh = 8 ∨ sh = 22) (hS : wfS D cd) (hW : cW I sh D cd) (rv : -2147483648 ≤ v ∧ v < 2147483648) (k : Q (some (.int (iI (milesZ D v)))) I L (aR sh su)) : aWp none d 84 0 [.ref 0, .int (iI v)] [] I L (aR sh su) Q := by
  have hdd := hS.n
  refine w_iload c_84_0 rfl ?_
  refine z_if_lt c_84_1 (by first | exact aRg_of _ | (unfold aRg; omega)) (fun h1_ => ?_) (fun h1_ => ?_)
  · refine z_push c_84_17 ?_
    refine w_goto c_84_18 ?_
    refine z_ret c_84_30 rfl ?_
    refine q_i k ?_
    unfold milesZ
    (repeat (first | rw [if_pos (by omega)] | rw [if_neg (by omega)]))
  · refine w_iload c_84_4 rfl ?_
    refine w_aload c_84_5 rfl ?_
    refine w_getR c_84_6 sp_0 (by decide) rfl pr_0_3 ?_
    refine w_getR c_84_9 (sps_0 hsh) (by decide) rfl (prs_4 hsh) ?_
    refine z_push c_84_12 ?_
    refine z_iaload c_84_13 (sps_1 hsh) (by omega) (by first | decide | omega) (hW.1.a 1 (by omega) (by omega)) ?_
    refine z_ic_lt c_84_14 (by first | exact aRg_of _ | (unfold aRg; omega)) (by first | exact aRg_of _ | (unfold aRg; omega)) (fun h2_ => ?_) (fun h2_ => ?_)
    · refine w_aload c_84_21 rfl ?_
      refine w_getR c_84_22 sp_0 (by decide) rfl pr_0_3 ?_
      refine w_getR c_84_25 (sps_0 hsh) (by decide) rfl (prs_8 hsh) ?_
      refine w_iload c_84_28 rfl ?_
      refine z_iaload c_84_29 (sps_5 hsh) (by omega) (by first | decide | omega) (hW.1.a 5 (by omega) (by omega)) ?_
      refine z_ret c_84_30 rfl ?_
      refine q_i k ?_
      unfold milesZ
      (repeat (first | rw [if_pos (by omega)] | rw [if_neg (by omega)]))
    · refine z_push c_84_17 ?_
      refine w_goto c_84_18 ?_
      refine z_ret c_84_30 rfl ?_
      refine q_i k ?_
      unfold milesZ
      (repeat (first | rw [if_pos (by omega)] | rw [if_neg (by omega)]))

set_option maxHeartbeats 1000000 in
theorem t_isDeed {d : Nat} {I : aFI} {L : aFL} {Q : aPo} {sh : Nat} {su : Option Nat} {D : Nat → Int → Int} {cd : Nat → Option (List Int)} {v : Int} (hS : wfS D cd) (hD : rD I D) (rv : -2147483648 ≤ v ∧ v < 2147483648) (hd : 2 ≤ d) (k : Q (some (.int (aBo (decide (0 ≤ v ∧ v < D 1 2))))) I L (aR sh su)) : aWp none d 162 0 [.ref 157, .int (iI v)] [] I L (aR sh su) Q := by
  have hdd := hS.n
  refine w_iload c_162_0 rfl ?_
  refine z_i2l c_162_1 (by first | exact aRg_of _ | (unfold aRg; omega)) ?_
  refine z_pushl c_162_2 ?_
  refine w_aload c_162_3 rfl ?_
  refine wc_161 c_162_4 sp_157 (Nat.le_of_ble_eq_true rfl) (by omega) ?_
  refine t_deedMany hD ?_
  refine r_i ?_
  refine z_push c_162_7 ?_
  refine z_isub c_162_8 ?_
  refine z_i2l c_162_9 (by first | exact aRg_of _ | (unfold aRg; omega)) ?_
  refine wc_130 c_162_10 (Nat.le_of_ble_eq_true rfl) (by omega) ?_
  refine t_isIn (by first | exact aRl_of _ | (unfold aRl; omega)) (by first | exact aRl_of _ | (unfold aRl; omega)) (by first | exact aRl_of _ | (unfold aRl; omega)) ?_
  refine r_i ?_
  refine z_retb c_162_13 rfl ?_
  exact q_b k (by by_cases h : 0 ≤ v ∧ v < D 1 2; rw [decide_eq_true h]; exact (decide_eq_true (by omega)).symm; rw [decide_eq_false h]; exact (decide_eq_false (by omega)).symm)

set_option maxHeartbeats 1000000 in
theorem tc_isDeed {d : Nat} {I : aFI} {L : aFL} {Q : aPo} {sh : Nat} {su : Option Nat} {D : Nat → Int → Int} {cd : Nat → Option (List Int)} {v : Int} (hsh : sh = 8 ∨ sh = 22) (hS : wfS D cd) (hW : cW I sh D cd) (rv : -2147483648 ≤ v ∧ v < 2147483648) (k : Q (some (.int (aBo (decide (0 ≤ v ∧ v < D 1 2))))) I L (aR sh su)) : aWp none d 112 0 [.ref 0, .int (iI v)] [] I L (aR sh su) Q := by
  have hdd := hS.n
  refine w_iload c_112_0 rfl ?_
  refine z_if_lt c_112_1 (by first | exact aRg_of _ | (unfold aRg; omega)) (fun h1_ => ?_) (fun h1_ => ?_)
  · refine z_push c_112_21 ?_
    refine z_ret0 c_112_22 rfl ?_
    exact q_b k (decide_eq_false (by omega))
  · refine w_iload c_112_4 rfl ?_
    refine w_aload c_112_5 rfl ?_
    refine w_getR c_112_6 sp_0 (by decide) rfl pr_0_3 ?_
    refine w_getR c_112_9 (sps_0 hsh) (by decide) rfl (prs_4 hsh) ?_
    refine z_push c_112_12 ?_
    refine z_iaload c_112_13 (sps_1 hsh) (by omega) (by first | decide | omega) (hW.1.a 1 (by omega) (by omega)) ?_
    refine z_ic_ge c_112_14 (by first | exact aRg_of _ | (unfold aRg; omega)) (by first | exact aRg_of _ | (unfold aRg; omega)) (fun h2_ => ?_) (fun h2_ => ?_)
    · refine z_push c_112_21 ?_
      refine z_ret0 c_112_22 rfl ?_
      exact q_b k (decide_eq_false (by omega))
    · refine z_push c_112_17 ?_
      refine w_goto c_112_18 ?_
      refine z_ret1 c_112_22 rfl ?_
      exact q_b k (decide_eq_true (by omega))

def keptZ (K : Int → Int → Int) (kc k v : Int) : Int := if (0 ≤ k ∧ k < kc) ∧ (0 ≤ v ∧ v < 4) then K k v else -1
set_option maxHeartbeats 1000000 in
theorem t_kept {d : Nat} {I : aFI} {L : aFL} {Q : aPo} {sh : Nat} {su : Option Nat} {K : Int → Int → Int} {kc k v : Int} (rk : -2147483648 ≤ k ∧ k < 2147483648) (rv : -2147483648 ≤ v ∧ v < 2147483648) (hkc : I 202 27 = iI kc) (hk0 : 0 ≤ kc ∧ kc ≤ 40) (hK : ∀ i j e : Int, 0 ≤ i → i < kc → 0 ≤ j → j < 4 → e = 28 + 4 * i + j → I 202 e.toNat = iI (K i j)) (hd : 2 ≤ d) (kk : Q (some (.int (iI (keptZ K kc k v)))) I L (aR sh su)) : aWp none d 192 0 [.ref 157, .int (iI k), .int (iI v)] [] I L (aR sh su) Q := by
  refine w_iload c_192_0 rfl ?_
  refine z_i2l c_192_1 (by first | exact aRg_of _ | (unfold aRg; omega)) ?_
  refine z_pushl c_192_2 ?_
  refine w_aload c_192_3 rfl ?_
  refine w_getR c_192_4 sp_157 (by decide) rfl pr_157_58 ?_
  refine z_push c_192_7 ?_
  refine z_iaload c_192_9 sp_202 (by omega) (by first | decide | omega) hkc ?_
  refine z_push c_192_10 ?_
  refine z_isub c_192_11 ?_
  refine z_i2l c_192_12 (by first | exact aRg_of _ | (unfold aRg; omega)) ?_
  refine wc_130 c_192_13 (Nat.le_of_ble_eq_true rfl) (by omega) ?_
  refine t_isIn (by first | exact aRl_of _ | (unfold aRl; omega)) (by first | exact aRl_of _ | (unfold aRl; omega)) (by first | exact aRl_of _ | (unfold aRl; omega)) ?_
  refine r_i ?_
  refine b_if_eq c_192_16 (fun h1_ => ?_) (fun h1_ => ?_)
  · simp only [decide_eq_true_eq, decide_eq_false_iff_not] at *
    refine z_push c_192_47 ?_
    refine z_ret c_192_48 rfl ?_
    refine q_i kk ?_
    unfold keptZ
    (repeat (first | rw [if_pos (by omega)] | rw [if_neg (by omega)]))
  · refine w_iload c_192_19 rfl ?_
    refine z_i2l c_192_20 (by first | exact aRg_of _ | (unfold aRg; omega)) ?_
    refine z_pushl c_192_21 ?_
    refine z_pushl c_192_22 ?_
    refine wc_130 c_192_25 (Nat.le_of_ble_eq_true rfl) (by omega) ?_
    refine t_isIn (by first | exact aRl_of _ | (unfold aRl; omega)) (by first | exact aRl_of _ | (unfold aRl; omega)) (by first | exact aRl_of _ | (unfold aRl; omega)) ?_
    refine r_i ?_
    refine b_if_eq c_192_28 (fun h2_ => ?_) (fun h2_ => ?_)
    · simp only [decide_eq_true_eq, decide_eq_false_iff_not] at *
      refine z_push c_192_47 ?_
      refine z_ret c_192_48 rfl ?_
      refine q_i kk ?_
      unfold keptZ
      (repeat (first | rw [if_pos (by omega)] | rw [if_neg (by omega)]))
    · simp only [decide_eq_true_eq, decide_eq_false_iff_not] at *
      refine w_aload c_192_31 rfl ?_
      refine w_getR c_192_32 sp_157 (by decide) rfl pr_157_58 ?_
      refine z_push c_192_35 ?_
      refine z_push c_192_37 ?_
      refine w_iload c_192_38 rfl ?_
      refine z_imul c_192_39 ?_
      refine z_iadd c_192_40 ?_
      refine w_iload c_192_41 rfl ?_
      refine z_iadd c_192_42 ?_
      refine z_iaload c_192_43 sp_202 (by omega) (by first | decide | omega) (hK k v _ (by omega) (by omega) (by omega) (by omega) (by omega)) ?_
      refine w_goto c_192_44 ?_
      refine z_ret c_192_48 rfl ?_
      refine q_i kk ?_
      unfold keptZ
      (repeat (first | rw [if_pos (by omega)] | rw [if_neg (by omega)]))

