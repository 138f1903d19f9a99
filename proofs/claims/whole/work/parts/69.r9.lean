/-! both sides: deed, later (p69.py) -/
def dvZ (D : Nat → Int → Int) (v j : Int) : Int := if v = 0 then D 6 j else if v = 1 then D 7 j else if v = 2 then D 8 j else D 9 j
theorem rD.dv {I : aFI} {D : Nat → Int → Int} {j v e : Int} (h : rD I D) (h0 : 0 ≤ j) (h1 : j < D 1 2) (hv : 0 ≤ v ∧ v ≤ 3) (he : e = 32 + 4 * j + v) : I 197 e.toNat = iI (dvZ D v j) := by
  rcases (show v = 0 ∨ v = 1 ∨ v = 2 ∨ v = 3 by omega) with rfl | rfl | rfl | rfl
  · exact h.d6 h0 h1 (by omega)
  · exact h.d7 h0 h1 (by omega)
  · exact h.d8 h0 h1 (by omega)
  · exact h.d9 h0 h1 (by omega)
def nvZ (X : Lk) (v j : Int) : Int := if v = 4 then (if tb X.2.2.2.1 j = true then 1 else 0) else if v = 5 then X.2.2.2.2.1 j else X.2.2.2.2.2 j
theorem nLk.nv {I : aFI} {c : Nat} {X : Lk} {j v e : Int} (h : rX I c X) (h0 : 0 ≤ j) (h1 : j < 8) (hv : 4 ≤ v ∧ v ≤ 6) (he : e = 3 + 3 * j + v - 4) : I c e.toNat = iI (nvZ X v j) := by
  rcases (show v = 4 ∨ v = 5 ∨ v = 6 by omega) with rfl | rfl | rfl
  · exact h.wr h0 h1 (by omega)
  · exact h.i h0 h1 (by omega)
  · exact h.a h0 h1 (by omega)
def deedZ (D : Nat → Int → Int) (cd : Nat → Option (List Int)) (X : Lk) (e v : Int) : Int := if 0 ≤ e ∧ e < D 1 2 then (if 0 ≤ v ∧ v ≤ 3 then dvZ D v e else if 4 ≤ v ∧ v ≤ 6 then nvZ X v e else if v = 7 then drwZ D cd X e else if v = 8 then (if cbZ D cd X e = true then 1 else 0) else if v = 9 then (if crZ D X e = true then 1 else 0) else -1) else -1
theorem crZ_bit {D : Nat → Int → Int} {X : Lk} {e : Int} (h0 : 0 ≤ e) (h1 : e < D 1 2) : tb (rdZ D X) e = crZ D X e := by
  unfold tb rdZ crZ
  rw [bb_tb, decide_eq_true (by omega), Bool.true_and]
  rw [Int.toNat_of_nonneg h0]; rfl
set_option maxHeartbeats 1000000 in
theorem t_deed {d : Nat} {I : aFI} {L : aFL} {Q : aPo} {sh : Nat} {su : Option Nat} {D : Nat → Int → Int} {cd : Nat → Option (List Int)} {X : Lk} {e v : Int} (hS : wfS D cd) (hR : rS I D cd X) (hX : lkOK X) (re : -2147483648 ≤ e ∧ e < 2147483648) (rv : -2147483648 ≤ v ∧ v < 2147483648) (hd : 6 ≤ d) (k : ∀ (I2 : aFI) (L2 : aFL), frG PK I I2 → frG LK L L2 → Q (some (.int (iI (deedZ D cd X e v)))) I2 L2 (aR sh su)) : aWp none d 190 0 [.ref 157, .int (iI e), .int (iI v)] [] I L (aR sh su) Q := by
  have hdd := hS.n
  have hx1 := hX.1
  have hx2 := hX.2.1
  have hx3 := hX.2.2.1
  have hx4 := hX.2.2.2.1
  refine w_aload c_190_0 rfl ?_
  refine w_iload c_190_1 rfl ?_
  refine wc_162 c_190_2 sp_157 (Nat.le_of_ble_eq_true rfl) (by omega) ?_
  refine t_isDeed hS hR.1.1 re (by omega) ?_
  refine r_i ?_
  refine b_if_ne c_190_5 (fun h1_ => ?_) (fun h1_ => ?_)
  · simp only [decide_eq_true_eq, decide_eq_false_iff_not] at h1_
    have hdb := h1_
    refine w_iload c_190_10 rfl ?_
    rcases (show (v = 0 ∨ v = 1 ∨ v = 2 ∨ v = 3) ∨ (v = 4 ∨ v = 5 ∨ v = 6) ∨ (v = 7) ∨ (v = 8) ∨ (v = 9) ∨ (¬ v = 0 ∧ ¬ v = 1 ∧ ¬ v = 2 ∧ ¬ v = 3 ∧ ¬ v = 4 ∧ ¬ v = 5 ∧ ¬ v = 6 ∧ ¬ v = 7 ∧ ¬ v = 8 ∧ ¬ v = 9) by omega) with h2_ | h2_ | h2_ | h2_ | h2_ | h2_
    · refine z_tsw c_190_11 (by first | exact aRg_of _ | (unfold aRg; omega)) (pc2 := 64) (by rcases h2_ with rfl | rfl | rfl | rfl <;> rfl) ?_
      refine w_aload c_190_64 rfl ?_
      refine w_getR c_190_65 sp_157 (by decide) rfl pr_157_49 ?_
      refine z_push c_190_68 ?_
      refine z_push c_190_70 ?_
      refine w_iload c_190_71 rfl ?_
      refine z_imul c_190_72 ?_
      refine z_iadd c_190_73 ?_
      refine w_iload c_190_74 rfl ?_
      refine z_iadd c_190_75 ?_
      refine z_iaload c_190_76 sp_197 (by omega) (by first | decide | omega) (hR.1.1.dv (j := e) (v := v) (by omega) (by omega) (by omega) (by omega)) ?_
      refine z_ret c_190_77 rfl ?_
      refine q_i (k _ _ (by first | exact hf | exact frG.rf) (by first | exact hf2 | exact frG.rf)) ?_
      unfold deedZ
      first
      | (rw [if_pos hdb]; (repeat (first | rw [if_pos (by omega)] | rw [if_neg (by omega)])); done)
      | (rw [if_neg (by omega)]; done)
      | (rw [if_pos hdb, if_neg (by omega), if_neg (by omega), if_neg (by omega), if_pos (by omega), if_pos (by assumption)]; done)
      | (rw [if_pos hdb, if_neg (by omega), if_neg (by omega), if_neg (by omega), if_pos (by omega), if_neg (by simp only [*]; exact Bool.noConfusion)]; done)
      | (rw [if_pos hdb, if_neg (by omega), if_neg (by omega), if_neg (by omega), if_neg (by omega), if_pos (by omega), if_pos (by assumption)]; done)
      | (rw [if_pos hdb, if_neg (by omega), if_neg (by omega), if_neg (by omega), if_neg (by omega), if_pos (by omega), if_neg (by simp only [*]; exact Bool.noConfusion)]; done)
    · refine z_tsw c_190_11 (by first | exact aRg_of _ | (unfold aRg; omega)) (pc2 := 78) (by rcases h2_ with rfl | rfl | rfl <;> rfl) ?_
      refine w_aload c_190_78 rfl ?_
      refine w_getR c_190_79 sp_157 (by decide) rfl pr_157_58 ?_
      refine z_push c_190_82 ?_
      refine z_push c_190_83 ?_
      refine w_iload c_190_84 rfl ?_
      refine z_imul c_190_85 ?_
      refine z_iadd c_190_86 ?_
      refine w_iload c_190_87 rfl ?_
      refine z_iadd c_190_88 ?_
      refine z_push c_190_89 ?_
      refine z_isub c_190_90 ?_
      refine z_iaload c_190_91 sp_202 (by omega) (by first | decide | omega) (nLk.nv hR.2 (j := e) (v := v) (by omega) (by omega) (by omega) (by omega)) ?_
      refine z_ret c_190_92 rfl ?_
      refine q_i (k _ _ (by first | exact hf | exact frG.rf) (by first | exact hf2 | exact frG.rf)) ?_
      unfold deedZ
      first
      | (rw [if_pos hdb]; (repeat (first | rw [if_pos (by omega)] | rw [if_neg (by omega)])); done)
      | (rw [if_neg (by omega)]; done)
      | (rw [if_pos hdb, if_neg (by omega), if_neg (by omega), if_neg (by omega), if_pos (by omega), if_pos (by assumption)]; done)
      | (rw [if_pos hdb, if_neg (by omega), if_neg (by omega), if_neg (by omega), if_pos (by omega), if_neg (by simp only [*]; exact Bool.noConfusion)]; done)
      | (rw [if_pos hdb, if_neg (by omega), if_neg (by omega), if_neg (by omega), if_neg (by omega), if_pos (by omega), if_pos (by assumption)]; done)
      | (rw [if_pos hdb, if_neg (by omega), if_neg (by omega), if_neg (by omega), if_neg (by omega), if_pos (by omega), if_neg (by simp only [*]; exact Bool.noConfusion)]; done)
    · refine z_tsw c_190_11 (by first | exact aRg_of _ | (unfold aRg; omega)) (pc2 := 93) (by rcases h2_ with rfl <;> rfl) ?_
      refine w_aload c_190_93 rfl ?_
      refine w_iload c_190_94 rfl ?_
      refine wc_171 c_190_95 sp_157 (Nat.le_of_ble_eq_true rfl) (by omega) ?_
      refine t_drawnBy hS hR hX hdb (by omega) (fun I2 L2 hf hf2 => ?_)
      refine r_i ?_
      refine z_ret c_190_98 rfl ?_
      refine q_i (k _ _ (by first | exact hf | exact frG.rf) (by first | exact hf2 | exact frG.rf)) ?_
      unfold deedZ
      first
      | (rw [if_pos hdb]; (repeat (first | rw [if_pos (by omega)] | rw [if_neg (by omega)])); done)
      | (rw [if_neg (by omega)]; done)
      | (rw [if_pos hdb, if_neg (by omega), if_neg (by omega), if_neg (by omega), if_pos (by omega), if_pos (by assumption)]; done)
      | (rw [if_pos hdb, if_neg (by omega), if_neg (by omega), if_neg (by omega), if_pos (by omega), if_neg (by simp only [*]; exact Bool.noConfusion)]; done)
      | (rw [if_pos hdb, if_neg (by omega), if_neg (by omega), if_neg (by omega), if_neg (by omega), if_pos (by omega), if_pos (by assumption)]; done)
      | (rw [if_pos hdb, if_neg (by omega), if_neg (by omega), if_neg (by omega), if_neg (by omega), if_pos (by omega), if_neg (by simp only [*]; exact Bool.noConfusion)]; done)
    · refine z_tsw c_190_11 (by first | exact aRg_of _ | (unfold aRg; omega)) (pc2 := 99) (by rcases h2_ with rfl <;> rfl) ?_
      refine w_aload c_190_99 rfl ?_
      refine w_iload c_190_100 rfl ?_
      refine wc_172 c_190_101 sp_157 (Nat.le_of_ble_eq_true rfl) (by omega) ?_
      refine t_canBe hS hR hX hdb (by omega) (fun I2 L2 hf hf2 => ?_)
      refine r_i ?_
      refine b_if_eq c_190_104 (fun h3_ => ?_) (fun h3_ => ?_)
      · refine z_push c_190_111 ?_
        refine z_ret c_190_112 rfl ?_
        refine q_i (k _ _ (by first | exact hf | exact frG.rf) (by first | exact hf2 | exact frG.rf)) ?_
        unfold deedZ
        first
        | (rw [if_pos hdb]; (repeat (first | rw [if_pos (by omega)] | rw [if_neg (by omega)])); done)
        | (rw [if_neg (by omega)]; done)
        | (rw [if_pos hdb, if_neg (by omega), if_neg (by omega), if_neg (by omega), if_pos (by omega), if_pos (by assumption)]; done)
        | (rw [if_pos hdb, if_neg (by omega), if_neg (by omega), if_neg (by omega), if_pos (by omega), if_neg (by simp only [*]; exact Bool.noConfusion)]; done)
        | (rw [if_pos hdb, if_neg (by omega), if_neg (by omega), if_neg (by omega), if_neg (by omega), if_pos (by omega), if_pos (by assumption)]; done)
        | (rw [if_pos hdb, if_neg (by omega), if_neg (by omega), if_neg (by omega), if_neg (by omega), if_pos (by omega), if_neg (by simp only [*]; exact Bool.noConfusion)]; done)
      · refine z_push c_190_107 ?_
        refine w_goto c_190_108 ?_
        refine z_ret c_190_112 rfl ?_
        refine q_i (k _ _ (by first | exact hf | exact frG.rf) (by first | exact hf2 | exact frG.rf)) ?_
        unfold deedZ
        first
        | (rw [if_pos hdb]; (repeat (first | rw [if_pos (by omega)] | rw [if_neg (by omega)])); done)
        | (rw [if_neg (by omega)]; done)
        | (rw [if_pos hdb, if_neg (by omega), if_neg (by omega), if_neg (by omega), if_pos (by omega), if_pos (by assumption)]; done)
        | (rw [if_pos hdb, if_neg (by omega), if_neg (by omega), if_neg (by omega), if_pos (by omega), if_neg (by simp only [*]; exact Bool.noConfusion)]; done)
        | (rw [if_pos hdb, if_neg (by omega), if_neg (by omega), if_neg (by omega), if_neg (by omega), if_pos (by omega), if_pos (by assumption)]; done)
        | (rw [if_pos hdb, if_neg (by omega), if_neg (by omega), if_neg (by omega), if_neg (by omega), if_pos (by omega), if_neg (by simp only [*]; exact Bool.noConfusion)]; done)
    · refine z_tsw c_190_11 (by first | exact aRg_of _ | (unfold aRg; omega)) (pc2 := 113) (by rcases h2_ with rfl <;> rfl) ?_
      refine w_aload c_190_113 rfl ?_
      refine w_iload c_190_114 rfl ?_
      refine wc_181 c_190_115 sp_157 (Nat.le_of_ble_eq_true rfl) (by omega) ?_
      refine t_canRead hS hR hX (by omega) (by omega) ?_
      refine r_i ?_
      refine b_if_eq c_190_118 (fun h4_ => ?_) (fun h4_ => ?_)
      · refine z_push c_190_125 ?_
        refine z_ret c_190_126 rfl ?_
        refine q_i (k _ _ (by first | exact hf | exact frG.rf) (by first | exact hf2 | exact frG.rf)) ?_
        unfold deedZ
        first
        | (rw [if_pos hdb]; (repeat (first | rw [if_pos (by omega)] | rw [if_neg (by omega)])); done)
        | (rw [if_neg (by omega)]; done)
        | (rw [if_pos hdb, if_neg (by omega), if_neg (by omega), if_neg (by omega), if_pos (by omega), if_pos (by assumption)]; done)
        | (rw [if_pos hdb, if_neg (by omega), if_neg (by omega), if_neg (by omega), if_pos (by omega), if_neg (by simp only [*]; exact Bool.noConfusion)]; done)
        | (rw [if_pos hdb, if_neg (by omega), if_neg (by omega), if_neg (by omega), if_neg (by omega), if_pos (by omega), if_pos (by assumption)]; done)
        | (rw [if_pos hdb, if_neg (by omega), if_neg (by omega), if_neg (by omega), if_neg (by omega), if_pos (by omega), if_neg (by simp only [*]; exact Bool.noConfusion)]; done)
      · refine z_push c_190_121 ?_
        refine w_goto c_190_122 ?_
        refine z_ret c_190_126 rfl ?_
        refine q_i (k _ _ (by first | exact hf | exact frG.rf) (by first | exact hf2 | exact frG.rf)) ?_
        unfold deedZ
        first
        | (rw [if_pos hdb]; (repeat (first | rw [if_pos (by omega)] | rw [if_neg (by omega)])); done)
        | (rw [if_neg (by omega)]; done)
        | (rw [if_pos hdb, if_neg (by omega), if_neg (by omega), if_neg (by omega), if_pos (by omega), if_pos (by assumption)]; done)
        | (rw [if_pos hdb, if_neg (by omega), if_neg (by omega), if_neg (by omega), if_pos (by omega), if_neg (by simp only [*]; exact Bool.noConfusion)]; done)
        | (rw [if_pos hdb, if_neg (by omega), if_neg (by omega), if_neg (by omega), if_neg (by omega), if_pos (by omega), if_pos (by assumption)]; done)
        | (rw [if_pos hdb, if_neg (by omega), if_neg (by omega), if_neg (by omega), if_neg (by omega), if_pos (by omega), if_neg (by simp only [*]; exact Bool.noConfusion)]; done)
    · refine z_tsw c_190_11 (by first | exact aRg_of _ | (unfold aRg; omega)) (pc2 := 127) (by (by_cases hq : v < 0 ∨ 9 < v); (rw [if_pos hq]; rfl); (exfalso; omega)) ?_
      refine z_push c_190_127 ?_
      refine z_ret c_190_128 rfl ?_
      refine q_i (k _ _ (by first | exact hf | exact frG.rf) (by first | exact hf2 | exact frG.rf)) ?_
      unfold deedZ
      first
      | (rw [if_pos hdb]; (repeat (first | rw [if_pos (by omega)] | rw [if_neg (by omega)])); done)
      | (rw [if_neg (by omega)]; done)
      | (rw [if_pos hdb, if_neg (by omega), if_neg (by omega), if_neg (by omega), if_pos (by omega), if_pos (by assumption)]; done)
      | (rw [if_pos hdb, if_neg (by omega), if_neg (by omega), if_neg (by omega), if_pos (by omega), if_neg (by simp only [*]; exact Bool.noConfusion)]; done)
      | (rw [if_pos hdb, if_neg (by omega), if_neg (by omega), if_neg (by omega), if_neg (by omega), if_pos (by omega), if_pos (by assumption)]; done)
      | (rw [if_pos hdb, if_neg (by omega), if_neg (by omega), if_neg (by omega), if_neg (by omega), if_pos (by omega), if_neg (by simp only [*]; exact Bool.noConfusion)]; done)
  · simp only [decide_eq_true_eq, decide_eq_false_iff_not] at h1_
    refine z_push c_190_8 ?_
    refine z_ret c_190_9 rfl ?_
    refine q_i (k _ _ (by first | exact hf | exact frG.rf) (by first | exact hf2 | exact frG.rf)) ?_
    unfold deedZ
    first
    | (rw [if_pos hdb]; (repeat (first | rw [if_pos (by omega)] | rw [if_neg (by omega)])); done)
    | (rw [if_neg (by omega)]; done)
    | (rw [if_pos hdb, if_neg (by omega), if_neg (by omega), if_neg (by omega), if_pos (by omega), if_pos (by assumption)]; done)
    | (rw [if_pos hdb, if_neg (by omega), if_neg (by omega), if_neg (by omega), if_pos (by omega), if_neg (by simp only [*]; exact Bool.noConfusion)]; done)
    | (rw [if_pos hdb, if_neg (by omega), if_neg (by omega), if_neg (by omega), if_neg (by omega), if_pos (by omega), if_pos (by assumption)]; done)
    | (rw [if_pos hdb, if_neg (by omega), if_neg (by omega), if_neg (by omega), if_neg (by omega), if_pos (by omega), if_neg (by simp only [*]; exact Bool.noConfusion)]; done)

set_option maxHeartbeats 1000000 in
theorem tc_deed {d : Nat} {I : aFI} {L : aFL} {Q : aPo} {sh : Nat} {su : Option Nat} {D : Nat → Int → Int} {cd : Nat → Option (List Int)} {X : Lk} {kc : Int} (hsh : sh = 8 ∨ sh = 22) (hS : wfS D cd) (hW : cW I sh D cd) (hL : lkX I 36 kc X) (hX : lkOK X) {e v : Int} (re : -2147483648 ≤ e ∧ e < 2147483648) (rv : -2147483648 ≤ v ∧ v < 2147483648) (hdr : -1000000 ≤ (I 42 1).toInt ∧ (I 42 1).toInt ≤ 1000000) (hd : 7 ≤ d) (k : ∀ I2 : aFI, frP P43 I I2 → Q (some (.int (iI (deedZ D cd X e v)))) I2 L (aR sh su)) : aWp none d 83 0 [.ref 0, .int (iI e), .int (iI v)] [] I L (aR sh su) Q := by
  have hdd := hS.n
  have hx1 := hX.1
  have hx2 := hX.2.1
  have hx3 := hX.2.2.1
  have hx4 := hX.2.2.2.1
  refine w_aload c_83_0 rfl ?_
  refine w_iload c_83_1 rfl ?_
  refine wc_112 c_83_2 sp_0 (Nat.le_of_ble_eq_true rfl) (by omega) ?_
  refine tc_isDeed hsh hS hW re ?_
  refine r_i ?_
  refine b_if_ne c_83_5 (fun h1_ => ?_) (fun h1_ => ?_)
  · simp only [decide_eq_true_eq, decide_eq_false_iff_not] at h1_
    have hdb := h1_
    refine w_iload c_83_10 rfl ?_
    rcases (show (v = 0) ∨ (v = 1) ∨ (v = 2) ∨ (v = 3) ∨ (v = 4) ∨ (v = 5) ∨ (v = 6) ∨ (v = 7) ∨ (v = 8) ∨ (v = 9) ∨ (¬ v = 0 ∧ ¬ v = 1 ∧ ¬ v = 2 ∧ ¬ v = 3 ∧ ¬ v = 4 ∧ ¬ v = 5 ∧ ¬ v = 6 ∧ ¬ v = 7 ∧ ¬ v = 8 ∧ ¬ v = 9) by omega) with h2_ | h2_ | h2_ | h2_ | h2_ | h2_ | h2_ | h2_ | h2_ | h2_ | h2_
    · refine z_tsw c_83_11 (by first | exact aRg_of _ | (unfold aRg; omega)) (pc2 := 64) (by rcases h2_ with rfl <;> rfl) ?_
      refine w_aload c_83_64 rfl ?_
      refine w_getR c_83_65 sp_0 (by decide) rfl pr_0_3 ?_
      refine w_getR c_83_68 (sps_0 hsh) (by decide) rfl (prs_9 hsh) ?_
      refine w_iload c_83_71 rfl ?_
      refine z_iaload c_83_72 (sps_6 hsh) (by omega) (by first | decide | omega) (hW.1.a 6 (by omega) (by omega)) ?_
      refine z_ret c_83_73 rfl ?_
      try subst h2_
      refine q_i (k _ (by first | exact hf | exact frP.rf)) ?_
      unfold deedZ
      first
      | (rw [if_neg (by omega)]; done)
      | (rw [if_pos hdb]; (repeat (first | rw [if_pos (by omega)] | rw [if_neg (by omega)])); first | done | rfl)
      | (rw [if_pos hdb]; (repeat (first | rw [if_pos (by omega)] | rw [if_neg (by omega)])); unfold nvZ; rw [if_pos rfl]; first | rw [if_pos (by assumption)] | rw [if_neg (by simp only [*]; exact Bool.noConfusion)])
      | (rw [if_pos hdb, if_neg (by omega), if_neg (by omega), if_neg (by omega), if_pos (by omega)]; first | rw [if_pos (by assumption)] | rw [if_neg (by simp only [*]; exact Bool.noConfusion)])
      | (rw [if_pos hdb, if_neg (by omega), if_neg (by omega), if_neg (by omega), if_neg (by omega), if_pos (by omega), crZ_bit hdb.1 hdb.2]; done)
    · refine z_tsw c_83_11 (by first | exact aRg_of _ | (unfold aRg; omega)) (pc2 := 74) (by rcases h2_ with rfl <;> rfl) ?_
      refine w_aload c_83_74 rfl ?_
      refine w_getR c_83_75 sp_0 (by decide) rfl pr_0_3 ?_
      refine w_getR c_83_78 (sps_0 hsh) (by decide) rfl (prs_10 hsh) ?_
      refine w_iload c_83_81 rfl ?_
      refine z_iaload c_83_82 (sps_7 hsh) (by omega) (by first | decide | omega) (hW.1.a 7 (by omega) (by omega)) ?_
      refine z_ret c_83_83 rfl ?_
      try subst h2_
      refine q_i (k _ (by first | exact hf | exact frP.rf)) ?_
      unfold deedZ
      first
      | (rw [if_neg (by omega)]; done)
      | (rw [if_pos hdb]; (repeat (first | rw [if_pos (by omega)] | rw [if_neg (by omega)])); first | done | rfl)
      | (rw [if_pos hdb]; (repeat (first | rw [if_pos (by omega)] | rw [if_neg (by omega)])); unfold nvZ; rw [if_pos rfl]; first | rw [if_pos (by assumption)] | rw [if_neg (by simp only [*]; exact Bool.noConfusion)])
      | (rw [if_pos hdb, if_neg (by omega), if_neg (by omega), if_neg (by omega), if_pos (by omega)]; first | rw [if_pos (by assumption)] | rw [if_neg (by simp only [*]; exact Bool.noConfusion)])
      | (rw [if_pos hdb, if_neg (by omega), if_neg (by omega), if_neg (by omega), if_neg (by omega), if_pos (by omega), crZ_bit hdb.1 hdb.2]; done)
    · refine z_tsw c_83_11 (by first | exact aRg_of _ | (unfold aRg; omega)) (pc2 := 84) (by rcases h2_ with rfl <;> rfl) ?_
      refine w_aload c_83_84 rfl ?_
      refine w_getR c_83_85 sp_0 (by decide) rfl pr_0_3 ?_
      refine w_getR c_83_88 (sps_0 hsh) (by decide) rfl (prs_11 hsh) ?_
      refine w_iload c_83_91 rfl ?_
      refine z_iaload c_83_92 (sps_8 hsh) (by omega) (by first | decide | omega) (hW.1.a 8 (by omega) (by omega)) ?_
      refine z_ret c_83_93 rfl ?_
      try subst h2_
      refine q_i (k _ (by first | exact hf | exact frP.rf)) ?_
      unfold deedZ
      first
      | (rw [if_neg (by omega)]; done)
      | (rw [if_pos hdb]; (repeat (first | rw [if_pos (by omega)] | rw [if_neg (by omega)])); first | done | rfl)
      | (rw [if_pos hdb]; (repeat (first | rw [if_pos (by omega)] | rw [if_neg (by omega)])); unfold nvZ; rw [if_pos rfl]; first | rw [if_pos (by assumption)] | rw [if_neg (by simp only [*]; exact Bool.noConfusion)])
      | (rw [if_pos hdb, if_neg (by omega), if_neg (by omega), if_neg (by omega), if_pos (by omega)]; first | rw [if_pos (by assumption)] | rw [if_neg (by simp only [*]; exact Bool.noConfusion)])
      | (rw [if_pos hdb, if_neg (by omega), if_neg (by omega), if_neg (by omega), if_neg (by omega), if_pos (by omega), crZ_bit hdb.1 hdb.2]; done)
    · refine z_tsw c_83_11 (by first | exact aRg_of _ | (unfold aRg; omega)) (pc2 := 94) (by rcases h2_ with rfl <;> rfl) ?_
      refine w_aload c_83_94 rfl ?_
      refine w_getR c_83_95 sp_0 (by decide) rfl pr_0_3 ?_
      refine w_getR c_83_98 (sps_0 hsh) (by decide) rfl (prs_12 hsh) ?_
      refine w_iload c_83_101 rfl ?_
      refine z_iaload c_83_102 (sps_9 hsh) (by omega) (by first | decide | omega) (hW.1.a 9 (by omega) (by omega)) ?_
      refine z_ret c_83_103 rfl ?_
      try subst h2_
      refine q_i (k _ (by first | exact hf | exact frP.rf)) ?_
      unfold deedZ
      first
      | (rw [if_neg (by omega)]; done)
      | (rw [if_pos hdb]; (repeat (first | rw [if_pos (by omega)] | rw [if_neg (by omega)])); first | done | rfl)
      | (rw [if_pos hdb]; (repeat (first | rw [if_pos (by omega)] | rw [if_neg (by omega)])); unfold nvZ; rw [if_pos rfl]; first | rw [if_pos (by assumption)] | rw [if_neg (by simp only [*]; exact Bool.noConfusion)])
      | (rw [if_pos hdb, if_neg (by omega), if_neg (by omega), if_neg (by omega), if_pos (by omega)]; first | rw [if_pos (by assumption)] | rw [if_neg (by simp only [*]; exact Bool.noConfusion)])
      | (rw [if_pos hdb, if_neg (by omega), if_neg (by omega), if_neg (by omega), if_neg (by omega), if_pos (by omega), crZ_bit hdb.1 hdb.2]; done)
    · refine z_tsw c_83_11 (by first | exact aRg_of _ | (unfold aRg; omega)) (pc2 := 104) (by rcases h2_ with rfl <;> rfl) ?_
      refine w_aload c_83_104 rfl ?_
      refine w_getR c_83_105 sp_0 (by decide) rfl pr_0_5 ?_
      refine w_iload c_83_108 rfl ?_
      refine wc_8 c_83_109 sp_36 (Nat.le_of_ble_eq_true rfl) (by omega) ?_
      refine tc_isWritten aLk_36 hL hX.2.2.2.1 ⟨by omega, by omega⟩ ?_
      refine r_i ?_
      refine b_if_eq c_83_112 (fun h3_ => ?_) (fun h3_ => ?_)
      · refine z_push c_83_119 ?_
        refine z_ret c_83_120 rfl ?_
        try subst h2_
        refine q_i (k _ (by first | exact hf | exact frP.rf)) ?_
        unfold deedZ
        first
        | (rw [if_neg (by omega)]; done)
        | (rw [if_pos hdb]; (repeat (first | rw [if_pos (by omega)] | rw [if_neg (by omega)])); first | done | rfl)
        | (rw [if_pos hdb]; (repeat (first | rw [if_pos (by omega)] | rw [if_neg (by omega)])); unfold nvZ; rw [if_pos rfl]; first | rw [if_pos (by assumption)] | rw [if_neg (by simp only [*]; exact Bool.noConfusion)])
        | (rw [if_pos hdb, if_neg (by omega), if_neg (by omega), if_neg (by omega), if_pos (by omega)]; first | rw [if_pos (by assumption)] | rw [if_neg (by simp only [*]; exact Bool.noConfusion)])
        | (rw [if_pos hdb, if_neg (by omega), if_neg (by omega), if_neg (by omega), if_neg (by omega), if_pos (by omega), crZ_bit hdb.1 hdb.2]; done)
      · refine z_push c_83_115 ?_
        refine w_goto c_83_116 ?_
        refine z_ret c_83_120 rfl ?_
        try subst h2_
        refine q_i (k _ (by first | exact hf | exact frP.rf)) ?_
        unfold deedZ
        first
        | (rw [if_neg (by omega)]; done)
        | (rw [if_pos hdb]; (repeat (first | rw [if_pos (by omega)] | rw [if_neg (by omega)])); first | done | rfl)
        | (rw [if_pos hdb]; (repeat (first | rw [if_pos (by omega)] | rw [if_neg (by omega)])); unfold nvZ; rw [if_pos rfl]; first | rw [if_pos (by assumption)] | rw [if_neg (by simp only [*]; exact Bool.noConfusion)])
        | (rw [if_pos hdb, if_neg (by omega), if_neg (by omega), if_neg (by omega), if_pos (by omega)]; first | rw [if_pos (by assumption)] | rw [if_neg (by simp only [*]; exact Bool.noConfusion)])
        | (rw [if_pos hdb, if_neg (by omega), if_neg (by omega), if_neg (by omega), if_neg (by omega), if_pos (by omega), crZ_bit hdb.1 hdb.2]; done)
    · refine z_tsw c_83_11 (by first | exact aRg_of _ | (unfold aRg; omega)) (pc2 := 121) (by rcases h2_ with rfl <;> rfl) ?_
      refine w_aload c_83_121 rfl ?_
      refine w_getR c_83_122 sp_0 (by decide) rfl pr_0_5 ?_
      refine w_getR c_83_125 sp_36 (by decide) rfl pr_36_5 ?_
      refine w_iload c_83_128 rfl ?_
      refine z_iaload c_83_129 sp_37 (by omega) (by first | decide | omega) (hL.2.2.2.2.2 _ (by omega) (by omega)).1 ?_
      refine z_ret c_83_130 rfl ?_
      try subst h2_
      refine q_i (k _ (by first | exact hf | exact frP.rf)) ?_
      unfold deedZ
      first
      | (rw [if_neg (by omega)]; done)
      | (rw [if_pos hdb]; (repeat (first | rw [if_pos (by omega)] | rw [if_neg (by omega)])); first | done | rfl)
      | (rw [if_pos hdb]; (repeat (first | rw [if_pos (by omega)] | rw [if_neg (by omega)])); unfold nvZ; rw [if_pos rfl]; first | rw [if_pos (by assumption)] | rw [if_neg (by simp only [*]; exact Bool.noConfusion)])
      | (rw [if_pos hdb, if_neg (by omega), if_neg (by omega), if_neg (by omega), if_pos (by omega)]; first | rw [if_pos (by assumption)] | rw [if_neg (by simp only [*]; exact Bool.noConfusion)])
      | (rw [if_pos hdb, if_neg (by omega), if_neg (by omega), if_neg (by omega), if_neg (by omega), if_pos (by omega), crZ_bit hdb.1 hdb.2]; done)
    · refine z_tsw c_83_11 (by first | exact aRg_of _ | (unfold aRg; omega)) (pc2 := 131) (by rcases h2_ with rfl <;> rfl) ?_
      refine w_aload c_83_131 rfl ?_
      refine w_getR c_83_132 sp_0 (by decide) rfl pr_0_5 ?_
      refine w_getR c_83_135 sp_36 (by decide) rfl pr_36_6 ?_
      refine w_iload c_83_138 rfl ?_
      refine z_iaload c_83_139 sp_38 (by omega) (by first | decide | omega) (hL.2.2.2.2.2 _ (by omega) (by omega)).2 ?_
      refine z_ret c_83_140 rfl ?_
      try subst h2_
      refine q_i (k _ (by first | exact hf | exact frP.rf)) ?_
      unfold deedZ
      first
      | (rw [if_neg (by omega)]; done)
      | (rw [if_pos hdb]; (repeat (first | rw [if_pos (by omega)] | rw [if_neg (by omega)])); first | done | rfl)
      | (rw [if_pos hdb]; (repeat (first | rw [if_pos (by omega)] | rw [if_neg (by omega)])); unfold nvZ; rw [if_pos rfl]; first | rw [if_pos (by assumption)] | rw [if_neg (by simp only [*]; exact Bool.noConfusion)])
      | (rw [if_pos hdb, if_neg (by omega), if_neg (by omega), if_neg (by omega), if_pos (by omega)]; first | rw [if_pos (by assumption)] | rw [if_neg (by simp only [*]; exact Bool.noConfusion)])
      | (rw [if_pos hdb, if_neg (by omega), if_neg (by omega), if_neg (by omega), if_neg (by omega), if_pos (by omega), crZ_bit hdb.1 hdb.2]; done)
    · refine z_tsw c_83_11 (by first | exact aRg_of _ | (unfold aRg; omega)) (pc2 := 141) (by rcases h2_ with rfl <;> rfl) ?_
      refine w_aload c_83_141 rfl ?_
      refine w_getR c_83_142 sp_0 (by decide) rfl pr_0_7 ?_
      refine w_aload c_83_145 rfl ?_
      refine w_getR c_83_146 sp_0 (by decide) rfl pr_0_5 ?_
      refine w_iload c_83_149 rfl ?_
      refine wc_48 c_83_150 sp_42 (Nat.le_of_ble_eq_true rfl) (by omega) ?_
      refine tc_drawnBy hsh aLk_36 hS hW hL hX hdb hdr (by omega) (fun I2 hf => ?_)
      refine r_i ?_
      refine z_ret c_83_153 rfl ?_
      try subst h2_
      refine q_i (k _ (by first | exact hf | exact frP.rf)) ?_
      unfold deedZ
      first
      | (rw [if_neg (by omega)]; done)
      | (rw [if_pos hdb]; (repeat (first | rw [if_pos (by omega)] | rw [if_neg (by omega)])); first | done | rfl)
      | (rw [if_pos hdb]; (repeat (first | rw [if_pos (by omega)] | rw [if_neg (by omega)])); unfold nvZ; rw [if_pos rfl]; first | rw [if_pos (by assumption)] | rw [if_neg (by simp only [*]; exact Bool.noConfusion)])
      | (rw [if_pos hdb, if_neg (by omega), if_neg (by omega), if_neg (by omega), if_pos (by omega)]; first | rw [if_pos (by assumption)] | rw [if_neg (by simp only [*]; exact Bool.noConfusion)])
      | (rw [if_pos hdb, if_neg (by omega), if_neg (by omega), if_neg (by omega), if_neg (by omega), if_pos (by omega), crZ_bit hdb.1 hdb.2]; done)
    · refine z_tsw c_83_11 (by first | exact aRg_of _ | (unfold aRg; omega)) (pc2 := 154) (by rcases h2_ with rfl <;> rfl) ?_
      refine w_aload c_83_154 rfl ?_
      refine w_getR c_83_155 sp_0 (by decide) rfl pr_0_7 ?_
      refine w_aload c_83_158 rfl ?_
      refine w_getR c_83_159 sp_0 (by decide) rfl pr_0_5 ?_
      refine w_iload c_83_162 rfl ?_
      refine wc_49 c_83_163 sp_42 (Nat.le_of_ble_eq_true rfl) (by omega) ?_
      refine tc_canBe hsh aLk_36 hS hW hL hX hdb hdr (by omega) (fun I2 hf => ?_)
      refine r_i ?_
      refine b_if_eq c_83_166 (fun h4_ => ?_) (fun h4_ => ?_)
      · refine z_push c_83_173 ?_
        refine z_ret c_83_174 rfl ?_
        try subst h2_
        refine q_i (k _ (by first | exact hf | exact frP.rf)) ?_
        unfold deedZ
        first
        | (rw [if_neg (by omega)]; done)
        | (rw [if_pos hdb]; (repeat (first | rw [if_pos (by omega)] | rw [if_neg (by omega)])); first | done | rfl)
        | (rw [if_pos hdb]; (repeat (first | rw [if_pos (by omega)] | rw [if_neg (by omega)])); unfold nvZ; rw [if_pos rfl]; first | rw [if_pos (by assumption)] | rw [if_neg (by simp only [*]; exact Bool.noConfusion)])
        | (rw [if_pos hdb, if_neg (by omega), if_neg (by omega), if_neg (by omega), if_pos (by omega)]; first | rw [if_pos (by assumption)] | rw [if_neg (by simp only [*]; exact Bool.noConfusion)])
        | (rw [if_pos hdb, if_neg (by omega), if_neg (by omega), if_neg (by omega), if_neg (by omega), if_pos (by omega), crZ_bit hdb.1 hdb.2]; done)
      · refine z_push c_83_169 ?_
        refine w_goto c_83_170 ?_
        refine z_ret c_83_174 rfl ?_
        try subst h2_
        refine q_i (k _ (by first | exact hf | exact frP.rf)) ?_
        unfold deedZ
        first
        | (rw [if_neg (by omega)]; done)
        | (rw [if_pos hdb]; (repeat (first | rw [if_pos (by omega)] | rw [if_neg (by omega)])); first | done | rfl)
        | (rw [if_pos hdb]; (repeat (first | rw [if_pos (by omega)] | rw [if_neg (by omega)])); unfold nvZ; rw [if_pos rfl]; first | rw [if_pos (by assumption)] | rw [if_neg (by simp only [*]; exact Bool.noConfusion)])
        | (rw [if_pos hdb, if_neg (by omega), if_neg (by omega), if_neg (by omega), if_pos (by omega)]; first | rw [if_pos (by assumption)] | rw [if_neg (by simp only [*]; exact Bool.noConfusion)])
        | (rw [if_pos hdb, if_neg (by omega), if_neg (by omega), if_neg (by omega), if_neg (by omega), if_pos (by omega), crZ_bit hdb.1 hdb.2]; done)
    · refine z_tsw c_83_11 (by first | exact aRg_of _ | (unfold aRg; omega)) (pc2 := 175) (by rcases h2_ with rfl <;> rfl) ?_
      refine w_aload c_83_175 rfl ?_
      refine w_getR c_83_176 sp_0 (by decide) rfl pr_0_7 ?_
      refine w_aload c_83_179 rfl ?_
      refine w_getR c_83_180 sp_0 (by decide) rfl pr_0_5 ?_
      refine wc_50 c_83_183 sp_42 (Nat.le_of_ble_eq_true rfl) (by omega) ?_
      refine tc_readable hsh aLk_36 hS hW hL hX (by omega) ?_
      refine r_i ?_
      refine w_iload c_83_186 rfl ?_
      refine w_ishr c_83_187 (shr1 (rdZ_lt (by omega)) (by omega)) ?_
      refine z_push c_83_188 ?_
      refine w_iand c_83_189 tb_and ?_
      refine z_ret c_83_190 rfl ?_
      try subst h2_
      refine q_i (k _ (by first | exact hf | exact frP.rf)) ?_
      unfold deedZ
      first
      | (rw [if_neg (by omega)]; done)
      | (rw [if_pos hdb]; (repeat (first | rw [if_pos (by omega)] | rw [if_neg (by omega)])); first | done | rfl)
      | (rw [if_pos hdb]; (repeat (first | rw [if_pos (by omega)] | rw [if_neg (by omega)])); unfold nvZ; rw [if_pos rfl]; first | rw [if_pos (by assumption)] | rw [if_neg (by simp only [*]; exact Bool.noConfusion)])
      | (rw [if_pos hdb, if_neg (by omega), if_neg (by omega), if_neg (by omega), if_pos (by omega)]; first | rw [if_pos (by assumption)] | rw [if_neg (by simp only [*]; exact Bool.noConfusion)])
      | (rw [if_pos hdb, if_neg (by omega), if_neg (by omega), if_neg (by omega), if_neg (by omega), if_pos (by omega), crZ_bit hdb.1 hdb.2]; done)
    · refine z_tsw c_83_11 (by first | exact aRg_of _ | (unfold aRg; omega)) (pc2 := 191) (by (by_cases hq : v < 0 ∨ 9 < v); (rw [if_pos hq]; rfl); (exfalso; omega)) ?_
      refine z_push c_83_191 ?_
      refine z_ret c_83_192 rfl ?_
      try subst h2_
      refine q_i (k _ (by first | exact hf | exact frP.rf)) ?_
      unfold deedZ
      first
      | (rw [if_neg (by omega)]; done)
      | (rw [if_pos hdb]; (repeat (first | rw [if_pos (by omega)] | rw [if_neg (by omega)])); first | done | rfl)
      | (rw [if_pos hdb]; (repeat (first | rw [if_pos (by omega)] | rw [if_neg (by omega)])); unfold nvZ; rw [if_pos rfl]; first | rw [if_pos (by assumption)] | rw [if_neg (by simp only [*]; exact Bool.noConfusion)])
      | (rw [if_pos hdb, if_neg (by omega), if_neg (by omega), if_neg (by omega), if_pos (by omega)]; first | rw [if_pos (by assumption)] | rw [if_neg (by simp only [*]; exact Bool.noConfusion)])
      | (rw [if_pos hdb, if_neg (by omega), if_neg (by omega), if_neg (by omega), if_neg (by omega), if_pos (by omega), crZ_bit hdb.1 hdb.2]; done)
  · simp only [decide_eq_true_eq, decide_eq_false_iff_not] at h1_
    refine z_push c_83_8 ?_
    refine z_ret c_83_9 rfl ?_
    try subst h2_
    refine q_i (k _ (by first | exact hf | exact frP.rf)) ?_
    unfold deedZ
    first
    | (rw [if_neg (by omega)]; done)
    | (rw [if_pos hdb]; (repeat (first | rw [if_pos (by omega)] | rw [if_neg (by omega)])); first | done | rfl)
    | (rw [if_pos hdb]; (repeat (first | rw [if_pos (by omega)] | rw [if_neg (by omega)])); unfold nvZ; rw [if_pos rfl]; first | rw [if_pos (by assumption)] | rw [if_neg (by simp only [*]; exact Bool.noConfusion)])
    | (rw [if_pos hdb, if_neg (by omega), if_neg (by omega), if_neg (by omega), if_pos (by omega)]; first | rw [if_pos (by assumption)] | rw [if_neg (by simp only [*]; exact Bool.noConfusion)])
    | (rw [if_pos hdb, if_neg (by omega), if_neg (by omega), if_neg (by omega), if_neg (by omega), if_pos (by omega), crZ_bit hdb.1 hdb.2]; done)

theorem aLk_39 : aLk0 39 := Or.inr (Or.inl rfl)
/-- seasons that can be looked ahead -/
def ahZ (X : Lk) : Int := min 60 (999 - X.1)
def laterZ (D : Nat → Int → Int) (cd : Nat → Option (List Int)) (X : Lk) (n v : Int) : Int := if (D 0 0 = 1 ∧ 0 ≤ n ∧ n ≤ ahZ X) ∧ 0 ≤ v ∧ v ≤ 3 then (if v = 0 then (seaN D cd X n.toNat).2.1 else if v = 1 then (seaN D cd X n.toNat).2.2.1 else if v = 2 then dk (seaN D cd X n.toNat).2.1 (seaN D cd X n.toNat).2.2.1 else rdZ D (seaN D cd X n.toNat)) else -1
/-- what may differ after the reference thought -/
abbrev PE : Nat → Nat → Prop := fun q k => (q = 157 ∧ (k = 104 ∨ k = 63 ∨ k = 64 ∨ k = 65)) ∨ q = 205 ∨ q = 206 ∨ (q = 203 ∧ k < 27)
abbrev PT2 : Nat → Nat → Prop := fun q k => (q = 157 ∧ (k = 104 ∨ k = 63 ∨ k = 64 ∨ k = 65)) ∨ q = 205 ∨ q = 206 ∨ (q = 202 ∧ k < 27)
theorem PT.t2 {I I2 : aFI} (h : frG PT I I2) : frG PT2 I I2 := h.mono (fun q k z => by
  rcases z with ⟨z1, z2⟩ | z | z
  · exact Or.inl ⟨z1, by omega⟩
  · exact Or.inr (Or.inl z)
  · exact Or.inr (Or.inr (Or.inr z)))
theorem PK.t2 {I I2 : aFI} (h : frG PK I I2) : frG PT2 I I2 := PT.t2 (PK.t h)
theorem rW.pt2 {I I0 : aFI} {D : Nat → Int → Int} {cd : Nat → Option (List Int)} (h : rW I0 D cd) (hF : frG PT2 I0 I) : rW I D cd :=
  h.fr (fun q k h1 h2 => hF q k (by omega)) (hF 157 56 (by decide))
/-- the lake put aside, played and taken back -/
theorem rX.eq {I I2 : aFI} {X : Lk} (h : rX I 202 X) (he : ∀ k : Nat, k < 27 → I2 202 k = I 202 k) : rX I2 202 X := h.fr he
theorem back_fr {I I1 I2 I3 : aFI} (h0 : frG PB I I1) (hc : ∀ k : Nat, k < 27 → I1 203 k = I 202 k) (h1 : frG PT2 I1 I2) (h2 : frG PC I2 I3) (hc2 : ∀ k : Nat, k < 27 → I3 202 k = I2 203 k) (ht : I 157 61 = aBo false) (ht2 : I3 157 61 = aBo false) : frG PE I I3 := by
  intro q k hq
  by_cases h : q = 157 ∧ k = 61
  · rw [h.1, h.2, ht, ht2]
  by_cases h3 : q = 202 ∧ k < 27
  · obtain ⟨rfl, h3⟩ := h3
    rw [hc2 k h3, h1 203 k (by omega), hc k h3]
  · rw [h2 q k (by omega), h1 q k (by omega), h0 q k (by omega)]
theorem rS.aside {I I1 : aFI} {D : Nat → Int → Int} {cd : Nat → Option (List Int)} {X : Lk} (h : rS I D cd X) (hF : frG PB I I1) : rS I1 D cd X :=
  ⟨h.1.fr (fun q k h1 h2 => hF q k (by omega)) (hF 157 56 (by decide)), h.2.fr (fun k hk => hF 202 k (by omega))⟩
set_option maxHeartbeats 1000000 in
theorem t_isAhead {d : Nat} {I : aFI} {L : aFL} {Q : aPo} {sh : Nat} {su : Option Nat} {D : Nat → Int → Int} {cd : Nat → Option (List Int)} {X : Lk} {n a b : Int} (hS : wfS D cd) (hR : rS I D cd X) (hX : lkOK X) (rn : -2147483648 ≤ n ∧ n < 2147483648) (ra : -2147483648 ≤ a ∧ a < 2147483648) (rb : -2147483648 ≤ b ∧ b < 2147483648) (ha : -1000 ≤ a ∧ b ≤ 1000) (hd : 1 ≤ d) (k : Q (some (.int (aBo (decide ((a ≤ n ∧ n ≤ b) ∧ X.1 + n ≤ 999))))) I L (aR sh su)) : aWp none d 180 0 [.ref 157, .int (iI n), .int (iI a), .int (iI b)] [] I L (aR sh su) Q := by
  have hx1 := hX.1
  refine w_iload c_180_0 rfl ?_
  refine z_i2l c_180_1 (by first | exact aRg_of _ | (unfold aRg; omega)) ?_
  refine w_iload c_180_2 rfl ?_
  refine z_i2l c_180_3 (by first | exact aRg_of _ | (unfold aRg; omega)) ?_
  refine w_iload c_180_4 rfl ?_
  refine z_i2l c_180_5 (by first | exact aRg_of _ | (unfold aRg; omega)) ?_
  refine wc_130 c_180_6 (Nat.le_of_ble_eq_true rfl) (by omega) ?_
  refine t_isIn (by first | exact aRl_of _ | (unfold aRl; omega)) (by first | exact aRl_of _ | (unfold aRl; omega)) (by first | exact aRl_of _ | (unfold aRl; omega)) ?_
  refine r_i ?_
  refine b_if_eq c_180_9 (fun h1_ => ?_) (fun h1_ => ?_)
  · refine z_push c_180_30 ?_
    refine z_ret0 c_180_31 rfl ?_
    first
    | exact q_b k (decide_eq_true (by omega))
    | exact q_b k (decide_eq_false (by first | omega | (simp only [decide_eq_false_iff_not] at h1_; omega)))
  · simp only [decide_eq_true_eq] at h1_
    refine w_aload c_180_12 rfl ?_
    refine w_getR c_180_13 sp_157 (by decide) rfl pr_157_58 ?_
    refine z_push c_180_16 ?_
    refine z_iaload c_180_17 sp_202 (by omega) (by first | decide | omega) hR.2.1 ?_
    refine w_iload c_180_18 rfl ?_
    refine z_iadd c_180_19 ?_
    refine z_push c_180_20 ?_
    refine z_ic_gt c_180_23 (by first | exact aRg_of _ | (unfold aRg; omega)) (by first | exact aRg_of _ | (unfold aRg; omega)) (fun h2_ => ?_) (fun h2_ => ?_)
    · refine z_push c_180_30 ?_
      refine z_ret0 c_180_31 rfl ?_
      first
      | exact q_b k (decide_eq_true (by omega))
      | exact q_b k (decide_eq_false (by first | omega | (simp only [decide_eq_false_iff_not] at h1_; omega)))
    · refine z_push c_180_26 ?_
      refine w_goto c_180_27 ?_
      refine z_ret1 c_180_31 rfl ?_
      first
      | exact q_b k (decide_eq_true (by omega))
      | exact q_b k (decide_eq_false (by first | omega | (simp only [decide_eq_false_iff_not] at h1_; omega)))

set_option maxHeartbeats 1000000 in
theorem tc_seasonsAhead {d : Nat} {I : aFI} {L : aFL} {Q : aPo} {sh : Nat} {su : Option Nat} {D : Nat → Int → Int} {cd : Nat → Option (List Int)} {X : Lk} {kc : Int} (hsh : sh = 8 ∨ sh = 22) (hS : wfS D cd) (hW : cW I sh D cd) (hL : lkX I 36 kc X) (hX : lkOK X) (hd : 1 ≤ d) (k : Q (some (.int (iI (ahZ X)))) I L (aR sh su)) : aWp none d 114 0 [.ref 0] [] I L (aR sh su) Q := by
  have hx1 := hX.1
  refine z_push c_114_0 ?_
  refine z_push c_114_2 ?_
  refine w_aload c_114_5 rfl ?_
  refine w_getR c_114_6 sp_0 (by decide) rfl pr_0_5 ?_
  refine z_getZ c_114_9 sp_36 (by decide) rfl hL.1 ?_
  refine z_isub c_114_12 ?_
  refine z_mmin c_114_13 (by omega) (Nat.le_of_ble_eq_true rfl) (by first | exact aRg_of _ | (unfold aRg; omega)) (by first | exact aRg_of _ | (unfold aRg; omega)) ?_
  refine z_ret c_114_16 rfl ?_
  exact k

set_option maxHeartbeats 1000000 in
theorem t_later {d : Nat} {I : aFI} {L : aFL} {Q : aPo} {sh : Nat} {su : Option Nat} {D : Nat → Int → Int} {cd : Nat → Option (List Int)} {X : Lk} {ov n v : Int} (hS : wfS D cd) (hR : rS I D cd X) (hX : lkOK X) (rn : -2147483648 ≤ n ∧ n < 2147483648) (rv : -2147483648 ≤ v ∧ v < 2147483648) (hov : I 157 63 = iI ov) (hth : I 157 61 = aBo false) (hd : 8 ≤ d) (k : ∀ (I2 : aFI) (L2 : aFL), frG PE I I2 → frG LK L L2 → Q (some (.int (iI (laterZ D cd X n v)))) I2 L2 (aR sh su)) : aWp none d 193 0 [.ref 157, .int (iI n), .int (iI v), .null] [] I L (aR sh su) Q := by
  have hdd := hS.n
  have hx1 := hX.1
  have hx2 := hX.2.1
  have hx3 := hX.2.2.1
  have hx4 := hX.2.2.2.1
  refine w_aload c_193_0 rfl ?_
  refine z_getB c_193_1 sp_157 (by decide) rfl hR.1.1.2.2.2.1 ?_
  refine b_if_eq c_193_4 (fun h1_ => ?_) (fun h1_ => ?_)
  · refine z_push c_193_30 ?_
    refine z_ret c_193_31 rfl ?_
    have hcc : ¬ ((D 0 0 = 1 ∧ 0 ≤ n ∧ n ≤ ahZ X) ∧ 0 ≤ v ∧ v ≤ 3) := by
      unfold ahZ
      simp only [decide_eq_true_eq, decide_eq_false_iff_not] at *
      omega
    refine q_i (k I L frG.rf frG.rf) ?_
    unfold laterZ; rw [if_neg hcc]
  · refine w_aload c_193_7 rfl ?_
    refine w_iload c_193_8 rfl ?_
    refine z_push c_193_9 ?_
    refine z_push c_193_10 ?_
    refine wc_180 c_193_12 sp_157 (Nat.le_of_ble_eq_true rfl) (by omega) ?_
    refine t_isAhead hS hR hX rn (by omega) (by omega) (by omega) (by omega) ?_
    refine r_i ?_
    refine b_if_eq c_193_15 (fun h2_ => ?_) (fun h2_ => ?_)
    · refine z_push c_193_30 ?_
      refine z_ret c_193_31 rfl ?_
      have hcc : ¬ ((D 0 0 = 1 ∧ 0 ≤ n ∧ n ≤ ahZ X) ∧ 0 ≤ v ∧ v ≤ 3) := by
        unfold ahZ
        simp only [decide_eq_true_eq, decide_eq_false_iff_not] at *
        omega
      refine q_i (k I L frG.rf frG.rf) ?_
      unfold laterZ; rw [if_neg hcc]
    · refine w_iload c_193_18 rfl ?_
      refine z_i2l c_193_19 (by first | exact aRg_of _ | (unfold aRg; omega)) ?_
      refine z_pushl c_193_20 ?_
      refine z_pushl c_193_21 ?_
      refine wc_130 c_193_24 (Nat.le_of_ble_eq_true rfl) (by omega) ?_
      refine t_isIn (by first | exact aRl_of _ | (unfold aRl; omega)) (by first | exact aRl_of _ | (unfold aRl; omega)) (by first | exact aRl_of _ | (unfold aRl; omega)) ?_
      refine r_i ?_
      refine b_if_ne c_193_27 (fun h3_ => ?_) (fun h3_ => ?_)
      · refine w_aload c_193_32 rfl ?_
        refine wc_177 c_193_33 sp_157 (Nat.le_of_ble_eq_true rfl) (by omega) ?_
        simp only [decide_eq_true_eq, decide_eq_false_iff_not] at *
        have hnn : ((n.toNat : Nat) : Int) = n := Int.toNat_of_nonneg (by omega)
        refine t_putsAside (fun I1 hp1 hp2 hp3 => ?_)
        have hR1 := hR.aside hp3
        have hov1 : I1 157 63 = iI ov := (hp3 _ _ (by decide)).trans hov
        refine r_v ?_
        refine w_aload c_193_36 rfl ?_
        refine w_iload c_193_37 rfl ?_
        refine wc_176 c_193_38 sp_157 (Nat.le_of_ble_eq_true rfl) (by omega) ?_
        rw [← hnn]
        refine t_seasonsGo (m := n.toNat) hS hX (by omega) (by omega) (by omega) hR1 hov1 (fun I2 L2 hs1 hs2 hs3 hs4 => ?_)
        rw [hnn]
        have hXn := seaN_ok (cd := cd) hS hX n.toNat (by omega)
        have hy := hXn.2
        refine r_v ?_
        refine w_iload c_193_41 rfl ?_
        refine z_if_ne c_193_42 (by first | exact aRg_of _ | (unfold aRg; omega)) (fun h4_ => ?_) (fun h4_ => ?_)
        · refine w_iload c_193_54 rfl ?_
          refine z_push c_193_55 ?_
          refine z_ic_ne c_193_56 (by first | exact aRg_of _ | (unfold aRg; omega)) (by first | exact aRg_of _ | (unfold aRg; omega)) (fun h5_ => ?_) (fun h5_ => ?_)
          · refine w_iload c_193_68 rfl ?_
            refine z_push c_193_69 ?_
            refine z_ic_ne c_193_70 (by first | exact aRg_of _ | (unfold aRg; omega)) (by first | exact aRg_of _ | (unfold aRg; omega)) (fun h6_ => ?_) (fun h6_ => ?_)
            · refine w_aload c_193_80 rfl ?_
              refine wc_182 c_193_81 sp_157 (Nat.le_of_ble_eq_true rfl) (by omega) ?_
              refine t_readable hS hs1 hXn (by omega) ?_
              refine r_i ?_
              refine w_istore c_193_84 (Nat.le_of_ble_eq_true rfl) rfl ?_
              refine w_aload c_193_85 rfl ?_
              refine wc_178 c_193_86 sp_157 (Nat.le_of_ble_eq_true rfl) (by omega) ?_
              refine t_takesBack (fun I3 hb1 hb2 hb3 => ?_)
              refine r_v ?_
              refine w_iload c_193_89 rfl ?_
              refine z_ret c_193_90 rfl ?_
              refine q_i (k _ _ (back_fr hp3 hp1 (PT.t2 hs3) hb3 hb1 hth hb2) hs4) ?_
              unfold laterZ; rw [if_pos (by unfold ahZ; omega)]
              (repeat (first | rw [if_pos (by omega)] | rw [if_neg (by omega)]))
            · refine w_aload c_193_73 rfl ?_
              refine wc_169 c_193_74 sp_157 (Nat.le_of_ble_eq_true rfl) (by omega) ?_
              refine t_darkNow (by omega) hs1.2.2.1 hs1.2.2.2.1 (by omega) (by omega) ?_
              refine r_i ?_
              refine w_goto c_193_77 ?_
              refine w_istore c_193_84 (Nat.le_of_ble_eq_true rfl) rfl ?_
              refine w_aload c_193_85 rfl ?_
              refine wc_178 c_193_86 sp_157 (Nat.le_of_ble_eq_true rfl) (by omega) ?_
              refine t_takesBack (fun I3 hb1 hb2 hb3 => ?_)
              refine r_v ?_
              refine w_iload c_193_89 rfl ?_
              refine z_ret c_193_90 rfl ?_
              refine q_i (k _ _ (back_fr hp3 hp1 (PT.t2 hs3) hb3 hb1 hth hb2) hs4) ?_
              unfold laterZ; rw [if_pos (by unfold ahZ; omega)]
              (repeat (first | rw [if_pos (by omega)] | rw [if_neg (by omega)]))
          · refine w_aload c_193_59 rfl ?_
            refine w_getR c_193_60 sp_157 (by decide) rfl pr_157_58 ?_
            refine z_push c_193_63 ?_
            refine z_iaload c_193_64 sp_202 (by omega) (by first | decide | omega) hs1.2.2.2.1 ?_
            refine w_goto c_193_65 ?_
            refine w_istore c_193_84 (Nat.le_of_ble_eq_true rfl) rfl ?_
            refine w_aload c_193_85 rfl ?_
            refine wc_178 c_193_86 sp_157 (Nat.le_of_ble_eq_true rfl) (by omega) ?_
            refine t_takesBack (fun I3 hb1 hb2 hb3 => ?_)
            refine r_v ?_
            refine w_iload c_193_89 rfl ?_
            refine z_ret c_193_90 rfl ?_
            refine q_i (k _ _ (back_fr hp3 hp1 (PT.t2 hs3) hb3 hb1 hth hb2) hs4) ?_
            unfold laterZ; rw [if_pos (by unfold ahZ; omega)]
            (repeat (first | rw [if_pos (by omega)] | rw [if_neg (by omega)]))
        · refine w_aload c_193_45 rfl ?_
          refine w_getR c_193_46 sp_157 (by decide) rfl pr_157_58 ?_
          refine z_push c_193_49 ?_
          refine z_iaload c_193_50 sp_202 (by omega) (by first | decide | omega) hs1.2.2.1 ?_
          refine w_goto c_193_51 ?_
          refine w_istore c_193_84 (Nat.le_of_ble_eq_true rfl) rfl ?_
          refine w_aload c_193_85 rfl ?_
          refine wc_178 c_193_86 sp_157 (Nat.le_of_ble_eq_true rfl) (by omega) ?_
          refine t_takesBack (fun I3 hb1 hb2 hb3 => ?_)
          refine r_v ?_
          refine w_iload c_193_89 rfl ?_
          refine z_ret c_193_90 rfl ?_
          refine q_i (k _ _ (back_fr hp3 hp1 (PT.t2 hs3) hb3 hb1 hth hb2) hs4) ?_
          unfold laterZ; rw [if_pos (by unfold ahZ; omega)]
          (repeat (first | rw [if_pos (by omega)] | rw [if_neg (by omega)]))
      · refine z_push c_193_30 ?_
        refine z_ret c_193_31 rfl ?_
        have hcc : ¬ ((D 0 0 = 1 ∧ 0 ≤ n ∧ n ≤ ahZ X) ∧ 0 ≤ v ∧ v ≤ 3) := by
          unfold ahZ
          simp only [decide_eq_true_eq, decide_eq_false_iff_not] at *
          omega
        refine q_i (k I L frG.rf frG.rf) ?_
        unfold laterZ; rw [if_neg hcc]

set_option maxHeartbeats 2000000 in
theorem tc_later_1 {d : Nat} {I0 : aFI} {L : aFL} {Q : aPo} {sh : Nat} {su : Option Nat} {D : Nat → Int → Int} {cd : Nat → Option (List Int)} {X : Lk} {kc v : Int} {m : Nat} (hsh : sh = 8 ∨ sh = 22) (hS : wfS D cd) (hW0 : cW I0 sh D cd) (hX : lkOK X) (hm : X.1 + m ≤ 1000) (hm2 : m < 2000) (hdr : -1000000 ≤ (I0 42 1).toInt ∧ (I0 42 1).toInt ≤ 1000000) (hd : 8 ≤ d) : ∀ (n : Nat) (i : Nat) (I : aFI), m - i < n → (i ≤ m) → (lkX I 39 kc (seaN D cd X i)) → (frP (PL 39) I0 I) → (∀ I2 : aFI, lkX I2 39 kc (seaN D cd X m) → frP (PL 39) I0 I2 → aWp none d 86 61 [.ref 0, .int (iI (m : Int)), .int (iI v), .int (iI (m : Int))] [] I2 L (aR sh su) Q) → aWp none d 86 37 [.ref 0, .int (iI (m : Int)), .int (iI v), .int (iI (i : Int))] [] I L (aR sh su) Q := by
  intro n
  induction n with
  | zero => intro i I h; omega
  | succ n ih =>
    intro i I hn2 h1 hL hF k
    have hss := seaN_s (D := D) (cd := cd) (X := X) i
    refine w_iload c_86_37 rfl ?_
    refine w_iload c_86_38 rfl ?_
    refine z_ic_ge c_86_39 (by first | exact aRg_of _ | (unfold aRg; omega)) (by first | exact aRg_of _ | (unfold aRg; omega)) (fun h1_ => ?_) (fun h1_ => ?_)
    · have e9 : i = m := by omega
      subst e9
      exact k I hL hF
    · refine w_aload c_86_42 rfl ?_
      refine w_getR c_86_43 sp_0 (by decide) rfl pr_0_7 ?_
      refine w_aload c_86_46 rfl ?_
      refine w_getR c_86_47 sp_0 (by decide) rfl pr_0_6 ?_
      refine z_push c_86_50 ?_
      refine wc_52 c_86_51 sp_42 (Nat.le_of_ble_eq_true rfl) (by omega) ?_
      refine tc_passSeason (dry := 0) hsh aLk_39 hS (hW0.fL hsh aLk_39 hF) hL (seaN_ok hS hX i (by omega)) (by decide) (by rw [hF 42 1 (by decide)]; exact hdr) (by omega) (fun I2 hL2 hF2 => ?_)
      refine r_i ?_
      refine w_pop c_86_54 rfl ?_
      refine z_iinc c_86_55 rfl rfl ?_
      refine w_goto c_86_58 ?_
      exact ih (i + 1) I2 (by omega) (by omega) hL2 (hF.tr hF2) k

set_option maxHeartbeats 1000000 in
theorem tc_later {d : Nat} {I : aFI} {L : aFL} {Q : aPo} {sh : Nat} {su : Option Nat} {D : Nat → Int → Int} {cd : Nat → Option (List Int)} {X : Lk} {kc : Int} (hsh : sh = 8 ∨ sh = 22) (hS : wfS D cd) (hW : cW I sh D cd) (hL : lkX I 36 kc X) (hX : lkOK X) {n v : Int} (rn : -2147483648 ≤ n ∧ n < 2147483648) (rv : -2147483648 ≤ v ∧ v < 2147483648) (hdr : -1000000 ≤ (I 42 1).toInt ∧ (I 42 1).toInt ≤ 1000000) (hd : 9 ≤ d) (k : ∀ I2 : aFI, frP (PL 39) I I2 → Q (some (.int (iI (laterZ D cd X n v)))) I2 L (aR sh su)) : aWp none d 86 0 [.ref 0, .int (iI n), .int (iI v), .null] [] I L (aR sh su) Q := by
  have hdd := hS.n
  have hx1 := hX.1
  have hx2 := hX.2.1
  have hx3 := hX.2.2.1
  have hx4 := hX.2.2.2.1
  have hah : ahZ X = min 60 (999 - X.1) := rfl
  refine w_aload c_86_0 rfl ?_
  refine w_getR c_86_1 sp_0 (by decide) rfl pr_0_3 ?_
  refine z_getB c_86_4 (sps_0 hsh) (by decide) rfl hW.1.1 ?_
  refine b_if_eq c_86_7 (fun h1_ => ?_) (fun h1_ => ?_)
  · refine z_push c_86_22 ?_
    refine z_ret c_86_23 rfl ?_
    have hcc : ¬ ((D 0 0 = 1 ∧ 0 ≤ n ∧ n ≤ ahZ X) ∧ 0 ≤ v ∧ v ≤ 3) := by
      simp only [decide_eq_true_eq, decide_eq_false_iff_not] at *
      omega
    refine q_i (k _ (by first | exact frP.rf | exact hF3)) ?_
    unfold laterZ; rw [if_neg hcc]
  · refine w_iload c_86_10 rfl ?_
    refine z_if_lt c_86_11 (by first | exact aRg_of _ | (unfold aRg; omega)) (fun h2_ => ?_) (fun h2_ => ?_)
    · refine z_push c_86_22 ?_
      refine z_ret c_86_23 rfl ?_
      have hcc : ¬ ((D 0 0 = 1 ∧ 0 ≤ n ∧ n ≤ ahZ X) ∧ 0 ≤ v ∧ v ≤ 3) := by
        simp only [decide_eq_true_eq, decide_eq_false_iff_not] at *
        omega
      refine q_i (k _ (by first | exact frP.rf | exact hF3)) ?_
      unfold laterZ; rw [if_neg hcc]
    · refine w_iload c_86_14 rfl ?_
      refine w_aload c_86_15 rfl ?_
      refine wc_114 c_86_16 sp_0 (Nat.le_of_ble_eq_true rfl) (by omega) ?_
      refine tc_seasonsAhead hsh hS hW hL hX (by omega) ?_
      refine r_i ?_
      refine z_ic_le c_86_19 (by first | exact aRg_of _ | (unfold aRg; omega)) (by first | exact aRg_of _ | (unfold aRg; omega)) (fun h3_ => ?_) (fun h3_ => ?_)
      · refine w_aload c_86_24 rfl ?_
        refine w_getR c_86_25 sp_0 (by decide) rfl pr_0_6 ?_
        refine w_aload c_86_28 rfl ?_
        refine w_getR c_86_29 sp_0 (by decide) rfl pr_0_5 ?_
        refine wc_6 c_86_32 sp_39 (Nat.le_of_ble_eq_true rfl) (by omega) ?_
        refine tc_copyOf aLk_39 aLk_36 (by decide) hL (by omega) (fun I1 hL1 hF1 => ?_)
        have hF1 : frP (PL 39) I I1 := hF1.mono (fun q hq => Or.inr hq)
        have hnn : ((n.toNat : Nat) : Int) = n := Int.toNat_of_nonneg (by omega)
        refine r_v ?_
        refine z_push c_86_35 ?_
        refine w_istore c_86_36 (Nat.le_of_ble_eq_true rfl) rfl ?_
        suffices hA : aWp none d 86 37 [.ref 0, .int (iI ((n.toNat : Nat) : Int)), .int (iI v), .int (iI ((0 : Nat) : Int))] [] I1 L (aR sh su) Q by rw [hnn] at hA; exact hA
        refine tc_later_1 (d := d) (L := L) (Q := Q) (su := su) (v := v) (m := n.toNat) hsh hS (hW.fL hsh aLk_39 hF1) hX (by omega) (by omega) (by rw [hF1 42 1 (by decide)]; exact hdr) (by omega) _ 0 I1 (Nat.lt_succ_self _) (by omega) hL1 frP.rf (fun I2 hL2 hF2 => ?_)
        have hF3 := hF1.tr hF2
        have hXn := seaN_ok (cd := cd) hS hX n.toNat (by omega)
        have hy := hXn.2
        rw [hnn]
        refine w_iload c_86_61 rfl ?_
        rcases (show (v = 0) ∨ (v = 1) ∨ (v = 2) ∨ (v = 3) ∨ (¬ v = 0 ∧ ¬ v = 1 ∧ ¬ v = 2 ∧ ¬ v = 3) by omega) with h21_ | h21_ | h21_ | h21_ | h21_
        · refine z_tsw c_86_62 (by first | exact aRg_of _ | (unfold aRg; omega)) (pc2 := 92) (by rcases h21_ with rfl <;> rfl) ?_
          refine w_aload c_86_92 rfl ?_
          refine w_getR c_86_93 sp_0 (by decide) rfl pr_0_6 ?_
          refine z_getZ c_86_96 sp_39 (by decide) rfl hL2.2.1 ?_
          refine z_ret c_86_99 rfl ?_
          refine q_i (k _ hF3) ?_
          unfold laterZ; rw [if_pos (by simp only [decide_eq_true_eq] at *; omega)]
          (repeat (first | rw [if_pos (by omega)] | rw [if_neg (by omega)]))
        · refine z_tsw c_86_62 (by first | exact aRg_of _ | (unfold aRg; omega)) (pc2 := 100) (by rcases h21_ with rfl <;> rfl) ?_
          refine w_aload c_86_100 rfl ?_
          refine w_getR c_86_101 sp_0 (by decide) rfl pr_0_6 ?_
          refine z_getZ c_86_104 sp_39 (by decide) rfl hL2.2.2.1 ?_
          refine z_ret c_86_107 rfl ?_
          refine q_i (k _ hF3) ?_
          unfold laterZ; rw [if_pos (by simp only [decide_eq_true_eq] at *; omega)]
          (repeat (first | rw [if_pos (by omega)] | rw [if_neg (by omega)]))
        · refine z_tsw c_86_62 (by first | exact aRg_of _ | (unfold aRg; omega)) (pc2 := 108) (by rcases h21_ with rfl <;> rfl) ?_
          refine w_aload c_86_108 rfl ?_
          refine w_getR c_86_109 sp_0 (by decide) rfl pr_0_6 ?_
          refine wc_7 c_86_112 sp_39 (Nat.le_of_ble_eq_true rfl) (by omega) ?_
          refine tc_darkness aLk_39 hL2.2.1 hL2.2.2.1 (by omega) (by omega) ?_
          refine r_i ?_
          refine z_ret c_86_115 rfl ?_
          refine q_i (k _ hF3) ?_
          unfold laterZ; rw [if_pos (by simp only [decide_eq_true_eq] at *; omega)]
          (repeat (first | rw [if_pos (by omega)] | rw [if_neg (by omega)]))
        · refine z_tsw c_86_62 (by first | exact aRg_of _ | (unfold aRg; omega)) (pc2 := 116) (by rcases h21_ with rfl <;> rfl) ?_
          refine w_aload c_86_116 rfl ?_
          refine w_getR c_86_117 sp_0 (by decide) rfl pr_0_7 ?_
          refine w_aload c_86_120 rfl ?_
          refine w_getR c_86_121 sp_0 (by decide) rfl pr_0_6 ?_
          refine wc_50 c_86_124 sp_42 (Nat.le_of_ble_eq_true rfl) (by omega) ?_
          refine tc_readable hsh aLk_39 hS (hW.fL hsh aLk_39 hF3) hL2 hXn (by omega) ?_
          refine r_i ?_
          refine z_ret c_86_127 rfl ?_
          refine q_i (k _ hF3) ?_
          unfold laterZ; rw [if_pos (by simp only [decide_eq_true_eq] at *; omega)]
          (repeat (first | rw [if_pos (by omega)] | rw [if_neg (by omega)]))
        · refine z_tsw c_86_62 (by first | exact aRg_of _ | (unfold aRg; omega)) (pc2 := 128) (by (by_cases hq : v < 0 ∨ 3 < v); (rw [if_pos hq]; rfl); (exfalso; omega)) ?_
          refine z_push c_86_128 ?_
          refine z_ret c_86_129 rfl ?_
          have hcc : ¬ ((D 0 0 = 1 ∧ 0 ≤ n ∧ n ≤ ahZ X) ∧ 0 ≤ v ∧ v ≤ 3) := by
            simp only [decide_eq_true_eq, decide_eq_false_iff_not] at *
            omega
          refine q_i (k _ (by first | exact frP.rf | exact hF3)) ?_
          unfold laterZ; rw [if_neg hcc]
      · refine z_push c_86_22 ?_
        refine z_ret c_86_23 rfl ?_
        have hcc : ¬ ((D 0 0 = 1 ∧ 0 ≤ n ∧ n ≤ ahZ X) ∧ 0 ≤ v ∧ v ≤ 3) := by
          simp only [decide_eq_true_eq, decide_eq_false_iff_not] at *
          omega
        refine q_i (k _ (by first | exact frP.rf | exact hF3)) ?_
        unfold laterZ; rw [if_neg hcc]

