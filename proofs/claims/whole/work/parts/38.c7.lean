/-! the class: rows of names, a name found (c7.py) -/
def rowB (c : Int) : Int := if c = 0 then 0 else if c = 1 then 6 else 12
theorem rowB_0 : rowB 0 = 0 := rfl
theorem rowB_1 : rowB 1 = 6 := rfl
theorem rowB_2 : rowB 2 = 12 := rfl
theorem rowB_rg {c : Int} (h : 0 ≤ c ∧ c < 3) : 0 ≤ rowB c ∧ rowB c ≤ 12 := by
  unfold rowB
  repeat' split
  all_goals omega
/-- a row's six letters are the name's -/
def nmEq (LT NM : Int → Int) (r : Int) : Prop := ∀ k : Int, 0 ≤ k → k < 6 → LT (r * 6 + k) = NM k
/-- r is the first of so many of a kind with that name, or none is -/
def isFnd (LT NM : Int → Int) (c cnt r : Int) : Prop := (r = -1 ∧ ∀ w : Int, 0 ≤ w → w < cnt → ¬ nmEq LT NM (rowB c + w)) ∨ ((0 ≤ r ∧ r < cnt) ∧ nmEq LT NM (rowB c + r) ∧ ∀ w : Int, 0 ≤ w → w < r → ¬ nmEq LT NM (rowB c + w))
set_option maxHeartbeats 1000000 in
theorem tc_rowOf {d : Nat} {I : aFI} {L : aFL} {R : aFR} {Q : aPo} {c w : Int} (hc : 0 ≤ c ∧ c < 3) (hw : 0 ≤ w ∧ w < 100) (k : Q (some (.int (iI (rowB c + w)))) I L R) : aWp none d 65 0 [.int (iI c), .int (iI w)] [] I L R Q := by
  refine w_iload c_65_0 rfl ?_
  rcases (show (c = 0) ∨ (c = 1) ∨ (¬ c = 0 ∧ ¬ c = 1) by omega) with h1_ | h1_ | h1_
  · refine z_lsw c_65_1 (by unfold aRg; omega) (pc2 := 28) (by rcases h1_ with rfl <;> rfl) ?_
    refine w_iload c_65_28 rfl ?_
    refine z_ret c_65_29 rfl ?_
    have e : w = rowB c + w := by
      unfold rowB
      repeat' split
      all_goals omega
    rw [← e] at k; exact k
  · refine z_lsw c_65_1 (by unfold aRg; omega) (pc2 := 30) (by rcases h1_ with rfl <;> rfl) ?_
    refine z_push c_65_30 ?_
    refine w_iload c_65_32 rfl ?_
    refine z_iadd c_65_33 ?_
    refine z_ret c_65_34 rfl ?_
    have e : 6 + w = rowB c + w := by
      unfold rowB
      repeat' split
      all_goals omega
    rw [← e] at k; exact k
  · refine z_lsw c_65_1 (by unfold aRg; omega) (pc2 := 35) (by simp only [aLks]; repeat (first | rw [if_neg (by omega)] | rfl)) ?_
    refine z_push c_65_35 ?_
    refine w_iload c_65_37 rfl ?_
    refine z_iadd c_65_38 ?_
    refine z_ret c_65_39 rfl ?_
    have e : 12 + w = rowB c + w := by
      unfold rowB
      repeat' split
      all_goals omega
    rw [← e] at k; exact k

set_option maxHeartbeats 2000000 in
theorem tc_find_in {d sh s2 : Nat} {I : aFI} {L : aFL} {Q : aPo} {c cnt : Int} {LT NM : Int → Int} {su : Option Nat} (hsh : sh = 8 ∨ sh = 22) (hc : 0 ≤ c ∧ c < 3) (hn : I (sh + 1) c.toNat = iI cnt) (hcn : 0 ≤ cnt ∧ cnt ≤ (if c = 2 then 8 else 6)) (hL : ∀ j : Int, 0 ≤ j → j < 120 → I (sh + 2) j.toNat = iI (LT j) ∧ aRg (LT j)) (hN : ∀ j : Int, 0 ≤ j → j < 6 → I 7 j.toNat = iI (NM j) ∧ aRg (NM j)) {w r : Int} (hw : 0 ≤ w ∧ w < 8) (hr : 0 ≤ r ∧ r < 20) : ∀ (n : Nat) (k : Int), (6 - k).toNat < n → (0 ≤ k ∧ k ≤ 6) → (∀ j : Int, 0 ≤ j → j < k → LT (r * 6 + j) = NM j) → (∀ k2 : Int, 0 ≤ k2 ∧ k2 ≤ 6 → (k2 = 6 ∧ nmEq LT NM r ∨ k2 < 6 ∧ ¬ nmEq LT NM r) → aWp none d 67 55 [.ref sh, .int (iI c), .ref 7, .int (iI w), .int (iI (r * 6)), .int (iI k2)] [] I L (aR s2 su) Q) → aWp none d 67 25 [.ref sh, .int (iI c), .ref 7, .int (iI w), .int (iI (r * 6)), .int (iI k)] [] I L (aR s2 su) Q := by
  intro n
  induction n with
  | zero => intro k h; omega
  | succ n ih =>
    intro k hn hk he q
    refine w_iload c_67_25 rfl ?_
    refine z_push c_67_27 ?_
    refine z_ic_ge c_67_29 (by unfold aRg; omega) (by unfold aRg; omega) (fun h1_ => ?_) (fun h1_ => ?_)
    · first
      | (have e6 : k = 6 := by omega
         subst e6
         exact q 6 (by omega) (Or.inl ⟨rfl, fun j h1 h2 => he j h1 (by omega)⟩))
      | exact q k (by omega) (Or.inr ⟨by omega, fun z => absurd (z k hk.1 (by omega)) (by assumption)⟩)
    · refine w_aload c_67_32 rfl ?_
      refine w_getR c_67_33 (sps_0 hsh) (by decide) rfl (prs_5 hsh) ?_
      refine w_iload c_67_36 rfl ?_
      refine w_iload c_67_38 rfl ?_
      refine z_iadd c_67_40 ?_
      have hL1 := hL (r * 6 + k) (by omega) (by omega)
      have hN1 := hN k (by omega) (by omega)
      have hL2 := hL1.2
      have hN2 := hN1.2
      unfold aRg at hL2 hN2
      refine z_iaload c_67_41 (sps_2 hsh) (by omega) (by first | decide | omega) hL1.1 ?_
      refine w_aload c_67_42 rfl ?_
      refine w_iload c_67_43 rfl ?_
      refine z_iaload c_67_45 sp_7 (by omega) (by first | decide | omega) hN1.1 ?_
      refine z_ic_ne c_67_46 (by unfold aRg; omega) (by unfold aRg; omega) (fun h2_ => ?_) (fun h2_ => ?_)
      · first
        | (have e6 : k = 6 := by omega
           subst e6
           exact q 6 (by omega) (Or.inl ⟨rfl, fun j h1 h2 => he j h1 (by omega)⟩))
        | exact q k (by omega) (Or.inr ⟨by omega, fun z => absurd (z k hk.1 (by omega)) (by assumption)⟩)
      · refine z_iinc c_67_49 rfl rfl ?_
        refine w_goto c_67_52 ?_
        refine ih (k + 1) (by omega) (by omega) (fun j h1 h2 => ?_) q
        by_cases hj : j = k
        · subst hj; omega
        · exact he j h1 (by omega)

set_option maxHeartbeats 2000000 in
theorem tc_find_1 {d sh s2 : Nat} {I : aFI} {L : aFL} {Q : aPo} {c cnt : Int} {LT NM : Int → Int} {su : Option Nat} (hd : 1 ≤ d) (hsh : sh = 8 ∨ sh = 22) (hc : 0 ≤ c ∧ c < 3) (hn2 : I (sh + 1) c.toNat = iI cnt) (hcn : 0 ≤ cnt ∧ cnt ≤ (if c = 2 then 8 else 6)) (hL : ∀ j : Int, 0 ≤ j → j < 120 → I (sh + 2) j.toNat = iI (LT j) ∧ aRg (LT j)) (hN : ∀ j : Int, 0 ≤ j → j < 6 → I 7 j.toNat = iI (NM j) ∧ aRg (NM j)) : ∀ (n : Nat) (w : Int) (v4 v5 : Value), (cnt - w).toNat < n → (0 ≤ w ∧ w ≤ cnt) → (∀ w2 : Int, 0 ≤ w2 → w2 < w → ¬ nmEq LT NM (rowB c + w2)) → (∀ r : Int, isFnd LT NM c cnt r → Q (some (.int (iI r))) I L (aR s2 su)) → aWp none d 67 2 [.ref sh, .int (iI c), .ref 7, .int (iI w), v4, v5] [] I L (aR s2 su) Q := by
  intro n
  induction n with
  | zero => intro w v4 v5 h; omega
  | succ n ih =>
    intro w v4 v5 hn hw hb q
    have hd1 : 1 ≤ d := hd
    have hcr : 0 ≤ cnt ∧ cnt ≤ 8 := by
      rcases hcn with ⟨z0, z⟩
      split at z <;> omega
    refine w_iload c_67_2 rfl ?_
    refine w_aload c_67_3 rfl ?_
    refine w_getR c_67_4 (sps_0 hsh) (by decide) rfl (prs_4 hsh) ?_
    refine w_iload c_67_7 rfl ?_
    refine z_iaload c_67_8 (sps_1 hsh) (by omega) (by first | decide | omega) hn2 ?_
    refine z_ic_ge c_67_9 (by unfold aRg; omega) (by unfold aRg; omega) (fun h1_ => ?_) (fun h1_ => ?_)
    · refine z_push c_67_70 ?_
      refine z_ret c_67_71 rfl ?_
      first
      | (refine q w (Or.inr ⟨⟨hw.1, by omega⟩, (hr2.resolve_right (by omega)).2, hb⟩))
      | exact q (-1) (Or.inl ⟨rfl, fun w2 h1 h2 => hb w2 h1 (by omega)⟩)
      | (exfalso; omega)
    · have hrb := rowB_rg hc
      have hw8 : w < 8 := by
        rcases hcn with ⟨_, z⟩
        split at z <;> omega
      have hw12 : rowB c + w < 20 := by
        rcases hcn with ⟨_, z⟩
        unfold rowB
        split at z
        all_goals repeat' split
        all_goals omega
      refine w_iload c_67_12 rfl ?_
      refine w_iload c_67_13 rfl ?_
      refine wc_65 c_67_14 (Nat.le_of_ble_eq_true rfl) (by omega) ?_
      refine tc_rowOf hc (by omega) ?_
      refine r_i ?_
      refine z_push c_67_17 ?_
      refine z_imul c_67_19 ?_
      refine w_istore c_67_20 (Nat.le_of_ble_eq_true rfl) rfl ?_
      refine z_push c_67_22 ?_
      refine w_istore c_67_23 (Nat.le_of_ble_eq_true rfl) rfl ?_
      refine tc_find_in hsh hc hn2 hcn hL hN (w := w) (r := rowB c + w) (by omega) (by omega) _ 0 (Nat.lt_succ_self _) (by omega) (fun j h1 h2 => absurd h1 (by omega)) (fun k2 hk2 hr2 => ?_)
      refine w_iload c_67_55 rfl ?_
      refine z_push c_67_57 ?_
      refine z_ic_ne c_67_59 (by unfold aRg; omega) (by unfold aRg; omega) (fun h1_ => ?_) (fun h1_ => ?_)
      · refine z_iinc c_67_64 rfl rfl ?_
        refine w_goto c_67_67 ?_
        refine ih (w + 1) _ _ (by omega) (by omega) (fun w2 h1 h2 => ?_) q
        by_cases hj : w2 = w
        · subst hj; exact (hr2.resolve_left (by omega)).2
        · exact hb w2 h1 (by omega)
      · refine w_iload c_67_62 rfl ?_
        refine z_ret c_67_63 rfl ?_
        first
        | (refine q w (Or.inr ⟨⟨hw.1, by omega⟩, (hr2.resolve_right (by omega)).2, hb⟩))
        | exact q (-1) (Or.inl ⟨rfl, fun w2 h1 h2 => hb w2 h1 (by omega)⟩)
        | (exfalso; omega)

set_option maxHeartbeats 1000000 in
theorem tc_find {d sh s2 : Nat} {I : aFI} {L : aFL} {Q : aPo} {c cnt : Int} {LT NM : Int → Int} {su : Option Nat} (hd : 1 ≤ d) (hsh : sh = 8 ∨ sh = 22) (hc : 0 ≤ c ∧ c < 3) (hn2 : I (sh + 1) c.toNat = iI cnt) (hcn : 0 ≤ cnt ∧ cnt ≤ (if c = 2 then 8 else 6)) (hL : ∀ j : Int, 0 ≤ j → j < 120 → I (sh + 2) j.toNat = iI (LT j) ∧ aRg (LT j)) (hN : ∀ j : Int, 0 ≤ j → j < 6 → I 7 j.toNat = iI (NM j) ∧ aRg (NM j)) (q : ∀ r : Int, isFnd LT NM c cnt r → Q (some (.int (iI r))) I L (aR s2 su)) : aWp none d 67 0 [.ref sh, .int (iI c), .ref 7, .null, .null, .null] [] I L (aR s2 su) Q := by
  refine z_push c_67_0 ?_
  refine w_istore c_67_1 (Nat.le_of_ble_eq_true rfl) rfl ?_
  exact tc_find_1 hd hsh hc hn2 hcn hL hN _ 0 _ _ (Nat.lt_succ_self _) (by omega) (fun w2 h1 h2 => absurd h1 (by omega)) q

