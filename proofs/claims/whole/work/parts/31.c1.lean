/-! the class: its reader, leaves (c1.py) -/
section ZSW
variable {sc : aSc} {d y pc nx : Nat} {ls st : List Value} {I : aFI} {L : aFL} {R : aFR} {Q : aPo}
theorem z_tsw {df lo hi z : Int} {ts : Array Int} {pc2 : Nat} (hc : aCod y pc = some (.tableswitch df lo hi ts, nx)) (hz : aRg z) (h : (if z < lo ∨ hi < z then some df else ts[(z - lo).toNat]?).map Int.toNat = some pc2) (k : aWp sc d y pc2 ls st I L R Q) : aWp sc d y pc ls (.int (iI z) :: st) I L R Q := w_tsw hc (by rw [iI_toInt hz]; exact h) k
theorem z_lsw {df z : Int} {ps : Array (Int × Int)} {pc2 : Nat} (hc : aCod y pc = some (.lookupswitch df ps, nx)) (hz : aRg z) (h : (aLks ps.toList df z).toNat = pc2) (k : aWp sc d y pc2 ls st I L R Q) : aWp sc d y pc ls (.int (iI z) :: st) I L R Q := w_lsw hc (by rw [iI_toInt hz]; exact h) k
end ZSW
/-! the reader's at, open, fault, place over the rest -/
def oR (I : aFI) (a op f pl : Int) : aFI := fun q k => if q = 2 ∧ k = 5 then iI a else if q = 2 ∧ k = 6 then iI op else if q = 2 ∧ k = 7 then iI f else if q = 2 ∧ k = 8 then iI pl else I q k
section OR
variable {I : aFI} {a op f pl x : Int}
theorem oR_at : aUp (oR I a op f pl) 2 5 (iI x) = oR I x op f pl := by
  funext q k; unfold aUp oR; by_cases h : q = 2 ∧ k = 5 <;> simp only [h, if_true, if_false, and_self]
theorem oR_op : aUp (oR I a op f pl) 2 6 (iI x) = oR I a x f pl := by
  funext q k; unfold aUp oR; by_cases h : q = 2 ∧ k = 6
  · obtain ⟨rfl, rfl⟩ := h; rfl
  · simp only [h, if_false]
theorem oR_f : aUp (oR I a op f pl) 2 7 (iI x) = oR I a op x pl := by
  funext q k; unfold aUp oR; by_cases h : q = 2 ∧ k = 7
  · obtain ⟨rfl, rfl⟩ := h; rfl
  · simp only [h, if_false]
theorem oR_pl : aUp (oR I a op f pl) 2 8 (iI x) = oR I a op f x := by
  funext q k; unfold aUp oR; by_cases h : q = 2 ∧ k = 8
  · obtain ⟨rfl, rfl⟩ := h; rfl
  · simp only [h, if_false]
theorem oR_out {q k : Nat} {v : Int32} (h : ¬ (q = 2 ∧ (k = 5 ∨ k = 6 ∨ k = 7 ∨ k = 8))) : aUp (oR I a op f pl) q k v = oR (aUp I q k v) a op f pl := by
  funext q2 k2
  unfold aUp oR
  by_cases h2 : q2 = q ∧ k2 = k
  · obtain ⟨rfl, rfl⟩ := h2
    simp only [and_self, if_true]
    rw [if_neg (fun z => h ⟨z.1, Or.inl z.2⟩), if_neg (fun z => h ⟨z.1, Or.inr (Or.inl z.2)⟩), if_neg (fun z => h ⟨z.1, Or.inr (Or.inr (Or.inl z.2))⟩), if_neg (fun z => h ⟨z.1, Or.inr (Or.inr (Or.inr z.2))⟩)]
  · simp only [h2, if_false]
end OR
/-- the marks: n of them, their kinds, places, sizes; the last is the text's end -/
def kB (I : aFI) (n : Int) (K PL SZ : Int → Int) : Prop := I 3 3 = iI n ∧ (∀ j : Int, 0 ≤ j → j < n → I 4 j.toNat = iI (K j) ∧ I 5 j.toNat = iI (PL j) ∧ I 6 j.toNat = iI (SZ j)) ∧ (1 ≤ n ∧ n ≤ 1601) ∧ (∀ j : Int, 0 ≤ j → j < n → (0 ≤ K j ∧ K j ≤ 341 ∧ (K j = 341 ↔ j = n - 1)) ∧ (0 ≤ PL j ∧ PL j ≤ 1600) ∧ (-1 ≤ SZ j ∧ SZ j ≤ 10000))
set_option maxHeartbeats 1000000 in
theorem tc_next {d : Nat} {I : aFI} {L : aFL} {Q : aPo} {n a op f pl : Int} {K PL SZ : Int → Int} {sh : Nat} {su : Option Nat} (hK : kB I n K PL SZ) (h0 : 0 ≤ a) (h1 : a < n) (k : Q (some (.int (iI (K a)))) (oR I a op f pl) L (aR sh su)) : aWp none d 42 0 [.ref 2] [] (oR I a op f pl) L (aR sh su) Q := by
  have hn := hK.2.2.1
  have hk := hK.2.2.2 a h0 h1
  refine w_aload c_42_0 rfl ?_
  refine z_getZ c_42_1 sp_2 (by decide) rfl rfl ?_
  refine w_aload c_42_4 rfl ?_
  refine w_getR c_42_5 sp_2 (by decide) rfl pr_2_1 ?_
  refine z_getZ c_42_8 sp_3 (by decide) rfl hK.1 ?_
  refine z_ic_ge c_42_11 (by unfold aRg; omega) (by unfold aRg; omega) (fun h1_ => ?_) (fun h1_ => ?_)
  · refine z_push c_42_29 ?_
    refine z_ret c_42_32 rfl ?_
    first | exact k | (exfalso; omega)
  · refine w_aload c_42_14 rfl ?_
    refine w_getR c_42_15 sp_2 (by decide) rfl pr_2_1 ?_
    refine w_getR c_42_18 sp_3 (by decide) rfl pr_3_0 ?_
    refine w_aload c_42_21 rfl ?_
    refine z_getZ c_42_22 sp_2 (by decide) rfl rfl ?_
    refine z_iaload c_42_25 sp_4 (by omega) (by first | decide | omega) (hK.2.1 _ h0 h1).1 ?_
    refine w_goto c_42_26 ?_
    refine z_ret c_42_32 rfl ?_
    first | exact k | (exfalso; omega)

set_option maxHeartbeats 1000000 in
theorem tc_nextPlace {d : Nat} {I : aFI} {L : aFL} {Q : aPo} {n a op f pl : Int} {K PL SZ : Int → Int} {sh : Nat} {su : Option Nat} (hK : kB I n K PL SZ) (h0 : 0 ≤ a) (h1 : a < n) (k : Q (some (.int (iI (PL a)))) (oR I a op f pl) L (aR sh su)) : aWp none d 43 0 [.ref 2] [] (oR I a op f pl) L (aR sh su) Q := by
  have hn := hK.2.2.1
  have hk := hK.2.2.2 a h0 h1
  refine w_aload c_43_0 rfl ?_
  refine z_getZ c_43_1 sp_2 (by decide) rfl rfl ?_
  refine w_aload c_43_4 rfl ?_
  refine w_getR c_43_5 sp_2 (by decide) rfl pr_2_1 ?_
  refine z_getZ c_43_8 sp_3 (by decide) rfl hK.1 ?_
  refine z_ic_ge c_43_11 (by unfold aRg; omega) (by unfold aRg; omega) (fun h1_ => ?_) (fun h1_ => ?_)
  · refine z_push c_43_29 ?_
    refine z_ret c_43_30 rfl ?_
    first | exact k | (exfalso; omega)
  · refine w_aload c_43_14 rfl ?_
    refine w_getR c_43_15 sp_2 (by decide) rfl pr_2_1 ?_
    refine w_getR c_43_18 sp_3 (by decide) rfl pr_3_1 ?_
    refine w_aload c_43_21 rfl ?_
    refine z_getZ c_43_22 sp_2 (by decide) rfl rfl ?_
    refine z_iaload c_43_25 sp_5 (by omega) (by first | decide | omega) (hK.2.1 _ h0 h1).2.1 ?_
    refine w_goto c_43_26 ?_
    refine z_ret c_43_30 rfl ?_
    first | exact k | (exfalso; omega)

set_option maxHeartbeats 1000000 in
theorem tc_nextSize {d : Nat} {I : aFI} {L : aFL} {Q : aPo} {n a op f pl : Int} {K PL SZ : Int → Int} {sh : Nat} {su : Option Nat} (hK : kB I n K PL SZ) (h0 : 0 ≤ a) (h1 : a < n) (k : Q (some (.int (iI (SZ a)))) (oR I a op f pl) L (aR sh su)) : aWp none d 44 0 [.ref 2] [] (oR I a op f pl) L (aR sh su) Q := by
  have hn := hK.2.2.1
  have hk := hK.2.2.2 a h0 h1
  refine w_aload c_44_0 rfl ?_
  refine z_getZ c_44_1 sp_2 (by decide) rfl rfl ?_
  refine w_aload c_44_4 rfl ?_
  refine w_getR c_44_5 sp_2 (by decide) rfl pr_2_1 ?_
  refine z_getZ c_44_8 sp_3 (by decide) rfl hK.1 ?_
  refine z_ic_ge c_44_11 (by unfold aRg; omega) (by unfold aRg; omega) (fun h1_ => ?_) (fun h1_ => ?_)
  · refine z_push c_44_29 ?_
    refine z_ret c_44_30 rfl ?_
    first | exact k | (exfalso; omega)
  · refine w_aload c_44_14 rfl ?_
    refine w_getR c_44_15 sp_2 (by decide) rfl pr_2_1 ?_
    refine w_getR c_44_18 sp_3 (by decide) rfl pr_3_2 ?_
    refine w_aload c_44_21 rfl ?_
    refine z_getZ c_44_22 sp_2 (by decide) rfl rfl ?_
    refine z_iaload c_44_25 sp_6 (by omega) (by first | decide | omega) (hK.2.1 _ h0 h1).2.2 ?_
    refine w_goto c_44_26 ?_
    refine z_ret c_44_30 rfl ?_
    first | exact k | (exfalso; omega)

set_option maxHeartbeats 1000000 in
theorem tc_fail {d : Nat} {I : aFI} {L : aFL} {Q : aPo} {a op f pl x z : Int} (hf : aRg f) {sh : Nat} {su : Option Nat} (k1 : ¬ f = 0 → Q none (oR I a op f pl) L (aR sh su)) (k2 : f = 0 → Q none (oR I a op x z) L (aR sh su)) : aWp none d 46 0 [.ref 2, .int (iI x), .int (iI z)] [] (oR I a op f pl) L (aR sh su) Q := by
  refine w_aload c_46_0 rfl ?_
  refine z_getZ c_46_1 sp_2 (by decide) rfl rfl ?_
  refine z_if_ne c_46_4 hf (fun h1_ => ?_) (fun h1_ => ?_)
  · refine z_retv c_46_17 ?_
    first | exact k1 (by omega) | exact k2 (by omega)
  · refine w_aload c_46_7 rfl ?_
    refine w_iload c_46_8 rfl ?_
    refine z_putZ c_46_9 sp_2 (by decide) rfl ?_
    rw [oR_f]
    refine w_aload c_46_12 rfl ?_
    refine w_iload c_46_13 rfl ?_
    refine z_putZ c_46_14 sp_2 (by decide) rfl ?_
    rw [oR_pl]
    refine z_retv c_46_17 ?_
    first | exact k1 (by omega) | exact k2 (by omega)

set_option maxHeartbeats 1000000 in
theorem tc_need {d : Nat} {I : aFI} {L : aFL} {Q : aPo} {n a op f pl : Int} {K PL SZ : Int → Int} {sh : Nat} {su : Option Nat} (hK : kB I n K PL SZ) (h0 : 0 ≤ a) (h1 : a < n) (hf : 0 ≤ f ∧ f < 10) {m : Int} (hm : 0 ≤ m ∧ m < 1000) (hd : 1 ≤ d) (k1 : K a = m → ¬ m = 341 → Q none (oR I (a + 1) op f pl) L (aR sh su)) (k2 : K a = m → m = 341 → Q none (oR I a op f pl) L (aR sh su)) (k3 : ¬ K a = m → f = 0 → Q none (oR I a op 1 (PL a)) L (aR sh su)) (k4 : ¬ K a = m → ¬ f = 0 → Q none (oR I a op f pl) L (aR sh su)) : aWp none d 45 0 [.ref 2, .int (iI m)] [] (oR I a op f pl) L (aR sh su) Q := by
  have hn := hK.2.2.1
  have hk := hK.2.2.2 a h0 h1
  refine w_aload c_45_0 rfl ?_
  refine wc_42 c_45_1 sp_2 (Nat.le_of_ble_eq_true rfl) (by omega) ?_
  refine tc_next hK (by omega) (by omega) ?_
  refine r_i ?_
  refine w_iload c_45_4 rfl ?_
  refine z_ic_eq c_45_5 (by unfold aRg; omega) (by unfold aRg; omega) (fun h1_ => ?_) (fun h1_ => ?_)
  · refine w_iload c_45_20 rfl ?_
    refine z_push c_45_21 ?_
    refine z_ic_eq c_45_24 (by unfold aRg; omega) (by unfold aRg; omega) (fun h2_ => ?_) (fun h2_ => ?_)
    · refine z_retv c_45_37 ?_
      first
      | exact k1 (by omega) (by omega)
      | exact k2 (by omega) (by omega)
      | exact k3 (by omega) (by omega)
      | exact k4 (by omega) (by omega)
    · refine w_aload c_45_27 rfl ?_
      refine w_dup c_45_28 rfl ?_
      refine z_getZ c_45_29 sp_2 (by decide) rfl rfl ?_
      refine z_push c_45_32 ?_
      refine z_iadd c_45_33 ?_
      refine z_putZ c_45_34 sp_2 (by decide) rfl ?_
      rw [oR_at]
      refine z_retv c_45_37 ?_
      first
      | exact k1 (by omega) (by omega)
      | exact k2 (by omega) (by omega)
      | exact k3 (by omega) (by omega)
      | exact k4 (by omega) (by omega)
  · refine w_aload c_45_8 rfl ?_
    refine z_push c_45_9 ?_
    refine w_aload c_45_10 rfl ?_
    refine wc_43 c_45_11 sp_2 (Nat.le_of_ble_eq_true rfl) (by omega) ?_
    refine tc_nextPlace hK (by omega) (by omega) ?_
    refine r_i ?_
    refine wc_46 c_45_14 sp_2 (Nat.le_of_ble_eq_true rfl) (by omega) ?_
    refine tc_fail (by unfold aRg; omega) (fun hf1 => ?_) (fun hf1 => ?_)
    · refine r_v ?_
      refine w_goto c_45_17 ?_
      refine z_retv c_45_37 ?_
      first
      | exact k1 (by omega) (by omega)
      | exact k2 (by omega) (by omega)
      | exact k3 (by omega) (by omega)
      | exact k4 (by omega) (by omega)
    · refine r_v ?_
      refine w_goto c_45_17 ?_
      refine z_retv c_45_37 ?_
      first
      | exact k1 (by omega) (by omega)
      | exact k2 (by omega) (by omega)
      | exact k3 (by omega) (by omega)
      | exact k4 (by omega) (by omega)

set_option maxHeartbeats 1000000 in
theorem tc_goesOn {d : Nat} {I : aFI} {L : aFL} {Q : aPo} {n a op f pl : Int} {K PL SZ : Int → Int} {sh : Nat} {su : Option Nat} (hK : kB I n K PL SZ) (h0 : 0 ≤ a) (h1 : a < n) (hf : 0 ≤ f ∧ f < 10) (hd : 1 ≤ d) (k1 : f = 0 → ¬ K a = 341 → Q (some (.int (aBo true))) (oR I a op f pl) L (aR sh su)) (k2 : (¬ f = 0 ∨ K a = 341) → Q (some (.int (aBo false))) (oR I a op f pl) L (aR sh su)) : aWp none d 21 0 [.ref 2] [] (oR I a op f pl) L (aR sh su) Q := by
  have hn := hK.2.2.1
  have hk := hK.2.2.2 a h0 h1
  refine w_aload c_21_0 rfl ?_
  refine z_getZ c_21_1 sp_2 (by decide) rfl rfl ?_
  refine z_if_ne c_21_4 (by unfold aRg; omega) (fun h1_ => ?_) (fun h1_ => ?_)
  · refine z_push c_21_21 ?_
    refine z_ret0 c_21_22 rfl ?_
    first
    | exact k1 (by omega) (by omega)
    | exact k2 (by omega)
  · refine w_aload c_21_7 rfl ?_
    refine wc_42 c_21_8 sp_2 (Nat.le_of_ble_eq_true rfl) (by omega) ?_
    refine tc_next hK (by omega) (by omega) ?_
    refine r_i ?_
    refine z_push c_21_11 ?_
    refine z_ic_eq c_21_14 (by unfold aRg; omega) (by unfold aRg; omega) (fun h2_ => ?_) (fun h2_ => ?_)
    · refine z_push c_21_21 ?_
      refine z_ret0 c_21_22 rfl ?_
      first
      | exact k1 (by omega) (by omega)
      | exact k2 (by omega)
    · refine z_push c_21_17 ?_
      refine w_goto c_21_18 ?_
      refine z_ret1 c_21_22 rfl ?_
      first
      | exact k1 (by omega) (by omega)
      | exact k2 (by omega)

set_option maxHeartbeats 1000000 in
theorem tc_opens {d : Nat} {I : aFI} {L : aFL} {Q : aPo} {n a op f pl : Int} {K PL SZ : Int → Int} {sh : Nat} {su : Option Nat} (hK : kB I n K PL SZ) (h0 : 0 ≤ a) (h1 : a < n) (hf : 0 ≤ f ∧ f < 10) (hop : 0 ≤ op ∧ op < 100) (hd : 1 ≤ d) (k1 : f = 0 → op < 6 → Q (some (.int (aBo true))) (oR I (a + 1) (op + 1) f pl) L (aR sh su)) (k2 : f = 0 → ¬ op < 6 → Q (some (.int (aBo false))) (oR I a op 4 (PL a)) L (aR sh su)) (k3 : ¬ f = 0 → Q (some (.int (aBo false))) (oR I a op f pl) L (aR sh su)) : aWp none d 41 0 [.ref 2] [] (oR I a op f pl) L (aR sh su) Q := by
  have hn := hK.2.2.1
  have hk := hK.2.2.2 a h0 h1
  refine w_aload c_41_0 rfl ?_
  refine z_getZ c_41_1 sp_2 (by decide) rfl rfl ?_
  refine z_if_ne c_41_4 (by unfold aRg; omega) (fun h1_ => ?_) (fun h1_ => ?_)
  · refine w_aload c_41_16 rfl ?_
    refine z_push c_41_17 ?_
    refine w_aload c_41_18 rfl ?_
    refine wc_43 c_41_19 sp_2 (Nat.le_of_ble_eq_true rfl) (by omega) ?_
    refine tc_nextPlace hK (by omega) (by omega) ?_
    refine r_i ?_
    refine wc_46 c_41_22 sp_2 (Nat.le_of_ble_eq_true rfl) (by omega) ?_
    refine tc_fail (by unfold aRg; omega) (fun hf1 => ?_) (fun hf1 => ?_)
    · refine r_v ?_
      refine z_push c_41_25 ?_
      refine z_ret0 c_41_26 rfl ?_
      first
      | exact k1 (by omega) (by omega)
      | exact k2 (by omega) (by omega)
      | exact k3 (by omega)
      | (exfalso; omega)
    · refine r_v ?_
      refine z_push c_41_25 ?_
      refine z_ret0 c_41_26 rfl ?_
      first
      | exact k1 (by omega) (by omega)
      | exact k2 (by omega) (by omega)
      | exact k3 (by omega)
      | (exfalso; omega)
  · refine w_aload c_41_7 rfl ?_
    refine z_getZ c_41_8 sp_2 (by decide) rfl rfl ?_
    refine z_push c_41_11 ?_
    refine z_ic_lt c_41_13 (by unfold aRg; omega) (by unfold aRg; omega) (fun h2_ => ?_) (fun h2_ => ?_)
    · refine w_aload c_41_27 rfl ?_
      refine w_dup c_41_28 rfl ?_
      refine z_getZ c_41_29 sp_2 (by decide) rfl rfl ?_
      refine z_push c_41_32 ?_
      refine z_iadd c_41_33 ?_
      refine z_putZ c_41_34 sp_2 (by decide) rfl ?_
      rw [oR_op]
      refine w_aload c_41_37 rfl ?_
      refine w_dup c_41_38 rfl ?_
      refine z_getZ c_41_39 sp_2 (by decide) rfl rfl ?_
      refine z_push c_41_42 ?_
      refine z_iadd c_41_43 ?_
      refine z_putZ c_41_44 sp_2 (by decide) rfl ?_
      rw [oR_at]
      refine z_push c_41_47 ?_
      refine z_ret1 c_41_48 rfl ?_
      first
      | exact k1 (by omega) (by omega)
      | exact k2 (by omega) (by omega)
      | exact k3 (by omega)
      | (exfalso; omega)
    · refine w_aload c_41_16 rfl ?_
      refine z_push c_41_17 ?_
      refine w_aload c_41_18 rfl ?_
      refine wc_43 c_41_19 sp_2 (Nat.le_of_ble_eq_true rfl) (by omega) ?_
      refine tc_nextPlace hK (by omega) (by omega) ?_
      refine r_i ?_
      refine wc_46 c_41_22 sp_2 (Nat.le_of_ble_eq_true rfl) (by omega) ?_
      refine tc_fail (by unfold aRg; omega) (fun hf1 => ?_) (fun hf1 => ?_)
      · refine r_v ?_
        refine z_push c_41_25 ?_
        refine z_ret0 c_41_26 rfl ?_
        first
        | exact k1 (by omega) (by omega)
        | exact k2 (by omega) (by omega)
        | exact k3 (by omega)
        | (exfalso; omega)
      · refine r_v ?_
        refine z_push c_41_25 ?_
        refine z_ret0 c_41_26 rfl ?_
        first
        | exact k1 (by omega) (by omega)
        | exact k2 (by omega) (by omega)
        | exact k3 (by omega)
        | (exfalso; omega)

def partB (rl m : Int) : Bool := decide (m = 310 ∨ m = 311 ∨ m = 307 ∨ m = 319) || (decide (m = 320 ∨ m = 321) && decide (rl = 0 ∨ rl = 2)) || (decide (m = 322 ∨ m = 323) && decide (rl = 1 ∨ rl = 3)) || (decide (m = 324 ∨ m = 325 ∨ m = 313) && decide (rl = 3))
theorem partB_iff {rl m : Int} : partB rl m = true ↔ (m = 310 ∨ m = 311 ∨ m = 307 ∨ m = 319) ∨ ((m = 320 ∨ m = 321) ∧ (rl = 0 ∨ rl = 2)) ∨ ((m = 322 ∨ m = 323) ∧ (rl = 1 ∨ rl = 3)) ∨ ((m = 324 ∨ m = 325 ∨ m = 313) ∧ rl = 3) := by
  simp only [partB, Bool.or_eq_true, Bool.and_eq_true, decide_eq_true_eq, or_assoc]
set_option maxHeartbeats 1000000 in
theorem tc_isPart {d : Nat} {I : aFI} {L : aFL} {Q : aPo} {a op f pl rl m : Int} {sh : Nat} {su : Option Nat} (hrl : I 2 4 = iI rl) (hr : 0 ≤ rl ∧ rl < 4) (hm : 0 ≤ m ∧ m < 1000) (k : Q (some (.int (aBo (partB rl m)))) (oR I a op f pl) L (aR sh su)) : aWp none d 40 0 [.ref 2, .int (iI m)] [] (oR I a op f pl) L (aR sh su) Q := by
  refine w_iload c_40_0 rfl ?_
  rcases (show (m = 307 ∨ m = 310 ∨ m = 311 ∨ m = 319) ∨ (m = 313 ∨ m = 324 ∨ m = 325) ∨ (m = 320 ∨ m = 321) ∨ (m = 322 ∨ m = 323) ∨ (¬ m = 307 ∧ ¬ m = 310 ∧ ¬ m = 311 ∧ ¬ m = 319 ∧ ¬ m = 313 ∧ ¬ m = 324 ∧ ¬ m = 325 ∧ ¬ m = 320 ∧ ¬ m = 321 ∧ ¬ m = 322 ∧ ¬ m = 323) by omega) with h1_ | h1_ | h1_ | h1_ | h1_
  · refine z_tsw c_40_1 (by unfold aRg; omega) (pc2 := 92) (by rcases h1_ with rfl | rfl | rfl | rfl <;> rfl) ?_
    refine z_push c_40_92 ?_
    refine z_ret1 c_40_93 rfl ?_
    have h9 : partB rl m = true := partB_iff.mpr (by omega)
    rw [h9] at k
    exact k
  · refine z_tsw c_40_1 (by unfold aRg; omega) (pc2 := 137) (by rcases h1_ with rfl | rfl | rfl <;> rfl) ?_
    refine w_aload c_40_137 rfl ?_
    refine z_getZ c_40_138 sp_2 (by decide) rfl hrl ?_
    refine z_push c_40_141 ?_
    refine z_ic_ne c_40_142 (by unfold aRg; omega) (by unfold aRg; omega) (fun h2_ => ?_) (fun h2_ => ?_)
    · refine z_push c_40_149 ?_
      refine z_ret0 c_40_150 rfl ?_
      have h9 : partB rl m = false := Bool.eq_false_iff.mpr (fun z => by have := partB_iff.mp z; omega)
      rw [h9] at k
      exact k
    · refine z_push c_40_145 ?_
      refine w_goto c_40_146 ?_
      refine z_ret1 c_40_150 rfl ?_
      have h9 : partB rl m = true := partB_iff.mpr (by omega)
      rw [h9] at k
      exact k
  · refine z_tsw c_40_1 (by unfold aRg; omega) (pc2 := 94) (by rcases h1_ with rfl | rfl <;> rfl) ?_
    refine w_aload c_40_94 rfl ?_
    refine z_getZ c_40_95 sp_2 (by decide) rfl hrl ?_
    refine z_if_eq c_40_98 (by unfold aRg; omega) (fun h3_ => ?_) (fun h3_ => ?_)
    · refine z_push c_40_109 ?_
      refine w_goto c_40_110 ?_
      refine z_ret1 c_40_114 rfl ?_
      have h9 : partB rl m = true := partB_iff.mpr (by omega)
      rw [h9] at k
      exact k
    · refine w_aload c_40_101 rfl ?_
      refine z_getZ c_40_102 sp_2 (by decide) rfl hrl ?_
      refine z_push c_40_105 ?_
      refine z_ic_ne c_40_106 (by unfold aRg; omega) (by unfold aRg; omega) (fun h4_ => ?_) (fun h4_ => ?_)
      · refine z_push c_40_113 ?_
        refine z_ret0 c_40_114 rfl ?_
        have h9 : partB rl m = false := Bool.eq_false_iff.mpr (fun z => by have := partB_iff.mp z; omega)
        rw [h9] at k
        exact k
      · refine z_push c_40_109 ?_
        refine w_goto c_40_110 ?_
        refine z_ret1 c_40_114 rfl ?_
        have h9 : partB rl m = true := partB_iff.mpr (by omega)
        rw [h9] at k
        exact k
  · refine z_tsw c_40_1 (by unfold aRg; omega) (pc2 := 115) (by rcases h1_ with rfl | rfl <;> rfl) ?_
    refine w_aload c_40_115 rfl ?_
    refine z_getZ c_40_116 sp_2 (by decide) rfl hrl ?_
    refine z_push c_40_119 ?_
    refine z_ic_eq c_40_120 (by unfold aRg; omega) (by unfold aRg; omega) (fun h5_ => ?_) (fun h5_ => ?_)
    · refine z_push c_40_131 ?_
      refine w_goto c_40_132 ?_
      refine z_ret1 c_40_136 rfl ?_
      have h9 : partB rl m = true := partB_iff.mpr (by omega)
      rw [h9] at k
      exact k
    · refine w_aload c_40_123 rfl ?_
      refine z_getZ c_40_124 sp_2 (by decide) rfl hrl ?_
      refine z_push c_40_127 ?_
      refine z_ic_ne c_40_128 (by unfold aRg; omega) (by unfold aRg; omega) (fun h6_ => ?_) (fun h6_ => ?_)
      · refine z_push c_40_135 ?_
        refine z_ret0 c_40_136 rfl ?_
        have h9 : partB rl m = false := Bool.eq_false_iff.mpr (fun z => by have := partB_iff.mp z; omega)
        rw [h9] at k
        exact k
      · refine z_push c_40_131 ?_
        refine w_goto c_40_132 ?_
        refine z_ret1 c_40_136 rfl ?_
        have h9 : partB rl m = true := partB_iff.mpr (by omega)
        rw [h9] at k
        exact k
  · refine z_tsw c_40_1 (by unfold aRg; omega) (pc2 := 151) (by (by_cases hq : m < 307 ∨ 325 < m); (rw [if_pos hq]; rfl); (rw [if_neg hq]; rcases (show m = 308 ∨ m = 309 ∨ m = 312 ∨ m = 314 ∨ m = 315 ∨ m = 316 ∨ m = 317 ∨ m = 318 by omega) with hq2 | hq2 | hq2 | hq2 | hq2 | hq2 | hq2 | hq2 <;> first | rfl | (rw [hq2]; rfl))) ?_
    refine z_push c_40_151 ?_
    refine z_ret0 c_40_152 rfl ?_
    have h9 : partB rl m = false := Bool.eq_false_iff.mpr (fun z => by have := partB_iff.mp z; omega)
    rw [h9] at k
    exact k

