/-! floorDiv, bitCount, bits (a2.py) -/
theorem i32_neg (x : Int32) : x.toBitVec.msb = decide (x < 0) := by
  rw [BitVec.msb_eq_toInt]
  congr 1
  exact propext (Int32.lt_iff_toInt_lt (x := x) (y := 0)).symm
theorem iI_lt0 {a : Int} (ha : aRg a) : iI a < 0 ↔ a < 0 := iI_lt ha aRg_0
theorem i32_xor_neg (x y : Int32) : (x ^^^ y < 0) ↔ ((x < 0) ≠ (y < 0)) := by
  have h := i32_neg (x ^^^ y)
  have h1 := i32_neg x
  have h2 := i32_neg y
  have h3 : (x ^^^ y).toBitVec = x.toBitVec ^^^ y.toBitVec := rfl
  rw [h3, BitVec.msb_xor, h1, h2] at h
  by_cases a : x < 0 <;> by_cases b : y < 0 <;> by_cases c : x ^^^ y < 0 <;> simp [a, b, c] at h ⊢
theorem xs_iff {a b : Int} (ha : aRg a) (hb : aRg b) : (iI a ^^^ iI b < 0) ↔ ((a < 0 ∧ 0 ≤ b) ∨ (0 ≤ a ∧ b < 0)) := by
  rw [i32_xor_neg, iI_lt0 ha, iI_lt0 hb]
  by_cases h1 : a < 0 <;> by_cases h2 : b < 0 <;> simp [h1, h2] <;> omega
theorem fdiv_td2 {a b : Int} (hb : b ≠ 0) : (a.tmod b ≠ 0 → ((a < 0 ∧ 0 ≤ b) ∨ (0 ≤ a ∧ b < 0)) → a.fdiv b = a.tdiv b - 1) ∧ ((a.tmod b = 0 ∨ ¬ ((a < 0 ∧ 0 ≤ b) ∨ (0 ≤ a ∧ b < 0))) → a.fdiv b = a.tdiv b) := by
  have h := fdiv_td (a := a) hb
  refine ⟨fun h1 h2 => ?_, fun h1 => ?_⟩
  · rw [if_pos ⟨h1, fun z => by rw [eq_iff_iff] at z; omega⟩] at h
    exact h
  · rw [if_neg (fun z => by
      rcases h1 with h1 | h1
      · exact z.1 h1
      · apply z.2; rw [eq_iff_iff]; omega)] at h
    exact h
def popc (n : Nat) : Nat := (n % 2) + (n / 2 % 2) + (n / 4 % 2) + (n / 8 % 2) + (n / 16 % 2) + (n / 32 % 2) + (n / 64 % 2) + (n / 128 % 2)
def bcr (x : Int32) : Int32 :=
  let a := x - ((x.toUInt32 >>> ((iI 1).toUInt32 &&& Int32.toUInt32 31)).toInt32 &&& iI 1431655765)
  let b := (a &&& iI 858993459) + ((a.toUInt32 >>> ((iI 2).toUInt32 &&& Int32.toUInt32 31)).toInt32 &&& iI 858993459)
  let c := (b + (b.toUInt32 >>> ((iI 4).toUInt32 &&& Int32.toUInt32 31)).toInt32) &&& iI 252645135
  let e := c + (c.toUInt32 >>> ((iI 8).toUInt32 &&& Int32.toUInt32 31)).toInt32
  let f := e + (e.toUInt32 >>> ((iI 16).toUInt32 &&& Int32.toUInt32 31)).toInt32
  f &&& iI 63
theorem bcr_ok : (List.range 256).all (fun n => decide (bcr (iI n) = iI (popc n))) = true := by decide +kernel
theorem bits_and : (List.range 256).all (fun n => (n == 0) || (decide (iI n &&& iI ((n : Int) - 1) = iI ((n &&& (n - 1) : Nat) : Int)) && decide (popc (n &&& (n - 1)) + 1 = popc n) && decide (n &&& (n - 1) < n))) = true := by decide +kernel
theorem popc_8 : (List.range 256).all (fun n => decide (popc n ≤ 8)) = true := by decide +kernel
theorem popc_le {n : Nat} (h : n < 256) : popc n ≤ 8 := of_decide_eq_true (List.all_eq_true.mp popc_8 n (List.mem_range.mpr h))
set_option maxHeartbeats 1000000 in
theorem t_floorDiv {d : Nat} {I : aFI} {L : aFL} {R : aFR} {Q : aPo} {a b : Int} (ha : -1000000000 ≤ a ∧ a ≤ 1000000000) (hb : -1000000000 ≤ b ∧ b ≤ 1000000000) (hn : b ≠ 0) (k : Q (some (.int (iI (a.fdiv b)))) I L R) : aWp none d 258 0 [.int (iI a), .int (iI b), .null] [] I L R Q := by
  have ht : (a.tdiv b).natAbs ≤ a.natAbs := td_rg
  have hm : ((a.tdiv b) * b).natAbs ≤ a.natAbs := by
    rw [Int.natAbs_mul, Int.natAbs_tdiv]
    exact Nat.div_mul_le_self _ _
  have hx := xs_iff (a := a) (b := b) (by unfold aRg; omega) (by unfold aRg; omega)
  have hf := fdiv_td2 (a := a) hn
  have h7 := Int.tmod_add_mul_tdiv a b
  have h8 := Int.mul_comm b (a.tdiv b)
  have hx2 := Int32.not_lt (a := iI a ^^^ iI b) (b := 0)
  rw [hx] at hx2
  refine w_iload c_258_0 rfl ?_
  refine w_iload c_258_1 rfl ?_
  refine zt_idiv c_258_2 (by unfold aRg; omega) (by unfold aRg; omega) (by unfold aRg; omega) hn ?_
  refine w_istore c_258_3 (Nat.le_of_ble_eq_true rfl) rfl ?_
  refine w_iload c_258_4 rfl ?_
  refine w_iload c_258_5 rfl ?_
  refine w_ixor c_258_6 rfl ?_
  refine w_if_ge c_258_7 (fun h1_ => ?_) (fun h1_ => ?_)
  · refine w_iload c_258_21 rfl ?_
    refine z_ret c_258_22 rfl ?_
    first
    | (rw [hf.2 (by first | omega | exact Or.inr (hx2.mpr h1_))] at k; exact k)
    | (rw [hf.1 (by omega) (Classical.byContradiction fun z => h1_ (hx2.mp z))] at k; exact k)
  · refine w_iload c_258_10 rfl ?_
    refine w_iload c_258_11 rfl ?_
    refine z_imul c_258_12 ?_
    refine w_iload c_258_13 rfl ?_
    refine z_ic_eq c_258_14 (by unfold aRg; omega) (by unfold aRg; omega) (fun h2_ => ?_) (fun h2_ => ?_)
    · refine w_iload c_258_21 rfl ?_
      refine z_ret c_258_22 rfl ?_
      first
      | (rw [hf.2 (by first | omega | exact Or.inr (hx2.mpr h1_))] at k; exact k)
      | (rw [hf.1 (by omega) (Classical.byContradiction fun z => h1_ (hx2.mp z))] at k; exact k)
    · refine w_iload c_258_17 rfl ?_
      refine z_push c_258_18 ?_
      refine z_isub c_258_19 ?_
      refine z_ret c_258_20 rfl ?_
      first
      | (rw [hf.2 (by first | omega | exact Or.inr (hx2.mpr h1_))] at k; exact k)
      | (rw [hf.1 (by omega) (Classical.byContradiction fun z => h1_ (hx2.mp z))] at k; exact k)

set_option maxHeartbeats 1000000 in
theorem t_bitCount {d : Nat} {I : aFI} {L : aFL} {R : aFR} {Q : aPo} {n : Nat} (hn : n < 256) (k : Q (some (.int (iI (popc n)))) I L R) : aWp none d 257 0 [.int (iI n)] [] I L R Q := by
  refine w_iload c_257_0 rfl ?_
  refine w_iload c_257_1 rfl ?_
  refine z_push c_257_2 ?_
  refine w_iushr c_257_3 rfl ?_
  refine z_push c_257_4 ?_
  refine w_iand c_257_7 rfl ?_
  refine w_isub c_257_8 rfl ?_
  refine w_istore c_257_9 (Nat.le_of_ble_eq_true rfl) rfl ?_
  refine w_iload c_257_10 rfl ?_
  refine z_push c_257_11 ?_
  refine w_iand c_257_14 rfl ?_
  refine w_iload c_257_15 rfl ?_
  refine z_push c_257_16 ?_
  refine w_iushr c_257_17 rfl ?_
  refine z_push c_257_18 ?_
  refine w_iand c_257_21 rfl ?_
  refine w_iadd c_257_22 rfl ?_
  refine w_istore c_257_23 (Nat.le_of_ble_eq_true rfl) rfl ?_
  refine w_iload c_257_24 rfl ?_
  refine w_iload c_257_25 rfl ?_
  refine z_push c_257_26 ?_
  refine w_iushr c_257_27 rfl ?_
  refine w_iadd c_257_28 rfl ?_
  refine z_push c_257_29 ?_
  refine w_iand c_257_32 rfl ?_
  refine w_istore c_257_33 (Nat.le_of_ble_eq_true rfl) rfl ?_
  refine w_iload c_257_34 rfl ?_
  refine w_iload c_257_35 rfl ?_
  refine z_push c_257_36 ?_
  refine w_iushr c_257_38 rfl ?_
  refine w_iadd c_257_39 rfl ?_
  refine w_istore c_257_40 (Nat.le_of_ble_eq_true rfl) rfl ?_
  refine w_iload c_257_41 rfl ?_
  refine w_iload c_257_42 rfl ?_
  refine z_push c_257_43 ?_
  refine w_iushr c_257_45 rfl ?_
  refine w_iadd c_257_46 rfl ?_
  refine w_istore c_257_47 (Nat.le_of_ble_eq_true rfl) rfl ?_
  refine w_iload c_257_48 rfl ?_
  refine z_push c_257_49 ?_
  refine w_iand c_257_51 rfl ?_
  have h9 : bcr (iI n) = iI (popc n) := of_decide_eq_true (List.all_eq_true.mp bcr_ok n (List.mem_range.mpr hn))
  rw [← h9] at k
  exact w_ret (v := some (.int (bcr (iI n)))) c_257_52 (by
    have e : aRet 257 .ireturn [.int (bcr (iI n))] = some (some (.int (bcr (iI n)))) := by
      have hm : mR 257 = some .int := rfl
      simp only [aRet, hm]
      exact if_pos rfl
    exact e) k

set_option maxHeartbeats 2000000 in
theorem t_bits_1 {d : Nat} {I : aFI} {L : aFL} {R : aFR} {Q : aPo} {x0 : Int} : ∀ (n : Nat) (s c : Nat), s < n → (s < 256) → (c + popc s < 100) → (Q (some (.int (iI ((c + popc s : Nat) : Int)))) I L R) → aWp none d 183 4 [.int (iI x0), .int (iI c), .int (iI s)] [] I L R Q := by
  intro n
  induction n with
  | zero => intro s c h; omega
  | succ n ih =>
    intro s c hn h0 h1 k
    refine w_iload c_183_4 rfl ?_
    refine z_if_eq c_183_5 (by unfold aRg; omega) (fun h1_ => ?_) (fun h1_ => ?_)
    · refine w_iload c_183_20 rfl ?_
      refine z_ret c_183_21 rfl ?_
      have h9 : s = 0 := by omega
      subst h9
      exact k
    · refine z_iinc c_183_8 rfl rfl ?_
      refine w_iload c_183_11 rfl ?_
      refine w_iload c_183_12 rfl ?_
      refine z_push c_183_13 ?_
      refine z_isub c_183_14 ?_
      refine w_iand c_183_15 rfl ?_
      refine w_istore c_183_16 (Nat.le_of_ble_eq_true rfl) rfl ?_
      refine w_goto c_183_17 ?_
      have hs := List.all_eq_true.mp bits_and s (List.mem_range.mpr h0)
      have hs0 : s ≠ 0 := by omega
      simp only [Bool.or_eq_true, beq_iff_eq, hs0, false_or, Bool.and_eq_true, decide_eq_true_eq] at hs
      rw [hs.1.1]
      refine ih (s &&& (s - 1)) (c + 1) (by omega) (by omega) (by omega) ?_
      rw [show c + 1 + popc (s &&& (s - 1)) = c + popc s by omega]
      exact k

set_option maxHeartbeats 1000000 in
theorem t_bits {d : Nat} {I : aFI} {L : aFL} {R : aFR} {Q : aPo} {s : Nat} (h0 : s < 256) (k : Q (some (.int (iI (popc s)))) I L R) : aWp none d 183 0 [.int (iI s), .null, .null] [] I L R Q := by
  refine z_push c_183_0 ?_
  refine w_istore c_183_1 (Nat.le_of_ble_eq_true rfl) rfl ?_
  refine w_iload c_183_2 rfl ?_
  refine w_istore c_183_3 (Nat.le_of_ble_eq_true rfl) rfl ?_
  refine t_bits_1 _ s 0 (Nat.lt_succ_self _) h0 (by have := popc_le h0; omega) ?_
  rw [Nat.zero_add]
  exact k

