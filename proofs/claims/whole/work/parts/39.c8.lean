/-! the class: a name known, a name read (c8.py) -/
def knwn (LT NM CN : Int → Int) : Prop := ∃ c w : Int, (0 ≤ c ∧ c < 3) ∧ (0 ≤ w ∧ w < CN c) ∧ nmEq LT NM (rowB c + w)
theorem fnd_y {LT NM CN : Int → Int} {c r : Int} (hc : 0 ≤ c ∧ c < 3) (f : isFnd LT NM c (CN c) r) (h : ¬ r = -1) : knwn LT NM CN := by
  rcases f with f | f
  · exact absurd f.1 h
  · exact ⟨c, r, hc, f.1, f.2.1⟩
theorem fnd_n {LT NM CN : Int → Int} {r0 r1 r2 : Int} (f0 : isFnd LT NM 0 (CN 0) r0) (f1 : isFnd LT NM 1 (CN 1) r1) (f2 : isFnd LT NM 2 (CN 2) r2) (h0 : r0 = -1) (h1 : r1 = -1) (h2 : r2 = -1) : ¬ knwn LT NM CN := by
  rintro ⟨c, w, hc, hw, hm⟩
  have h3 : c = 0 ∨ c = 1 ∨ c = 2 := by omega
  rcases h3 with rfl | rfl | rfl
  · rcases f0 with f | f
    · exact f.2 w hw.1 hw.2 hm
    · omega
  · rcases f1 with f | f
    · exact f.2 w hw.1 hw.2 hm
    · omega
  · rcases f2 with f | f
    · exact f.2 w hw.1 hw.2 hm
    · omega
theorem fnd_rg {LT NM : Int → Int} {c cnt r : Int} (f : isFnd LT NM c cnt r) : -1 ≤ r ∧ (r < cnt ∨ r = -1) := by
  rcases f with f | f <;> omega
/-- the name's row over the rest -/
def oN (I : aFI) (NM : Int → Int) : aFI := fun q k => if q = 7 then iI (NM k) else I q k
section ON
variable {I : aFI} {s : Nat} {S : Rs} {NM : Int → Int} {j x : Int}
theorem oU_out {q k : Nat} {v : Int32} {ln : Int} {C : Int → Int} (h : ¬ q = s) (h2 : ¬ q = s + 1) : aUp (oU I s ln C) q k v = oU (aUp I q k v) s ln C := by
  funext q2 k2
  unfold aUp oU
  by_cases h3 : q2 = q ∧ k2 = k
  · obtain ⟨rfl, rfl⟩ := h3
    rw [if_pos ⟨rfl, rfl⟩, if_neg (fun z => h z.1), if_neg h2]
    show _ = (if q2 = q2 ∧ k2 = k2 then v else I q2 k2)
    rw [if_pos ⟨rfl, rfl⟩]
  · simp only [h3, if_false]
theorem oN_c (hj : 0 ≤ j) : aUp (oN I NM) 7 j.toNat (iI x) = oN I (cU NM j x) := by
  funext q k; unfold aUp oN cU
  by_cases h1 : q = 7
  · subst h1
    rw [if_pos rfl, if_pos rfl]
    by_cases h2 : k = j.toNat
    · rw [if_pos ⟨rfl, h2⟩, if_pos (by omega)]
    · rw [if_neg (fun z => h2 z.2), if_neg (by omega)]
  · rw [if_neg (fun z => h1 z.1), if_neg h1, if_neg h1]
theorem oS_nm (hs : aSm s) (hj : 0 ≤ j) : aUp (oS (oN I NM) s S) 7 j.toNat (iI x) = oS (oN I (cU NM j x)) s S := by
  show aUp (oR _ _ _ _ _) _ _ _ = _
  rw [oR_out (by omega), oU_out (by rcases hs with rfl | rfl | rfl <;> omega) (by rcases hs with rfl | rfl | rfl <;> omega), oN_c hj]; rfl
theorem rS_nm (hs : aSm s) (hj : 0 ≤ j) : oS (oN I NM) s S 7 j.toNat = iI (NM j) := by
  have e : oS (oN I NM) s S 7 j.toNat = iI (NM ((j.toNat : Nat) : Int)) := by rcases hs with rfl | rfl | rfl <;> rfl
  rw [e, Int.toNat_of_nonneg hj]
theorem rS_tx (hs : aSm s) {k : Nat} : oS (oN I NM) s S 1 k = I 1 k := by rcases hs with rfl | rfl | rfl <;> rfl
theorem kB_N {n : Int} {K PL SZ : Int → Int} (hK : kB I n K PL SZ) : kB (oN I NM) n K PL SZ := hK
end ON
/-- reading a name: the state and the name's letters after it -/
def rNm (K PL SZ : Int → Int) (S : Rs) : Rs := if 332 ≤ K S.a ∧ K S.a ≤ 338 then (if 6 < SZ S.a then rF 1 (PL S.a + 6) S else rI S) else rF 1 (PL S.a) S
def rNa (K PL SZ T : Int → Int) (S : Rs) (NM : Int → Int) : Int → Int := if (332 ≤ K S.a ∧ K S.a ≤ 338) ∧ ¬ 6 < SZ S.a then (fun k => if 0 ≤ k ∧ k < 6 then (if k < SZ S.a then T (PL S.a + k) - 97 + 1 else 0) else NM k) else NM
theorem cU_nm {NM : Int → Int} {sz p j : Int} {T : Int → Int} (hj : 0 ≤ j ∧ j < 6) (x : Int) (hx : x = if j < sz then T (p + j) - 97 + 1 else 0) : cU (fun i => if 0 ≤ i ∧ i < j then (if i < sz then T (p + i) - 97 + 1 else 0) else NM i) j x = fun i => if 0 ≤ i ∧ i < j + 1 then (if i < sz then T (p + i) - 97 + 1 else 0) else NM i := by
  funext i; unfold cU
  by_cases h : i = j
  · subst h; rw [if_pos rfl, if_pos (by omega), hx]
  · rw [if_neg h]
    show (if 0 ≤ i ∧ i < j then (if i < sz then T (p + i) - 97 + 1 else 0) else NM i) = _
    by_cases h2 : 0 ≤ i ∧ i < j
    · rw [if_pos h2, if_pos (show 0 ≤ i ∧ i < j + 1 by omega)]
    · rw [if_neg h2, if_neg (show ¬ (0 ≤ i ∧ i < j + 1) by omega)]
set_option maxHeartbeats 1000000 in
theorem tc_knows {d sh s2 : Nat} {I : aFI} {L : aFL} {Q : aPo} {LT NM CN : Int → Int} {su : Option Nat} (hd : 2 ≤ d) (hsh : sh = 8 ∨ sh = 22) (hC : ∀ c : Int, 0 ≤ c → c < 3 → I (sh + 1) c.toNat = iI (CN c) ∧ (0 ≤ CN c ∧ CN c ≤ (if c = 2 then 8 else 6))) (hL : ∀ j : Int, 0 ≤ j → j < 120 → I (sh + 2) j.toNat = iI (LT j) ∧ aRg (LT j)) (hN : ∀ j : Int, 0 ≤ j → j < 6 → I 7 j.toNat = iI (NM j) ∧ aRg (NM j)) (k1 : knwn LT NM CN → Q (some (.int (aBo true))) I L (aR s2 su)) (k2 : ¬ knwn LT NM CN → Q (some (.int (aBo false))) I L (aR s2 su)) : aWp none d 68 0 [.ref sh, .ref 7] [] I L (aR s2 su) Q := by
  refine w_aload c_68_0 rfl ?_
  refine z_push c_68_1 ?_
  refine w_aload c_68_2 rfl ?_
  refine wc_67 c_68_3 (sps_0 hsh) (Nat.le_of_ble_eq_true rfl) (by omega) ?_
  refine tc_find (by omega) hsh (c := 0) (by omega) (hC 0 (by omega) (by omega)).1 (hC 0 (by omega) (by omega)).2 hL hN (fun r0 f0 => ?_)
  have g0 := fnd_rg f0
  have e0 : CN 0 ≤ 8 := Int.le_trans (hC 0 (by omega) (by omega)).2.2 (by decide)
  refine r_i ?_
  refine z_push c_68_6 ?_
  refine z_ic_ne c_68_7 (by unfold aRg; omega) (by unfold aRg; omega) (fun h1_ => ?_) (fun h1_ => ?_)
  · refine z_push c_68_30 ?_
    refine w_goto c_68_31 ?_
    refine z_ret1 c_68_35 rfl ?_
    first
    | exact k2 (fnd_n f0 f1 f2 (by omega) (by omega) (by omega))
    | exact k1 (fnd_y (by decide) f0 (by omega))
    | exact k1 (fnd_y (by decide) f1 (by omega))
    | exact k1 (fnd_y (by decide) f2 (by omega))
  · refine w_aload c_68_10 rfl ?_
    refine z_push c_68_11 ?_
    refine w_aload c_68_12 rfl ?_
    refine wc_67 c_68_13 (sps_0 hsh) (Nat.le_of_ble_eq_true rfl) (by omega) ?_
    refine tc_find (by omega) hsh (c := 1) (by omega) (hC 1 (by omega) (by omega)).1 (hC 1 (by omega) (by omega)).2 hL hN (fun r1 f1 => ?_)
    have g1 := fnd_rg f1
    have e1 : CN 1 ≤ 8 := Int.le_trans (hC 1 (by omega) (by omega)).2.2 (by decide)
    refine r_i ?_
    refine z_push c_68_16 ?_
    refine z_ic_ne c_68_17 (by unfold aRg; omega) (by unfold aRg; omega) (fun h2_ => ?_) (fun h2_ => ?_)
    · refine z_push c_68_30 ?_
      refine w_goto c_68_31 ?_
      refine z_ret1 c_68_35 rfl ?_
      first
      | exact k2 (fnd_n f0 f1 f2 (by omega) (by omega) (by omega))
      | exact k1 (fnd_y (by decide) f0 (by omega))
      | exact k1 (fnd_y (by decide) f1 (by omega))
      | exact k1 (fnd_y (by decide) f2 (by omega))
    · refine w_aload c_68_20 rfl ?_
      refine z_push c_68_21 ?_
      refine w_aload c_68_22 rfl ?_
      refine wc_67 c_68_23 (sps_0 hsh) (Nat.le_of_ble_eq_true rfl) (by omega) ?_
      refine tc_find (by omega) hsh (c := 2) (by omega) (hC 2 (by omega) (by omega)).1 (hC 2 (by omega) (by omega)).2 hL hN (fun r2 f2 => ?_)
      have g2 := fnd_rg f2
      have e2 : CN 2 ≤ 8 := Int.le_trans (hC 2 (by omega) (by omega)).2.2 (by decide)
      refine r_i ?_
      refine z_push c_68_26 ?_
      refine z_ic_eq c_68_27 (by unfold aRg; omega) (by unfold aRg; omega) (fun h3_ => ?_) (fun h3_ => ?_)
      · refine z_push c_68_34 ?_
        refine z_ret0 c_68_35 rfl ?_
        first
        | exact k2 (fnd_n f0 f1 f2 (by omega) (by omega) (by omega))
        | exact k1 (fnd_y (by decide) f0 (by omega))
        | exact k1 (fnd_y (by decide) f1 (by omega))
        | exact k1 (fnd_y (by decide) f2 (by omega))
      · refine z_push c_68_30 ?_
        refine w_goto c_68_31 ?_
        refine z_ret1 c_68_35 rfl ?_
        first
        | exact k2 (fnd_n f0 f1 f2 (by omega) (by omega) (by omega))
        | exact k1 (fnd_y (by decide) f0 (by omega))
        | exact k1 (fnd_y (by decide) f1 (by omega))
        | exact k1 (fnd_y (by decide) f2 (by omega))

set_option maxHeartbeats 2000000 in
theorem ts_name_1 {d s : Nat} {I : aFI} {L : aFL} {Q : aPo} {n : Int} {K PL SZ : Int → Int} {S : Rs} {sh : Nat} {su : Option Nat} {NM T : Int → Int} (hs : aSm s) (hT : ∀ j : Int, 0 ≤ j → j < 1600 → I 1 j.toNat = iI (T j) ∧ (0 ≤ T j ∧ T j < 256)) (hW : ∀ j : Int, 0 ≤ j → j < n → 332 ≤ K j → K j ≤ 338 → 0 ≤ SZ j ∧ PL j + SZ j ≤ 1600) (hK : kB I n K PL SZ) (h : gS n S) (h1 : 332 ≤ K S.a ∧ K S.a ≤ 338) (h2 : SZ S.a ≤ 6) : ∀ (n : Nat) (j : Int), (6 - j).toNat < n → (0 ≤ j ∧ j ≤ 6) → (Q none (oS (oN I (fun i => if 0 ≤ i ∧ i < 6 then (if i < SZ S.a then T (PL S.a + i) - 97 + 1 else 0) else NM i)) s (rI S)) L (aR sh su)) → aWp none d 31 55 [.ref 2, .int (iI (K S.a)), .int (iI (PL S.a)), .int (iI (SZ S.a)), .int (iI j)] [] (oS (oN I (fun i => if 0 ≤ i ∧ i < j then (if i < SZ S.a then T (PL S.a + i) - 97 + 1 else 0) else NM i)) s S) L (aR sh su) Q := by
  intro n
  induction n with
  | zero => intro j h; omega
  | succ n ih =>
    intro j hn hj q
    have hk := hK.2.2.2 _ h.1.1 h.1.2
    have hs1 := hW _ h.1.1 h.1.2 h1.1 h1.2
    refine w_iload c_31_55 rfl ?_
    refine z_push c_31_57 ?_
    refine z_ic_ge c_31_59 (by unfold aRg; omega) (by unfold aRg; omega) (fun h1_ => ?_) (fun h1_ => ?_)
    · refine w_aload c_31_99 rfl ?_
      refine w_dup c_31_100 rfl ?_
      refine z_getZ c_31_101 sp_2 (by decide) rfl rfl ?_
      refine z_push c_31_104 ?_
      refine z_iadd c_31_105 ?_
      refine z_putZ c_31_106 sp_2 (by decide) rfl ?_
      rw [oS_I]
      refine z_retv c_31_109 ?_
      have e6 : j = 6 := by omega
      subst e6
      exact q
    · refine w_aload c_31_62 rfl ?_
      refine w_getR c_31_63 sp_2 (by decide) rfl pr_2_2 ?_
      refine w_iload c_31_66 rfl ?_
      refine w_iload c_31_68 rfl ?_
      refine w_iload c_31_70 rfl ?_
      refine z_ic_ge c_31_71 (by unfold aRg; omega) (by unfold aRg; omega) (fun h2_ => ?_) (fun h2_ => ?_)
      · refine z_push c_31_91 ?_
        refine z_iastore c_31_92 sp_7 (by omega) (by decide) ?_
        rw [oS_nm hs (by omega), cU_nm (sz := SZ S.a) (p := PL S.a) (T := T) (by omega) _ (by first | rw [if_pos (by omega)] | rw [if_neg (by omega)])]
        refine z_iinc c_31_93 rfl rfl ?_
        refine w_goto c_31_96 ?_
        exact ih (j + 1) (by omega) (by omega) q
      · refine w_aload c_31_74 rfl ?_
        refine w_getR c_31_75 sp_2 (by decide) rfl pr_2_0 ?_
        refine w_iload c_31_78 rfl ?_
        refine w_iload c_31_79 rfl ?_
        refine z_iadd c_31_81 ?_
        have ht := hT (PL S.a + j) (by omega) (by omega)
        have ht1 := (rS_tx (I := I) (S := S) (NM := (fun i => if 0 ≤ i ∧ i < j then (if i < SZ S.a then T (PL S.a + i) - 97 + 1 else 0) else NM i)) hs).trans ht.1
        have ht2 := ht.2
        refine z_iaload c_31_82 sp_1 (by omega) (by first | decide | omega) ht1 ?_
        refine z_push c_31_83 ?_
        refine z_isub c_31_85 ?_
        refine z_push c_31_86 ?_
        refine z_iadd c_31_87 ?_
        refine w_goto c_31_88 ?_
        refine z_iastore c_31_92 sp_7 (by omega) (by decide) ?_
        rw [oS_nm hs (by omega), cU_nm (sz := SZ S.a) (p := PL S.a) (T := T) (by omega) _ (by first | rw [if_pos (by omega)] | rw [if_neg (by omega)])]
        refine z_iinc c_31_93 rfl rfl ?_
        refine w_goto c_31_96 ?_
        exact ih (j + 1) (by omega) (by omega) q

section RNM
variable {K PL SZ T NM : Int → Int} {S : Rs}
theorem rNm_0 (h : ¬ (332 ≤ K S.a ∧ K S.a ≤ 338)) : rNm K PL SZ S = rF 1 (PL S.a) S ∧ rNa K PL SZ T S NM = NM := ⟨if_neg h, if_neg (fun z => h z.1)⟩
theorem rNm_1 (h : 332 ≤ K S.a ∧ K S.a ≤ 338) (h2 : 6 < SZ S.a) : rNm K PL SZ S = rF 1 (PL S.a + 6) S ∧ rNa K PL SZ T S NM = NM := ⟨(if_pos h).trans (if_pos h2), if_neg (fun z => z.2 h2)⟩
theorem rNm_2 (h : 332 ≤ K S.a ∧ K S.a ≤ 338) (h2 : ¬ 6 < SZ S.a) : rNm K PL SZ S = rI S ∧ rNa K PL SZ T S NM = (fun k => if 0 ≤ k ∧ k < 6 then (if k < SZ S.a then T (PL S.a + k) - 97 + 1 else 0) else NM k) := ⟨(if_pos h).trans (if_neg h2), if_pos ⟨h, h2⟩⟩
theorem rNm_g {n : Int} (hK : ∀ j : Int, 0 ≤ j → j < n → (K j = 341 ↔ j = n - 1)) (h : gS n S) : rG n 1 S (rNm K PL SZ S) := by
  have hk := hK S.a h.1.1 h.1.2
  have hb := h.1
  unfold rNm
  repeat' split
  · exact rF_g h (by omega)
  · exact rI_g h (by omega)
  · exact rF_g h (by omega)
end RNM
set_option maxHeartbeats 1000000 in
theorem ts_name {d s : Nat} {I : aFI} {L : aFL} {Q : aPo} {n : Int} {K PL SZ : Int → Int} {S : Rs} {sh : Nat} {su : Option Nat} {NM T : Int → Int} (hs : aSm s) (hT : ∀ j : Int, 0 ≤ j → j < 1600 → I 1 j.toNat = iI (T j) ∧ (0 ≤ T j ∧ T j < 256)) (hW : ∀ j : Int, 0 ≤ j → j < n → 332 ≤ K j → K j ≤ 338 → 0 ≤ SZ j ∧ PL j + SZ j ≤ 1600) (hK : kB I n K PL SZ) (h : gS n S) (hd : 1 ≤ d) (k : Q none (oS (oN I (rNa K PL SZ T S NM)) s (rNm K PL SZ S)) L (aR sh su)) : aWp none d 31 0 [.ref 2, .null, .null, .null, .null] [] (oS (oN I NM) s S) L (aR sh su) Q := by
  have hn := hK.2.2.1
  have hk := hK.2.2.2 _ h.1.1 h.1.2
  have hb := h
  unfold gS at hb
  refine w_aload c_31_0 rfl ?_
  refine wc_42 c_31_1 sp_2 (Nat.le_of_ble_eq_true rfl) (by omega) ?_
  refine ts_next hs (kB_N hK) h ?_
  refine r_i ?_
  refine w_istore c_31_4 (Nat.le_of_ble_eq_true rfl) rfl ?_
  refine w_aload c_31_5 rfl ?_
  refine wc_43 c_31_6 sp_2 (Nat.le_of_ble_eq_true rfl) (by omega) ?_
  refine ts_nextPlace hs (kB_N hK) h ?_
  refine r_i ?_
  refine w_istore c_31_9 (Nat.le_of_ble_eq_true rfl) rfl ?_
  refine w_aload c_31_10 rfl ?_
  refine wc_44 c_31_11 sp_2 (Nat.le_of_ble_eq_true rfl) (by omega) ?_
  refine ts_nextSize hs (kB_N hK) h ?_
  refine r_i ?_
  refine w_istore c_31_14 (Nat.le_of_ble_eq_true rfl) rfl ?_
  refine w_iload c_31_15 rfl ?_
  refine z_push c_31_16 ?_
  refine z_ic_lt c_31_19 (by unfold aRg; omega) (by unfold aRg; omega) (fun h1_ => ?_) (fun h1_ => ?_)
  · refine w_aload c_31_29 rfl ?_
    refine z_push c_31_30 ?_
    refine w_iload c_31_31 rfl ?_
    refine wc_46 c_31_32 sp_2 (Nat.le_of_ble_eq_true rfl) (by omega) ?_
    refine ts_fail h ?_
    refine r_v ?_
    refine z_retv c_31_35 ?_
    first
    | (have e := @rNm_0 K PL SZ T NM S (by omega); rw [e.1, e.2] at k; exact k)
    | (have e := @rNm_1 K PL SZ T NM S (by omega) (by omega); rw [e.1, e.2] at k; exact k)
  · refine w_iload c_31_22 rfl ?_
    refine z_push c_31_23 ?_
    refine z_ic_le c_31_26 (by unfold aRg; omega) (by unfold aRg; omega) (fun h2_ => ?_) (fun h2_ => ?_)
    · refine w_iload c_31_36 rfl ?_
      refine z_push c_31_37 ?_
      refine z_ic_le c_31_39 (by unfold aRg; omega) (by unfold aRg; omega) (fun h3_ => ?_) (fun h3_ => ?_)
      · refine z_push c_31_52 ?_
        refine w_istore c_31_53 (Nat.le_of_ble_eq_true rfl) rfl ?_
        have e := @rNm_2 K PL SZ T NM S (by omega) (by omega)
        rw [e.1, e.2] at k
        have e0 : (fun i => if 0 ≤ i ∧ i < 0 then (if i < SZ S.a then T (PL S.a + i) - 97 + 1 else 0) else NM i) = NM := by
          funext i
          exact if_neg (by omega)
        have q0 := ts_name_1 (d := d) (I := I) (L := L) (Q := Q) (sh := sh) (su := su) (NM := NM) hs hT hW hK h (by omega) (by omega) _ 0 (Nat.lt_succ_self _) (by omega) k
        rw [e0] at q0
        exact q0
      · refine w_aload c_31_42 rfl ?_
        refine z_push c_31_43 ?_
        refine w_iload c_31_44 rfl ?_
        refine z_push c_31_45 ?_
        refine z_iadd c_31_47 ?_
        refine wc_46 c_31_48 sp_2 (Nat.le_of_ble_eq_true rfl) (by omega) ?_
        refine ts_fail h ?_
        refine r_v ?_
        refine z_retv c_31_51 ?_
        first
        | (have e := @rNm_0 K PL SZ T NM S (by omega); rw [e.1, e.2] at k; exact k)
        | (have e := @rNm_1 K PL SZ T NM S (by omega) (by omega); rw [e.1, e.2] at k; exact k)
    · refine w_aload c_31_29 rfl ?_
      refine z_push c_31_30 ?_
      refine w_iload c_31_31 rfl ?_
      refine wc_46 c_31_32 sp_2 (Nat.le_of_ble_eq_true rfl) (by omega) ?_
      refine ts_fail h ?_
      refine r_v ?_
      refine z_retv c_31_35 ?_
      first
      | (have e := @rNm_0 K PL SZ T NM S (by omega); rw [e.1, e.2] at k; exact k)
      | (have e := @rNm_1 K PL SZ T NM S (by omega) (by omega); rw [e.1, e.2] at k; exact k)

