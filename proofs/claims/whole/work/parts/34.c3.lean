/-! the class: its reader on states (c3.py) -/
def oS (I : aFI) (s : Nat) (S : Rs) : aFI := oR (oU I s S.ln S.C) S.a S.op S.f S.pl
section OS
variable {I : aFI} {s : Nat} {S : Rs} {n rl : Int} {K PL SZ : Int → Int}
theorem oS_I : aUp (oS I s S) 2 5 (iI (S.a + 1)) = oS I s (rI S) := oR_at
theorem oS_Z : aUp (oS I s S) 2 6 (iI (S.op - 1)) = oS I s (rZ S) := oR_op
theorem oS_n (hs : aSm s) (hK : kB I n K PL SZ) : oS I s S 3 3 = iI n := (kB_U hs hK).1
theorem oS_rl (hs : aSm s) (hr : I 2 4 = iI rl) : oS I s S 2 4 = iI rl := by rcases hs with rfl | rfl | rfl <;> exact hr
theorem kB_K (hK : kB I n K PL SZ) : ∀ j : Int, 0 ≤ j → j < n → (K j = 341 ↔ j = n - 1) := fun j h0 h1 => (hK.2.2.2 j h0 h1).1.2.2
variable {lo hi : Int}
theorem rM_0 (h : ¬ K S.a = 339) : rM K PL SZ lo hi S = rF 1 (PL S.a) S ∧ rV K SZ S = -1 := by unfold rM rV; rw [if_neg h, if_neg h]; exact ⟨rfl, rfl⟩
theorem rM_1 (h : K S.a = 339) (h1 : SZ S.a = -1) : rM K PL SZ lo hi S = rI (rF 1 (PL S.a + 4) S) ∧ rV K SZ S = SZ S.a := by unfold rM rV; rw [if_pos h, if_pos h1, if_pos h]; exact ⟨rfl, rfl⟩
theorem rM_2 (h : K S.a = 339) (h1 : ¬ SZ S.a = -1) (h2 : SZ S.a < lo ∨ hi < SZ S.a) : rM K PL SZ lo hi S = rI (rF 2 (PL S.a) S) ∧ rV K SZ S = SZ S.a := by unfold rM rV; rw [if_pos h, if_neg h1, if_pos h2, if_pos h]; exact ⟨rfl, rfl⟩
theorem rM_3 (h : K S.a = 339) (h1 : ¬ SZ S.a = -1) (h2 : ¬ (SZ S.a < lo ∨ hi < SZ S.a)) : rM K PL SZ lo hi S = rI S ∧ rV K SZ S = SZ S.a := by unfold rM rV; rw [if_pos h, if_neg h1, if_neg h2, if_pos h]; exact ⟨rfl, rfl⟩
end OS
section TS
variable {d s : Nat} {I : aFI} {L : aFL} {Q : aPo} {n : Int} {K PL SZ : Int → Int} {S : Rs} {sh : Nat} {su : Option Nat}
theorem ts_next (hs : aSm s) (hK : kB I n K PL SZ) (h : gS n S) (k : Q (some (.int (iI (K S.a)))) (oS I s S) L (aR sh su)) : aWp none d 42 0 [.ref 2] [] (oS I s S) L (aR sh su) Q := tc_next (kB_U hs hK) h.1.1 h.1.2 k
theorem ts_nextPlace (hs : aSm s) (hK : kB I n K PL SZ) (h : gS n S) (k : Q (some (.int (iI (PL S.a)))) (oS I s S) L (aR sh su)) : aWp none d 43 0 [.ref 2] [] (oS I s S) L (aR sh su) Q := tc_nextPlace (kB_U hs hK) h.1.1 h.1.2 k
theorem ts_nextSize (hs : aSm s) (hK : kB I n K PL SZ) (h : gS n S) (k : Q (some (.int (iI (SZ S.a)))) (oS I s S) L (aR sh su)) : aWp none d 44 0 [.ref 2] [] (oS I s S) L (aR sh su) Q := tc_nextSize (kB_U hs hK) h.1.1 h.1.2 k
theorem ts_fail {x z : Int} (h : gS n S) (k : Q none (oS I s (rF x z S)) L (aR sh su)) : aWp none d 46 0 [.ref 2, .int (iI x), .int (iI z)] [] (oS I s S) L (aR sh su) Q := by
  unfold rF at k
  refine tc_fail (by unfold aRg; unfold gS at h; omega) (fun z => ?_) (fun z => ?_)
  · rw [if_neg z] at k; exact k
  · rw [if_pos z] at k; exact k
theorem ts_need {m : Int} (hm : 0 ≤ m ∧ m < 1000) (hs : aSm s) (hK : kB I n K PL SZ) (h : gS n S) (hd : 1 ≤ d) (k : Q none (oS I s (rN K PL m S)) L (aR sh su)) : aWp none d 45 0 [.ref 2, .int (iI m)] [] (oS I s S) L (aR sh su) Q := by
  unfold rN rF at k
  refine tc_need (kB_U hs hK) h.1.1 h.1.2 h.2.2.1 hm hd (fun z1 z2 => ?_) (fun z1 z2 => ?_) (fun z1 z2 => ?_) (fun z1 z2 => ?_)
  · rw [if_pos z1, if_neg z2] at k; exact k
  · rw [if_pos z1, if_pos z2] at k; exact k
  · rw [if_neg z1, if_pos z2] at k; exact k
  · rw [if_neg z1, if_neg z2] at k; exact k
theorem ts_put {x : Int} (hs : aSm s) (h : gS n S) (k : Q none (oS I s (rP x S)) L (aR sh su)) : aWp none d 74 0 [.ref s, .int (iI x)] [] (oS I s S) L (aR sh su) Q := by
  unfold rP at k
  refine tc_put hs h.2.2.2 (fun z => ?_) (fun z => ?_)
  · rw [if_pos z] at k; exact k
  · rw [if_neg z] at k; exact k
theorem ts_opens (hs : aSm s) (hK : kB I n K PL SZ) (h : gS n S) (hd : 1 ≤ d) (k1 : S.f = 0 ∧ S.op < 6 → Q (some (.int (aBo true))) (oS I s (rO PL S)) L (aR sh su)) (k2 : ¬ (S.f = 0 ∧ S.op < 6) → Q (some (.int (aBo false))) (oS I s (rO PL S)) L (aR sh su)) : aWp none d 41 0 [.ref 2] [] (oS I s S) L (aR sh su) Q := by
  unfold rO rF at k1 k2
  refine tc_opens (kB_U hs hK) h.1.1 h.1.2 h.2.2.1 (by unfold gS at h; omega) hd (fun z1 z2 => ?_) (fun z1 z2 => ?_) (fun z1 => ?_)
  · have k := k1 ⟨z1, z2⟩; rw [if_pos ⟨z1, z2⟩] at k; exact k
  · have k := k2 (fun z => z2 z.2); rw [if_neg (fun z => z2 z.2), if_pos z1] at k; exact k
  · have k := k2 (fun z => z1 z.1); rw [if_neg (fun z => z1 z.1), if_neg z1] at k; exact k
theorem ts_isPart {rl m : Int} (hs : aSm s) (hrl : I 2 4 = iI rl) (hr : 0 ≤ rl ∧ rl < 4) (hm : 0 ≤ m ∧ m < 1000) (k : Q (some (.int (aBo (partB rl m)))) (oS I s S) L (aR sh su)) : aWp none d 40 0 [.ref 2, .int (iI m)] [] (oS I s S) L (aR sh su) Q := tc_isPart (oS_rl hs hrl) hr hm k
end TS
set_option maxHeartbeats 1000000 in
theorem ts_number {d s : Nat} {I : aFI} {L : aFL} {Q : aPo} {n : Int} {K PL SZ : Int → Int} {S : Rs} {sh : Nat} {su : Option Nat} (hs : aSm s) (hK : kB I n K PL SZ) (h : gS n S) {lo hi : Int} (hl : 0 ≤ lo ∧ lo ≤ 9999) (hh : 0 ≤ hi ∧ hi ≤ 9999) (hd : 1 ≤ d) (k : Q (some (.int (iI (rV K SZ S)))) (oS I s (rM K PL SZ lo hi S)) L (aR sh su)) : aWp none d 32 0 [.ref 2, .int (iI lo), .int (iI hi), .null] [] (oS I s S) L (aR sh su) Q := by
  have hk := hK.2.2.2 _ h.1.1 h.1.2
  refine w_aload c_32_0 rfl ?_
  refine wc_44 c_32_1 sp_2 (Nat.le_of_ble_eq_true rfl) (by omega) ?_
  refine ts_nextSize hs hK h ?_
  refine r_i ?_
  refine w_istore c_32_4 (Nat.le_of_ble_eq_true rfl) rfl ?_
  refine w_aload c_32_5 rfl ?_
  refine wc_42 c_32_6 sp_2 (Nat.le_of_ble_eq_true rfl) (by omega) ?_
  refine ts_next hs hK h ?_
  refine r_i ?_
  refine z_push c_32_9 ?_
  refine z_ic_eq c_32_12 (by unfold aRg; omega) (by unfold aRg; omega) (fun h1_ => ?_) (fun h1_ => ?_)
  · refine w_iload c_32_26 rfl ?_
    refine z_push c_32_27 ?_
    refine z_ic_ne c_32_28 (by unfold aRg; omega) (by unfold aRg; omega) (fun h2_ => ?_) (fun h2_ => ?_)
    · refine w_iload c_32_45 rfl ?_
      refine w_iload c_32_46 rfl ?_
      refine z_ic_lt c_32_47 (by unfold aRg; omega) (by unfold aRg; omega) (fun h3_ => ?_) (fun h3_ => ?_)
      · refine w_aload c_32_55 rfl ?_
        refine z_push c_32_56 ?_
        refine w_aload c_32_57 rfl ?_
        refine wc_43 c_32_58 sp_2 (Nat.le_of_ble_eq_true rfl) (by omega) ?_
        refine ts_nextPlace hs hK h ?_
        refine r_i ?_
        refine wc_46 c_32_61 sp_2 (Nat.le_of_ble_eq_true rfl) (by omega) ?_
        refine ts_fail h ?_
        refine r_v ?_
        refine w_aload c_32_64 rfl ?_
        refine w_dup c_32_65 rfl ?_
        refine z_getZ c_32_66 sp_2 (by decide) rfl rfl ?_
        refine z_push c_32_69 ?_
        refine z_iadd c_32_70 ?_
        refine z_putZ c_32_71 sp_2 (by decide) rfl ?_
        rw [oS_I]
        refine w_iload c_32_74 rfl ?_
        refine z_ret c_32_75 rfl ?_
        first
        | (have e := @rM_0 S K PL SZ lo hi (by omega); rw [e.1, e.2] at k; exact k)
        | (have e := @rM_1 S K PL SZ lo hi (by omega) (by omega); rw [e.1, e.2] at k; exact k)
        | (have e := @rM_2 S K PL SZ lo hi (by omega) (by omega) (by omega); rw [e.1, e.2] at k; exact k)
        | (have e := @rM_3 S K PL SZ lo hi (by omega) (by omega) (by omega); rw [e.1, e.2] at k; exact k)
      · refine w_iload c_32_50 rfl ?_
        refine w_iload c_32_51 rfl ?_
        refine z_ic_le c_32_52 (by unfold aRg; omega) (by unfold aRg; omega) (fun h4_ => ?_) (fun h4_ => ?_)
        · refine w_aload c_32_64 rfl ?_
          refine w_dup c_32_65 rfl ?_
          refine z_getZ c_32_66 sp_2 (by decide) rfl rfl ?_
          refine z_push c_32_69 ?_
          refine z_iadd c_32_70 ?_
          refine z_putZ c_32_71 sp_2 (by decide) rfl ?_
          rw [oS_I]
          refine w_iload c_32_74 rfl ?_
          refine z_ret c_32_75 rfl ?_
          first
          | (have e := @rM_0 S K PL SZ lo hi (by omega); rw [e.1, e.2] at k; exact k)
          | (have e := @rM_1 S K PL SZ lo hi (by omega) (by omega); rw [e.1, e.2] at k; exact k)
          | (have e := @rM_2 S K PL SZ lo hi (by omega) (by omega) (by omega); rw [e.1, e.2] at k; exact k)
          | (have e := @rM_3 S K PL SZ lo hi (by omega) (by omega) (by omega); rw [e.1, e.2] at k; exact k)
        · refine w_aload c_32_55 rfl ?_
          refine z_push c_32_56 ?_
          refine w_aload c_32_57 rfl ?_
          refine wc_43 c_32_58 sp_2 (Nat.le_of_ble_eq_true rfl) (by omega) ?_
          refine ts_nextPlace hs hK h ?_
          refine r_i ?_
          refine wc_46 c_32_61 sp_2 (Nat.le_of_ble_eq_true rfl) (by omega) ?_
          refine ts_fail h ?_
          refine r_v ?_
          refine w_aload c_32_64 rfl ?_
          refine w_dup c_32_65 rfl ?_
          refine z_getZ c_32_66 sp_2 (by decide) rfl rfl ?_
          refine z_push c_32_69 ?_
          refine z_iadd c_32_70 ?_
          refine z_putZ c_32_71 sp_2 (by decide) rfl ?_
          rw [oS_I]
          refine w_iload c_32_74 rfl ?_
          refine z_ret c_32_75 rfl ?_
          first
          | (have e := @rM_0 S K PL SZ lo hi (by omega); rw [e.1, e.2] at k; exact k)
          | (have e := @rM_1 S K PL SZ lo hi (by omega) (by omega); rw [e.1, e.2] at k; exact k)
          | (have e := @rM_2 S K PL SZ lo hi (by omega) (by omega) (by omega); rw [e.1, e.2] at k; exact k)
          | (have e := @rM_3 S K PL SZ lo hi (by omega) (by omega) (by omega); rw [e.1, e.2] at k; exact k)
    · refine w_aload c_32_31 rfl ?_
      refine z_push c_32_32 ?_
      refine w_aload c_32_33 rfl ?_
      refine wc_43 c_32_34 sp_2 (Nat.le_of_ble_eq_true rfl) (by omega) ?_
      refine ts_nextPlace hs hK h ?_
      refine r_i ?_
      refine z_push c_32_37 ?_
      refine z_iadd c_32_38 ?_
      refine wc_46 c_32_39 sp_2 (Nat.le_of_ble_eq_true rfl) (by omega) ?_
      refine ts_fail h ?_
      refine r_v ?_
      refine w_goto c_32_42 ?_
      refine w_aload c_32_64 rfl ?_
      refine w_dup c_32_65 rfl ?_
      refine z_getZ c_32_66 sp_2 (by decide) rfl rfl ?_
      refine z_push c_32_69 ?_
      refine z_iadd c_32_70 ?_
      refine z_putZ c_32_71 sp_2 (by decide) rfl ?_
      rw [oS_I]
      refine w_iload c_32_74 rfl ?_
      refine z_ret c_32_75 rfl ?_
      first
      | (have e := @rM_0 S K PL SZ lo hi (by omega); rw [e.1, e.2] at k; exact k)
      | (have e := @rM_1 S K PL SZ lo hi (by omega) (by omega); rw [e.1, e.2] at k; exact k)
      | (have e := @rM_2 S K PL SZ lo hi (by omega) (by omega) (by omega); rw [e.1, e.2] at k; exact k)
      | (have e := @rM_3 S K PL SZ lo hi (by omega) (by omega) (by omega); rw [e.1, e.2] at k; exact k)
  · refine w_aload c_32_15 rfl ?_
    refine z_push c_32_16 ?_
    refine w_aload c_32_17 rfl ?_
    refine wc_43 c_32_18 sp_2 (Nat.le_of_ble_eq_true rfl) (by omega) ?_
    refine ts_nextPlace hs hK h ?_
    refine r_i ?_
    refine wc_46 c_32_21 sp_2 (Nat.le_of_ble_eq_true rfl) (by omega) ?_
    refine ts_fail h ?_
    refine r_v ?_
    refine z_push c_32_24 ?_
    refine z_ret c_32_25 rfl ?_
    first
    | (have e := @rM_0 S K PL SZ lo hi (by omega); rw [e.1, e.2] at k; exact k)
    | (have e := @rM_1 S K PL SZ lo hi (by omega) (by omega); rw [e.1, e.2] at k; exact k)
    | (have e := @rM_2 S K PL SZ lo hi (by omega) (by omega) (by omega); rw [e.1, e.2] at k; exact k)
    | (have e := @rM_3 S K PL SZ lo hi (by omega) (by omega) (by omega); rw [e.1, e.2] at k; exact k)

