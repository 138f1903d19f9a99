/-! THE LAW: its loop (pb8.py) -/
theorem and31 {x : Int32} : 0 ≤ (x &&& iI 31).toInt ∧ (x &&& iI 31).toInt ≤ 31 := by
  have h1 : (x &&& iI 31).toBitVec.toNat ≤ 31 := by
    rw [Int32.toBitVec_and, BitVec.toNat_and]
    exact Nat.le_trans Nat.and_le_right (by decide)
  have h2 : (x &&& iI 31).toInt = (x &&& iI 31).toBitVec.toInt := rfl
  rw [h2, BitVec.toInt_eq_toNat_cond]
  split <;> omega
set_option maxHeartbeats 2000000 in
theorem law_loop {N : Nat} {xs : Nat → Int32} (hN : N ≤ 3072) {d : Nat} (hd : 100 ≤ d) {Q : aPo} (hQ : ∀ (I2 : aFI) (L2 : aFL) (sh2 : Nat) (su2 : Option Nat), Inv I2 L2 sh2 → Q (some (.int (aBo true))) I2 L2 (aR sh2 su2)) : ∀ (m : Nat) (i : Int) (I : aFI) (L : aFL) (sh : Nat) (su : Option Nat), ((N : Int) - i).toNat < m → 0 ≤ i → i ≤ 4000 → Inv I L sh → aWp (some (N, xs)) d 259 18 [.ref aSCR, .ref 0, .ref 157, .int (iI i)] [] I L (aR sh su) Q := by
  intro m
  induction m with
  | zero => intro i I L sh su h; omega
  | succ m ih =>
    intro i I L sh su hm h0 h4 hI
    refine w_iload c_259_18 rfl ?_
    refine w_aload c_259_19 rfl ?_
    refine w_slen c_259_20 rfl (iI_nat _) ?_
    refine z_push c_259_21 ?_
    refine z_isub c_259_23 ?_
    refine z_ic_gt c_259_24 (by unfold aRg; omega) (by unfold aRg; omega) (fun h1 => ?_) (fun h1 => ?_)
    · refine z_push c_259_989 ?_
      refine z_ret1 c_259_990 rfl ?_
      exact hQ I L sh su hI
    · refine w_aload c_259_27 rfl ?_
      refine w_iload c_259_28 rfl ?_
      refine w_sald c_259_29 rfl (iI_in ⟨h0, by omega⟩ (by omega)) rfl ?_
      refine z_push c_259_30 ?_
      obtain ⟨o, ho, eo⟩ : ∃ o : Int, (0 ≤ o ∧ o ≤ 31) ∧ xs (iI i).toNatClampNeg &&& iI 31 = iI o := ⟨_, and31, iI_of _⟩
      refine w_iand c_259_32 eo ?_
      have hsr : ∀ k : Int, 0 ≤ k → k < 6 → ¬ (iI (i + k) < 0 ∨ N ≤ (iI (i + k)).toNatClampNeg) := fun k a b => iI_in ⟨by omega, by omega⟩ (by omega)
      have hxs : ∀ k : Int, xs (iI (i + k)).toNatClampNeg = iI ((fun k : Int => (xs (iI (i + k)).toNatClampNeg).toInt) k) := fun k => iI_of _
      have hv : ∀ k : Int, -2147483648 ≤ (fun k : Int => (xs (iI (i + k)).toNatClampNeg).toInt) k ∧ (fun k : Int => (xs (iI (i + k)).toNatClampNeg).toInt) k < 2147483648 := fun k => aRg_of _
      have kk : ∀ (I2 : aFI) (L2 : aFL) (sh2 : Nat) (su2 : Option Nat), Inv I2 L2 sh2 → aWp (some (N, xs)) d 259 983 [.ref aSCR, .ref 0, .ref 157, .int (iI i)] [] I2 L2 (aR sh2 su2) Q := by
        intro I2 L2 sh2 su2 hI2
        refine z_iinc c_259_983 rfl rfl ?_
        refine w_goto c_259_986 ?_
        exact ih (i + 6) I2 L2 sh2 su2 (by omega) (by omega) (by omega) hI2
      rcases (show o = 0 ∨ o = 1 ∨ o = 2 ∨ o = 3 ∨ o = 4 ∨ o = 5 ∨ o = 6 ∨ o = 7 ∨ o = 8 ∨ o = 9 ∨ o = 10 ∨ o = 11 ∨ o = 12 ∨ o = 13 ∨ o = 14 ∨ o = 15 ∨ o = 16 ∨ o = 17 ∨ o = 18 ∨ o = 19 ∨ o = 20 ∨ o = 21 ∨ o = 22 ∨ o = 23 ∨ o = 24 ∨ o = 25 ∨ o = 26 ∨ o = 27 ∨ o = 28 ∨ o = 29 ∨ o = 30 ∨ o = 31 by omega) with rfl | rfl | rfl | rfl | rfl | rfl | rfl | rfl | rfl | rfl | rfl | rfl | rfl | rfl | rfl | rfl | rfl | rfl | rfl | rfl | rfl | rfl | rfl | rfl | rfl | rfl | rfl | rfl | rfl | rfl | rfl | rfl
      · exact z_tsw c_259_33 (by unfold aRg; omega) (pc2 := 176) rfl (l_feed hI hsr hxs hv hd kk)
      · exact z_tsw c_259_33 (by unfold aRg; omega) (pc2 := 239) rfl (l_end hI hsr hxs hv hd kk)
      · exact z_tsw c_259_33 (by unfold aRg; omega) (pc2 := 262) rfl (l_shore hI hsr hxs hv hd kk)
      · exact z_tsw c_259_33 (by unfold aRg; omega) (pc2 := 275) rfl (l_fault hI hsr hxs hv hd kk)
      · exact z_tsw c_259_33 (by unfold aRg; omega) (pc2 := 298) rfl (l_has hI hsr hxs hv hd kk)
      · exact z_tsw c_259_33 (by unfold aRg; omega) (pc2 := 321) rfl (l_letter hI hsr hxs hv hd kk)
      · exact z_tsw c_259_33 (by unfold aRg; omega) (pc2 := 364) rfl (l_brook hI hsr hxs hv hd kk)
      · exact z_tsw c_259_33 (by unfold aRg; omega) (pc2 := 397) rfl (l_deed hI hsr hxs hv hd kk)
      · exact z_tsw c_259_33 (by unfold aRg; omega) (pc2 := 430) rfl (l_miles hI hsr hxs hv hd kk)
      · exact z_tsw c_259_33 (by unfold aRg; omega) (pc2 := 453) rfl (l_kept hI hsr hxs hv hd kk)
      · exact z_tsw c_259_33 (by unfold aRg; omega) (pc2 := 486) rfl (l_later hI hsr hxs hv hd kk)
      · exact z_tsw c_259_33 (by unfold aRg; omega) (pc2 := 519) rfl (l_fade hI hsr hxs hv hd kk)
      · exact z_tsw c_259_33 (by unfold aRg; omega) (pc2 := 542) rfl (l_soonest hI hsr hxs hv hd kk)
      · exact z_tsw c_259_33 (by unfold aRg; omega) (pc2 := 565) rfl (l_dip hI hsr hxs hv hd kk)
      · exact z_tsw c_259_33 (by unfold aRg; omega) (pc2 := 598) rfl (l_missed hI hsr hxs hv hd kk)
      · exact z_tsw c_259_33 (by unfold aRg; omega) (pc2 := 611) rfl (l_share hI hsr hxs hv hd kk)
      · exact z_tsw c_259_33 (by unfold aRg; omega) (pc2 := 634) rfl (l_all hI hsr hxs hv hd kk)
      · exact z_tsw c_259_33 (by unfold aRg; omega) (pc2 := 657) rfl (l_thinned hI hsr hxs hv hd kk)
      · exact z_tsw c_259_33 (by unfold aRg; omega) (pc2 := 710) rfl (l_outflows hI hsr hxs hv hd kk)
      · exact z_tsw c_259_33 (by unfold aRg; omega) (pc2 := 723) rfl (l_outflow hI hsr hxs hv hd kk)
      · exact z_tsw c_259_33 (by unfold aRg; omega) (pc2 := 746) rfl (l_brief hI hsr hxs hv hd kk)
      · exact z_tsw c_259_33 (by unfold aRg; omega) (pc2 := 769) rfl (l_write hI hsr hxs hv hd kk)
      · exact z_tsw c_259_33 (by unfold aRg; omega) (pc2 := 792) rfl (l_pour hI hsr hxs hv hd kk)
      · exact z_tsw c_259_33 (by unfold aRg; omega) (pc2 := 815) rfl (l_seasons hI hsr hxs hv hd kk)
      · exact z_tsw c_259_33 (by unfold aRg; omega) (pc2 := 838) rfl (l_years hI hsr hxs hv hd kk)
      · exact z_tsw c_259_33 (by unfold aRg; omega) (pc2 := 861) rfl (l_undo hI hsr hxs hv hd kk)
      · exact z_tsw c_259_33 (by unfold aRg; omega) (pc2 := 874) rfl (l_seed hI hsr hxs hv hd kk)
      · exact z_tsw c_259_33 (by unfold aRg; omega) (pc2 := 897) rfl (l_ask hI hsr hxs hv hd kk)
      · exact z_tsw c_259_33 (by unfold aRg; omega) (pc2 := 911) rfl (l_image hI hsr hxs hv hd kk)
      · exact z_tsw c_259_33 (by unfold aRg; omega) (pc2 := 924) rfl (l_octet hI hsr hxs hv hd kk)
      · exact z_tsw c_259_33 (by unfold aRg; omega) (pc2 := 947) rfl (l_on hI hsr hxs hv hd kk)
      · exact z_tsw c_259_33 (by unfold aRg; omega) (pc2 := 960) rfl (l_status hI hsr hxs hv hd kk)
