/-! the law: acts on the lake (pb5.py) -/
theorem invR.cl2 {I I2 : aFI} {L L2 : aFL} {D : Nat → Int → Int} {cd : Nat → Option (List Int)} {X : Lk} {K : Int → Int → Int} {kc : Int} (h : invR I L D cd X K kc) (hF : ∀ q k : Nat, 157 ≤ q → I2 q k = I q k) (hG : ∀ k : Nat, L2 193 k = L 193 k) : invR I2 L2 D cd X K kc :=
  h.fr (fun q k z1 z2 => hF q k (by omega)) (fun q k z1 => by unfold isWd at z1; exact hF q k (by omega)) (hF _ _ (by omega)) (hF _ _ (by omega)) hG
set_option maxHeartbeats 1000000 in
theorem l_pour {N : Nat} {xs : Nat → Int32} {v : Int → Int} {d sh : Nat} {su : Option Nat} {I : aFI} {L : aFL} {Q : aPo} {i : Int} (hI : Inv I L sh) (hsr : ∀ k : Int, 0 ≤ k → k < 6 → ¬ (iI (i + k) < 0 ∨ N ≤ (iI (i + k)).toNatClampNeg)) (hxs : ∀ k : Int, xs (iI (i + k)).toNatClampNeg = iI (v k)) (hv : ∀ k : Int, -2147483648 ≤ v k ∧ v k < 2147483648) (hd : 100 ≤ d) (kk : ∀ (I2 : aFI) (L2 : aFL) (sh2 : Nat) (su2 : Option Nat), Inv I2 L2 sh2 → aWp (some (N, xs)) d 259 983 [.ref aSCR, .ref 0, .ref 157, .int (iI i)] [] I2 L2 (aR sh2 su2) Q) : aWp (some (N, xs)) d 259 792 [.ref aSCR, .ref 0, .ref 157, .int (iI i)] [] I L (aR sh su) Q := by
  have hI0 := hI
  obtain ⟨hsh, D, cd, X, K, kc, T, nt, nx, nw, ct, U, s, P, np, a1, a2, a3, a4, a5, a6, a7, a8⟩ := hI
  have h40 := a2.kc40
  have hS := a1.1.1
  have h999 := a2.2.1
  have hcr : 0 ≤ ct ∧ ct ≤ 20 := ⟨by have := a6.2.2.2.2.1; omega, a6.2.2.2.1⟩
  have hnx := a6.2.1
  have hnw := a6.2.2.1
  by_cases hc : (D 0 0 = 1 ∧ 1 ≤ v 1 ∧ v 1 ≤ 999) ∧ X.2.2.1 + v 1 ≤ 9999
  · refine w_aload c_259_792 rfl ?_
    refine w_aload c_259_793 rfl ?_
    refine w_iload c_259_794 rfl ?_
    refine z_push c_259_795 ?_
    refine z_iadd c_259_796 ?_
    refine w_sald c_259_797 rfl (hsr 1 (by decide) (by decide)) (hxs 1) ?_
    refine wc_98 c_259_798 sp_0 (Nat.le_of_ble_eq_true rfl) (by omega) ?_
    refine tc_pour hsh hS a3.1 a3.2.1 a2.1 (hv 1) a6.1.1 a6.1.2.1 hnx hcr (by omega) (fun _ I1 l36 n1 n2 l46 hf => ?_) (fun z => absurd hc z)
    have b4 := a4.cl (I2 := I1) (fun q k z => hf q k (by omega))
    refine r_i ?_
    refine w_aload c_259_801 rfl ?_
    refine w_aload c_259_802 rfl ?_
    refine w_iload c_259_803 rfl ?_
    refine z_push c_259_804 ?_
    refine z_iadd c_259_805 ?_
    refine w_sald c_259_806 rfl (hsr 1 (by decide) (by decide)) (hxs 1) ?_
    refine wc_213 c_259_807 sp_157 (Nat.le_of_ble_eq_true rfl) (by omega) ?_
    refine t_pour hS b4.1 a2.1 (hv 1) ((hf 157 71 (by omega)).trans a6.1.2.2.1) ((hf 157 70 (by omega)).trans a6.1.2.2.2) hnw hcr (by omega) (fun _ I2 x1 m1 m2 m3 hf2 => ?_) (fun z => absurd hc z)
    refine r_i ?_
    refine w_same c_259_810 ?_
    have hF : ∀ q k : Nat, ¬ SCA q k → I2 q k = I q k := fun q k z => (hf2 q k (by omega)).trans (hf q k (by omega))
    refine kk I2 L sh su (Inv.act (X2 := (X.1, X.2.1, X.2.2.1 + v 1, X.2.2.2)) (kc2 := kc) (K2 := K) (s2 := s) hsh a1 (a2.pour hc.1.2.1 hc.2) a3 a4 a5 a8 a7.1 a7.2.1 a7.2.2.1 hF (fun _ => rfl) ?_ a7.2.2.2.1 a7.2.2.2.2 (l36.fr (fun p k z1 z2 => hf2 p k (by omega))) (a3.2.2.1.fr (by omega) (fun q k z1 z2 => (hf2 q k (by omega)).trans (hf q k (by omega)))) (x1) ((hf2 202 27 (by omega)).trans ((hf 202 27 (by omega)).trans a4.2.1)) (fun a b e z1 z2 z3 z4 z5 => by rw [hf2 202 _ (by omega), hf 202 _ (by omega)]; exact a4.2.2.1 a b e z1 z2 z3 z4 z5) (a6.push a4 a2 (Int.le_refl _) (fun _ _ _ _ => rfl) ((hf2 44 1 (by omega)).trans n1) ((hf2 44 2 (by omega)).trans n2) m1 m2 (l46.fr (fun p k z1 z2 => hf2 p k (by omega))) (fun k hk => (m3 k hk).trans (hf 202 k (by omega))) (fun a k z1 z2 z3 => (hf2 a k (by omega)).trans (hf a k (by omega))) (fun k hk => (hf2 207 k (by omega)).trans (hf 207 k (by omega)))))
    rw [hf2 42 1 (by omega), hf 42 1 (by omega)]; exact a3.2.2.2
  · refine w_aload c_259_792 rfl ?_
    refine w_aload c_259_793 rfl ?_
    refine w_iload c_259_794 rfl ?_
    refine z_push c_259_795 ?_
    refine z_iadd c_259_796 ?_
    refine w_sald c_259_797 rfl (hsr 1 (by decide) (by decide)) (hxs 1) ?_
    refine wc_98 c_259_798 sp_0 (Nat.le_of_ble_eq_true rfl) (by omega) ?_
    refine tc_pour hsh hS a3.1 a3.2.1 a2.1 (hv 1) a6.1.1 a6.1.2.1 hnx hcr (by omega) (fun z => absurd z hc) (fun _ I1 e1 hf => ?_)
    have b4 := a4.cl (I2 := I1) (fun q k z => hf q k (by omega))
    refine r_i ?_
    refine w_aload c_259_801 rfl ?_
    refine w_aload c_259_802 rfl ?_
    refine w_iload c_259_803 rfl ?_
    refine z_push c_259_804 ?_
    refine z_iadd c_259_805 ?_
    refine w_sald c_259_806 rfl (hsr 1 (by decide) (by decide)) (hxs 1) ?_
    refine wc_213 c_259_807 sp_157 (Nat.le_of_ble_eq_true rfl) (by omega) ?_
    refine t_pour hS b4.1 a2.1 (hv 1) ((hf 157 71 (by omega)).trans a6.1.2.2.1) ((hf 157 70 (by omega)).trans a6.1.2.2.2) hnw hcr (by omega) (fun z => absurd z hc) (fun _ I2 L2 e2 hf2 hg2 => ?_)
    refine r_i ?_
    refine w_same c_259_810 ?_
    refine kk I2 L2 sh su (hI0.rt (j := 2) (v := nt) a5.2.2.1 (fun q k z => (hf2 q k (by omega)).trans (hf q k (by omega))) (fun q k z => hg2 q k (by omega)) ?_ ?_ ?_ ?_ ?_ (by decide))
    · rw [hf2 42 1 (by omega), hf 42 1 (by omega)]; exact a3.2.2.2
    · rw [hf2 0 1 (by omega), hf 0 1 (by omega)]; exact a5.1
    · rw [hf2 157 1 (by omega), hf 157 1 (by omega)]; exact a5.2.1
    · exact (hf2 156 2 (by omega)).trans e1
    · exact e2.trans (by rw [hf 159 2 (by omega)])

set_option maxHeartbeats 1000000 in
theorem l_seasons {N : Nat} {xs : Nat → Int32} {v : Int → Int} {d sh : Nat} {su : Option Nat} {I : aFI} {L : aFL} {Q : aPo} {i : Int} (hI : Inv I L sh) (hsr : ∀ k : Int, 0 ≤ k → k < 6 → ¬ (iI (i + k) < 0 ∨ N ≤ (iI (i + k)).toNatClampNeg)) (hxs : ∀ k : Int, xs (iI (i + k)).toNatClampNeg = iI (v k)) (hv : ∀ k : Int, -2147483648 ≤ v k ∧ v k < 2147483648) (hd : 100 ≤ d) (kk : ∀ (I2 : aFI) (L2 : aFL) (sh2 : Nat) (su2 : Option Nat), Inv I2 L2 sh2 → aWp (some (N, xs)) d 259 983 [.ref aSCR, .ref 0, .ref 157, .int (iI i)] [] I2 L2 (aR sh2 su2) Q) : aWp (some (N, xs)) d 259 815 [.ref aSCR, .ref 0, .ref 157, .int (iI i)] [] I L (aR sh su) Q := by
  have hI0 := hI
  obtain ⟨hsh, D, cd, X, K, kc, T, nt, nx, nw, ct, U, s, P, np, a1, a2, a3, a4, a5, a6, a7, a8⟩ := hI
  have h40 := a2.kc40
  have hS := a1.1.1
  have h999 := a2.2.1
  have hcr : 0 ≤ ct ∧ ct ≤ 20 := ⟨by have := a6.2.2.2.2.1; omega, a6.2.2.2.1⟩
  have hnx := a6.2.1
  have hnw := a6.2.2.1
  by_cases hc : (D 0 0 = 1 ∧ 1 ≤ v 1 ∧ v 1 ≤ 100) ∧ X.1 + v 1 ≤ 999
  · refine w_aload c_259_815 rfl ?_
    refine w_aload c_259_816 rfl ?_
    refine w_iload c_259_817 rfl ?_
    refine z_push c_259_818 ?_
    refine z_iadd c_259_819 ?_
    refine w_sald c_259_820 rfl (hsr 1 (by decide) (by decide)) (hxs 1) ?_
    refine wc_99 c_259_821 sp_0 (Nat.le_of_ble_eq_true rfl) (by omega) ?_
    refine tc_seasons hsh hS a3.1 a3.2.1 a2.1 (hv 1) a6.1.1 a6.1.2.1 hnx hcr a3.2.2.2 (by omega) (fun _ I1 l36 n1 n2 l46 hf => ?_) (fun z => absurd hc z)
    have b4 := a4.cl (I2 := I1) (fun q k z => hf q k (by omega))
    refine r_i ?_
    refine w_aload c_259_824 rfl ?_
    refine w_aload c_259_825 rfl ?_
    refine w_iload c_259_826 rfl ?_
    refine z_push c_259_827 ?_
    refine z_iadd c_259_828 ?_
    refine w_sald c_259_829 rfl (hsr 1 (by decide) (by decide)) (hxs 1) ?_
    refine wc_214 c_259_830 sp_157 (Nat.le_of_ble_eq_true rfl) (by omega) ?_
    refine t_seasons hS b4.1 a2.1 (hv 1) ((hf 157 71 (by omega)).trans a6.1.2.2.1) ((hf 157 70 (by omega)).trans a6.1.2.2.2) hnw hcr (by omega) (fun _ I2 L2 x1 m1 m2 m3 hf2 hg2 => ?_) (fun z => absurd hc z)
    refine r_i ?_
    refine w_same c_259_833 ?_
    have hF : ∀ q k : Nat, ¬ SCA q k → I2 q k = I q k := fun q k z => (hf2 q k (by omega)).trans (hf q k (by omega))
    refine kk I2 L2 sh su (Inv.act (X2 := seaN D cd X (v 1).toNat) (kc2 := kc) (K2 := K) (s2 := s) hsh a1 (a2.sN hS _ (by omega)) a3 a4 a5 a8 a7.1 a7.2.1 a7.2.2.1 hF (fun k => hg2 193 k (by omega)) ?_ ⟨(hg2 0 17 (by omega)).trans a7.2.2.2.1.1, (hg2 157 72 (by omega)).trans a7.2.2.2.1.2⟩ a7.2.2.2.2 (l36.fr (fun p k z1 z2 => hf2 p k (by omega))) (a3.2.2.1.fr (by omega) (fun q k z1 z2 => (hf2 q k (by omega)).trans (hf q k (by omega)))) (x1.2) ((hf2 202 27 (by omega)).trans ((hf 202 27 (by omega)).trans a4.2.1)) (fun a b e z1 z2 z3 z4 z5 => by rw [hf2 202 _ (by omega), hf 202 _ (by omega)]; exact a4.2.2.1 a b e z1 z2 z3 z4 z5) (a6.push a4 a2 (Int.le_refl _) (fun _ _ _ _ => rfl) ((hf2 44 1 (by omega)).trans n1) ((hf2 44 2 (by omega)).trans n2) m1 m2 (l46.fr (fun p k z1 z2 => hf2 p k (by omega))) (fun k hk => (m3 k hk).trans (hf 202 k (by omega))) (fun a k z1 z2 z3 => (hf2 a k (by omega)).trans (hf a k (by omega))) (fun k hk => (hf2 207 k (by omega)).trans (hf 207 k (by omega)))))
    rw [hf2 42 1 (by omega), hf 42 1 (by omega)]; exact a3.2.2.2
  · refine w_aload c_259_815 rfl ?_
    refine w_aload c_259_816 rfl ?_
    refine w_iload c_259_817 rfl ?_
    refine z_push c_259_818 ?_
    refine z_iadd c_259_819 ?_
    refine w_sald c_259_820 rfl (hsr 1 (by decide) (by decide)) (hxs 1) ?_
    refine wc_99 c_259_821 sp_0 (Nat.le_of_ble_eq_true rfl) (by omega) ?_
    refine tc_seasons hsh hS a3.1 a3.2.1 a2.1 (hv 1) a6.1.1 a6.1.2.1 hnx hcr a3.2.2.2 (by omega) (fun z => absurd z hc) (fun _ I1 e1 hf => ?_)
    have b4 := a4.cl (I2 := I1) (fun q k z => hf q k (by omega))
    refine r_i ?_
    refine w_aload c_259_824 rfl ?_
    refine w_aload c_259_825 rfl ?_
    refine w_iload c_259_826 rfl ?_
    refine z_push c_259_827 ?_
    refine z_iadd c_259_828 ?_
    refine w_sald c_259_829 rfl (hsr 1 (by decide) (by decide)) (hxs 1) ?_
    refine wc_214 c_259_830 sp_157 (Nat.le_of_ble_eq_true rfl) (by omega) ?_
    refine t_seasons hS b4.1 a2.1 (hv 1) ((hf 157 71 (by omega)).trans a6.1.2.2.1) ((hf 157 70 (by omega)).trans a6.1.2.2.2) hnw hcr (by omega) (fun z => absurd z hc) (fun _ I2 L2 e2 hf2 hg2 => ?_)
    refine r_i ?_
    refine w_same c_259_833 ?_
    refine kk I2 L2 sh su (hI0.rt (j := 3) (v := nt) a5.2.2.1 (fun q k z => (hf2 q k (by omega)).trans (hf q k (by omega))) (fun q k z => hg2 q k (by omega)) ?_ ?_ ?_ ?_ ?_ (by decide))
    · rw [hf2 42 1 (by omega), hf 42 1 (by omega)]; exact a3.2.2.2
    · rw [hf2 0 1 (by omega), hf 0 1 (by omega)]; exact a5.1
    · rw [hf2 157 1 (by omega), hf 157 1 (by omega)]; exact a5.2.1
    · exact (hf2 156 3 (by omega)).trans e1
    · exact e2.trans (by rw [hf 159 3 (by omega)])

set_option maxHeartbeats 1000000 in
theorem l_years {N : Nat} {xs : Nat → Int32} {v : Int → Int} {d sh : Nat} {su : Option Nat} {I : aFI} {L : aFL} {Q : aPo} {i : Int} (hI : Inv I L sh) (hsr : ∀ k : Int, 0 ≤ k → k < 6 → ¬ (iI (i + k) < 0 ∨ N ≤ (iI (i + k)).toNatClampNeg)) (hxs : ∀ k : Int, xs (iI (i + k)).toNatClampNeg = iI (v k)) (hv : ∀ k : Int, -2147483648 ≤ v k ∧ v k < 2147483648) (hd : 100 ≤ d) (kk : ∀ (I2 : aFI) (L2 : aFL) (sh2 : Nat) (su2 : Option Nat), Inv I2 L2 sh2 → aWp (some (N, xs)) d 259 983 [.ref aSCR, .ref 0, .ref 157, .int (iI i)] [] I2 L2 (aR sh2 su2) Q) : aWp (some (N, xs)) d 259 838 [.ref aSCR, .ref 0, .ref 157, .int (iI i)] [] I L (aR sh su) Q := by
  have hI0 := hI
  obtain ⟨hsh, D, cd, X, K, kc, T, nt, nx, nw, ct, U, s, P, np, a1, a2, a3, a4, a5, a6, a7, a8⟩ := hI
  have h40 := a2.kc40
  have hS := a1.1.1
  have h999 := a2.2.1
  have hcr : 0 ≤ ct ∧ ct ≤ 20 := ⟨by have := a6.2.2.2.2.1; omega, a6.2.2.2.1⟩
  have hnx := a6.2.1
  have hnw := a6.2.2.1
  by_cases hc : (D 0 0 = 1 ∧ 1 ≤ v 1 ∧ v 1 ≤ 100) ∧ X.1 + v 1 ≤ 999
  · refine w_aload c_259_838 rfl ?_
    refine w_aload c_259_839 rfl ?_
    refine w_iload c_259_840 rfl ?_
    refine z_push c_259_841 ?_
    refine z_iadd c_259_842 ?_
    refine w_sald c_259_843 rfl (hsr 1 (by decide) (by decide)) (hxs 1) ?_
    refine wc_100 c_259_844 sp_0 (Nat.le_of_ble_eq_true rfl) (by omega) ?_
    refine tc_years hsh hS a3.1 a3.2.1 a2.1 (hv 1) a6.1.1 a6.1.2.1 hnx hcr a3.2.2.2 a7.2.2.2.1.1 a7.2.2.2.2 (by omega) (fun _ I1 L1 l36 ls n1 n2 l46 hf hg => ?_) (fun z => absurd hc z)
    have b4 := a4.cl2 (I2 := I1) (L2 := L1) (fun q k z => hf q k (by omega)) (fun k => hg 193 k (by omega))
    refine r_i ?_
    refine w_aload c_259_847 rfl ?_
    refine w_aload c_259_848 rfl ?_
    refine w_iload c_259_849 rfl ?_
    refine z_push c_259_850 ?_
    refine z_iadd c_259_851 ?_
    refine w_sald c_259_852 rfl (hsr 1 (by decide) (by decide)) (hxs 1) ?_
    refine wc_217 c_259_853 sp_157 (Nat.le_of_ble_eq_true rfl) (by omega) ?_
    refine t_years hS b4.1 a2.1 (hv 1) ((hf 157 71 (by omega)).trans a6.1.2.2.1) ((hf 157 70 (by omega)).trans a6.1.2.2.2) hnw hcr ((hg 157 72 (by omega)).trans a7.2.2.2.1.2) a7.2.2.2.2 (by omega) (fun _ I2 L2 x1 ls2 m1 m2 m3 hf2 hg2 => ?_) (fun z => absurd hc z)
    refine r_i ?_
    refine w_same c_259_856 ?_
    have hF : ∀ q k : Nat, ¬ SCA q k → I2 q k = I q k := fun q k z => (hf2 q k (by omega)).trans (hf q k (by omega))
    refine kk I2 L2 sh su (Inv.act (X2 := (yrF D cd X s (v 1).toNat).1) (kc2 := kc) (K2 := K) (s2 := (yrF D cd X s (v 1).toNat).2.1) hsh a1 (a2.yN hS _ (by omega)) a3 a4 a5 a8 a7.1 a7.2.1 a7.2.2.1 hF (fun k => (hg2 193 k (by omega)).trans (hg 193 k (by omega))) ?_ ⟨(hg2 0 17 (by omega)).trans ls, ls2⟩ (yrF_ok hS a2.1 a7.2.2.2.2 (v 1).toNat (by omega)).2 (l36.fr (fun p k z1 z2 => hf2 p k (by omega))) (a3.2.2.1.fr (by omega) (fun q k z1 z2 => (hf2 q k (by omega)).trans (hf q k (by omega)))) (x1.2) ((hf2 202 27 (by omega)).trans ((hf 202 27 (by omega)).trans a4.2.1)) (fun a b e z1 z2 z3 z4 z5 => by rw [hf2 202 _ (by omega), hf 202 _ (by omega)]; exact a4.2.2.1 a b e z1 z2 z3 z4 z5) (a6.push a4 a2 (Int.le_refl _) (fun _ _ _ _ => rfl) ((hf2 44 1 (by omega)).trans n1) ((hf2 44 2 (by omega)).trans n2) m1 m2 (l46.fr (fun p k z1 z2 => hf2 p k (by omega))) (fun k hk => (m3 k hk).trans (hf 202 k (by omega))) (fun a k z1 z2 z3 => (hf2 a k (by omega)).trans (hf a k (by omega))) (fun k hk => (hf2 207 k (by omega)).trans (hf 207 k (by omega)))))
    rw [hf2 42 1 (by omega), hf 42 1 (by omega)]; exact a3.2.2.2
  · refine w_aload c_259_838 rfl ?_
    refine w_aload c_259_839 rfl ?_
    refine w_iload c_259_840 rfl ?_
    refine z_push c_259_841 ?_
    refine z_iadd c_259_842 ?_
    refine w_sald c_259_843 rfl (hsr 1 (by decide) (by decide)) (hxs 1) ?_
    refine wc_100 c_259_844 sp_0 (Nat.le_of_ble_eq_true rfl) (by omega) ?_
    refine tc_years hsh hS a3.1 a3.2.1 a2.1 (hv 1) a6.1.1 a6.1.2.1 hnx hcr a3.2.2.2 a7.2.2.2.1.1 a7.2.2.2.2 (by omega) (fun z => absurd z hc) (fun _ I1 e1 hf => ?_)
    have b4 := a4.cl (I2 := I1) (fun q k z => hf q k (by omega))
    refine r_i ?_
    refine w_aload c_259_847 rfl ?_
    refine w_aload c_259_848 rfl ?_
    refine w_iload c_259_849 rfl ?_
    refine z_push c_259_850 ?_
    refine z_iadd c_259_851 ?_
    refine w_sald c_259_852 rfl (hsr 1 (by decide) (by decide)) (hxs 1) ?_
    refine wc_217 c_259_853 sp_157 (Nat.le_of_ble_eq_true rfl) (by omega) ?_
    refine t_years hS b4.1 a2.1 (hv 1) ((hf 157 71 (by omega)).trans a6.1.2.2.1) ((hf 157 70 (by omega)).trans a6.1.2.2.2) hnw hcr a7.2.2.2.1.2 a7.2.2.2.2 (by omega) (fun z => absurd z hc) (fun _ I2 L2 e2 hf2 hg2 => ?_)
    refine r_i ?_
    refine w_same c_259_856 ?_
    refine kk I2 L2 sh su (hI0.rt (j := 3) (v := nt) a5.2.2.1 (fun q k z => (hf2 q k (by omega)).trans (hf q k (by omega))) (fun q k z => hg2 q k (by omega)) ?_ ?_ ?_ ?_ ?_ (by decide))
    · rw [hf2 42 1 (by omega), hf 42 1 (by omega)]; exact a3.2.2.2
    · rw [hf2 0 1 (by omega), hf 0 1 (by omega)]; exact a5.1
    · rw [hf2 157 1 (by omega), hf 157 1 (by omega)]; exact a5.2.1
    · exact (hf2 156 3 (by omega)).trans e1
    · exact e2.trans (by rw [hf 159 3 (by omega)])

set_option maxHeartbeats 1000000 in
theorem l_write {N : Nat} {xs : Nat → Int32} {v : Int → Int} {d sh : Nat} {su : Option Nat} {I : aFI} {L : aFL} {Q : aPo} {i : Int} (hI : Inv I L sh) (hsr : ∀ k : Int, 0 ≤ k → k < 6 → ¬ (iI (i + k) < 0 ∨ N ≤ (iI (i + k)).toNatClampNeg)) (hxs : ∀ k : Int, xs (iI (i + k)).toNatClampNeg = iI (v k)) (hv : ∀ k : Int, -2147483648 ≤ v k ∧ v k < 2147483648) (hd : 100 ≤ d) (kk : ∀ (I2 : aFI) (L2 : aFL) (sh2 : Nat) (su2 : Option Nat), Inv I2 L2 sh2 → aWp (some (N, xs)) d 259 983 [.ref aSCR, .ref 0, .ref 157, .int (iI i)] [] I2 L2 (aR sh2 su2) Q) : aWp (some (N, xs)) d 259 769 [.ref aSCR, .ref 0, .ref 157, .int (iI i)] [] I L (aR sh su) Q := by
  have hI0 := hI
  obtain ⟨hsh, D, cd, X, K, kc, T, nt, nx, nw, ct, U, s, P, np, a1, a2, a3, a4, a5, a6, a7, a8⟩ := hI
  have h40 := a2.kc40
  have hS := a1.1.1
  have h999 := a2.2.1
  have hcr : 0 ≤ ct ∧ ct ≤ 20 := ⟨by have := a6.2.2.2.2.1; omega, a6.2.2.2.1⟩
  have hnx := a6.2.1
  have hnw := a6.2.2.1
  by_cases hc : (0 ≤ v 1 ∧ v 1 < D 1 2) ∧ cbZ D cd X (v 1) = true
  · refine w_aload c_259_769 rfl ?_
    refine w_aload c_259_770 rfl ?_
    refine w_iload c_259_771 rfl ?_
    refine z_push c_259_772 ?_
    refine z_iadd c_259_773 ?_
    refine w_sald c_259_774 rfl (hsr 1 (by decide) (by decide)) (hxs 1) ?_
    refine wc_97 c_259_775 sp_0 (Nat.le_of_ble_eq_true rfl) (by omega) ?_
    refine tc_write hsh hS a3.1 a3.2.1 a2.1 (hv 1) a6.1.1 a6.1.2.1 hnx hcr a3.2.2.2 h40 a3.2.2.1 (by omega) (fun _ I1 l36 kp n1 n2 l46 hf => ?_) (fun z => absurd hc z)
    have b4 := a4.cl (I2 := I1) (fun q k z => hf q k (by omega))
    refine r_i ?_
    refine w_aload c_259_778 rfl ?_
    refine w_aload c_259_779 rfl ?_
    refine w_iload c_259_780 rfl ?_
    refine z_push c_259_781 ?_
    refine z_iadd c_259_782 ?_
    refine w_sald c_259_783 rfl (hsr 1 (by decide) (by decide)) (hxs 1) ?_
    refine wc_212 c_259_784 sp_157 (Nat.le_of_ble_eq_true rfl) (by omega) ?_
    refine t_write hS b4.1 a2.1 (hv 1) ((hf 157 71 (by omega)).trans a6.1.2.2.1) ((hf 157 70 (by omega)).trans a6.1.2.2.2) hnw hcr b4.2.2.2.2.2 b4.2.1 h40 b4.2.2.1 (by omega) (fun _ I2 L2 x1 r27 kp2 m1 m2 m3 hf2 hg2 => ?_) (fun z => absurd hc z)
    refine r_i ?_
    refine w_same c_259_787 ?_
    have hF : ∀ q k : Nat, ¬ SCA q k → I2 q k = I q k := fun q k z => (hf2 q k (by omega)).trans (hf q k (by omega))
    refine kk I2 L2 sh su (Inv.act (X2 := drawX X (v 1) (drwZ D cd X (v 1))) (kc2 := kc + 1) (K2 := kA K kc X.1 (v 1) (dk X.2.1 X.2.2.1) (drwZ D cd X (v 1))) (s2 := s) hsh a1 (a2.draw hS hc.1 hc.2) a3 a4 a5 a8 a7.1 a7.2.1 a7.2.2.1 hF (fun k => hg2 193 k (by omega)) ?_ ⟨(hg2 0 17 (by omega)).trans a7.2.2.2.1.1, (hg2 157 72 (by omega)).trans a7.2.2.2.1.2⟩ a7.2.2.2.2 (l36.fr (fun p k z1 z2 => hf2 p k (by omega))) (kp.fr (by omega) (fun q k z1 z2 => hf2 q k (by omega))) (x1) (r27) (kp2) (a6.push a4 a2 (by omega) (kA_lt) ((hf2 44 1 (by omega)).trans n1) ((hf2 44 2 (by omega)).trans n2) m1 m2 (l46.fr (fun p k z1 z2 => hf2 p k (by omega))) (fun k hk => (m3 k hk).trans (hf 202 k (by omega))) (fun a k z1 z2 z3 => (hf2 a k (by omega)).trans (hf a k (by omega))) (fun k hk => (hf2 207 k (by omega)).trans (hf 207 k (by omega)))))
    rw [hf2 42 1 (by omega), hf 42 1 (by omega)]; exact a3.2.2.2
  · refine w_aload c_259_769 rfl ?_
    refine w_aload c_259_770 rfl ?_
    refine w_iload c_259_771 rfl ?_
    refine z_push c_259_772 ?_
    refine z_iadd c_259_773 ?_
    refine w_sald c_259_774 rfl (hsr 1 (by decide) (by decide)) (hxs 1) ?_
    refine wc_97 c_259_775 sp_0 (Nat.le_of_ble_eq_true rfl) (by omega) ?_
    refine tc_write hsh hS a3.1 a3.2.1 a2.1 (hv 1) a6.1.1 a6.1.2.1 hnx hcr a3.2.2.2 h40 a3.2.2.1 (by omega) (fun z => absurd z hc) (fun _ I1 e1 hf => ?_)
    have b4 := a4.cl (I2 := I1) (fun q k z => hf q k (by omega))
    refine r_i ?_
    refine w_aload c_259_778 rfl ?_
    refine w_aload c_259_779 rfl ?_
    refine w_iload c_259_780 rfl ?_
    refine z_push c_259_781 ?_
    refine z_iadd c_259_782 ?_
    refine w_sald c_259_783 rfl (hsr 1 (by decide) (by decide)) (hxs 1) ?_
    refine wc_212 c_259_784 sp_157 (Nat.le_of_ble_eq_true rfl) (by omega) ?_
    refine t_write hS b4.1 a2.1 (hv 1) ((hf 157 71 (by omega)).trans a6.1.2.2.1) ((hf 157 70 (by omega)).trans a6.1.2.2.2) hnw hcr b4.2.2.2.2.2 b4.2.1 h40 b4.2.2.1 (by omega) (fun z => absurd z hc) (fun _ I2 L2 e2 hf2 hg2 => ?_)
    refine r_i ?_
    refine w_same c_259_787 ?_
    refine kk I2 L2 sh su (hI0.rt (j := 2) (v := nt) a5.2.2.1 (fun q k z => (hf2 q k (by omega)).trans (hf q k (by omega))) (fun q k z => hg2 q k (by omega)) ?_ ?_ ?_ ?_ ?_ (by decide))
    · rw [hf2 42 1 (by omega), hf 42 1 (by omega)]; exact a3.2.2.2
    · rw [hf2 0 1 (by omega), hf 0 1 (by omega)]; exact a5.1
    · rw [hf2 157 1 (by omega), hf 157 1 (by omega)]; exact a5.2.1
    · exact (hf2 156 2 (by omega)).trans e1
    · exact e2.trans (by rw [hf 159 2 (by omega)])

