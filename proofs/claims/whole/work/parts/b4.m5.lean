/-! the law: tape, seed, flows, ring, picture, questions (pb4.py) -/
set_option maxHeartbeats 1000000 in
theorem l_end {N : Nat} {xs : Nat → Int32} {v : Int → Int} {d sh : Nat} {su : Option Nat} {I : aFI} {L : aFL} {Q : aPo} {i : Int} (hI : Inv I L sh) (hsr : ∀ k : Int, 0 ≤ k → k < 6 → ¬ (iI (i + k) < 0 ∨ N ≤ (iI (i + k)).toNatClampNeg)) (hxs : ∀ k : Int, xs (iI (i + k)).toNatClampNeg = iI (v k)) (hv : ∀ k : Int, -2147483648 ≤ v k ∧ v k < 2147483648) (hd : 100 ≤ d) (kk : ∀ (I2 : aFI) (L2 : aFL) (sh2 : Nat) (su2 : Option Nat), Inv I2 L2 sh2 → aWp (some (N, xs)) d 259 983 [.ref aSCR, .ref 0, .ref 157, .int (iI i)] [] I2 L2 (aR sh2 su2) Q) : aWp (some (N, xs)) d 259 239 [.ref aSCR, .ref 0, .ref 157, .int (iI i)] [] I L (aR sh su) Q := by
  have hI0 := hI
  obtain ⟨hsh, D, cd, X, K, kc, T, nt, nx, nw, ct, U, s, P, np, a1, a2, a3, a4, a5, a6, a7, a8⟩ := hI
  have h40 := a2.kc40
  have hS := a1.1.1
  have h999 := a2.2.1
  by_cases hc : 0 ≤ v 1 ∧ v 1 ≤ nt
  · refine w_aload c_259_239 rfl ?_
    refine w_aload c_259_240 rfl ?_
    refine w_iload c_259_241 rfl ?_
    refine z_push c_259_242 ?_
    refine z_iadd c_259_243 ?_
    refine w_sald c_259_244 rfl (hsr 1 (by decide) (by decide)) (hxs 1) ?_
    refine wc_77 c_259_245 sp_0 (Nat.le_of_ble_eq_true rfl) (by omega) ?_
    refine tc_end (hv 1) a5.1 a5.2.2.1 (by omega) (fun _ => ?_) (fun z => absurd hc z)
    refine r_i ?_
    refine w_aload c_259_248 rfl ?_
    refine w_aload c_259_249 rfl ?_
    refine w_iload c_259_250 rfl ?_
    refine z_push c_259_251 ?_
    refine z_iadd c_259_252 ?_
    refine w_sald c_259_253 rfl (hsr 1 (by decide) (by decide)) (hxs 1) ?_
    refine wc_132 c_259_254 sp_157 (Nat.le_of_ble_eq_true rfl) (by omega) ?_
    refine t_end (hv 1) ((up_ne (by decide)).trans a5.2.1) a5.2.2.1 (fun _ => ?_) (fun z => absurd hc z)
    refine r_i ?_
    refine w_same c_259_257 ?_
    have hnn := a5.2.2.1
    refine kk _ L sh su (hI0.gen (v := v 1) ⟨hc.1, by omega⟩ (fun q k z => (up_ne (by omega)).trans (up_ne (by omega))) frG.rf ?_ ?_ up_eq ?_ ?_)
    · rw [up_ne (by decide), up_ne (by decide)]; exact a3.2.2.2
    · rw [up_ne (by decide)]; exact up_eq
    · rw [up_ne (by decide), up_ne (by decide), up_ne (by decide), up_ne (by decide), up_ne (by decide), up_ne (by decide), up_ne (by decide), up_ne (by decide)]; exact a7.2.1
    · rw [up_ne (by decide), up_ne (by decide), up_ne (by decide), up_ne (by decide), up_ne (by decide), up_ne (by decide), up_ne (by decide), up_ne (by decide)]; exact a7.2.2.1
  · refine w_aload c_259_239 rfl ?_
    refine w_aload c_259_240 rfl ?_
    refine w_iload c_259_241 rfl ?_
    refine z_push c_259_242 ?_
    refine z_iadd c_259_243 ?_
    refine w_sald c_259_244 rfl (hsr 1 (by decide) (by decide)) (hxs 1) ?_
    refine wc_77 c_259_245 sp_0 (Nat.le_of_ble_eq_true rfl) (by omega) ?_
    refine tc_end (hv 1) a5.1 a5.2.2.1 (by omega) (fun z => absurd z hc) (fun _ => ?_)
    refine r_i ?_
    refine w_aload c_259_248 rfl ?_
    refine w_aload c_259_249 rfl ?_
    refine w_iload c_259_250 rfl ?_
    refine z_push c_259_251 ?_
    refine z_iadd c_259_252 ?_
    refine w_sald c_259_253 rfl (hsr 1 (by decide) (by decide)) (hxs 1) ?_
    refine wc_132 c_259_254 sp_157 (Nat.le_of_ble_eq_true rfl) (by omega) ?_
    refine t_end (hv 1) ((up_ne (by decide)).trans a5.2.1) a5.2.2.1 (fun z => absurd z hc) (fun _ => ?_)
    refine r_i ?_
    refine w_same c_259_257 ?_
    refine kk _ L sh su (hI0.rt (j := 0) (v := nt) a5.2.2.1 (fun q k z => (up_ne (by omega)).trans (up_ne (by omega))) frG.rf ?_ ?_ ?_ ?_ ?_ (by decide))
    · rw [up_ne (by decide), up_ne (by decide)]; exact a3.2.2.2
    · rw [up_ne (by decide), up_ne (by decide)]; exact a5.1
    · rw [up_ne (by decide), up_ne (by decide)]; exact a5.2.1
    · rw [up_ne (by decide)]; exact up_eq
    · refine up_eq.trans ?_; rw [up_ne (by decide)]

set_option maxHeartbeats 1000000 in
theorem l_seed {N : Nat} {xs : Nat → Int32} {v : Int → Int} {d sh : Nat} {su : Option Nat} {I : aFI} {L : aFL} {Q : aPo} {i : Int} (hI : Inv I L sh) (hsr : ∀ k : Int, 0 ≤ k → k < 6 → ¬ (iI (i + k) < 0 ∨ N ≤ (iI (i + k)).toNatClampNeg)) (hxs : ∀ k : Int, xs (iI (i + k)).toNatClampNeg = iI (v k)) (hv : ∀ k : Int, -2147483648 ≤ v k ∧ v k < 2147483648) (hd : 100 ≤ d) (kk : ∀ (I2 : aFI) (L2 : aFL) (sh2 : Nat) (su2 : Option Nat), Inv I2 L2 sh2 → aWp (some (N, xs)) d 259 983 [.ref aSCR, .ref 0, .ref 157, .int (iI i)] [] I2 L2 (aR sh2 su2) Q) : aWp (some (N, xs)) d 259 874 [.ref aSCR, .ref 0, .ref 157, .int (iI i)] [] I L (aR sh su) Q := by
  have hI0 := hI
  obtain ⟨hsh, D, cd, X, K, kc, T, nt, nx, nw, ct, U, s, P, np, a1, a2, a3, a4, a5, a6, a7, a8⟩ := hI
  have h40 := a2.kc40
  have hS := a1.1.1
  have h999 := a2.2.1
  by_cases hc : 0 ≤ v 1
  · refine w_aload c_259_874 rfl ?_
    refine w_aload c_259_875 rfl ?_
    refine w_iload c_259_876 rfl ?_
    refine z_push c_259_877 ?_
    refine z_iadd c_259_878 ?_
    refine w_sald c_259_879 rfl (hsr 1 (by decide) (by decide)) (hxs 1) ?_
    refine wc_102 c_259_880 sp_0 (Nat.le_of_ble_eq_true rfl) (by omega) ?_
    refine tc_seed (hv 1) (by omega) (fun _ => ?_) (fun z => absurd hc (by omega))
    refine r_i ?_
    refine w_aload c_259_883 rfl ?_
    refine w_aload c_259_884 rfl ?_
    refine w_iload c_259_885 rfl ?_
    refine z_push c_259_886 ?_
    refine z_iadd c_259_887 ?_
    refine w_sald c_259_888 rfl (hsr 1 (by decide) (by decide)) (hxs 1) ?_
    refine wc_215 c_259_889 sp_157 (Nat.le_of_ble_eq_true rfl) (by omega) ?_
    refine t_seed (hv 1) (fun _ => ?_) (fun z => absurd hc (by omega))
    refine r_i ?_
    refine w_same c_259_892 ?_
    have hv1 := hv 1
    refine kk I _ sh su ⟨hsh, D, cd, X, K, kc, T, nt, nx, nw, ct, U, v 1, P, np, a1, a2, a3, a4.fr (fun _ _ _ _ => rfl) (fun _ _ _ => rfl) rfl rfl (fun k => (upL_ne (by omega)).trans (upL_ne (by omega))), a5, a6, ⟨a7.1, a7.2.1, a7.2.2.1, ⟨(upL_ne (by decide)).trans upL_eq, upL_eq⟩, hc, by omega⟩, a8⟩
  · refine w_aload c_259_874 rfl ?_
    refine w_aload c_259_875 rfl ?_
    refine w_iload c_259_876 rfl ?_
    refine z_push c_259_877 ?_
    refine z_iadd c_259_878 ?_
    refine w_sald c_259_879 rfl (hsr 1 (by decide) (by decide)) (hxs 1) ?_
    refine wc_102 c_259_880 sp_0 (Nat.le_of_ble_eq_true rfl) (by omega) ?_
    refine tc_seed (hv 1) (by omega) (fun z => absurd z hc) (fun _ => ?_)
    refine r_i ?_
    refine w_aload c_259_883 rfl ?_
    refine w_aload c_259_884 rfl ?_
    refine w_iload c_259_885 rfl ?_
    refine z_push c_259_886 ?_
    refine z_iadd c_259_887 ?_
    refine w_sald c_259_888 rfl (hsr 1 (by decide) (by decide)) (hxs 1) ?_
    refine wc_215 c_259_889 sp_157 (Nat.le_of_ble_eq_true rfl) (by omega) ?_
    refine t_seed (hv 1) (fun z => absurd z hc) (fun _ => ?_)
    refine r_i ?_
    refine w_same c_259_892 ?_
    refine kk _ L sh su (hI0.rt (j := 5) (v := nt) a5.2.2.1 (fun q k z => (up_ne (by omega)).trans (up_ne (by omega))) frG.rf ?_ ?_ ?_ ?_ ?_ (by decide))
    · rw [up_ne (by decide), up_ne (by decide)]; exact a3.2.2.2
    · rw [up_ne (by decide), up_ne (by decide)]; exact a5.1
    · rw [up_ne (by decide), up_ne (by decide)]; exact a5.2.1
    · rw [up_ne (by decide)]; exact up_eq
    · refine up_eq.trans ?_; rw [up_ne (by decide)]

set_option maxHeartbeats 1000000 in
theorem l_outflows {N : Nat} {xs : Nat → Int32} {v : Int → Int} {d sh : Nat} {su : Option Nat} {I : aFI} {L : aFL} {Q : aPo} {i : Int} (hI : Inv I L sh) (hsr : ∀ k : Int, 0 ≤ k → k < 6 → ¬ (iI (i + k) < 0 ∨ N ≤ (iI (i + k)).toNatClampNeg)) (hxs : ∀ k : Int, xs (iI (i + k)).toNatClampNeg = iI (v k)) (hv : ∀ k : Int, -2147483648 ≤ v k ∧ v k < 2147483648) (hd : 100 ≤ d) (kk : ∀ (I2 : aFI) (L2 : aFL) (sh2 : Nat) (su2 : Option Nat), Inv I2 L2 sh2 → aWp (some (N, xs)) d 259 983 [.ref aSCR, .ref 0, .ref 157, .int (iI i)] [] I2 L2 (aR sh2 su2) Q) : aWp (some (N, xs)) d 259 710 [.ref aSCR, .ref 0, .ref 157, .int (iI i)] [] I L (aR sh su) Q := by
  have hI0 := hI
  obtain ⟨hsh, D, cd, X, K, kc, T, nt, nx, nw, ct, U, s, P, np, a1, a2, a3, a4, a5, a6, a7, a8⟩ := hI
  have h40 := a2.kc40
  have hS := a1.1.1
  have h999 := a2.2.1
  by_cases hc : outC D X nt
  · refine w_aload c_259_710 rfl ?_
    refine wc_94 c_259_711 sp_0 (Nat.le_of_ble_eq_true rfl) (by omega) ?_
    refine tc_outflows hsh hS a3.1 a3.2.1 a2.1 (T := T) (by omega) a5.1 a5.2.2.1 a5.2.2.2.1 a5.2.2.2.2.2 (by omega) (fun _ I1 t0 t14 t15 hf => ?_) (fun z => absurd hc z)
    have b4 := a4.cl (I2 := I1) (fun q k z => hf q k (by omega))
    refine r_i ?_
    refine w_aload c_259_714 rfl ?_
    refine wc_206 c_259_715 sp_157 (Nat.le_of_ble_eq_true rfl) (by omega) ?_
    refine t_outflows hS b4.1 a2.1 (T := T) (by omega) ((hf 157 1 (by omega)).trans a5.2.1) a5.2.2.1 (fun j z1 z2 => (hf 158 _ (by omega)).trans (a5.2.2.2.2.1 j z1 z2)) a5.2.2.2.2.2 b4.2.2.2.2.2 (by omega) (fun _ I2 L2 u1 u67 u68 hf2 hg2 => ?_) (fun z => absurd hc z)
    refine r_i ?_
    refine w_same c_259_718 ?_
    refine kk I2 L2 sh su (hI0.gen (v := 0) ⟨by decide, by decide⟩ (fun q k z => (hf2 q k (by omega)).trans (hf q k (by omega))) (fun q k z => hg2 q k (by omega)) ?_ ((hf2 0 1 (by omega)).trans t0) u1 ?_ ?_)
    · rw [hf2 42 1 (by omega), hf 42 1 (by omega)]; exact a3.2.2.2
    · rw [hf2 157 7 (by omega), hf2 157 8 (by omega), hf2 2 7 (by omega), hf2 2 8 (by omega), hf 157 7 (by omega), hf 157 8 (by omega), hf 2 7 (by omega), hf 2 8 (by omega)]; exact a7.2.1
    · rw [u67, u68, hf2 0 14 (by omega), hf2 0 15 (by omega), t14, t15]; exact ⟨rfl, rfl⟩
  · refine w_aload c_259_710 rfl ?_
    refine wc_94 c_259_711 sp_0 (Nat.le_of_ble_eq_true rfl) (by omega) ?_
    refine tc_outflows hsh hS a3.1 a3.2.1 a2.1 (T := T) (by omega) a5.1 a5.2.2.1 a5.2.2.2.1 a5.2.2.2.2.2 (by omega) (fun z => absurd z hc) (fun _ => ?_)
    have b4 := a4.cl (I2 := aUp (aUp I 0 1 (iI 0)) 156 1 (iI ((I 156 1).toInt + 1))) (fun q k z => (up_ne (by omega)).trans (up_ne (by omega)))
    refine r_i ?_
    refine w_aload c_259_714 rfl ?_
    refine wc_206 c_259_715 sp_157 (Nat.le_of_ble_eq_true rfl) (by omega) ?_
    refine t_outflows hS b4.1 a2.1 (T := T) (by omega) (((up_ne (by decide)).trans (up_ne (by decide))).trans a5.2.1) a5.2.2.1 (fun j z1 z2 => ((up_ne (by omega)).trans (up_ne (by omega))).trans (a5.2.2.2.2.1 j z1 z2)) a5.2.2.2.2.2 b4.2.2.2.2.2 (by omega) (fun z => absurd z hc) (fun _ => ?_)
    refine r_i ?_
    refine w_same c_259_718 ?_
    refine kk _ L sh su (hI0.rt (j := 1) (v := 0) ⟨by decide, by decide⟩ (fun q k z => (up_ne (by omega)).trans ((up_ne (by omega)).trans ((up_ne (by omega)).trans (up_ne (by omega))))) frG.rf ?_ ?_ ?_ ?_ ?_ (by decide))
    · rw [up_ne (by decide), up_ne (by decide), up_ne (by decide), up_ne (by decide)]; exact a3.2.2.2
    · rw [up_ne (by decide), up_ne (by decide), up_ne (by decide)]; exact up_eq
    · rw [up_ne (by decide)]; exact up_eq
    · rw [up_ne (by decide), up_ne (by decide)]; exact up_eq
    · refine up_eq.trans ?_; rw [up_ne (by decide), up_ne (by decide)]

set_option maxHeartbeats 1000000 in
theorem l_on {N : Nat} {xs : Nat → Int32} {v : Int → Int} {d sh : Nat} {su : Option Nat} {I : aFI} {L : aFL} {Q : aPo} {i : Int} (hI : Inv I L sh) (hsr : ∀ k : Int, 0 ≤ k → k < 6 → ¬ (iI (i + k) < 0 ∨ N ≤ (iI (i + k)).toNatClampNeg)) (hxs : ∀ k : Int, xs (iI (i + k)).toNatClampNeg = iI (v k)) (hv : ∀ k : Int, -2147483648 ≤ v k ∧ v k < 2147483648) (hd : 100 ≤ d) (kk : ∀ (I2 : aFI) (L2 : aFL) (sh2 : Nat) (su2 : Option Nat), Inv I2 L2 sh2 → aWp (some (N, xs)) d 259 983 [.ref aSCR, .ref 0, .ref 157, .int (iI i)] [] I2 L2 (aR sh2 su2) Q) : aWp (some (N, xs)) d 259 947 [.ref aSCR, .ref 0, .ref 157, .int (iI i)] [] I L (aR sh su) Q := by
  have hI0 := hI
  obtain ⟨hsh, D, cd, X, K, kc, T, nt, nx, nw, ct, U, s, P, np, a1, a2, a3, a4, a5, a6, a7, a8⟩ := hI
  have h40 := a2.kc40
  have hS := a1.1.1
  have h999 := a2.2.1
  by_cases hc : imC D T nt
  · refine w_aload c_259_947 rfl ?_
    refine wc_106 c_259_948 sp_0 (Nat.le_of_ble_eq_true rfl) (by omega) ?_
    refine tc_on hsh hS a3.1 a5.1 a5.2.2.1 a5.2.2.2.1 a5.2.2.2.2.2 (by omega) (fun _ I1 l36 n1 n2 t0 hf => ?_) (fun z => absurd hc z)
    have b4 := a4.cl (I2 := I1) (fun q k z => hf q k (by omega))
    refine r_i ?_
    refine w_aload c_259_951 rfl ?_
    refine wc_255 c_259_952 sp_157 (Nat.le_of_ble_eq_true rfl) (by omega) ?_
    refine t_on hS b4.1 a2.1 ((hf 157 1 (by omega)).trans a5.2.1) a5.2.2.1 (fun j z1 z2 => (hf 158 _ (by omega)).trans (a5.2.2.2.2.1 j z1 z2)) a5.2.2.2.2.2 a2.2.2.1 a2.2.2.2.1 (by omega) (fun _ I2 r1 r27 r70 r1b hf2 => ?_) (fun z => absurd hc z)
    refine r_i ?_
    refine w_same c_259_955 ?_
    have hF : ∀ q k : Nat, ¬ ((q = 0 ∧ k = 1) ∨ (36 ≤ q ∧ q ≤ 38) ∨ q = 44 ∨ (q = 157 ∧ (k = 1 ∨ k = 70)) ∨ (q = 202 ∧ k < 28)) → I2 q k = I q k := fun q k z => (hf2 q k (by omega)).trans (hf q k (by omega))
    refine kk I2 L sh su ⟨hsh, D, cd, onX D T, K, 0, T, 0, 0, nw, 0, [], s, P, np, a1, stX.on hS a5.2.2.2.2.2 hc, ⟨a3.1.fr ?_, l36.fr ?_, fun a b z1 z2 => by omega, ?_⟩, ⟨⟨a4.1.1.fr ?_ ?_, r1⟩, r27, fun a b e z1 z2 => by omega, a4.2.2.2.1, fun q a j b c => ?_, ?_⟩, a5.tn ⟨by decide, by decide⟩ ?_ r1b ?_ ?_, a6.none (nw2 := 0) ?_ ?_ r70 ?_, a7.fr ?_ ?_ ?_ ⟨rfl, rfl⟩, a8.fr ?_ ?_ ?_ ?_⟩
    · intro p k z1 z2; exact hF p k (by omega)
    · intro p k z1 z2; exact hf2 p k (by omega)
    · rw [hF 42 1 (by omega)]; exact a3.2.2.2
    · intro p k z1 z2; exact hF p k (by omega)
    · exact hF 157 56 (by omega)
    · have a' := a
      unfold isWd at a'
      rw [hF q _ (by omega)]; exact a4.2.2.2.2.1 q a j b c
    · rw [hF 157 61 (by omega)]; exact a4.2.2.2.2.2
    · exact (hf2 0 1 (by omega)).trans t0
    · intro k; exact hF 1 k (by omega)
    · intro k; exact hF 158 k (by omega)
    · exact (hf2 44 1 (by omega)).trans n1
    · exact (hf2 44 2 (by omega)).trans n2
    · exact hF 157 71 (by omega)
    · intro k hk; exact ⟨hF 156 k (by omega), hF 159 k (by omega)⟩
    · exact ⟨hF _ _ (by omega), hF _ _ (by omega), hF _ _ (by omega), hF _ _ (by omega)⟩
    · exact ⟨hF _ _ (by omega), hF _ _ (by omega), hF _ _ (by omega), hF _ _ (by omega)⟩
    · exact hF _ _ (by omega)
    · exact hF _ _ (by omega)
    · intro k; exact hF 155 k (by omega)
    · intro k; exact hF 235 k (by omega)
  · refine w_aload c_259_947 rfl ?_
    refine wc_106 c_259_948 sp_0 (Nat.le_of_ble_eq_true rfl) (by omega) ?_
    refine tc_on hsh hS a3.1 a5.1 a5.2.2.1 a5.2.2.2.1 a5.2.2.2.2.2 (by omega) (fun z => absurd z hc) (fun _ => ?_)
    have b4 := a4.cl (I2 := aUp (aUp I 0 1 (iI 0)) 156 5 (iI ((I 156 5).toInt + 1))) (fun q k z => (up_ne (by omega)).trans (up_ne (by omega)))
    refine r_i ?_
    refine w_aload c_259_951 rfl ?_
    refine wc_255 c_259_952 sp_157 (Nat.le_of_ble_eq_true rfl) (by omega) ?_
    refine t_on hS b4.1 a2.1 (((up_ne (by decide)).trans (up_ne (by decide))).trans a5.2.1) a5.2.2.1 (fun j z1 z2 => ((up_ne (by omega)).trans (up_ne (by omega))).trans (a5.2.2.2.2.1 j z1 z2)) a5.2.2.2.2.2 a2.2.2.1 a2.2.2.2.1 (by omega) (fun z => absurd z hc) (fun _ => ?_)
    refine r_i ?_
    refine w_same c_259_955 ?_
    refine kk _ L sh su (hI0.rt (j := 5) (v := 0) ⟨by decide, by decide⟩ (fun q k z => (up_ne (by omega)).trans ((up_ne (by omega)).trans ((up_ne (by omega)).trans (up_ne (by omega))))) frG.rf ?_ ?_ ?_ ?_ ?_ (by decide))
    · rw [up_ne (by decide), up_ne (by decide), up_ne (by decide), up_ne (by decide)]; exact a3.2.2.2
    · rw [up_ne (by decide), up_ne (by decide), up_ne (by decide)]; exact up_eq
    · rw [up_ne (by decide)]; exact up_eq
    · rw [up_ne (by decide), up_ne (by decide)]; exact up_eq
    · refine up_eq.trans ?_; rw [up_ne (by decide), up_ne (by decide)]

