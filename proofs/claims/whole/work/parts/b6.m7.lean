/-! the law: undo, picture, tape, question (pb6.py) -/
set_option maxHeartbeats 1000000 in
theorem l_undo {N : Nat} {xs : Nat → Int32} {v : Int → Int} {d sh : Nat} {su : Option Nat} {I : aFI} {L : aFL} {Q : aPo} {i : Int} (hI : Inv I L sh) (hsr : ∀ k : Int, 0 ≤ k → k < 6 → ¬ (iI (i + k) < 0 ∨ N ≤ (iI (i + k)).toNatClampNeg)) (hxs : ∀ k : Int, xs (iI (i + k)).toNatClampNeg = iI (v k)) (hv : ∀ k : Int, -2147483648 ≤ v k ∧ v k < 2147483648) (hd : 100 ≤ d) (kk : ∀ (I2 : aFI) (L2 : aFL) (sh2 : Nat) (su2 : Option Nat), Inv I2 L2 sh2 → aWp (some (N, xs)) d 259 983 [.ref aSCR, .ref 0, .ref 157, .int (iI i)] [] I2 L2 (aR sh2 su2) Q) : aWp (some (N, xs)) d 259 861 [.ref aSCR, .ref 0, .ref 157, .int (iI i)] [] I L (aR sh su) Q := by
  have hI0 := hI
  obtain ⟨hsh, D, cd, X, K, kc, T, nt, nx, nw, ct, U, s, P, np, a1, a2, a3, a4, a5, a6, a7, a8⟩ := hI
  have h40 := a2.kc40
  have hS := a1.1.1
  have h999 := a2.2.1
  have hcr : 0 ≤ ct ∧ ct ≤ 20 := ⟨by have := a6.2.2.2.2.1; omega, a6.2.2.2.1⟩
  have hnx := a6.2.1
  have hnw := a6.2.2.1
  by_cases hc : ct = 0
  · refine w_aload c_259_861 rfl ?_
    refine wc_101 c_259_862 sp_0 (Nat.le_of_ble_eq_true rfl) (by omega) ?_
    refine tc_undo (kc0 := 0) (X0 := X) (X := X) (kc := kc) a6.1.1 a6.1.2.1 hnx hcr (fun z => absurd hc z) (by omega) (fun z => absurd hc z) (fun _ => ?_)
    refine r_i ?_
    refine w_aload c_259_865 rfl ?_
    refine wc_211 c_259_866 sp_157 (Nat.le_of_ble_eq_true rfl) (by omega) ?_
    refine t_undo (nw := nw) (ct := ct) ((up_ne (by decide)).trans a6.1.2.2.1) ((up_ne (by decide)).trans a6.1.2.2.2) hnw hcr (fun z => absurd hc z) (fun _ => ?_)
    refine r_i ?_
    refine w_same c_259_869 ?_
    refine kk _ L sh su (hI0.rt (j := 4) (v := nt) a5.2.2.1 (fun q k z => (up_ne (by omega)).trans (up_ne (by omega))) frG.rf ?_ ?_ ?_ ?_ ?_ (by decide))
    · rw [up_ne (by decide), up_ne (by decide)]; exact a3.2.2.2
    · rw [up_ne (by decide), up_ne (by decide)]; exact a5.1
    · rw [up_ne (by decide), up_ne (by decide)]; exact a5.2.1
    · rw [up_ne (by decide)]; exact up_eq
    · refine up_eq.trans ?_; rw [up_ne (by decide)]
  · rcases U with _ | ⟨⟨Y, c⟩, r⟩
    · exact absurd a6.2.2.2.2.1.symm hc
    obtain ⟨⟨hg1, hgR, hgk, hgK, hgX, hgc⟩, hgr⟩ := a6.2.2.2.2.2
    refine w_aload c_259_861 rfl ?_
    refine wc_101 c_259_862 sp_0 (Nat.le_of_ble_eq_true rfl) (by omega) ?_
    refine tc_undo (kc0 := 0) (X0 := X) (X := Y) (kc := c) a6.1.1 a6.1.2.1 hnx hcr (fun _ => hg1) (by omega) (fun _ I1 l36 n1 n2 hf => ?_) (fun z => absurd z hc)
    refine r_i ?_
    refine w_aload c_259_865 rfl ?_
    refine wc_211 c_259_866 sp_157 (Nat.le_of_ble_eq_true rfl) (by omega) ?_
    refine t_undo (nw := nw) (ct := ct) ((hf 157 71 (by omega)).trans a6.1.2.2.1) ((hf 157 70 (by omega)).trans a6.1.2.2.2) hnw hcr (fun _ I2 m1 m2 m3 hf2 => ?_) (fun z => absurd z hc)
    refine r_i ?_
    refine w_same c_259_869 ?_
    have hF : ∀ q k : Nat, ¬ SCA q k → I2 q k = I q k := fun q k z => (hf2 q k (by omega)).trans (hf q k (by omega))
    have m4 : ∀ k : Nat, k < 188 → I2 202 k = slI I nw.toNat 202 k := fun k hk => (m3 k hk).trans (hf 207 _ (by omega))
    have hc8 := hgX.kc8
    have hlr : (r.length : Int) = ct - 1 := by have := a6.2.2.2.2.1; simp only [List.length_cons] at this; omega
    refine kk I2 L sh su (Inv.act (X2 := Y) (kc2 := c) (K2 := K) (s2 := s) (U2 := r) (nx2 := (nx + 19) % 20) (nw2 := (nw + 19) % 20) (ct2 := ct - 1) hsh a1 hgX a3 a4 a5 a8 a7.1 a7.2.1 a7.2.2.1 hF (fun _ => rfl) ?_ a7.2.2.2.1 a7.2.2.2.2 (l36.fr (fun p k z1 z2 => hf2 p k (by omega))) (fun a b z1 z2 z3 z4 => ?_) (nLk.fr hgR (fun k hk => m4 k (by omega))) ((m4 27 (by decide)).trans hgk) (fun a b e z1 z2 z3 z4 z5 => ?_) ⟨⟨(hf2 44 1 (by omega)).trans n1, (hf2 44 2 (by omega)).trans n2, m1, m2⟩, by omega, by omega, by omega, hlr, hgr.fr (by omega) (fun q k z1 z2 => (hf2 q k (by omega)).trans (hf q k (by omega))) (fun k => (hf2 207 k (by omega)).trans (hf 207 k (by omega)))⟩)
    · rw [hf2 42 1 (by omega), hf 42 1 (by omega)]; exact a3.2.2.2
    · rw [hf2 _ _ (by omega), hf _ _ (by omega)]; exact a3.2.2.1 a b z1 (by omega) z3 z4
    · rw [m4 _ (by omega)]; exact hgK a b e z1 z2 z3 z4 z5

set_option maxHeartbeats 1000000 in
theorem l_image {N : Nat} {xs : Nat → Int32} {v : Int → Int} {d sh : Nat} {su : Option Nat} {I : aFI} {L : aFL} {Q : aPo} {i : Int} (hI : Inv I L sh) (hsr : ∀ k : Int, 0 ≤ k → k < 6 → ¬ (iI (i + k) < 0 ∨ N ≤ (iI (i + k)).toNatClampNeg)) (hxs : ∀ k : Int, xs (iI (i + k)).toNatClampNeg = iI (v k)) (hv : ∀ k : Int, -2147483648 ≤ v k ∧ v k < 2147483648) (hd : 100 ≤ d) (kk : ∀ (I2 : aFI) (L2 : aFL) (sh2 : Nat) (su2 : Option Nat), Inv I2 L2 sh2 → aWp (some (N, xs)) d 259 983 [.ref aSCR, .ref 0, .ref 157, .int (iI i)] [] I2 L2 (aR sh2 su2) Q) : aWp (some (N, xs)) d 259 911 [.ref aSCR, .ref 0, .ref 157, .int (iI i)] [] I L (aR sh su) Q := by
  have hI0 := hI
  obtain ⟨hsh, D, cd, X, K, kc, T, nt, nx, nw, ct, U, s, P, np, a1, a2, a3, a4, a5, a6, a7, a8⟩ := hI
  have h40 := a2.kc40
  have hS := a1.1.1
  have h999 := a2.2.1
  refine w_aload c_259_911 rfl ?_
  refine wc_104 c_259_912 sp_0 (Nat.le_of_ble_eq_true rfl) (by omega) ?_
  refine tc_image hsh hS a3.1 a3.2.1 a2.im a2.1.2.2.2.1 (by omega) (fun I1 p1 p2 hf => ?_)
  have b4 := a4.cl (I2 := I1) (fun q k z => hf q k (by omega))
  refine r_i ?_
  refine w_aload c_259_915 rfl ?_
  refine wc_250 c_259_916 sp_157 (Nat.le_of_ble_eq_true rfl) (by omega) ?_
  refine t_image hS b4.1 a2.im (by omega) (fun I2 q1 q2 hf2 => ?_)
  refine r_i ?_
  refine w_same c_259_919 ?_
  have hn := hS.n
  have hlen : ((imZ D X).length : Int) ≤ 39 := by
    have e : (imZ D X).length = (imD X (D 1 2).toNat).length + 1 := by unfold imZ; simp
    rw [e, imD_len]; omega
  have hF : ∀ q k : Nat, ¬ ((q = 0 ∧ k = 13) ∨ q = 155 ∨ (q = 157 ∧ k = 108) ∨ q = 235) → I2 q k = I q k := fun q k z => (hf2 q k (by omega)).trans (hf q k (by omega))
  refine kk I2 L sh su ⟨hsh, D, cd, X, K, kc, T, nt, nx, nw, ct, U, s, fun j => (imZ D X).getD j.toNat 0, ((imZ D X).length : Int), a1, a2, a3.fr (by omega) ?_ ?_ ?_ ?_, a4.fr ?_ ?_ ?_ ?_ ?_, a5.fr ?_ ?_ ?_ ?_, a6.fr ?_ ?_ ?_ ?_, a7.fr ?_ ?_ ?_ ⟨rfl, rfl⟩, ⟨(hf2 0 13 (by omega)).trans p1, q1, ⟨by omega, hlen⟩, fun j z1 z2 => (hf2 155 _ (by omega)).trans (p2 _ (by omega)), fun j z1 z2 => q2 _ (by omega)⟩⟩
  rotate_left 3
  · rw [hF 42 1 (by omega)]; exact a3.2.2.2
  all_goals first
    | exact hF _ _ (by omega)
    | (intro q k z1 z2; exact hF q k (by omega))
    | (intro q k z1; unfold isWd at z1; exact hF q k (by omega))
    | (intro k; exact hF _ k (by omega))
    | (intro k; exact rfl)
    | (intro k hk; exact ⟨hF _ k (by omega), hF _ k (by omega)⟩)
    | exact ⟨hF _ _ (by omega), hF _ _ (by omega), hF _ _ (by omega), hF _ _ (by omega)⟩

set_option maxHeartbeats 1000000 in
theorem l_feed {N : Nat} {xs : Nat → Int32} {v : Int → Int} {d sh : Nat} {su : Option Nat} {I : aFI} {L : aFL} {Q : aPo} {i : Int} (hI : Inv I L sh) (hsr : ∀ k : Int, 0 ≤ k → k < 6 → ¬ (iI (i + k) < 0 ∨ N ≤ (iI (i + k)).toNatClampNeg)) (hxs : ∀ k : Int, xs (iI (i + k)).toNatClampNeg = iI (v k)) (hv : ∀ k : Int, -2147483648 ≤ v k ∧ v k < 2147483648) (hd : 100 ≤ d) (kk : ∀ (I2 : aFI) (L2 : aFL) (sh2 : Nat) (su2 : Option Nat), Inv I2 L2 sh2 → aWp (some (N, xs)) d 259 983 [.ref aSCR, .ref 0, .ref 157, .int (iI i)] [] I2 L2 (aR sh2 su2) Q) : aWp (some (N, xs)) d 259 176 [.ref aSCR, .ref 0, .ref 157, .int (iI i)] [] I L (aR sh su) Q := by
  have hI0 := hI
  obtain ⟨hsh, D, cd, X, K, kc, T, nt, nx, nw, ct, U, s, P, np, a1, a2, a3, a4, a5, a6, a7, a8⟩ := hI
  have h40 := a2.kc40
  have hS := a1.1.1
  have h999 := a2.2.1
  by_cases hc : nt ≤ 1580
  · refine w_aload c_259_176 rfl ?_
    refine w_aload c_259_177 rfl ?_
    refine w_iload c_259_178 rfl ?_
    refine z_push c_259_179 ?_
    refine z_iadd c_259_180 ?_
    refine w_sald c_259_181 rfl (hsr 1 (by decide) (by decide)) (hxs 1) ?_
    refine w_aload c_259_182 rfl ?_
    refine w_iload c_259_183 rfl ?_
    refine z_push c_259_184 ?_
    refine z_iadd c_259_185 ?_
    refine w_sald c_259_186 rfl (hsr 2 (by decide) (by decide)) (hxs 2) ?_
    refine w_aload c_259_187 rfl ?_
    refine w_iload c_259_188 rfl ?_
    refine z_push c_259_189 ?_
    refine z_iadd c_259_190 ?_
    refine w_sald c_259_191 rfl (hsr 3 (by decide) (by decide)) (hxs 3) ?_
    refine w_aload c_259_192 rfl ?_
    refine w_iload c_259_193 rfl ?_
    refine z_push c_259_194 ?_
    refine z_iadd c_259_195 ?_
    refine w_sald c_259_196 rfl (hsr 4 (by decide) (by decide)) (hxs 4) ?_
    refine w_aload c_259_197 rfl ?_
    refine w_iload c_259_198 rfl ?_
    refine z_push c_259_199 ?_
    refine z_iadd c_259_200 ?_
    refine w_sald c_259_201 rfl (hsr 5 (by decide) (by decide)) (hxs 5) ?_
    refine wc_76 c_259_202 sp_0 (Nat.le_of_ble_eq_true rfl) (by omega) ?_
    refine tc_feed (nt := nt) a5.1 a5.2.2.1 (by omega) (fun _ I1 t0 tr hf => ?_) (fun z => absurd hc z)
    refine r_i ?_
    refine w_aload c_259_205 rfl ?_
    refine w_aload c_259_206 rfl ?_
    refine w_iload c_259_207 rfl ?_
    refine z_push c_259_208 ?_
    refine z_iadd c_259_209 ?_
    refine w_sald c_259_210 rfl (hsr 1 (by decide) (by decide)) (hxs 1) ?_
    refine w_aload c_259_211 rfl ?_
    refine w_iload c_259_212 rfl ?_
    refine z_push c_259_213 ?_
    refine z_iadd c_259_214 ?_
    refine w_sald c_259_215 rfl (hsr 2 (by decide) (by decide)) (hxs 2) ?_
    refine w_aload c_259_216 rfl ?_
    refine w_iload c_259_217 rfl ?_
    refine z_push c_259_218 ?_
    refine z_iadd c_259_219 ?_
    refine w_sald c_259_220 rfl (hsr 3 (by decide) (by decide)) (hxs 3) ?_
    refine w_aload c_259_221 rfl ?_
    refine w_iload c_259_222 rfl ?_
    refine z_push c_259_223 ?_
    refine z_iadd c_259_224 ?_
    refine w_sald c_259_225 rfl (hsr 4 (by decide) (by decide)) (hxs 4) ?_
    refine w_aload c_259_226 rfl ?_
    refine w_iload c_259_227 rfl ?_
    refine z_push c_259_228 ?_
    refine z_iadd c_259_229 ?_
    refine w_sald c_259_230 rfl (hsr 5 (by decide) (by decide)) (hxs 5) ?_
    refine wc_131 c_259_231 sp_157 (Nat.le_of_ble_eq_true rfl) (by omega) ?_
    refine t_feed (nt := nt) ((hf 157 1 (by omega)).trans a5.2.1) a5.2.2.1 (fun _ I2 u0 ur hf2 => ?_) (fun z => absurd hc z)
    refine r_i ?_
    refine w_same c_259_234 ?_
    have hn0 := a5.2.2.1
    have hF : ∀ q k : Nat, ¬ ((q = 0 ∧ k = 1) ∨ q = 1 ∨ (q = 157 ∧ k = 1) ∨ q = 158) → I2 q k = I q k := fun q k z => (hf2 q k (by omega)).trans (hf q k (by omega))
    refine kk I2 L sh su ⟨hsh, D, cd, X, K, kc, fun j => if nt ≤ j ∧ j < nt + 20 then byF (v 1) (v 2) (v 3) (v 4) (v 5) (j - nt) else T j, nt + 20, nx, nw, ct, U, s, P, np, a1, a2, a3.fr (by omega) ?_ ?_ ?_ ?_, a4.fr ?_ ?_ ?_ ?_ ?_, ⟨(hf2 0 1 (by omega)).trans t0, u0, ⟨by omega, by omega⟩, fun j z1 z2 => ?_, fun j z1 z2 => ?_, fun j => ?_⟩, a6.fr ?_ ?_ ?_ ?_, a7.fr ?_ ?_ ?_ ⟨rfl, rfl⟩, a8.fr ?_ ?_ ?_ ?_⟩
    rotate_left 3
    · rw [hF 42 1 (by omega)]; exact a3.2.2.2
    rotate_left 5
    · show _ = iI (if nt ≤ j ∧ j < nt + 20 then byF (v 1) (v 2) (v 3) (v 4) (v 5) (j - nt) else T j)
      rw [hf2 1 _ (by omega)]
      by_cases hj : nt ≤ j ∧ j < nt + 20
      · rw [if_pos hj]
        have h1 := tr (j - nt) (by omega) (by omega)
        rw [show nt + (j - nt) = j by omega] at h1
        exact h1
      · rw [if_neg hj, hf 1 _ (by omega)]; exact a5.2.2.2.1 j z1 z2
    · show _ = iI (if nt ≤ j ∧ j < nt + 20 then byF (v 1) (v 2) (v 3) (v 4) (v 5) (j - nt) else T j)
      by_cases hj : nt ≤ j ∧ j < nt + 20
      · rw [if_pos hj]
        have h1 := ur (j - nt) (by omega) (by omega)
        rw [show nt + (j - nt) = j by omega] at h1
        exact h1
      · rw [if_neg hj, hf2 158 _ (by omega), hf 158 _ (by omega)]; exact a5.2.2.2.2.1 j z1 z2
    · show 0 ≤ (if nt ≤ j ∧ j < nt + 20 then byF (v 1) (v 2) (v 3) (v 4) (v 5) (j - nt) else T j) ∧ (if nt ≤ j ∧ j < nt + 20 then byF (v 1) (v 2) (v 3) (v 4) (v 5) (j - nt) else T j) ≤ 255
      split
      · exact byZ_rg
      · exact a5.2.2.2.2.2 j
    all_goals first
      | exact hF _ _ (by omega)
      | (intro q k z1 z2; exact hF q k (by omega))
      | (intro q k z1; unfold isWd at z1; exact hF q k (by omega))
      | (intro k; exact hF _ k (by omega))
      | (intro k; exact rfl)
      | (intro k hk; exact ⟨hF _ k (by omega), hF _ k (by omega)⟩)
      | exact ⟨hF _ _ (by omega), hF _ _ (by omega), hF _ _ (by omega), hF _ _ (by omega)⟩
  · refine w_aload c_259_176 rfl ?_
    refine w_aload c_259_177 rfl ?_
    refine w_iload c_259_178 rfl ?_
    refine z_push c_259_179 ?_
    refine z_iadd c_259_180 ?_
    refine w_sald c_259_181 rfl (hsr 1 (by decide) (by decide)) (hxs 1) ?_
    refine w_aload c_259_182 rfl ?_
    refine w_iload c_259_183 rfl ?_
    refine z_push c_259_184 ?_
    refine z_iadd c_259_185 ?_
    refine w_sald c_259_186 rfl (hsr 2 (by decide) (by decide)) (hxs 2) ?_
    refine w_aload c_259_187 rfl ?_
    refine w_iload c_259_188 rfl ?_
    refine z_push c_259_189 ?_
    refine z_iadd c_259_190 ?_
    refine w_sald c_259_191 rfl (hsr 3 (by decide) (by decide)) (hxs 3) ?_
    refine w_aload c_259_192 rfl ?_
    refine w_iload c_259_193 rfl ?_
    refine z_push c_259_194 ?_
    refine z_iadd c_259_195 ?_
    refine w_sald c_259_196 rfl (hsr 4 (by decide) (by decide)) (hxs 4) ?_
    refine w_aload c_259_197 rfl ?_
    refine w_iload c_259_198 rfl ?_
    refine z_push c_259_199 ?_
    refine z_iadd c_259_200 ?_
    refine w_sald c_259_201 rfl (hsr 5 (by decide) (by decide)) (hxs 5) ?_
    refine wc_76 c_259_202 sp_0 (Nat.le_of_ble_eq_true rfl) (by omega) ?_
    refine tc_feed (nt := nt) a5.1 a5.2.2.1 (by omega) (fun z => absurd z hc) (fun _ => ?_)
    refine r_i ?_
    refine w_aload c_259_205 rfl ?_
    refine w_aload c_259_206 rfl ?_
    refine w_iload c_259_207 rfl ?_
    refine z_push c_259_208 ?_
    refine z_iadd c_259_209 ?_
    refine w_sald c_259_210 rfl (hsr 1 (by decide) (by decide)) (hxs 1) ?_
    refine w_aload c_259_211 rfl ?_
    refine w_iload c_259_212 rfl ?_
    refine z_push c_259_213 ?_
    refine z_iadd c_259_214 ?_
    refine w_sald c_259_215 rfl (hsr 2 (by decide) (by decide)) (hxs 2) ?_
    refine w_aload c_259_216 rfl ?_
    refine w_iload c_259_217 rfl ?_
    refine z_push c_259_218 ?_
    refine z_iadd c_259_219 ?_
    refine w_sald c_259_220 rfl (hsr 3 (by decide) (by decide)) (hxs 3) ?_
    refine w_aload c_259_221 rfl ?_
    refine w_iload c_259_222 rfl ?_
    refine z_push c_259_223 ?_
    refine z_iadd c_259_224 ?_
    refine w_sald c_259_225 rfl (hsr 4 (by decide) (by decide)) (hxs 4) ?_
    refine w_aload c_259_226 rfl ?_
    refine w_iload c_259_227 rfl ?_
    refine z_push c_259_228 ?_
    refine z_iadd c_259_229 ?_
    refine w_sald c_259_230 rfl (hsr 5 (by decide) (by decide)) (hxs 5) ?_
    refine wc_131 c_259_231 sp_157 (Nat.le_of_ble_eq_true rfl) (by omega) ?_
    refine t_feed (nt := nt) ((up_ne (by decide)).trans a5.2.1) a5.2.2.1 (fun z => absurd z hc) (fun _ => ?_)
    refine r_i ?_
    refine w_same c_259_234 ?_
    refine kk _ L sh su (hI0.rt (j := 0) (v := nt) a5.2.2.1 (fun q k z => (up_ne (by omega)).trans (up_ne (by omega))) frG.rf ?_ ?_ ?_ ?_ ?_ (by decide))
    · rw [up_ne (by decide), up_ne (by decide)]; exact a3.2.2.2
    · rw [up_ne (by decide), up_ne (by decide)]; exact a5.1
    · rw [up_ne (by decide), up_ne (by decide)]; exact a5.2.1
    · rw [up_ne (by decide)]; exact up_eq
    · refine up_eq.trans ?_; rw [up_ne (by decide)]

set_option maxHeartbeats 1000000 in
theorem l_ask {N : Nat} {xs : Nat → Int32} {v : Int → Int} {d sh : Nat} {su : Option Nat} {I : aFI} {L : aFL} {Q : aPo} {i : Int} (hI : Inv I L sh) (hsr : ∀ k : Int, 0 ≤ k → k < 6 → ¬ (iI (i + k) < 0 ∨ N ≤ (iI (i + k)).toNatClampNeg)) (hxs : ∀ k : Int, xs (iI (i + k)).toNatClampNeg = iI (v k)) (hv : ∀ k : Int, -2147483648 ≤ v k ∧ v k < 2147483648) (hd : 100 ≤ d) (kk : ∀ (I2 : aFI) (L2 : aFL) (sh2 : Nat) (su2 : Option Nat), Inv I2 L2 sh2 → aWp (some (N, xs)) d 259 983 [.ref aSCR, .ref 0, .ref 157, .int (iI i)] [] I2 L2 (aR sh2 su2) Q) : aWp (some (N, xs)) d 259 897 [.ref aSCR, .ref 0, .ref 157, .int (iI i)] [] I L (aR sh su) Q := by
  have hI0 := hI
  obtain ⟨hsh, D, cd, X, K, kc, T, nt, nx, nw, ct, U, s, P, np, a1, a2, a3, a4, a5, a6, a7, a8⟩ := hI
  have h40 := a2.kc40
  have hS := a1.1.1
  have h999 := a2.2.1
  have hTr : ∀ j : Int, 0 ≤ T j ∧ T j < 256 := fun j => by have := a5.2.2.2.2.2 j; omega
  obtain ⟨E, hE, hEj, hEn⟩ := tkE_ex (T := T) (n := nt) a5.2.2.1.1 hTr
  by_cases hto : D 0 0 = 1
  · by_cases hz : (quC T nt).1 = 0
    · refine w_aload c_259_897 rfl ?_
      refine wc_103 c_259_898 sp_0 (Nat.le_of_ble_eq_true rfl) (by omega) ?_
      refine tc_ask (T := T) (E := E) (D := D) (cd := cd) (X := X) (kc := kc) hsh a5.1 a5.2.2.1 a5.2.2.2.1 hTr hE hEn a3.1.1.1 (fun _ => ⟨hS, a3.1, a3.2.1, a2.1, a3.2.2.2⟩) (by omega) (fun z => absurd hto z) (fun _ z => absurd hz z) (fun _ _ I1 t7 t8 t0 hf h42 => ?_)
      have b4 := a4.cl (I2 := I1) (fun q k z => hf q k (by omega))
      refine r_l ?_
      refine w_aload c_259_901 rfl ?_
      refine wc_246 c_259_902 sp_157 (Nat.le_of_ble_eq_true rfl) (by omega) ?_
      refine t_ask (T := T) (E := E) (D := D) (cd := cd) (X := X) ((hf 157 1 (by omega)).trans a5.2.1) a5.2.2.1 (fun j z1 z2 => (hf 158 _ (by omega)).trans (a5.2.2.2.2.1 j z1 z2)) hTr hE hEn hEj b4.2.2.2.2.1 b4.1.1.1.2.2.2.1 (fun _ => ⟨hS, b4.1, a2.1⟩) (by omega) (fun z => absurd hto z) (fun _ z => absurd hz z) (fun _ _ I2 L2 u7 u8 u0 hf2 hg2 => ?_)
      refine r_l ?_
      refine w_lsame c_259_905 c_259_906 ?_
      refine kk I2 L2 sh _ (hI0.gen (v := 0) ⟨by decide, by decide⟩ (fun q k z => (hf2 q k (by omega)).trans (hf q k (by omega))) (fun q k z => hg2 q k (by omega)) ?_ ((hf2 0 1 (by omega)).trans t0) u0 ?_ ?_)
      · rw [hf2 42 1 (by omega)]; exact h42
      · rw [u7, u8, hf2 2 7 (by omega), hf2 2 8 (by omega), t7, t8]; exact ⟨rfl, rfl⟩
      · rw [hf2 157 67 (by omega), hf2 157 68 (by omega), hf2 0 14 (by omega), hf2 0 15 (by omega), hf 157 67 (by omega), hf 157 68 (by omega), hf 0 14 (by omega), hf 0 15 (by omega)]; exact a7.2.2.1
    · refine w_aload c_259_897 rfl ?_
      refine wc_103 c_259_898 sp_0 (Nat.le_of_ble_eq_true rfl) (by omega) ?_
      refine tc_ask (T := T) (E := E) (D := D) (cd := cd) (X := X) (kc := kc) hsh a5.1 a5.2.2.1 a5.2.2.2.1 hTr hE hEn a3.1.1.1 (fun _ => ⟨hS, a3.1, a3.2.1, a2.1, a3.2.2.2⟩) (by omega) (fun z => absurd hto z) (fun _ _ I1 t7 t8 t0 hf h42 => ?_) (fun _ z => absurd z hz)
      have b4 := a4.cl (I2 := I1) (fun q k z => hf q k (by omega))
      refine r_l ?_
      refine w_aload c_259_901 rfl ?_
      refine wc_246 c_259_902 sp_157 (Nat.le_of_ble_eq_true rfl) (by omega) ?_
      refine t_ask (T := T) (E := E) (D := D) (cd := cd) (X := X) ((hf 157 1 (by omega)).trans a5.2.1) a5.2.2.1 (fun j z1 z2 => (hf 158 _ (by omega)).trans (a5.2.2.2.2.1 j z1 z2)) hTr hE hEn hEj b4.2.2.2.2.1 b4.1.1.1.2.2.2.1 (fun _ => ⟨hS, b4.1, a2.1⟩) (by omega) (fun z => absurd hto z) (fun _ _ I2 u7 u8 u0 hf2 => ?_) (fun _ z => absurd z hz)
      refine r_l ?_
      refine w_lsame c_259_905 c_259_906 ?_
      have hg2 : frG SCL L L := frG.rf
      refine kk I2 L sh _ (hI0.gen (v := 0) ⟨by decide, by decide⟩ (fun q k z => (hf2 q k (by omega)).trans (hf q k (by omega))) hg2 ?_ ((hf2 0 1 (by omega)).trans t0) u0 ?_ ?_)
      · rw [hf2 42 1 (by omega)]; exact h42
      · rw [u7, u8, hf2 2 7 (by omega), hf2 2 8 (by omega), t7, t8]; exact ⟨rfl, rfl⟩
      · rw [hf2 157 67 (by omega), hf2 157 68 (by omega), hf2 0 14 (by omega), hf2 0 15 (by omega), hf 157 67 (by omega), hf 157 68 (by omega), hf 0 14 (by omega), hf 0 15 (by omega)]; exact a7.2.2.1
  · refine w_aload c_259_897 rfl ?_
    refine wc_103 c_259_898 sp_0 (Nat.le_of_ble_eq_true rfl) (by omega) ?_
    refine tc_ask (T := T) (E := E) (D := D) (cd := cd) (X := X) (kc := kc) hsh a5.1 a5.2.2.1 a5.2.2.2.1 hTr hE hEn a3.1.1.1 (fun _ => ⟨hS, a3.1, a3.2.1, a2.1, a3.2.2.2⟩) (by omega) (fun _ => ?_) (fun z => absurd z hto) (fun z => absurd z hto)
    have b4 := a4.cl (I2 := aUp I 0 1 (iI 0)) (fun q k z => up_ne (by omega))
    refine r_l ?_
    refine w_aload c_259_901 rfl ?_
    refine wc_246 c_259_902 sp_157 (Nat.le_of_ble_eq_true rfl) (by omega) ?_
    refine t_ask (T := T) (E := E) (D := D) (cd := cd) (X := X) ((up_ne (by decide)).trans a5.2.1) a5.2.2.1 (fun j z1 z2 => (up_ne (by omega)).trans (a5.2.2.2.2.1 j z1 z2)) hTr hE hEn hEj b4.2.2.2.2.1 b4.1.1.1.2.2.2.1 (fun _ => ⟨hS, b4.1, a2.1⟩) (by omega) (fun _ => ?_) (fun z => absurd z hto) (fun z => absurd z hto)
    refine r_l ?_
    refine w_lsame c_259_905 c_259_906 ?_
    refine kk _ L sh su (hI0.gen (v := 0) ⟨by decide, by decide⟩ (fun q k z => (up_ne (by omega)).trans (up_ne (by omega))) frG.rf ?_ ?_ up_eq ?_ ?_)
    · rw [up_ne (by decide), up_ne (by decide)]; exact a3.2.2.2
    · rw [up_ne (by decide)]; exact up_eq
    · rw [up_ne (by decide), up_ne (by decide), up_ne (by decide), up_ne (by decide), up_ne (by decide), up_ne (by decide), up_ne (by decide), up_ne (by decide)]; exact a7.2.1
    · rw [up_ne (by decide), up_ne (by decide), up_ne (by decide), up_ne (by decide), up_ne (by decide), up_ne (by decide), up_ne (by decide), up_ne (by decide)]; exact a7.2.2.1


