/-! the law: questions that change nothing (pb1.py) -/
abbrev SC4 : Nat → Nat → Prop := fun q k => SCR q k ∨ (q = 42 ∧ k = 1)
theorem invR.sc {I I2 : aFI} {L L2 : aFL} {D : Nat → Int → Int} {cd : Nat → Option (List Int)} {X : Lk} {K : Int → Int → Int} {kc : Int} (h : invR I L D cd X K kc) (hF : frG SC4 I I2) (hG : frG SCL L L2) : invR I2 L2 D cd X K kc :=
  h.fr (fun q k z1 z2 => hF q k (by omega)) (fun q k z1 => by unfold isWd at z1; exact hF q k (by omega)) (hF _ _ (by omega)) (hF _ _ (by omega)) (fun k => hG _ k (by omega))
theorem staZ_same {f g : Nat → Int32} {v : Int} (h : ∀ k : Nat, k < 6 → g k = f k) : staZ g v = staZ f v := by
  unfold staZ
  split
  · rw [h _ (by omega)]
  · rfl
set_option maxHeartbeats 1000000 in
theorem l_has {N : Nat} {xs : Nat → Int32} {v : Int → Int} {d sh : Nat} {su : Option Nat} {I : aFI} {L : aFL} {Q : aPo} {i : Int} (hI : Inv I L sh) (hsr : ∀ k : Int, 0 ≤ k → k < 6 → ¬ (iI (i + k) < 0 ∨ N ≤ (iI (i + k)).toNatClampNeg)) (hxs : ∀ k : Int, xs (iI (i + k)).toNatClampNeg = iI (v k)) (hv : ∀ k : Int, -2147483648 ≤ v k ∧ v k < 2147483648) (hd : 100 ≤ d) (kk : ∀ (I2 : aFI) (L2 : aFL) (sh2 : Nat) (su2 : Option Nat), Inv I2 L2 sh2 → aWp (some (N, xs)) d 259 983 [.ref aSCR, .ref 0, .ref 157, .int (iI i)] [] I2 L2 (aR sh2 su2) Q) : aWp (some (N, xs)) d 259 298 [.ref aSCR, .ref 0, .ref 157, .int (iI i)] [] I L (aR sh su) Q := by
  have hI0 := hI
  obtain ⟨hsh, D, cd, X, K, kc, T, nt, nx, nw, ct, U, s, P, np, a1, a2, a3, a4, a5, a6, a7, a8⟩ := hI
  have h40 := a2.kc40
  have hS := a1.1.1
  have h999 := a2.2.1
  refine w_aload c_259_298 rfl ?_
  refine w_aload c_259_299 rfl ?_
  refine w_iload c_259_300 rfl ?_
  refine z_push c_259_301 ?_
  refine z_iadd c_259_302 ?_
  refine w_sald c_259_303 rfl (hsr 1 (by decide) (by decide)) (hxs 1) ?_
  refine wc_80 c_259_304 sp_0 (Nat.le_of_ble_eq_true rfl) (by omega) ?_
  refine tc_has hsh hS a3.1 a3.2.1 a2.1 (hv 1) a6.1.2.1 (by omega) ?_
  refine r_i ?_
  refine w_aload c_259_307 rfl ?_
  refine w_aload c_259_308 rfl ?_
  refine w_iload c_259_309 rfl ?_
  refine z_push c_259_310 ?_
  refine z_iadd c_259_311 ?_
  refine w_sald c_259_312 rfl (hsr 1 (by decide) (by decide)) (hxs 1) ?_
  refine wc_185 c_259_313 sp_157 (Nat.le_of_ble_eq_true rfl) (by omega) ?_
  refine t_has hS a4.1 a2.1 (hv 1) a2.2.2.1 a4.2.1 a6.1.2.2.2 (by omega) ?_
  refine r_i ?_
  refine w_same c_259_316 ?_
  exact kk I L sh su hI0

set_option maxHeartbeats 1000000 in
theorem l_brook {N : Nat} {xs : Nat → Int32} {v : Int → Int} {d sh : Nat} {su : Option Nat} {I : aFI} {L : aFL} {Q : aPo} {i : Int} (hI : Inv I L sh) (hsr : ∀ k : Int, 0 ≤ k → k < 6 → ¬ (iI (i + k) < 0 ∨ N ≤ (iI (i + k)).toNatClampNeg)) (hxs : ∀ k : Int, xs (iI (i + k)).toNatClampNeg = iI (v k)) (hv : ∀ k : Int, -2147483648 ≤ v k ∧ v k < 2147483648) (hd : 100 ≤ d) (kk : ∀ (I2 : aFI) (L2 : aFL) (sh2 : Nat) (su2 : Option Nat), Inv I2 L2 sh2 → aWp (some (N, xs)) d 259 983 [.ref aSCR, .ref 0, .ref 157, .int (iI i)] [] I2 L2 (aR sh2 su2) Q) : aWp (some (N, xs)) d 259 364 [.ref aSCR, .ref 0, .ref 157, .int (iI i)] [] I L (aR sh su) Q := by
  have hI0 := hI
  obtain ⟨hsh, D, cd, X, K, kc, T, nt, nx, nw, ct, U, s, P, np, a1, a2, a3, a4, a5, a6, a7, a8⟩ := hI
  have h40 := a2.kc40
  have hS := a1.1.1
  have h999 := a2.2.1
  refine w_aload c_259_364 rfl ?_
  refine w_aload c_259_365 rfl ?_
  refine w_iload c_259_366 rfl ?_
  refine z_push c_259_367 ?_
  refine z_iadd c_259_368 ?_
  refine w_sald c_259_369 rfl (hsr 1 (by decide) (by decide)) (hxs 1) ?_
  refine w_aload c_259_370 rfl ?_
  refine w_iload c_259_371 rfl ?_
  refine z_push c_259_372 ?_
  refine z_iadd c_259_373 ?_
  refine w_sald c_259_374 rfl (hsr 2 (by decide) (by decide)) (hxs 2) ?_
  refine wc_82 c_259_375 sp_0 (Nat.le_of_ble_eq_true rfl) (by omega) ?_
  refine tc_brook hsh hS a3.1 (hv 1) (hv 2) ?_
  refine r_i ?_
  refine w_aload c_259_378 rfl ?_
  refine w_aload c_259_379 rfl ?_
  refine w_iload c_259_380 rfl ?_
  refine z_push c_259_381 ?_
  refine z_iadd c_259_382 ?_
  refine w_sald c_259_383 rfl (hsr 1 (by decide) (by decide)) (hxs 1) ?_
  refine w_aload c_259_384 rfl ?_
  refine w_iload c_259_385 rfl ?_
  refine z_push c_259_386 ?_
  refine z_iadd c_259_387 ?_
  refine w_sald c_259_388 rfl (hsr 2 (by decide) (by decide)) (hxs 2) ?_
  refine wc_189 c_259_389 sp_157 (Nat.le_of_ble_eq_true rfl) (by omega) ?_
  refine t_brook hS a4.1.1.1 (hv 1) (hv 2) (by omega) ?_
  refine r_i ?_
  refine w_same c_259_392 ?_
  exact kk I L sh su hI0

set_option maxHeartbeats 1000000 in
theorem l_miles {N : Nat} {xs : Nat → Int32} {v : Int → Int} {d sh : Nat} {su : Option Nat} {I : aFI} {L : aFL} {Q : aPo} {i : Int} (hI : Inv I L sh) (hsr : ∀ k : Int, 0 ≤ k → k < 6 → ¬ (iI (i + k) < 0 ∨ N ≤ (iI (i + k)).toNatClampNeg)) (hxs : ∀ k : Int, xs (iI (i + k)).toNatClampNeg = iI (v k)) (hv : ∀ k : Int, -2147483648 ≤ v k ∧ v k < 2147483648) (hd : 100 ≤ d) (kk : ∀ (I2 : aFI) (L2 : aFL) (sh2 : Nat) (su2 : Option Nat), Inv I2 L2 sh2 → aWp (some (N, xs)) d 259 983 [.ref aSCR, .ref 0, .ref 157, .int (iI i)] [] I2 L2 (aR sh2 su2) Q) : aWp (some (N, xs)) d 259 430 [.ref aSCR, .ref 0, .ref 157, .int (iI i)] [] I L (aR sh su) Q := by
  have hI0 := hI
  obtain ⟨hsh, D, cd, X, K, kc, T, nt, nx, nw, ct, U, s, P, np, a1, a2, a3, a4, a5, a6, a7, a8⟩ := hI
  have h40 := a2.kc40
  have hS := a1.1.1
  have h999 := a2.2.1
  refine w_aload c_259_430 rfl ?_
  refine w_aload c_259_431 rfl ?_
  refine w_iload c_259_432 rfl ?_
  refine z_push c_259_433 ?_
  refine z_iadd c_259_434 ?_
  refine w_sald c_259_435 rfl (hsr 1 (by decide) (by decide)) (hxs 1) ?_
  refine wc_84 c_259_436 sp_0 (Nat.le_of_ble_eq_true rfl) (by omega) ?_
  refine tc_miles hsh hS a3.1 (hv 1) ?_
  refine r_i ?_
  refine w_aload c_259_439 rfl ?_
  refine w_aload c_259_440 rfl ?_
  refine w_iload c_259_441 rfl ?_
  refine z_push c_259_442 ?_
  refine z_iadd c_259_443 ?_
  refine w_sald c_259_444 rfl (hsr 1 (by decide) (by decide)) (hxs 1) ?_
  refine wc_191 c_259_445 sp_157 (Nat.le_of_ble_eq_true rfl) (by omega) ?_
  refine t_miles hS a4.1.1.1 (hv 1) (by omega) ?_
  refine r_i ?_
  refine w_same c_259_448 ?_
  exact kk I L sh su hI0

set_option maxHeartbeats 1000000 in
theorem l_kept {N : Nat} {xs : Nat → Int32} {v : Int → Int} {d sh : Nat} {su : Option Nat} {I : aFI} {L : aFL} {Q : aPo} {i : Int} (hI : Inv I L sh) (hsr : ∀ k : Int, 0 ≤ k → k < 6 → ¬ (iI (i + k) < 0 ∨ N ≤ (iI (i + k)).toNatClampNeg)) (hxs : ∀ k : Int, xs (iI (i + k)).toNatClampNeg = iI (v k)) (hv : ∀ k : Int, -2147483648 ≤ v k ∧ v k < 2147483648) (hd : 100 ≤ d) (kk : ∀ (I2 : aFI) (L2 : aFL) (sh2 : Nat) (su2 : Option Nat), Inv I2 L2 sh2 → aWp (some (N, xs)) d 259 983 [.ref aSCR, .ref 0, .ref 157, .int (iI i)] [] I2 L2 (aR sh2 su2) Q) : aWp (some (N, xs)) d 259 453 [.ref aSCR, .ref 0, .ref 157, .int (iI i)] [] I L (aR sh su) Q := by
  have hI0 := hI
  obtain ⟨hsh, D, cd, X, K, kc, T, nt, nx, nw, ct, U, s, P, np, a1, a2, a3, a4, a5, a6, a7, a8⟩ := hI
  have h40 := a2.kc40
  have hS := a1.1.1
  have h999 := a2.2.1
  refine w_aload c_259_453 rfl ?_
  refine w_aload c_259_454 rfl ?_
  refine w_iload c_259_455 rfl ?_
  refine z_push c_259_456 ?_
  refine z_iadd c_259_457 ?_
  refine w_sald c_259_458 rfl (hsr 1 (by decide) (by decide)) (hxs 1) ?_
  refine w_aload c_259_459 rfl ?_
  refine w_iload c_259_460 rfl ?_
  refine z_push c_259_461 ?_
  refine z_iadd c_259_462 ?_
  refine w_sald c_259_463 rfl (hsr 2 (by decide) (by decide)) (hxs 2) ?_
  refine wc_85 c_259_464 sp_0 (Nat.le_of_ble_eq_true rfl) (by omega) ?_
  refine tc_kept a3.2.1 (hv 1) (hv 2) (by omega) a3.2.2.1 ?_
  refine r_i ?_
  refine w_aload c_259_467 rfl ?_
  refine w_aload c_259_468 rfl ?_
  refine w_iload c_259_469 rfl ?_
  refine z_push c_259_470 ?_
  refine z_iadd c_259_471 ?_
  refine w_sald c_259_472 rfl (hsr 1 (by decide) (by decide)) (hxs 1) ?_
  refine w_aload c_259_473 rfl ?_
  refine w_iload c_259_474 rfl ?_
  refine z_push c_259_475 ?_
  refine z_iadd c_259_476 ?_
  refine w_sald c_259_477 rfl (hsr 2 (by decide) (by decide)) (hxs 2) ?_
  refine wc_192 c_259_478 sp_157 (Nat.le_of_ble_eq_true rfl) (by omega) ?_
  refine t_kept (K := K) (hv 1) (hv 2) a4.2.1 (by omega) (fun a b e z1 z2 z3 z4 z5 => a4.2.2.1 a b e z1 z2 z3 z4 (by omega)) (by omega) ?_
  refine r_i ?_
  refine w_same c_259_481 ?_
  exact kk I L sh su hI0

set_option maxHeartbeats 1000000 in
theorem l_missed {N : Nat} {xs : Nat → Int32} {v : Int → Int} {d sh : Nat} {su : Option Nat} {I : aFI} {L : aFL} {Q : aPo} {i : Int} (hI : Inv I L sh) (hsr : ∀ k : Int, 0 ≤ k → k < 6 → ¬ (iI (i + k) < 0 ∨ N ≤ (iI (i + k)).toNatClampNeg)) (hxs : ∀ k : Int, xs (iI (i + k)).toNatClampNeg = iI (v k)) (hv : ∀ k : Int, -2147483648 ≤ v k ∧ v k < 2147483648) (hd : 100 ≤ d) (kk : ∀ (I2 : aFI) (L2 : aFL) (sh2 : Nat) (su2 : Option Nat), Inv I2 L2 sh2 → aWp (some (N, xs)) d 259 983 [.ref aSCR, .ref 0, .ref 157, .int (iI i)] [] I2 L2 (aR sh2 su2) Q) : aWp (some (N, xs)) d 259 598 [.ref aSCR, .ref 0, .ref 157, .int (iI i)] [] I L (aR sh su) Q := by
  have hI0 := hI
  obtain ⟨hsh, D, cd, X, K, kc, T, nt, nx, nw, ct, U, s, P, np, a1, a2, a3, a4, a5, a6, a7, a8⟩ := hI
  have h40 := a2.kc40
  have hS := a1.1.1
  have h999 := a2.2.1
  refine w_aload c_259_598 rfl ?_
  refine wc_90 c_259_599 sp_0 (Nat.le_of_ble_eq_true rfl) (by omega) ?_
  refine tc_missed hsh hS a3.1 a3.2.1 a2.1 (by omega) ?_
  refine r_i ?_
  refine w_aload c_259_602 rfl ?_
  refine wc_198 c_259_603 sp_157 (Nat.le_of_ble_eq_true rfl) (by omega) ?_
  refine t_missed hS a4.1 a2.1 (by omega) ?_
  refine r_i ?_
  refine w_same c_259_606 ?_
  exact kk I L sh su hI0

set_option maxHeartbeats 1000000 in
theorem l_outflow {N : Nat} {xs : Nat → Int32} {v : Int → Int} {d sh : Nat} {su : Option Nat} {I : aFI} {L : aFL} {Q : aPo} {i : Int} (hI : Inv I L sh) (hsr : ∀ k : Int, 0 ≤ k → k < 6 → ¬ (iI (i + k) < 0 ∨ N ≤ (iI (i + k)).toNatClampNeg)) (hxs : ∀ k : Int, xs (iI (i + k)).toNatClampNeg = iI (v k)) (hv : ∀ k : Int, -2147483648 ≤ v k ∧ v k < 2147483648) (hd : 100 ≤ d) (kk : ∀ (I2 : aFI) (L2 : aFL) (sh2 : Nat) (su2 : Option Nat), Inv I2 L2 sh2 → aWp (some (N, xs)) d 259 983 [.ref aSCR, .ref 0, .ref 157, .int (iI i)] [] I2 L2 (aR sh2 su2) Q) : aWp (some (N, xs)) d 259 723 [.ref aSCR, .ref 0, .ref 157, .int (iI i)] [] I L (aR sh su) Q := by
  have hI0 := hI
  obtain ⟨hsh, D, cd, X, K, kc, T, nt, nx, nw, ct, U, s, P, np, a1, a2, a3, a4, a5, a6, a7, a8⟩ := hI
  have h40 := a2.kc40
  have hS := a1.1.1
  have h999 := a2.2.1
  refine w_aload c_259_723 rfl ?_
  refine w_aload c_259_724 rfl ?_
  refine w_iload c_259_725 rfl ?_
  refine z_push c_259_726 ?_
  refine z_iadd c_259_727 ?_
  refine w_sald c_259_728 rfl (hsr 1 (by decide) (by decide)) (hxs 1) ?_
  refine wc_95 c_259_729 sp_0 (Nat.le_of_ble_eq_true rfl) (by omega) ?_
  refine tc_outflow (hv 1) ?_
  refine r_i ?_
  refine w_aload c_259_732 rfl ?_
  refine w_aload c_259_733 rfl ?_
  refine w_iload c_259_734 rfl ?_
  refine z_push c_259_735 ?_
  refine z_iadd c_259_736 ?_
  refine w_sald c_259_737 rfl (hsr 1 (by decide) (by decide)) (hxs 1) ?_
  refine wc_207 c_259_738 sp_157 (Nat.le_of_ble_eq_true rfl) (by omega) ?_
  refine t_outflow (hv 1) ?_
  rw [a7.2.2.1.1, a7.2.2.1.2]
  refine r_i ?_
  refine w_same c_259_741 ?_
  exact kk I L sh su hI0

set_option maxHeartbeats 1000000 in
theorem l_status {N : Nat} {xs : Nat → Int32} {v : Int → Int} {d sh : Nat} {su : Option Nat} {I : aFI} {L : aFL} {Q : aPo} {i : Int} (hI : Inv I L sh) (hsr : ∀ k : Int, 0 ≤ k → k < 6 → ¬ (iI (i + k) < 0 ∨ N ≤ (iI (i + k)).toNatClampNeg)) (hxs : ∀ k : Int, xs (iI (i + k)).toNatClampNeg = iI (v k)) (hv : ∀ k : Int, -2147483648 ≤ v k ∧ v k < 2147483648) (hd : 100 ≤ d) (kk : ∀ (I2 : aFI) (L2 : aFL) (sh2 : Nat) (su2 : Option Nat), Inv I2 L2 sh2 → aWp (some (N, xs)) d 259 983 [.ref aSCR, .ref 0, .ref 157, .int (iI i)] [] I2 L2 (aR sh2 su2) Q) : aWp (some (N, xs)) d 259 960 [.ref aSCR, .ref 0, .ref 157, .int (iI i)] [] I L (aR sh su) Q := by
  have hI0 := hI
  obtain ⟨hsh, D, cd, X, K, kc, T, nt, nx, nw, ct, U, s, P, np, a1, a2, a3, a4, a5, a6, a7, a8⟩ := hI
  have h40 := a2.kc40
  have hS := a1.1.1
  have h999 := a2.2.1
  refine w_aload c_259_960 rfl ?_
  refine w_aload c_259_961 rfl ?_
  refine w_iload c_259_962 rfl ?_
  refine z_push c_259_963 ?_
  refine z_iadd c_259_964 ?_
  refine w_sald c_259_965 rfl (hsr 1 (by decide) (by decide)) (hxs 1) ?_
  refine wc_107 c_259_966 sp_0 (Nat.le_of_ble_eq_true rfl) (by omega) ?_
  refine tc_status (hv 1) ?_
  refine r_i ?_
  refine w_aload c_259_969 rfl ?_
  refine w_aload c_259_970 rfl ?_
  refine w_iload c_259_971 rfl ?_
  refine z_push c_259_972 ?_
  refine z_iadd c_259_973 ?_
  refine w_sald c_259_974 rfl (hsr 1 (by decide) (by decide)) (hxs 1) ?_
  refine wc_256 c_259_975 sp_157 (Nat.le_of_ble_eq_true rfl) (by omega) ?_
  refine t_status (hv 1) (by omega) ?_
  rw [staZ_same a7.1]
  refine r_i ?_
  refine w_same c_259_978 ?_
  exact kk I L sh su hI0

set_option maxHeartbeats 1000000 in
theorem l_fault {N : Nat} {xs : Nat → Int32} {v : Int → Int} {d sh : Nat} {su : Option Nat} {I : aFI} {L : aFL} {Q : aPo} {i : Int} (hI : Inv I L sh) (hsr : ∀ k : Int, 0 ≤ k → k < 6 → ¬ (iI (i + k) < 0 ∨ N ≤ (iI (i + k)).toNatClampNeg)) (hxs : ∀ k : Int, xs (iI (i + k)).toNatClampNeg = iI (v k)) (hv : ∀ k : Int, -2147483648 ≤ v k ∧ v k < 2147483648) (hd : 100 ≤ d) (kk : ∀ (I2 : aFI) (L2 : aFL) (sh2 : Nat) (su2 : Option Nat), Inv I2 L2 sh2 → aWp (some (N, xs)) d 259 983 [.ref aSCR, .ref 0, .ref 157, .int (iI i)] [] I2 L2 (aR sh2 su2) Q) : aWp (some (N, xs)) d 259 275 [.ref aSCR, .ref 0, .ref 157, .int (iI i)] [] I L (aR sh su) Q := by
  have hI0 := hI
  obtain ⟨hsh, D, cd, X, K, kc, T, nt, nx, nw, ct, U, s, P, np, a1, a2, a3, a4, a5, a6, a7, a8⟩ := hI
  have h40 := a2.kc40
  have hS := a1.1.1
  have h999 := a2.2.1
  refine w_aload c_259_275 rfl ?_
  refine w_aload c_259_276 rfl ?_
  refine w_iload c_259_277 rfl ?_
  refine z_push c_259_278 ?_
  refine z_iadd c_259_279 ?_
  refine w_sald c_259_280 rfl (hsr 1 (by decide) (by decide)) (hxs 1) ?_
  refine wc_79 c_259_281 sp_0 (Nat.le_of_ble_eq_true rfl) (by omega) ?_
  refine tc_fault (hv 1) ?_
  refine r_i ?_
  refine w_aload c_259_284 rfl ?_
  refine w_aload c_259_285 rfl ?_
  refine w_iload c_259_286 rfl ?_
  refine z_push c_259_287 ?_
  refine z_iadd c_259_288 ?_
  refine w_sald c_259_289 rfl (hsr 1 (by decide) (by decide)) (hxs 1) ?_
  refine wc_158 c_259_290 sp_157 (Nat.le_of_ble_eq_true rfl) (by omega) ?_
  refine t_fault (hv 1) ?_
  rw [a7.2.1.1, a7.2.1.2]
  refine r_i ?_
  refine w_same c_259_293 ?_
  exact kk I L sh su hI0

set_option maxHeartbeats 1000000 in
theorem l_octet {N : Nat} {xs : Nat → Int32} {v : Int → Int} {d sh : Nat} {su : Option Nat} {I : aFI} {L : aFL} {Q : aPo} {i : Int} (hI : Inv I L sh) (hsr : ∀ k : Int, 0 ≤ k → k < 6 → ¬ (iI (i + k) < 0 ∨ N ≤ (iI (i + k)).toNatClampNeg)) (hxs : ∀ k : Int, xs (iI (i + k)).toNatClampNeg = iI (v k)) (hv : ∀ k : Int, -2147483648 ≤ v k ∧ v k < 2147483648) (hd : 100 ≤ d) (kk : ∀ (I2 : aFI) (L2 : aFL) (sh2 : Nat) (su2 : Option Nat), Inv I2 L2 sh2 → aWp (some (N, xs)) d 259 983 [.ref aSCR, .ref 0, .ref 157, .int (iI i)] [] I2 L2 (aR sh2 su2) Q) : aWp (some (N, xs)) d 259 924 [.ref aSCR, .ref 0, .ref 157, .int (iI i)] [] I L (aR sh su) Q := by
  have hI0 := hI
  obtain ⟨hsh, D, cd, X, K, kc, T, nt, nx, nw, ct, U, s, P, np, a1, a2, a3, a4, a5, a6, a7, a8⟩ := hI
  have h40 := a2.kc40
  have hS := a1.1.1
  have h999 := a2.2.1
  refine w_aload c_259_924 rfl ?_
  refine w_aload c_259_925 rfl ?_
  refine w_iload c_259_926 rfl ?_
  refine z_push c_259_927 ?_
  refine z_iadd c_259_928 ?_
  refine w_sald c_259_929 rfl (hsr 1 (by decide) (by decide)) (hxs 1) ?_
  refine wc_105 c_259_930 sp_0 (Nat.le_of_ble_eq_true rfl) (by omega) ?_
  refine tc_octet (P := P) (hv 1) a8.1 a8.2.2.1 a8.2.2.2.1 ?_
  refine r_i ?_
  refine w_aload c_259_933 rfl ?_
  refine w_aload c_259_934 rfl ?_
  refine w_iload c_259_935 rfl ?_
  refine z_push c_259_936 ?_
  refine z_iadd c_259_937 ?_
  refine w_sald c_259_938 rfl (hsr 1 (by decide) (by decide)) (hxs 1) ?_
  refine wc_251 c_259_939 sp_157 (Nat.le_of_ble_eq_true rfl) (by omega) ?_
  refine t_octet (P := P) (hv 1) a8.2.1 a8.2.2.1 a8.2.2.2.2 ?_
  refine r_i ?_
  refine w_same c_259_942 ?_
  exact kk I L sh su hI0

set_option maxHeartbeats 1000000 in
theorem l_letter {N : Nat} {xs : Nat → Int32} {v : Int → Int} {d sh : Nat} {su : Option Nat} {I : aFI} {L : aFL} {Q : aPo} {i : Int} (hI : Inv I L sh) (hsr : ∀ k : Int, 0 ≤ k → k < 6 → ¬ (iI (i + k) < 0 ∨ N ≤ (iI (i + k)).toNatClampNeg)) (hxs : ∀ k : Int, xs (iI (i + k)).toNatClampNeg = iI (v k)) (hv : ∀ k : Int, -2147483648 ≤ v k ∧ v k < 2147483648) (hd : 100 ≤ d) (kk : ∀ (I2 : aFI) (L2 : aFL) (sh2 : Nat) (su2 : Option Nat), Inv I2 L2 sh2 → aWp (some (N, xs)) d 259 983 [.ref aSCR, .ref 0, .ref 157, .int (iI i)] [] I2 L2 (aR sh2 su2) Q) : aWp (some (N, xs)) d 259 321 [.ref aSCR, .ref 0, .ref 157, .int (iI i)] [] I L (aR sh su) Q := by
  have hI0 := hI
  obtain ⟨hsh, D, cd, X, K, kc, T, nt, nx, nw, ct, U, s, P, np, a1, a2, a3, a4, a5, a6, a7, a8⟩ := hI
  have h40 := a2.kc40
  have hS := a1.1.1
  have h999 := a2.2.1
  refine w_aload c_259_321 rfl ?_
  refine w_aload c_259_322 rfl ?_
  refine w_iload c_259_323 rfl ?_
  refine z_push c_259_324 ?_
  refine z_iadd c_259_325 ?_
  refine w_sald c_259_326 rfl (hsr 1 (by decide) (by decide)) (hxs 1) ?_
  refine w_aload c_259_327 rfl ?_
  refine w_iload c_259_328 rfl ?_
  refine z_push c_259_329 ?_
  refine z_iadd c_259_330 ?_
  refine w_sald c_259_331 rfl (hsr 2 (by decide) (by decide)) (hxs 2) ?_
  refine w_aload c_259_332 rfl ?_
  refine w_iload c_259_333 rfl ?_
  refine z_push c_259_334 ?_
  refine z_iadd c_259_335 ?_
  refine w_sald c_259_336 rfl (hsr 3 (by decide) (by decide)) (hxs 3) ?_
  refine wc_81 c_259_337 sp_0 (Nat.le_of_ble_eq_true rfl) (by omega) ?_
  refine tc_letter a1.1 hsh a3.1 (hv 1) (hv 2) (hv 3) (by omega) ?_
  refine r_i ?_
  refine w_aload c_259_340 rfl ?_
  refine w_aload c_259_341 rfl ?_
  refine w_iload c_259_342 rfl ?_
  refine z_push c_259_343 ?_
  refine z_iadd c_259_344 ?_
  refine w_sald c_259_345 rfl (hsr 1 (by decide) (by decide)) (hxs 1) ?_
  refine w_aload c_259_346 rfl ?_
  refine w_iload c_259_347 rfl ?_
  refine z_push c_259_348 ?_
  refine z_iadd c_259_349 ?_
  refine w_sald c_259_350 rfl (hsr 2 (by decide) (by decide)) (hxs 2) ?_
  refine w_aload c_259_351 rfl ?_
  refine w_iload c_259_352 rfl ?_
  refine z_push c_259_353 ?_
  refine z_iadd c_259_354 ?_
  refine w_sald c_259_355 rfl (hsr 3 (by decide) (by decide)) (hxs 3) ?_
  refine wc_188 c_259_356 sp_157 (Nat.le_of_ble_eq_true rfl) (by omega) ?_
  refine t_letter a1.1 a4.1.1.1 a4.2.2.2.1 (hv 1) (hv 2) (hv 3) (by omega) ?_
  refine r_i ?_
  refine w_same c_259_359 ?_
  exact kk I L sh su hI0

set_option maxHeartbeats 1000000 in
theorem l_brief {N : Nat} {xs : Nat → Int32} {v : Int → Int} {d sh : Nat} {su : Option Nat} {I : aFI} {L : aFL} {Q : aPo} {i : Int} (hI : Inv I L sh) (hsr : ∀ k : Int, 0 ≤ k → k < 6 → ¬ (iI (i + k) < 0 ∨ N ≤ (iI (i + k)).toNatClampNeg)) (hxs : ∀ k : Int, xs (iI (i + k)).toNatClampNeg = iI (v k)) (hv : ∀ k : Int, -2147483648 ≤ v k ∧ v k < 2147483648) (hd : 100 ≤ d) (kk : ∀ (I2 : aFI) (L2 : aFL) (sh2 : Nat) (su2 : Option Nat), Inv I2 L2 sh2 → aWp (some (N, xs)) d 259 983 [.ref aSCR, .ref 0, .ref 157, .int (iI i)] [] I2 L2 (aR sh2 su2) Q) : aWp (some (N, xs)) d 259 746 [.ref aSCR, .ref 0, .ref 157, .int (iI i)] [] I L (aR sh su) Q := by
  have hI0 := hI
  obtain ⟨hsh, D, cd, X, K, kc, T, nt, nx, nw, ct, U, s, P, np, a1, a2, a3, a4, a5, a6, a7, a8⟩ := hI
  have h40 := a2.kc40
  have hS := a1.1.1
  have h999 := a2.2.1
  refine w_aload c_259_746 rfl ?_
  refine w_aload c_259_747 rfl ?_
  refine w_iload c_259_748 rfl ?_
  refine z_push c_259_749 ?_
  refine z_iadd c_259_750 ?_
  refine w_sald c_259_751 rfl (hsr 1 (by decide) (by decide)) (hxs 1) ?_
  refine wc_96 c_259_752 sp_0 (Nat.le_of_ble_eq_true rfl) (by omega) ?_
  refine tc_brief a1.1 hsh a3.1 a1.2.1 (hv 1) (by omega) ?_
  refine r_i ?_
  refine w_aload c_259_755 rfl ?_
  refine w_aload c_259_756 rfl ?_
  refine w_iload c_259_757 rfl ?_
  refine z_push c_259_758 ?_
  refine z_iadd c_259_759 ?_
  refine w_sald c_259_760 rfl (hsr 1 (by decide) (by decide)) (hxs 1) ?_
  refine wc_209 c_259_761 sp_157 (Nat.le_of_ble_eq_true rfl) (by omega) ?_
  refine t_brief a1.1 a4.1.1.1 a4.2.2.2.1 (hv 1) (by omega) ?_
  refine r_i ?_
  refine w_same c_259_764 ?_
  exact kk I L sh su hI0

set_option maxHeartbeats 1000000 in
theorem l_deed {N : Nat} {xs : Nat → Int32} {v : Int → Int} {d sh : Nat} {su : Option Nat} {I : aFI} {L : aFL} {Q : aPo} {i : Int} (hI : Inv I L sh) (hsr : ∀ k : Int, 0 ≤ k → k < 6 → ¬ (iI (i + k) < 0 ∨ N ≤ (iI (i + k)).toNatClampNeg)) (hxs : ∀ k : Int, xs (iI (i + k)).toNatClampNeg = iI (v k)) (hv : ∀ k : Int, -2147483648 ≤ v k ∧ v k < 2147483648) (hd : 100 ≤ d) (kk : ∀ (I2 : aFI) (L2 : aFL) (sh2 : Nat) (su2 : Option Nat), Inv I2 L2 sh2 → aWp (some (N, xs)) d 259 983 [.ref aSCR, .ref 0, .ref 157, .int (iI i)] [] I2 L2 (aR sh2 su2) Q) : aWp (some (N, xs)) d 259 397 [.ref aSCR, .ref 0, .ref 157, .int (iI i)] [] I L (aR sh su) Q := by
  have hI0 := hI
  obtain ⟨hsh, D, cd, X, K, kc, T, nt, nx, nw, ct, U, s, P, np, a1, a2, a3, a4, a5, a6, a7, a8⟩ := hI
  have h40 := a2.kc40
  have hS := a1.1.1
  have h999 := a2.2.1
  refine w_aload c_259_397 rfl ?_
  refine w_aload c_259_398 rfl ?_
  refine w_iload c_259_399 rfl ?_
  refine z_push c_259_400 ?_
  refine z_iadd c_259_401 ?_
  refine w_sald c_259_402 rfl (hsr 1 (by decide) (by decide)) (hxs 1) ?_
  refine w_aload c_259_403 rfl ?_
  refine w_iload c_259_404 rfl ?_
  refine z_push c_259_405 ?_
  refine z_iadd c_259_406 ?_
  refine w_sald c_259_407 rfl (hsr 2 (by decide) (by decide)) (hxs 2) ?_
  refine wc_83 c_259_408 sp_0 (Nat.le_of_ble_eq_true rfl) (by omega) ?_
  refine tc_deed hsh hS a3.1 a3.2.1 a2.1 (hv 1) (hv 2) a3.2.2.2 (by omega) (fun I1 hf => ?_)
  have hF1 : frG SC4 I I1 := (fun q k z => hf q k (by show ¬ q = 43; omega))
  have h42 : I1 42 1 = I 42 1 := hf 42 1 (by decide)
  have b4 := a4.sc hF1 (frG.rf : frG SCL L L)
  refine r_i ?_
  refine w_aload c_259_411 rfl ?_
  refine w_aload c_259_412 rfl ?_
  refine w_iload c_259_413 rfl ?_
  refine z_push c_259_414 ?_
  refine z_iadd c_259_415 ?_
  refine w_sald c_259_416 rfl (hsr 1 (by decide) (by decide)) (hxs 1) ?_
  refine w_aload c_259_417 rfl ?_
  refine w_iload c_259_418 rfl ?_
  refine z_push c_259_419 ?_
  refine z_iadd c_259_420 ?_
  refine w_sald c_259_421 rfl (hsr 2 (by decide) (by decide)) (hxs 2) ?_
  refine wc_190 c_259_422 sp_157 (Nat.le_of_ble_eq_true rfl) (by omega) ?_
  refine t_deed hS b4.1 a2.1 (hv 1) (hv 2) (by omega) (fun I2 L2 hf2 hg2 => ?_)
  refine r_i ?_
  refine w_same c_259_425 ?_
  refine kk I2 L2 sh su (hI0.sc (hF1.tr (fun q k z => hf2 q k (by omega))) (fun q k z => hg2 q k (by omega)) ?_)
  rw [hf2 42 1 (by omega), h42]; exact a3.2.2.2

set_option maxHeartbeats 1000000 in
theorem l_later {N : Nat} {xs : Nat → Int32} {v : Int → Int} {d sh : Nat} {su : Option Nat} {I : aFI} {L : aFL} {Q : aPo} {i : Int} (hI : Inv I L sh) (hsr : ∀ k : Int, 0 ≤ k → k < 6 → ¬ (iI (i + k) < 0 ∨ N ≤ (iI (i + k)).toNatClampNeg)) (hxs : ∀ k : Int, xs (iI (i + k)).toNatClampNeg = iI (v k)) (hv : ∀ k : Int, -2147483648 ≤ v k ∧ v k < 2147483648) (hd : 100 ≤ d) (kk : ∀ (I2 : aFI) (L2 : aFL) (sh2 : Nat) (su2 : Option Nat), Inv I2 L2 sh2 → aWp (some (N, xs)) d 259 983 [.ref aSCR, .ref 0, .ref 157, .int (iI i)] [] I2 L2 (aR sh2 su2) Q) : aWp (some (N, xs)) d 259 486 [.ref aSCR, .ref 0, .ref 157, .int (iI i)] [] I L (aR sh su) Q := by
  have hI0 := hI
  obtain ⟨hsh, D, cd, X, K, kc, T, nt, nx, nw, ct, U, s, P, np, a1, a2, a3, a4, a5, a6, a7, a8⟩ := hI
  have h40 := a2.kc40
  have hS := a1.1.1
  have h999 := a2.2.1
  refine w_aload c_259_486 rfl ?_
  refine w_aload c_259_487 rfl ?_
  refine w_iload c_259_488 rfl ?_
  refine z_push c_259_489 ?_
  refine z_iadd c_259_490 ?_
  refine w_sald c_259_491 rfl (hsr 1 (by decide) (by decide)) (hxs 1) ?_
  refine w_aload c_259_492 rfl ?_
  refine w_iload c_259_493 rfl ?_
  refine z_push c_259_494 ?_
  refine z_iadd c_259_495 ?_
  refine w_sald c_259_496 rfl (hsr 2 (by decide) (by decide)) (hxs 2) ?_
  refine wc_86 c_259_497 sp_0 (Nat.le_of_ble_eq_true rfl) (by omega) ?_
  refine tc_later hsh hS a3.1 a3.2.1 a2.1 (hv 1) (hv 2) a3.2.2.2 (by omega) (fun I1 hf => ?_)
  have hF1 : frG SC4 I I1 := (fun q k z => hf q k (by show ¬ (q = 43 ∨ (39 ≤ q ∧ q ≤ 39 + 2)); omega))
  have h42 : I1 42 1 = I 42 1 := hf 42 1 (by decide)
  have b4 := a4.sc hF1 (frG.rf : frG SCL L L)
  refine r_i ?_
  refine w_aload c_259_500 rfl ?_
  refine w_aload c_259_501 rfl ?_
  refine w_iload c_259_502 rfl ?_
  refine z_push c_259_503 ?_
  refine z_iadd c_259_504 ?_
  refine w_sald c_259_505 rfl (hsr 1 (by decide) (by decide)) (hxs 1) ?_
  refine w_aload c_259_506 rfl ?_
  refine w_iload c_259_507 rfl ?_
  refine z_push c_259_508 ?_
  refine z_iadd c_259_509 ?_
  refine w_sald c_259_510 rfl (hsr 2 (by decide) (by decide)) (hxs 2) ?_
  refine wc_193 c_259_511 sp_157 (Nat.le_of_ble_eq_true rfl) (by omega) ?_
  refine t_later hS b4.1 a2.1 (hv 1) (hv 2) (iI_of _) b4.2.2.2.2.2 (by omega) (fun I2 L2 hf2 hg2 => ?_)
  refine r_i ?_
  refine w_same c_259_514 ?_
  refine kk I2 L2 sh su (hI0.sc (hF1.tr (fun q k z => hf2 q k (by omega))) (fun q k z => hg2 q k (by omega)) ?_)
  rw [hf2 42 1 (by omega), h42]; exact a3.2.2.2

set_option maxHeartbeats 1000000 in
theorem l_fade {N : Nat} {xs : Nat → Int32} {v : Int → Int} {d sh : Nat} {su : Option Nat} {I : aFI} {L : aFL} {Q : aPo} {i : Int} (hI : Inv I L sh) (hsr : ∀ k : Int, 0 ≤ k → k < 6 → ¬ (iI (i + k) < 0 ∨ N ≤ (iI (i + k)).toNatClampNeg)) (hxs : ∀ k : Int, xs (iI (i + k)).toNatClampNeg = iI (v k)) (hv : ∀ k : Int, -2147483648 ≤ v k ∧ v k < 2147483648) (hd : 100 ≤ d) (kk : ∀ (I2 : aFI) (L2 : aFL) (sh2 : Nat) (su2 : Option Nat), Inv I2 L2 sh2 → aWp (some (N, xs)) d 259 983 [.ref aSCR, .ref 0, .ref 157, .int (iI i)] [] I2 L2 (aR sh2 su2) Q) : aWp (some (N, xs)) d 259 519 [.ref aSCR, .ref 0, .ref 157, .int (iI i)] [] I L (aR sh su) Q := by
  have hI0 := hI
  obtain ⟨hsh, D, cd, X, K, kc, T, nt, nx, nw, ct, U, s, P, np, a1, a2, a3, a4, a5, a6, a7, a8⟩ := hI
  have h40 := a2.kc40
  have hS := a1.1.1
  have h999 := a2.2.1
  refine w_aload c_259_519 rfl ?_
  refine w_aload c_259_520 rfl ?_
  refine w_iload c_259_521 rfl ?_
  refine z_push c_259_522 ?_
  refine z_iadd c_259_523 ?_
  refine w_sald c_259_524 rfl (hsr 1 (by decide) (by decide)) (hxs 1) ?_
  refine wc_87 c_259_525 sp_0 (Nat.le_of_ble_eq_true rfl) (by omega) ?_
  refine tc_fade hsh hS a3.1 a3.2.1 a2.1 (hv 1) (by omega) a3.2.2.2 (by omega) (fun I1 hf => ?_)
  have hF1 : frG SC4 I I1 := (fun q k z => hf q k (by show ¬ (q = 43 ∨ (39 ≤ q ∧ q ≤ 39 + 2)); omega))
  have h42 : I1 42 1 = I 42 1 := hf 42 1 (by decide)
  have b4 := a4.sc hF1 (frG.rf : frG SCL L L)
  refine r_i ?_
  refine w_aload c_259_528 rfl ?_
  refine w_aload c_259_529 rfl ?_
  refine w_iload c_259_530 rfl ?_
  refine z_push c_259_531 ?_
  refine z_iadd c_259_532 ?_
  refine w_sald c_259_533 rfl (hsr 1 (by decide) (by decide)) (hxs 1) ?_
  refine wc_194 c_259_534 sp_157 (Nat.le_of_ble_eq_true rfl) (by omega) ?_
  refine t_fade hS b4.1 a2.1 (hv 1) (by omega) b4.2.2.2.2.2 (by omega) (fun I2 L2 hf2 hg2 => ?_)
  refine r_i ?_
  refine w_same c_259_537 ?_
  refine kk I2 L2 sh su (hI0.sc (hF1.tr (fun q k z => hf2 q k (by omega))) (fun q k z => hg2 q k (by omega)) ?_)
  rw [hf2 42 1 (by omega), h42]; exact a3.2.2.2

set_option maxHeartbeats 1000000 in
theorem l_soonest {N : Nat} {xs : Nat → Int32} {v : Int → Int} {d sh : Nat} {su : Option Nat} {I : aFI} {L : aFL} {Q : aPo} {i : Int} (hI : Inv I L sh) (hsr : ∀ k : Int, 0 ≤ k → k < 6 → ¬ (iI (i + k) < 0 ∨ N ≤ (iI (i + k)).toNatClampNeg)) (hxs : ∀ k : Int, xs (iI (i + k)).toNatClampNeg = iI (v k)) (hv : ∀ k : Int, -2147483648 ≤ v k ∧ v k < 2147483648) (hd : 100 ≤ d) (kk : ∀ (I2 : aFI) (L2 : aFL) (sh2 : Nat) (su2 : Option Nat), Inv I2 L2 sh2 → aWp (some (N, xs)) d 259 983 [.ref aSCR, .ref 0, .ref 157, .int (iI i)] [] I2 L2 (aR sh2 su2) Q) : aWp (some (N, xs)) d 259 542 [.ref aSCR, .ref 0, .ref 157, .int (iI i)] [] I L (aR sh su) Q := by
  have hI0 := hI
  obtain ⟨hsh, D, cd, X, K, kc, T, nt, nx, nw, ct, U, s, P, np, a1, a2, a3, a4, a5, a6, a7, a8⟩ := hI
  have h40 := a2.kc40
  have hS := a1.1.1
  have h999 := a2.2.1
  refine w_aload c_259_542 rfl ?_
  refine w_aload c_259_543 rfl ?_
  refine w_iload c_259_544 rfl ?_
  refine z_push c_259_545 ?_
  refine z_iadd c_259_546 ?_
  refine w_sald c_259_547 rfl (hsr 1 (by decide) (by decide)) (hxs 1) ?_
  refine wc_88 c_259_548 sp_0 (Nat.le_of_ble_eq_true rfl) (by omega) ?_
  refine tc_soonest hsh hS a3.1 a3.2.1 a2.1 (hv 1) (by omega) a3.2.2.2 (by omega) (fun I1 hf => ?_)
  have hF1 : frG SC4 I I1 := (fun q k z => hf q k (by show ¬ (q = 43 ∨ (39 ≤ q ∧ q ≤ 39 + 2)); omega))
  have h42 : I1 42 1 = I 42 1 := hf 42 1 (by decide)
  have b4 := a4.sc hF1 (frG.rf : frG SCL L L)
  refine r_i ?_
  refine w_aload c_259_551 rfl ?_
  refine w_aload c_259_552 rfl ?_
  refine w_iload c_259_553 rfl ?_
  refine z_push c_259_554 ?_
  refine z_iadd c_259_555 ?_
  refine w_sald c_259_556 rfl (hsr 1 (by decide) (by decide)) (hxs 1) ?_
  refine wc_196 c_259_557 sp_157 (Nat.le_of_ble_eq_true rfl) (by omega) ?_
  refine t_soonest hS b4.1 a2.1 (hv 1) (by omega) b4.2.2.2.2.2 (by omega) (fun I2 L2 hf2 hg2 => ?_)
  refine r_i ?_
  refine w_same c_259_560 ?_
  refine kk I2 L2 sh su (hI0.sc (hF1.tr (fun q k z => hf2 q k (by omega))) (fun q k z => hg2 q k (by omega)) ?_)
  rw [hf2 42 1 (by omega), h42]; exact a3.2.2.2

set_option maxHeartbeats 1000000 in
theorem l_dip {N : Nat} {xs : Nat → Int32} {v : Int → Int} {d sh : Nat} {su : Option Nat} {I : aFI} {L : aFL} {Q : aPo} {i : Int} (hI : Inv I L sh) (hsr : ∀ k : Int, 0 ≤ k → k < 6 → ¬ (iI (i + k) < 0 ∨ N ≤ (iI (i + k)).toNatClampNeg)) (hxs : ∀ k : Int, xs (iI (i + k)).toNatClampNeg = iI (v k)) (hv : ∀ k : Int, -2147483648 ≤ v k ∧ v k < 2147483648) (hd : 100 ≤ d) (kk : ∀ (I2 : aFI) (L2 : aFL) (sh2 : Nat) (su2 : Option Nat), Inv I2 L2 sh2 → aWp (some (N, xs)) d 259 983 [.ref aSCR, .ref 0, .ref 157, .int (iI i)] [] I2 L2 (aR sh2 su2) Q) : aWp (some (N, xs)) d 259 565 [.ref aSCR, .ref 0, .ref 157, .int (iI i)] [] I L (aR sh su) Q := by
  have hI0 := hI
  obtain ⟨hsh, D, cd, X, K, kc, T, nt, nx, nw, ct, U, s, P, np, a1, a2, a3, a4, a5, a6, a7, a8⟩ := hI
  have h40 := a2.kc40
  have hS := a1.1.1
  have h999 := a2.2.1
  refine w_aload c_259_565 rfl ?_
  refine w_aload c_259_566 rfl ?_
  refine w_iload c_259_567 rfl ?_
  refine z_push c_259_568 ?_
  refine z_iadd c_259_569 ?_
  refine w_sald c_259_570 rfl (hsr 1 (by decide) (by decide)) (hxs 1) ?_
  refine w_aload c_259_571 rfl ?_
  refine w_iload c_259_572 rfl ?_
  refine z_push c_259_573 ?_
  refine z_iadd c_259_574 ?_
  refine w_sald c_259_575 rfl (hsr 2 (by decide) (by decide)) (hxs 2) ?_
  refine wc_89 c_259_576 sp_0 (Nat.le_of_ble_eq_true rfl) (by omega) ?_
  refine tc_dip hsh hS a3.1 a3.2.1 a2.1 (hv 1) (hv 2) (by omega) a3.2.2.2 (by omega) (fun I1 hf => ?_)
  have hF1 : frG SC4 I I1 := (fun q k z => hf q k (by show ¬ (q = 43 ∨ (39 ≤ q ∧ q ≤ 39 + 2)); omega))
  have h42 : I1 42 1 = I 42 1 := hf 42 1 (by decide)
  have b4 := a4.sc hF1 (frG.rf : frG SCL L L)
  refine r_i ?_
  refine w_aload c_259_579 rfl ?_
  refine w_aload c_259_580 rfl ?_
  refine w_iload c_259_581 rfl ?_
  refine z_push c_259_582 ?_
  refine z_iadd c_259_583 ?_
  refine w_sald c_259_584 rfl (hsr 1 (by decide) (by decide)) (hxs 1) ?_
  refine w_aload c_259_585 rfl ?_
  refine w_iload c_259_586 rfl ?_
  refine z_push c_259_587 ?_
  refine z_iadd c_259_588 ?_
  refine w_sald c_259_589 rfl (hsr 2 (by decide) (by decide)) (hxs 2) ?_
  refine wc_197 c_259_590 sp_157 (Nat.le_of_ble_eq_true rfl) (by omega) ?_
  refine t_dip hS b4.1 a2.1 (hv 1) (hv 2) (by omega) b4.2.2.2.2.2 (by omega) (fun I2 L2 hf2 hg2 => ?_)
  refine r_i ?_
  refine w_same c_259_593 ?_
  refine kk I2 L2 sh su (hI0.sc (hF1.tr (fun q k z => hf2 q k (by omega))) (fun q k z => hg2 q k (by omega)) ?_)
  rw [hf2 42 1 (by omega), h42]; exact a3.2.2.2

set_option maxHeartbeats 1000000 in
theorem l_all {N : Nat} {xs : Nat → Int32} {v : Int → Int} {d sh : Nat} {su : Option Nat} {I : aFI} {L : aFL} {Q : aPo} {i : Int} (hI : Inv I L sh) (hsr : ∀ k : Int, 0 ≤ k → k < 6 → ¬ (iI (i + k) < 0 ∨ N ≤ (iI (i + k)).toNatClampNeg)) (hxs : ∀ k : Int, xs (iI (i + k)).toNatClampNeg = iI (v k)) (hv : ∀ k : Int, -2147483648 ≤ v k ∧ v k < 2147483648) (hd : 100 ≤ d) (kk : ∀ (I2 : aFI) (L2 : aFL) (sh2 : Nat) (su2 : Option Nat), Inv I2 L2 sh2 → aWp (some (N, xs)) d 259 983 [.ref aSCR, .ref 0, .ref 157, .int (iI i)] [] I2 L2 (aR sh2 su2) Q) : aWp (some (N, xs)) d 259 634 [.ref aSCR, .ref 0, .ref 157, .int (iI i)] [] I L (aR sh su) Q := by
  have hI0 := hI
  obtain ⟨hsh, D, cd, X, K, kc, T, nt, nx, nw, ct, U, s, P, np, a1, a2, a3, a4, a5, a6, a7, a8⟩ := hI
  have h40 := a2.kc40
  have hS := a1.1.1
  have h999 := a2.2.1
  refine w_aload c_259_634 rfl ?_
  refine w_aload c_259_635 rfl ?_
  refine w_iload c_259_636 rfl ?_
  refine z_push c_259_637 ?_
  refine z_iadd c_259_638 ?_
  refine w_sald c_259_639 rfl (hsr 1 (by decide) (by decide)) (hxs 1) ?_
  refine wc_92 c_259_640 sp_0 (Nat.le_of_ble_eq_true rfl) (by omega) ?_
  refine tc_all hsh hS a3.1 a3.2.1 a2.1 (hv 1) (by omega) a3.2.2.2 (by omega) (fun I1 hf => ?_)
  have hF1 : frG SC4 I I1 := (fun q k z => hf q k (by show ¬ (q = 43 ∨ (39 ≤ q ∧ q ≤ 39 + 2)); omega))
  have h42 : I1 42 1 = I 42 1 := hf 42 1 (by decide)
  have b4 := a4.sc hF1 (frG.rf : frG SCL L L)
  refine r_i ?_
  refine w_aload c_259_643 rfl ?_
  refine w_aload c_259_644 rfl ?_
  refine w_iload c_259_645 rfl ?_
  refine z_push c_259_646 ?_
  refine z_iadd c_259_647 ?_
  refine w_sald c_259_648 rfl (hsr 1 (by decide) (by decide)) (hxs 1) ?_
  refine wc_202 c_259_649 sp_157 (Nat.le_of_ble_eq_true rfl) (by omega) ?_
  refine t_all hS b4.1 a2.1 (hv 1) (by omega) b4.2.2.2.2.2 (by omega) (fun I2 L2 hf2 hg2 => ?_)
  refine r_i ?_
  refine w_same c_259_652 ?_
  refine kk I2 L2 sh su (hI0.sc (hF1.tr (fun q k z => hf2 q k (by omega))) (fun q k z => hg2 q k (by omega)) ?_)
  rw [hf2 42 1 (by omega), h42]; exact a3.2.2.2

set_option maxHeartbeats 1000000 in
theorem l_thinned {N : Nat} {xs : Nat → Int32} {v : Int → Int} {d sh : Nat} {su : Option Nat} {I : aFI} {L : aFL} {Q : aPo} {i : Int} (hI : Inv I L sh) (hsr : ∀ k : Int, 0 ≤ k → k < 6 → ¬ (iI (i + k) < 0 ∨ N ≤ (iI (i + k)).toNatClampNeg)) (hxs : ∀ k : Int, xs (iI (i + k)).toNatClampNeg = iI (v k)) (hv : ∀ k : Int, -2147483648 ≤ v k ∧ v k < 2147483648) (hd : 100 ≤ d) (kk : ∀ (I2 : aFI) (L2 : aFL) (sh2 : Nat) (su2 : Option Nat), Inv I2 L2 sh2 → aWp (some (N, xs)) d 259 983 [.ref aSCR, .ref 0, .ref 157, .int (iI i)] [] I2 L2 (aR sh2 su2) Q) : aWp (some (N, xs)) d 259 657 [.ref aSCR, .ref 0, .ref 157, .int (iI i)] [] I L (aR sh su) Q := by
  have hI0 := hI
  obtain ⟨hsh, D, cd, X, K, kc, T, nt, nx, nw, ct, U, s, P, np, a1, a2, a3, a4, a5, a6, a7, a8⟩ := hI
  have h40 := a2.kc40
  have hS := a1.1.1
  have h999 := a2.2.1
  refine w_aload c_259_657 rfl ?_
  refine w_aload c_259_658 rfl ?_
  refine w_iload c_259_659 rfl ?_
  refine z_push c_259_660 ?_
  refine z_iadd c_259_661 ?_
  refine w_sald c_259_662 rfl (hsr 1 (by decide) (by decide)) (hxs 1) ?_
  refine w_aload c_259_663 rfl ?_
  refine w_iload c_259_664 rfl ?_
  refine z_push c_259_665 ?_
  refine z_iadd c_259_666 ?_
  refine w_sald c_259_667 rfl (hsr 2 (by decide) (by decide)) (hxs 2) ?_
  refine w_aload c_259_668 rfl ?_
  refine w_iload c_259_669 rfl ?_
  refine z_push c_259_670 ?_
  refine z_iadd c_259_671 ?_
  refine w_sald c_259_672 rfl (hsr 3 (by decide) (by decide)) (hxs 3) ?_
  refine w_aload c_259_673 rfl ?_
  refine w_iload c_259_674 rfl ?_
  refine z_push c_259_675 ?_
  refine z_iadd c_259_676 ?_
  refine w_sald c_259_677 rfl (hsr 4 (by decide) (by decide)) (hxs 4) ?_
  refine wc_93 c_259_678 sp_0 (Nat.le_of_ble_eq_true rfl) (by omega) ?_
  refine tc_thinned hsh hS a3.1 a3.2.1 a2.1 (hv 1) (hv 2) (hv 3) (hv 4) (by omega) (by omega) (by omega) (fun I1 hf => ?_)
  have hF1 : frG SC4 I I1 := (fun q k z => hf q k (by show ¬ (q = 43 ∨ (39 ≤ q ∧ q ≤ 39 + 2)); omega))
  have h42 : I1 42 1 = I 42 1 := hf 42 1 (by decide)
  have b4 := a4.sc hF1 (frG.rf : frG SCL L L)
  refine r_i ?_
  refine w_aload c_259_681 rfl ?_
  refine w_aload c_259_682 rfl ?_
  refine w_iload c_259_683 rfl ?_
  refine z_push c_259_684 ?_
  refine z_iadd c_259_685 ?_
  refine w_sald c_259_686 rfl (hsr 1 (by decide) (by decide)) (hxs 1) ?_
  refine w_aload c_259_687 rfl ?_
  refine w_iload c_259_688 rfl ?_
  refine z_push c_259_689 ?_
  refine z_iadd c_259_690 ?_
  refine w_sald c_259_691 rfl (hsr 2 (by decide) (by decide)) (hxs 2) ?_
  refine w_aload c_259_692 rfl ?_
  refine w_iload c_259_693 rfl ?_
  refine z_push c_259_694 ?_
  refine z_iadd c_259_695 ?_
  refine w_sald c_259_696 rfl (hsr 3 (by decide) (by decide)) (hxs 3) ?_
  refine w_aload c_259_697 rfl ?_
  refine w_iload c_259_698 rfl ?_
  refine z_push c_259_699 ?_
  refine z_iadd c_259_700 ?_
  refine w_sald c_259_701 rfl (hsr 4 (by decide) (by decide)) (hxs 4) ?_
  refine wc_203 c_259_702 sp_157 (Nat.le_of_ble_eq_true rfl) (by omega) ?_
  refine t_thinned hS b4.1 a2.1 (hv 1) (hv 2) (hv 3) (hv 4) (by omega) b4.2.2.2.2.2 (by omega) (fun I2 L2 hf2 hg2 => ?_)
  refine r_i ?_
  refine w_same c_259_705 ?_
  refine kk I2 L2 sh su (hI0.sc (hF1.tr (fun q k z => hf2 q k (by omega))) (fun q k z => hg2 q k (by omega)) ?_)
  rw [hf2 42 1 (by omega), h42]; exact a3.2.2.2

set_option maxHeartbeats 1000000 in
theorem l_share {N : Nat} {xs : Nat → Int32} {v : Int → Int} {d sh : Nat} {su : Option Nat} {I : aFI} {L : aFL} {Q : aPo} {i : Int} (hI : Inv I L sh) (hsr : ∀ k : Int, 0 ≤ k → k < 6 → ¬ (iI (i + k) < 0 ∨ N ≤ (iI (i + k)).toNatClampNeg)) (hxs : ∀ k : Int, xs (iI (i + k)).toNatClampNeg = iI (v k)) (hv : ∀ k : Int, -2147483648 ≤ v k ∧ v k < 2147483648) (hd : 100 ≤ d) (kk : ∀ (I2 : aFI) (L2 : aFL) (sh2 : Nat) (su2 : Option Nat), Inv I2 L2 sh2 → aWp (some (N, xs)) d 259 983 [.ref aSCR, .ref 0, .ref 157, .int (iI i)] [] I2 L2 (aR sh2 su2) Q) : aWp (some (N, xs)) d 259 611 [.ref aSCR, .ref 0, .ref 157, .int (iI i)] [] I L (aR sh su) Q := by
  have hI0 := hI
  obtain ⟨hsh, D, cd, X, K, kc, T, nt, nx, nw, ct, U, s, P, np, a1, a2, a3, a4, a5, a6, a7, a8⟩ := hI
  have h40 := a2.kc40
  have hS := a1.1.1
  have h999 := a2.2.1
  refine w_aload c_259_611 rfl ?_
  refine w_aload c_259_612 rfl ?_
  refine w_iload c_259_613 rfl ?_
  refine z_push c_259_614 ?_
  refine z_iadd c_259_615 ?_
  refine w_sald c_259_616 rfl (hsr 1 (by decide) (by decide)) (hxs 1) ?_
  refine wc_91 c_259_617 sp_0 (Nat.le_of_ble_eq_true rfl) (by omega) ?_
  refine tc_share hsh hS a3.1 a3.2.1 a2.1 (hv 1) a3.2.2.2 (by omega) (fun I1 hf => ?_)
  have hF1 : frG SC4 I I1 := (fun q k z => hf q k (by show ¬ (q = 43 ∨ (106 ≤ q ∧ q ≤ 109)); omega))
  have h42 : I1 42 1 = I 42 1 := hf 42 1 (by decide)
  have b4 := a4.sc hF1 (frG.rf : frG SCL L L)
  refine r_i ?_
  refine w_aload c_259_620 rfl ?_
  refine w_aload c_259_621 rfl ?_
  refine w_iload c_259_622 rfl ?_
  refine z_push c_259_623 ?_
  refine z_iadd c_259_624 ?_
  refine w_sald c_259_625 rfl (hsr 1 (by decide) (by decide)) (hxs 1) ?_
  refine wc_201 c_259_626 sp_157 (Nat.le_of_ble_eq_true rfl) (by omega) ?_
  refine t_share hS b4.1 a2.1 (hv 1) b4.2.2.2.2.2 (by omega) (fun I2 L2 hf2 hg2 => ?_)
  refine r_i ?_
  refine w_same c_259_629 ?_
  refine kk I2 L2 sh su (hI0.sc (hF1.tr (fun q k z => hf2 q k (by omega))) (fun q k z => hg2 q k (by omega)) ?_)
  rw [hf2 42 1 (by omega), h42]; exact a3.2.2.2

