/-! the class: reckon as a whole (p52.py) -/
set_option maxHeartbeats 1000000 in
theorem tc_reckon {d : Nat} {I : aFI} {L : aFL} {Q : aPo} {sh : Nat} {su : Option Nat} {q s : Nat} {D : Nat → Int → Int} {s0 b g w kc : Int} {ink age : Int → Int} {de dr r fr to : Int} {t : Bool} {l : List Int} (hsh : sh = 8 ∨ sh = 22) (hl : aLk0 q) (hs : aSm s) (hD : cD I sh D) (hL : isLk I q s0 b g w kc ink age) (hdr : I 42 1 = iI dr) (hd : 3 ≤ d) (hde : 0 ≤ de ∧ de < 8) (hv : 0 ≤ D 6 de ∧ D 6 de < 6) (hb : 0 ≤ b ∧ b < 100000) (hg : 0 ≤ g ∧ g < 100000) (hE : eOK (envZ D s0 b g ink age de dr)) (hr : 0 ≤ r ∧ r < 4) (hto : I (s + 3) r.toNat = iI to) (htr : 0 ≤ fr ∧ to = fr + l.length ∧ to ≤ 1600) (hfr : I (s + 2) r.toNat = iI fr) (hc : codeAt I s fr l) (ht : tyC l [] [t]) (kk : ∀ I2 : aFI, (∀ q k : Nat, ¬ q = 43 → I2 q k = I q k) → Q (some (.int (iI (valC (envZ D s0 b g ink age de dr) (D 6 de) l)))) I2 L (aR sh su)) : aWp none d 55 0 [.ref 42, .ref s, .int (iI r), .ref q, .int (iI de), .null, .null, .null] [] I L (aR sh su) Q := by
  refine z_push c_55_0 ?_
  refine w_istore c_55_1 (Nat.le_of_ble_eq_true rfl) rfl ?_
  refine z_push c_55_3 ?_
  refine w_aload c_55_4 rfl ?_
  refine w_getR c_55_5 (sm_0 hs) (by decide) rfl (pm_1 hs) ?_
  refine w_iload c_55_8 rfl ?_
  refine z_iaload c_55_9 (sm_2 hs) (by omega) (by first | decide | omega) hfr ?_
  refine z_mmax c_55_10 (by omega) (Nat.le_of_ble_eq_true rfl) (by first | exact aRg_of _ | (unfold aRg; omega)) (by first | exact aRg_of _ | (unfold aRg; omega)) ?_
  refine w_istore c_55_13 (Nat.le_of_ble_eq_true rfl) rfl ?_
  exact tc_reckon_1 (fr := 0) hsh hl hs hD hL hdr hd hde hv hb hg hE hr hto (by omega) _ l [] [] _ _ _ _ (Nat.lt_succ_self _) (by omega) (by rw [Int.max_eq_right htr.1]; exact hc) ht (by simp) trivial trivial rfl (fun _ _ _ => rfl) kk

