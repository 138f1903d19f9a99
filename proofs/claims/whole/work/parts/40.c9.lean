/-! the class: a village found (c9.py) -/
section VF
variable {I : aFI} {s x : Nat} {S : Rs} {NM : Int → Int}
theorem rS_sh (hs : aSm s) (hx : x = 8 ∨ x = 22) {k m : Nat} (hk : k < 10) : oS (oN I NM) s S (x + k) m = I (x + k) m := by
  show oR (oU (oN I NM) s S.ln S.C) S.a S.op S.f S.pl (x + k) m = _
  have e1 : ¬ x + k = 2 := by omega
  have e2 : ¬ x + k = s := by rcases hs with rfl | rfl | rfl <;> omega
  have e3 : ¬ x + k = s + 1 := by rcases hs with rfl | rfl | rfl <;> omega
  have e4 : ¬ x + k = 7 := by omega
  unfold oR oU oN
  rw [if_neg (fun z => e1 z.1), if_neg (fun z => e1 z.1), if_neg (fun z => e1 z.1), if_neg (fun z => e1 z.1), if_neg (fun z => e2 z.1), if_neg e3, if_neg e4]
theorem rNa_rg {K PL SZ T : Int → Int} (hT : ∀ j : Int, 0 ≤ j → j < 1600 → I 1 j.toNat = iI (T j) ∧ (0 ≤ T j ∧ T j < 256)) (hp : 0 ≤ PL S.a) (hW : 332 ≤ K S.a → K S.a ≤ 338 → 0 ≤ SZ S.a ∧ PL S.a + SZ S.a ≤ 1600) (hN : ∀ j : Int, 0 ≤ j → j < 6 → aRg (NM j)) : ∀ j : Int, 0 ≤ j → j < 6 → aRg (rNa K PL SZ T S NM j) := by
  intro j h0 h1
  unfold rNa
  split
  · rename_i h
    have h2 := hW h.1.1 h.1.2
    show aRg (if 0 ≤ j ∧ j < 6 then (if j < SZ S.a then T (PL S.a + j) - 97 + 1 else 0) else NM j)
    rw [if_pos ⟨h0, h1⟩]
    split
    · have h3 := (hT (PL S.a + j) (by omega) (by omega)).2
      unfold aRg; omega
    · unfold aRg; omega
  · exact hN j h0 h1
end VF
set_option maxHeartbeats 1000000 in
theorem ts_village {d s : Nat} {I : aFI} {L : aFL} {Q : aPo} {n : Int} {K PL SZ : Int → Int} {S : Rs} {sh : Nat} {su : Option Nat} {NM T : Int → Int} (hs : aSm s) (hT : ∀ j : Int, 0 ≤ j → j < 1600 → I 1 j.toNat = iI (T j) ∧ (0 ≤ T j ∧ T j < 256)) (hW : ∀ j : Int, 0 ≤ j → j < n → 332 ≤ K j → K j ≤ 338 → 0 ≤ SZ j ∧ PL j + SZ j ≤ 1600) (hK : kB I n K PL SZ) (h : gS n S) {x : Nat} {cnt : Int} {LT : Int → Int} (hx : x = 8 ∨ x = 22) (hn2 : I (x + 1) 1 = iI cnt) (hcn : 0 ≤ cnt ∧ cnt ≤ 6) (hL : ∀ j : Int, 0 ≤ j → j < 120 → I (x + 2) j.toNat = iI (LT j) ∧ aRg (LT j)) (hN : ∀ j : Int, 0 ≤ j → j < 6 → aRg (NM j)) (hd : 2 ≤ d) (k : ∀ r : Int, isFnd LT (rNa K PL SZ T S NM) 1 cnt r → Q (some (.int (iI r))) (oS (oN I (rNa K PL SZ T S NM)) s (if r = -1 then rF 3 (PL S.a) (rNm K PL SZ S) else (rNm K PL SZ S))) L (aR sh su)) : aWp none d 30 0 [.ref 2, .ref x, .null, .null] [] (oS (oN I NM) s S) L (aR sh su) Q := by
  have hn := hK.2.2.1
  have hk := hK.2.2.2 _ h.1.1 h.1.2
  have hb := h
  unfold gS at hb
  refine w_aload c_30_0 rfl ?_
  refine wc_43 c_30_1 sp_2 (Nat.le_of_ble_eq_true rfl) (by omega) ?_
  refine ts_nextPlace hs (kB_N hK) h ?_
  refine r_i ?_
  refine w_istore c_30_4 (Nat.le_of_ble_eq_true rfl) rfl ?_
  refine w_aload c_30_5 rfl ?_
  refine wc_31 c_30_6 sp_2 (Nat.le_of_ble_eq_true rfl) (by omega) ?_
  refine ts_name hs hT hW hK h (by omega) ?_
  refine r_v ?_
  refine w_aload c_30_9 rfl ?_
  refine z_push c_30_10 ?_
  refine w_aload c_30_11 rfl ?_
  refine w_getR c_30_12 sp_2 (by decide) rfl pr_2_2 ?_
  refine wc_67 c_30_15 (sps_0 hx) (Nat.le_of_ble_eq_true rfl) (by omega) ?_
  refine tc_find (c := 1) (cnt := cnt) (LT := LT) (NM := (rNa K PL SZ T S NM)) (by omega) hx (by decide) ((rS_sh hs hx (by decide)).trans hn2) ⟨hcn.1, hcn.2⟩ (fun j h0 h1 => ⟨(rS_sh hs hx (by decide)).trans (hL j h0 h1).1, (hL j h0 h1).2⟩) (fun j h0 h1 => ⟨rS_nm hs h0, rNa_rg hT (by omega) (hW _ h.1.1 h.1.2) hN j h0 h1⟩) (fun r f => ?_)
  have g := fnd_rg f
  refine r_i ?_
  refine w_istore c_30_18 (Nat.le_of_ble_eq_true rfl) rfl ?_
  refine w_iload c_30_19 rfl ?_
  refine z_push c_30_20 ?_
  refine z_ic_ne c_30_21 (by unfold aRg; omega) (by unfold aRg; omega) (fun h1_ => ?_) (fun h1_ => ?_)
  · refine w_iload c_30_30 rfl ?_
    refine z_ret c_30_31 rfl ?_
    have k2 := k r f
    first
    | (rw [if_pos (show r = -1 by omega)] at k2; exact k2)
    | (rw [if_neg (show ¬ r = -1 by omega)] at k2; exact k2)
  · refine w_aload c_30_24 rfl ?_
    refine z_push c_30_25 ?_
    refine w_iload c_30_26 rfl ?_
    refine wc_46 c_30_27 sp_2 (Nat.le_of_ble_eq_true rfl) (by omega) ?_
    refine ts_fail (rNm_g (kB_K hK) h).1 ?_
    refine r_v ?_
    refine w_iload c_30_30 rfl ?_
    refine z_ret c_30_31 rfl ?_
    have k2 := k r f
    first
    | (rw [if_pos (show r = -1 by omega)] at k2; exact k2)
    | (rw [if_neg (show ¬ r = -1 by omega)] at k2; exact k2)

