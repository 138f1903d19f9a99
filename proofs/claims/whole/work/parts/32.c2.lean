/-! the class: Sums; the reader with its sums (c2.py) -/
def aSm (s : Nat) : Prop := s = 18 ∨ s = 32 ∨ s = 110
section SM
variable {s sh : Nat} {su : Option Nat}
theorem sm_0 (h : aSm s) : S0[s]? = some (none, 7) := by rcases h with rfl | rfl | rfl <;> rfl
theorem sm_1 (h : aSm s) : S0[s + 1]? = some (some .int, 1600) := by rcases h with rfl | rfl | rfl <;> rfl
theorem sm_2 (h : aSm s) : S0[s + 2]? = some (some .int, 4) := by rcases h with rfl | rfl | rfl <;> rfl
theorem sm_3 (h : aSm s) : S0[s + 3]? = some (some .int, 4) := by rcases h with rfl | rfl | rfl <;> rfl
theorem pm_0 (h : aSm s) : aR sh su s 0 = some (s + 1) := by rcases h with rfl | rfl | rfl <;> rfl
theorem pm_1 (h : aSm s) : aR sh su s 1 = some (s + 2) := by rcases h with rfl | rfl | rfl <;> rfl
theorem pm_2 (h : aSm s) : aR sh su s 2 = some (s + 3) := by rcases h with rfl | rfl | rfl <;> rfl
end SM
def cU (C : Int → Int) (j x : Int) : Int → Int := fun i => if i = j then x else C i
/-- a sums' length and its row of codes over the rest -/
def oU (I : aFI) (s : Nat) (ln : Int) (C : Int → Int) : aFI := fun q k => if q = s ∧ k = 3 then iI ln else if q = s + 1 then iI (C k) else I q k
section OU
variable {I : aFI} {s : Nat} {ln a op f pl x j : Int} {C : Int → Int}
theorem oU_ln : aUp (oU I s ln C) s 3 (iI x) = oU I s x C := by
  funext q k; unfold aUp oU; by_cases h : q = s ∧ k = 3 <;> simp only [h, if_true, if_false, and_self]
theorem oU_c (hj : 0 ≤ j) : aUp (oU I s ln C) (s + 1) j.toNat (iI x) = oU I s ln (cU C j x) := by
  funext q k; unfold aUp oU cU
  by_cases h1 : q = s + 1
  · subst h1
    have e1 : ¬ (s + 1 = s ∧ k = 3) := fun z => by omega
    rw [if_neg e1, if_neg e1, if_pos rfl, if_pos rfl]
    by_cases h2 : k = j.toNat
    · rw [if_pos ⟨rfl, h2⟩, if_pos (by omega)]
    · rw [if_neg (fun z => h2 z.2), if_neg (by omega)]
  · rw [if_neg (fun z => h1 z.1), if_neg h1, if_neg h1]
theorem oQ_ln (h : aSm s) : aUp (oR (oU I s ln C) a op f pl) s 3 (iI x) = oR (oU I s x C) a op f pl := by
  rw [oR_out (by rcases h with rfl | rfl | rfl <;> omega), oU_ln]
theorem oQ_c (h : aSm s) (hj : 0 ≤ j) : aUp (oR (oU I s ln C) a op f pl) (s + 1) j.toNat (iI x) = oR (oU I s ln (cU C j x)) a op f pl := by
  rw [oR_out (by rcases h with rfl | rfl | rfl <;> omega), oU_c hj]
theorem rQ_ln (h : aSm s) : oR (oU I s ln C) a op f pl s 3 = iI ln := by rcases h with rfl | rfl | rfl <;> rfl
theorem kB_U {n : Int} {K PL SZ : Int → Int} (h : aSm s) (hK : kB I n K PL SZ) : kB (oU I s ln C) n K PL SZ := by rcases h with rfl | rfl | rfl <;> exact hK
end OU
set_option maxHeartbeats 1000000 in
theorem tc_put {d s : Nat} {I : aFI} {L : aFL} {Q : aPo} {a op f pl ln x : Int} {C : Int → Int} {sh : Nat} {su : Option Nat} (hs : aSm s) (hl : 0 ≤ ln ∧ ln ≤ 1600) (k1 : ln < 1600 → Q none (oR (oU I s (ln + 1) (cU C ln x)) a op f pl) L (aR sh su)) (k2 : ¬ ln < 1600 → Q none (oR (oU I s ln C) a op f pl) L (aR sh su)) : aWp none d 74 0 [.ref s, .int (iI x)] [] (oR (oU I s ln C) a op f pl) L (aR sh su) Q := by
  refine w_aload c_74_0 rfl ?_
  refine z_getZ c_74_1 (sm_0 hs) (by decide) rfl (rQ_ln hs) ?_
  refine w_aload c_74_4 rfl ?_
  refine w_getR c_74_5 (sm_0 hs) (by decide) rfl (pm_0 hs) ?_
  refine w_alen_i c_74_8 (sm_1 hs) (iI_nat _) ?_
  refine z_ic_ge c_74_9 (by unfold aRg; omega) (by unfold aRg; omega) (fun h1_ => ?_) (fun h1_ => ?_)
  · refine z_retv c_74_32 ?_
    first | exact k1 (by omega) | exact k2 (by omega)
  · refine w_aload c_74_12 rfl ?_
    refine w_getR c_74_13 (sm_0 hs) (by decide) rfl (pm_0 hs) ?_
    refine w_aload c_74_16 rfl ?_
    refine z_getZ c_74_17 (sm_0 hs) (by decide) rfl (rQ_ln hs) ?_
    refine w_iload c_74_20 rfl ?_
    refine z_iastore c_74_21 (sm_1 hs) (by omega) (by decide) ?_
    rw [oQ_c hs (by omega)]
    refine w_aload c_74_22 rfl ?_
    refine w_dup c_74_23 rfl ?_
    refine z_getZ c_74_24 (sm_0 hs) (by decide) rfl (rQ_ln hs) ?_
    refine z_push c_74_27 ?_
    refine z_iadd c_74_28 ?_
    refine z_putZ c_74_29 (sm_0 hs) (by decide) rfl ?_
    rw [oQ_ln hs]
    refine z_retv c_74_32 ?_
    first | exact k1 (by omega) | exact k2 (by omega)

set_option maxHeartbeats 1000000 in
theorem tc_isTold {d s : Nat} {I : aFI} {L : aFL} {Q : aPo} {r v : Int} {sh : Nat} {su : Option Nat} (hs : aSm s) (hr : 0 ≤ r ∧ r < 4) (hv : I (s + 2) r.toNat = iI v) (hv2 : -1 ≤ v ∧ v ≤ 1600) (k : Q (some (.int (aBo (decide (¬ v = -1))))) I L (aR sh su)) : aWp none d 73 0 [.ref s, .int (iI r)] [] I L (aR sh su) Q := by
  refine w_aload c_73_0 rfl ?_
  refine w_getR c_73_1 (sm_0 hs) (by decide) rfl (pm_1 hs) ?_
  refine w_iload c_73_4 rfl ?_
  refine z_iaload c_73_5 (sm_2 hs) (by omega) (by first | decide | omega) hv ?_
  refine z_push c_73_6 ?_
  refine z_ic_eq c_73_7 (by unfold aRg; omega) (by unfold aRg; omega) (fun h1_ => ?_) (fun h1_ => ?_)
  · refine z_push c_73_14 ?_
    refine z_ret0 c_73_15 rfl ?_
    have h9 : decide (¬ v = -1) = false := decide_eq_false (by omega)
    rw [h9] at k
    exact k
  · refine z_push c_73_10 ?_
    refine w_goto c_73_11 ?_
    refine z_ret1 c_73_15 rfl ?_
    have h9 : decide (¬ v = -1) = true := decide_eq_true (by omega)
    rw [h9] at k
    exact k

