/-! the class: the mark of a word (p9y.py) -/
def WZ (j : Int) : Int := ((WD[j.toNat]?).getD 0).toInt
theorem wd_len : WD.length = 201 := by decide +kernel
def wq (j : Nat) : Nat := (wids[j]?).getD 0
def wps : Nat → Int
  | 0 => 0
  | j + 1 => wps j + (WL (wq j)).length + 1
theorem ws_tab : (List.range 38).all (fun j => decide (WZ (wps j + (WL (wq j)).length) = 32 ∧ 0 < (WL (wq j)).length) && (List.range (WL (wq j)).length).all (fun i => decide (WZ (wps j + (i : Nat)) = Wf (wq j) (i : Nat) ∧ 97 ≤ Wf (wq j) (i : Nat) ∧ Wf (wq j) (i : Nat) ≤ 122))) = true := by decide +kernel
theorem wps_end : wps 38 = 201 := by decide +kernel
theorem ws_at {j : Nat} (hj : j < 38) : WZ (wps j + (WL (wq j)).length) = 32 ∧ (0 < (WL (wq j)).length) ∧ ∀ i : Int, 0 ≤ i → i < (WL (wq j)).length → WZ (wps j + i) = Wf (wq j) i ∧ 97 ≤ Wf (wq j) i ∧ Wf (wq j) i ≤ 122 := by
  have h := List.all_eq_true.mp ws_tab j (List.mem_range.mpr hj)
  rw [Bool.and_eq_true, decide_eq_true_eq] at h
  refine ⟨h.1.1, h.1.2, fun i h1 h2 => ?_⟩
  have h3 := List.all_eq_true.mp h.2 i.toNat (List.mem_range.mpr (by omega))
  rw [decide_eq_true_eq, Int.toNat_of_nonneg h1] at h3
  exact h3
theorem wps_le : ∀ d : Nat, d ≤ 38 → wps (38 - d) + d ≤ 201
  | 0, _ => by rw [Nat.sub_zero, wps_end]; decide
  | d + 1, h => by
    have h1 := wps_le d (by omega)
    have h2 : wps (38 - d) = wps (38 - (d + 1)) + (WL (wq (38 - (d + 1)))).length + 1 := by
      rw [show 38 - d = (38 - (d + 1)) + 1 by omega]; rfl
    omega
theorem wps_0 : ∀ j : Nat, 0 ≤ wps j
  | 0 => Int.le_refl 0
  | j + 1 => by have := wps_0 j; show 0 ≤ wps j + _ + 1; omega
theorem wps_b {j : Nat} (hj : j ≤ 38) : 0 ≤ wps j ∧ wps j ≤ 201 := by
  have h := wps_le (38 - j) (by omega)
  rw [show 38 - (38 - j) = j by omega] at h
  have := wps_0 j
  omega
theorem wps_rg {j : Nat} (hj : j < 38) : 0 ≤ wps j ∧ wps j + (WL (wq j)).length < 201 := by
  have h := wps_le (38 - (j + 1)) (by omega)
  rw [show 38 - (38 - (j + 1)) = j + 1 by omega] at h
  have h2 : wps (j + 1) = wps j + (WL (wq j)).length + 1 := rfl
  have := wps_0 j
  omega
/-- the letters at a are the word q -/
def isW (T : Int → Int) (a b : Int) (q : Nat) : Prop := b - a = (WL q).length ∧ ∀ i : Int, 0 ≤ i → i < (WL q).length → T (a + i) = Wf q i
theorem wrd_isW {T : Int → Int} {n p : Int} {q : Nat} : wrd T n p = WL q ↔ isW T p (wend T n p) q := by
  rw [← wrd_wm, wm_iff]; exact Iff.rfl
theorem wids_d {j : Nat} (hj : j < 38) : wids.drop j = wq j :: wids.drop (j + 1) := by
  have hl : wids.length = 38 := by decide +kernel
  have h := List.drop_eq_getElem_cons (l := wids) (i := j) (by omega)
  have : wq j = wids[j] := by unfold wq; rw [List.getElem?_eq_getElem (by omega)]; rfl
  rw [this]; exact h
section ZSTR
variable {sc : aSc} {d y pc nx : Nat} {ls st : List Value} {I : aFI} {L : aFL} {R : aFR} {Q : aPo}
theorem z_slen {i0 : Nat} (hc : aCod y pc = some (.invokeinterface 4 i0, nx)) (hd : 3 ≤ d) (hs : aCat st ≤ 8) (k : aWp sc d y nx ls (.int (iI 201) :: st) I L R Q) : aWp sc d y pc ls (.ref aSTR :: st) I L R Q := w_strlen hc (by omega) (by rw [wd_len]; exact iI_nat 201) k
theorem z_schar {i0 : Nat} {j : Int} (hc : aCod y pc = some (.invokeinterface 5 i0, nx)) (hd : 3 ≤ d) (hs : aCat st ≤ 8) (hj : 0 ≤ j ∧ j < 201) (k : aWp sc d y nx ls (.int (iI (WZ j)) :: st) I L R Q) : aWp sc d y pc ls (.int (iI j) :: .ref aSTR :: st) I L R Q := w_strchar hc (by omega) (by have := iI_in (z := j) (n := 201) (by omega) (by decide); exact fun z => this (Or.inl z)) (by
  rw [iI_clamp (by omega)]
  unfold WZ
  rw [List.getElem?_eq_getElem (by rw [wd_len]; omega)]
  exact congrArg some (iI_of _)) k
end ZSTR
theorem WZ_rg (j : Int) : aRg (WZ j) := aRg_of _
set_option maxHeartbeats 2000000 in
theorem tc_wm_20 {d : Nat} {I : aFI} {L : aFL} {Q : aPo} {T : Int → Int} {sh : Nat} {su : Option Nat} {a b : Int} (hT : ∀ j : Int, 0 ≤ j → j < 1600 → I 1 j.toNat = iI (T j)) (hTr : ∀ j : Int, 0 ≤ T j ∧ T j < 256) (hab : 0 ≤ a ∧ a ≤ b ∧ b ≤ 1600) (hd : 3 ≤ d) {mk p : Int} (hp : 0 ≤ p ∧ p ≤ 201) (k : ∀ i : Int, 0 ≤ i → p + i ≤ 201 → a + i ≤ b → (∀ q : Int, 0 ≤ q → q < i → WZ (p + q) = T (a + q)) → (p + i = 201 ∨ a + i = b ∨ ¬ WZ (p + i) = T (a + i)) → aWp none d 18 66 [.ref 1, .int (iI a), .int (iI b), .int (iI mk), .int (iI p), .int (iI i)] [] I L (aR sh su) Q) : ∀ (fz : Nat) (i : Int), (b - a - i).toNat + 1 < fz → (0 ≤ i) → (p + i ≤ 201) → (a + i ≤ b) → (∀ q : Int, 0 ≤ q → q < i → WZ (p + q) = T (a + q)) → aWp none d 18 20 [.ref 1, .int (iI a), .int (iI b), .int (iI mk), .int (iI p), .int (iI i)] [] I L (aR sh su) Q := by
  intro fz
  induction fz with
  | zero => intro i h; omega
  | succ fz ih =>
    intro i hn2 h0 h1 h2 hm
    refine w_iload c_18_20 rfl ?_
    refine w_iload c_18_22 rfl ?_
    refine z_iadd c_18_24 ?_
    refine w_ldcS c_18_25 ?_
    refine z_slen c_18_27 (by omega) (Nat.le_of_ble_eq_true rfl) ?_
    refine z_ic_ge c_18_30 (by first | exact aRg_of _ | (unfold aRg; omega)) (by first | exact aRg_of _ | (unfold aRg; omega)) (fun h1_ => ?_) (fun h1_ => ?_)
    · exact k i h0 h1 h2 hm (by omega)
    · refine w_iload c_18_33 rfl ?_
      refine w_iload c_18_34 rfl ?_
      refine z_iadd c_18_36 ?_
      refine w_iload c_18_37 rfl ?_
      refine z_ic_ge c_18_38 (by first | exact aRg_of _ | (unfold aRg; omega)) (by first | exact aRg_of _ | (unfold aRg; omega)) (fun h2_ => ?_) (fun h2_ => ?_)
      · exact k i h0 h1 h2 hm (by omega)
      · refine w_ldcS c_18_41 ?_
        refine w_iload c_18_43 rfl ?_
        refine w_iload c_18_45 rfl ?_
        refine z_iadd c_18_47 ?_
        refine z_schar c_18_48 (by omega) (Nat.le_of_ble_eq_true rfl) (by omega) ?_
        refine w_aload c_18_51 rfl ?_
        refine w_iload c_18_52 rfl ?_
        refine w_iload c_18_53 rfl ?_
        refine z_iadd c_18_55 ?_
        refine z_iaload c_18_56 sp_1 (by omega) (by first | decide | omega) (hT _ (by omega) (by omega)) ?_
        have hwz := WZ_rg (p + i)
        have htr := hTr (a + i)
        refine z_ic_ne c_18_57 (by first | exact aRg_of _ | (unfold aRg; omega)) (by first | exact aRg_of _ | (unfold aRg; omega)) (fun h3_ => ?_) (fun h3_ => ?_)
        · exact k i h0 h1 h2 hm (by omega)
        · refine z_iinc c_18_60 rfl rfl ?_
          refine w_goto c_18_63 ?_
          refine ih (i + 1) (by omega) (by omega) (by omega) (by omega) (fun q z1 z2 => ?_)
          by_cases hq : q = i
          · subst hq; omega
          · exact hm q z1 (by omega)

set_option maxHeartbeats 2000000 in
theorem tc_wm_104 {d : Nat} {I : aFI} {L : aFL} {Q : aPo} {sh : Nat} {su : Option Nat} {a b : Int} (hd : 3 ≤ d) {mk i : Int} {e : Int} (he : e < 201) (h32 : WZ e = 32) (k : aWp none d 18 132 [.ref 1, .int (iI a), .int (iI b), .int (iI mk), .int (iI e), .int (iI i)] [] I L (aR sh su) Q) : ∀ (fz : Nat) (p : Int), (e - p).toNat < fz → (0 ≤ p) → (p ≤ e) → (∀ q : Int, p ≤ q → q < e → ¬ WZ q = 32) → aWp none d 18 104 [.ref 1, .int (iI a), .int (iI b), .int (iI mk), .int (iI p), .int (iI i)] [] I L (aR sh su) Q := by
  intro fz
  induction fz with
  | zero => intro p h; omega
  | succ fz ih =>
    intro p hn2 h0 h1 hm
    refine w_iload c_18_104 rfl ?_
    refine w_ldcS c_18_106 ?_
    refine z_slen c_18_108 (by omega) (Nat.le_of_ble_eq_true rfl) ?_
    refine z_ic_ge c_18_111 (by first | exact aRg_of _ | (unfold aRg; omega)) (by first | exact aRg_of _ | (unfold aRg; omega)) (fun h1_ => ?_) (fun h1_ => ?_)
    · have hpe : p = e := by
        by_cases z : p = e
        · exact z
        · exfalso
          have := hm p (Int.le_refl p) (by omega)
          omega
      rw [hpe]; exact k
    · refine w_ldcS c_18_114 ?_
      refine w_iload c_18_116 rfl ?_
      refine z_schar c_18_118 (by omega) (Nat.le_of_ble_eq_true rfl) (by omega) ?_
      refine z_push c_18_121 ?_
      have hwz := WZ_rg p
      refine z_ic_eq c_18_123 (by first | exact aRg_of _ | (unfold aRg; omega)) (by first | exact aRg_of _ | (unfold aRg; omega)) (fun h2_ => ?_) (fun h2_ => ?_)
      · have hpe : p = e := by
          by_cases z : p = e
          · exact z
          · exfalso
            have := hm p (Int.le_refl p) (by omega)
            omega
        rw [hpe]; exact k
      · refine z_iinc c_18_126 rfl rfl ?_
        refine w_goto c_18_129 ?_
        refine ih (p + 1) ?_ (by omega) ?_ (fun q z1 z2 => hm q (by omega) z2)
        · have : ¬ p = e := fun z => by subst z; omega
          omega
        · have : ¬ p = e := fun z => by subst z; omega
          omega

theorem wkL_st {l : List Int} {q : Nat} {r : List Nat} {c : Int} : wkL l (q :: r) c = if l = WL q then c else wkL l r (c + 1) := rfl
set_option maxHeartbeats 2000000 in
theorem tc_wm_7 {d : Nat} {I : aFI} {L : aFL} {Q : aPo} {T : Int → Int} {sh : Nat} {su : Option Nat} {a b : Int} (hT : ∀ j : Int, 0 ≤ j → j < 1600 → I 1 j.toNat = iI (T j)) (hTr : ∀ j : Int, 0 ≤ T j ∧ T j < 256) (hab : 0 ≤ a ∧ a ≤ b ∧ b ≤ 1600) (hd : 3 ≤ d) (hab2 : a < b) (hlt : ∀ i : Int, a ≤ i → i < b → 97 ≤ T i ∧ T i ≤ 122) {n : Int} (hb : b = wend T n a) {z0 : Value} (k : Q (some (.int (iI (wkC (wrd T n a))))) I L (aR sh su)) : ∀ (fz : Nat) (j : Nat) (z : Value), 38 - j < fz → (j ≤ 38) → (wkC (wrd T n a) = wkL (wrd T n a) (wids.drop j) (300 + (j : Int))) → aWp none d 18 7 [.ref 1, .int (iI a), .int (iI b), .int (iI (300 + (j : Int))), .int (iI (wps j)), z] [] I L (aR sh su) Q := by
  intro fz
  induction fz with
  | zero => intro j z h; omega
  | succ fz ih =>
    intro j z hn2 h1 hk
    have hw9 := wps_b h1
    refine w_iload c_18_7 rfl ?_
    refine w_ldcS c_18_9 ?_
    refine z_slen c_18_11 (by omega) (Nat.le_of_ble_eq_true rfl) ?_
    refine z_ic_ge c_18_14 (by first | exact aRg_of _ | (unfold aRg; omega)) (by first | exact aRg_of _ | (unfold aRg; omega)) (fun h1_ => ?_) (fun h1_ => ?_)
    · refine z_push c_18_141 ?_
      refine z_ret c_18_144 rfl ?_
      have hj : j = 38 := by
        by_cases z : j = 38
        · exact z
        · exfalso
          have := wps_rg (j := j) (by omega)
          omega
      rw [hk, hj] at k
      have hd0 : wids.drop 38 = [] := by decide +kernel
      rw [hd0] at k
      exact k
    · refine z_push c_18_17 ?_
      refine w_istore c_18_18 (Nat.le_of_ble_eq_true rfl) rfl ?_
      have hj38 : j < 38 := by
        by_cases z : j < 38
        · exact z
        · exfalso
          have hj9 : j = 38 := by omega
          have := wps_end
          rw [← hj9] at this
          omega
      have hrg := wps_rg hj38
      have htb := ws_at hj38
      have hpp : 0 ≤ wps j ∧ wps j ≤ 201 := by omega
      rw [wids_d hj38] at hk
      refine tc_wm_20 hT hTr hab hd (p := wps j) hpp ?_ _ 0 (Nat.lt_succ_self _) (by decide) (by omega) (by omega) (fun q z1 z2 => by omega)
      intro i h0 h2 h3 hm hx
      have hs := wkL_st (l := wrd T n a) (q := wq j) (r := wids.drop (j + 1)) (c := 300 + (j : Int))
      refine w_iload c_18_66 rfl ?_
      refine w_iload c_18_67 rfl ?_
      refine z_iadd c_18_69 ?_
      refine w_iload c_18_70 rfl ?_
      refine z_ic_ne c_18_71 (by first | exact aRg_of _ | (unfold aRg; omega)) (by first | exact aRg_of _ | (unfold aRg; omega)) (fun h21_ => ?_) (fun h21_ => ?_)
      · have hno : ¬ isW T a b (wq j) := by
          intro y
          have y1 := y.1
          rcases hx with hx | hx | hx
          · omega
          · have : i = (WL (wq j)).length := by omega
            subst this
            have h9 := htb.1
            omega
          · by_cases hi : i < (WL (wq j)).length
            · exact hx ((htb.2.2 i h0 hi).1.trans (y.2 i h0 hi).symm)
            · have : i = (WL (wq j)).length := by omega
              subst this
              have h9 := htb.1
              omega
        rw [if_neg (fun y => hno (hb ▸ wrd_isW.mp y))] at hs
        rw [hs] at hk
        refine tc_wm_104 hd (e := wps j + (WL (wq j)).length) (by omega) htb.1 ?_ _ (wps j) (Nat.lt_succ_self _) (by omega) (by omega) (fun q z1 z2 => ?_)
        rotate_left
        · have h9 := htb.2.2 (q - wps j) (by omega) (by omega)
          rw [show wps j + (q - wps j) = q by omega] at h9
          omega
        refine z_iinc c_18_132 rfl rfl ?_
        refine z_iinc c_18_135 rfl rfl ?_
        refine w_goto c_18_138 ?_
        rw [show wps j + (WL (wq j)).length + 1 = wps (j + 1) from rfl, show (300 : Int) + (j : Int) + 1 = 300 + ((j + 1 : Nat) : Int) by omega]
        refine ih (j + 1) _ (by omega) (by omega) ?_
        · rw [hk]; congr 1
      · refine w_iload c_18_74 rfl ?_
        refine w_iload c_18_76 rfl ?_
        refine z_iadd c_18_78 ?_
        refine w_ldcS c_18_79 ?_
        refine z_slen c_18_81 (by omega) (Nat.le_of_ble_eq_true rfl) ?_
        refine z_ic_ge c_18_84 (by first | exact aRg_of _ | (unfold aRg; omega)) (by first | exact aRg_of _ | (unfold aRg; omega)) (fun h22_ => ?_) (fun h22_ => ?_)
        · have hno : ¬ isW T a b (wq j) := by
            intro y
            have y1 := y.1
            rcases hx with hx | hx | hx
            · omega
            · have : i = (WL (wq j)).length := by omega
              subst this
              have h9 := htb.1
              omega
            · by_cases hi : i < (WL (wq j)).length
              · exact hx ((htb.2.2 i h0 hi).1.trans (y.2 i h0 hi).symm)
              · have : i = (WL (wq j)).length := by omega
                subst this
                have h9 := htb.1
                omega
          rw [if_neg (fun y => hno (hb ▸ wrd_isW.mp y))] at hs
          rw [hs] at hk
          refine tc_wm_104 hd (e := wps j + (WL (wq j)).length) (by omega) htb.1 ?_ _ (wps j) (Nat.lt_succ_self _) (by omega) (by omega) (fun q z1 z2 => ?_)
          rotate_left
          · have h9 := htb.2.2 (q - wps j) (by omega) (by omega)
            rw [show wps j + (q - wps j) = q by omega] at h9
            omega
          refine z_iinc c_18_132 rfl rfl ?_
          refine z_iinc c_18_135 rfl rfl ?_
          refine w_goto c_18_138 ?_
          rw [show wps j + (WL (wq j)).length + 1 = wps (j + 1) from rfl, show (300 : Int) + (j : Int) + 1 = 300 + ((j + 1 : Nat) : Int) by omega]
          refine ih (j + 1) _ (by omega) (by omega) ?_
          · rw [hk]; congr 1
        · refine w_ldcS c_18_87 ?_
          refine w_iload c_18_89 rfl ?_
          refine w_iload c_18_91 rfl ?_
          refine z_iadd c_18_93 ?_
          refine z_schar c_18_94 (by omega) (Nat.le_of_ble_eq_true rfl) (by omega) ?_
          refine z_push c_18_97 ?_
          have hwz := WZ_rg (wps j + i)
          refine z_ic_ne c_18_99 (by first | exact aRg_of _ | (unfold aRg; omega)) (by first | exact aRg_of _ | (unfold aRg; omega)) (fun h23_ => ?_) (fun h23_ => ?_)
          · have hno : ¬ isW T a b (wq j) := by
              intro y
              have y1 := y.1
              rcases hx with hx | hx | hx
              · omega
              · have : i = (WL (wq j)).length := by omega
                subst this
                have h9 := htb.1
                omega
              · by_cases hi : i < (WL (wq j)).length
                · exact hx ((htb.2.2 i h0 hi).1.trans (y.2 i h0 hi).symm)
                · have : i = (WL (wq j)).length := by omega
                  subst this
                  have h9 := htb.1
                  omega
            rw [if_neg (fun y => hno (hb ▸ wrd_isW.mp y))] at hs
            rw [hs] at hk
            refine tc_wm_104 hd (e := wps j + (WL (wq j)).length) (by omega) htb.1 ?_ _ (wps j) (Nat.lt_succ_self _) (by omega) (by omega) (fun q z1 z2 => ?_)
            rotate_left
            · have h9 := htb.2.2 (q - wps j) (by omega) (by omega)
              rw [show wps j + (q - wps j) = q by omega] at h9
              omega
            refine z_iinc c_18_132 rfl rfl ?_
            refine z_iinc c_18_135 rfl rfl ?_
            refine w_goto c_18_138 ?_
            rw [show wps j + (WL (wq j)).length + 1 = wps (j + 1) from rfl, show (300 : Int) + (j : Int) + 1 = 300 + ((j + 1 : Nat) : Int) by omega]
            refine ih (j + 1) _ (by omega) (by omega) ?_
            · rw [hk]; congr 1
          · refine w_iload c_18_102 rfl ?_
            refine z_ret c_18_103 rfl ?_
            have h32 : WZ (wps j + i) = 32 := by omega
            have hiw : isW T a b (wq j) := by
              have hge : ((WL (wq j)).length : Int) ≤ i := by
                by_cases z : ((WL (wq j)).length : Int) ≤ i
                · exact z
                · exfalso
                  have := htb.2.2 i h0 (by omega)
                  omega
              have hle : i ≤ (WL (wq j)).length := by
                by_cases z : i ≤ (WL (wq j)).length
                · exact z
                · exfalso
                  have h5 := hm (WL (wq j)).length (by omega) (by omega)
                  have h6 := hlt (a + (WL (wq j)).length) (by omega) (by omega)
                  rw [htb.1] at h5
                  omega
              exact ⟨by omega, fun q z1 z2 => (hm q z1 (by omega)).symm.trans (htb.2.2 q z1 z2).1⟩
            rw [if_pos (wrd_isW.mpr (hb ▸ hiw))] at hs
            rw [hk, hs] at k
            exact k

set_option maxHeartbeats 1000000 in
theorem tc_wordMark {d : Nat} {I : aFI} {L : aFL} {Q : aPo} {T : Int → Int} {sh : Nat} {su : Option Nat} {a b : Int} (hT : ∀ j : Int, 0 ≤ j → j < 1600 → I 1 j.toNat = iI (T j)) (hTr : ∀ j : Int, 0 ≤ T j ∧ T j < 256) (hab : 0 ≤ a ∧ a ≤ b ∧ b ≤ 1600) (hd : 3 ≤ d) (hab2 : a < b) (hlt : ∀ i : Int, a ≤ i → i < b → 97 ≤ T i ∧ T i ≤ 122) {n : Int} (hb : b = wend T n a) (k : Q (some (.int (iI (wkC (wrd T n a))))) I L (aR sh su)) : aWp none d 18 0 [.ref 1, .int (iI a), .int (iI b), .null, .null, .null] [] I L (aR sh su) Q := by
  refine z_push c_18_0 ?_
  refine w_istore c_18_3 (Nat.le_of_ble_eq_true rfl) rfl ?_
  refine z_push c_18_4 ?_
  refine w_istore c_18_5 (Nat.le_of_ble_eq_true rfl) rfl ?_
  exact tc_wm_7 hT hTr hab hd hab2 hlt hb (z0 := .null) k _ 0 _ (Nat.lt_succ_self _) (by decide) rfl

