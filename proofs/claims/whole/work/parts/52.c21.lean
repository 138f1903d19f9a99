/-! the class: reckon (p52.py) -/
/-- the stack's row, the top first -/
def stR (I : aFI) : List Int → Prop
  | [] => True
  | v :: r => I 43 r.length = iI v ∧ stR I r
theorem stR.fr {I I2 : aFI} : ∀ {st : List Int}, stR I st → (∀ k : Nat, k < st.length → I2 43 k = I 43 k) → stR I2 st
  | [], _, _ => trivial
  | v :: r, h, hf => ⟨(hf r.length (by simp only [List.length_cons]; omega)).trans h.1, stR.fr h.2 (fun k hk => hf k (by simp only [List.length_cons]; omega))⟩
theorem stR.top {I : aFI} {v : Int} {st : List Int} (h : stR I (v :: st)) {j : Int} (hj : j = st.length) : I 43 j.toNat = iI v := by subst hj; exact h.1
theorem stR.set {I : aFI} {v j : Int} {st : List Int} (h : stR I st) (hj : j = st.length) : stR (aUp I 43 j.toNat (iI v)) (v :: st) := by
  subst hj
  refine ⟨by unfold aUp; rw [if_pos ⟨rfl, rfl⟩], h.fr (fun k hk => ?_)⟩
  unfold aUp; rw [if_neg (by rintro ⟨-, z⟩; omega)]
/-- a row of marks from fr on -/
def codeAt (I : aFI) (s : Nat) : Int → List Int → Prop
  | _, [] => True
  | fr, m :: r => I (s + 1) fr.toNat = iI m ∧ codeAt I s (fr + 1) r
theorem codeAt.fr {I I2 : aFI} {s : Nat} : ∀ {fr : Int} {l : List Int}, codeAt I s fr l → (∀ k : Nat, I2 (s + 1) k = I (s + 1) k) → codeAt I2 s fr l
  | _, [], _, _ => trivial
  | _, _ :: _, h, hf => ⟨(hf _).trans h.1, codeAt.fr h.2 hf⟩
theorem tyM_len {m : Int} {a c : List Bool} (h : tyM m a c) (hl : a.length ≤ 64) : c.length ≤ 64 := by
  rcases h with ⟨-, r, rfl, rfl⟩ | ⟨-, r, rfl, rfl⟩ | ⟨-, r, rfl, rfl⟩ | ⟨-, r, rfl, rfl⟩ | ⟨-, r, rfl, rfl⟩ | ⟨-, h, rfl⟩ | ⟨-, h, rfl⟩ <;> simp only [List.length_cons] at * <;> omega
theorem up43 {I I0 : aFI} {j : Nat} {v : Int32} (hf : ∀ q k : Nat, ¬ q = 43 → I q k = I0 q k) : ∀ q k : Nat, ¬ q = 43 → aUp I 43 j v q k = I0 q k := by
  intro q k h
  unfold aUp; rw [if_neg (fun z => h z.1)]; exact hf q k h
theorem lk43 {q : Nat} (h : aLk0 q) : q + 2 < 43 ∨ 45 < q := by
  rcases h with rfl | rfl | rfl | ⟨k, hk, rfl⟩ <;> omega
set_option maxHeartbeats 2000000 in
theorem tc_reckon_1 {d : Nat} {L : aFL} {Q : aPo} {sh : Nat} {su : Option Nat} {q s : Nat} {D : Nat → Int → Int} {s0 b g w kc : Int} {ink age : Int → Int} {de dr r fr to : Int} {t : Bool} {I0 : aFI} (hsh : sh = 8 ∨ sh = 22) (hl : aLk0 q) (hs : aSm s) (hD : cD I0 sh D) (hL : isLk I0 q s0 b g w kc ink age) (hdr : I0 42 1 = iI dr) (hd : 3 ≤ d) (hde : 0 ≤ de ∧ de < 8) (hv : 0 ≤ D 6 de ∧ D 6 de < 6) (hb : 0 ≤ b ∧ b < 100000) (hg : 0 ≤ g ∧ g < 100000) (hE : eOK (envZ D s0 b g ink age de dr)) (hr : 0 ≤ r ∧ r < 4) (hto : I0 (s + 3) r.toNat = iI to) (htr : 0 ≤ to ∧ to ≤ 1600) : ∀ (n : Nat) (l : List Int) (ts : List Bool) (st : List Int) (dp k : Int) (I : aFI) (v7 : Value), l.length < n → (0 ≤ k ∧ k + l.length = to) → (codeAt I0 s k l) → (tyC l ts [t]) → (ts.length ≤ 64) → (stOK ts st) → (stR I st) → (dp = st.length) → (∀ q k : Nat, ¬ q = 43 → I q k = I0 q k) → (∀ I2 : aFI, (∀ q k : Nat, ¬ q = 43 → I2 q k = I0 q k) → Q (some (.int (iI ((evC (envZ D s0 b g ink age de dr) (D 6 de) l st).headD 0)))) I2 L (aR sh su)) → aWp none d 55 15 [.ref 42, .ref s, .int (iI r), .ref q, .int (iI de), .int (iI dp), .int (iI k), v7] [] I L (aR sh su) Q := by
  intro n
  induction n with
  | zero => intro l ts st dp k I v7 h; omega
  | succ n ih =>
    intro l ts st dp k I v7 hn hk hc ht hle hs2 hrw hdp hf kk
    have hst := stOK_len hs2
    rcases l with _ | ⟨m, l⟩
    · have hk2 : k = to := by simpa using hk.2
      cases ht
      rcases st with _ | ⟨v, _ | ⟨v2, st⟩⟩
      · exact hs2.elim
      · have hdp : dp = 1 := hdp
        refine w_iload c_55_15 rfl ?_
        refine w_aload c_55_17 rfl ?_
        refine w_getR c_55_18 (sm_0 hs) (by decide) rfl (pm_2 hs) ?_
        refine w_iload c_55_21 rfl ?_
        refine z_iaload c_55_22 (sm_3 hs) (by omega) (by first | decide | omega) ((hf _ _ (by rcases hs with rfl | rfl | rfl <;> decide)).trans hto) ?_
        refine z_ic_ge c_55_23 (by first | exact aRg_of _ | (unfold aRg; omega)) (by first | exact aRg_of _ | (unfold aRg; omega)) (fun h1_ => ?_) (fun h1_ => ?_)
        rotate_left
        · exfalso; omega
        refine w_iload c_55_207 rfl ?_
        refine z_if_ne c_55_209 (by first | exact aRg_of _ | (unfold aRg; omega)) (fun h2_ => ?_) (fun h2_ => ?_)
        rotate_left
        · exfalso; omega
        refine w_aload c_55_216 rfl ?_
        refine w_getR c_55_217 sp_42 (by decide) rfl pr_42_2 ?_
        refine w_iload c_55_220 rfl ?_
        refine z_push c_55_222 ?_
        refine z_isub c_55_223 ?_
        refine z_iaload c_55_224 sp_43 (by omega) (by first | decide | omega) (hrw.top (by simp only [List.length_nil]; omega)) ?_
        refine z_ret c_55_225 rfl ?_
        exact kk I hf
      · exact hs2.2.elim
    · simp only [List.length_cons] at hk hn
      obtain ⟨c, hty, hty2⟩ := ht
      have hok := evM_ok (vl := D 6 de) hE hty hs2
      have hk2 : k < to := by omega
      have ih2 : ∀ (dp2 : Int) (I2 : aFI) (v : Value), stR I2 (evM (envZ D s0 b g ink age de dr) (D 6 de) m st) → dp2 = (evM (envZ D s0 b g ink age de dr) (D 6 de) m st).length → (∀ q k : Nat, ¬ q = 43 → I2 q k = I0 q k) → aWp none d 55 15 [.ref 42, .ref s, .int (iI r), .ref q, .int (iI de), .int (iI dp2), .int (iI (k + 1)), v] [] I2 L (aR sh su) Q := fun dp2 I2 v h1 h2 h3 => ih l c _ dp2 (k + 1) I2 v (by omega) (by omega) hc.2 hty2 (tyM_len hty hle) hok h1 h2 h3 kk
      rcases hty with ⟨rfl, r2, rfl, rfl⟩ | ⟨rfl, r2, rfl, rfl⟩ | ⟨hm, r2, rfl, rfl⟩ | ⟨hm, r2, rfl, rfl⟩ | ⟨hm, r2, rfl, rfl⟩ | ⟨rfl, hl2, rfl⟩ | ⟨hm, hl2, rfl⟩
      · rcases st with _ | ⟨v, st⟩
        · exact hs2.elim
        simp only [List.length_cons] at hst hdp hle
        have hv1 := hs2.1.2
        have hev : evM (envZ D s0 b g ink age de dr) (D 6 de) 328 (v :: st) = (1 - v) :: st := by unfold evM; rw [if_pos rfl]
        refine w_iload c_55_15 rfl ?_
        refine w_aload c_55_17 rfl ?_
        refine w_getR c_55_18 (sm_0 hs) (by decide) rfl (pm_2 hs) ?_
        refine w_iload c_55_21 rfl ?_
        refine z_iaload c_55_22 (sm_3 hs) (by omega) (by first | decide | omega) ((hf _ _ (by rcases hs with rfl | rfl | rfl <;> decide)).trans hto) ?_
        refine z_ic_ge c_55_23 (by first | exact aRg_of _ | (unfold aRg; omega)) (by first | exact aRg_of _ | (unfold aRg; omega)) (fun h1_ => ?_) (fun h1_ => ?_)
        · exfalso; omega
        refine w_aload c_55_26 rfl ?_
        refine w_getR c_55_27 (sm_0 hs) (by decide) rfl (pm_0 hs) ?_
        refine w_iload c_55_30 rfl ?_
        refine z_iaload c_55_32 (sm_1 hs) (by omega) (by first | decide | omega) (((hf _ _ (by rcases hs with rfl | rfl | rfl <;> decide)).trans hc.1)) ?_
        refine w_istore c_55_33 (Nat.le_of_ble_eq_true rfl) rfl ?_
        refine w_iload c_55_35 rfl ?_
        refine z_push c_55_37 ?_
        refine z_ic_ne c_55_40 (by first | exact aRg_of _ | (unfold aRg; omega)) (by first | exact aRg_of _ | (unfold aRg; omega)) (fun h2_ => ?_) (fun h2_ => ?_)
        · exfalso; omega
        refine w_iload c_55_43 rfl ?_
        refine z_push c_55_45 ?_
        refine z_ic_lt c_55_46 (by first | exact aRg_of _ | (unfold aRg; omega)) (by first | exact aRg_of _ | (unfold aRg; omega)) (fun h3_ => ?_) (fun h3_ => ?_)
        · exfalso; omega
        refine w_aload c_55_49 rfl ?_
        refine w_getR c_55_50 sp_42 (by decide) rfl pr_42_2 ?_
        refine w_iload c_55_53 rfl ?_
        refine z_push c_55_55 ?_
        refine z_isub c_55_56 ?_
        refine z_push c_55_57 ?_
        refine w_aload c_55_58 rfl ?_
        refine w_getR c_55_59 sp_42 (by decide) rfl pr_42_2 ?_
        refine w_iload c_55_62 rfl ?_
        refine z_push c_55_64 ?_
        refine z_isub c_55_65 ?_
        refine z_iaload c_55_66 sp_43 (by omega) (by first | decide | omega) (hrw.top (by omega)) ?_
        refine z_isub c_55_67 ?_
        refine z_iastore c_55_68 sp_43 (by omega) (by decide) ?_
        refine w_goto c_55_69 ?_
        refine z_iinc c_55_201 rfl rfl ?_
        refine w_goto c_55_204 ?_
        exact ih2 _ _ _ (by rw [hev]; exact hrw.2.set (by omega)) (by rw [hev]; simp only [List.length_cons]; omega) (up43 hf)
      · rcases st with _ | ⟨v, st⟩
        · exact hs2.elim
        simp only [List.length_cons] at hst hdp hle
        have hv1 := hs2.1.2
        have hev : evM (envZ D s0 b g ink age de dr) (D 6 de) 312 (v :: st) = (if v = D 6 de then 1 else 0) :: st := by unfold evM; rw [if_neg (by decide), if_pos rfl]
        refine w_iload c_55_15 rfl ?_
        refine w_aload c_55_17 rfl ?_
        refine w_getR c_55_18 (sm_0 hs) (by decide) rfl (pm_2 hs) ?_
        refine w_iload c_55_21 rfl ?_
        refine z_iaload c_55_22 (sm_3 hs) (by omega) (by first | decide | omega) ((hf _ _ (by rcases hs with rfl | rfl | rfl <;> decide)).trans hto) ?_
        refine z_ic_ge c_55_23 (by first | exact aRg_of _ | (unfold aRg; omega)) (by first | exact aRg_of _ | (unfold aRg; omega)) (fun h1_ => ?_) (fun h1_ => ?_)
        · exfalso; omega
        refine w_aload c_55_26 rfl ?_
        refine w_getR c_55_27 (sm_0 hs) (by decide) rfl (pm_0 hs) ?_
        refine w_iload c_55_30 rfl ?_
        refine z_iaload c_55_32 (sm_1 hs) (by omega) (by first | decide | omega) (((hf _ _ (by rcases hs with rfl | rfl | rfl <;> decide)).trans hc.1)) ?_
        refine w_istore c_55_33 (Nat.le_of_ble_eq_true rfl) rfl ?_
        refine w_iload c_55_35 rfl ?_
        refine z_push c_55_37 ?_
        refine z_ic_ne c_55_40 (by first | exact aRg_of _ | (unfold aRg; omega)) (by first | exact aRg_of _ | (unfold aRg; omega)) (fun h2_ => ?_) (fun h2_ => ?_)
        rotate_left
        · exfalso; omega
        refine w_iload c_55_72 rfl ?_
        refine z_push c_55_74 ?_
        refine z_ic_ne c_55_77 (by first | exact aRg_of _ | (unfold aRg; omega)) (by first | exact aRg_of _ | (unfold aRg; omega)) (fun h3_ => ?_) (fun h3_ => ?_)
        · exfalso; omega
        refine w_iload c_55_80 rfl ?_
        refine z_push c_55_82 ?_
        refine z_ic_lt c_55_83 (by first | exact aRg_of _ | (unfold aRg; omega)) (by first | exact aRg_of _ | (unfold aRg; omega)) (fun h4_ => ?_) (fun h4_ => ?_)
        · exfalso; omega
        refine w_aload c_55_86 rfl ?_
        refine w_getR c_55_87 sp_42 (by decide) rfl pr_42_2 ?_
        refine w_iload c_55_90 rfl ?_
        refine z_push c_55_92 ?_
        refine z_isub c_55_93 ?_
        refine w_aload c_55_94 rfl ?_
        refine w_getR c_55_95 sp_42 (by decide) rfl pr_42_2 ?_
        refine w_iload c_55_98 rfl ?_
        refine z_push c_55_100 ?_
        refine z_isub c_55_101 ?_
        refine z_iaload c_55_102 sp_43 (by omega) (by first | decide | omega) (hrw.top (by omega)) ?_
        refine w_aload c_55_103 rfl ?_
        refine w_getR c_55_104 sp_42 (by decide) rfl pr_42_0 ?_
        refine w_getR c_55_107 (sps_0 hsh) (by decide) rfl (prs_9 hsh) ?_
        refine w_iload c_55_110 rfl ?_
        refine z_iaload c_55_112 (sps_6 hsh) (by omega) (by first | decide | omega) ((hf _ _ (by rcases hsh with rfl | rfl <;> decide)).trans (hD.a 6 (by omega) (by omega))) ?_
        refine z_ic_ne c_55_113 (by first | exact aRg_of _ | (unfold aRg; omega)) (by first | exact aRg_of _ | (unfold aRg; omega)) (fun h5_ => ?_) (fun h5_ => ?_)
        · refine z_push c_55_120 ?_
          refine z_iastore c_55_121 sp_43 (by omega) (by decide) ?_
          refine w_goto c_55_122 ?_
          refine z_iinc c_55_201 rfl rfl ?_
          refine w_goto c_55_204 ?_
          exact ih2 _ _ _ (by rw [hev]; (first | rw [if_pos (by omega)] | rw [if_neg (by omega)]); exact hrw.2.set (by omega)) (by rw [hev]; simp only [List.length_cons]; omega) (up43 hf)
        · refine z_push c_55_116 ?_
          refine w_goto c_55_117 ?_
          refine z_iastore c_55_121 sp_43 (by omega) (by decide) ?_
          refine w_goto c_55_122 ?_
          refine z_iinc c_55_201 rfl rfl ?_
          refine w_goto c_55_204 ?_
          exact ih2 _ _ _ (by rw [hev]; (first | rw [if_pos (by omega)] | rw [if_neg (by omega)]); exact hrw.2.set (by omega)) (by rw [hev]; simp only [List.length_cons]; omega) (up43 hf)
      · rcases st with _ | ⟨v2, _ | ⟨v1, st⟩⟩
        · exact hs2.elim
        · exact hs2.2.elim
        simp only [List.length_cons] at hst hdp hle
        have hv1 := hs2.1.2
        have hv2 := hs2.2.1.2
        have hev : evM (envZ D s0 b g ink age de dr) (D 6 de) m (v2 :: v1 :: st) = joinZ m v1 v2 :: st := by unfold evM; rw [if_neg (by omega), if_neg (by omega), if_pos (by omega)]
        refine w_iload c_55_15 rfl ?_
        refine w_aload c_55_17 rfl ?_
        refine w_getR c_55_18 (sm_0 hs) (by decide) rfl (pm_2 hs) ?_
        refine w_iload c_55_21 rfl ?_
        refine z_iaload c_55_22 (sm_3 hs) (by omega) (by first | decide | omega) ((hf _ _ (by rcases hs with rfl | rfl | rfl <;> decide)).trans hto) ?_
        refine z_ic_ge c_55_23 (by first | exact aRg_of _ | (unfold aRg; omega)) (by first | exact aRg_of _ | (unfold aRg; omega)) (fun h1_ => ?_) (fun h1_ => ?_)
        · exfalso; omega
        refine w_aload c_55_26 rfl ?_
        refine w_getR c_55_27 (sm_0 hs) (by decide) rfl (pm_0 hs) ?_
        refine w_iload c_55_30 rfl ?_
        refine z_iaload c_55_32 (sm_1 hs) (by omega) (by first | decide | omega) (((hf _ _ (by rcases hs with rfl | rfl | rfl <;> decide)).trans hc.1)) ?_
        refine w_istore c_55_33 (Nat.le_of_ble_eq_true rfl) rfl ?_
        refine w_iload c_55_35 rfl ?_
        refine z_push c_55_37 ?_
        refine z_ic_ne c_55_40 (by first | exact aRg_of _ | (unfold aRg; omega)) (by first | exact aRg_of _ | (unfold aRg; omega)) (fun h2_ => ?_) (fun h2_ => ?_)
        rotate_left
        · exfalso; omega
        refine w_iload c_55_72 rfl ?_
        refine z_push c_55_74 ?_
        refine z_ic_ne c_55_77 (by first | exact aRg_of _ | (unfold aRg; omega)) (by first | exact aRg_of _ | (unfold aRg; omega)) (fun h3_ => ?_) (fun h3_ => ?_)
        rotate_left
        · exfalso; omega
        refine w_iload c_55_125 rfl ?_
        refine wc_56 c_55_127 (Nat.le_of_ble_eq_true rfl) (by omega) ?_
        refine tc_isJoint (by omega) ?_
        refine r_i ?_
        refine b_if_eq c_55_130 (fun h4_ => ?_) (fun h4_ => ?_)
        · exfalso; simp only [decide_eq_false_iff_not, decide_eq_true_eq] at h4_; omega
        refine w_iload c_55_133 rfl ?_
        refine z_push c_55_135 ?_
        refine z_ic_lt c_55_136 (by first | exact aRg_of _ | (unfold aRg; omega)) (by first | exact aRg_of _ | (unfold aRg; omega)) (fun h5_ => ?_) (fun h5_ => ?_)
        · exfalso; omega
        refine z_iinc c_55_139 rfl rfl ?_
        refine w_aload c_55_142 rfl ?_
        refine w_getR c_55_143 sp_42 (by decide) rfl pr_42_2 ?_
        refine w_iload c_55_146 rfl ?_
        refine z_push c_55_148 ?_
        refine z_isub c_55_149 ?_
        refine w_iload c_55_150 rfl ?_
        refine w_aload c_55_152 rfl ?_
        refine w_getR c_55_153 sp_42 (by decide) rfl pr_42_2 ?_
        refine w_iload c_55_156 rfl ?_
        refine z_push c_55_158 ?_
        refine z_isub c_55_159 ?_
        refine z_iaload c_55_160 sp_43 (by omega) (by first | decide | omega) (hrw.2.top (by omega)) ?_
        refine w_aload c_55_161 rfl ?_
        refine w_getR c_55_162 sp_42 (by decide) rfl pr_42_2 ?_
        refine w_iload c_55_165 rfl ?_
        refine z_iaload c_55_167 sp_43 (by omega) (by first | decide | omega) (hrw.top (by simp only [List.length_cons]; omega)) ?_
        refine wc_57 c_55_168 (Nat.le_of_ble_eq_true rfl) (by omega) ?_
        refine tc_join (by omega) (Or.inl hm) hs2.2.1.2 hs2.1.2 ?_
        refine r_i ?_
        refine z_iastore c_55_171 sp_43 (by omega) (by decide) ?_
        refine w_goto c_55_172 ?_
        refine z_iinc c_55_201 rfl rfl ?_
        refine w_goto c_55_204 ?_
        exact ih2 _ _ _ (by rw [hev]; exact hrw.2.2.set (by omega)) (by rw [hev]; simp only [List.length_cons]; omega) (up43 hf)
      · rcases st with _ | ⟨v2, _ | ⟨v1, st⟩⟩
        · exact hs2.elim
        · exact hs2.2.elim
        simp only [List.length_cons] at hst hdp hle
        have hv1 := hs2.1.2
        have hv2 := hs2.2.1.2
        have hev : evM (envZ D s0 b g ink age de dr) (D 6 de) m (v2 :: v1 :: st) = joinZ m v1 v2 :: st := by unfold evM; rw [if_neg (by omega), if_neg (by omega), if_pos (by omega)]
        refine w_iload c_55_15 rfl ?_
        refine w_aload c_55_17 rfl ?_
        refine w_getR c_55_18 (sm_0 hs) (by decide) rfl (pm_2 hs) ?_
        refine w_iload c_55_21 rfl ?_
        refine z_iaload c_55_22 (sm_3 hs) (by omega) (by first | decide | omega) ((hf _ _ (by rcases hs with rfl | rfl | rfl <;> decide)).trans hto) ?_
        refine z_ic_ge c_55_23 (by first | exact aRg_of _ | (unfold aRg; omega)) (by first | exact aRg_of _ | (unfold aRg; omega)) (fun h1_ => ?_) (fun h1_ => ?_)
        · exfalso; omega
        refine w_aload c_55_26 rfl ?_
        refine w_getR c_55_27 (sm_0 hs) (by decide) rfl (pm_0 hs) ?_
        refine w_iload c_55_30 rfl ?_
        refine z_iaload c_55_32 (sm_1 hs) (by omega) (by first | decide | omega) (((hf _ _ (by rcases hs with rfl | rfl | rfl <;> decide)).trans hc.1)) ?_
        refine w_istore c_55_33 (Nat.le_of_ble_eq_true rfl) rfl ?_
        refine w_iload c_55_35 rfl ?_
        refine z_push c_55_37 ?_
        refine z_ic_ne c_55_40 (by first | exact aRg_of _ | (unfold aRg; omega)) (by first | exact aRg_of _ | (unfold aRg; omega)) (fun h2_ => ?_) (fun h2_ => ?_)
        rotate_left
        · exfalso; omega
        refine w_iload c_55_72 rfl ?_
        refine z_push c_55_74 ?_
        refine z_ic_ne c_55_77 (by first | exact aRg_of _ | (unfold aRg; omega)) (by first | exact aRg_of _ | (unfold aRg; omega)) (fun h3_ => ?_) (fun h3_ => ?_)
        rotate_left
        · exfalso; omega
        refine w_iload c_55_125 rfl ?_
        refine wc_56 c_55_127 (Nat.le_of_ble_eq_true rfl) (by omega) ?_
        refine tc_isJoint (by omega) ?_
        refine r_i ?_
        refine b_if_eq c_55_130 (fun h4_ => ?_) (fun h4_ => ?_)
        · exfalso; simp only [decide_eq_false_iff_not, decide_eq_true_eq] at h4_; omega
        refine w_iload c_55_133 rfl ?_
        refine z_push c_55_135 ?_
        refine z_ic_lt c_55_136 (by first | exact aRg_of _ | (unfold aRg; omega)) (by first | exact aRg_of _ | (unfold aRg; omega)) (fun h5_ => ?_) (fun h5_ => ?_)
        · exfalso; omega
        refine z_iinc c_55_139 rfl rfl ?_
        refine w_aload c_55_142 rfl ?_
        refine w_getR c_55_143 sp_42 (by decide) rfl pr_42_2 ?_
        refine w_iload c_55_146 rfl ?_
        refine z_push c_55_148 ?_
        refine z_isub c_55_149 ?_
        refine w_iload c_55_150 rfl ?_
        refine w_aload c_55_152 rfl ?_
        refine w_getR c_55_153 sp_42 (by decide) rfl pr_42_2 ?_
        refine w_iload c_55_156 rfl ?_
        refine z_push c_55_158 ?_
        refine z_isub c_55_159 ?_
        refine z_iaload c_55_160 sp_43 (by omega) (by first | decide | omega) (hrw.2.top (by omega)) ?_
        refine w_aload c_55_161 rfl ?_
        refine w_getR c_55_162 sp_42 (by decide) rfl pr_42_2 ?_
        refine w_iload c_55_165 rfl ?_
        refine z_iaload c_55_167 sp_43 (by omega) (by first | decide | omega) (hrw.top (by simp only [List.length_cons]; omega)) ?_
        refine wc_57 c_55_168 (Nat.le_of_ble_eq_true rfl) (by omega) ?_
        refine tc_join (by omega) (Or.inr (Or.inl hm)) hs2.2.1.2 hs2.1.2 ?_
        refine r_i ?_
        refine z_iastore c_55_171 sp_43 (by omega) (by decide) ?_
        refine w_goto c_55_172 ?_
        refine z_iinc c_55_201 rfl rfl ?_
        refine w_goto c_55_204 ?_
        exact ih2 _ _ _ (by rw [hev]; exact hrw.2.2.set (by omega)) (by rw [hev]; simp only [List.length_cons]; omega) (up43 hf)
      · rcases st with _ | ⟨v2, _ | ⟨v1, st⟩⟩
        · exact hs2.elim
        · exact hs2.2.elim
        simp only [List.length_cons] at hst hdp hle
        have hv1 := hs2.1.2
        have hv2 := hs2.2.1.2
        have hev : evM (envZ D s0 b g ink age de dr) (D 6 de) m (v2 :: v1 :: st) = joinZ m v1 v2 :: st := by unfold evM; rw [if_neg (by omega), if_neg (by omega), if_pos (by omega)]
        refine w_iload c_55_15 rfl ?_
        refine w_aload c_55_17 rfl ?_
        refine w_getR c_55_18 (sm_0 hs) (by decide) rfl (pm_2 hs) ?_
        refine w_iload c_55_21 rfl ?_
        refine z_iaload c_55_22 (sm_3 hs) (by omega) (by first | decide | omega) ((hf _ _ (by rcases hs with rfl | rfl | rfl <;> decide)).trans hto) ?_
        refine z_ic_ge c_55_23 (by first | exact aRg_of _ | (unfold aRg; omega)) (by first | exact aRg_of _ | (unfold aRg; omega)) (fun h1_ => ?_) (fun h1_ => ?_)
        · exfalso; omega
        refine w_aload c_55_26 rfl ?_
        refine w_getR c_55_27 (sm_0 hs) (by decide) rfl (pm_0 hs) ?_
        refine w_iload c_55_30 rfl ?_
        refine z_iaload c_55_32 (sm_1 hs) (by omega) (by first | decide | omega) (((hf _ _ (by rcases hs with rfl | rfl | rfl <;> decide)).trans hc.1)) ?_
        refine w_istore c_55_33 (Nat.le_of_ble_eq_true rfl) rfl ?_
        refine w_iload c_55_35 rfl ?_
        refine z_push c_55_37 ?_
        refine z_ic_ne c_55_40 (by first | exact aRg_of _ | (unfold aRg; omega)) (by first | exact aRg_of _ | (unfold aRg; omega)) (fun h2_ => ?_) (fun h2_ => ?_)
        rotate_left
        · exfalso; omega
        refine w_iload c_55_72 rfl ?_
        refine z_push c_55_74 ?_
        refine z_ic_ne c_55_77 (by first | exact aRg_of _ | (unfold aRg; omega)) (by first | exact aRg_of _ | (unfold aRg; omega)) (fun h3_ => ?_) (fun h3_ => ?_)
        rotate_left
        · exfalso; omega
        refine w_iload c_55_125 rfl ?_
        refine wc_56 c_55_127 (Nat.le_of_ble_eq_true rfl) (by omega) ?_
        refine tc_isJoint (by omega) ?_
        refine r_i ?_
        refine b_if_eq c_55_130 (fun h4_ => ?_) (fun h4_ => ?_)
        · exfalso; simp only [decide_eq_false_iff_not, decide_eq_true_eq] at h4_; omega
        refine w_iload c_55_133 rfl ?_
        refine z_push c_55_135 ?_
        refine z_ic_lt c_55_136 (by first | exact aRg_of _ | (unfold aRg; omega)) (by first | exact aRg_of _ | (unfold aRg; omega)) (fun h5_ => ?_) (fun h5_ => ?_)
        · exfalso; omega
        refine z_iinc c_55_139 rfl rfl ?_
        refine w_aload c_55_142 rfl ?_
        refine w_getR c_55_143 sp_42 (by decide) rfl pr_42_2 ?_
        refine w_iload c_55_146 rfl ?_
        refine z_push c_55_148 ?_
        refine z_isub c_55_149 ?_
        refine w_iload c_55_150 rfl ?_
        refine w_aload c_55_152 rfl ?_
        refine w_getR c_55_153 sp_42 (by decide) rfl pr_42_2 ?_
        refine w_iload c_55_156 rfl ?_
        refine z_push c_55_158 ?_
        refine z_isub c_55_159 ?_
        refine z_iaload c_55_160 sp_43 (by omega) (by first | decide | omega) (hrw.2.top (by omega)) ?_
        refine w_aload c_55_161 rfl ?_
        refine w_getR c_55_162 sp_42 (by decide) rfl pr_42_2 ?_
        refine w_iload c_55_165 rfl ?_
        refine z_iaload c_55_167 sp_43 (by omega) (by first | decide | omega) (hrw.top (by simp only [List.length_cons]; omega)) ?_
        refine wc_57 c_55_168 (Nat.le_of_ble_eq_true rfl) (by omega) ?_
        refine tc_join (by omega) (Or.inr (Or.inr ⟨hm, hs2.2.1.1 rfl, hs2.1.1 rfl⟩)) hs2.2.1.2 hs2.1.2 ?_
        refine r_i ?_
        refine z_iastore c_55_171 sp_43 (by omega) (by decide) ?_
        refine w_goto c_55_172 ?_
        refine z_iinc c_55_201 rfl rfl ?_
        refine w_goto c_55_204 ?_
        exact ih2 _ _ _ (by rw [hev]; exact hrw.2.2.set (by omega)) (by rw [hev]; simp only [List.length_cons]; omega) (up43 hf)
      · have hev : evM (envZ D s0 b g ink age de dr) (D 6 de) 329 st = pvZ (envZ D s0 b g ink age de dr) 329 :: st := by unfold evM; rw [if_neg (by omega), if_neg (by omega), if_neg (by omega)]
        refine w_iload c_55_15 rfl ?_
        refine w_aload c_55_17 rfl ?_
        refine w_getR c_55_18 (sm_0 hs) (by decide) rfl (pm_2 hs) ?_
        refine w_iload c_55_21 rfl ?_
        refine z_iaload c_55_22 (sm_3 hs) (by omega) (by first | decide | omega) ((hf _ _ (by rcases hs with rfl | rfl | rfl <;> decide)).trans hto) ?_
        refine z_ic_ge c_55_23 (by first | exact aRg_of _ | (unfold aRg; omega)) (by first | exact aRg_of _ | (unfold aRg; omega)) (fun h1_ => ?_) (fun h1_ => ?_)
        · exfalso; omega
        refine w_aload c_55_26 rfl ?_
        refine w_getR c_55_27 (sm_0 hs) (by decide) rfl (pm_0 hs) ?_
        refine w_iload c_55_30 rfl ?_
        refine z_iaload c_55_32 (sm_1 hs) (by omega) (by first | decide | omega) (((hf _ _ (by rcases hs with rfl | rfl | rfl <;> decide)).trans hc.1)) ?_
        refine w_istore c_55_33 (Nat.le_of_ble_eq_true rfl) rfl ?_
        refine w_iload c_55_35 rfl ?_
        refine z_push c_55_37 ?_
        refine z_ic_ne c_55_40 (by first | exact aRg_of _ | (unfold aRg; omega)) (by first | exact aRg_of _ | (unfold aRg; omega)) (fun h2_ => ?_) (fun h2_ => ?_)
        rotate_left
        · exfalso; omega
        refine w_iload c_55_72 rfl ?_
        refine z_push c_55_74 ?_
        refine z_ic_ne c_55_77 (by first | exact aRg_of _ | (unfold aRg; omega)) (by first | exact aRg_of _ | (unfold aRg; omega)) (fun h3_ => ?_) (fun h3_ => ?_)
        rotate_left
        · exfalso; omega
        refine w_iload c_55_125 rfl ?_
        refine wc_56 c_55_127 (Nat.le_of_ble_eq_true rfl) (by omega) ?_
        refine tc_isJoint (by omega) ?_
        refine r_i ?_
        refine b_if_eq c_55_130 (fun h4_ => ?_) (fun h4_ => ?_)
        rotate_left
        · exfalso; simp only [decide_eq_false_iff_not, decide_eq_true_eq] at h4_; omega
        refine w_iload c_55_175 rfl ?_
        refine z_push c_55_177 ?_
        refine z_ic_ge c_55_179 (by first | exact aRg_of _ | (unfold aRg; omega)) (by first | exact aRg_of _ | (unfold aRg; omega)) (fun h5_ => ?_) (fun h5_ => ?_)
        · exfalso; omega
        refine w_aload c_55_182 rfl ?_
        refine w_getR c_55_183 sp_42 (by decide) rfl pr_42_2 ?_
        refine w_iload c_55_186 rfl ?_
        refine w_aload c_55_188 rfl ?_
        refine w_iload c_55_189 rfl ?_
        refine w_aload c_55_191 rfl ?_
        refine w_iload c_55_192 rfl ?_
        refine wc_58 c_55_194 sp_42 (Nat.le_of_ble_eq_true rfl) (by omega) ?_
        refine tc_partOf hsh hl (hD.fr (fun p k h1 h2 => hf p k (by rcases hsh with rfl | rfl <;> omega))) (hL.fr (fun p k h1 h2 => hf p k (by have := lk43 hl; omega))) ((hf _ _ (by decide)).trans hdr) (by omega) (Or.inr rfl) hde hv hb hg ?_
        refine r_i ?_
        refine z_iastore c_55_197 sp_43 (by omega) (by decide) ?_
        refine z_iinc c_55_198 rfl rfl ?_
        refine z_iinc c_55_201 rfl rfl ?_
        refine w_goto c_55_204 ?_
        exact ih2 _ _ _ (by rw [hev]; exact hrw.set (by omega)) (by rw [hev]; simp only [List.length_cons]; omega) (up43 hf)
      · have hev : evM (envZ D s0 b g ink age de dr) (D 6 de) m st = pvZ (envZ D s0 b g ink age de dr) m :: st := by unfold evM; rw [if_neg (by omega), if_neg (by omega), if_neg (by omega)]
        refine w_iload c_55_15 rfl ?_
        refine w_aload c_55_17 rfl ?_
        refine w_getR c_55_18 (sm_0 hs) (by decide) rfl (pm_2 hs) ?_
        refine w_iload c_55_21 rfl ?_
        refine z_iaload c_55_22 (sm_3 hs) (by omega) (by first | decide | omega) ((hf _ _ (by rcases hs with rfl | rfl | rfl <;> decide)).trans hto) ?_
        refine z_ic_ge c_55_23 (by first | exact aRg_of _ | (unfold aRg; omega)) (by first | exact aRg_of _ | (unfold aRg; omega)) (fun h1_ => ?_) (fun h1_ => ?_)
        · exfalso; omega
        refine w_aload c_55_26 rfl ?_
        refine w_getR c_55_27 (sm_0 hs) (by decide) rfl (pm_0 hs) ?_
        refine w_iload c_55_30 rfl ?_
        refine z_iaload c_55_32 (sm_1 hs) (by omega) (by first | decide | omega) (((hf _ _ (by rcases hs with rfl | rfl | rfl <;> decide)).trans hc.1)) ?_
        refine w_istore c_55_33 (Nat.le_of_ble_eq_true rfl) rfl ?_
        refine w_iload c_55_35 rfl ?_
        refine z_push c_55_37 ?_
        refine z_ic_ne c_55_40 (by first | exact aRg_of _ | (unfold aRg; omega)) (by first | exact aRg_of _ | (unfold aRg; omega)) (fun h2_ => ?_) (fun h2_ => ?_)
        rotate_left
        · exfalso; omega
        refine w_iload c_55_72 rfl ?_
        refine z_push c_55_74 ?_
        refine z_ic_ne c_55_77 (by first | exact aRg_of _ | (unfold aRg; omega)) (by first | exact aRg_of _ | (unfold aRg; omega)) (fun h3_ => ?_) (fun h3_ => ?_)
        rotate_left
        · exfalso; omega
        refine w_iload c_55_125 rfl ?_
        refine wc_56 c_55_127 (Nat.le_of_ble_eq_true rfl) (by omega) ?_
        refine tc_isJoint (by omega) ?_
        refine r_i ?_
        refine b_if_eq c_55_130 (fun h4_ => ?_) (fun h4_ => ?_)
        rotate_left
        · exfalso; simp only [decide_eq_false_iff_not, decide_eq_true_eq] at h4_; omega
        refine w_iload c_55_175 rfl ?_
        refine z_push c_55_177 ?_
        refine z_ic_ge c_55_179 (by first | exact aRg_of _ | (unfold aRg; omega)) (by first | exact aRg_of _ | (unfold aRg; omega)) (fun h5_ => ?_) (fun h5_ => ?_)
        · exfalso; omega
        refine w_aload c_55_182 rfl ?_
        refine w_getR c_55_183 sp_42 (by decide) rfl pr_42_2 ?_
        refine w_iload c_55_186 rfl ?_
        refine w_aload c_55_188 rfl ?_
        refine w_iload c_55_189 rfl ?_
        refine w_aload c_55_191 rfl ?_
        refine w_iload c_55_192 rfl ?_
        refine wc_58 c_55_194 sp_42 (Nat.le_of_ble_eq_true rfl) (by omega) ?_
        refine tc_partOf hsh hl (hD.fr (fun p k h1 h2 => hf p k (by rcases hsh with rfl | rfl <;> omega))) (hL.fr (fun p k h1 h2 => hf p k (by have := lk43 hl; omega))) ((hf _ _ (by decide)).trans hdr) (by omega) (Or.inl hm) hde hv hb hg ?_
        refine r_i ?_
        refine z_iastore c_55_197 sp_43 (by omega) (by decide) ?_
        refine z_iinc c_55_198 rfl rfl ?_
        refine z_iinc c_55_201 rfl rfl ?_
        refine w_goto c_55_204 ?_
        exact ih2 _ _ _ (by rw [hev]; exact hrw.set (by omega)) (by rw [hev]; simp only [List.length_cons]; omega) (up43 hf)

