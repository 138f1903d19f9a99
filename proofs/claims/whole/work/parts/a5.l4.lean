/-! the reference: what a deed is worth for a question, what is taken from it (pa5.py) -/
def qcAt (I : aFI) : Int → List Int → Prop
  | _, [] => True
  | f, m :: r => I 232 f.toNat = iI (cmap m) ∧ qcAt I (f + 1) r
theorem qcAt.fr {I I2 : aFI} : ∀ {f : Int} {l : List Int}, qcAt I f l → (∀ k : Nat, I2 232 k = I 232 k) → qcAt I2 f l
  | _, [], _, _ => trivial
  | _, _ :: _, h, hf => ⟨(hf _).trans h.1, qcAt.fr h.2 hf⟩
theorem stk_ga {I : aFI} : ∀ (O : List Int), stk I 232 O → ∀ (k : Nat) (hk : k < O.length), I 232 k = iI (O.reverse[k]'(by rw [List.length_reverse]; exact hk))
  | [], _, k, hk => absurd hk (Nat.not_lt_zero _)
  | v :: r, h, k, hk => by
    by_cases e : k < r.length
    · rw [stk_ga r h.2 k e]
      congr 1
      simp only [List.reverse_cons]
      rw [List.getElem_append_left]
    · have e2 : k = r.length := by simp only [List.length_cons] at hk; omega
      subst e2
      rw [h.1]
      congr 1
      simp
theorem qcAt_of {I : aFI} {O l : List Int} (h : stk I 232 O) (he : O.reverse = l.map cmap) : qcAt I 0 l := by
  have hl : O.length = l.length := by rw [← List.length_reverse, he, List.length_map]
  suffices H : ∀ (r : List Int) (k : Nat), (∀ i : Nat, ∀ hi : i < r.length, ∃ hi2 : k + i < l.length, r[i] = l[k + i]) → qcAt I (k : Int) r from H l 0 (fun i hi => ⟨by omega, by simp⟩)
  intro r
  induction r with
  | nil => intro k _; trivial
  | cons m r ih =>
    intro k hk
    refine ⟨?_, ?_⟩
    · obtain ⟨h2, e⟩ := hk 0 (by simp)
      have h3 := stk_ga O h k (by omega)
      rw [Int.toNat_natCast, h3]
      congr 1
      simp only [he, List.getElem_map]
      simp only [List.getElem_cons_zero, Nat.add_zero] at e
      rw [e]
    · have := ih (k + 1) (fun i hi => by
        obtain ⟨h2, e⟩ := hk (i + 1) (by simp only [List.length_cons]; omega)
        refine ⟨by omega, ?_⟩
        simp only [List.getElem_cons_succ] at e
        rw [e]
        congr 1; omega)
      rw [show (k : Int) + 1 = ((k + 1 : Nat) : Int) by omega]; exact this
set_option maxHeartbeats 1000000 in
theorem t_qOf {d : Nat} {I : aFI} {L : aFL} {Q : aPo} {sh : Nat} {su : Option Nat} {D : Nat → Int → Int} {cd : Nat → Option (List Int)} {x v de : Int} (hS : wfS D cd) (hD : rD I D) (hde : 0 ≤ de ∧ de < D 1 2) (hx : aRg x) (hv : -1000000 ≤ v ∧ v ≤ 1000000) (k : Q (some (.long (lI (if v = D 6 de then 1 else 0)))) I L (aR sh su)) : aWp none d 242 0 [.ref 157, .int (iI x), .long (lI v), .null, .int (iI de)] [] I L (aR sh su) Q := by
  have hdd := hS.n
  have hde2 := hS.de hde.1 hde.2
  have hxx := hx
  unfold aRg at hxx
  refine w_iload c_242_0 rfl ?_
  have h1_ := trivial
  · refine z_lsw c_242_1 (by first | exact aRg_of _ | (unfold aRg; omega)) (pc2 := 12) (by simp only [aLks]; repeat (first | rw [if_neg (by omega)] | rfl)) ?_
    refine w_lload c_242_12 rfl ?_
    refine w_aload c_242_13 rfl ?_
    refine w_getR c_242_14 sp_157 (by decide) rfl pr_157_49 ?_
    refine z_push c_242_17 ?_
    refine z_push c_242_19 ?_
    refine w_iload c_242_20 rfl ?_
    refine z_imul c_242_22 ?_
    refine z_iadd c_242_23 ?_
    refine z_iaload c_242_24 sp_197 (by omega) (by first | decide | omega) (hD.d6 hde.1 hde.2 (by omega)) ?_
    refine z_i2l c_242_25 (by first | exact aRg_of _ | (unfold aRg; omega)) ?_
    refine z_lc_ne c_242_26 c_242_27 (by first | exact aRl_of _ | (unfold aRl; omega)) (by first | exact aRl_of _ | (unfold aRl; omega)) (fun h2_ => ?_) (fun h2_ => ?_)
    · refine z_pushl c_242_34 ?_
      refine z_retl c_242_35 ?_
      first | (rw [if_pos (by omega)] at k; exact k) | (rw [if_neg (by omega)] at k; exact k)
    · refine z_pushl c_242_30 ?_
      refine w_goto c_242_31 ?_
      refine z_retl c_242_35 ?_
      first | (rw [if_pos (by omega)] at k; exact k) | (rw [if_neg (by omega)] at k; exact k)

set_option maxHeartbeats 2000000 in
theorem t_qTold_1 {d : Nat} {Q : aPo} {sh : Nat} {su : Option Nat} {D : Nat → Int → Int} {cd : Nat → Option (List Int)} {s0 b g : Int} {w : Nat} {ink age : Int → Int} {de dr : Int} {to : Int} {t : Bool} {I0 : aFI} {L0 : aFL} (hS : wfS D cd) (hD : rD I0 D) (hN : nLk I0 202 s0 b g w ink age) (hde : 0 ≤ de ∧ de < D 1 2) (hs : 0 ≤ s0 ∧ s0 ≤ 1000) (hb : 0 ≤ b ∧ b < 100000) (hg : 0 ≤ g ∧ g < 100000) (hi : 0 ≤ ink de ∧ ink de ≤ 9999) (ha : 0 ≤ age de ∧ age de ≤ 99) (hA : L0 204 de.toNat = lI dr) (hto : I0 157 98 = iI to) (hto2 : to ≤ 1690) (hE : eOK (envZ D s0 b g ink age de dr)) (hd : 3 ≤ d) : ∀ (n : Nat) (l : List Int) (ts : List Bool) (st : List Int) (k : Int) (I : aFI) (L : aFL) (vc : Value), l.length < n → (0 ≤ k ∧ k + l.length = to) → (qcAt I0 k l) → (tyC l ts [t]) → (∀ m ∈ l, okM 3 m) → (ts.length ≤ 64) → (stOK ts st) → (stL L st) → (I 157 104 = iI st.length) → (frG PK I0 I) → (frG LK L0 L) → (∀ (I2 : aFI) (L2 : aFL), frG PK I0 I2 → frG LK L0 L2 → Q (some (.long (lI ((evC (envZ D s0 b g ink age de dr) (D 6 de) l st).headD 0)))) I2 L2 (aR sh su)) → aWp none d 243 7 [.ref 157, .int (iI de), .int (iI k), vc] [] I L (aR sh su) Q := by
  intro n
  induction n with
  | zero => intro l ts st k I L vc h; omega
  | succ n ih =>
    intro l ts st k I L vc hn2 hk hc ht hok hle hs2 hrw hn hF hG kk
    have hst := stOK_len hs2
    have hdd := hS.n
    rcases l with _ | ⟨m, l⟩
    · have hk2 : k = to := by simpa using hk.2
      cases ht
      rcases st with _ | ⟨v, _ | ⟨v2, st⟩⟩
      · exact hs2.elim
      · refine w_iload c_243_7 rfl ?_
        refine w_aload c_243_8 rfl ?_
        refine z_getZ c_243_9 sp_157 (by decide) rfl ((hF 157 98 (by decide)).trans hto) ?_
        refine z_ic_ge c_243_12 (by first | exact aRg_of _ | (unfold aRg; omega)) (by first | exact aRg_of _ | (unfold aRg; omega)) (fun h1_ => ?_) (fun h1_ => ?_)
        rotate_left
        · exfalso; omega
        refine w_aload c_243_168 rfl ?_
        refine w_getR c_243_169 sp_157 (by decide) rfl pr_157_103 ?_
        refine z_push c_243_172 ?_
        refine z_laload c_243_173 sp_234 (by omega) (by first | decide | omega) (hrw.top (by simp only [List.length_nil]; omega)) ?_
        refine z_retl c_243_174 ?_
        exact kk I L hF hG
      · exact hs2.2.elim
    · simp only [List.length_cons] at hk hn2
      obtain ⟨c, hty, hty2⟩ := ht
      have hokm := hok m List.mem_cons_self
      have hokl : ∀ m ∈ l, okM 3 m := fun m hm => hok m (List.mem_cons_of_mem _ hm)
      have hev2 := evM_ok (vl := D 6 de) hE hty hs2
      have hk2 : k < to := by omega
      have ih2 : ∀ (I2 : aFI) (L2 : aFL) (v : Value), stL L2 (evM (envZ D s0 b g ink age de dr) (D 6 de) m st) → I2 157 104 = iI (evM (envZ D s0 b g ink age de dr) (D 6 de) m st).length → frG PK I0 I2 → frG LK L0 L2 → aWp none d 243 7 [.ref 157, .int (iI de), .int (iI (k + 1)), v] [] I2 L2 (aR sh su) Q := fun I2 L2 v h1 h2 h3 h4 => ih l c _ (k + 1) I2 L2 v (by omega) (by omega) (hc.2) hty2 hokl (tyM_len hty hle) hev2 h1 h2 h3 h4 kk
      rcases hty with ⟨rfl, r2, rfl, rfl⟩ | ⟨rfl, r2, rfl, rfl⟩ | ⟨hm, r2, rfl, rfl⟩ | ⟨hm, r2, rfl, rfl⟩ | ⟨hm, r2, rfl, rfl⟩ | ⟨rfl, hl2, rfl⟩ | ⟨hm, hl2, rfl⟩
      · rcases st with _ | ⟨v, st⟩
        · exact hs2.elim
        simp only [List.length_cons] at hst hle
        have hv1 := hs2.1.2
        have hcm : cmap 328 = 12 := rfl
        have hn3 : ((v :: st).length : Int) = st.length + 1 := by simp only [List.length_cons]; omega
        have hev : evM (envZ D s0 b g ink age de dr) (D 6 de) 328 (v :: st) = (1 - v) :: st := by unfold evM; rw [if_pos rfl]
        refine w_iload c_243_7 rfl ?_
        refine w_aload c_243_8 rfl ?_
        refine z_getZ c_243_9 sp_157 (by decide) rfl ((hF 157 98 (by decide)).trans hto) ?_
        refine z_ic_ge c_243_12 (by first | exact aRg_of _ | (unfold aRg; omega)) (by first | exact aRg_of _ | (unfold aRg; omega)) (fun h1_ => ?_) (fun h1_ => ?_)
        · exfalso; omega
        refine w_aload c_243_15 rfl ?_
        refine w_getR c_243_16 sp_157 (by decide) rfl pr_157_97 ?_
        refine w_iload c_243_19 rfl ?_
        refine z_iaload c_243_20 sp_232 (by omega) (by first | decide | omega) ((pk_fr hF (by decide)).trans hc.1) ?_
        refine w_istore c_243_21 (Nat.le_of_ble_eq_true rfl) rfl ?_
        refine w_iload c_243_22 rfl ?_
        refine z_push c_243_23 ?_
        refine z_ic_lt c_243_26 (by first | exact aRg_of _ | (unfold aRg; omega)) (by first | exact aRg_of _ | (unfold aRg; omega)) (fun h2_ => ?_) (fun h2_ => ?_)
        rotate_left
        · exfalso; omega
        refine w_iload c_243_42 rfl ?_
        refine z_push c_243_43 ?_
        refine z_ic_lt c_243_45 (by first | exact aRg_of _ | (unfold aRg; omega)) (by first | exact aRg_of _ | (unfold aRg; omega)) (fun h3_ => ?_) (fun h3_ => ?_)
        rotate_left
        · exfalso; omega
        refine w_iload c_243_85 rfl ?_
        refine z_push c_243_86 ?_
        refine z_ic_lt c_243_88 (by first | exact aRg_of _ | (unfold aRg; omega)) (by first | exact aRg_of _ | (unfold aRg; omega)) (fun h4_ => ?_) (fun h4_ => ?_)
        rotate_left
        · exfalso; omega
        refine w_iload c_243_110 rfl ?_
        refine z_push c_243_111 ?_
        refine z_ic_ne c_243_113 (by first | exact aRg_of _ | (unfold aRg; omega)) (by first | exact aRg_of _ | (unfold aRg; omega)) (fun h5_ => ?_) (fun h5_ => ?_)
        rotate_left
        · exfalso; omega
        refine w_iload c_243_124 rfl ?_
        refine z_push c_243_125 ?_
        refine z_ic_ne c_243_127 (by first | exact aRg_of _ | (unfold aRg; omega)) (by first | exact aRg_of _ | (unfold aRg; omega)) (fun h6_ => ?_) (fun h6_ => ?_)
        · exfalso; omega
        refine w_aload c_243_130 rfl ?_
        refine w_getR c_243_131 sp_157 (by decide) rfl pr_157_103 ?_
        refine w_aload c_243_134 rfl ?_
        refine z_getZ c_243_135 sp_157 (by decide) rfl hn ?_
        refine z_push c_243_138 ?_
        refine z_isub c_243_139 ?_
        refine z_pushl c_243_140 ?_
        refine w_aload c_243_141 rfl ?_
        refine w_getR c_243_142 sp_157 (by decide) rfl pr_157_103 ?_
        refine w_aload c_243_145 rfl ?_
        refine z_getZ c_243_146 sp_157 (by decide) rfl hn ?_
        refine z_push c_243_149 ?_
        refine z_isub c_243_150 ?_
        refine z_laload c_243_151 sp_234 (by omega) (by first | decide | omega) (hrw.top (by omega)) ?_
        refine z_lsub c_243_152 ?_
        refine z_lastore c_243_153 sp_234 (by omega) (by decide) ?_
        refine w_goto c_243_154 ?_
        refine z_iinc c_243_162 rfl rfl ?_
        refine w_goto c_243_165 ?_
        exact ih2 _ _ _ (by rw [hev]; exact hrw.2.set (by omega)) (by rw [hev]; exact hn.trans (congrArg iI (by simp only [List.length_cons] <;> omega))) hF (hG.up rfl)
      · rcases st with _ | ⟨v, st⟩
        · exact hs2.elim
        simp only [List.length_cons] at hst hle
        have hv1 := hs2.1.2
        have hcm : cmap 312 = 60 := rfl
        have hn3 : ((v :: st).length : Int) = st.length + 1 := by simp only [List.length_cons]; omega
        have hev : evM (envZ D s0 b g ink age de dr) (D 6 de) 312 (v :: st) = (if v = D 6 de then 1 else 0) :: st := by unfold evM; rw [if_neg (by decide), if_pos rfl]
        refine w_iload c_243_7 rfl ?_
        refine w_aload c_243_8 rfl ?_
        refine z_getZ c_243_9 sp_157 (by decide) rfl ((hF 157 98 (by decide)).trans hto) ?_
        refine z_ic_ge c_243_12 (by first | exact aRg_of _ | (unfold aRg; omega)) (by first | exact aRg_of _ | (unfold aRg; omega)) (fun h1_ => ?_) (fun h1_ => ?_)
        · exfalso; omega
        refine w_aload c_243_15 rfl ?_
        refine w_getR c_243_16 sp_157 (by decide) rfl pr_157_97 ?_
        refine w_iload c_243_19 rfl ?_
        refine z_iaload c_243_20 sp_232 (by omega) (by first | decide | omega) ((pk_fr hF (by decide)).trans hc.1) ?_
        refine w_istore c_243_21 (Nat.le_of_ble_eq_true rfl) rfl ?_
        refine w_iload c_243_22 rfl ?_
        refine z_push c_243_23 ?_
        refine z_ic_lt c_243_26 (by first | exact aRg_of _ | (unfold aRg; omega)) (by first | exact aRg_of _ | (unfold aRg; omega)) (fun h2_ => ?_) (fun h2_ => ?_)
        rotate_left
        · exfalso; omega
        refine w_iload c_243_42 rfl ?_
        refine z_push c_243_43 ?_
        refine z_ic_lt c_243_45 (by first | exact aRg_of _ | (unfold aRg; omega)) (by first | exact aRg_of _ | (unfold aRg; omega)) (fun h3_ => ?_) (fun h3_ => ?_)
        · exfalso; omega
        refine w_aload c_243_48 rfl ?_
        refine w_getR c_243_49 sp_157 (by decide) rfl pr_157_103 ?_
        refine w_aload c_243_52 rfl ?_
        refine z_getZ c_243_53 sp_157 (by decide) rfl hn ?_
        refine z_push c_243_56 ?_
        refine z_isub c_243_57 ?_
        refine w_aload c_243_58 rfl ?_
        refine w_iload c_243_59 rfl ?_
        refine z_push c_243_60 ?_
        refine z_isub c_243_62 ?_
        refine w_aload c_243_63 rfl ?_
        refine w_getR c_243_64 sp_157 (by decide) rfl pr_157_103 ?_
        refine w_aload c_243_67 rfl ?_
        refine z_getZ c_243_68 sp_157 (by decide) rfl hn ?_
        refine z_push c_243_71 ?_
        refine z_isub c_243_72 ?_
        refine z_laload c_243_73 sp_234 (by omega) (by first | decide | omega) (hrw.top (by omega)) ?_
        refine w_iload c_243_74 rfl ?_
        refine wc_242 c_243_75 sp_157 (Nat.le_of_ble_eq_true rfl) (by omega) ?_
        refine t_qOf hS (hD.pk hF) hde (by unfold aRg; omega) hv1 ?_
        refine r_l ?_
        refine wc_237 c_243_78 (Nat.le_of_ble_eq_true rfl) (by omega) ?_
        refine t_qClip (by split <;> omega) ?_
        rw [clip_id (by split <;> omega)]
        refine r_l ?_
        refine z_lastore c_243_81 sp_234 (by omega) (by decide) ?_
        refine w_goto c_243_82 ?_
        refine z_iinc c_243_162 rfl rfl ?_
        refine w_goto c_243_165 ?_
        exact ih2 _ _ _ (by rw [hev]; exact hrw.2.set (by omega)) (by rw [hev]; exact hn.trans (congrArg iI (by simp only [List.length_cons] <;> omega))) hF (hG.up rfl)
      · rcases st with _ | ⟨v2, _ | ⟨v1, st⟩⟩
        · exact hs2.elim
        · exact hs2.2.elim
        simp only [List.length_cons] at hst hle
        have hcm := cmap_inv (m := m) (Or.inl hm)
        have hev : evM (envZ D s0 b g ink age de dr) (D 6 de) m (v2 :: v1 :: st) = joinZ m v1 v2 :: st := by unfold evM; rw [if_neg (by omega), if_neg (by omega), if_pos (by omega)]
        refine w_iload c_243_7 rfl ?_
        refine w_aload c_243_8 rfl ?_
        refine z_getZ c_243_9 sp_157 (by decide) rfl ((hF 157 98 (by decide)).trans hto) ?_
        refine z_ic_ge c_243_12 (by first | exact aRg_of _ | (unfold aRg; omega)) (by first | exact aRg_of _ | (unfold aRg; omega)) (fun h1_ => ?_) (fun h1_ => ?_)
        · exfalso; omega
        refine w_aload c_243_15 rfl ?_
        refine w_getR c_243_16 sp_157 (by decide) rfl pr_157_97 ?_
        refine w_iload c_243_19 rfl ?_
        refine z_iaload c_243_20 sp_232 (by omega) (by first | decide | omega) ((pk_fr hF (by decide)).trans hc.1) ?_
        refine w_istore c_243_21 (Nat.le_of_ble_eq_true rfl) rfl ?_
        refine w_iload c_243_22 rfl ?_
        refine z_push c_243_23 ?_
        refine z_ic_lt c_243_26 (by first | exact aRg_of _ | (unfold aRg; omega)) (by first | exact aRg_of _ | (unfold aRg; omega)) (fun h2_ => ?_) (fun h2_ => ?_)
        rotate_left
        · exfalso; omega
        refine w_iload c_243_42 rfl ?_
        refine z_push c_243_43 ?_
        refine z_ic_lt c_243_45 (by first | exact aRg_of _ | (unfold aRg; omega)) (by first | exact aRg_of _ | (unfold aRg; omega)) (fun h3_ => ?_) (fun h3_ => ?_)
        rotate_left
        · exfalso; omega
        refine w_iload c_243_85 rfl ?_
        refine z_push c_243_86 ?_
        refine z_ic_lt c_243_88 (by first | exact aRg_of _ | (unfold aRg; omega)) (by first | exact aRg_of _ | (unfold aRg; omega)) (fun h4_ => ?_) (fun h4_ => ?_)
        rotate_left
        · exfalso; omega
        refine w_iload c_243_110 rfl ?_
        refine z_push c_243_111 ?_
        refine z_ic_ne c_243_113 (by first | exact aRg_of _ | (unfold aRg; omega)) (by first | exact aRg_of _ | (unfold aRg; omega)) (fun h5_ => ?_) (fun h5_ => ?_)
        rotate_left
        · exfalso; omega
        refine w_iload c_243_124 rfl ?_
        refine z_push c_243_125 ?_
        refine z_ic_ne c_243_127 (by first | exact aRg_of _ | (unfold aRg; omega)) (by first | exact aRg_of _ | (unfold aRg; omega)) (fun h6_ => ?_) (fun h6_ => ?_)
        rotate_left
        · exfalso; omega
        refine w_aload c_243_157 rfl ?_
        refine w_iload c_243_158 rfl ?_
        refine wc_240 c_243_159 sp_157 (Nat.le_of_ble_eq_true rfl) (by omega) ?_
        refine t_qJoins (Or.inl hm) hs2.2.1.2 hs2.1.2 hn (by simp only [List.length_cons]; omega) (by omega) hrw (by omega) (fun I2 L2 hj1 hj2 hj3 hj4 => ?_)
        refine r_v ?_
        refine z_iinc c_243_162 rfl rfl ?_
        refine w_goto c_243_165 ?_
        exact ih2 _ _ _ (by rw [hev]; exact hj2) (by rw [hev]; exact hj1.trans (congrArg iI (by simp only [List.length_cons] <;> omega))) (hF.tr hj3) (hG.tr hj4)
      · rcases st with _ | ⟨v2, _ | ⟨v1, st⟩⟩
        · exact hs2.elim
        · exact hs2.2.elim
        simp only [List.length_cons] at hst hle
        have hcm := cmap_inv (m := m) (Or.inr (Or.inl hm))
        have hev : evM (envZ D s0 b g ink age de dr) (D 6 de) m (v2 :: v1 :: st) = joinZ m v1 v2 :: st := by unfold evM; rw [if_neg (by omega), if_neg (by omega), if_pos (by omega)]
        refine w_iload c_243_7 rfl ?_
        refine w_aload c_243_8 rfl ?_
        refine z_getZ c_243_9 sp_157 (by decide) rfl ((hF 157 98 (by decide)).trans hto) ?_
        refine z_ic_ge c_243_12 (by first | exact aRg_of _ | (unfold aRg; omega)) (by first | exact aRg_of _ | (unfold aRg; omega)) (fun h1_ => ?_) (fun h1_ => ?_)
        · exfalso; omega
        refine w_aload c_243_15 rfl ?_
        refine w_getR c_243_16 sp_157 (by decide) rfl pr_157_97 ?_
        refine w_iload c_243_19 rfl ?_
        refine z_iaload c_243_20 sp_232 (by omega) (by first | decide | omega) ((pk_fr hF (by decide)).trans hc.1) ?_
        refine w_istore c_243_21 (Nat.le_of_ble_eq_true rfl) rfl ?_
        refine w_iload c_243_22 rfl ?_
        refine z_push c_243_23 ?_
        refine z_ic_lt c_243_26 (by first | exact aRg_of _ | (unfold aRg; omega)) (by first | exact aRg_of _ | (unfold aRg; omega)) (fun h2_ => ?_) (fun h2_ => ?_)
        rotate_left
        · exfalso; omega
        refine w_iload c_243_42 rfl ?_
        refine z_push c_243_43 ?_
        refine z_ic_lt c_243_45 (by first | exact aRg_of _ | (unfold aRg; omega)) (by first | exact aRg_of _ | (unfold aRg; omega)) (fun h3_ => ?_) (fun h3_ => ?_)
        rotate_left
        · exfalso; omega
        refine w_iload c_243_85 rfl ?_
        refine z_push c_243_86 ?_
        refine z_ic_lt c_243_88 (by first | exact aRg_of _ | (unfold aRg; omega)) (by first | exact aRg_of _ | (unfold aRg; omega)) (fun h4_ => ?_) (fun h4_ => ?_)
        rotate_left
        · exfalso; omega
        refine w_iload c_243_110 rfl ?_
        refine z_push c_243_111 ?_
        refine z_ic_ne c_243_113 (by first | exact aRg_of _ | (unfold aRg; omega)) (by first | exact aRg_of _ | (unfold aRg; omega)) (fun h5_ => ?_) (fun h5_ => ?_)
        rotate_left
        · exfalso; omega
        refine w_iload c_243_124 rfl ?_
        refine z_push c_243_125 ?_
        refine z_ic_ne c_243_127 (by first | exact aRg_of _ | (unfold aRg; omega)) (by first | exact aRg_of _ | (unfold aRg; omega)) (fun h6_ => ?_) (fun h6_ => ?_)
        rotate_left
        · exfalso; omega
        refine w_aload c_243_157 rfl ?_
        refine w_iload c_243_158 rfl ?_
        refine wc_240 c_243_159 sp_157 (Nat.le_of_ble_eq_true rfl) (by omega) ?_
        refine t_qJoins (Or.inr (Or.inl hm)) hs2.2.1.2 hs2.1.2 hn (by simp only [List.length_cons]; omega) (by omega) hrw (by omega) (fun I2 L2 hj1 hj2 hj3 hj4 => ?_)
        refine r_v ?_
        refine z_iinc c_243_162 rfl rfl ?_
        refine w_goto c_243_165 ?_
        exact ih2 _ _ _ (by rw [hev]; exact hj2) (by rw [hev]; exact hj1.trans (congrArg iI (by simp only [List.length_cons] <;> omega))) (hF.tr hj3) (hG.tr hj4)
      · rcases st with _ | ⟨v2, _ | ⟨v1, st⟩⟩
        · exact hs2.elim
        · exact hs2.2.elim
        simp only [List.length_cons] at hst hle
        have hcm := cmap_inv (m := m) (Or.inr (Or.inr hm))
        have hev : evM (envZ D s0 b g ink age de dr) (D 6 de) m (v2 :: v1 :: st) = joinZ m v1 v2 :: st := by unfold evM; rw [if_neg (by omega), if_neg (by omega), if_pos (by omega)]
        refine w_iload c_243_7 rfl ?_
        refine w_aload c_243_8 rfl ?_
        refine z_getZ c_243_9 sp_157 (by decide) rfl ((hF 157 98 (by decide)).trans hto) ?_
        refine z_ic_ge c_243_12 (by first | exact aRg_of _ | (unfold aRg; omega)) (by first | exact aRg_of _ | (unfold aRg; omega)) (fun h1_ => ?_) (fun h1_ => ?_)
        · exfalso; omega
        refine w_aload c_243_15 rfl ?_
        refine w_getR c_243_16 sp_157 (by decide) rfl pr_157_97 ?_
        refine w_iload c_243_19 rfl ?_
        refine z_iaload c_243_20 sp_232 (by omega) (by first | decide | omega) ((pk_fr hF (by decide)).trans hc.1) ?_
        refine w_istore c_243_21 (Nat.le_of_ble_eq_true rfl) rfl ?_
        refine w_iload c_243_22 rfl ?_
        refine z_push c_243_23 ?_
        refine z_ic_lt c_243_26 (by first | exact aRg_of _ | (unfold aRg; omega)) (by first | exact aRg_of _ | (unfold aRg; omega)) (fun h2_ => ?_) (fun h2_ => ?_)
        rotate_left
        · exfalso; omega
        refine w_iload c_243_42 rfl ?_
        refine z_push c_243_43 ?_
        refine z_ic_lt c_243_45 (by first | exact aRg_of _ | (unfold aRg; omega)) (by first | exact aRg_of _ | (unfold aRg; omega)) (fun h3_ => ?_) (fun h3_ => ?_)
        rotate_left
        · exfalso; omega
        refine w_iload c_243_85 rfl ?_
        refine z_push c_243_86 ?_
        refine z_ic_lt c_243_88 (by first | exact aRg_of _ | (unfold aRg; omega)) (by first | exact aRg_of _ | (unfold aRg; omega)) (fun h4_ => ?_) (fun h4_ => ?_)
        rotate_left
        · exfalso; omega
        refine w_iload c_243_110 rfl ?_
        refine z_push c_243_111 ?_
        refine z_ic_ne c_243_113 (by first | exact aRg_of _ | (unfold aRg; omega)) (by first | exact aRg_of _ | (unfold aRg; omega)) (fun h5_ => ?_) (fun h5_ => ?_)
        rotate_left
        · exfalso; omega
        refine w_iload c_243_124 rfl ?_
        refine z_push c_243_125 ?_
        refine z_ic_ne c_243_127 (by first | exact aRg_of _ | (unfold aRg; omega)) (by first | exact aRg_of _ | (unfold aRg; omega)) (fun h6_ => ?_) (fun h6_ => ?_)
        rotate_left
        · exfalso; omega
        refine w_aload c_243_157 rfl ?_
        refine w_iload c_243_158 rfl ?_
        refine wc_240 c_243_159 sp_157 (Nat.le_of_ble_eq_true rfl) (by omega) ?_
        refine t_qJoins (Or.inr (Or.inr ⟨hm, hs2.2.1.1 rfl, hs2.1.1 rfl⟩)) hs2.2.1.2 hs2.1.2 hn (by simp only [List.length_cons]; omega) (by omega) hrw (by omega) (fun I2 L2 hj1 hj2 hj3 hj4 => ?_)
        refine r_v ?_
        refine z_iinc c_243_162 rfl rfl ?_
        refine w_goto c_243_165 ?_
        exact ih2 _ _ _ (by rw [hev]; exact hj2) (by rw [hev]; exact hj1.trans (congrArg iI (by simp only [List.length_cons] <;> omega))) (hF.tr hj3) (hG.tr hj4)
      · have hcm : cmap 329 = 13 := rfl
        have hev : evM (envZ D s0 b g ink age de dr) (D 6 de) 329 st = 1 :: st := by unfold evM; rw [if_neg (by omega), if_neg (by omega), if_neg (by omega)]; unfold pvZ; rw [if_neg (by omega), hE.2]
        refine w_iload c_243_7 rfl ?_
        refine w_aload c_243_8 rfl ?_
        refine z_getZ c_243_9 sp_157 (by decide) rfl ((hF 157 98 (by decide)).trans hto) ?_
        refine z_ic_ge c_243_12 (by first | exact aRg_of _ | (unfold aRg; omega)) (by first | exact aRg_of _ | (unfold aRg; omega)) (fun h1_ => ?_) (fun h1_ => ?_)
        · exfalso; omega
        refine w_aload c_243_15 rfl ?_
        refine w_getR c_243_16 sp_157 (by decide) rfl pr_157_97 ?_
        refine w_iload c_243_19 rfl ?_
        refine z_iaload c_243_20 sp_232 (by omega) (by first | decide | omega) ((pk_fr hF (by decide)).trans hc.1) ?_
        refine w_istore c_243_21 (Nat.le_of_ble_eq_true rfl) rfl ?_
        refine w_iload c_243_22 rfl ?_
        refine z_push c_243_23 ?_
        refine z_ic_lt c_243_26 (by first | exact aRg_of _ | (unfold aRg; omega)) (by first | exact aRg_of _ | (unfold aRg; omega)) (fun h2_ => ?_) (fun h2_ => ?_)
        rotate_left
        · exfalso; omega
        refine w_iload c_243_42 rfl ?_
        refine z_push c_243_43 ?_
        refine z_ic_lt c_243_45 (by first | exact aRg_of _ | (unfold aRg; omega)) (by first | exact aRg_of _ | (unfold aRg; omega)) (fun h3_ => ?_) (fun h3_ => ?_)
        rotate_left
        · exfalso; omega
        refine w_iload c_243_85 rfl ?_
        refine z_push c_243_86 ?_
        refine z_ic_lt c_243_88 (by first | exact aRg_of _ | (unfold aRg; omega)) (by first | exact aRg_of _ | (unfold aRg; omega)) (fun h4_ => ?_) (fun h4_ => ?_)
        rotate_left
        · exfalso; omega
        refine w_iload c_243_110 rfl ?_
        refine z_push c_243_111 ?_
        refine z_ic_ne c_243_113 (by first | exact aRg_of _ | (unfold aRg; omega)) (by first | exact aRg_of _ | (unfold aRg; omega)) (fun h5_ => ?_) (fun h5_ => ?_)
        · exfalso; omega
        refine w_aload c_243_116 rfl ?_
        refine z_pushl c_243_117 ?_
        refine wc_239 c_243_118 sp_157 (Nat.le_of_ble_eq_true rfl) (by omega) ?_
        refine t_qPuts hn (by omega) ?_
        refine r_v ?_
        refine w_goto c_243_121 ?_
        refine z_iinc c_243_162 rfl rfl ?_
        refine w_goto c_243_165 ?_
        exact ih2 _ _ _ (by rw [hev]; exact hrw.set (by omega)) (by rw [hev]; exact up_eq.trans (congrArg iI (by simp only [List.length_cons] <;> omega))) (hF.up ⟨rfl, rfl⟩) (hG.up rfl)
      · rcases (show 1000 ≤ m ∨ m < 1000 by omega) with h1000 | h1000
        · have hcm := cmap_num h1000
          have hev : evM (envZ D s0 b g ink age de dr) (D 6 de) m st = (cmap m - 1000) :: st := by unfold evM; rw [if_neg (by omega), if_neg (by omega), if_neg (by omega)]; unfold pvZ; rw [if_pos h1000, hcm]
          refine w_iload c_243_7 rfl ?_
          refine w_aload c_243_8 rfl ?_
          refine z_getZ c_243_9 sp_157 (by decide) rfl ((hF 157 98 (by decide)).trans hto) ?_
          refine z_ic_ge c_243_12 (by first | exact aRg_of _ | (unfold aRg; omega)) (by first | exact aRg_of _ | (unfold aRg; omega)) (fun h1_ => ?_) (fun h1_ => ?_)
          · exfalso; omega
          refine w_aload c_243_15 rfl ?_
          refine w_getR c_243_16 sp_157 (by decide) rfl pr_157_97 ?_
          refine w_iload c_243_19 rfl ?_
          refine z_iaload c_243_20 sp_232 (by omega) (by first | decide | omega) ((pk_fr hF (by decide)).trans hc.1) ?_
          refine w_istore c_243_21 (Nat.le_of_ble_eq_true rfl) rfl ?_
          refine w_iload c_243_22 rfl ?_
          refine z_push c_243_23 ?_
          refine z_ic_lt c_243_26 (by first | exact aRg_of _ | (unfold aRg; omega)) (by first | exact aRg_of _ | (unfold aRg; omega)) (fun h2_ => ?_) (fun h2_ => ?_)
          · exfalso; omega
          refine w_aload c_243_29 rfl ?_
          refine w_iload c_243_30 rfl ?_
          refine z_push c_243_31 ?_
          refine z_isub c_243_34 ?_
          refine z_i2l c_243_35 (by first | exact aRg_of _ | (unfold aRg; omega)) ?_
          refine wc_239 c_243_36 sp_157 (Nat.le_of_ble_eq_true rfl) (by omega) ?_
          refine t_qPuts hn (by omega) ?_
          refine r_v ?_
          refine w_goto c_243_39 ?_
          refine z_iinc c_243_162 rfl rfl ?_
          refine w_goto c_243_165 ?_
          exact ih2 _ _ _ (by rw [hev]; exact hrw.set (by omega)) (by rw [hev]; exact up_eq.trans (congrArg iI (by simp only [List.length_cons] <;> omega))) (hF.up ⟨rfl, rfl⟩) (hG.up rfl)
        · have hcm := cmap_prt hm h1000
          have hev : evM (envZ D s0 b g ink age de dr) (D 6 de) m st = (envZ D s0 b g ink age de dr) m :: st := by unfold evM; rw [if_neg (by omega), if_neg (by omega), if_neg (by omega)]; unfold pvZ; rw [if_neg (by omega)]
          refine w_iload c_243_7 rfl ?_
          refine w_aload c_243_8 rfl ?_
          refine z_getZ c_243_9 sp_157 (by decide) rfl ((hF 157 98 (by decide)).trans hto) ?_
          refine z_ic_ge c_243_12 (by first | exact aRg_of _ | (unfold aRg; omega)) (by first | exact aRg_of _ | (unfold aRg; omega)) (fun h1_ => ?_) (fun h1_ => ?_)
          · exfalso; omega
          refine w_aload c_243_15 rfl ?_
          refine w_getR c_243_16 sp_157 (by decide) rfl pr_157_97 ?_
          refine w_iload c_243_19 rfl ?_
          refine z_iaload c_243_20 sp_232 (by omega) (by first | decide | omega) ((pk_fr hF (by decide)).trans hc.1) ?_
          refine w_istore c_243_21 (Nat.le_of_ble_eq_true rfl) rfl ?_
          refine w_iload c_243_22 rfl ?_
          refine z_push c_243_23 ?_
          refine z_ic_lt c_243_26 (by first | exact aRg_of _ | (unfold aRg; omega)) (by first | exact aRg_of _ | (unfold aRg; omega)) (fun h2_ => ?_) (fun h2_ => ?_)
          rotate_left
          · exfalso; omega
          refine w_iload c_243_42 rfl ?_
          refine z_push c_243_43 ?_
          refine z_ic_lt c_243_45 (by first | exact aRg_of _ | (unfold aRg; omega)) (by first | exact aRg_of _ | (unfold aRg; omega)) (fun h3_ => ?_) (fun h3_ => ?_)
          rotate_left
          · exfalso; omega
          refine w_iload c_243_85 rfl ?_
          refine z_push c_243_86 ?_
          refine z_ic_lt c_243_88 (by first | exact aRg_of _ | (unfold aRg; omega)) (by first | exact aRg_of _ | (unfold aRg; omega)) (fun h4_ => ?_) (fun h4_ => ?_)
          · exfalso; omega
          refine w_aload c_243_91 rfl ?_
          refine w_aload c_243_92 rfl ?_
          refine w_iload c_243_93 rfl ?_
          refine z_push c_243_94 ?_
          refine z_isub c_243_96 ?_
          refine w_iload c_243_97 rfl ?_
          refine wc_241 c_243_98 sp_157 (Nat.le_of_ble_eq_true rfl) (by omega) ?_
          refine t_qPartOf hS (hD.pk hF) (hN.pk hF (by decide)) hde hs hb hg hi ha ((lk_fr hG (by decide)).trans hA) hm h1000 (by omega) ?_
          refine r_l ?_
          refine wc_237 c_243_101 (Nat.le_of_ble_eq_true rfl) (by omega) ?_
          refine t_qClip (by have := hE.1 m hm; omega) ?_
          rw [clip_id (hE.1 m hm)]
          refine r_l ?_
          refine wc_239 c_243_104 sp_157 (Nat.le_of_ble_eq_true rfl) (by omega) ?_
          refine t_qPuts hn (by omega) ?_
          refine r_v ?_
          refine w_goto c_243_107 ?_
          refine z_iinc c_243_162 rfl rfl ?_
          refine w_goto c_243_165 ?_
          exact ih2 _ _ _ (by rw [hev]; exact hrw.set (by omega)) (by rw [hev]; exact up_eq.trans (congrArg iI (by simp only [List.length_cons] <;> omega))) (hF.up ⟨rfl, rfl⟩) (hG.up rfl)

theorem t_qTold {d : Nat} {I : aFI} {L : aFL} {Q : aPo} {sh : Nat} {su : Option Nat} {D : Nat → Int → Int} {cd : Nat → Option (List Int)} {s0 b g : Int} {w : Nat} {ink age : Int → Int} {de dr : Int} {t : Bool} {l : List Int} (hS : wfS D cd) (hD : rD I D) (hN : nLk I 202 s0 b g w ink age) (hde : 0 ≤ de ∧ de < D 1 2) (hs : 0 ≤ s0 ∧ s0 ≤ 1000) (hb : 0 ≤ b ∧ b < 100000) (hg : 0 ≤ g ∧ g < 100000) (hi : 0 ≤ ink de ∧ ink de ≤ 9999) (ha : 0 ≤ age de ∧ age de ≤ 99) (hA : L 204 de.toNat = lI dr) (hE : eOK (envZ D s0 b g ink age de dr)) (hd : 3 ≤ d) (hto : I 157 98 = iI (l.length : Int)) (hto2 : (l.length : Int) ≤ 1690) (hc : qcAt I 0 l) (ht : tyC l [] [t]) (hok : ∀ m ∈ l, okM 3 m) (kk : ∀ (I2 : aFI) (L2 : aFL), frG PK I I2 → frG LK L L2 → Q (some (.long (lI (valC (envZ D s0 b g ink age de dr) (D 6 de) l)))) I2 L2 (aR sh su)) : aWp none d 243 0 [.ref 157, .int (iI de), .null, .null] [] I L (aR sh su) Q := by
  refine w_aload c_243_0 rfl ?_
  refine z_push c_243_1 ?_
  refine z_putZ c_243_2 sp_157 (by decide) rfl ?_
  refine upG_k (frG.rf (P := PK) (I := I)) ⟨rfl, rfl⟩ (fun I2 hup hF => ?_)
  have hn2 : I2 157 104 = iI 0 := by rw [hup]; exact up_eq
  refine z_push c_243_5 ?_
  refine w_istore c_243_6 (Nat.le_of_ble_eq_true rfl) rfl ?_
  exact t_qTold_1 hS hD hN hde hs hb hg hi ha hA hto hto2 hE hd _ l [] [] _ _ _ _ (Nat.lt_succ_self _) (by omega) hc ht hok (by simp) trivial trivial hn2 hF frG.rf kk
def qtk (kd v A : Int) (i : Nat) : Int := if kd = 0 then (if v = 1 then (if A = -1 then i else A) else A) else if kd = 1 then (if v = 1 then i else A) else if kd = 2 then (if v = 1 then A + 1 else A) else if kd = 3 then A + v else if kd = 4 then (if i = 0 then v else if A < v then v else A) else (if i = 0 then v else if v < A then v else A)
theorem qtk_on {W : Int → Int} {kd : Int} {i : Nat} (hk : 0 ≤ kd ∧ kd < 6) (h1 : kd < 3 → W i = 0 ∨ W i = 1) : qtk kd (W i) (aNow W (332 + kd) i) i = aNow W (332 + kd) (i + 1) := by
  have hb := aTs_b (W := W) i
  rcases (show kd = 0 ∨ kd = 1 ∨ kd = 2 ∨ kd = 3 ∨ kd = 4 ∨ kd = 5 by omega) with rfl | rfl | rfl | rfl | rfl | rfl
  · show (if W i = 1 then (if (aTs W i).1 = -1 then (i : Int) else (aTs W i).1) else (aTs W i).1) = (aTs W (i + 1)).1
    rw [aTs_on]
    rcases h1 (by decide) with h | h
    · rw [if_neg (by rw [h]; decide), if_pos h]
    · rw [if_pos h, if_neg (show ¬ W i = 0 by rw [h]; decide)]
      show _ = if (aTs W i).2.2 = 0 then (i : Int) else (aTs W i).1
      by_cases z : (aTs W i).2.2 = 0
      · rw [if_pos z, if_pos (hb.2.2.2.mp z)]
      · rw [if_neg z, if_neg (fun y => z (hb.2.2.2.mpr y))]
  · show (if W i = 1 then (i : Int) else (aTs W i).2.1) = (aTs W (i + 1)).2.1
    rw [aTs_on]
    rcases h1 (by decide) with h | h
    · rw [if_neg (by rw [h]; decide), if_pos h]
    · rw [if_pos h, if_neg (show ¬ W i = 0 by rw [h]; decide)]
  · show (if W i = 1 then (aTs W i).2.2 + 1 else (aTs W i).2.2) = (aTs W (i + 1)).2.2
    rw [aTs_on]
    rcases h1 (by decide) with h | h
    · rw [if_neg (by rw [h]; decide), if_pos h]
    · rw [if_pos h, if_neg (show ¬ W i = 0 by rw [h]; decide)]
  · exact rfl
  · show (if i = 0 then W i else if (aSs W i).2.1 < W i then W i else (aSs W i).2.1) = if i = 0 then W i else max (aSs W i).2.1 (W i)
    by_cases z : i = 0
    · rw [if_pos z, if_pos z]
    · rw [if_neg z, if_neg z]; split <;> omega
  · show (if i = 0 then W i else if W i < (aSs W i).2.2 then W i else (aSs W i).2.2) = if i = 0 then W i else min (aSs W i).2.2 (W i)
    by_cases z : i = 0
    · rw [if_pos z, if_pos z]
    · rw [if_neg z, if_neg z]; split <;> omega
abbrev PLq : Nat → Nat → Prop := fun q k => q = 157 ∧ k = 105
set_option maxHeartbeats 1000000 in
theorem t_qTakes_0 {d : Nat} {I : aFI} {L : aFL} {Q : aPo} {sh : Nat} {su : Option Nat} {v A : Int} {i : Nat} (hi : i < 8) (hv : -1000000 ≤ v ∧ v ≤ 1000000) (hA : L 157 105 = lI A) (hb : -100000000 ≤ A ∧ A ≤ 100000000) (hn : I 157 106 = aBo (decide (i = 0))) (kk : ∀ L2 : aFL, L2 157 105 = lI (qtk 0 v A i) → frG PLq L L2 → Q none (aUp I 157 106 (aBo false)) L2 (aR sh su)) : aWp none d 245 0 [.ref 157, .int (iI 0), .long (lI v), .null, .int (iI (i : Int)), .null] [] I L (aR sh su) Q := by
  refine w_iload c_245_0 rfl ?_
  refine z_push c_245_1 ?_
  refine z_ic_ge c_245_2 (by first | exact aRg_of _ | (unfold aRg; omega)) (by first | exact aRg_of _ | (unfold aRg; omega)) (fun h => absurd h (by decide)) (fun _ => ?_)
  refine w_lload c_245_5 rfl ?_
  refine z_pushl c_245_6 ?_
  refine z_lc_ne c_245_7 c_245_8 (by first | exact aRl_of _ | (unfold aRl; omega)) (by first | exact aRl_of _ | (unfold aRl; omega)) (fun h2_ => ?_) (fun h2_ => ?_)
  · refine z_push c_245_15 ?_
    refine w_istore c_245_16 (Nat.le_of_ble_eq_true rfl) rfl ?_
    refine w_iload c_245_18 rfl ?_
    refine z_if_ne c_245_19 (by first | exact aRg_of _ | (unfold aRg; omega)) (fun h3_ => absurd h3_ (by decide)) (fun h3_ => ?_)
    refine w_iload c_245_22 rfl ?_
    refine z_if_eq c_245_24 (by first | exact aRg_of _ | (unfold aRg; omega)) (fun h4_ => ?_) (fun h4_ => absurd (by decide) h4_)
    refine w_iload c_245_38 rfl ?_
    refine z_push c_245_39 ?_
    refine z_ic_ne c_245_40 (by first | exact aRg_of _ | (unfold aRg; omega)) (by first | exact aRg_of _ | (unfold aRg; omega)) (fun _ => ?_) (fun h => absurd h (by decide))
    refine w_iload c_245_55 rfl ?_
    refine z_push c_245_56 ?_
    refine z_ic_ne c_245_57 (by first | exact aRg_of _ | (unfold aRg; omega)) (by first | exact aRg_of _ | (unfold aRg; omega)) (fun _ => ?_) (fun h => absurd h (by decide))
    refine w_iload c_245_75 rfl ?_
    refine z_push c_245_76 ?_
    refine z_ic_ne c_245_77 (by first | exact aRg_of _ | (unfold aRg; omega)) (by first | exact aRg_of _ | (unfold aRg; omega)) (fun _ => ?_) (fun h => absurd h (by decide))
    refine w_iload c_245_90 rfl ?_
    refine z_push c_245_91 ?_
    refine z_ic_le c_245_92 (by first | exact aRg_of _ | (unfold aRg; omega)) (by first | exact aRg_of _ | (unfold aRg; omega)) (fun _ => ?_) (fun h => absurd h (by decide))
    refine w_aload c_245_133 rfl ?_
    refine z_push c_245_134 ?_
    refine z_putB (b := false) c_245_135 sp_157 (by decide) rfl ?_
    refine z_retv c_245_138 ?_
    refine kk _ ?_ ?_
    · first | (refine hA.trans (congrArg lI ?_); show _ = (if v = 1 then (if A = -1 then (i : Int) else A) else A); (try simp only [decide_eq_true_eq, decide_eq_false_iff_not] at h7_); (repeat' split); all_goals omega; done) | (refine Eq.trans (upL_eq : aUp L 157 105 _ 157 105 = _) ?_; refine congrArg lI ?_; show _ = (if v = 1 then (if A = -1 then (i : Int) else A) else A); (try simp only [decide_eq_true_eq, decide_eq_false_iff_not] at h7_); (repeat' split); all_goals omega; done)
    · first | exact frG.rf | exact frG.rf.up ⟨rfl, rfl⟩
  · refine z_push c_245_11 ?_
    refine w_goto c_245_12 ?_
    refine w_istore c_245_16 (Nat.le_of_ble_eq_true rfl) rfl ?_
    refine w_iload c_245_18 rfl ?_
    refine z_if_ne c_245_19 (by first | exact aRg_of _ | (unfold aRg; omega)) (fun h9_ => absurd h9_ (by decide)) (fun h9_ => ?_)
    refine w_iload c_245_22 rfl ?_
    refine z_if_eq c_245_24 (by first | exact aRg_of _ | (unfold aRg; omega)) (fun h10_ => absurd h10_ (by decide)) (fun h10_ => ?_)
    refine w_aload c_245_27 rfl ?_
    refine z_getL c_245_28 sp_157 (by decide) rfl hA ?_
    refine z_pushl c_245_31 ?_
    refine z_lc_eq c_245_34 c_245_35 (by first | exact aRl_of _ | (unfold aRl; omega)) (by first | exact aRl_of _ | (unfold aRl; omega)) (fun h11_ => ?_) (fun h11_ => ?_)
    · refine w_aload c_245_48 rfl ?_
      refine w_iload c_245_49 rfl ?_
      refine z_i2l c_245_51 (by first | exact aRg_of _ | (unfold aRg; omega)) ?_
      refine w_putL c_245_52 sp_157 (by decide) rfl ?_
      refine w_iload c_245_55 rfl ?_
      refine z_push c_245_56 ?_
      refine z_ic_ne c_245_57 (by first | exact aRg_of _ | (unfold aRg; omega)) (by first | exact aRg_of _ | (unfold aRg; omega)) (fun _ => ?_) (fun h => absurd h (by decide))
      refine w_iload c_245_75 rfl ?_
      refine z_push c_245_76 ?_
      refine z_ic_ne c_245_77 (by first | exact aRg_of _ | (unfold aRg; omega)) (by first | exact aRg_of _ | (unfold aRg; omega)) (fun _ => ?_) (fun h => absurd h (by decide))
      refine w_iload c_245_90 rfl ?_
      refine z_push c_245_91 ?_
      refine z_ic_le c_245_92 (by first | exact aRg_of _ | (unfold aRg; omega)) (by first | exact aRg_of _ | (unfold aRg; omega)) (fun _ => ?_) (fun h => absurd h (by decide))
      refine w_aload c_245_133 rfl ?_
      refine z_push c_245_134 ?_
      refine z_putB (b := false) c_245_135 sp_157 (by decide) rfl ?_
      refine z_retv c_245_138 ?_
      refine kk _ ?_ ?_
      · first | (refine hA.trans (congrArg lI ?_); show _ = (if v = 1 then (if A = -1 then (i : Int) else A) else A); (try simp only [decide_eq_true_eq, decide_eq_false_iff_not] at h7_); (repeat' split); all_goals omega; done) | (refine Eq.trans (upL_eq : aUp L 157 105 _ 157 105 = _) ?_; refine congrArg lI ?_; show _ = (if v = 1 then (if A = -1 then (i : Int) else A) else A); (try simp only [decide_eq_true_eq, decide_eq_false_iff_not] at h7_); (repeat' split); all_goals omega; done)
      · first | exact frG.rf | exact frG.rf.up ⟨rfl, rfl⟩
    · refine w_iload c_245_38 rfl ?_
      refine z_push c_245_39 ?_
      refine z_ic_ne c_245_40 (by first | exact aRg_of _ | (unfold aRg; omega)) (by first | exact aRg_of _ | (unfold aRg; omega)) (fun _ => ?_) (fun h => absurd h (by decide))
      refine w_iload c_245_55 rfl ?_
      refine z_push c_245_56 ?_
      refine z_ic_ne c_245_57 (by first | exact aRg_of _ | (unfold aRg; omega)) (by first | exact aRg_of _ | (unfold aRg; omega)) (fun _ => ?_) (fun h => absurd h (by decide))
      refine w_iload c_245_75 rfl ?_
      refine z_push c_245_76 ?_
      refine z_ic_ne c_245_77 (by first | exact aRg_of _ | (unfold aRg; omega)) (by first | exact aRg_of _ | (unfold aRg; omega)) (fun _ => ?_) (fun h => absurd h (by decide))
      refine w_iload c_245_90 rfl ?_
      refine z_push c_245_91 ?_
      refine z_ic_le c_245_92 (by first | exact aRg_of _ | (unfold aRg; omega)) (by first | exact aRg_of _ | (unfold aRg; omega)) (fun _ => ?_) (fun h => absurd h (by decide))
      refine w_aload c_245_133 rfl ?_
      refine z_push c_245_134 ?_
      refine z_putB (b := false) c_245_135 sp_157 (by decide) rfl ?_
      refine z_retv c_245_138 ?_
      refine kk _ ?_ ?_
      · first | (refine hA.trans (congrArg lI ?_); show _ = (if v = 1 then (if A = -1 then (i : Int) else A) else A); (try simp only [decide_eq_true_eq, decide_eq_false_iff_not] at h7_); (repeat' split); all_goals omega; done) | (refine Eq.trans (upL_eq : aUp L 157 105 _ 157 105 = _) ?_; refine congrArg lI ?_; show _ = (if v = 1 then (if A = -1 then (i : Int) else A) else A); (try simp only [decide_eq_true_eq, decide_eq_false_iff_not] at h7_); (repeat' split); all_goals omega; done)
      · first | exact frG.rf | exact frG.rf.up ⟨rfl, rfl⟩

set_option maxHeartbeats 1000000 in
theorem t_qTakes_1 {d : Nat} {I : aFI} {L : aFL} {Q : aPo} {sh : Nat} {su : Option Nat} {v A : Int} {i : Nat} (hi : i < 8) (hv : -1000000 ≤ v ∧ v ≤ 1000000) (hA : L 157 105 = lI A) (hb : -100000000 ≤ A ∧ A ≤ 100000000) (hn : I 157 106 = aBo (decide (i = 0))) (kk : ∀ L2 : aFL, L2 157 105 = lI (qtk 1 v A i) → frG PLq L L2 → Q none (aUp I 157 106 (aBo false)) L2 (aR sh su)) : aWp none d 245 0 [.ref 157, .int (iI 1), .long (lI v), .null, .int (iI (i : Int)), .null] [] I L (aR sh su) Q := by
  refine w_iload c_245_0 rfl ?_
  refine z_push c_245_1 ?_
  refine z_ic_ge c_245_2 (by first | exact aRg_of _ | (unfold aRg; omega)) (by first | exact aRg_of _ | (unfold aRg; omega)) (fun h => absurd h (by decide)) (fun _ => ?_)
  refine w_lload c_245_5 rfl ?_
  refine z_pushl c_245_6 ?_
  refine z_lc_ne c_245_7 c_245_8 (by first | exact aRl_of _ | (unfold aRl; omega)) (by first | exact aRl_of _ | (unfold aRl; omega)) (fun h2_ => ?_) (fun h2_ => ?_)
  · refine z_push c_245_15 ?_
    refine w_istore c_245_16 (Nat.le_of_ble_eq_true rfl) rfl ?_
    refine w_iload c_245_18 rfl ?_
    refine z_if_ne c_245_19 (by first | exact aRg_of _ | (unfold aRg; omega)) (fun h3_ => ?_) (fun h3_ => absurd (by decide) h3_)
    refine w_iload c_245_38 rfl ?_
    refine z_push c_245_39 ?_
    refine z_ic_ne c_245_40 (by first | exact aRg_of _ | (unfold aRg; omega)) (by first | exact aRg_of _ | (unfold aRg; omega)) (fun h => absurd h (by decide)) (fun _ => ?_)
    refine w_iload c_245_43 rfl ?_
    refine z_if_eq c_245_45 (by first | exact aRg_of _ | (unfold aRg; omega)) (fun h5_ => ?_) (fun h5_ => absurd (by decide) h5_)
    refine w_iload c_245_55 rfl ?_
    refine z_push c_245_56 ?_
    refine z_ic_ne c_245_57 (by first | exact aRg_of _ | (unfold aRg; omega)) (by first | exact aRg_of _ | (unfold aRg; omega)) (fun _ => ?_) (fun h => absurd h (by decide))
    refine w_iload c_245_75 rfl ?_
    refine z_push c_245_76 ?_
    refine z_ic_ne c_245_77 (by first | exact aRg_of _ | (unfold aRg; omega)) (by first | exact aRg_of _ | (unfold aRg; omega)) (fun _ => ?_) (fun h => absurd h (by decide))
    refine w_iload c_245_90 rfl ?_
    refine z_push c_245_91 ?_
    refine z_ic_le c_245_92 (by first | exact aRg_of _ | (unfold aRg; omega)) (by first | exact aRg_of _ | (unfold aRg; omega)) (fun _ => ?_) (fun h => absurd h (by decide))
    refine w_aload c_245_133 rfl ?_
    refine z_push c_245_134 ?_
    refine z_putB (b := false) c_245_135 sp_157 (by decide) rfl ?_
    refine z_retv c_245_138 ?_
    refine kk _ ?_ ?_
    · first | (refine hA.trans (congrArg lI ?_); show _ = (if v = 1 then (i : Int) else A); (try simp only [decide_eq_true_eq, decide_eq_false_iff_not] at h7_); (repeat' split); all_goals omega; done) | (refine Eq.trans (upL_eq : aUp L 157 105 _ 157 105 = _) ?_; refine congrArg lI ?_; show _ = (if v = 1 then (i : Int) else A); (try simp only [decide_eq_true_eq, decide_eq_false_iff_not] at h7_); (repeat' split); all_goals omega; done)
    · first | exact frG.rf | exact frG.rf.up ⟨rfl, rfl⟩
  · refine z_push c_245_11 ?_
    refine w_goto c_245_12 ?_
    refine w_istore c_245_16 (Nat.le_of_ble_eq_true rfl) rfl ?_
    refine w_iload c_245_18 rfl ?_
    refine z_if_ne c_245_19 (by first | exact aRg_of _ | (unfold aRg; omega)) (fun h9_ => ?_) (fun h9_ => absurd (by decide) h9_)
    refine w_iload c_245_38 rfl ?_
    refine z_push c_245_39 ?_
    refine z_ic_ne c_245_40 (by first | exact aRg_of _ | (unfold aRg; omega)) (by first | exact aRg_of _ | (unfold aRg; omega)) (fun h => absurd h (by decide)) (fun _ => ?_)
    refine w_iload c_245_43 rfl ?_
    refine z_if_eq c_245_45 (by first | exact aRg_of _ | (unfold aRg; omega)) (fun h11_ => absurd h11_ (by decide)) (fun h11_ => ?_)
    refine w_aload c_245_48 rfl ?_
    refine w_iload c_245_49 rfl ?_
    refine z_i2l c_245_51 (by first | exact aRg_of _ | (unfold aRg; omega)) ?_
    refine w_putL c_245_52 sp_157 (by decide) rfl ?_
    refine w_iload c_245_55 rfl ?_
    refine z_push c_245_56 ?_
    refine z_ic_ne c_245_57 (by first | exact aRg_of _ | (unfold aRg; omega)) (by first | exact aRg_of _ | (unfold aRg; omega)) (fun _ => ?_) (fun h => absurd h (by decide))
    refine w_iload c_245_75 rfl ?_
    refine z_push c_245_76 ?_
    refine z_ic_ne c_245_77 (by first | exact aRg_of _ | (unfold aRg; omega)) (by first | exact aRg_of _ | (unfold aRg; omega)) (fun _ => ?_) (fun h => absurd h (by decide))
    refine w_iload c_245_90 rfl ?_
    refine z_push c_245_91 ?_
    refine z_ic_le c_245_92 (by first | exact aRg_of _ | (unfold aRg; omega)) (by first | exact aRg_of _ | (unfold aRg; omega)) (fun _ => ?_) (fun h => absurd h (by decide))
    refine w_aload c_245_133 rfl ?_
    refine z_push c_245_134 ?_
    refine z_putB (b := false) c_245_135 sp_157 (by decide) rfl ?_
    refine z_retv c_245_138 ?_
    refine kk _ ?_ ?_
    · first | (refine hA.trans (congrArg lI ?_); show _ = (if v = 1 then (i : Int) else A); (try simp only [decide_eq_true_eq, decide_eq_false_iff_not] at h7_); (repeat' split); all_goals omega; done) | (refine Eq.trans (upL_eq : aUp L 157 105 _ 157 105 = _) ?_; refine congrArg lI ?_; show _ = (if v = 1 then (i : Int) else A); (try simp only [decide_eq_true_eq, decide_eq_false_iff_not] at h7_); (repeat' split); all_goals omega; done)
    · first | exact frG.rf | exact frG.rf.up ⟨rfl, rfl⟩

set_option maxHeartbeats 1000000 in
theorem t_qTakes_2 {d : Nat} {I : aFI} {L : aFL} {Q : aPo} {sh : Nat} {su : Option Nat} {v A : Int} {i : Nat} (hi : i < 8) (hv : -1000000 ≤ v ∧ v ≤ 1000000) (hA : L 157 105 = lI A) (hb : -100000000 ≤ A ∧ A ≤ 100000000) (hn : I 157 106 = aBo (decide (i = 0))) (kk : ∀ L2 : aFL, L2 157 105 = lI (qtk 2 v A i) → frG PLq L L2 → Q none (aUp I 157 106 (aBo false)) L2 (aR sh su)) : aWp none d 245 0 [.ref 157, .int (iI 2), .long (lI v), .null, .int (iI (i : Int)), .null] [] I L (aR sh su) Q := by
  refine w_iload c_245_0 rfl ?_
  refine z_push c_245_1 ?_
  refine z_ic_ge c_245_2 (by first | exact aRg_of _ | (unfold aRg; omega)) (by first | exact aRg_of _ | (unfold aRg; omega)) (fun h => absurd h (by decide)) (fun _ => ?_)
  refine w_lload c_245_5 rfl ?_
  refine z_pushl c_245_6 ?_
  refine z_lc_ne c_245_7 c_245_8 (by first | exact aRl_of _ | (unfold aRl; omega)) (by first | exact aRl_of _ | (unfold aRl; omega)) (fun h2_ => ?_) (fun h2_ => ?_)
  · refine z_push c_245_15 ?_
    refine w_istore c_245_16 (Nat.le_of_ble_eq_true rfl) rfl ?_
    refine w_iload c_245_18 rfl ?_
    refine z_if_ne c_245_19 (by first | exact aRg_of _ | (unfold aRg; omega)) (fun h3_ => ?_) (fun h3_ => absurd (by decide) h3_)
    refine w_iload c_245_38 rfl ?_
    refine z_push c_245_39 ?_
    refine z_ic_ne c_245_40 (by first | exact aRg_of _ | (unfold aRg; omega)) (by first | exact aRg_of _ | (unfold aRg; omega)) (fun _ => ?_) (fun h => absurd h (by decide))
    refine w_iload c_245_55 rfl ?_
    refine z_push c_245_56 ?_
    refine z_ic_ne c_245_57 (by first | exact aRg_of _ | (unfold aRg; omega)) (by first | exact aRg_of _ | (unfold aRg; omega)) (fun h => absurd h (by decide)) (fun _ => ?_)
    refine w_iload c_245_60 rfl ?_
    refine z_if_eq c_245_62 (by first | exact aRg_of _ | (unfold aRg; omega)) (fun h6_ => ?_) (fun h6_ => absurd (by decide) h6_)
    refine w_iload c_245_75 rfl ?_
    refine z_push c_245_76 ?_
    refine z_ic_ne c_245_77 (by first | exact aRg_of _ | (unfold aRg; omega)) (by first | exact aRg_of _ | (unfold aRg; omega)) (fun _ => ?_) (fun h => absurd h (by decide))
    refine w_iload c_245_90 rfl ?_
    refine z_push c_245_91 ?_
    refine z_ic_le c_245_92 (by first | exact aRg_of _ | (unfold aRg; omega)) (by first | exact aRg_of _ | (unfold aRg; omega)) (fun _ => ?_) (fun h => absurd h (by decide))
    refine w_aload c_245_133 rfl ?_
    refine z_push c_245_134 ?_
    refine z_putB (b := false) c_245_135 sp_157 (by decide) rfl ?_
    refine z_retv c_245_138 ?_
    refine kk _ ?_ ?_
    · first | (refine hA.trans (congrArg lI ?_); show _ = (if v = 1 then A + 1 else A); (try simp only [decide_eq_true_eq, decide_eq_false_iff_not] at h7_); (repeat' split); all_goals omega; done) | (refine Eq.trans (upL_eq : aUp L 157 105 _ 157 105 = _) ?_; refine congrArg lI ?_; show _ = (if v = 1 then A + 1 else A); (try simp only [decide_eq_true_eq, decide_eq_false_iff_not] at h7_); (repeat' split); all_goals omega; done)
    · first | exact frG.rf | exact frG.rf.up ⟨rfl, rfl⟩
  · refine z_push c_245_11 ?_
    refine w_goto c_245_12 ?_
    refine w_istore c_245_16 (Nat.le_of_ble_eq_true rfl) rfl ?_
    refine w_iload c_245_18 rfl ?_
    refine z_if_ne c_245_19 (by first | exact aRg_of _ | (unfold aRg; omega)) (fun h9_ => ?_) (fun h9_ => absurd (by decide) h9_)
    refine w_iload c_245_38 rfl ?_
    refine z_push c_245_39 ?_
    refine z_ic_ne c_245_40 (by first | exact aRg_of _ | (unfold aRg; omega)) (by first | exact aRg_of _ | (unfold aRg; omega)) (fun _ => ?_) (fun h => absurd h (by decide))
    refine w_iload c_245_55 rfl ?_
    refine z_push c_245_56 ?_
    refine z_ic_ne c_245_57 (by first | exact aRg_of _ | (unfold aRg; omega)) (by first | exact aRg_of _ | (unfold aRg; omega)) (fun h => absurd h (by decide)) (fun _ => ?_)
    refine w_iload c_245_60 rfl ?_
    refine z_if_eq c_245_62 (by first | exact aRg_of _ | (unfold aRg; omega)) (fun h12_ => absurd h12_ (by decide)) (fun h12_ => ?_)
    refine w_aload c_245_65 rfl ?_
    refine w_dup c_245_66 rfl ?_
    refine z_getL c_245_67 sp_157 (by decide) rfl hA ?_
    refine z_pushl c_245_70 ?_
    refine z_ladd c_245_71 ?_
    refine w_putL c_245_72 sp_157 (by decide) rfl ?_
    refine w_iload c_245_75 rfl ?_
    refine z_push c_245_76 ?_
    refine z_ic_ne c_245_77 (by first | exact aRg_of _ | (unfold aRg; omega)) (by first | exact aRg_of _ | (unfold aRg; omega)) (fun _ => ?_) (fun h => absurd h (by decide))
    refine w_iload c_245_90 rfl ?_
    refine z_push c_245_91 ?_
    refine z_ic_le c_245_92 (by first | exact aRg_of _ | (unfold aRg; omega)) (by first | exact aRg_of _ | (unfold aRg; omega)) (fun _ => ?_) (fun h => absurd h (by decide))
    refine w_aload c_245_133 rfl ?_
    refine z_push c_245_134 ?_
    refine z_putB (b := false) c_245_135 sp_157 (by decide) rfl ?_
    refine z_retv c_245_138 ?_
    refine kk _ ?_ ?_
    · first | (refine hA.trans (congrArg lI ?_); show _ = (if v = 1 then A + 1 else A); (try simp only [decide_eq_true_eq, decide_eq_false_iff_not] at h7_); (repeat' split); all_goals omega; done) | (refine Eq.trans (upL_eq : aUp L 157 105 _ 157 105 = _) ?_; refine congrArg lI ?_; show _ = (if v = 1 then A + 1 else A); (try simp only [decide_eq_true_eq, decide_eq_false_iff_not] at h7_); (repeat' split); all_goals omega; done)
    · first | exact frG.rf | exact frG.rf.up ⟨rfl, rfl⟩

set_option maxHeartbeats 1000000 in
theorem t_qTakes_3 {d : Nat} {I : aFI} {L : aFL} {Q : aPo} {sh : Nat} {su : Option Nat} {v A : Int} {i : Nat} (hi : i < 8) (hv : -1000000 ≤ v ∧ v ≤ 1000000) (hA : L 157 105 = lI A) (hb : -100000000 ≤ A ∧ A ≤ 100000000) (hn : I 157 106 = aBo (decide (i = 0))) (kk : ∀ L2 : aFL, L2 157 105 = lI (qtk 3 v A i) → frG PLq L L2 → Q none (aUp I 157 106 (aBo false)) L2 (aR sh su)) : aWp none d 245 0 [.ref 157, .int (iI 3), .long (lI v), .null, .int (iI (i : Int)), .null] [] I L (aR sh su) Q := by
  refine w_iload c_245_0 rfl ?_
  refine z_push c_245_1 ?_
  refine z_ic_ge c_245_2 (by first | exact aRg_of _ | (unfold aRg; omega)) (by first | exact aRg_of _ | (unfold aRg; omega)) (fun _ => ?_) (fun h => absurd h (by decide))
  refine z_push c_245_15 ?_
  refine w_istore c_245_16 (Nat.le_of_ble_eq_true rfl) rfl ?_
  refine w_iload c_245_18 rfl ?_
  refine z_if_ne c_245_19 (by first | exact aRg_of _ | (unfold aRg; omega)) (fun h2_ => ?_) (fun h2_ => absurd (by decide) h2_)
  refine w_iload c_245_38 rfl ?_
  refine z_push c_245_39 ?_
  refine z_ic_ne c_245_40 (by first | exact aRg_of _ | (unfold aRg; omega)) (by first | exact aRg_of _ | (unfold aRg; omega)) (fun _ => ?_) (fun h => absurd h (by decide))
  refine w_iload c_245_55 rfl ?_
  refine z_push c_245_56 ?_
  refine z_ic_ne c_245_57 (by first | exact aRg_of _ | (unfold aRg; omega)) (by first | exact aRg_of _ | (unfold aRg; omega)) (fun _ => ?_) (fun h => absurd h (by decide))
  refine w_iload c_245_75 rfl ?_
  refine z_push c_245_76 ?_
  refine z_ic_ne c_245_77 (by first | exact aRg_of _ | (unfold aRg; omega)) (by first | exact aRg_of _ | (unfold aRg; omega)) (fun h => absurd h (by decide)) (fun _ => ?_)
  refine w_aload c_245_80 rfl ?_
  refine w_dup c_245_81 rfl ?_
  refine z_getL c_245_82 sp_157 (by decide) rfl hA ?_
  refine w_lload c_245_85 rfl ?_
  refine z_ladd c_245_86 ?_
  refine w_putL c_245_87 sp_157 (by decide) rfl ?_
  refine w_iload c_245_90 rfl ?_
  refine z_push c_245_91 ?_
  refine z_ic_le c_245_92 (by first | exact aRg_of _ | (unfold aRg; omega)) (by first | exact aRg_of _ | (unfold aRg; omega)) (fun _ => ?_) (fun h => absurd h (by decide))
  refine w_aload c_245_133 rfl ?_
  refine z_push c_245_134 ?_
  refine z_putB (b := false) c_245_135 sp_157 (by decide) rfl ?_
  refine z_retv c_245_138 ?_
  refine kk _ ?_ ?_
  · first | (refine hA.trans (congrArg lI ?_); show _ = (A + v); (try simp only [decide_eq_true_eq, decide_eq_false_iff_not] at h7_); (repeat' split); all_goals omega; done) | (refine Eq.trans (upL_eq : aUp L 157 105 _ 157 105 = _) ?_; refine congrArg lI ?_; show _ = (A + v); (try simp only [decide_eq_true_eq, decide_eq_false_iff_not] at h7_); (repeat' split); all_goals omega; done)
  · first | exact frG.rf | exact frG.rf.up ⟨rfl, rfl⟩

set_option maxHeartbeats 1000000 in
theorem t_qTakes_4 {d : Nat} {I : aFI} {L : aFL} {Q : aPo} {sh : Nat} {su : Option Nat} {v A : Int} {i : Nat} (hi : i < 8) (hv : -1000000 ≤ v ∧ v ≤ 1000000) (hA : L 157 105 = lI A) (hb : -100000000 ≤ A ∧ A ≤ 100000000) (hn : I 157 106 = aBo (decide (i = 0))) (kk : ∀ L2 : aFL, L2 157 105 = lI (qtk 4 v A i) → frG PLq L L2 → Q none (aUp I 157 106 (aBo false)) L2 (aR sh su)) : aWp none d 245 0 [.ref 157, .int (iI 4), .long (lI v), .null, .int (iI (i : Int)), .null] [] I L (aR sh su) Q := by
  refine w_iload c_245_0 rfl ?_
  refine z_push c_245_1 ?_
  refine z_ic_ge c_245_2 (by first | exact aRg_of _ | (unfold aRg; omega)) (by first | exact aRg_of _ | (unfold aRg; omega)) (fun _ => ?_) (fun h => absurd h (by decide))
  refine z_push c_245_15 ?_
  refine w_istore c_245_16 (Nat.le_of_ble_eq_true rfl) rfl ?_
  refine w_iload c_245_18 rfl ?_
  refine z_if_ne c_245_19 (by first | exact aRg_of _ | (unfold aRg; omega)) (fun h2_ => ?_) (fun h2_ => absurd (by decide) h2_)
  refine w_iload c_245_38 rfl ?_
  refine z_push c_245_39 ?_
  refine z_ic_ne c_245_40 (by first | exact aRg_of _ | (unfold aRg; omega)) (by first | exact aRg_of _ | (unfold aRg; omega)) (fun _ => ?_) (fun h => absurd h (by decide))
  refine w_iload c_245_55 rfl ?_
  refine z_push c_245_56 ?_
  refine z_ic_ne c_245_57 (by first | exact aRg_of _ | (unfold aRg; omega)) (by first | exact aRg_of _ | (unfold aRg; omega)) (fun _ => ?_) (fun h => absurd h (by decide))
  refine w_iload c_245_75 rfl ?_
  refine z_push c_245_76 ?_
  refine z_ic_ne c_245_77 (by first | exact aRg_of _ | (unfold aRg; omega)) (by first | exact aRg_of _ | (unfold aRg; omega)) (fun _ => ?_) (fun h => absurd h (by decide))
  refine w_iload c_245_90 rfl ?_
  refine z_push c_245_91 ?_
  refine z_ic_le c_245_92 (by first | exact aRg_of _ | (unfold aRg; omega)) (by first | exact aRg_of _ | (unfold aRg; omega)) (fun h => absurd h (by decide)) (fun _ => ?_)
  refine w_aload c_245_95 rfl ?_
  refine z_getB c_245_96 sp_157 (by decide) rfl hn ?_
  refine b_if_ne c_245_99 (fun h7_ => ?_) (fun h7_ => ?_)
  · refine w_aload c_245_128 rfl ?_
    refine w_lload c_245_129 rfl ?_
    refine w_putL c_245_130 sp_157 (by decide) rfl ?_
    refine w_aload c_245_133 rfl ?_
    refine z_push c_245_134 ?_
    refine z_putB (b := false) c_245_135 sp_157 (by decide) rfl ?_
    refine z_retv c_245_138 ?_
    refine kk _ ?_ ?_
    · first | (refine hA.trans (congrArg lI ?_); show _ = (if i = 0 then v else if A < v then v else A); (try simp only [decide_eq_true_eq, decide_eq_false_iff_not] at h7_); (repeat' split); all_goals omega; done) | (refine Eq.trans (upL_eq : aUp L 157 105 _ 157 105 = _) ?_; refine congrArg lI ?_; show _ = (if i = 0 then v else if A < v then v else A); (try simp only [decide_eq_true_eq, decide_eq_false_iff_not] at h7_); (repeat' split); all_goals omega; done)
    · first | exact frG.rf | exact frG.rf.up ⟨rfl, rfl⟩
  · refine w_iload c_245_102 rfl ?_
    refine z_push c_245_103 ?_
    refine z_ic_ne c_245_104 (by first | exact aRg_of _ | (unfold aRg; omega)) (by first | exact aRg_of _ | (unfold aRg; omega)) (fun h => absurd h (by decide)) (fun _ => ?_)
    refine w_lload c_245_107 rfl ?_
    refine w_aload c_245_108 rfl ?_
    refine z_getL c_245_109 sp_157 (by decide) rfl hA ?_
    refine z_lc_le c_245_112 c_245_113 (by first | exact aRl_of _ | (unfold aRl; omega)) (by first | exact aRl_of _ | (unfold aRl; omega)) (fun h9_ => ?_) (fun h9_ => ?_)
    · refine w_aload c_245_133 rfl ?_
      refine z_push c_245_134 ?_
      refine z_putB (b := false) c_245_135 sp_157 (by decide) rfl ?_
      refine z_retv c_245_138 ?_
      refine kk _ ?_ ?_
      · first | (refine hA.trans (congrArg lI ?_); show _ = (if i = 0 then v else if A < v then v else A); (try simp only [decide_eq_true_eq, decide_eq_false_iff_not] at h7_); (repeat' split); all_goals omega; done) | (refine Eq.trans (upL_eq : aUp L 157 105 _ 157 105 = _) ?_; refine congrArg lI ?_; show _ = (if i = 0 then v else if A < v then v else A); (try simp only [decide_eq_true_eq, decide_eq_false_iff_not] at h7_); (repeat' split); all_goals omega; done)
      · first | exact frG.rf | exact frG.rf.up ⟨rfl, rfl⟩
    · refine w_goto c_245_116 ?_
      refine w_aload c_245_128 rfl ?_
      refine w_lload c_245_129 rfl ?_
      refine w_putL c_245_130 sp_157 (by decide) rfl ?_
      refine w_aload c_245_133 rfl ?_
      refine z_push c_245_134 ?_
      refine z_putB (b := false) c_245_135 sp_157 (by decide) rfl ?_
      refine z_retv c_245_138 ?_
      refine kk _ ?_ ?_
      · first | (refine hA.trans (congrArg lI ?_); show _ = (if i = 0 then v else if A < v then v else A); (try simp only [decide_eq_true_eq, decide_eq_false_iff_not] at h7_); (repeat' split); all_goals omega; done) | (refine Eq.trans (upL_eq : aUp L 157 105 _ 157 105 = _) ?_; refine congrArg lI ?_; show _ = (if i = 0 then v else if A < v then v else A); (try simp only [decide_eq_true_eq, decide_eq_false_iff_not] at h7_); (repeat' split); all_goals omega; done)
      · first | exact frG.rf | exact frG.rf.up ⟨rfl, rfl⟩

set_option maxHeartbeats 1000000 in
theorem t_qTakes_5 {d : Nat} {I : aFI} {L : aFL} {Q : aPo} {sh : Nat} {su : Option Nat} {v A : Int} {i : Nat} (hi : i < 8) (hv : -1000000 ≤ v ∧ v ≤ 1000000) (hA : L 157 105 = lI A) (hb : -100000000 ≤ A ∧ A ≤ 100000000) (hn : I 157 106 = aBo (decide (i = 0))) (kk : ∀ L2 : aFL, L2 157 105 = lI (qtk 5 v A i) → frG PLq L L2 → Q none (aUp I 157 106 (aBo false)) L2 (aR sh su)) : aWp none d 245 0 [.ref 157, .int (iI 5), .long (lI v), .null, .int (iI (i : Int)), .null] [] I L (aR sh su) Q := by
  refine w_iload c_245_0 rfl ?_
  refine z_push c_245_1 ?_
  refine z_ic_ge c_245_2 (by first | exact aRg_of _ | (unfold aRg; omega)) (by first | exact aRg_of _ | (unfold aRg; omega)) (fun _ => ?_) (fun h => absurd h (by decide))
  refine z_push c_245_15 ?_
  refine w_istore c_245_16 (Nat.le_of_ble_eq_true rfl) rfl ?_
  refine w_iload c_245_18 rfl ?_
  refine z_if_ne c_245_19 (by first | exact aRg_of _ | (unfold aRg; omega)) (fun h2_ => ?_) (fun h2_ => absurd (by decide) h2_)
  refine w_iload c_245_38 rfl ?_
  refine z_push c_245_39 ?_
  refine z_ic_ne c_245_40 (by first | exact aRg_of _ | (unfold aRg; omega)) (by first | exact aRg_of _ | (unfold aRg; omega)) (fun _ => ?_) (fun h => absurd h (by decide))
  refine w_iload c_245_55 rfl ?_
  refine z_push c_245_56 ?_
  refine z_ic_ne c_245_57 (by first | exact aRg_of _ | (unfold aRg; omega)) (by first | exact aRg_of _ | (unfold aRg; omega)) (fun _ => ?_) (fun h => absurd h (by decide))
  refine w_iload c_245_75 rfl ?_
  refine z_push c_245_76 ?_
  refine z_ic_ne c_245_77 (by first | exact aRg_of _ | (unfold aRg; omega)) (by first | exact aRg_of _ | (unfold aRg; omega)) (fun _ => ?_) (fun h => absurd h (by decide))
  refine w_iload c_245_90 rfl ?_
  refine z_push c_245_91 ?_
  refine z_ic_le c_245_92 (by first | exact aRg_of _ | (unfold aRg; omega)) (by first | exact aRg_of _ | (unfold aRg; omega)) (fun h => absurd h (by decide)) (fun _ => ?_)
  refine w_aload c_245_95 rfl ?_
  refine z_getB c_245_96 sp_157 (by decide) rfl hn ?_
  refine b_if_ne c_245_99 (fun h7_ => ?_) (fun h7_ => ?_)
  · refine w_aload c_245_128 rfl ?_
    refine w_lload c_245_129 rfl ?_
    refine w_putL c_245_130 sp_157 (by decide) rfl ?_
    refine w_aload c_245_133 rfl ?_
    refine z_push c_245_134 ?_
    refine z_putB (b := false) c_245_135 sp_157 (by decide) rfl ?_
    refine z_retv c_245_138 ?_
    refine kk _ ?_ ?_
    · first | (refine hA.trans (congrArg lI ?_); show _ = (if i = 0 then v else if v < A then v else A); (try simp only [decide_eq_true_eq, decide_eq_false_iff_not] at h7_); (repeat' split); all_goals omega; done) | (refine Eq.trans (upL_eq : aUp L 157 105 _ 157 105 = _) ?_; refine congrArg lI ?_; show _ = (if i = 0 then v else if v < A then v else A); (try simp only [decide_eq_true_eq, decide_eq_false_iff_not] at h7_); (repeat' split); all_goals omega; done)
    · first | exact frG.rf | exact frG.rf.up ⟨rfl, rfl⟩
  · refine w_iload c_245_102 rfl ?_
    refine z_push c_245_103 ?_
    refine z_ic_ne c_245_104 (by first | exact aRg_of _ | (unfold aRg; omega)) (by first | exact aRg_of _ | (unfold aRg; omega)) (fun _ => ?_) (fun h => absurd h (by decide))
    refine w_lload c_245_119 rfl ?_
    refine w_aload c_245_120 rfl ?_
    refine z_getL c_245_121 sp_157 (by decide) rfl hA ?_
    refine z_lc_ge c_245_124 c_245_125 (by first | exact aRl_of _ | (unfold aRl; omega)) (by first | exact aRl_of _ | (unfold aRl; omega)) (fun h9_ => ?_) (fun h9_ => ?_)
    · refine w_aload c_245_133 rfl ?_
      refine z_push c_245_134 ?_
      refine z_putB (b := false) c_245_135 sp_157 (by decide) rfl ?_
      refine z_retv c_245_138 ?_
      refine kk _ ?_ ?_
      · first | (refine hA.trans (congrArg lI ?_); show _ = (if i = 0 then v else if v < A then v else A); (try simp only [decide_eq_true_eq, decide_eq_false_iff_not] at h7_); (repeat' split); all_goals omega; done) | (refine Eq.trans (upL_eq : aUp L 157 105 _ 157 105 = _) ?_; refine congrArg lI ?_; show _ = (if i = 0 then v else if v < A then v else A); (try simp only [decide_eq_true_eq, decide_eq_false_iff_not] at h7_); (repeat' split); all_goals omega; done)
      · first | exact frG.rf | exact frG.rf.up ⟨rfl, rfl⟩
    · refine w_aload c_245_128 rfl ?_
      refine w_lload c_245_129 rfl ?_
      refine w_putL c_245_130 sp_157 (by decide) rfl ?_
      refine w_aload c_245_133 rfl ?_
      refine z_push c_245_134 ?_
      refine z_putB (b := false) c_245_135 sp_157 (by decide) rfl ?_
      refine z_retv c_245_138 ?_
      refine kk _ ?_ ?_
      · first | (refine hA.trans (congrArg lI ?_); show _ = (if i = 0 then v else if v < A then v else A); (try simp only [decide_eq_true_eq, decide_eq_false_iff_not] at h7_); (repeat' split); all_goals omega; done) | (refine Eq.trans (upL_eq : aUp L 157 105 _ 157 105 = _) ?_; refine congrArg lI ?_; show _ = (if i = 0 then v else if v < A then v else A); (try simp only [decide_eq_true_eq, decide_eq_false_iff_not] at h7_); (repeat' split); all_goals omega; done)
      · first | exact frG.rf | exact frG.rf.up ⟨rfl, rfl⟩

theorem t_qTakes {W : Int → Int} {kd : Int} {i : Nat} {d : Nat} {I : aFI} {L : aFL} {Q : aPo} {sh : Nat} {su : Option Nat} (hk : 0 ≤ kd ∧ kd < 6) (hi : i < 8) (hv : -1000000 ≤ W i ∧ W i ≤ 1000000) (h1 : kd < 3 → W i = 0 ∨ W i = 1) (hA : L 157 105 = lI (aNow W (332 + kd) i)) (hb : -100000000 ≤ aNow W (332 + kd) i ∧ aNow W (332 + kd) i ≤ 100000000) (hn : I 157 106 = aBo (decide (i = 0))) (kk : ∀ L2 : aFL, L2 157 105 = lI (aNow W (332 + kd) (i + 1)) → frG PLq L L2 → Q none (aUp I 157 106 (aBo false)) L2 (aR sh su)) : aWp none d 245 0 [.ref 157, .int (iI kd), .long (lI (W i)), .null, .int (iI (i : Int)), .null] [] I L (aR sh su) Q := by
  rw [← qtk_on hk h1] at kk
  rcases (show kd = 0 ∨ kd = 1 ∨ kd = 2 ∨ kd = 3 ∨ kd = 4 ∨ kd = 5 by omega) with rfl | rfl | rfl | rfl | rfl | rfl
  · exact t_qTakes_0 hi hv hA hb hn kk
  · exact t_qTakes_1 hi hv hA hb hn kk
  · exact t_qTakes_2 hi hv hA hb hn kk
  · exact t_qTakes_3 hi hv hA hb hn kk
  · exact t_qTakes_4 hi hv hA hb hn kk
  · exact t_qTakes_5 hi hv hA hb hn kk
