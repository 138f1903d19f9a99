/-! the reference: worth of a part, of a rule (p62.py) -/
theorem q_ll {Q : aPo} {I : aFI} {L : aFL} {R : aFR} {X Y : Int} (k : Q (some (.long (lI Y))) I L R) (e : X = Y) : Q (some (.long (lI X))) I L R := e ▸ k
theorem cmap_prt {m : Int} (h : isPrt m) (h2 : m < 1000) : (m = 310 ∧ cmap m = 40) ∨ (m = 311 ∧ cmap m = 41) ∨ (m = 307 ∧ cmap m = 42) ∨ (m = 319 ∧ cmap m = 43) ∨ (m = 320 ∧ cmap m = 44) ∨ (m = 321 ∧ cmap m = 45) ∨ (m = 322 ∧ cmap m = 46) ∨ (m = 323 ∧ cmap m = 47) ∨ (m = 324 ∧ cmap m = 48) ∨ (m = 325 ∧ cmap m = 49) ∨ (m = 313 ∧ cmap m = 50) := by
  have h3 : m = 310 ∨ m = 311 ∨ m = 307 ∨ m = 319 ∨ m = 320 ∨ m = 321 ∨ m = 322 ∨ m = 323 ∨ m = 324 ∨ m = 325 ∨ m = 313 := by omega
  rcases h3 with rfl | rfl | rfl | rfl | rfl | rfl | rfl | rfl | rfl | rfl | rfl <;> decide
theorem cmap_num {m : Int} (h : 1000 ≤ m) : cmap m = m := by
  unfold cmap
  repeat rw [if_neg (by omega)]
theorem lk_fr {L L0 : aFL} (h : frG LK L0 L) {q k : Nat} (hq : ¬ q = 234) : L q k = L0 q k := h q k hq
theorem pk_fr {I I0 : aFI} (h : frG PK I0 I) {q k : Nat} (hq : ¬ q = 157) : I q k = I0 q k := h q k (fun z => hq z.1)
theorem rD.pk {I I0 : aFI} {D : Nat → Int → Int} (h : rD I0 D) (hF : frG PK I0 I) : rD I D := h.fr (fun q k h1 h2 => pk_fr hF (by omega)) (hF 157 56 (by decide))
theorem nLk.pk {I I0 : aFI} {c : Nat} {s b g : Int} {w : Nat} {ink age : Int → Int} (h : nLk I0 c s b g w ink age) (hF : frG PK I0 I) (hc : ¬ c = 157) : nLk I c s b g w ink age := h.fr (fun k h1 => pk_fr hF hc)
theorem envZ_dr {D : Nat → Int → Int} {s b g : Int} {ink age : Int → Int} {de dr dr2 m : Int} (h : ¬ m = 313) : envZ D s b g ink age de dr m = envZ D s b g ink age de dr2 m := by
  unfold envZ
  repeat' split
  all_goals first | rfl | omega
theorem clip_id {v : Int} (h : -1000000 ≤ v ∧ v ≤ 1000000) : clip v = v := by unfold clip; rw [if_neg (by omega), if_neg (by omega)]
set_option maxHeartbeats 1000000 in
theorem t_qPartOf {d : Nat} {I : aFI} {L : aFL} {Q : aPo} {sh : Nat} {su : Option Nat} {D : Nat → Int → Int} {cd : Nat → Option (List Int)} {s0 b g : Int} {w : Nat} {ink age : Int → Int} {de dr : Int} {m : Int} (hS : wfS D cd) (hD : rD I D) (hN : nLk I 202 s0 b g w ink age) (hde : 0 ≤ de ∧ de < D 1 2) (hs : 0 ≤ s0 ∧ s0 ≤ 1000) (hb : 0 ≤ b ∧ b < 100000) (hg : 0 ≤ g ∧ g < 100000) (hi : 0 ≤ ink de ∧ ink de ≤ 9999) (ha : 0 ≤ age de ∧ age de ≤ 99) (hA : L 204 de.toNat = lI dr) (hm : isPrt m) (hm2 : m < 1000) (hd : 2 ≤ d) (k : Q (some (.long (lI ((envZ D s0 b g ink age de dr) m)))) I L (aR sh su)) : aWp none d 241 0 [.ref 157, .int (iI (cmap m - 40)), .int (iI de)] [] I L (aR sh su) Q := by
  have hcm := cmap_prt hm hm2
  have hdd := hS.n
  have hde2 := hS.de hde.1 hde.2
  have hmi := hS.2.2.2.1 (D 6 de) hde2.1.1 hde2.1.2
  have hdk := dk_rg (b := b) (g := g)
  refine w_iload c_241_0 rfl ?_
  rcases (show ((cmap m - 40) = 0) ∨ ((cmap m - 40) = 1) ∨ ((cmap m - 40) = 2) ∨ ((cmap m - 40) = 3) ∨ ((cmap m - 40) = 4) ∨ ((cmap m - 40) = 5) ∨ ((cmap m - 40) = 6) ∨ ((cmap m - 40) = 7) ∨ ((cmap m - 40) = 8) ∨ ((cmap m - 40) = 9) ∨ (¬ (cmap m - 40) = 0 ∧ ¬ (cmap m - 40) = 1 ∧ ¬ (cmap m - 40) = 2 ∧ ¬ (cmap m - 40) = 3 ∧ ¬ (cmap m - 40) = 4 ∧ ¬ (cmap m - 40) = 5 ∧ ¬ (cmap m - 40) = 6 ∧ ¬ (cmap m - 40) = 7 ∧ ¬ (cmap m - 40) = 8 ∧ ¬ (cmap m - 40) = 9) by omega) with h1_ | h1_ | h1_ | h1_ | h1_ | h1_ | h1_ | h1_ | h1_ | h1_ | h1_
  · refine z_tsw c_241_1 (by first | exact aRg_of _ | (unfold aRg; omega)) (pc2 := 56) (by rcases h1_ with h1_ <;> (rw [h1_]; rfl)) ?_
    refine w_aload c_241_56 rfl ?_
    refine w_getR c_241_57 sp_157 (by decide) rfl pr_157_49 ?_
    refine z_push c_241_60 ?_
    refine z_push c_241_62 ?_
    refine w_iload c_241_63 rfl ?_
    refine z_imul c_241_64 ?_
    refine z_iadd c_241_65 ?_
    refine z_push c_241_66 ?_
    refine z_iadd c_241_67 ?_
    refine z_iaload c_241_68 sp_197 (by omega) (by first | decide | omega) (hD.d7 hde.1 hde.2 (by omega)) ?_
    refine z_i2l c_241_69 (by first | exact aRg_of _ | (unfold aRg; omega)) ?_
    refine z_retl c_241_70 ?_
    have hmm : m = 310 := by omega
    subst hmm
    exact k
  · refine z_tsw c_241_1 (by first | exact aRg_of _ | (unfold aRg; omega)) (pc2 := 71) (by rcases h1_ with h1_ <;> (rw [h1_]; rfl)) ?_
    refine w_aload c_241_71 rfl ?_
    refine w_getR c_241_72 sp_157 (by decide) rfl pr_157_49 ?_
    refine z_push c_241_75 ?_
    refine z_push c_241_77 ?_
    refine w_iload c_241_78 rfl ?_
    refine z_imul c_241_79 ?_
    refine z_iadd c_241_80 ?_
    refine z_push c_241_81 ?_
    refine z_iadd c_241_82 ?_
    refine z_iaload c_241_83 sp_197 (by omega) (by first | decide | omega) (hD.d8 hde.1 hde.2 (by omega)) ?_
    refine z_i2l c_241_84 (by first | exact aRg_of _ | (unfold aRg; omega)) ?_
    refine z_retl c_241_85 ?_
    have hmm : m = 311 := by omega
    subst hmm
    exact k
  · refine z_tsw c_241_1 (by first | exact aRg_of _ | (unfold aRg; omega)) (pc2 := 86) (by rcases h1_ with h1_ <;> (rw [h1_]; rfl)) ?_
    refine w_aload c_241_86 rfl ?_
    refine w_getR c_241_87 sp_157 (by decide) rfl pr_157_48 ?_
    refine z_push c_241_90 ?_
    refine w_aload c_241_92 rfl ?_
    refine w_getR c_241_93 sp_157 (by decide) rfl pr_157_49 ?_
    refine z_push c_241_96 ?_
    refine z_push c_241_98 ?_
    refine w_iload c_241_99 rfl ?_
    refine z_imul c_241_100 ?_
    refine z_iadd c_241_101 ?_
    refine z_iaload c_241_102 sp_197 (by omega) (by first | decide | omega) (hD.d6 hde.1 hde.2 (by omega)) ?_
    refine z_iadd c_241_103 ?_
    refine z_iaload c_241_104 sp_196 (by omega) (by first | decide | omega) (hD.mi hde2.1.1 hde2.1.2 (by omega)) ?_
    refine z_i2l c_241_105 (by first | exact aRg_of _ | (unfold aRg; omega)) ?_
    refine z_retl c_241_106 ?_
    have hmm : m = 307 := by omega
    subst hmm
    exact k
  · refine z_tsw c_241_1 (by first | exact aRg_of _ | (unfold aRg; omega)) (pc2 := 107) (by rcases h1_ with h1_ <;> (rw [h1_]; rfl)) ?_
    refine w_aload c_241_107 rfl ?_
    refine w_getR c_241_108 sp_157 (by decide) rfl pr_157_58 ?_
    refine z_push c_241_111 ?_
    refine z_iaload c_241_112 sp_202 (by omega) (by first | decide | omega) hN.1 ?_
    refine z_i2l c_241_113 (by first | exact aRg_of _ | (unfold aRg; omega)) ?_
    refine z_retl c_241_114 ?_
    have hmm : m = 319 := by omega
    subst hmm
    exact k
  · refine z_tsw c_241_1 (by first | exact aRg_of _ | (unfold aRg; omega)) (pc2 := 115) (by rcases h1_ with h1_ <;> (rw [h1_]; rfl)) ?_
    refine w_aload c_241_115 rfl ?_
    refine w_getR c_241_116 sp_157 (by decide) rfl pr_157_58 ?_
    refine z_push c_241_119 ?_
    refine z_iaload c_241_120 sp_202 (by omega) (by first | decide | omega) hN.2.1 ?_
    refine z_i2l c_241_121 (by first | exact aRg_of _ | (unfold aRg; omega)) ?_
    refine z_retl c_241_122 ?_
    have hmm : m = 320 := by omega
    subst hmm
    exact k
  · refine z_tsw c_241_1 (by first | exact aRg_of _ | (unfold aRg; omega)) (pc2 := 123) (by rcases h1_ with h1_ <;> (rw [h1_]; rfl)) ?_
    refine w_aload c_241_123 rfl ?_
    refine wc_169 c_241_124 sp_157 (Nat.le_of_ble_eq_true rfl) (by omega) ?_
    refine t_darkNow (by omega) hN.2.1 hN.2.2.1 hb hg ?_
    refine r_i ?_
    refine z_i2l c_241_127 (by first | exact aRg_of _ | (unfold aRg; omega)) ?_
    refine z_retl c_241_128 ?_
    have hmm : m = 321 := by omega
    subst hmm
    exact k
  · refine z_tsw c_241_1 (by first | exact aRg_of _ | (unfold aRg; omega)) (pc2 := 129) (by rcases h1_ with h1_ <;> (rw [h1_]; rfl)) ?_
    refine w_aload c_241_129 rfl ?_
    refine w_iload c_241_130 rfl ?_
    refine wc_164 c_241_131 sp_157 (Nat.le_of_ble_eq_true rfl) (by omega) ?_
    refine t_inkOf hN (by omega) ?_
    refine r_i ?_
    refine z_i2l c_241_134 (by first | exact aRg_of _ | (unfold aRg; omega)) ?_
    refine z_retl c_241_135 ?_
    have hmm : m = 322 := by omega
    subst hmm
    exact k
  · refine z_tsw c_241_1 (by first | exact aRg_of _ | (unfold aRg; omega)) (pc2 := 136) (by rcases h1_ with h1_ <;> (rw [h1_]; rfl)) ?_
    refine w_aload c_241_136 rfl ?_
    refine w_iload c_241_137 rfl ?_
    refine wc_165 c_241_138 sp_157 (Nat.le_of_ble_eq_true rfl) (by omega) ?_
    refine t_ageOf hN (by omega) ?_
    refine r_i ?_
    refine z_i2l c_241_141 (by first | exact aRg_of _ | (unfold aRg; omega)) ?_
    refine z_retl c_241_142 ?_
    have hmm : m = 323 := by omega
    subst hmm
    exact k
  · refine z_tsw c_241_1 (by first | exact aRg_of _ | (unfold aRg; omega)) (pc2 := 143) (by rcases h1_ with h1_ <;> (rw [h1_]; rfl)) ?_
    refine w_iload c_241_143 rfl ?_
    refine z_i2l c_241_144 (by first | exact aRg_of _ | (unfold aRg; omega)) ?_
    refine z_retl c_241_145 ?_
    have hmm : m = 324 := by omega
    subst hmm
    exact k
  · refine z_tsw c_241_1 (by first | exact aRg_of _ | (unfold aRg; omega)) (pc2 := 146) (by rcases h1_ with h1_ <;> (rw [h1_]; rfl)) ?_
    refine w_aload c_241_146 rfl ?_
    refine w_iload c_241_147 rfl ?_
    refine wc_166 c_241_148 sp_157 (Nat.le_of_ble_eq_true rfl) (by omega) ?_
    refine t_termOf hD hde (by omega) ?_
    refine r_i ?_
    refine z_i2l c_241_151 (by first | exact aRg_of _ | (unfold aRg; omega)) ?_
    refine z_retl c_241_152 ?_
    have hmm : m = 325 := by omega
    subst hmm
    exact k
  · refine z_tsw c_241_1 (by first | exact aRg_of _ | (unfold aRg; omega)) (pc2 := 153) (by (by_cases hq : (cmap m - 40) < 0 ∨ 9 < (cmap m - 40)); (rw [if_pos hq]; rfl); (exfalso; omega)) ?_
    refine w_aload c_241_153 rfl ?_
    refine w_getR c_241_154 sp_157 (by decide) rfl pr_157_60 ?_
    refine w_iload c_241_157 rfl ?_
    refine z_laload c_241_158 sp_204 (by omega) (by first | decide | omega) hA ?_
    refine z_retl c_241_159 ?_
    have hmm : m = 313 := by omega
    subst hmm
    exact k

set_option maxHeartbeats 2000000 in
theorem t_codesTell_1 {d : Nat} {Q : aPo} {sh : Nat} {su : Option Nat} {D : Nat → Int → Int} {cd : Nat → Option (List Int)} {s0 b g : Int} {w : Nat} {ink age : Int → Int} {de : Int} {r : Int} {to : Int} {t : Bool} {I0 : aFI} {L0 : aFL} (hS : wfS D cd) (hD : rD I0 D) (hN : nLk I0 202 s0 b g w ink age) (hde : 0 ≤ de ∧ de < D 1 2) (hs : 0 ≤ s0 ∧ s0 ≤ 1000) (hb : 0 ≤ b ∧ b < 100000) (hg : 0 ≤ g ∧ g < 100000) (hi : 0 ≤ ink de ∧ ink de ≤ 9999) (ha : 0 ≤ age de ∧ age de ≤ 99) (hr : 0 ≤ r ∧ r < 3) (hto : I0 200 (3 + r).toNat = iI to) (hto2 : to ≤ 1600) (hE : eOK (envZ D s0 b g ink age de 0)) (hd : 3 ≤ d) : ∀ (n : Nat) (l : List Int) (ts : List Bool) (st : List Int) (k : Int) (I : aFI) (L : aFL) (vc : Value), l.length < n → (0 ≤ k ∧ k + l.length = to) → (rcAt I0 k l) → (tyC l ts [t]) → (∀ m ∈ l, okR r.toNat m) → (ts.length ≤ 64) → (stOK ts st) → (stL L st) → (I 157 104 = iI st.length) → (frG PK I0 I) → (frG LK L0 L) → (∀ (I2 : aFI) (L2 : aFL), frG PK I0 I2 → frG LK L0 L2 → Q (some (.long (lI ((evC (envZ D s0 b g ink age de 0) (D 6 de) l st).headD 0)))) I2 L2 (aR sh su)) → aWp none d 170 14 [.ref 157, .int (iI r), .int (iI de), .int (iI k), vc] [] I L (aR sh su) Q := by
  intro n
  induction n with
  | zero => intro l ts st k I L vc h; omega
  | succ n ih =>
    intro l ts st k I L vc hn2 hk hc ht hok hle hs2 hrw hn hF hG kk
    have hst := stOK_len hs2
    have hdd := hS.n
    rcases l with _ | ⟨m, l⟩
    · have hk2 : k = to := by simpa using hk.2
      cases ht
      rcases st with _ | ⟨v, _ | ⟨v2, st⟩⟩
      · exact hs2.elim
      · refine w_iload c_170_14 rfl ?_
        refine w_aload c_170_15 rfl ?_
        refine w_getR c_170_16 sp_157 (by decide) rfl pr_157_52 ?_
        refine z_push c_170_19 ?_
        refine w_iload c_170_20 rfl ?_
        refine z_iadd c_170_21 ?_
        refine z_iaload c_170_22 sp_200 (by omega) (by first | decide | omega) ((pk_fr hF (by decide)).trans hto) ?_
        refine z_ic_ge c_170_23 (by first | exact aRg_of _ | (unfold aRg; omega)) (by first | exact aRg_of _ | (unfold aRg; omega)) (fun h1_ => ?_) (fun h1_ => ?_)
        rotate_left
        · exfalso; omega
        refine w_aload c_170_145 rfl ?_
        refine w_getR c_170_146 sp_157 (by decide) rfl pr_157_103 ?_
        refine z_push c_170_149 ?_
        refine z_laload c_170_150 sp_234 (by omega) (by first | decide | omega) (hrw.top (by simp only [List.length_nil]; omega)) ?_
        refine z_retl c_170_151 ?_
        exact kk I L hF hG
      · exact hs2.2.elim
    · simp only [List.length_cons] at hk hn2
      obtain ⟨c, hty, hty2⟩ := ht
      have hokm := hok m List.mem_cons_self
      have hokl : ∀ m ∈ l, okR r.toNat m := fun m hm => hok m (List.mem_cons_of_mem _ hm)
      have hev2 := evM_ok (vl := D 6 de) hE hty hs2
      have hk2 : k < to := by omega
      have ih2 : ∀ (I2 : aFI) (L2 : aFL) (v : Value), stL L2 (evM (envZ D s0 b g ink age de 0) (D 6 de) m st) → I2 157 104 = iI (evM (envZ D s0 b g ink age de 0) (D 6 de) m st).length → frG PK I0 I2 → frG LK L0 L2 → aWp none d 170 14 [.ref 157, .int (iI r), .int (iI de), .int (iI (k + 1)), v] [] I2 L2 (aR sh su) Q := fun I2 L2 v h1 h2 h3 h4 => ih l c _ (k + 1) I2 L2 v (by omega) (by omega) (hc.2) hty2 hokl (tyM_len hty hle) hev2 h1 h2 h3 h4 kk
      rcases hty with ⟨rfl, r2, rfl, rfl⟩ | ⟨rfl, r2, rfl, rfl⟩ | ⟨hm, r2, rfl, rfl⟩ | ⟨hm, r2, rfl, rfl⟩ | ⟨hm, r2, rfl, rfl⟩ | ⟨rfl, hl2, rfl⟩ | ⟨hm, hl2, rfl⟩
      · rcases st with _ | ⟨v, st⟩
        · exact hs2.elim
        simp only [List.length_cons] at hst hle
        have hv1 := hs2.1.2
        have hcm : cmap 328 = 12 := rfl
        have hn3 : ((v :: st).length : Int) = st.length + 1 := by simp only [List.length_cons]; omega
        have hev : evM (envZ D s0 b g ink age de 0) (D 6 de) 328 (v :: st) = (1 - v) :: st := by unfold evM; rw [if_pos rfl]
        refine w_iload c_170_14 rfl ?_
        refine w_aload c_170_15 rfl ?_
        refine w_getR c_170_16 sp_157 (by decide) rfl pr_157_52 ?_
        refine z_push c_170_19 ?_
        refine w_iload c_170_20 rfl ?_
        refine z_iadd c_170_21 ?_
        refine z_iaload c_170_22 sp_200 (by omega) (by first | decide | omega) ((pk_fr hF (by decide)).trans hto) ?_
        refine z_ic_ge c_170_23 (by first | exact aRg_of _ | (unfold aRg; omega)) (by first | exact aRg_of _ | (unfold aRg; omega)) (fun h1_ => ?_) (fun h1_ => ?_)
        · exfalso; omega
        refine w_aload c_170_26 rfl ?_
        refine w_getR c_170_27 sp_157 (by decide) rfl pr_157_53 ?_
        refine z_push c_170_30 ?_
        refine w_iload c_170_33 rfl ?_
        refine z_iadd c_170_34 ?_
        refine z_iaload c_170_35 sp_201 (by omega) (by first | decide | omega) ((pk_fr hF (by decide)).trans hc.1) ?_
        refine w_istore c_170_36 (Nat.le_of_ble_eq_true rfl) rfl ?_
        refine w_iload c_170_38 rfl ?_
        refine z_push c_170_40 ?_
        refine z_ic_lt c_170_43 (by first | exact aRg_of _ | (unfold aRg; omega)) (by first | exact aRg_of _ | (unfold aRg; omega)) (fun h2_ => ?_) (fun h2_ => ?_)
        rotate_left
        · exfalso; omega
        refine w_iload c_170_60 rfl ?_
        refine z_push c_170_62 ?_
        refine z_ic_lt c_170_64 (by first | exact aRg_of _ | (unfold aRg; omega)) (by first | exact aRg_of _ | (unfold aRg; omega)) (fun h3_ => ?_) (fun h3_ => ?_)
        rotate_left
        · exfalso; omega
        refine w_iload c_170_84 rfl ?_
        refine z_push c_170_86 ?_
        refine z_ic_ne c_170_88 (by first | exact aRg_of _ | (unfold aRg; omega)) (by first | exact aRg_of _ | (unfold aRg; omega)) (fun h4_ => ?_) (fun h4_ => ?_)
        rotate_left
        · exfalso; omega
        refine w_iload c_170_99 rfl ?_
        refine z_push c_170_101 ?_
        refine z_ic_ne c_170_103 (by first | exact aRg_of _ | (unfold aRg; omega)) (by first | exact aRg_of _ | (unfold aRg; omega)) (fun h5_ => ?_) (fun h5_ => ?_)
        · exfalso; omega
        refine w_aload c_170_106 rfl ?_
        refine w_getR c_170_107 sp_157 (by decide) rfl pr_157_103 ?_
        refine w_aload c_170_110 rfl ?_
        refine z_getZ c_170_111 sp_157 (by decide) rfl hn ?_
        refine z_push c_170_114 ?_
        refine z_isub c_170_115 ?_
        refine z_pushl c_170_116 ?_
        refine w_aload c_170_117 rfl ?_
        refine w_getR c_170_118 sp_157 (by decide) rfl pr_157_103 ?_
        refine w_aload c_170_121 rfl ?_
        refine z_getZ c_170_122 sp_157 (by decide) rfl hn ?_
        refine z_push c_170_125 ?_
        refine z_isub c_170_126 ?_
        refine z_laload c_170_127 sp_234 (by omega) (by first | decide | omega) (hrw.top (by omega)) ?_
        refine z_lsub c_170_128 ?_
        refine z_lastore c_170_129 sp_234 (by omega) (by decide) ?_
        refine w_goto c_170_130 ?_
        refine z_iinc c_170_139 rfl rfl ?_
        refine w_goto c_170_142 ?_
        exact ih2 _ _ _ (by rw [hev]; exact hrw.2.set (by omega)) (by rw [hev]; exact hn.trans (congrArg iI (by simp only [List.length_cons] <;> omega))) hF (hG.up rfl)
      · exact absurd rfl hokm.1
      · rcases st with _ | ⟨v2, _ | ⟨v1, st⟩⟩
        · exact hs2.elim
        · exact hs2.2.elim
        simp only [List.length_cons] at hst hle
        have hcm := cmap_inv (m := m) (Or.inl hm)
        have hev : evM (envZ D s0 b g ink age de 0) (D 6 de) m (v2 :: v1 :: st) = joinZ m v1 v2 :: st := by unfold evM; rw [if_neg (by omega), if_neg (by omega), if_pos (by omega)]
        refine w_iload c_170_14 rfl ?_
        refine w_aload c_170_15 rfl ?_
        refine w_getR c_170_16 sp_157 (by decide) rfl pr_157_52 ?_
        refine z_push c_170_19 ?_
        refine w_iload c_170_20 rfl ?_
        refine z_iadd c_170_21 ?_
        refine z_iaload c_170_22 sp_200 (by omega) (by first | decide | omega) ((pk_fr hF (by decide)).trans hto) ?_
        refine z_ic_ge c_170_23 (by first | exact aRg_of _ | (unfold aRg; omega)) (by first | exact aRg_of _ | (unfold aRg; omega)) (fun h1_ => ?_) (fun h1_ => ?_)
        · exfalso; omega
        refine w_aload c_170_26 rfl ?_
        refine w_getR c_170_27 sp_157 (by decide) rfl pr_157_53 ?_
        refine z_push c_170_30 ?_
        refine w_iload c_170_33 rfl ?_
        refine z_iadd c_170_34 ?_
        refine z_iaload c_170_35 sp_201 (by omega) (by first | decide | omega) ((pk_fr hF (by decide)).trans hc.1) ?_
        refine w_istore c_170_36 (Nat.le_of_ble_eq_true rfl) rfl ?_
        refine w_iload c_170_38 rfl ?_
        refine z_push c_170_40 ?_
        refine z_ic_lt c_170_43 (by first | exact aRg_of _ | (unfold aRg; omega)) (by first | exact aRg_of _ | (unfold aRg; omega)) (fun h2_ => ?_) (fun h2_ => ?_)
        rotate_left
        · exfalso; omega
        refine w_iload c_170_60 rfl ?_
        refine z_push c_170_62 ?_
        refine z_ic_lt c_170_64 (by first | exact aRg_of _ | (unfold aRg; omega)) (by first | exact aRg_of _ | (unfold aRg; omega)) (fun h3_ => ?_) (fun h3_ => ?_)
        rotate_left
        · exfalso; omega
        refine w_iload c_170_84 rfl ?_
        refine z_push c_170_86 ?_
        refine z_ic_ne c_170_88 (by first | exact aRg_of _ | (unfold aRg; omega)) (by first | exact aRg_of _ | (unfold aRg; omega)) (fun h4_ => ?_) (fun h4_ => ?_)
        rotate_left
        · exfalso; omega
        refine w_iload c_170_99 rfl ?_
        refine z_push c_170_101 ?_
        refine z_ic_ne c_170_103 (by first | exact aRg_of _ | (unfold aRg; omega)) (by first | exact aRg_of _ | (unfold aRg; omega)) (fun h5_ => ?_) (fun h5_ => ?_)
        rotate_left
        · exfalso; omega
        refine w_aload c_170_133 rfl ?_
        refine w_iload c_170_134 rfl ?_
        refine wc_240 c_170_136 sp_157 (Nat.le_of_ble_eq_true rfl) (by omega) ?_
        refine t_qJoins (Or.inl hm) hs2.2.1.2 hs2.1.2 hn (by simp only [List.length_cons]; omega) (by omega) hrw (by omega) (fun I2 L2 hj1 hj2 hj3 hj4 => ?_)
        refine r_v ?_
        refine z_iinc c_170_139 rfl rfl ?_
        refine w_goto c_170_142 ?_
        exact ih2 _ _ _ (by rw [hev]; exact hj2) (by rw [hev]; exact hj1.trans (congrArg iI (by simp only [List.length_cons] <;> omega))) (hF.tr hj3) (hG.tr hj4)
      · rcases st with _ | ⟨v2, _ | ⟨v1, st⟩⟩
        · exact hs2.elim
        · exact hs2.2.elim
        simp only [List.length_cons] at hst hle
        have hcm := cmap_inv (m := m) (Or.inr (Or.inl hm))
        have hev : evM (envZ D s0 b g ink age de 0) (D 6 de) m (v2 :: v1 :: st) = joinZ m v1 v2 :: st := by unfold evM; rw [if_neg (by omega), if_neg (by omega), if_pos (by omega)]
        refine w_iload c_170_14 rfl ?_
        refine w_aload c_170_15 rfl ?_
        refine w_getR c_170_16 sp_157 (by decide) rfl pr_157_52 ?_
        refine z_push c_170_19 ?_
        refine w_iload c_170_20 rfl ?_
        refine z_iadd c_170_21 ?_
        refine z_iaload c_170_22 sp_200 (by omega) (by first | decide | omega) ((pk_fr hF (by decide)).trans hto) ?_
        refine z_ic_ge c_170_23 (by first | exact aRg_of _ | (unfold aRg; omega)) (by first | exact aRg_of _ | (unfold aRg; omega)) (fun h1_ => ?_) (fun h1_ => ?_)
        · exfalso; omega
        refine w_aload c_170_26 rfl ?_
        refine w_getR c_170_27 sp_157 (by decide) rfl pr_157_53 ?_
        refine z_push c_170_30 ?_
        refine w_iload c_170_33 rfl ?_
        refine z_iadd c_170_34 ?_
        refine z_iaload c_170_35 sp_201 (by omega) (by first | decide | omega) ((pk_fr hF (by decide)).trans hc.1) ?_
        refine w_istore c_170_36 (Nat.le_of_ble_eq_true rfl) rfl ?_
        refine w_iload c_170_38 rfl ?_
        refine z_push c_170_40 ?_
        refine z_ic_lt c_170_43 (by first | exact aRg_of _ | (unfold aRg; omega)) (by first | exact aRg_of _ | (unfold aRg; omega)) (fun h2_ => ?_) (fun h2_ => ?_)
        rotate_left
        · exfalso; omega
        refine w_iload c_170_60 rfl ?_
        refine z_push c_170_62 ?_
        refine z_ic_lt c_170_64 (by first | exact aRg_of _ | (unfold aRg; omega)) (by first | exact aRg_of _ | (unfold aRg; omega)) (fun h3_ => ?_) (fun h3_ => ?_)
        rotate_left
        · exfalso; omega
        refine w_iload c_170_84 rfl ?_
        refine z_push c_170_86 ?_
        refine z_ic_ne c_170_88 (by first | exact aRg_of _ | (unfold aRg; omega)) (by first | exact aRg_of _ | (unfold aRg; omega)) (fun h4_ => ?_) (fun h4_ => ?_)
        rotate_left
        · exfalso; omega
        refine w_iload c_170_99 rfl ?_
        refine z_push c_170_101 ?_
        refine z_ic_ne c_170_103 (by first | exact aRg_of _ | (unfold aRg; omega)) (by first | exact aRg_of _ | (unfold aRg; omega)) (fun h5_ => ?_) (fun h5_ => ?_)
        rotate_left
        · exfalso; omega
        refine w_aload c_170_133 rfl ?_
        refine w_iload c_170_134 rfl ?_
        refine wc_240 c_170_136 sp_157 (Nat.le_of_ble_eq_true rfl) (by omega) ?_
        refine t_qJoins (Or.inr (Or.inl hm)) hs2.2.1.2 hs2.1.2 hn (by simp only [List.length_cons]; omega) (by omega) hrw (by omega) (fun I2 L2 hj1 hj2 hj3 hj4 => ?_)
        refine r_v ?_
        refine z_iinc c_170_139 rfl rfl ?_
        refine w_goto c_170_142 ?_
        exact ih2 _ _ _ (by rw [hev]; exact hj2) (by rw [hev]; exact hj1.trans (congrArg iI (by simp only [List.length_cons] <;> omega))) (hF.tr hj3) (hG.tr hj4)
      · rcases st with _ | ⟨v2, _ | ⟨v1, st⟩⟩
        · exact hs2.elim
        · exact hs2.2.elim
        simp only [List.length_cons] at hst hle
        have hcm := cmap_inv (m := m) (Or.inr (Or.inr hm))
        have hev : evM (envZ D s0 b g ink age de 0) (D 6 de) m (v2 :: v1 :: st) = joinZ m v1 v2 :: st := by unfold evM; rw [if_neg (by omega), if_neg (by omega), if_pos (by omega)]
        refine w_iload c_170_14 rfl ?_
        refine w_aload c_170_15 rfl ?_
        refine w_getR c_170_16 sp_157 (by decide) rfl pr_157_52 ?_
        refine z_push c_170_19 ?_
        refine w_iload c_170_20 rfl ?_
        refine z_iadd c_170_21 ?_
        refine z_iaload c_170_22 sp_200 (by omega) (by first | decide | omega) ((pk_fr hF (by decide)).trans hto) ?_
        refine z_ic_ge c_170_23 (by first | exact aRg_of _ | (unfold aRg; omega)) (by first | exact aRg_of _ | (unfold aRg; omega)) (fun h1_ => ?_) (fun h1_ => ?_)
        · exfalso; omega
        refine w_aload c_170_26 rfl ?_
        refine w_getR c_170_27 sp_157 (by decide) rfl pr_157_53 ?_
        refine z_push c_170_30 ?_
        refine w_iload c_170_33 rfl ?_
        refine z_iadd c_170_34 ?_
        refine z_iaload c_170_35 sp_201 (by omega) (by first | decide | omega) ((pk_fr hF (by decide)).trans hc.1) ?_
        refine w_istore c_170_36 (Nat.le_of_ble_eq_true rfl) rfl ?_
        refine w_iload c_170_38 rfl ?_
        refine z_push c_170_40 ?_
        refine z_ic_lt c_170_43 (by first | exact aRg_of _ | (unfold aRg; omega)) (by first | exact aRg_of _ | (unfold aRg; omega)) (fun h2_ => ?_) (fun h2_ => ?_)
        rotate_left
        · exfalso; omega
        refine w_iload c_170_60 rfl ?_
        refine z_push c_170_62 ?_
        refine z_ic_lt c_170_64 (by first | exact aRg_of _ | (unfold aRg; omega)) (by first | exact aRg_of _ | (unfold aRg; omega)) (fun h3_ => ?_) (fun h3_ => ?_)
        rotate_left
        · exfalso; omega
        refine w_iload c_170_84 rfl ?_
        refine z_push c_170_86 ?_
        refine z_ic_ne c_170_88 (by first | exact aRg_of _ | (unfold aRg; omega)) (by first | exact aRg_of _ | (unfold aRg; omega)) (fun h4_ => ?_) (fun h4_ => ?_)
        rotate_left
        · exfalso; omega
        refine w_iload c_170_99 rfl ?_
        refine z_push c_170_101 ?_
        refine z_ic_ne c_170_103 (by first | exact aRg_of _ | (unfold aRg; omega)) (by first | exact aRg_of _ | (unfold aRg; omega)) (fun h5_ => ?_) (fun h5_ => ?_)
        rotate_left
        · exfalso; omega
        refine w_aload c_170_133 rfl ?_
        refine w_iload c_170_134 rfl ?_
        refine wc_240 c_170_136 sp_157 (Nat.le_of_ble_eq_true rfl) (by omega) ?_
        refine t_qJoins (Or.inr (Or.inr ⟨hm, hs2.2.1.1 rfl, hs2.1.1 rfl⟩)) hs2.2.1.2 hs2.1.2 hn (by simp only [List.length_cons]; omega) (by omega) hrw (by omega) (fun I2 L2 hj1 hj2 hj3 hj4 => ?_)
        refine r_v ?_
        refine z_iinc c_170_139 rfl rfl ?_
        refine w_goto c_170_142 ?_
        exact ih2 _ _ _ (by rw [hev]; exact hj2) (by rw [hev]; exact hj1.trans (congrArg iI (by simp only [List.length_cons] <;> omega))) (hF.tr hj3) (hG.tr hj4)
      · have hcm : cmap 329 = 13 := rfl
        have hev : evM (envZ D s0 b g ink age de 0) (D 6 de) 329 st = 1 :: st := by unfold evM; rw [if_neg (by omega), if_neg (by omega), if_neg (by omega)]; unfold pvZ; rw [if_neg (by omega), hE.2]
        refine w_iload c_170_14 rfl ?_
        refine w_aload c_170_15 rfl ?_
        refine w_getR c_170_16 sp_157 (by decide) rfl pr_157_52 ?_
        refine z_push c_170_19 ?_
        refine w_iload c_170_20 rfl ?_
        refine z_iadd c_170_21 ?_
        refine z_iaload c_170_22 sp_200 (by omega) (by first | decide | omega) ((pk_fr hF (by decide)).trans hto) ?_
        refine z_ic_ge c_170_23 (by first | exact aRg_of _ | (unfold aRg; omega)) (by first | exact aRg_of _ | (unfold aRg; omega)) (fun h1_ => ?_) (fun h1_ => ?_)
        · exfalso; omega
        refine w_aload c_170_26 rfl ?_
        refine w_getR c_170_27 sp_157 (by decide) rfl pr_157_53 ?_
        refine z_push c_170_30 ?_
        refine w_iload c_170_33 rfl ?_
        refine z_iadd c_170_34 ?_
        refine z_iaload c_170_35 sp_201 (by omega) (by first | decide | omega) ((pk_fr hF (by decide)).trans hc.1) ?_
        refine w_istore c_170_36 (Nat.le_of_ble_eq_true rfl) rfl ?_
        refine w_iload c_170_38 rfl ?_
        refine z_push c_170_40 ?_
        refine z_ic_lt c_170_43 (by first | exact aRg_of _ | (unfold aRg; omega)) (by first | exact aRg_of _ | (unfold aRg; omega)) (fun h2_ => ?_) (fun h2_ => ?_)
        rotate_left
        · exfalso; omega
        refine w_iload c_170_60 rfl ?_
        refine z_push c_170_62 ?_
        refine z_ic_lt c_170_64 (by first | exact aRg_of _ | (unfold aRg; omega)) (by first | exact aRg_of _ | (unfold aRg; omega)) (fun h3_ => ?_) (fun h3_ => ?_)
        rotate_left
        · exfalso; omega
        refine w_iload c_170_84 rfl ?_
        refine z_push c_170_86 ?_
        refine z_ic_ne c_170_88 (by first | exact aRg_of _ | (unfold aRg; omega)) (by first | exact aRg_of _ | (unfold aRg; omega)) (fun h4_ => ?_) (fun h4_ => ?_)
        · exfalso; omega
        refine w_aload c_170_91 rfl ?_
        refine z_pushl c_170_92 ?_
        refine wc_239 c_170_93 sp_157 (Nat.le_of_ble_eq_true rfl) (by omega) ?_
        refine t_qPuts hn (by omega) ?_
        refine r_v ?_
        refine w_goto c_170_96 ?_
        refine z_iinc c_170_139 rfl rfl ?_
        refine w_goto c_170_142 ?_
        exact ih2 _ _ _ (by rw [hev]; exact hrw.set (by omega)) (by rw [hev]; exact up_eq.trans (congrArg iI (by simp only [List.length_cons] <;> omega))) (hF.up ⟨rfl, rfl⟩) (hG.up rfl)
      · rcases (show 1000 ≤ m ∨ m < 1000 by omega) with h1000 | h1000
        · have hcm := cmap_num h1000
          have hev : evM (envZ D s0 b g ink age de 0) (D 6 de) m st = (cmap m - 1000) :: st := by unfold evM; rw [if_neg (by omega), if_neg (by omega), if_neg (by omega)]; unfold pvZ; rw [if_pos h1000, hcm]
          refine w_iload c_170_14 rfl ?_
          refine w_aload c_170_15 rfl ?_
          refine w_getR c_170_16 sp_157 (by decide) rfl pr_157_52 ?_
          refine z_push c_170_19 ?_
          refine w_iload c_170_20 rfl ?_
          refine z_iadd c_170_21 ?_
          refine z_iaload c_170_22 sp_200 (by omega) (by first | decide | omega) ((pk_fr hF (by decide)).trans hto) ?_
          refine z_ic_ge c_170_23 (by first | exact aRg_of _ | (unfold aRg; omega)) (by first | exact aRg_of _ | (unfold aRg; omega)) (fun h1_ => ?_) (fun h1_ => ?_)
          · exfalso; omega
          refine w_aload c_170_26 rfl ?_
          refine w_getR c_170_27 sp_157 (by decide) rfl pr_157_53 ?_
          refine z_push c_170_30 ?_
          refine w_iload c_170_33 rfl ?_
          refine z_iadd c_170_34 ?_
          refine z_iaload c_170_35 sp_201 (by omega) (by first | decide | omega) ((pk_fr hF (by decide)).trans hc.1) ?_
          refine w_istore c_170_36 (Nat.le_of_ble_eq_true rfl) rfl ?_
          refine w_iload c_170_38 rfl ?_
          refine z_push c_170_40 ?_
          refine z_ic_lt c_170_43 (by first | exact aRg_of _ | (unfold aRg; omega)) (by first | exact aRg_of _ | (unfold aRg; omega)) (fun h2_ => ?_) (fun h2_ => ?_)
          · exfalso; omega
          refine w_aload c_170_46 rfl ?_
          refine w_iload c_170_47 rfl ?_
          refine z_push c_170_49 ?_
          refine z_isub c_170_52 ?_
          refine z_i2l c_170_53 (by first | exact aRg_of _ | (unfold aRg; omega)) ?_
          refine wc_239 c_170_54 sp_157 (Nat.le_of_ble_eq_true rfl) (by omega) ?_
          refine t_qPuts hn (by omega) ?_
          refine r_v ?_
          refine w_goto c_170_57 ?_
          refine z_iinc c_170_139 rfl rfl ?_
          refine w_goto c_170_142 ?_
          exact ih2 _ _ _ (by rw [hev]; exact hrw.set (by omega)) (by rw [hev]; exact up_eq.trans (congrArg iI (by simp only [List.length_cons] <;> omega))) (hF.up ⟨rfl, rfl⟩) (hG.up rfl)
        · have hcm := cmap_prt hm h1000
          have hev : evM (envZ D s0 b g ink age de 0) (D 6 de) m st = (envZ D s0 b g ink age de 0) m :: st := by unfold evM; rw [if_neg (by omega), if_neg (by omega), if_neg (by omega)]; unfold pvZ; rw [if_neg (by omega)]
          refine w_iload c_170_14 rfl ?_
          refine w_aload c_170_15 rfl ?_
          refine w_getR c_170_16 sp_157 (by decide) rfl pr_157_52 ?_
          refine z_push c_170_19 ?_
          refine w_iload c_170_20 rfl ?_
          refine z_iadd c_170_21 ?_
          refine z_iaload c_170_22 sp_200 (by omega) (by first | decide | omega) ((pk_fr hF (by decide)).trans hto) ?_
          refine z_ic_ge c_170_23 (by first | exact aRg_of _ | (unfold aRg; omega)) (by first | exact aRg_of _ | (unfold aRg; omega)) (fun h1_ => ?_) (fun h1_ => ?_)
          · exfalso; omega
          refine w_aload c_170_26 rfl ?_
          refine w_getR c_170_27 sp_157 (by decide) rfl pr_157_53 ?_
          refine z_push c_170_30 ?_
          refine w_iload c_170_33 rfl ?_
          refine z_iadd c_170_34 ?_
          refine z_iaload c_170_35 sp_201 (by omega) (by first | decide | omega) ((pk_fr hF (by decide)).trans hc.1) ?_
          refine w_istore c_170_36 (Nat.le_of_ble_eq_true rfl) rfl ?_
          refine w_iload c_170_38 rfl ?_
          refine z_push c_170_40 ?_
          refine z_ic_lt c_170_43 (by first | exact aRg_of _ | (unfold aRg; omega)) (by first | exact aRg_of _ | (unfold aRg; omega)) (fun h2_ => ?_) (fun h2_ => ?_)
          rotate_left
          · exfalso; omega
          refine w_iload c_170_60 rfl ?_
          refine z_push c_170_62 ?_
          refine z_ic_lt c_170_64 (by first | exact aRg_of _ | (unfold aRg; omega)) (by first | exact aRg_of _ | (unfold aRg; omega)) (fun h3_ => ?_) (fun h3_ => ?_)
          · exfalso; omega
          refine w_aload c_170_67 rfl ?_
          refine w_aload c_170_68 rfl ?_
          refine w_iload c_170_69 rfl ?_
          refine z_push c_170_71 ?_
          refine z_isub c_170_73 ?_
          refine w_iload c_170_74 rfl ?_
          refine wc_241 c_170_75 sp_157 (Nat.le_of_ble_eq_true rfl) (by omega) ?_
          refine t_qPartOf hS (hD.pk hF) (hN.pk hF (by decide)) hde hs hb hg hi ha (lI_of _) hm h1000 (by omega) ?_
          rw [envZ_dr (dr2 := 0) hokm.2.2.2.1]
          refine r_l ?_
          refine wc_239 c_170_78 sp_157 (Nat.le_of_ble_eq_true rfl) (by omega) ?_
          refine t_qPuts hn (by omega) ?_
          refine r_v ?_
          refine w_goto c_170_81 ?_
          refine z_iinc c_170_139 rfl rfl ?_
          refine w_goto c_170_142 ?_
          exact ih2 _ _ _ (by rw [hev]; exact hrw.set (by omega)) (by rw [hev]; exact up_eq.trans (congrArg iI (by simp only [List.length_cons] <;> omega))) (hF.up ⟨rfl, rfl⟩) (hG.up rfl)

theorem t_codesTell {d : Nat} {I : aFI} {L : aFL} {Q : aPo} {sh : Nat} {su : Option Nat} {D : Nat → Int → Int} {cd : Nat → Option (List Int)} {s0 b g : Int} {w : Nat} {ink age : Int → Int} {de : Int} {r fr to : Int} {t : Bool} {l : List Int} (hS : wfS D cd) (hD : rD I D) (hN : nLk I 202 s0 b g w ink age) (hde : 0 ≤ de ∧ de < D 1 2) (hs : 0 ≤ s0 ∧ s0 ≤ 1000) (hb : 0 ≤ b ∧ b < 100000) (hg : 0 ≤ g ∧ g < 100000) (hi : 0 ≤ ink de ∧ ink de ≤ 9999) (ha : 0 ≤ age de ∧ age de ≤ 99) (hE : eOK (envZ D s0 b g ink age de 0)) (hd : 3 ≤ d) (hr : 0 ≤ r ∧ r < 3) (hfr : I 199 (3 + r).toNat = iI fr) (hto : I 200 (3 + r).toNat = iI to) (hto2 : 0 ≤ fr ∧ to = fr + l.length ∧ to ≤ 1600) (hc : rcAt I fr l) (ht : tyC l [] [t]) (hok : ∀ m ∈ l, okR r.toNat m) (kk : ∀ (I2 : aFI) (L2 : aFL), frG PK I I2 → frG LK L L2 → Q (some (.long (lI (valC (envZ D s0 b g ink age de 0) (D 6 de) l)))) I2 L2 (aR sh su)) : aWp none d 170 0 [.ref 157, .int (iI r), .int (iI de), .null, .null] [] I L (aR sh su) Q := by
  refine w_aload c_170_0 rfl ?_
  refine z_push c_170_1 ?_
  refine z_putZ c_170_2 sp_157 (by decide) rfl ?_
  refine upG_k (frG.rf (P := PK) (I := I)) ⟨rfl, rfl⟩ (fun I2 hup hF => ?_)
  have hn2 : I2 157 104 = iI 0 := by rw [hup]; exact up_eq
  refine w_aload c_170_5 rfl ?_
  refine w_getR c_170_6 sp_157 (by decide) rfl pr_157_51 ?_
  refine z_push c_170_9 ?_
  refine w_iload c_170_10 rfl ?_
  refine z_iadd c_170_11 ?_
  refine z_iaload c_170_12 sp_199 (by omega) (by first | decide | omega) ((pk_fr hF (by decide)).trans hfr) ?_
  refine w_istore c_170_13 (Nat.le_of_ble_eq_true rfl) rfl ?_
  exact t_codesTell_1 hS hD hN hde hs hb hg hi ha hr hto hto2.2.2 hE hd _ l [] [] _ _ _ _ (Nat.lt_succ_self _) (by omega) hc ht hok (by simp) trivial trivial hn2 hF frG.rf kk
