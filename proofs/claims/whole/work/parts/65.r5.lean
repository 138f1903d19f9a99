/-! the reference: a season (p64.py) -/
def sumT (m : Int) (t : Nat) : Nat → Int
  | 0 => 0
  | n + 1 => sumT m t n + (if t.testBit n = true then m else 0)
theorem sumT_0 {m : Int} : ∀ n : Nat, sumT m 0 n = 0
  | 0 => rfl
  | n + 1 => by unfold sumT; rw [sumT_0 n, if_neg (by simp)]; rfl
theorem sumT_rg {m : Int} {t : Nat} (hm : 0 ≤ m ∧ m ≤ 999) : ∀ n : Nat, 0 ≤ sumT m t n ∧ sumT m t n ≤ 999 * n
  | 0 => ⟨Int.le_refl 0, Int.le_refl 0⟩
  | n + 1 => by have := sumT_rg (t := t) hm n; unfold sumT; split <;> omega
/-- a season by the buckets and grains before the dam -/
def seaY (D : Nat → Int → Int) (cd : Nat → Option (List Int)) (X : Lk) (b g : Int) : Lk := (X.1 + 1, flB D b, flG D b g, X.2.2.2.1, fadI D cd X.1 X.2.2.2.1 X.2.2.2.2.1 X.2.2.2.2.2 (D 1 2), fadA X.2.2.2.1 X.2.2.2.2.2 (D 1 2))
abbrev fdW (D : Nat → Int → Int) (cd : Nat → Option (List Int)) (s : Int) (w : Nat) (ink age : Int → Int) : Int → Int := fun j => if tb w j = true then fdZ D cd s ink age j else 0
theorem ptf {I I0 : aFI} (h : frG PT I0 I) {q k : Nat} (hq : ¬ (q = 157 ∨ q = 205 ∨ q = 202)) : I q k = I0 q k := h q k (fun z => hq (by rcases z with z | z | z; exact Or.inl z.1; exact Or.inr (Or.inl z); exact Or.inr (Or.inr z.1)))
set_option maxHeartbeats 2000000 in
theorem t_season_1 {d : Nat} {I0 : aFI} {L0 : aFL} {Q : aPo} {sh : Nat} {su : Option Nat} {D : Nat → Int → Int} {cd : Nat → Option (List Int)} {s b g more : Int} {w dry thn : Nat} {ink age : Int → Int} (hS : wfS D cd) (hW0 : rW I0 D cd) (hs : 0 ≤ s ∧ s ≤ 1000) (hb : 0 ≤ b ∧ b ≤ 30000) (hg : 0 ≤ g ∧ g ≤ 30000) (hw : w < 256) (hx : ∀ j : Int, 0 ≤ j → j < 8 → (0 ≤ ink j ∧ ink j ≤ 9999) ∧ (0 ≤ age j ∧ age j ≤ 99)) (hd : 4 ≤ d) : ∀ (n : Nat) (i : Int) (I : aFI) (L : aFL), (D 1 2 - i).toNat < n → (0 ≤ i) → (i ≤ D 1 2) → (nLk I 202 s b g w ink age) → (I 157 63 = I0 157 63) → (∀ j : Int, 0 ≤ j → j < i → I 205 j.toNat = iI (fdW D cd s w ink age j)) → (frG PT I0 I) → (frG LK L0 L) → (∀ (I2 : aFI) (L2 : aFL), nLk I2 202 s b g w ink age → I2 157 63 = I0 157 63 → (∀ j : Int, 0 ≤ j → j < D 1 2 → I2 205 j.toNat = iI (fdW D cd s w ink age j)) → frG PT I0 I2 → frG LK L0 L2 → aWp none d 175 68 [.ref 157, .int (iI (dry : Int)), .int (iI (thn : Int)), .int (iI more), .int (iI (D 1 2)), .null, .null, .null] [] I2 L2 (aR sh su) Q) → aWp none d 175 3 [.ref 157, .int (iI (dry : Int)), .int (iI (thn : Int)), .int (iI more), .int (iI i), .null, .null, .null] [] I L (aR sh su) Q := by
  intro n
  induction n with
  | zero => intro i I L h; omega
  | succ n ih =>
    intro i I L hn2 h0 h1 hN hov hfd hF hG k
    have hdd := hS.n
    have hW := hW0.pt hF
    by_cases h12 : 0 < D 1 2
    rotate_left
    · refine w_iload c_175_3 rfl ?_
      refine w_aload c_175_5 rfl ?_
      refine wc_161 c_175_6 sp_157 (Nat.le_of_ble_eq_true rfl) (by omega) ?_
      refine t_deedMany hW.1 ?_
      refine r_i ?_
      refine z_ic_ge c_175_9 (by first | exact aRg_of _ | (unfold aRg; omega)) (by first | exact aRg_of _ | (unfold aRg; omega)) (fun h21_ => ?_) (fun h21_ => ?_)
      · have e9 : i = D 1 2 := by omega
        subst e9
        exact k I L hN hov hfd hF hG
      · exfalso; omega
    rcases hW0.2 h12 1 (by omega) with ⟨q1, q2⟩ | ⟨l, f, q1, q2, q3, q4, q5⟩
    · refine w_iload c_175_3 rfl ?_
      refine w_aload c_175_5 rfl ?_
      refine wc_161 c_175_6 sp_157 (Nat.le_of_ble_eq_true rfl) (by omega) ?_
      refine t_deedMany hW.1 ?_
      refine r_i ?_
      refine z_ic_ge c_175_9 (by first | exact aRg_of _ | (unfold aRg; omega)) (by first | exact aRg_of _ | (unfold aRg; omega)) (fun h21_ => ?_) (fun h21_ => ?_)
      · have e9 : i = D 1 2 := by omega
        subst e9
        exact k I L hN hov hfd hF hG
      · have h68 : i < D 1 2 := by omega
        have hxi := hx i h0 (by omega)
        have hde2 := hS.de h0 h68
        have hE : eOK (envZ D s b g ink age i 0) := envZ_ok hS h0 h68 hs hb hxi.1 hxi.2 (by omega)
        refine w_aload c_175_12 rfl ?_
        refine w_getR c_175_13 sp_157 (by decide) rfl pr_157_62 ?_
        refine w_iload c_175_16 rfl ?_
        refine z_push c_175_18 ?_
        refine z_iastore c_175_19 sp_205 (by omega) (by decide) ?_
        refine upG_k hF (Or.inr (Or.inl rfl)) (fun I hi hF => ?_)
        have hN : nLk I 202 s b g w ink age := hN.fr (fun k _ => by rw [hi]; exact up_ne (by omega))
        have hov : I 157 63 = I0 157 63 := by rw [hi]; exact (up_ne (by omega)).trans hov
        have hfd : ∀ j : Int, 0 ≤ j → j < i → I 205 j.toNat = iI (fdW D cd s w ink age j) := fun j z1 z2 => by rw [hi]; exact (up_ne (by omega)).trans (hfd j z1 z2)
        have hfi := (congrFun (congrFun hi 205) i.toNat).trans up_eq
        clear hi
        have hW := hW0.pt hF
        refine w_aload c_175_20 rfl ?_
        refine w_iload c_175_21 rfl ?_
        refine wc_163 c_175_23 sp_157 (Nat.le_of_ble_eq_true rfl) (by omega) ?_
        refine t_isWritten hN ⟨h0, by omega⟩ ?_
        refine r_i ?_
        refine b_if_eq c_175_26 (fun h22_ => ?_) (fun h22_ => ?_)
        · refine z_iinc c_175_62 rfl rfl ?_
          refine w_goto c_175_65 ?_
          refine ih (i + 1) I L (by omega) (by omega) (by omega) hN hov (fun j z1 z2 => ?_) hF hG k
          rcases (show j < i ∨ j = i by omega) with z | z
          · exact hfd j z1 z
          · rw [z, hfi]; exact congrArg iI (by show _ = (if tb w i = true then _ else _); first | (rw [if_pos (by assumption)]; unfold fdZ; rw [q1]) | rw [if_neg (fun z => Bool.noConfusion (z.symm.trans (show tb w i = false by assumption)))])
        · refine w_aload c_175_29 rfl ?_
          refine w_getR c_175_30 sp_157 (by decide) rfl pr_157_51 ?_
          refine z_push c_175_33 ?_
          refine z_iaload c_175_34 sp_199 (by omega) (by first | decide | omega) ((ptf hF (by decide)).trans q2) ?_
          refine z_push c_175_35 ?_
          refine z_ic_eq c_175_36 (by first | exact aRg_of _ | (unfold aRg; omega)) (by first | exact aRg_of _ | (unfold aRg; omega)) (fun h23_ => ?_) (fun h23_ => ?_)
          rotate_left
          · exact absurd rfl h23_
          refine z_iinc c_175_62 rfl rfl ?_
          refine w_goto c_175_65 ?_
          refine ih (i + 1) I L (by omega) (by omega) (by omega) hN hov (fun j z1 z2 => ?_) hF hG k
          rcases (show j < i ∨ j = i by omega) with z | z
          · exact hfd j z1 z
          · rw [z, hfi]; exact congrArg iI (by show _ = (if tb w i = true then _ else _); first | (rw [if_pos (by assumption)]; unfold fdZ; rw [q1]) | rw [if_neg (fun z => Bool.noConfusion (z.symm.trans (show tb w i = false by assumption)))])
    · obtain ⟨ht, hok⟩ := hS.c (by omega) q1
      refine w_iload c_175_3 rfl ?_
      refine w_aload c_175_5 rfl ?_
      refine wc_161 c_175_6 sp_157 (Nat.le_of_ble_eq_true rfl) (by omega) ?_
      refine t_deedMany hW.1 ?_
      refine r_i ?_
      refine z_ic_ge c_175_9 (by first | exact aRg_of _ | (unfold aRg; omega)) (by first | exact aRg_of _ | (unfold aRg; omega)) (fun h21_ => ?_) (fun h21_ => ?_)
      · have e9 : i = D 1 2 := by omega
        subst e9
        exact k I L hN hov hfd hF hG
      · have h68 : i < D 1 2 := by omega
        have hxi := hx i h0 (by omega)
        have hde2 := hS.de h0 h68
        have hE : eOK (envZ D s b g ink age i 0) := envZ_ok hS h0 h68 hs hb hxi.1 hxi.2 (by omega)
        refine w_aload c_175_12 rfl ?_
        refine w_getR c_175_13 sp_157 (by decide) rfl pr_157_62 ?_
        refine w_iload c_175_16 rfl ?_
        refine z_push c_175_18 ?_
        refine z_iastore c_175_19 sp_205 (by omega) (by decide) ?_
        refine upG_k hF (Or.inr (Or.inl rfl)) (fun I hi hF => ?_)
        have hN : nLk I 202 s b g w ink age := hN.fr (fun k _ => by rw [hi]; exact up_ne (by omega))
        have hov : I 157 63 = I0 157 63 := by rw [hi]; exact (up_ne (by omega)).trans hov
        have hfd : ∀ j : Int, 0 ≤ j → j < i → I 205 j.toNat = iI (fdW D cd s w ink age j) := fun j z1 z2 => by rw [hi]; exact (up_ne (by omega)).trans (hfd j z1 z2)
        have hfi := (congrFun (congrFun hi 205) i.toNat).trans up_eq
        clear hi
        have hW := hW0.pt hF
        refine w_aload c_175_20 rfl ?_
        refine w_iload c_175_21 rfl ?_
        refine wc_163 c_175_23 sp_157 (Nat.le_of_ble_eq_true rfl) (by omega) ?_
        refine t_isWritten hN ⟨h0, by omega⟩ ?_
        refine r_i ?_
        refine b_if_eq c_175_26 (fun h22_ => ?_) (fun h22_ => ?_)
        · refine z_iinc c_175_62 rfl rfl ?_
          refine w_goto c_175_65 ?_
          refine ih (i + 1) I L (by omega) (by omega) (by omega) hN hov (fun j z1 z2 => ?_) hF hG k
          rcases (show j < i ∨ j = i by omega) with z | z
          · exact hfd j z1 z
          · rw [z, hfi]; exact congrArg iI (by show _ = (if tb w i = true then _ else _); first | (rw [if_pos (by assumption)]; unfold fdZ; rw [q1]) | rw [if_neg (fun z => Bool.noConfusion (z.symm.trans (show tb w i = false by assumption)))])
        · refine w_aload c_175_29 rfl ?_
          refine w_getR c_175_30 sp_157 (by decide) rfl pr_157_51 ?_
          refine z_push c_175_33 ?_
          refine z_iaload c_175_34 sp_199 (by omega) (by first | decide | omega) ((ptf hF (by decide)).trans q3) ?_
          refine z_push c_175_35 ?_
          refine z_ic_eq c_175_36 (by first | exact aRg_of _ | (unfold aRg; omega)) (by first | exact aRg_of _ | (unfold aRg; omega)) (fun h23_ => ?_) (fun h23_ => ?_)
          · exfalso; omega
          refine w_aload c_175_39 rfl ?_
          refine w_getR c_175_40 sp_157 (by decide) rfl pr_157_62 ?_
          refine w_iload c_175_43 rfl ?_
          refine w_aload c_175_45 rfl ?_
          refine z_push c_175_46 ?_
          refine w_iload c_175_47 rfl ?_
          refine wc_170 c_175_49 sp_157 (Nat.le_of_ble_eq_true rfl) (by omega) ?_
          refine t_codesTell (r := 1) (fr := f) (to := f + l.length) (l := l) hS hW.1 hN ⟨h0, h68⟩ (by omega) (by omega) (by omega) (by omega) (by omega) hE (by omega) (by omega) ((ptf hF (by decide)).trans q3) ((ptf hF (by decide)).trans q4) ⟨q2.1, rfl, by omega⟩ (q5.fr (fun k => ptf hF (by decide))) ht hok (fun I L hf hf2 => ?_)
          have hv := (valC_ok (vl := D 6 i) hE ht).1
          have hv2 := hv.2
          have hF := hF.tr (PK.t hf)
          have hG := hG.tr hf2
          have hN := hN.pk hf (by decide)
          have hov : I 157 63 = I0 157 63 := (hf _ _ (by decide)).trans hov
          have hfd : ∀ j : Int, 0 ≤ j → j < i → I 205 j.toNat = iI (fdW D cd s w ink age j) := fun j z1 z2 => (pk_fr hf (by decide)).trans (hfd j z1 z2)
          refine r_l ?_
          refine w_aload c_175_52 rfl ?_
          refine w_iload c_175_53 rfl ?_
          refine wc_164 c_175_55 sp_157 (Nat.le_of_ble_eq_true rfl) (by omega) ?_
          refine t_inkOf hN ⟨h0, by omega⟩ ?_
          refine r_i ?_
          refine wc_168 c_175_58 (Nat.le_of_ble_eq_true rfl) (by omega) ?_
          refine t_cut (by omega) (by omega) ?_
          refine r_i ?_
          refine z_iastore c_175_61 sp_205 (by omega) (by decide) ?_
          refine upG_k hF (Or.inr (Or.inl rfl)) (fun I hi hF => ?_)
          have hN : nLk I 202 s b g w ink age := hN.fr (fun k _ => by rw [hi]; exact up_ne (by omega))
          have hov : I 157 63 = I0 157 63 := by rw [hi]; exact (up_ne (by omega)).trans hov
          have hfd : ∀ j : Int, 0 ≤ j → j < i → I 205 j.toNat = iI (fdW D cd s w ink age j) := fun j z1 z2 => by rw [hi]; exact (up_ne (by omega)).trans (hfd j z1 z2)
          have hfi := (congrFun (congrFun hi 205) i.toNat).trans up_eq
          clear hi
          have hW := hW0.pt hF
          refine z_iinc c_175_62 rfl rfl ?_
          refine w_goto c_175_65 ?_
          refine ih (i + 1) I L (by omega) (by omega) (by omega) hN hov (fun j z1 z2 => ?_) hF hG k
          rcases (show j < i ∨ j = i by omega) with z | z
          · exact hfd j z1 z
          · rw [z, hfi]; exact congrArg iI (by show _ = (if tb w i = true then _ else _); rw [if_pos (by assumption)]; unfold fdZ; rw [q1]; exact congrArg (cutz · (ink i)) (val_fad hok rfl rfl))

set_option maxHeartbeats 2000000 in
theorem t_season_2 {d : Nat} {Q : aPo} {sh : Nat} {su : Option Nat} {D : Nat → Int → Int} {cd : Nat → Option (List Int)} {b g more : Int} {dry thn : Nat} {I : aFI} {L : aFL} (hS : wfS D cd) (hW : rW I D cd) (hdry : dry < 256) (hthn : thn < 256) (hd : 1 ≤ d) : ∀ (n : Nat) (i : Int), (D 1 0 - i).toNat < n → (0 ≤ i) → (i ≤ D 1 0) → (aWp none d 175 151 [.ref 157, .int (iI (dry : Int)), .int (iI (thn : Int)), .int (iI more), .int (iI (b + sumB (D 3) dry (D 1 0).toNat)), .long (lI (g + sumB (D 4) dry (D 1 0).toNat)), .null, .int (iI (D 1 0))] [] I L (aR sh su) Q) → aWp none d 175 88 [.ref 157, .int (iI (dry : Int)), .int (iI (thn : Int)), .int (iI more), .int (iI (b + sumB (D 3) dry i.toNat)), .long (lI (g + sumB (D 4) dry i.toNat)), .null, .int (iI i)] [] I L (aR sh su) Q := by
  intro n
  induction n with
  | zero => intro i h; omega
  | succ n ih =>
    intro i hn2 h0 h1 k
    have hdd := hS.n
    have ht := tb_one (w := dry) (de := i)
    have hst : (i + 1).toNat = i.toNat + 1 := by omega
    have hit : ((i.toNat : Nat) : Int) = i := Int.toNat_of_nonneg h0
    have eB : sumB (D 3) dry (i + 1).toNat = sumB (D 3) dry i.toNat + (if tb dry i = true then 0 else D 3 i) := by rw [hst]; simp only [sumB, hit]; rfl
    have eG : sumB (D 4) dry (i + 1).toNat = sumB (D 4) dry i.toNat + (if tb dry i = true then 0 else D 4 i) := by rw [hst]; simp only [sumB, hit]; rfl
    refine w_iload c_175_88 rfl ?_
    refine w_aload c_175_90 rfl ?_
    refine wc_159 c_175_91 sp_157 (Nat.le_of_ble_eq_true rfl) (by omega) ?_
    refine t_brookMany hW.1 ?_
    refine r_i ?_
    refine z_ic_ge c_175_94 (by first | exact aRg_of _ | (unfold aRg; omega)) (by first | exact aRg_of _ | (unfold aRg; omega)) (fun h1_ => ?_) (fun h1_ => ?_)
    · have e9 : i = D 1 0 := by omega
      subst e9
      exact k
    · have hbr := hS.br h0 (by omega)
      refine w_iload c_175_97 rfl ?_
      refine w_iload c_175_98 rfl ?_
      refine w_ishr c_175_100 (shr1 hdry (by omega)) ?_
      refine z_push c_175_101 ?_
      refine w_iand c_175_102 tb_and ?_
      refine z_push c_175_103 ?_
      refine z_ic_ne c_175_104 (by first | exact aRg_of _ | (unfold aRg; omega)) (by first | exact aRg_of _ | (unfold aRg; omega)) (fun h2_ => ?_) (fun h2_ => ?_)
      · refine w_iload c_175_110 rfl ?_
        refine w_aload c_175_112 rfl ?_
        refine w_getR c_175_113 sp_157 (by decide) rfl pr_157_47 ?_
        refine z_push c_175_116 ?_
        refine z_push c_175_118 ?_
        refine w_iload c_175_119 rfl ?_
        refine z_imul c_175_121 ?_
        refine z_iadd c_175_122 ?_
        refine z_iaload c_175_123 sp_195 (by omega) (by first | decide | omega) (hW.1.br h0 (by omega) (by omega)) ?_
        refine z_iadd c_175_124 ?_
        refine w_istore c_175_125 (Nat.le_of_ble_eq_true rfl) rfl ?_
        refine w_lload c_175_127 rfl ?_
        refine w_aload c_175_129 rfl ?_
        refine w_getR c_175_130 sp_157 (by decide) rfl pr_157_47 ?_
        refine z_push c_175_133 ?_
        refine z_push c_175_135 ?_
        refine w_iload c_175_136 rfl ?_
        refine z_imul c_175_138 ?_
        refine z_iadd c_175_139 ?_
        refine z_iaload c_175_140 sp_195 (by omega) (by first | decide | omega) (hW.1.bb h0 (by omega) (by omega)) ?_
        refine z_i2l c_175_141 (by first | exact aRg_of _ | (unfold aRg; omega)) ?_
        refine z_ladd c_175_142 ?_
        refine w_lstore c_175_143 (Nat.le_of_ble_eq_true rfl) rfl ?_
        refine z_iinc c_175_145 rfl rfl ?_
        refine w_goto c_175_148 ?_
        have ht2 : tb dry i = false := by rcases ht with ⟨z1, z2⟩ | ⟨z1, z2⟩ <;> first | exact z2 | (exfalso; omega)
        rw [ht2] at eB eG
        obtain ⟨e1, e2⟩ : b + sumB (D 3) dry (i + 1).toNat = b + sumB (D 3) dry i.toNat + D 3 i ∧ g + sumB (D 4) dry (i + 1).toNat = g + sumB (D 4) dry i.toNat + D 4 i := ⟨by rw [eB]; simp <;> omega, by rw [eG]; simp <;> omega⟩
        have := ih (i + 1) (by omega) (by omega) (by omega) k
        rw [e1, e2] at this
        exact this
      · refine w_goto c_175_107 ?_
        refine z_iinc c_175_145 rfl rfl ?_
        refine w_goto c_175_148 ?_
        have ht2 : tb dry i = true := by rcases ht with ⟨z1, z2⟩ | ⟨z1, z2⟩ <;> first | exact z2 | (exfalso; omega)
        rw [ht2] at eB eG
        obtain ⟨e1, e2⟩ : b + sumB (D 3) dry (i + 1).toNat = b + sumB (D 3) dry i.toNat ∧ g + sumB (D 4) dry (i + 1).toNat = g + sumB (D 4) dry i.toNat := ⟨by rw [eB]; simp <;> omega, by rw [eG]; simp <;> omega⟩
        have := ih (i + 1) (by omega) (by omega) (by omega) k
        rw [e1, e2] at this
        exact this

set_option maxHeartbeats 2000000 in
theorem t_season_3 {d : Nat} {Q : aPo} {sh : Nat} {su : Option Nat} {D : Nat → Int → Int} {cd : Nat → Option (List Int)} {b g more : Int} {dry thn : Nat} {I : aFI} {L : aFL} (hS : wfS D cd) (hW : rW I D cd) (hdry : dry < 256) (hthn : thn < 256) (hd : 1 ≤ d) : ∀ (n : Nat) (i : Int), (D 1 0 - i).toNat < n → (0 ≤ i) → (i ≤ D 1 0) → (aWp none d 175 185 [.ref 157, .int (iI (dry : Int)), .int (iI (thn : Int)), .int (iI more), .int (iI (b + sumT more thn (D 1 0).toNat)), .long (lI g), .null, .int (iI (D 1 0))] [] I L (aR sh su) Q) → aWp none d 175 154 [.ref 157, .int (iI (dry : Int)), .int (iI (thn : Int)), .int (iI more), .int (iI (b + sumT more thn i.toNat)), .long (lI g), .null, .int (iI i)] [] I L (aR sh su) Q := by
  intro n
  induction n with
  | zero => intro i h; omega
  | succ n ih =>
    intro i hn2 h0 h1 k
    have hdd := hS.n
    have ht := tb_one (w := thn) (de := i)
    have hst : (i + 1).toNat = i.toNat + 1 := by omega
    have eB : sumT more thn (i + 1).toNat = sumT more thn i.toNat + (if tb thn i = true then more else 0) := by rw [hst]; simp only [sumT]; rfl
    refine w_iload c_175_154 rfl ?_
    refine w_aload c_175_156 rfl ?_
    refine wc_159 c_175_157 sp_157 (Nat.le_of_ble_eq_true rfl) (by omega) ?_
    refine t_brookMany hW.1 ?_
    refine r_i ?_
    refine z_ic_ge c_175_160 (by first | exact aRg_of _ | (unfold aRg; omega)) (by first | exact aRg_of _ | (unfold aRg; omega)) (fun h1_ => ?_) (fun h1_ => ?_)
    · have e9 : i = D 1 0 := by omega
      subst e9
      exact k
    · refine w_iload c_175_163 rfl ?_
      refine w_iload c_175_164 rfl ?_
      refine w_ishr c_175_166 (shr1 hthn (by omega)) ?_
      refine z_push c_175_167 ?_
      refine w_iand c_175_168 tb_and ?_
      refine z_push c_175_169 ?_
      refine z_ic_ne c_175_170 (by first | exact aRg_of _ | (unfold aRg; omega)) (by first | exact aRg_of _ | (unfold aRg; omega)) (fun h2_ => ?_) (fun h2_ => ?_)
      · refine z_iinc c_175_179 rfl rfl ?_
        refine w_goto c_175_182 ?_
        have ht2 : tb thn i = false := by rcases ht with ⟨z1, z2⟩ | ⟨z1, z2⟩ <;> first | exact z2 | (exfalso; omega)
        rw [ht2] at eB
        have e1 : b + sumT more thn (i + 1).toNat = b + sumT more thn i.toNat := by rw [eB]; simp <;> omega
        have := ih (i + 1) (by omega) (by omega) (by omega) k
        rw [e1] at this
        exact this
      · refine w_iload c_175_173 rfl ?_
        refine w_iload c_175_175 rfl ?_
        refine z_iadd c_175_176 ?_
        refine w_istore c_175_177 (Nat.le_of_ble_eq_true rfl) rfl ?_
        refine z_iinc c_175_179 rfl rfl ?_
        refine w_goto c_175_182 ?_
        have ht2 : tb thn i = true := by rcases ht with ⟨z1, z2⟩ | ⟨z1, z2⟩ <;> first | exact z2 | (exfalso; omega)
        rw [ht2] at eB
        have e1 : b + sumT more thn (i + 1).toNat = b + sumT more thn i.toNat + more := by rw [eB]; simp <;> omega
        have := ih (i + 1) (by omega) (by omega) (by omega) k
        rw [e1] at this
        exact this

set_option maxHeartbeats 2000000 in
theorem t_season_4 {d : Nat} {I0 : aFI} {Q : aPo} {sh : Nat} {su : Option Nat} {D : Nat → Int → Int} {cd : Nat → Option (List Int)} {s b g more ov : Int} {w dry thn : Nat} {ink age : Int → Int} {L : aFL} {v4 v5 v6 : Value} (hS : wfS D cd) (hW0 : rW I0 D cd) (hw : w < 256) (hx : ∀ j : Int, 0 ≤ j → j < 8 → (0 ≤ ink j ∧ ink j ≤ 9999) ∧ (0 ≤ age j ∧ age j ≤ 99)) (hd : 4 ≤ d) : ∀ (n : Nat) (i : Int) (I : aFI), (D 1 2 - i).toNat < n → (0 ≤ i) → (i ≤ D 1 2) → (nLk I 202 s b g w (fadI D cd s w ink age i) (fadA w age i)) → (I 157 63 = iI ov) → (∀ j : Int, 0 ≤ j → j < D 1 2 → I 205 j.toNat = iI (fdW D cd s w ink age j)) → (frG PT I0 I) → (∀ I2 : aFI, nLk I2 202 (s + 1) b g w (fadI D cd s w ink age (D 1 2)) (fadA w age (D 1 2)) → I2 157 63 = iI ov → frG PT I0 I2 → Q none I2 L (aR sh su)) → aWp none d 175 268 [.ref 157, .int (iI (dry : Int)), .int (iI (thn : Int)), .int (iI more), v4, v5, v6, .int (iI i)] [] I L (aR sh su) Q := by
  intro n
  induction n with
  | zero => intro i I h; omega
  | succ n ih =>
    intro i I hn2 h0 h1 hN hov hfd hF k
    have hdd := hS.n
    have hW := hW0.pt hF
    have eI : (fadI D cd s w ink age i) i = ink i := fadI_at
    have eA : (fadA w age i) i = age i := fadA_at
    refine w_iload c_175_268 rfl ?_
    refine w_aload c_175_270 rfl ?_
    refine wc_161 c_175_271 sp_157 (Nat.le_of_ble_eq_true rfl) (by omega) ?_
    refine t_deedMany hW.1 ?_
    refine r_i ?_
    refine z_ic_ge c_175_274 (by first | exact aRg_of _ | (unfold aRg; omega)) (by first | exact aRg_of _ | (unfold aRg; omega)) (fun h1_ => ?_) (fun h1_ => ?_)
    · refine w_aload c_175_346 rfl ?_
      refine w_getR c_175_347 sp_157 (by decide) rfl pr_157_58 ?_
      refine z_push c_175_350 ?_
      refine w_dup2 c_175_351 rfl rfl ?_
      refine z_iaload c_175_352 sp_202 (by omega) (by first | decide | omega) hN.1 ?_
      refine z_push c_175_353 ?_
      refine z_iadd c_175_354 ?_
      refine z_iastore c_175_355 sp_202 (by omega) (by decide) ?_
      refine upG_k hF (Or.inr (Or.inr ⟨rfl, by omega⟩)) (fun I hi hF => ?_)
      have hN := hN.ps hi
      have hov : I 157 63 = iI ov := by rw [hi]; exact (up_ne (by omega)).trans hov
      have hfd : ∀ j : Int, 0 ≤ j → j < D 1 2 → I 205 j.toNat = iI (fdW D cd s w ink age j) := fun j z1 z2 => by rw [hi]; exact (up_ne (by omega)).trans (hfd j z1 z2)
      clear hi
      refine z_retv c_175_356 ?_
      have e9 : i = D 1 2 := by omega
      subst e9
      exact k I hN hov hF
    · refine w_aload c_175_277 rfl ?_
      refine w_iload c_175_278 rfl ?_
      refine wc_163 c_175_280 sp_157 (Nat.le_of_ble_eq_true rfl) (by omega) ?_
      refine t_isWritten hN ⟨h0, by omega⟩ ?_
      have hxi := hx i h0 (by omega)
      refine r_i ?_
      refine b_if_ne c_175_283 (fun h2_ => ?_) (fun h2_ => ?_)
      · refine w_aload c_175_289 rfl ?_
        refine w_getR c_175_290 sp_157 (by decide) rfl pr_157_58 ?_
        refine z_push c_175_293 ?_
        refine z_push c_175_294 ?_
        refine w_iload c_175_295 rfl ?_
        refine z_imul c_175_297 ?_
        refine z_iadd c_175_298 ?_
        refine z_push c_175_299 ?_
        refine z_iadd c_175_300 ?_
        refine w_dup2 c_175_301 rfl rfl ?_
        refine z_iaload c_175_302 sp_202 (by omega) (by first | decide | omega) (hN.i h0 (by omega) (by omega)) ?_
        refine w_aload c_175_303 rfl ?_
        refine w_getR c_175_304 sp_157 (by decide) rfl pr_157_62 ?_
        refine w_iload c_175_307 rfl ?_
        refine z_iaload c_175_309 sp_205 (by omega) (by first | decide | omega) (hfd i h0 (by omega)) ?_
        refine z_isub c_175_310 ?_
        refine z_iastore c_175_311 sp_202 (by omega) (by decide) ?_
        refine upG_k hF (Or.inr (Or.inr ⟨rfl, by omega⟩)) (fun I hi hF => ?_)
        have hN := hN.pi (j := i) h0 (by omega) hi
        have hW := hW0.pt hF
        have hov : I 157 63 = iI ov := by rw [hi]; exact (up_ne (by omega)).trans hov
        have hfd : ∀ j : Int, 0 ≤ j → j < D 1 2 → I 205 j.toNat = iI (fdW D cd s w ink age j) := fun j z1 z2 => by rw [hi]; exact (up_ne (by omega)).trans (hfd j z1 z2)
        clear hi
        refine w_aload c_175_312 rfl ?_
        refine w_iload c_175_313 rfl ?_
        refine wc_165 c_175_315 sp_157 (Nat.le_of_ble_eq_true rfl) (by omega) ?_
        refine t_ageOf hN ⟨h0, by omega⟩ ?_
        rw [eA]
        refine r_i ?_
        refine z_push c_175_318 ?_
        refine z_ic_ge c_175_320 (by first | exact aRg_of _ | (unfold aRg; omega)) (by first | exact aRg_of _ | (unfold aRg; omega)) (fun h3_ => ?_) (fun h3_ => ?_)
        · refine z_iinc c_175_340 rfl rfl ?_
          refine w_goto c_175_343 ?_
          have ht2 : tb w i = true := by assumption
          exact ih (i + 1) I (by omega) (by omega) (by omega) (hN.cast rfl rfl rfl rfl (by rw [fadI_s h0 ht2, eI]; unfold fdW; rw [if_pos ht2]) (by rw [fadA_s h0 ht2, cU_id (by rw [eA, Int.min_eq_left (by omega)]; omega)])) hov hfd hF k
        · refine w_aload c_175_323 rfl ?_
          refine w_getR c_175_324 sp_157 (by decide) rfl pr_157_58 ?_
          refine z_push c_175_327 ?_
          refine z_push c_175_328 ?_
          refine w_iload c_175_329 rfl ?_
          refine z_imul c_175_331 ?_
          refine z_iadd c_175_332 ?_
          refine z_push c_175_333 ?_
          refine z_iadd c_175_334 ?_
          refine w_dup2 c_175_335 rfl rfl ?_
          refine z_iaload c_175_336 sp_202 (by omega) (by first | decide | omega) (hN.a h0 (by omega) (by omega)) ?_
          refine z_push c_175_337 ?_
          refine z_iadd c_175_338 ?_
          refine z_iastore c_175_339 sp_202 (by omega) (by decide) ?_
          refine upG_k hF (Or.inr (Or.inr ⟨rfl, by omega⟩)) (fun I hi hF => ?_)
          have hN := hN.pa (j := i) h0 (by omega) hi
          have hW := hW0.pt hF
          have hov : I 157 63 = iI ov := by rw [hi]; exact (up_ne (by omega)).trans hov
          have hfd : ∀ j : Int, 0 ≤ j → j < D 1 2 → I 205 j.toNat = iI (fdW D cd s w ink age j) := fun j z1 z2 => by rw [hi]; exact (up_ne (by omega)).trans (hfd j z1 z2)
          clear hi
          refine z_iinc c_175_340 rfl rfl ?_
          refine w_goto c_175_343 ?_
          have ht2 : tb w i = true := by assumption
          exact ih (i + 1) I (by omega) (by omega) (by omega) (hN.cast rfl rfl rfl rfl (by rw [fadI_s h0 ht2, eI]; unfold fdW; rw [if_pos ht2]) (by rw [fadA_s h0 ht2, eA, Int.min_eq_right (by omega)])) hov hfd hF k
      · refine w_goto c_175_286 ?_
        refine z_iinc c_175_340 rfl rfl ?_
        refine w_goto c_175_343 ?_
        have ht2 : tb w i = false := by assumption
        exact ih (i + 1) I (by omega) (by omega) (by omega) (hN.cast rfl rfl rfl rfl (fadI_n ht2).symm (fadA_n ht2).symm) hov hfd hF k

