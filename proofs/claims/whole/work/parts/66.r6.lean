/-! the reference: a season as a whole; the lake put aside (p66.py) -/
theorem cutz_min {v : Int} (h : 0 ≤ v) : cutz v 9999 = min 9999 v := by unfold cutz; split <;> (try split) <;> omega
set_option maxHeartbeats 1000000 in
theorem t_season_5 {d : Nat} {I0 I : aFI} {L : aFL} {Q : aPo} {sh : Nat} {su : Option Nat} {D : Nat → Int → Int} {cd : Nat → Option (List Int)} {s b g more ov : Int} {w dry thn : Nat} {ink age : Int → Int} {B G : Int} (hS : wfS D cd) (hW0 : rW I0 D cd) (hs : 0 ≤ s ∧ s ≤ 1000) (hw : w < 256) (hx : ∀ j : Int, 0 ≤ j → j < 8 → (0 ≤ ink j ∧ ink j ≤ 9999) ∧ (0 ≤ age j ∧ age j ≤ 99)) (hB : 0 ≤ B ∧ B ≤ 60000) (hG : 0 ≤ G ∧ G ≤ 60000) (hN : nLk I 202 s b g w ink age) (hov : I 157 63 = iI ov) (hfd : ∀ j : Int, 0 ≤ j → j < D 1 2 → I 205 j.toNat = iI (fdW D cd s w ink age j)) (hF : frG PT I0 I) (hd : 4 ≤ d) {n7 : Int} (k : ∀ I2 : aFI, rX I2 202 (seaY D cd (s, b, g, w, ink, age) B G) → I2 157 63 = iI (ov + flO D B) → frG PT I0 I2 → Q none I2 L (aR sh su)) : aWp none d 175 185 [.ref 157, .int (iI (dry : Int)), .int (iI (thn : Int)), .int (iI more), .int (iI B), .long (lI G), .null, .int (iI n7)] [] I L (aR sh su) Q := by
  have hdd := hS.n
  have hhh := hS.h
  have hW := hW0.pt hF
  have hm1 := mul_rg (a := G) (b := D 0 1) (A := 60000) (B := 9999) (by omega) (by omega)
  have hd1 : 0 < B → 0 ≤ G * D 0 1 / B ∧ G * D 0 1 / B ≤ G * D 0 1 := fun h => ed_rg (by omega) h
  refine w_iload c_175_185 rfl ?_
  refine w_aload c_175_187 rfl ?_
  refine wc_167 c_175_188 sp_157 (Nat.le_of_ble_eq_true rfl) (by omega) ?_
  refine t_holdsAll hW.1 ?_
  refine r_i ?_
  refine z_ic_le c_175_191 (by first | exact aRg_of _ | (unfold aRg; omega)) (by first | exact aRg_of _ | (unfold aRg; omega)) (fun h1_ => ?_) (fun h1_ => ?_)
  · refine w_aload c_175_230 rfl ?_
    refine w_getR c_175_231 sp_157 (by decide) rfl pr_157_58 ?_
    refine z_push c_175_234 ?_
    refine w_iload c_175_235 rfl ?_
    refine w_iload c_175_237 rfl ?_
    refine w_aload c_175_239 rfl ?_
    refine w_getR c_175_240 sp_157 (by decide) rfl pr_157_50 ?_
    refine z_push c_175_243 ?_
    refine z_iaload c_175_244 sp_198 (by omega) (by first | decide | omega) hW.1.2.2.1.1 ?_
    have hm2 := mul_rg (a := B) (b := D 0 14) (A := 60000) (B := 100) (by omega) (by omega)
    have hd2 := ed_rg (a := B * D 0 14) (b := 100) (by omega) (by omega)
    refine z_imul c_175_245 ?_
    refine z_push c_175_246 ?_
    refine z_idiv c_175_248 (by omega) (by omega) ?_
    refine z_isub c_175_249 ?_
    refine z_iastore c_175_250 sp_202 (by omega) (by decide) ?_
    refine upG_k hF (Or.inr (Or.inr ⟨rfl, by omega⟩)) (fun I hi hF => ?_)
    have hN := hN.pb hi
    have hW := hW0.pt hF
    have hov := (congrFun (congrFun hi 157) 63).trans ((up_ne (by omega)).trans hov)
    have hfd : ∀ j : Int, 0 ≤ j → j < D 1 2 → I 205 j.toNat = iI (fdW D cd s w ink age j) := fun j z1 z2 => by rw [hi]; exact (up_ne (by omega)).trans (hfd j z1 z2)
    clear hi
    refine w_aload c_175_251 rfl ?_
    refine w_getR c_175_252 sp_157 (by decide) rfl pr_157_58 ?_
    refine z_push c_175_255 ?_
    refine w_lload c_175_256 rfl ?_
    refine z_push c_175_258 ?_
    refine wc_168 c_175_261 (Nat.le_of_ble_eq_true rfl) (by omega) ?_
    refine t_cut (by omega) (by omega) ?_
    refine r_i ?_
    refine z_iastore c_175_264 sp_202 (by omega) (by decide) ?_
    refine upG_k hF (Or.inr (Or.inr ⟨rfl, by omega⟩)) (fun I hi hF => ?_)
    have hN := hN.pg hi
    have hW := hW0.pt hF
    have hov := (congrFun (congrFun hi 157) 63).trans ((up_ne (by omega)).trans hov)
    have hfd : ∀ j : Int, 0 ≤ j → j < D 1 2 → I 205 j.toNat = iI (fdW D cd s w ink age j) := fun j z1 z2 => by rw [hi]; exact (up_ne (by omega)).trans (hfd j z1 z2)
    clear hi
    refine z_push c_175_265 ?_
    refine w_istore c_175_266 (Nat.le_of_ble_eq_true rfl) rfl ?_
    have hc : ¬ D 0 1 < B := by omega
    exact t_season_4 hS hW0 hw hx hd _ 0 _ (Nat.lt_succ_self _) (by omega) (by omega) (hN.cast rfl rfl rfl rfl fadI_0.symm fadA_0.symm) hov hfd hF (fun I hN hov hF => k I (hN.cast rfl (by show _ = flB D B; unfold flB; rw [if_neg hc]) (by show _ = flG D B G; unfold flG; rw [if_neg hc]; exact cutz_min (by omega)) rfl rfl rfl) (hov.trans (congrArg iI (by unfold flO; omega))) hF)
  · refine w_lload c_175_194 rfl ?_
    refine w_aload c_175_196 rfl ?_
    refine wc_167 c_175_197 sp_157 (Nat.le_of_ble_eq_true rfl) (by omega) ?_
    refine t_holdsAll hW.1 ?_
    refine r_i ?_
    refine z_i2l c_175_200 (by first | exact aRg_of _ | (unfold aRg; omega)) ?_
    refine z_lmul c_175_201 ?_
    refine w_iload c_175_202 rfl ?_
    refine z_i2l c_175_204 (by first | exact aRg_of _ | (unfold aRg; omega)) ?_
    have hd1 := hd1 (by omega)
    refine z_ldiv c_175_205 (by omega) (by omega) ?_
    refine w_lstore c_175_206 (Nat.le_of_ble_eq_true rfl) rfl ?_
    refine w_aload c_175_208 rfl ?_
    refine w_dup c_175_209 rfl ?_
    refine z_getZ c_175_210 sp_157 (by decide) rfl hov ?_
    refine w_iload c_175_213 rfl ?_
    refine w_aload c_175_215 rfl ?_
    refine wc_167 c_175_216 sp_157 (Nat.le_of_ble_eq_true rfl) (by omega) ?_
    refine t_holdsAll hW.1 ?_
    refine r_i ?_
    refine z_isub c_175_219 ?_
    refine z_iadd c_175_220 ?_
    refine z_putZ c_175_221 sp_157 (by decide) rfl ?_
    refine upG_k hF (Or.inl ⟨rfl, Or.inr rfl⟩) (fun I hi hF => ?_)
    have hN : nLk I 202 s b g w ink age := hN.fr (fun k _ => by rw [hi]; exact up_ne (by omega))
    have hW := hW0.pt hF
    have hov := (congrFun (congrFun hi 157) 63).trans up_eq
    have hfd : ∀ j : Int, 0 ≤ j → j < D 1 2 → I 205 j.toNat = iI (fdW D cd s w ink age j) := fun j z1 z2 => by rw [hi]; exact (up_ne (by omega)).trans (hfd j z1 z2)
    clear hi
    refine w_aload c_175_224 rfl ?_
    refine wc_167 c_175_225 sp_157 (Nat.le_of_ble_eq_true rfl) (by omega) ?_
    refine t_holdsAll hW.1 ?_
    refine r_i ?_
    refine w_istore c_175_228 (Nat.le_of_ble_eq_true rfl) rfl ?_
    refine w_aload c_175_230 rfl ?_
    refine w_getR c_175_231 sp_157 (by decide) rfl pr_157_58 ?_
    refine z_push c_175_234 ?_
    refine w_iload c_175_235 rfl ?_
    refine w_iload c_175_237 rfl ?_
    refine w_aload c_175_239 rfl ?_
    refine w_getR c_175_240 sp_157 (by decide) rfl pr_157_50 ?_
    refine z_push c_175_243 ?_
    refine z_iaload c_175_244 sp_198 (by omega) (by first | decide | omega) hW.1.2.2.1.1 ?_
    have hm2 := mul_rg (a := D 0 1) (b := D 0 14) (A := 60000) (B := 100) (by omega) (by omega)
    have hd2 := ed_rg (a := D 0 1 * D 0 14) (b := 100) (by omega) (by omega)
    refine z_imul c_175_245 ?_
    refine z_push c_175_246 ?_
    refine z_idiv c_175_248 (by omega) (by omega) ?_
    refine z_isub c_175_249 ?_
    refine z_iastore c_175_250 sp_202 (by omega) (by decide) ?_
    refine upG_k hF (Or.inr (Or.inr ⟨rfl, by omega⟩)) (fun I hi hF => ?_)
    have hN := hN.pb hi
    have hW := hW0.pt hF
    have hov := (congrFun (congrFun hi 157) 63).trans ((up_ne (by omega)).trans hov)
    have hfd : ∀ j : Int, 0 ≤ j → j < D 1 2 → I 205 j.toNat = iI (fdW D cd s w ink age j) := fun j z1 z2 => by rw [hi]; exact (up_ne (by omega)).trans (hfd j z1 z2)
    clear hi
    refine w_aload c_175_251 rfl ?_
    refine w_getR c_175_252 sp_157 (by decide) rfl pr_157_58 ?_
    refine z_push c_175_255 ?_
    refine w_lload c_175_256 rfl ?_
    refine z_push c_175_258 ?_
    refine wc_168 c_175_261 (Nat.le_of_ble_eq_true rfl) (by omega) ?_
    refine t_cut (by omega) (by omega) ?_
    refine r_i ?_
    refine z_iastore c_175_264 sp_202 (by omega) (by decide) ?_
    refine upG_k hF (Or.inr (Or.inr ⟨rfl, by omega⟩)) (fun I hi hF => ?_)
    have hN := hN.pg hi
    have hW := hW0.pt hF
    have hov := (congrFun (congrFun hi 157) 63).trans ((up_ne (by omega)).trans hov)
    have hfd : ∀ j : Int, 0 ≤ j → j < D 1 2 → I 205 j.toNat = iI (fdW D cd s w ink age j) := fun j z1 z2 => by rw [hi]; exact (up_ne (by omega)).trans (hfd j z1 z2)
    clear hi
    refine z_push c_175_265 ?_
    refine w_istore c_175_266 (Nat.le_of_ble_eq_true rfl) rfl ?_
    have hc : D 0 1 < B := by omega
    exact t_season_4 hS hW0 hw hx hd _ 0 _ (Nat.lt_succ_self _) (by omega) (by omega) (hN.cast rfl rfl rfl rfl fadI_0.symm fadA_0.symm) hov hfd hF (fun I hN hov hF => k I (hN.cast rfl (by show _ = flB D B; unfold flB; rw [if_pos hc]) (by show _ = flG D B G; unfold flG; rw [if_pos hc]; exact cutz_min (by omega)) rfl rfl rfl) (hov.trans (congrArg iI (by unfold flO; omega))) hF)

set_option maxHeartbeats 1000000 in
theorem t_seasonGoes {d : Nat} {I : aFI} {L : aFL} {Q : aPo} {sh : Nat} {su : Option Nat} {D : Nat → Int → Int} {cd : Nat → Option (List Int)} {X : Lk} {more ov : Int} {dry thn : Nat} (hS : wfS D cd) (hR : rS I D cd X) (hX : lkOK X) (hdry : dry < 256) (hthn : thn < 256) (hm : 0 ≤ more ∧ more ≤ 999) (hov : I 157 63 = iI ov) (hd : 4 ≤ d) (k : ∀ (I2 : aFI) (L2 : aFL), rX I2 202 (seaY D cd X (X.2.1 + sumB (D 3) dry (D 1 0).toNat + sumT more thn (D 1 0).toNat) (X.2.2.1 + sumB (D 4) dry (D 1 0).toNat)) → I2 157 63 = iI (ov + flO D (X.2.1 + sumB (D 3) dry (D 1 0).toNat + sumT more thn (D 1 0).toNat)) → frG PT I I2 → frG LK L L2 → Q none I2 L2 (aR sh su)) : aWp none d 175 0 [.ref 157, .int (iI (dry : Int)), .int (iI (thn : Int)), .int (iI more), .null, .null, .null, .null] [] I L (aR sh su) Q := by
  obtain ⟨s, b, g, w, ink, age⟩ := X
  have hx1 := hX.1
  have hx2 := hX.2.1
  have hx3 := hX.2.2.1
  have hx4 := hX.2.2.2.1
  have hx5 := hX.2.2.2.2
  have hdd := hS.n
  simp only at hx1 hx2 hx3 hx4 hx5
  have hs3 := sumB_rg (f := D 3) (dry := dry) (m := (D 1 0).toNat) (fun j z1 z2 => (hS.br z1 (by omega)).1) (D 1 0).toNat (by omega)
  have hs4 := sumB_rg (f := D 4) (dry := dry) (m := (D 1 0).toNat) (fun j z1 z2 => (hS.br z1 (by omega)).2) (D 1 0).toNat (by omega)
  have hs5 := sumT_rg (t := thn) hm (D 1 0).toNat
  refine z_push c_175_0 ?_
  refine w_istore c_175_1 (Nat.le_of_ble_eq_true rfl) rfl ?_
  refine t_season_1 hS hR.1 hx1 hx2 hx3 hx4 hx5 hd _ 0 I L (Nat.lt_succ_self _) (by omega) (by omega) hR.2 rfl (fun j z1 z2 => (by exfalso; omega)) frG.rf frG.rf (fun I L hN hov2 hfd hF hG => ?_)
  have hov := hov2.trans hov
  have hW := hR.1.pt hF
  refine w_aload c_175_68 rfl ?_
  refine w_getR c_175_69 sp_157 (by decide) rfl pr_157_58 ?_
  refine z_push c_175_72 ?_
  refine z_iaload c_175_73 sp_202 (by omega) (by first | decide | omega) hN.2.1 ?_
  refine w_istore c_175_74 (Nat.le_of_ble_eq_true rfl) rfl ?_
  refine w_aload c_175_76 rfl ?_
  refine w_getR c_175_77 sp_157 (by decide) rfl pr_157_58 ?_
  refine z_push c_175_80 ?_
  refine z_iaload c_175_81 sp_202 (by omega) (by first | decide | omega) hN.2.2.1 ?_
  refine z_i2l c_175_82 (by first | exact aRg_of _ | (unfold aRg; omega)) ?_
  refine w_lstore c_175_83 (Nat.le_of_ble_eq_true rfl) rfl ?_
  refine z_push c_175_85 ?_
  refine w_istore c_175_86 (Nat.le_of_ble_eq_true rfl) rfl ?_
  have hA := t_season_2 (d := d) (Q := Q) (sh := sh) (su := su) (b := b) (g := g) (more := more) (I := I) (L := L) hS hW hdry hthn (by omega) _ 0 (Nat.lt_succ_self _) (by omega) (by omega)
  simp only [show (0 : Int).toNat = 0 from rfl, sumB, Int.add_zero] at hA
  refine hA ?_
  clear hA
  refine z_push c_175_151 ?_
  refine w_istore c_175_152 (Nat.le_of_ble_eq_true rfl) rfl ?_
  have hA := t_season_3 (d := d) (Q := Q) (sh := sh) (su := su) (b := b + sumB (D 3) dry (D 1 0).toNat) (g := g + sumB (D 4) dry (D 1 0).toNat) (dry := dry) (more := more) (I := I) (L := L) hS hW hdry hthn (by omega) _ 0 (Nat.lt_succ_self _) (by omega) (by omega)
  simp only [show (0 : Int).toNat = 0 from rfl, sumT, Int.add_zero] at hA
  refine hA ?_
  exact t_season_5 hS hR.1 hx1 hx4 hx5 (by omega) (by omega) hN hov hfd hF hd (fun I2 h1 h2 h3 => k I2 L h1 h2 h3 hG)

theorem seaY_0 {D : Nat → Int → Int} {cd : Nat → Option (List Int)} {X : Lk} {dry : Nat} {e : Int} (h : e = 0) : seaY D cd X (X.2.1 + sumB (D 3) dry (D 1 0).toNat + e) (X.2.2.1 + sumB (D 4) dry (D 1 0).toNat) = seaX D cd dry X := by subst h; rw [Int.add_zero]; rfl
theorem t_seasonGoes0 {d : Nat} {I : aFI} {L : aFL} {Q : aPo} {sh : Nat} {su : Option Nat} {D : Nat → Int → Int} {cd : Nat → Option (List Int)} {X : Lk} {ov z : Int} {dry : Nat} (hS : wfS D cd) (hR : rS I D cd X) (hX : lkOK X) (hdry : dry < 256) (hz : z = 0) (hov : I 157 63 = iI ov) (hd : 4 ≤ d) (k : ∀ (I2 : aFI) (L2 : aFL), rS I2 D cd (seaX D cd dry X) → I2 157 63 = iI (ov + seaO D dry X) → frG PT I I2 → frG LK L L2 → Q none I2 L2 (aR sh su)) : aWp none d 175 0 [.ref 157, .int (iI (dry : Int)), .int (iI z), .int (iI z), .null, .null, .null, .null] [] I L (aR sh su) Q := by
  subst hz
  have h := t_seasonGoes (d := d) (Q := Q) (sh := sh) (su := su) (L := L) (more := 0) (thn := 0) hS hR hX hdry (by omega) (by omega) hov hd
  refine h (fun I2 L2 h1 h2 h3 h4 => ?_)
  rw [seaY_0 (sumT_0 _)] at h1
  rw [sumT_0, Int.add_zero] at h2
  exact k I2 L2 ⟨hR.1.pt h3, h1⟩ h2 h3 h4
