/-! the class: a season passes (p58.py) -/
theorem lk42b {q : Nat} (h : aLk0 q) : q + 2 < 42 ∨ 42 < q := by
  rcases h with rfl | rfl | rfl | ⟨k, hk, rfl⟩ <;> omega
theorem flB_rg {D : Nat → Int → Int} {cd : Nat → Option (List Int)} {b : Int} (hS : wfS D cd) (hb : 0 ≤ b ∧ b ≤ 60000) : 0 ≤ flB D b ∧ flB D b ≤ D 0 1 := by
  have hh := hS.h
  have e : ∃ x : Int, x = (if D 0 1 < b then D 0 1 else b) := ⟨_, rfl⟩
  obtain ⟨x, hx⟩ := e
  have hx2 : 0 ≤ x ∧ x ≤ D 0 1 := by rw [hx]; split <;> omega
  unfold flB; rw [← hx]
  have h1 := mul_rg (a := x) (b := D 0 14) (A := x) (B := 100) (by omega) (by omega)
  omega
theorem flG_rg {D : Nat → Int → Int} {cd : Nat → Option (List Int)} {b g : Int} (hS : wfS D cd) (hb : 0 ≤ b ∧ b ≤ 60000) (hg : 0 ≤ g) : 0 ≤ flG D b g ∧ flG D b g ≤ 9999 := by
  have hh := hS.h
  unfold flG
  split
  · have h1 : 0 ≤ g * D 0 1 / b := Int.ediv_nonneg (Int.mul_nonneg hg hh.1.1) hb.1
    omega
  · omega
section FD
variable {D : Nat → Int → Int} {cd : Nat → Option (List Int)} {s : Int} {w : Nat} {ink age ink2 age2 : Int → Int} {i n : Int}
theorem fdZ_same (hi : ink i = ink2 i) (ha : age i = age2 i) (hS : wfS D cd) : fdZ D cd s ink age i = fdZ D cd s ink2 age2 i := by
  unfold fdZ
  split
  · rfl
  · rename_i l hl
    rw [hi, val_fad (v := 0) (v2 := 0) (b2 := 0) (g2 := 0) (dr2 := 0) (ink2 := ink2) (age2 := age2) (hS.c (by omega) hl).2 hi ha]
theorem fdZ_rg (h : 0 ≤ ink i) : 0 ≤ fdZ D cd s ink age i ∧ fdZ D cd s ink age i ≤ ink i := by
  unfold fdZ; split
  · omega
  · exact cutz_in h
theorem fadI_at : fadI D cd s w ink age i i = ink i := if_neg (by omega)
theorem fadA_at : fadA w age i i = age i := if_neg (by omega)
theorem fadI_0 : fadI D cd s w ink age 0 = ink := by funext j; exact if_neg (by omega)
theorem fadA_0 : fadA w age 0 = age := by funext j; exact if_neg (by omega)
theorem fadI_s (h0 : 0 ≤ i) (h : tb w i = true) : fadI D cd s w ink age (i + 1) = cU (fadI D cd s w ink age i) i (ink i - fdZ D cd s ink age i) := by
  funext j; unfold fadI cU
  by_cases hj : j = i
  · subst hj; rw [if_pos ⟨by omega, h⟩, if_pos rfl]
  · rw [if_neg (c := j = i) hj]
    show _ = (if (0 ≤ j ∧ j < i) ∧ tb w j = true then _ else _)
    by_cases hc : (0 ≤ j ∧ j < i) ∧ tb w j = true
    · rw [if_pos hc, if_pos ⟨by omega, hc.2⟩]
    · rw [if_neg hc, if_neg (fun z => hc ⟨by omega, z.2⟩)]
theorem fadI_n (h : tb w i = false) : fadI D cd s w ink age (i + 1) = fadI D cd s w ink age i := by
  funext j; unfold fadI
  by_cases hj : j = i
  · subst hj; rw [if_neg (fun z => by rw [h] at z; cases z.2), if_neg (by omega)]
  · by_cases hc : (0 ≤ j ∧ j < i) ∧ tb w j = true
    · rw [if_pos hc, if_pos ⟨by omega, hc.2⟩]
    · rw [if_neg hc, if_neg (fun z => hc ⟨by omega, z.2⟩)]
theorem fadA_s (h0 : 0 ≤ i) (h : tb w i = true) : fadA w age (i + 1) = cU (fadA w age i) i (min 99 (age i + 1)) := by
  funext j; unfold fadA cU
  by_cases hj : j = i
  · subst hj; rw [if_pos ⟨by omega, h⟩, if_pos rfl]
  · rw [if_neg (c := j = i) hj]
    show _ = (if (0 ≤ j ∧ j < i) ∧ tb w j = true then _ else _)
    by_cases hc : (0 ≤ j ∧ j < i) ∧ tb w j = true
    · rw [if_pos hc, if_pos ⟨by omega, hc.2⟩]
    · rw [if_neg hc, if_neg (fun z => hc ⟨by omega, z.2⟩)]
theorem fadA_n (h : tb w i = false) : fadA w age (i + 1) = fadA w age i := by
  funext j; unfold fadA
  by_cases hj : j = i
  · subst hj; rw [if_neg (fun z => by rw [h] at z; cases z.2), if_neg (by omega)]
  · by_cases hc : (0 ≤ j ∧ j < i) ∧ tb w j = true
    · rw [if_pos hc, if_pos ⟨by omega, hc.2⟩]
    · rw [if_neg hc, if_neg (fun z => hc ⟨by omega, z.2⟩)]
theorem fadI_rg {j : Int} (h : 0 ≤ ink j ∧ ink j ≤ 9999) : 0 ≤ fadI D cd s w ink age n j ∧ fadI D cd s w ink age n j ≤ 9999 := by
  have := fdZ_rg (D := D) (cd := cd) (s := s) (age := age) h.1
  unfold fadI; split <;> omega
theorem fadA_rg {j : Int} (h : 0 ≤ age j ∧ age j ≤ 99) : 0 ≤ fadA w age n j ∧ fadA w age n j ≤ 99 := by
  unfold fadA; split <;> omega
end FD
abbrev lkX (I : aFI) (q : Nat) (kc : Int) (X : Lk) : Prop := isLk I q X.1 X.2.1 X.2.2.1 X.2.2.2.1 kc X.2.2.2.2.1 X.2.2.2.2.2
theorem seaX_ok {D : Nat → Int → Int} {cd : Nat → Option (List Int)} {dry : Nat} {X : Lk} (hS : wfS D cd) (hX : lkOK X) (hs : X.1 ≤ 999) : lkOK (seaX D cd dry X) := by
  obtain ⟨s, b, g, w, ink, age⟩ := X
  obtain ⟨h1, h2, h3, h4, h5⟩ := hX
  simp only at h1 h2 h3 h4 h5 hs
  have hdd := hS.n
  have hhh := hS.h
  have hs3 := sumB_rg (f := D 3) (dry := dry) (m := (D 1 0).toNat) (fun j z1 z2 => (hS.br z1 (by omega)).1) (D 1 0).toNat (by omega)
  have hs4 := sumB_rg (f := D 4) (dry := dry) (m := (D 1 0).toNat) (fun j z1 z2 => (hS.br z1 (by omega)).2) (D 1 0).toNat (by omega)
  have hb := flB_rg (b := b + sumB (D 3) dry (D 1 0).toNat) hS (by omega)
  have hg := flG_rg (b := b + sumB (D 3) dry (D 1 0).toNat) (g := g + sumB (D 4) dry (D 1 0).toNat) hS (by omega) (by omega)
  refine ⟨by show 0 ≤ s + 1 ∧ s + 1 ≤ 1000; omega, ⟨hb.1, Int.le_trans hb.2 (by omega)⟩, ⟨hg.1, Int.le_trans hg.2 (by omega)⟩, h4, fun j z1 z2 => ⟨fadI_rg (h5 j z1 z2).1, fadA_rg (h5 j z1 z2).2⟩⟩
set_option maxHeartbeats 1000000 in
theorem tc_passSeason_1 {d : Nat} {I0 : aFI} {L : aFL} {Q : aPo} {sh : Nat} {su : Option Nat} {D : Nat → Int → Int} {cd : Nat → Option (List Int)} {s b g kc ov : Int} {w : Nat} {ink age : Int → Int} {q dry : Nat} (hsh : sh = 8 ∨ sh = 22) (hl : aLk0 q) (hS : wfS D cd) (hW0 : cW I0 sh D cd) (hs : 0 ≤ s ∧ s ≤ 1000) (hb : 0 ≤ b ∧ b ≤ 30000) (hg : 0 ≤ g ∧ g ≤ 30000) (hw : w < 256) (hx : ∀ j : Int, 0 ≤ j → j < 8 → (0 ≤ ink j ∧ ink j ≤ 9999) ∧ (0 ≤ age j ∧ age j ≤ 99)) (hdr : -1000000 ≤ (I0 42 1).toInt ∧ (I0 42 1).toInt ≤ 1000000) (hd : 7 ≤ d) : ∀ (n : Nat) (i : Int) (I : aFI), (D 1 2 - i).toNat < n → (0 ≤ i) → (i ≤ D 1 2) → (isLk I q s b g w kc (fadI D cd s w ink age i) (fadA w age i)) → (frP (PL q) I0 I) → (∀ I : aFI, isLk I q (s + 1) b g w kc (fadI D cd s w ink age (D 1 2)) (fadA w age (D 1 2)) → frP (PL q) I0 I → Q (some (.int (iI ov))) I L (aR sh su)) → aWp none d 52 10 [.ref 42, .ref q, .int (iI (dry : Int)), .int (iI ov), .int (iI i)] [] I L (aR sh su) Q := by
  intro n
  induction n with
  | zero => intro i I h; omega
  | succ n ih =>
    intro i I hn h0 h1 hL hF k
    have hq := aLk_all hl
    have hdd := hS.n
    have hW := hW0.fL hsh hl hF
    have hX : lkOK (s, b, g, w, (fadI D cd s w ink age i), (fadA w age i)) := ⟨hs, hb, hg, hw, fun j z1 z2 => ⟨fadI_rg (hx j z1 z2).1, fadA_rg (hx j z1 z2).2⟩⟩
    have hxi := fun h : i < 8 => hx i h0 h
    have hdr2 : -1000000 ≤ (I 42 1).toInt ∧ (I 42 1).toInt ≤ 1000000 := by rw [hF 42 1 (by show ¬ (42 = 43 ∨ _); have := lk42b hl; omega)]; exact hdr
    have eI : (fadI D cd s w ink age i) i = ink i := fadI_at
    have eA : (fadA w age i) i = age i := fadA_at
    refine w_iload c_52_10 rfl ?_
    refine w_aload c_52_12 rfl ?_
    refine w_getR c_52_13 sp_42 (by decide) rfl pr_42_0 ?_
    refine w_getR c_52_16 (sps_0 hsh) (by decide) rfl (prs_4 hsh) ?_
    refine z_push c_52_19 ?_
    refine z_iaload c_52_20 (sps_1 hsh) (by omega) (by first | decide | omega) (hW.1.a 1 (by omega) (by omega)) ?_
    refine z_ic_ge c_52_21 (by first | exact aRg_of _ | (unfold aRg; omega)) (by first | exact aRg_of _ | (unfold aRg; omega)) (fun h1_ => ?_) (fun h1_ => ?_)
    · refine w_aload c_52_77 rfl ?_
      refine w_dup c_52_78 rfl ?_
      refine z_getZ c_52_79 hq.1 (by decide) rfl hL.1 ?_
      refine z_push c_52_82 ?_
      refine z_iadd c_52_83 ?_
      refine z_putZ c_52_84 hq.1 (by decide) rfl ?_
      refine up_k hF (by show _ = 43 ∨ _; omega) (fun I hI hF => ?_)
      replace hL := hI ▸ hL.ps
      have hW := hW0.fL hsh hl hF
      refine w_iload c_52_87 rfl ?_
      refine z_ret c_52_88 rfl ?_
      have e9 : i = D 1 2 := by omega
      subst e9
      exact k I hL hF
    · refine w_aload c_52_24 rfl ?_
      refine w_iload c_52_25 rfl ?_
      refine wc_8 c_52_27 hq.1 (Nat.le_of_ble_eq_true rfl) (by omega) ?_
      refine tc_isWritten hl hL hw ⟨h0, by omega⟩ ?_
      refine r_i ?_
      refine b_if_eq c_52_30 (fun h2_ => ?_) (fun h2_ => ?_)
      · refine z_iinc c_52_71 rfl rfl ?_
        refine w_goto c_52_74 ?_
        have ht2 : tb w i = false := by assumption
        exact ih (i + 1) I (by omega) (by omega) (by omega) (hL.cast rfl rfl rfl rfl rfl (by rw [(fadI_n ht2)]; try (congr 1; show (fadI D cd s w ink age i) i - fdZ D cd s (fadI D cd s w ink age i) (fadA w age i) i = _; rw [efd, eI])) (by rw [(fadA_n ht2)]; try (congr 1; rw [eA]))) hF k
      · refine w_aload c_52_33 rfl ?_
        refine w_getR c_52_34 hq.1 (by decide) rfl (hq.2.2.2 _ _).1 ?_
        refine w_iload c_52_37 rfl ?_
        refine w_dup2 c_52_39 rfl rfl ?_
        refine z_iaload c_52_40 hq.2.1 (by omega) (by first | decide | omega) (hL.2.2.2.2.2 _ (by omega) (by omega)).1 ?_
        refine w_aload c_52_41 rfl ?_
        refine w_aload c_52_42 rfl ?_
        refine w_iload c_52_43 rfl ?_
        refine wc_54 c_52_45 sp_42 (Nat.le_of_ble_eq_true rfl) (by omega) ?_
        refine tc_fadedBy (X := (s, b, g, w, (fadI D cd s w ink age i), (fadA w age i))) hsh hl hS hW hL hX ⟨h0, by omega⟩ hdr2 (by omega) (fun I hf => ?_)
        replace hF := hF.tr (frP.l hf)
        have hL := hL.f43 hl hf
        have hW := hW.f43 hsh hf
        have hxi := hxi (by omega)
        have efd : fdZ D cd s (fadI D cd s w ink age i) (fadA w age i) i = fdZ D cd s ink age i := fdZ_same eI eA hS
        have hfr := fdZ_rg (D := D) (cd := cd) (s := s) (age := age) hxi.1.1
        refine r_i ?_
        refine z_isub c_52_48 ?_
        refine z_iastore c_52_49 hq.2.1 (by omega) (by decide) ?_
        refine up_k hF (by show _ = 43 ∨ _; omega) (fun I hI hF => ?_)
        replace hL := hI ▸ hL.pi h0
        have hW := hW0.fL hsh hl hF
        refine w_aload c_52_50 rfl ?_
        refine w_getR c_52_51 hq.1 (by decide) rfl (hq.2.2.2 _ _).2 ?_
        refine w_iload c_52_54 rfl ?_
        refine z_push c_52_56 ?_
        refine w_aload c_52_58 rfl ?_
        refine w_getR c_52_59 hq.1 (by decide) rfl (hq.2.2.2 _ _).2 ?_
        refine w_iload c_52_62 rfl ?_
        refine z_iaload c_52_64 hq.2.2.1 (by omega) (by first | decide | omega) (hL.2.2.2.2.2 _ (by omega) (by omega)).2 ?_
        refine z_push c_52_65 ?_
        refine z_iadd c_52_66 ?_
        refine z_mmin c_52_67 (by omega) (Nat.le_of_ble_eq_true rfl) (by first | exact aRg_of _ | (unfold aRg; omega)) (by first | exact aRg_of _ | (unfold aRg; omega)) ?_
        refine z_iastore c_52_70 hq.2.2.1 (by omega) (by decide) ?_
        refine up_k hF (by show _ = 43 ∨ _; omega) (fun I hI hF => ?_)
        replace hL := hI ▸ hL.pa h0
        have hW := hW0.fL hsh hl hF
        refine z_iinc c_52_71 rfl rfl ?_
        refine w_goto c_52_74 ?_
        have ht2 : tb w i = true := by assumption
        exact ih (i + 1) I (by omega) (by omega) (by omega) (hL.cast rfl rfl rfl rfl rfl (by rw [(fadI_s h0 ht2)]; try (congr 1; show (fadI D cd s w ink age i) i - fdZ D cd s (fadI D cd s w ink age i) (fadA w age i) i = _; rw [efd, eI])) (by rw [(fadA_s h0 ht2)]; try (congr 1; rw [eA]))) hF k

set_option maxHeartbeats 1000000 in
theorem tc_passSeason {d : Nat} {I0 : aFI} {L : aFL} {Q : aPo} {sh : Nat} {su : Option Nat} {D : Nat → Int → Int} {cd : Nat → Option (List Int)} {kc : Int} {X : Lk} {q dry : Nat} (hsh : sh = 8 ∨ sh = 22) (hl : aLk0 q) (hS : wfS D cd) (hW : cW I0 sh D cd) (hL : lkX I0 q kc X) (hX : lkOK X) (hdry : dry < 256) (hdr : -1000000 ≤ (I0 42 1).toInt ∧ (I0 42 1).toInt ≤ 1000000) (hd : 7 ≤ d) (k : ∀ I : aFI, lkX I q kc (seaX D cd dry X) → frP (PL q) I0 I → Q (some (.int (iI (seaO D dry X)))) I L (aR sh su)) : aWp none d 52 0 [.ref 42, .ref q, .int (iI (dry : Int)), .null, .null] [] I0 L (aR sh su) Q := by
  obtain ⟨s, b, g, w, ink, age⟩ := X
  have hq := aLk_all hl
  have hx1 := hX.1
  have hx2 := hX.2.1
  have hx3 := hX.2.2.1
  have hx4 := hX.2.2.2.1
  have hx5 := hX.2.2.2.2
  have hdd := hS.n
  have hhh := hS.h
  simp only at hx1 hx2 hx3 hx4 hx5
  have hs3 := sumB_rg (f := D 3) (dry := dry) (m := (D 1 0).toNat) (fun j z1 z2 => (hS.br z1 (by omega)).1) (D 1 0).toNat (by omega)
  have hs4 := sumB_rg (f := D 4) (dry := dry) (m := (D 1 0).toNat) (fun j z1 z2 => (hS.br z1 (by omega)).2) (D 1 0).toNat (by omega)
  have hb := flB_rg (b := b + sumB (D 3) dry (D 1 0).toNat) hS (by omega)
  have hg := flG_rg (b := b + sumB (D 3) dry (D 1 0).toNat) (g := g + sumB (D 4) dry (D 1 0).toNat) hS (by omega) (by omega)
  refine w_aload c_52_0 rfl ?_
  refine w_aload c_52_1 rfl ?_
  refine w_iload c_52_2 rfl ?_
  refine wc_53 c_52_3 sp_42 (Nat.le_of_ble_eq_true rfl) (by omega) ?_
  refine tc_fill hsh hl hS hW hx2 hx3 hdry hL (by omega) (fun I hL hF => ?_)
  refine r_i ?_
  refine w_istore c_52_6 (Nat.le_of_ble_eq_true rfl) rfl ?_
  refine z_push c_52_7 ?_
  refine w_istore c_52_8 (Nat.le_of_ble_eq_true rfl) rfl ?_
  exact tc_passSeason_1 hsh hl hS hW hx1 (by omega) (by omega) hx4 hx5 hdr hd _ 0 I (Nat.lt_succ_self _) (by omega) (by omega) (hL.cast rfl rfl rfl rfl rfl fadI_0.symm fadA_0.symm) hF k

