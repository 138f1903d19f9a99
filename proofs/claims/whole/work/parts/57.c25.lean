/-! the class: a season (p57.py) -/
abbrev PL (q : Nat) : Nat → Prop := fun p => p = 43 ∨ (q ≤ p ∧ p ≤ q + 2)
theorem lk36 {q : Nat} (h : aLk0 q) : 36 ≤ q := by rcases h with rfl | rfl | rfl | ⟨k, hk, rfl⟩ <;> omega
theorem cW.fL {I I2 : aFI} {sh q : Nat} {D : Nat → Int → Int} {cd : Nat → Option (List Int)} (h : cW I sh D cd) (hsh : sh = 8 ∨ sh = 22) (hl : aLk0 q) (hf : frP (PL q) I I2) : cW I2 sh D cd := h.fr (fun p k h1 h2 => hf p k (by show ¬ (p = 43 ∨ (q ≤ p ∧ p ≤ q + 2)); have := lk36 hl; omega))
theorem frP.l {q : Nat} {I I2 : aFI} (h : frP P43 I I2) : frP (PL q) I I2 := h.mono (fun p hp => Or.inl hp)
section LP
variable {sc : aSc} {d y pc : Nat} {ls st : List Value} {L : aFL} {R : aFR} {Q : aPo} {P : Nat → Prop} {I0 I : aFI} {q : Nat} {s b g w kc v : Int} {ink age : Int → Int}
theorem up_ne {q2 k2 k : Nat} {x : Int32} (h : ¬ (q2 = q ∧ k2 = k)) : aUp I q k x q2 k2 = I q2 k2 := by unfold aUp; rw [if_neg h]
theorem up_eq {k : Nat} {x : Int32} : aUp I q k x q k = x := by unfold aUp; rw [if_pos ⟨rfl, rfl⟩]
theorem isLk.ps (h : isLk I q s b g w kc ink age) : isLk (aUp I q 0 (iI v)) q v b g w kc ink age :=
  ⟨up_eq, (up_ne (by omega)).trans h.2.1, (up_ne (by omega)).trans h.2.2.1, (up_ne (by omega)).trans h.2.2.2.1, (up_ne (by omega)).trans h.2.2.2.2.1, fun j h0 h1 => ⟨(up_ne (by omega)).trans (h.2.2.2.2.2 j h0 h1).1, (up_ne (by omega)).trans (h.2.2.2.2.2 j h0 h1).2⟩⟩
theorem isLk.pb (h : isLk I q s b g w kc ink age) : isLk (aUp I q 1 (iI v)) q s v g w kc ink age :=
  ⟨(up_ne (by omega)).trans h.1, up_eq, (up_ne (by omega)).trans h.2.2.1, (up_ne (by omega)).trans h.2.2.2.1, (up_ne (by omega)).trans h.2.2.2.2.1, fun j h0 h1 => ⟨(up_ne (by omega)).trans (h.2.2.2.2.2 j h0 h1).1, (up_ne (by omega)).trans (h.2.2.2.2.2 j h0 h1).2⟩⟩
theorem isLk.pg (h : isLk I q s b g w kc ink age) : isLk (aUp I q 2 (iI v)) q s b v w kc ink age :=
  ⟨(up_ne (by omega)).trans h.1, (up_ne (by omega)).trans h.2.1, up_eq, (up_ne (by omega)).trans h.2.2.2.1, (up_ne (by omega)).trans h.2.2.2.2.1, fun j h0 h1 => ⟨(up_ne (by omega)).trans (h.2.2.2.2.2 j h0 h1).1, (up_ne (by omega)).trans (h.2.2.2.2.2 j h0 h1).2⟩⟩
theorem isLk.pw (h : isLk I q s b g w kc ink age) : isLk (aUp I q 3 (iI v)) q s b g v kc ink age :=
  ⟨(up_ne (by omega)).trans h.1, (up_ne (by omega)).trans h.2.1, (up_ne (by omega)).trans h.2.2.1, up_eq, (up_ne (by omega)).trans h.2.2.2.2.1, fun j h0 h1 => ⟨(up_ne (by omega)).trans (h.2.2.2.2.2 j h0 h1).1, (up_ne (by omega)).trans (h.2.2.2.2.2 j h0 h1).2⟩⟩
theorem isLk.pk (h : isLk I q s b g w kc ink age) : isLk (aUp I q 4 (iI v)) q s b g w v ink age :=
  ⟨(up_ne (by omega)).trans h.1, (up_ne (by omega)).trans h.2.1, (up_ne (by omega)).trans h.2.2.1, (up_ne (by omega)).trans h.2.2.2.1, up_eq, fun j h0 h1 => ⟨(up_ne (by omega)).trans (h.2.2.2.2.2 j h0 h1).1, (up_ne (by omega)).trans (h.2.2.2.2.2 j h0 h1).2⟩⟩
theorem cU_eq {A : Int → Int} {j x : Int} : cU A j x j = x := if_pos rfl
theorem cU_ne {A : Int → Int} {j x i : Int} (h : ¬ i = j) : cU A j x i = A i := if_neg h
theorem isLk.pi {i : Int} (h : isLk I q s b g w kc ink age) (hi : 0 ≤ i) : isLk (aUp I (q + 1) i.toNat (iI v)) q s b g w kc (cU ink i v) age :=
  ⟨(up_ne (by omega)).trans h.1, (up_ne (by omega)).trans h.2.1, (up_ne (by omega)).trans h.2.2.1, (up_ne (by omega)).trans h.2.2.2.1, (up_ne (by omega)).trans h.2.2.2.2.1, fun j h0 h1 => by
    refine ⟨?_, (up_ne (by omega)).trans (h.2.2.2.2.2 j h0 h1).2⟩
    by_cases hj : j = i
    · subst hj; rw [cU_eq]; exact up_eq
    · rw [cU_ne hj]; exact (up_ne (by omega)).trans (h.2.2.2.2.2 j h0 h1).1⟩
theorem isLk.pa {i : Int} (h : isLk I q s b g w kc ink age) (hi : 0 ≤ i) : isLk (aUp I (q + 2) i.toNat (iI v)) q s b g w kc ink (cU age i v) :=
  ⟨(up_ne (by omega)).trans h.1, (up_ne (by omega)).trans h.2.1, (up_ne (by omega)).trans h.2.2.1, (up_ne (by omega)).trans h.2.2.2.1, (up_ne (by omega)).trans h.2.2.2.2.1, fun j h0 h1 => by
    refine ⟨(up_ne (by omega)).trans (h.2.2.2.2.2 j h0 h1).1, ?_⟩
    by_cases hj : j = i
    · subst hj; rw [cU_eq]; exact up_eq
    · rw [cU_ne hj]; exact (up_ne (by omega)).trans (h.2.2.2.2.2 j h0 h1).2⟩
theorem isLk.cast {s2 b2 g2 w2 kc2 : Int} {ink2 age2 : Int → Int} (h : isLk I q s b g w kc ink age) (h1 : s = s2) (h2 : b = b2) (h3 : g = g2) (h4 : w = w2) (h5 : kc = kc2) (h6 : ink = ink2) (h7 : age = age2) : isLk I q s2 b2 g2 w2 kc2 ink2 age2 := by subst h1; subst h2; subst h3; subst h4; subst h5; subst h6; subst h7; exact h
/-- a write's goal: the cells behind it get a name -/
theorem up_k {q2 k2 : Nat} {x : Int32} (hF : frP P I0 I) (hp : P q2) (k : ∀ I2 : aFI, I2 = aUp I q2 k2 x → frP P I0 I2 → aWp sc d y pc ls st I2 L R Q) : aWp sc d y pc ls st (aUp I q2 k2 x) L R Q := k _ rfl (hF.up hp)
end LP
theorem mul_rg {a b A B : Int} (h : 0 ≤ a ∧ a ≤ A) (h2 : 0 ≤ b ∧ b ≤ B) : 0 ≤ a * b ∧ a * b ≤ A * B := ⟨Int.mul_nonneg h.1 h2.1, Int.mul_le_mul h.2 h2.2 h2.1 (by omega)⟩
theorem sumB_rg {f : Int → Int} {dry m : Nat} (hf : ∀ j : Int, 0 ≤ j → j < m → 0 ≤ f j ∧ f j ≤ 999) : ∀ n : Nat, n ≤ m → 0 ≤ sumB f dry n ∧ sumB f dry n ≤ 999 * n
  | 0, _ => by simp [sumB]
  | n + 1, h => by
    have h1 := sumB_rg (dry := dry) hf n (by omega)
    have h2 := hf n (by omega) (by omega)
    unfold sumB
    split <;> omega
set_option maxHeartbeats 1000000 in
theorem tc_fill_1 {d : Nat} {I0 : aFI} {L : aFL} {Q : aPo} {sh : Nat} {su : Option Nat} {D : Nat → Int → Int} {cd : Nat → Option (List Int)} {s b g w kc : Int} {ink age : Int → Int} {q dry : Nat} (hsh : sh = 8 ∨ sh = 22) (hl : aLk0 q) (hS : wfS D cd) (hW0 : cW I0 sh D cd) (hb : 0 ≤ b ∧ b ≤ 30000) (hg : 0 ≤ g ∧ g ≤ 30000) (hdry : dry < 256) : ∀ (n : Nat) (i : Int) (I : aFI), (D 1 0 - i).toNat < n → (0 ≤ i) → (i ≤ D 1 0) → (isLk I q s (b + sumB (D 3) dry i.toNat) (g + sumB (D 4) dry i.toNat) w kc ink age) → (frP (PL q) I0 I) → (∀ I : aFI, isLk I q s (b + sumB (D 3) dry (D 1 0).toNat) (g + sumB (D 4) dry (D 1 0).toNat) w kc ink age → frP (PL q) I0 I → aWp none d 53 65 [.ref 42, .ref q, .int (iI (dry : Int)), .int (iI (D 1 0))] [] I L (aR sh su) Q) → aWp none d 53 2 [.ref 42, .ref q, .int (iI (dry : Int)), .int (iI i)] [] I L (aR sh su) Q := by
  intro n
  induction n with
  | zero => intro i I h; omega
  | succ n ih =>
    intro i I hn h0 h1 hL hF k
    have hq := aLk_all hl
    have hdd := hS.n
    have hW := hW0.fL hsh hl hF
    have hit : ((i.toNat : Nat) : Int) = i := Int.toNat_of_nonneg h0
    have hst : (i + 1).toNat = i.toNat + 1 := by omega
    have ht := tb_one (w := dry) (de := i)
    have hs3 := sumB_rg (f := D 3) (dry := dry) (m := (D 1 0).toNat) (fun j z1 z2 => (hS.br z1 (by omega)).1) i.toNat (by omega)
    have hs4 := sumB_rg (f := D 4) (dry := dry) (m := (D 1 0).toNat) (fun j z1 z2 => (hS.br z1 (by omega)).2) i.toNat (by omega)
    have hbr := fun h : i < D 1 0 => hS.br h0 h
    have eB : sumB (D 3) dry (i + 1).toNat = sumB (D 3) dry i.toNat + (if tb dry i = true then 0 else D 3 i) := by rw [hst]; simp only [sumB, hit]; rfl
    have eG : sumB (D 4) dry (i + 1).toNat = sumB (D 4) dry i.toNat + (if tb dry i = true then 0 else D 4 i) := by rw [hst]; simp only [sumB, hit]; rfl
    refine w_iload c_53_2 rfl ?_
    refine w_aload c_53_3 rfl ?_
    refine w_getR c_53_4 sp_42 (by decide) rfl pr_42_0 ?_
    refine w_getR c_53_7 (sps_0 hsh) (by decide) rfl (prs_4 hsh) ?_
    refine z_push c_53_10 ?_
    refine z_iaload c_53_11 (sps_1 hsh) (by omega) (by first | decide | omega) (hW.1.a 1 (by omega) (by omega)) ?_
    refine z_ic_ge c_53_12 (by first | exact aRg_of _ | (unfold aRg; omega)) (by first | exact aRg_of _ | (unfold aRg; omega)) (fun h1_ => ?_) (fun h1_ => ?_)
    · have e9 : i = D 1 0 := by omega
      subst e9
      exact k I hL hF
    · refine w_iload c_53_15 rfl ?_
      refine w_iload c_53_16 rfl ?_
      refine w_ishr c_53_17 (shr1 hdry (by omega)) ?_
      refine z_push c_53_18 ?_
      refine w_iand c_53_19 tb_and ?_
      refine z_if_ne c_53_20 (by first | exact aRg_of _ | (unfold aRg; omega)) (fun h2_ => ?_) (fun h2_ => ?_)
      · refine z_iinc c_53_59 rfl rfl ?_
        refine w_goto c_53_62 ?_
        have ht2 : tb dry i = true := by rcases ht with ⟨z1, z2⟩ | ⟨z1, z2⟩ <;> first | exact z2 | (exfalso; omega)
        rw [ht2] at eB eG
        refine ih (i + 1) I (by omega) (by omega) (by omega) (hL.cast rfl (by rw [eB]; simp; try omega) (by rw [eG]; simp; try omega) rfl rfl rfl rfl) hF k
      · refine w_aload c_53_23 rfl ?_
        refine w_dup c_53_24 rfl ?_
        refine z_getZ c_53_25 hq.1 (by decide) rfl hL.2.1 ?_
        refine w_aload c_53_28 rfl ?_
        refine w_getR c_53_29 sp_42 (by decide) rfl pr_42_0 ?_
        refine w_getR c_53_32 (sps_0 hsh) (by decide) rfl (prs_6 hsh) ?_
        refine w_iload c_53_35 rfl ?_
        refine z_iaload c_53_36 (sps_3 hsh) (by omega) (by first | decide | omega) (hW.1.a 3 (by omega) (by omega)) ?_
        refine z_iadd c_53_37 ?_
        refine z_putZ c_53_38 hq.1 (by decide) rfl ?_
        refine up_k hF (by show _ = 43 ∨ _; omega) (fun I hI hF => ?_)
        replace hL := hI ▸ hL.pb
        have hW := hW0.fL hsh hl hF
        refine w_aload c_53_41 rfl ?_
        refine w_dup c_53_42 rfl ?_
        refine z_getZ c_53_43 hq.1 (by decide) rfl hL.2.2.1 ?_
        refine w_aload c_53_46 rfl ?_
        refine w_getR c_53_47 sp_42 (by decide) rfl pr_42_0 ?_
        refine w_getR c_53_50 (sps_0 hsh) (by decide) rfl (prs_7 hsh) ?_
        refine w_iload c_53_53 rfl ?_
        refine z_iaload c_53_54 (sps_4 hsh) (by omega) (by first | decide | omega) (hW.1.a 4 (by omega) (by omega)) ?_
        refine z_iadd c_53_55 ?_
        refine z_putZ c_53_56 hq.1 (by decide) rfl ?_
        refine up_k hF (by show _ = 43 ∨ _; omega) (fun I hI hF => ?_)
        replace hL := hI ▸ hL.pg
        have hW := hW0.fL hsh hl hF
        refine z_iinc c_53_59 rfl rfl ?_
        refine w_goto c_53_62 ?_
        have ht2 : tb dry i = false := by rcases ht with ⟨z1, z2⟩ | ⟨z1, z2⟩ <;> first | exact z2 | (exfalso; omega)
        rw [ht2] at eB eG
        refine ih (i + 1) I (by omega) (by omega) (by omega) (hL.cast rfl (by rw [eB]; simp; try omega) (by rw [eG]; simp; try omega) rfl rfl rfl rfl) hF k

set_option maxHeartbeats 1000000 in
theorem tc_fill {d : Nat} {I0 : aFI} {L : aFL} {Q : aPo} {sh : Nat} {su : Option Nat} {D : Nat → Int → Int} {cd : Nat → Option (List Int)} {s b g w kc : Int} {ink age : Int → Int} {q dry : Nat} (hsh : sh = 8 ∨ sh = 22) (hl : aLk0 q) (hS : wfS D cd) (hW0 : cW I0 sh D cd) (hb : 0 ≤ b ∧ b ≤ 30000) (hg : 0 ≤ g ∧ g ≤ 30000) (hdry : dry < 256) (hL : isLk I0 q s b g w kc ink age) (hd : 2 ≤ d) (k : ∀ I : aFI, isLk I q s (flB D (b + sumB (D 3) dry (D 1 0).toNat)) (flG D (b + sumB (D 3) dry (D 1 0).toNat) (g + sumB (D 4) dry (D 1 0).toNat)) w kc ink age → frP (PL q) I0 I → Q (some (.int (iI (flO D (b + sumB (D 3) dry (D 1 0).toNat))))) I L (aR sh su)) : aWp none d 53 0 [.ref 42, .ref q, .int (iI (dry : Int)), .null] [] I0 L (aR sh su) Q := by
  have hq := aLk_all hl
  have hdd := hS.n
  refine z_push c_53_0 ?_
  refine w_istore c_53_1 (Nat.le_of_ble_eq_true rfl) rfl ?_
  refine tc_fill_1 hsh hl hS hW0 hb hg hdry _ 0 I0 (Nat.lt_succ_self _) (by omega) (by omega) (hL.cast rfl (by simp [sumB]) (by simp [sumB]) rfl rfl rfl rfl) frP.rf (fun I hL hF => ?_)
  have hdd := hS.n
  have hhh := hS.h
  have hs3 := sumB_rg (f := D 3) (dry := dry) (m := (D 1 0).toNat) (fun j z1 z2 => (hS.br z1 (by omega)).1) (D 1 0).toNat (by omega)
  have hs4 := sumB_rg (f := D 4) (dry := dry) (m := (D 1 0).toNat) (fun j z1 z2 => (hS.br z1 (by omega)).2) (D 1 0).toNat (by omega)
  have hW := hW0.fL hsh hl hF
  have hm1 := mul_rg (a := g + sumB (D 4) dry (D 1 0).toNat) (b := D 0 1) (A := 40000) (B := 9999) (by omega) (by omega)
  have hd1 : 0 < b + sumB (D 3) dry (D 1 0).toNat → 0 ≤ (g + sumB (D 4) dry (D 1 0).toNat) * D 0 1 / (b + sumB (D 3) dry (D 1 0).toNat) ∧ (g + sumB (D 4) dry (D 1 0).toNat) * D 0 1 / (b + sumB (D 3) dry (D 1 0).toNat) ≤ (g + sumB (D 4) dry (D 1 0).toNat) * D 0 1 := fun h => ed_rg (by omega) h
  refine z_push c_53_65 ?_
  refine w_aload c_53_66 rfl ?_
  refine z_getZ c_53_67 hq.1 (by decide) rfl hL.2.1 ?_
  refine w_aload c_53_70 rfl ?_
  refine w_getR c_53_71 sp_42 (by decide) rfl pr_42_0 ?_
  refine z_getZ c_53_74 (sps_0 hsh) (by decide) rfl hW.1.2.1.1 ?_
  refine z_isub c_53_77 ?_
  refine z_mmax c_53_78 (by omega) (Nat.le_of_ble_eq_true rfl) (by first | exact aRg_of _ | (unfold aRg; omega)) (by first | exact aRg_of _ | (unfold aRg; omega)) ?_
  refine w_istore c_53_81 (Nat.le_of_ble_eq_true rfl) rfl ?_
  refine w_iload c_53_82 rfl ?_
  refine z_if_le c_53_83 (by first | exact aRg_of _ | (unfold aRg; omega)) (fun h1_ => ?_) (fun h1_ => ?_)
  · refine w_aload c_53_125 rfl ?_
    refine w_dup c_53_126 rfl ?_
    refine z_getZ c_53_127 hq.1 (by decide) rfl hL.2.1 ?_
    refine w_aload c_53_130 rfl ?_
    refine z_getZ c_53_131 hq.1 (by decide) rfl hL.2.1 ?_
    refine w_aload c_53_134 rfl ?_
    refine w_getR c_53_135 sp_42 (by decide) rfl pr_42_0 ?_
    refine z_getZ c_53_138 (sps_0 hsh) (by decide) rfl hW.1.2.1.2.2.2.1 ?_
    have hm2 := mul_rg (a := (b + sumB (D 3) dry (D 1 0).toNat)) (b := D 0 14) (A := 60000) (B := 100) (by omega) (by omega)
    refine z_imul c_53_141 ?_
    refine z_push c_53_142 ?_
    have hd2 := ed_rg (a := (b + sumB (D 3) dry (D 1 0).toNat) * D 0 14) (b := 100) (by omega) (by omega)
    refine z_idiv c_53_144 (by omega) (by omega) ?_
    refine z_isub c_53_145 ?_
    refine z_putZ c_53_146 hq.1 (by decide) rfl ?_
    refine up_k hF (by show _ = 43 ∨ _; omega) (fun I hI hF => ?_)
    replace hL := hI ▸ hL.pb
    have hW := hW0.fL hsh hl hF
    refine w_aload c_53_149 rfl ?_
    refine z_push c_53_150 ?_
    refine w_aload c_53_153 rfl ?_
    refine z_getZ c_53_154 hq.1 (by decide) rfl hL.2.2.1 ?_
    refine z_mmin c_53_157 (by omega) (Nat.le_of_ble_eq_true rfl) (by first | exact aRg_of _ | (unfold aRg; omega)) (by first | exact aRg_of _ | (unfold aRg; omega)) ?_
    refine z_putZ c_53_160 hq.1 (by decide) rfl ?_
    refine up_k hF (by show _ = 43 ∨ _; omega) (fun I hI hF => ?_)
    replace hL := hI ▸ hL.pg
    have hW := hW0.fL hsh hl hF
    refine w_iload c_53_163 rfl ?_
    refine z_ret c_53_164 rfl ?_
    have hc : ¬ D 0 1 < b + sumB (D 3) dry (D 1 0).toNat := by omega
    refine q_i (k I (hL.cast rfl (by unfold flB; rw [if_neg hc]) (by unfold flG; rw [if_neg hc]) rfl rfl rfl rfl) hF) ?_
    unfold flO; rfl
  · refine w_aload c_53_86 rfl ?_
    refine z_getZ c_53_87 hq.1 (by decide) rfl hL.2.1 ?_
    refine z_if_le c_53_90 (by first | exact aRg_of _ | (unfold aRg; omega)) (fun h2_ => ?_) (fun h2_ => ?_)
    · refine w_aload c_53_125 rfl ?_
      refine w_dup c_53_126 rfl ?_
      refine z_getZ c_53_127 hq.1 (by decide) rfl hL.2.1 ?_
      refine w_aload c_53_130 rfl ?_
      refine z_getZ c_53_131 hq.1 (by decide) rfl hL.2.1 ?_
      refine w_aload c_53_134 rfl ?_
      refine w_getR c_53_135 sp_42 (by decide) rfl pr_42_0 ?_
      refine z_getZ c_53_138 (sps_0 hsh) (by decide) rfl hW.1.2.1.2.2.2.1 ?_
      have hm2 := mul_rg (a := (b + sumB (D 3) dry (D 1 0).toNat)) (b := D 0 14) (A := 60000) (B := 100) (by omega) (by omega)
      refine z_imul c_53_141 ?_
      refine z_push c_53_142 ?_
      have hd2 := ed_rg (a := (b + sumB (D 3) dry (D 1 0).toNat) * D 0 14) (b := 100) (by omega) (by omega)
      refine z_idiv c_53_144 (by omega) (by omega) ?_
      refine z_isub c_53_145 ?_
      refine z_putZ c_53_146 hq.1 (by decide) rfl ?_
      refine up_k hF (by show _ = 43 ∨ _; omega) (fun I hI hF => ?_)
      replace hL := hI ▸ hL.pb
      have hW := hW0.fL hsh hl hF
      refine w_aload c_53_149 rfl ?_
      refine z_push c_53_150 ?_
      refine w_aload c_53_153 rfl ?_
      refine z_getZ c_53_154 hq.1 (by decide) rfl hL.2.2.1 ?_
      refine z_mmin c_53_157 (by omega) (Nat.le_of_ble_eq_true rfl) (by first | exact aRg_of _ | (unfold aRg; omega)) (by first | exact aRg_of _ | (unfold aRg; omega)) ?_
      refine z_putZ c_53_160 hq.1 (by decide) rfl ?_
      refine up_k hF (by show _ = 43 ∨ _; omega) (fun I hI hF => ?_)
      replace hL := hI ▸ hL.pg
      have hW := hW0.fL hsh hl hF
      refine w_iload c_53_163 rfl ?_
      refine z_ret c_53_164 rfl ?_
      have hc : ¬ D 0 1 < b + sumB (D 3) dry (D 1 0).toNat := by omega
      refine q_i (k I (hL.cast rfl (by unfold flB; rw [if_neg hc]) (by unfold flG; rw [if_neg hc]) rfl rfl rfl rfl) hF) ?_
      unfold flO; rfl
    · refine w_aload c_53_93 rfl ?_
      refine w_aload c_53_94 rfl ?_
      refine z_getZ c_53_95 hq.1 (by decide) rfl hL.2.2.1 ?_
      refine w_aload c_53_98 rfl ?_
      refine w_getR c_53_99 sp_42 (by decide) rfl pr_42_0 ?_
      refine z_getZ c_53_102 (sps_0 hsh) (by decide) rfl hW.1.2.1.1 ?_
      refine z_imul c_53_105 ?_
      refine w_aload c_53_106 rfl ?_
      refine z_getZ c_53_107 hq.1 (by decide) rfl hL.2.1 ?_
      have hd1 := hd1 (by omega)
      refine z_idiv c_53_110 (by omega) (by omega) ?_
      refine z_putZ c_53_111 hq.1 (by decide) rfl ?_
      refine up_k hF (by show _ = 43 ∨ _; omega) (fun I hI hF => ?_)
      replace hL := hI ▸ hL.pg
      have hW := hW0.fL hsh hl hF
      refine w_aload c_53_114 rfl ?_
      refine w_aload c_53_115 rfl ?_
      refine w_getR c_53_116 sp_42 (by decide) rfl pr_42_0 ?_
      refine z_getZ c_53_119 (sps_0 hsh) (by decide) rfl hW.1.2.1.1 ?_
      refine z_putZ c_53_122 hq.1 (by decide) rfl ?_
      refine up_k hF (by show _ = 43 ∨ _; omega) (fun I hI hF => ?_)
      replace hL := hI ▸ hL.pb
      have hW := hW0.fL hsh hl hF
      refine w_aload c_53_125 rfl ?_
      refine w_dup c_53_126 rfl ?_
      refine z_getZ c_53_127 hq.1 (by decide) rfl hL.2.1 ?_
      refine w_aload c_53_130 rfl ?_
      refine z_getZ c_53_131 hq.1 (by decide) rfl hL.2.1 ?_
      refine w_aload c_53_134 rfl ?_
      refine w_getR c_53_135 sp_42 (by decide) rfl pr_42_0 ?_
      refine z_getZ c_53_138 (sps_0 hsh) (by decide) rfl hW.1.2.1.2.2.2.1 ?_
      have hm2 := mul_rg (a := D 0 1) (b := D 0 14) (A := 60000) (B := 100) (by omega) (by omega)
      refine z_imul c_53_141 ?_
      refine z_push c_53_142 ?_
      have hd2 := ed_rg (a := D 0 1 * D 0 14) (b := 100) (by omega) (by omega)
      refine z_idiv c_53_144 (by omega) (by omega) ?_
      refine z_isub c_53_145 ?_
      refine z_putZ c_53_146 hq.1 (by decide) rfl ?_
      refine up_k hF (by show _ = 43 ∨ _; omega) (fun I hI hF => ?_)
      replace hL := hI ▸ hL.pb
      have hW := hW0.fL hsh hl hF
      refine w_aload c_53_149 rfl ?_
      refine z_push c_53_150 ?_
      refine w_aload c_53_153 rfl ?_
      refine z_getZ c_53_154 hq.1 (by decide) rfl hL.2.2.1 ?_
      refine z_mmin c_53_157 (by omega) (Nat.le_of_ble_eq_true rfl) (by first | exact aRg_of _ | (unfold aRg; omega)) (by first | exact aRg_of _ | (unfold aRg; omega)) ?_
      refine z_putZ c_53_160 hq.1 (by decide) rfl ?_
      refine up_k hF (by show _ = 43 ∨ _; omega) (fun I hI hF => ?_)
      replace hL := hI ▸ hL.pg
      have hW := hW0.fL hsh hl hF
      refine w_iload c_53_163 rfl ?_
      refine z_ret c_53_164 rfl ?_
      have hc : D 0 1 < b + sumB (D 3) dry (D 1 0).toNat := by omega
      refine q_i (k I (hL.cast rfl (by unfold flB; rw [if_pos hc]) (by unfold flG; rw [if_pos hc]) rfl rfl rfl rfl) hF) ?_
      unfold flO; rfl

