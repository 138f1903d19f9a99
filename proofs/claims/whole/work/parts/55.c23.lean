/-! the class: what a deed draws, whether it can be, what can be read (p55.py) -/
/-- only cells of P differ -/
def frP (P : Nat → Prop) (I I2 : aFI) : Prop := ∀ q k : Nat, ¬ P q → I2 q k = I q k
theorem frP.rf {P : Nat → Prop} {I : aFI} : frP P I I := fun _ _ _ => rfl
theorem frP.tr {P : Nat → Prop} {I I2 I3 : aFI} (h : frP P I I2) (h2 : frP P I2 I3) : frP P I I3 := fun q k hq => (h2 q k hq).trans (h q k hq)
theorem frP.mono {P P2 : Nat → Prop} {I I2 : aFI} (h : frP P I I2) (hp : ∀ q, P q → P2 q) : frP P2 I I2 := fun q k hq => h q k (fun z => hq (hp q z))
theorem frP.up {P : Nat → Prop} {I I2 : aFI} {q k : Nat} {v : Int32} (h : frP P I I2) (hq : P q) : frP P I (aUp I2 q k v) := fun q2 k2 h2 => by
  unfold aUp; rw [if_neg (fun (z : q2 = q ∧ k2 = k) => h2 (z.1 ▸ hq))]; exact h q2 k2 h2
theorem frP.row {P : Nat → Prop} {I I2 : aFI} {q : Nat} {f : Nat → Int32} (h : frP P I I2) (hq : P q) : frP P I (aRow I2 q f) := fun q2 k2 h2 => by
  unfold aRow; rw [if_neg (fun (z : q2 = q) => h2 (z ▸ hq))]; exact h q2 k2 h2
abbrev P43 : Nat → Prop := fun q => q = 43
/-- the rules' codes in the class -/
def cdT (I : aFI) (s : Nat) (cd : Nat → Option (List Int)) : Prop := ∀ r : Nat, r < 3 → (cd r = none ∧ I (s + 2) r = iI (-1)) ∨ ∃ (l : List Int) (f : Int), cd r = some l ∧ (0 ≤ f ∧ f + l.length ≤ 1600) ∧ I (s + 2) r = iI f ∧ I (s + 3) r = iI (f + l.length) ∧ codeAt I s f l
theorem cdT.fr {I I2 : aFI} {s : Nat} {cd : Nat → Option (List Int)} (h : cdT I s cd) (h0 : ∀ p k : Nat, s < p → p ≤ s + 3 → I2 p k = I p k) : cdT I2 s cd := by
  intro r hr
  rw [h0 (s + 2) r (by omega) (by omega), h0 (s + 3) r (by omega) (by omega)]
  rcases h r hr with q | ⟨l, f, q1, q2, q3, q4, q5⟩
  · exact Or.inl q
  · exact Or.inr ⟨l, f, q1, q2, q3, q4, q5.fr (fun k => h0 (s + 1) k (by omega) (by omega))⟩
/-- the shore that the class plays on -/
def cW (I : aFI) (sh : Nat) (D : Nat → Int → Int) (cd : Nat → Option (List Int)) : Prop := cD I sh D ∧ cdT I (sh + 10) cd
theorem cW.fr {I I2 : aFI} {sh : Nat} {D : Nat → Int → Int} {cd : Nat → Option (List Int)} (h : cW I sh D cd) (h0 : ∀ p k : Nat, sh ≤ p → p ≤ sh + 13 → I2 p k = I p k) : cW I2 sh D cd :=
  ⟨h.1.fr (fun p k h1 h2 => h0 p k (by omega) (by omega)), h.2.fr (fun p k h1 h2 => h0 p k (by omega) (by omega))⟩
theorem cW.f43 {I I2 : aFI} {sh : Nat} {D : Nat → Int → Int} {cd : Nat → Option (List Int)} (h : cW I sh D cd) (hsh : sh = 8 ∨ sh = 22) (hf : frP P43 I I2) : cW I2 sh D cd := h.fr (fun p k h1 h2 => hf p k (by show ¬ p = 43; omega))
theorem isLk.f43 {I I2 : aFI} {q : Nat} {s b g w kc : Int} {ink age : Int → Int} (h : isLk I q s b g w kc ink age) (hl : aLk0 q) (hf : frP P43 I I2) : isLk I2 q s b g w kc ink age := h.fr (fun p k h1 h2 => hf p k (by show ¬ p = 43; have := lk43 hl; omega))
theorem aSm_sh {sh : Nat} (h : sh = 8 ∨ sh = 22) : aSm (sh + 10) := by unfold aSm; omega
/-- a code's worth does not hang on what it can't name -/
theorem val_drw {D : Nat → Int → Int} {s b g : Int} {ink age ink2 age2 : Int → Int} {de dr dr2 v v2 : Int} {r : Nat} {l : List Int} (hr : ¬ r = 1) (h : ∀ m ∈ l, okR r m) : valC (envZ D s b g ink age de dr) v l = valC (envZ D s b g ink2 age2 de dr2) v2 l :=
  valC_same (fun m hm => ⟨(h m hm).1, fun _ => by
    obtain ⟨h1, h2, h3, h4, h5, h6⟩ := h m hm
    have h6 := h6 hr
    unfold envZ
    repeat' split
    all_goals first | rfl | omega⟩)
theorem val_fad {D : Nat → Int → Int} {s b g b2 g2 : Int} {ink age ink2 age2 : Int → Int} {de dr dr2 v v2 : Int} {l : List Int} (h : ∀ m ∈ l, okR 1 m) (hi : ink de = ink2 de) (ha : age de = age2 de) : valC (envZ D s b g ink age de dr) v l = valC (envZ D s b2 g2 ink2 age2 de dr2) v2 l :=
  valC_same (fun m hm => ⟨(h m hm).1, fun _ => by
    obtain ⟨h1, h2, h3, h4, h5, h6⟩ := h m hm
    have h5 := h5 rfl
    unfold envZ
    repeat' split
    all_goals first | rfl | omega⟩)
set_option maxHeartbeats 1000000 in
theorem tc_isWritten {d : Nat} {I : aFI} {L : aFL} {Q : aPo} {sh : Nat} {su : Option Nat} {q : Nat} {s b g kc : Int} {w : Nat} {ink age : Int → Int} (hl : aLk0 q) (hL : isLk I q s b g w kc ink age) {de : Int} (hw : w < 256) (hde : 0 ≤ de ∧ de < 8) (k : Q (some (.int (aBo (tb w de)))) I L (aR sh su)) : aWp none d 8 0 [.ref q, .int (iI de)] [] I L (aR sh su) Q := by
  have hq := aLk_all hl
  have h1 := tb_one (w := w) (de := de)
  refine w_aload c_8_0 rfl ?_
  refine z_getZ c_8_1 hq.1 (by decide) rfl hL.2.2.2.1 ?_
  refine w_iload c_8_4 rfl ?_
  refine w_ishr c_8_5 (shr1 hw hde) ?_
  refine z_push c_8_6 ?_
  refine w_iand c_8_7 tb_and ?_
  refine z_if_eq c_8_8 (by first | exact aRg_of _ | (unfold aRg; omega)) (fun h1_ => ?_) (fun h1_ => ?_)
  · refine z_push c_8_15 ?_
    refine z_ret0 c_8_16 rfl ?_
    exact q_b k (by rcases h1 with h | h <;> first | exact h.2 | (exfalso; omega))
  · refine z_push c_8_11 ?_
    refine w_goto c_8_12 ?_
    refine z_ret1 c_8_16 rfl ?_
    exact q_b k (by rcases h1 with h | h <;> first | exact h.2 | (exfalso; omega))

theorem eOK_dr {D : Nat → Int → Int} {s b g : Int} {ink age : Int → Int} {de dr : Int} (h : eOK (envZ D s b g ink age de 0)) (hd : -1000000 ≤ dr ∧ dr ≤ 1000000) : eOK (envZ D s b g ink age de dr) := by
  refine ⟨fun m hm => ?_, rfl⟩
  by_cases h3 : m = 313
  · subst h3; exact hd
  · have e : envZ D s b g ink age de dr m = envZ D s b g ink age de 0 m := by
      unfold envZ
      repeat' split
      all_goals first | rfl | omega
    rw [e]; exact h.1 m hm
set_option maxHeartbeats 1000000 in
theorem tc_drawnBy {d : Nat} {I0 : aFI} {L : aFL} {Q : aPo} {sh : Nat} {su : Option Nat} {D : Nat → Int → Int} {cd : Nat → Option (List Int)} {kc : Int} {X : Lk} {q : Nat} (hsh : sh = 8 ∨ sh = 22) (hl : aLk0 q) (hS : wfS D cd) (hW : cW I0 sh D cd) (hL : isLk I0 q X.1 X.2.1 X.2.2.1 X.2.2.2.1 kc X.2.2.2.2.1 X.2.2.2.2.2) (hX : lkOK X) {de : Int} (hde : 0 ≤ de ∧ de < D 1 2) (hdr : -1000000 ≤ (I0 42 1).toInt ∧ (I0 42 1).toInt ≤ 1000000) (hd : 5 ≤ d) (k : ∀ I : aFI, frP P43 I0 I → Q (some (.int (iI (drwZ D cd X de)))) I L (aR sh su)) : aWp none d 48 0 [.ref 42, .ref q, .int (iI de)] [] I0 L (aR sh su) Q := by
  obtain ⟨s, b, g, w, ink, age⟩ := X
  have hq := aLk_all hl
  have hx1 := hX.1
  have hx2 := hX.2.1
  have hx3 := hX.2.2.1
  have hx4 := hX.2.2.2.1
  have hx5 := hX.2.2.2.2
  have hdd := hS.n
  have hde2 := hS.de hde.1 hde.2
  have hhh := hS.h
  simp only at hx1 hx2 hx3 hx4 hx5 hL
  obtain ⟨I, hI⟩ : ∃ I : aFI, I = I0 := ⟨I0, rfl⟩
  rw [← hI] at hW hL ⊢
  have hF : frP P43 I0 I := hI ▸ frP.rf
  clear hI
  have hdr : -1000000 ≤ (I 42 1).toInt ∧ (I 42 1).toInt ≤ 1000000 := by rw [hF 42 1 (by decide)]; exact hdr
  have h42 : I 42 1 = iI (I 42 1).toInt := iI_of _
  generalize (I 42 1).toInt = dr at hdr h42
  have hE : eOK (envZ D s b g ink age de dr) := eOK_dr (envZ_ok hS hde.1 hde.2 hx1 hx2 (hx5 de hde.1 (by omega)).1 (hx5 de hde.1 (by omega)).2 (by omega)) hdr
  rcases hW.2 0 (by omega) with ⟨q1, q2⟩ | ⟨l, f, q1, q2, q3, q4, q5⟩
  · refine w_aload c_48_0 rfl ?_
    refine w_getR c_48_1 sp_42 (by decide) rfl pr_42_0 ?_
    refine w_getR c_48_4 (sps_0 hsh) (by decide) rfl (prs_13 hsh) ?_
    refine z_push c_48_7 ?_
    refine wc_73 c_48_8 (sps_10 hsh) (Nat.le_of_ble_eq_true rfl) (by omega) ?_
    refine tc_isTold (aSm_sh hsh) (by omega) q2 (by omega) ?_
    refine r_i ?_
    refine b_if_ne c_48_11 (fun h1_ => ?_) (fun h1_ => ?_)
    · exact absurd h1_ (by decide)
    refine w_aload c_48_14 rfl ?_
    refine w_getR c_48_15 sp_42 (by decide) rfl pr_42_0 ?_
    refine w_getR c_48_18 (sps_0 hsh) (by decide) rfl (prs_10 hsh) ?_
    refine w_iload c_48_21 rfl ?_
    refine z_iaload c_48_22 (sps_7 hsh) (by omega) (by first | decide | omega) (hW.1.a 7 (by omega) (by omega)) ?_
    refine z_ret c_48_23 rfl ?_
    refine q_i (k I hF) ?_
    unfold drwZ; rw [q1]
  obtain ⟨ht, hok⟩ := hS.c (by omega) q1
  refine w_aload c_48_0 rfl ?_
  refine w_getR c_48_1 sp_42 (by decide) rfl pr_42_0 ?_
  refine w_getR c_48_4 (sps_0 hsh) (by decide) rfl (prs_13 hsh) ?_
  refine z_push c_48_7 ?_
  refine wc_73 c_48_8 (sps_10 hsh) (Nat.le_of_ble_eq_true rfl) (by omega) ?_
  refine tc_isTold (aSm_sh hsh) (by omega) q3 (by omega) ?_
  refine r_i ?_
  refine b_if_ne c_48_11 (fun h1_ => ?_) (fun h1_ => ?_)
  rotate_left
  · simp only [decide_eq_false_iff_not] at h1_; exfalso; omega
  refine z_push c_48_24 ?_
  refine w_aload c_48_25 rfl ?_
  refine w_aload c_48_26 rfl ?_
  refine w_getR c_48_27 sp_42 (by decide) rfl pr_42_0 ?_
  refine w_getR c_48_30 (sps_0 hsh) (by decide) rfl (prs_13 hsh) ?_
  refine z_push c_48_33 ?_
  refine w_aload c_48_34 rfl ?_
  refine w_iload c_48_35 rfl ?_
  refine wc_55 c_48_36 sp_42 (Nat.le_of_ble_eq_true rfl) (by omega) ?_
  refine tc_reckon (fr := f) (to := f + l.length) (l := l) (t := _) hsh hl (aSm_sh hsh) hW.1 hL h42 (by omega) ⟨hde.1, by omega⟩ ⟨hde2.1.1, by omega⟩ ⟨hx2.1, by omega⟩ ⟨hx3.1, by omega⟩ hE (by omega) q4 ⟨q2.1, rfl, by omega⟩ q3 q5 ht (fun I hf => ?_)
  have hv := (valC_ok (vl := D 6 de) hE ht).1.2
  refine r_i ?_
  refine z_i2l c_48_39 (by first | exact aRg_of _ | (unfold aRg; omega)) ?_
  refine z_push c_48_40 ?_
  refine wc_59 c_48_43 (Nat.le_of_ble_eq_true rfl) (by omega) ?_
  refine tc_between (by omega) (by omega) (by omega) ?_
  refine r_i ?_
  refine z_ret c_48_46 rfl ?_
  refine q_i (k I (hF.tr hf)) ?_
  unfold drwZ; rw [q1]; show cutz _ _ = _
  rw [cutz_btw, val_drw (by decide) hok]

