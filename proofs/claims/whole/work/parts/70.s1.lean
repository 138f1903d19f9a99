/-! both sides: fade, soonest, dip, missed (p70.py) -/
/-- the first number from i on, of c, that p holds of -/
def fst0 (p : Nat → Bool) : Nat → Nat → Int
  | _, 0 => -1
  | i, c + 1 => if p i = true then i else fst0 p (i + 1) c
theorem fst0_s {p : Nat → Bool} {i m : Nat} (h : i ≤ m) : fst0 p i (m + 1 - i) = if p i = true then (i : Int) else fst0 p (i + 1) (m + 1 - (i + 1)) := by
  rw [show m + 1 - i = (m + 1 - (i + 1)) + 1 by omega]; rfl
theorem fst0_z {p : Nat → Bool} {i m : Nat} (h : m < i) : fst0 p i (m + 1 - i) = -1 := by
  rw [show m + 1 - i = 0 by omega]; cases i <;> rfl
theorem fst0_rg {p : Nat → Bool} : ∀ (c i : Nat), fst0 p i c = -1 ∨ (i : Int) ≤ fst0 p i c
  | 0, i => by left; cases i <;> rfl
  | c + 1, i => by
    unfold fst0
    split
    · right; omega
    · have := fst0_rg (p := p) c (i + 1); omega
theorem fst0_snoc {p : Nat → Bool} : ∀ (c i : Nat), fst0 p i (c + 1) = if fst0 p i c = -1 then (if p (i + c) = true then ((i + c : Nat) : Int) else -1) else fst0 p i c
  | 0, i => by
    rw [show fst0 p i 0 = -1 by cases i <;> rfl, if_pos rfl]
    unfold fst0; rw [show fst0 p (i + 1) 0 = -1 from rfl]; rfl
  | c + 1, i => by
    show (if p i = true then (i : Int) else fst0 p (i + 1) (c + 1)) = _
    rw [fst0_snoc c (i + 1)]
    show _ = if (if p i = true then (i : Int) else fst0 p (i + 1) c) = -1 then _ else (if p i = true then (i : Int) else fst0 p (i + 1) c)
    by_cases hp : p i = true
    · rw [if_pos hp, if_pos hp, if_neg (by omega)]
    · rw [if_neg hp, if_neg hp, show i + 1 + c = i + (c + 1) by omega]
def fadeZ (D : Nat → Int → Int) (cd : Nat → Option (List Int)) (X : Lk) (e : Int) : Int := if (0 ≤ e ∧ e < D 1 2) ∧ tb X.2.2.2.1 e = true then fst0 (fun n => !crZ D (seaN D cd X n) e) 0 ((ahZ X).toNat + 1) else -1
def soonZ (D : Nat → Int → Int) (cd : Nat → Option (List Int)) (X : Lk) (e : Int) : Int := if 0 ≤ e ∧ e < D 1 2 then fst0 (fun n => cbZ D cd (seaN D cd X n) e) 0 ((ahZ X).toNat + 1) else -1
/-- found so far: where, and how dark -/
def fdF (D : Nat → Int → Int) (cd : Nat → Option (List Int)) (X : Lk) (e : Int) (t : Bool) : Nat → Int × Int
  | 0 => (-1, -1)
  | n + 1 => if cbZ D cd (seaN D cd X n) e = true ∧ ((fdF D cd X e t n).1 = -1 ∨ t = true ∧ (fdF D cd X e t n).2 < dk (seaN D cd X n).2.1 (seaN D cd X n).2.2.1) then ((n : Int), dk (seaN D cd X n).2.1 (seaN D cd X n).2.2.1) else fdF D cd X e t n
def dipZ (D : Nat → Int → Int) (cd : Nat → Option (List Int)) (X : Lk) (e v : Int) : Int := if (0 ≤ e ∧ e < D 1 2) ∧ 0 ≤ v ∧ v ≤ 1 then (if v = 0 then (fdF D cd X e true ((ahZ X).toNat + 1)).1 else (fdF D cd X e true ((ahZ X).toNat + 1)).2) else -1
section FDF
variable {D : Nat → Int → Int} {cd : Nat → Option (List Int)} {X : Lk} {e : Int} {t : Bool}
theorem fdF_rg : ∀ n : Nat, (-1 ≤ (fdF D cd X e t n).1 ∧ (fdF D cd X e t n).1 ≤ n) ∧ (-1 ≤ (fdF D cd X e t n).2 ∧ (fdF D cd X e t n).2 ≤ 9999) ∧ ((fdF D cd X e t n).1 = -1 ↔ (fdF D cd X e t n).2 = -1)
  | 0 => by unfold fdF; simp
  | n + 1 => by
    have h := fdF_rg n
    have hk := dk_rg (b := (seaN D cd X n).2.1) (g := (seaN D cd X n).2.2.1)
    unfold fdF
    split
    · refine ⟨⟨by show -1 ≤ (n : Int); omega, by show (n : Int) ≤ _; omega⟩, ⟨by show -1 ≤ dk _ _; omega, by show dk _ _ ≤ 9999; omega⟩, ⟨fun z => ?_, fun z => ?_⟩⟩
      · have z : (n : Int) = -1 := z
        omega
      · have z : dk (seaN D cd X n).2.1 (seaN D cd X n).2.2.1 = -1 := z
        omega
    · exact ⟨⟨h.1.1, by omega⟩, h.2⟩
theorem fdF_t (n : Nat) : fdF D cd X e true (n + 1) = if cbZ D cd (seaN D cd X n) e = true ∧ (fdF D cd X e true n).2 < dk (seaN D cd X n).2.1 (seaN D cd X n).2.2.1 then ((n : Int), dk (seaN D cd X n).2.1 (seaN D cd X n).2.2.1) else fdF D cd X e true n := by
  have h := fdF_rg (D := D) (cd := cd) (X := X) (e := e) (t := true) n
  have hk := dk_rg (b := (seaN D cd X n).2.1) (g := (seaN D cd X n).2.2.1)
  show (if _ then _ else _) = _
  by_cases h1 : cbZ D cd (seaN D cd X n) e = true ∧ (fdF D cd X e true n).2 < dk (seaN D cd X n).2.1 (seaN D cd X n).2.2.1
  · rw [if_pos h1, if_pos ⟨h1.1, Or.inr ⟨rfl, h1.2⟩⟩]
  · rw [if_neg h1, if_neg]
    rintro ⟨z1, z2 | z2⟩
    · exact h1 ⟨z1, by have := h.2.2.mp z2; omega⟩
    · exact h1 ⟨z1, z2.2⟩
theorem fdF_f : ∀ n : Nat, (fdF D cd X e false n).1 = fst0 (fun n => cbZ D cd (seaN D cd X n) e) 0 n
  | 0 => rfl
  | n + 1 => by
    rw [fst0_snoc n 0, ← fdF_f n]
    show (if _ then _ else _ : Int × Int).1 = _
    by_cases h1 : (fdF D cd X e false n).1 = -1
    · rw [if_pos h1]
      by_cases h2 : cbZ D cd (seaN D cd X n) e = true
      · rw [if_pos ⟨h2, Or.inl h1⟩, show 0 + n = n by omega, if_pos h2]
      · rw [if_neg (fun z => h2 z.1), show 0 + n = n by omega, if_neg h2, h1]
    · rw [if_neg h1, if_neg (fun z => by rcases z.2 with z | z; exact h1 z; exact Bool.noConfusion z.1)]
end FDF
def msZ (D : Nat → Int → Int) (X : Lk) : Nat := bb (fun j => !X.2.2.2.1.testBit j && decide (D 9 j < X.1)) (D 1 2).toNat
theorem ahZ_rg {X : Lk} (hX : lkOK X) (h : X.1 ≤ 999) : 0 ≤ ahZ X ∧ ahZ X ≤ 60 ∧ X.1 + ahZ X ≤ 999 ∧ (ahZ X = 60 ∨ X.1 + ahZ X = 999) := by have := hX.1; unfold ahZ; omega
set_option maxHeartbeats 2000000 in
theorem tc_fade_1 {d : Nat} {I0 : aFI} {L : aFL} {Q : aPo} {sh : Nat} {su : Option Nat} {D : Nat → Int → Int} {cd : Nat → Option (List Int)} {X : Lk} {kc e : Int} {m : Nat} (hsh : sh = 8 ∨ sh = 22) (hS : wfS D cd) (hW0 : cW I0 sh D cd) (hX : lkOK X) (hm : X.1 + m ≤ 999) (hm2 : m ≤ 60) (he : 0 ≤ e ∧ e < D 1 2) (hdr : -1000000 ≤ (I0 42 1).toInt ∧ (I0 42 1).toInt ≤ 1000000) (hd : 8 ≤ d) : ∀ (n : Nat) (i : Nat) (I : aFI), m + 2 - i < n → (i ≤ m + 1) → (lkX I 39 kc (seaN D cd X i)) → (frP (PL 39) I0 I) → (∀ I2 : aFI, frP (PL 39) I0 I2 → Q (some (.int (iI (fst0 (fun n => !crZ D (seaN D cd X n) e) i (m + 1 - i))))) I2 L (aR sh su)) → aWp none d 87 39 [.ref 0, .int (iI e), .int (iI (m : Int)), .int (iI (i : Int))] [] I L (aR sh su) Q := by
  intro n
  induction n with
  | zero => intro i I h; omega
  | succ n ih =>
    intro i I hn2 h1 hL hF k
    have hss := seaN_s (D := D) (cd := cd) (X := X) i
    have hdd := hS.n
    have hXi : lkOK (seaN D cd X i) := seaN_ok hS hX i (by omega)
    have hW := hW0.fL hsh aLk_39 hF
    have hdr2 : -1000000 ≤ (I 42 1).toInt ∧ (I 42 1).toInt ≤ 1000000 := by rw [hF 42 1 (by decide)]; exact hdr
    have hcb := crZ_bit (D := D) (X := seaN D cd X i) he.1 he.2
    refine w_iload c_87_39 rfl ?_
    refine w_iload c_87_40 rfl ?_
    refine z_ic_gt c_87_41 (by first | exact aRg_of _ | (unfold aRg; omega)) (by first | exact aRg_of _ | (unfold aRg; omega)) (fun h1_ => ?_) (fun h1_ => ?_)
    · refine z_push c_87_83 ?_
      refine z_ret c_87_84 rfl ?_
      have := k I hF
      rw [fst0_z (by omega)] at this
      exact this
    · have hb1 := tb_one (w := rdZ D (seaN D cd X i)) (de := e)
      
      refine w_aload c_87_44 rfl ?_
      refine w_getR c_87_45 sp_0 (by decide) rfl pr_0_7 ?_
      refine w_aload c_87_48 rfl ?_
      refine w_getR c_87_49 sp_0 (by decide) rfl pr_0_6 ?_
      refine wc_50 c_87_52 sp_42 (Nat.le_of_ble_eq_true rfl) (by omega) ?_
      refine tc_readable hsh aLk_39 hS hW hL hXi (by omega) ?_
      refine r_i ?_
      refine w_iload c_87_55 rfl ?_
      refine w_ishr c_87_56 (shr1 (rdZ_lt (by omega)) (by omega)) ?_
      refine z_push c_87_57 ?_
      refine w_iand c_87_58 tb_and ?_
      refine z_if_ne c_87_59 (by first | exact aRg_of _ | (unfold aRg; omega)) (fun h2_ => ?_) (fun h2_ => ?_)
      · refine w_aload c_87_64 rfl ?_
        refine w_getR c_87_65 sp_0 (by decide) rfl pr_0_7 ?_
        refine w_aload c_87_68 rfl ?_
        refine w_getR c_87_69 sp_0 (by decide) rfl pr_0_6 ?_
        refine z_push c_87_72 ?_
        refine wc_52 c_87_73 sp_42 (Nat.le_of_ble_eq_true rfl) (by omega) ?_
        refine tc_passSeason (dry := 0) hsh aLk_39 hS hW hL hXi (by decide) hdr2 (by omega) (fun I2 hL2 hF2 => ?_)
        refine r_i ?_
        refine w_pop c_87_76 rfl ?_
        refine z_iinc c_87_77 rfl rfl ?_
        refine w_goto c_87_80 ?_
        exact ih (i + 1) I2 (by omega) (by omega) hL2 (hF.tr hF2) (fun I3 h3 => by
          have := k I3 h3
          rw [fst0_s (by omega), if_neg (by simp only [Bool.not_eq_true', Bool.not_eq_true]; rcases hb1 with z | z; exfalso; omega; rw [← hcb, z.2]; decide)] at this
          exact this)
      · refine w_iload c_87_62 rfl ?_
        refine z_ret c_87_63 rfl ?_
        have := k I hF
        rw [fst0_s (by omega), if_pos (by simp only [Bool.not_eq_true']; rcases hb1 with z | z; rw [← hcb, z.2]; exfalso; omega)] at this
        exact this

set_option maxHeartbeats 1000000 in
theorem tc_fade {d : Nat} {I : aFI} {L : aFL} {Q : aPo} {sh : Nat} {su : Option Nat} {D : Nat → Int → Int} {cd : Nat → Option (List Int)} {X : Lk} {kc : Int} (hsh : sh = 8 ∨ sh = 22) (hS : wfS D cd) (hW : cW I sh D cd) (hL : lkX I 36 kc X) (hX : lkOK X) {e : Int} (re : -2147483648 ≤ e ∧ e < 2147483648) (hs : X.1 ≤ 999) (hdr : -1000000 ≤ (I 42 1).toInt ∧ (I 42 1).toInt ≤ 1000000) (hd : 9 ≤ d) (k : ∀ I2 : aFI, frP (PL 39) I I2 → Q (some (.int (iI (fadeZ D cd X e)))) I2 L (aR sh su)) : aWp none d 87 0 [.ref 0, .int (iI e), .null, .null] [] I L (aR sh su) Q := by
  have hah := ahZ_rg hX hs
  have hnn : (((ahZ X).toNat : Nat) : Int) = ahZ X := Int.toNat_of_nonneg hah.1
  have hdd := hS.n
  have hx1 := hX.1
  have hx2 := hX.2.1
  have hx3 := hX.2.2.1
  have hx4 := hX.2.2.2.1
  refine w_aload c_87_0 rfl ?_
  refine w_iload c_87_1 rfl ?_
  refine wc_112 c_87_2 sp_0 (Nat.le_of_ble_eq_true rfl) (by omega) ?_
  refine tc_isDeed hsh hS hW re ?_
  refine r_i ?_
  refine b_if_eq c_87_5 (fun h1_ => ?_) (fun h1_ => ?_)
  · refine z_push c_87_19 ?_
    refine z_ret c_87_20 rfl ?_
    refine q_i (k _ frP.rf) ?_
    unfold fadeZ
    first
    | (rw [if_neg (fun z => Bool.noConfusion ((decide_eq_true z.1).symm.trans (show _ = false by assumption)))]; done)
    | (rw [if_neg (fun z => Bool.noConfusion (z.2.symm.trans (by assumption)))]; done)
  · refine w_aload c_87_8 rfl ?_
    refine w_getR c_87_9 sp_0 (by decide) rfl pr_0_5 ?_
    refine w_iload c_87_12 rfl ?_
    refine wc_8 c_87_13 sp_36 (Nat.le_of_ble_eq_true rfl) (by omega) ?_
    have hdb : 0 ≤ e ∧ e < D 1 2 := of_decide_eq_true h1_
    refine tc_isWritten aLk_36 hL hX.2.2.2.1 ⟨by omega, by omega⟩ ?_
    refine r_i ?_
    refine b_if_ne c_87_16 (fun h2_ => ?_) (fun h2_ => ?_)
    · refine w_aload c_87_21 rfl ?_
      refine wc_114 c_87_22 sp_0 (Nat.le_of_ble_eq_true rfl) (by omega) ?_
      refine tc_seasonsAhead hsh hS hW hL hX (by omega) ?_
      refine r_i ?_
      refine w_istore c_87_25 (Nat.le_of_ble_eq_true rfl) rfl ?_
      refine w_aload c_87_26 rfl ?_
      refine w_getR c_87_27 sp_0 (by decide) rfl pr_0_6 ?_
      refine w_aload c_87_30 rfl ?_
      refine w_getR c_87_31 sp_0 (by decide) rfl pr_0_5 ?_
      refine wc_6 c_87_34 sp_39 (Nat.le_of_ble_eq_true rfl) (by omega) ?_
      refine tc_copyOf aLk_39 aLk_36 (by decide) hL (by omega) (fun I1 hL1 hF1 => ?_)
      have hF1 : frP (PL 39) I I1 := hF1.mono (fun q hq => Or.inr hq)
      have hW1 := hW.fL hsh aLk_39 hF1
      have hdr1 : -1000000 ≤ (I1 42 1).toInt ∧ (I1 42 1).toInt ≤ 1000000 := by rw [hF1 42 1 (by decide)]; exact hdr
      refine r_v ?_
      refine z_push c_87_37 ?_
      refine w_istore c_87_38 (Nat.le_of_ble_eq_true rfl) rfl ?_
      have hk := k
      unfold fadeZ at hk
      rw [if_pos ⟨hdb, by assumption⟩] at hk
      rw [← hnn]
      exact tc_fade_1 hsh hS hW1 hX (by omega) (by omega) hdb hdr1 (by omega) _ 0 I1 (Nat.lt_succ_self _) (by omega) hL1 frP.rf (fun I2 h2 => hk I2 (hF1.tr h2))
    · refine z_push c_87_19 ?_
      refine z_ret c_87_20 rfl ?_
      refine q_i (k _ frP.rf) ?_
      unfold fadeZ
      first
      | (rw [if_neg (fun z => Bool.noConfusion ((decide_eq_true z.1).symm.trans (show _ = false by assumption)))]; done)
      | (rw [if_neg (fun z => Bool.noConfusion (z.2.symm.trans (by assumption)))]; done)

set_option maxHeartbeats 2000000 in
theorem tc_soonest_1 {d : Nat} {I0 : aFI} {L : aFL} {Q : aPo} {sh : Nat} {su : Option Nat} {D : Nat → Int → Int} {cd : Nat → Option (List Int)} {X : Lk} {kc e : Int} {m : Nat} (hsh : sh = 8 ∨ sh = 22) (hS : wfS D cd) (hW0 : cW I0 sh D cd) (hX : lkOK X) (hm : X.1 + m ≤ 999) (hm2 : m ≤ 60) (he : 0 ≤ e ∧ e < D 1 2) (hdr : -1000000 ≤ (I0 42 1).toInt ∧ (I0 42 1).toInt ≤ 1000000) (hd : 8 ≤ d) : ∀ (n : Nat) (i : Nat) (I : aFI), m + 2 - i < n → (i ≤ m + 1) → (lkX I 39 kc (seaN D cd X i)) → (frP (PL 39) I0 I) → (∀ I2 : aFI, frP (PL 39) I0 I2 → Q (some (.int (iI (fst0 (fun n => cbZ D cd (seaN D cd X n) e) i (m + 1 - i))))) I2 L (aR sh su)) → aWp none d 88 28 [.ref 0, .int (iI e), .int (iI (m : Int)), .int (iI (i : Int))] [] I L (aR sh su) Q := by
  intro n
  induction n with
  | zero => intro i I h; omega
  | succ n ih =>
    intro i I hn2 h1 hL hF k
    have hss := seaN_s (D := D) (cd := cd) (X := X) i
    have hdd := hS.n
    have hXi : lkOK (seaN D cd X i) := seaN_ok hS hX i (by omega)
    have hW := hW0.fL hsh aLk_39 hF
    have hdr2 : -1000000 ≤ (I 42 1).toInt ∧ (I 42 1).toInt ≤ 1000000 := by rw [hF 42 1 (by decide)]; exact hdr
    refine w_iload c_88_28 rfl ?_
    refine w_iload c_88_29 rfl ?_
    refine z_ic_gt c_88_30 (by first | exact aRg_of _ | (unfold aRg; omega)) (by first | exact aRg_of _ | (unfold aRg; omega)) (fun h1_ => ?_) (fun h1_ => ?_)
    · refine z_push c_88_69 ?_
      refine z_ret c_88_70 rfl ?_
      have := k I hF
      rw [fst0_z (by omega)] at this
      exact this
    · refine w_aload c_88_33 rfl ?_
      refine w_getR c_88_34 sp_0 (by decide) rfl pr_0_7 ?_
      refine w_aload c_88_37 rfl ?_
      refine w_getR c_88_38 sp_0 (by decide) rfl pr_0_6 ?_
      refine w_iload c_88_41 rfl ?_
      refine wc_49 c_88_42 sp_42 (Nat.le_of_ble_eq_true rfl) (by omega) ?_
      refine tc_canBe hsh aLk_39 hS hW hL hXi he hdr2 (by omega) (fun I1 hf1 => ?_)
      have hL1 := hL.f43 aLk_39 hf1
      have hW1 := hW.f43 hsh hf1
      have hF1 := hF.tr (frP.l (q := 39) hf1)
      have hdr3 : -1000000 ≤ (I1 42 1).toInt ∧ (I1 42 1).toInt ≤ 1000000 := by rw [hf1 42 1 (by decide)]; exact hdr2
      refine r_i ?_
      refine b_if_eq c_88_45 (fun h2_ => ?_) (fun h2_ => ?_)
      · refine w_aload c_88_50 rfl ?_
        refine w_getR c_88_51 sp_0 (by decide) rfl pr_0_7 ?_
        refine w_aload c_88_54 rfl ?_
        refine w_getR c_88_55 sp_0 (by decide) rfl pr_0_6 ?_
        refine z_push c_88_58 ?_
        refine wc_52 c_88_59 sp_42 (Nat.le_of_ble_eq_true rfl) (by omega) ?_
        refine tc_passSeason (dry := 0) hsh aLk_39 hS hW1 hL1 hXi (by decide) hdr3 (by omega) (fun I2 hL2 hF2 => ?_)
        refine r_i ?_
        refine w_pop c_88_62 rfl ?_
        refine z_iinc c_88_63 rfl rfl ?_
        refine w_goto c_88_66 ?_
        exact ih (i + 1) I2 (by omega) (by omega) hL2 (hF1.tr hF2) (fun I3 h3 => by
          have := k I3 h3
          rw [fst0_s (by omega), if_neg (by simp only [*]; exact Bool.noConfusion)] at this
          exact this)
      · refine w_iload c_88_48 rfl ?_
        refine z_ret c_88_49 rfl ?_
        have := k I1 hF1
        rw [fst0_s (by omega), if_pos (by assumption)] at this
        exact this

set_option maxHeartbeats 1000000 in
theorem tc_soonest {d : Nat} {I : aFI} {L : aFL} {Q : aPo} {sh : Nat} {su : Option Nat} {D : Nat → Int → Int} {cd : Nat → Option (List Int)} {X : Lk} {kc : Int} (hsh : sh = 8 ∨ sh = 22) (hS : wfS D cd) (hW : cW I sh D cd) (hL : lkX I 36 kc X) (hX : lkOK X) {e : Int} (re : -2147483648 ≤ e ∧ e < 2147483648) (hs : X.1 ≤ 999) (hdr : -1000000 ≤ (I 42 1).toInt ∧ (I 42 1).toInt ≤ 1000000) (hd : 9 ≤ d) (k : ∀ I2 : aFI, frP (PL 39) I I2 → Q (some (.int (iI (soonZ D cd X e)))) I2 L (aR sh su)) : aWp none d 88 0 [.ref 0, .int (iI e), .null, .null] [] I L (aR sh su) Q := by
  have hah := ahZ_rg hX hs
  have hnn : (((ahZ X).toNat : Nat) : Int) = ahZ X := Int.toNat_of_nonneg hah.1
  have hdd := hS.n
  have hx1 := hX.1
  have hx2 := hX.2.1
  have hx3 := hX.2.2.1
  have hx4 := hX.2.2.2.1
  refine w_aload c_88_0 rfl ?_
  refine w_iload c_88_1 rfl ?_
  refine wc_112 c_88_2 sp_0 (Nat.le_of_ble_eq_true rfl) (by omega) ?_
  refine tc_isDeed hsh hS hW re ?_
  refine r_i ?_
  refine b_if_ne c_88_5 (fun h1_ => ?_) (fun h1_ => ?_)
  · refine w_aload c_88_10 rfl ?_
    refine wc_114 c_88_11 sp_0 (Nat.le_of_ble_eq_true rfl) (by omega) ?_
    refine tc_seasonsAhead hsh hS hW hL hX (by omega) ?_
    refine r_i ?_
    refine w_istore c_88_14 (Nat.le_of_ble_eq_true rfl) rfl ?_
    refine w_aload c_88_15 rfl ?_
    refine w_getR c_88_16 sp_0 (by decide) rfl pr_0_6 ?_
    refine w_aload c_88_19 rfl ?_
    refine w_getR c_88_20 sp_0 (by decide) rfl pr_0_5 ?_
    refine wc_6 c_88_23 sp_39 (Nat.le_of_ble_eq_true rfl) (by omega) ?_
    refine tc_copyOf aLk_39 aLk_36 (by decide) hL (by omega) (fun I1 hL1 hF1 => ?_)
    have hF1 : frP (PL 39) I I1 := hF1.mono (fun q hq => Or.inr hq)
    have hW1 := hW.fL hsh aLk_39 hF1
    have hdr1 : -1000000 ≤ (I1 42 1).toInt ∧ (I1 42 1).toInt ≤ 1000000 := by rw [hF1 42 1 (by decide)]; exact hdr
    refine r_v ?_
    refine z_push c_88_26 ?_
    refine w_istore c_88_27 (Nat.le_of_ble_eq_true rfl) rfl ?_
    have hdb : 0 ≤ e ∧ e < D 1 2 := of_decide_eq_true (by assumption)
    have hk := k
    unfold soonZ at hk
    rw [if_pos hdb] at hk
    rw [← hnn]
    exact tc_soonest_1 hsh hS hW1 hX (by omega) (by omega) hdb hdr1 (by omega) _ 0 I1 (Nat.lt_succ_self _) (by omega) hL1 frP.rf (fun I2 h2 => hk I2 (hF1.tr h2))
  · refine z_push c_88_8 ?_
    refine z_ret c_88_9 rfl ?_
    refine q_i (k _ frP.rf) ?_
    unfold soonZ
    rw [if_neg (fun z => Bool.noConfusion ((decide_eq_true z).symm.trans (show _ = false by assumption)))]

set_option maxHeartbeats 2000000 in
theorem tc_dip_1 {d : Nat} {I0 : aFI} {L : aFL} {Q : aPo} {sh : Nat} {su : Option Nat} {D : Nat → Int → Int} {cd : Nat → Option (List Int)} {X : Lk} {kc e : Int} {m : Nat} (hsh : sh = 8 ∨ sh = 22) (hS : wfS D cd) (hW0 : cW I0 sh D cd) (hX : lkOK X) (hm : X.1 + m ≤ 999) (hm2 : m ≤ 60) (he : 0 ≤ e ∧ e < D 1 2) (hdr : -1000000 ≤ (I0 42 1).toInt ∧ (I0 42 1).toInt ≤ 1000000) (hd : 8 ≤ d) {v : Int} : ∀ (n : Nat) (i : Nat) (I : aFI), m + 2 - i < n → (i ≤ m + 1) → (lkX I 39 kc (seaN D cd X i)) → (frP (PL 39) I0 I) → (∀ I2 : aFI, frP (PL 39) I0 I2 → aWp none d 89 109 [.ref 0, .int (iI e), .int (iI v), .int (iI (fdF D cd X e true (m + 1)).1), .int (iI (fdF D cd X e true (m + 1)).2), .int (iI (m : Int)), .int (iI ((m + 1 : Nat) : Int))] [] I2 L (aR sh su) Q) → aWp none d 89 44 [.ref 0, .int (iI e), .int (iI v), .int (iI (fdF D cd X e true i).1), .int (iI (fdF D cd X e true i).2), .int (iI (m : Int)), .int (iI (i : Int))] [] I L (aR sh su) Q := by
  intro n
  induction n with
  | zero => intro i I h; omega
  | succ n ih =>
    intro i I hn2 h1 hL hF k
    have hss := seaN_s (D := D) (cd := cd) (X := X) i
    have hdd := hS.n
    have hXi : lkOK (seaN D cd X i) := seaN_ok hS hX i (by omega)
    have hW := hW0.fL hsh aLk_39 hF
    have hdr2 : -1000000 ≤ (I 42 1).toInt ∧ (I 42 1).toInt ≤ 1000000 := by rw [hF 42 1 (by decide)]; exact hdr
    have hfr := fdF_rg (D := D) (cd := cd) (X := X) (e := e) (t := true) i
    have hy := hXi.2
    have hkr := dk_rg (b := (seaN D cd X i).2.1) (g := (seaN D cd X i).2.2.1)
    refine w_iload c_89_44 rfl ?_
    refine w_iload c_89_46 rfl ?_
    refine z_ic_gt c_89_48 (by first | exact aRg_of _ | (unfold aRg; omega)) (by first | exact aRg_of _ | (unfold aRg; omega)) (fun h1_ => ?_) (fun h1_ => ?_)
    · have e9 : i = m + 1 := by omega
      subst e9
      exact k I hF
    · refine w_aload c_89_51 rfl ?_
      refine w_getR c_89_52 sp_0 (by decide) rfl pr_0_7 ?_
      refine w_aload c_89_55 rfl ?_
      refine w_getR c_89_56 sp_0 (by decide) rfl pr_0_6 ?_
      refine w_iload c_89_59 rfl ?_
      refine wc_49 c_89_60 sp_42 (Nat.le_of_ble_eq_true rfl) (by omega) ?_
      refine tc_canBe hsh aLk_39 hS hW hL hXi he hdr2 (by omega) (fun I1 hf1 => ?_)
      have hL1 := hL.f43 aLk_39 hf1
      have hW1 := hW.f43 hsh hf1
      have hF1 := hF.tr (frP.l (q := 39) hf1)
      have hdr3 : -1000000 ≤ (I1 42 1).toInt ∧ (I1 42 1).toInt ≤ 1000000 := by rw [hf1 42 1 (by decide)]; exact hdr2
      refine r_i ?_
      refine b_if_eq c_89_63 (fun h2_ => ?_) (fun h2_ => ?_)
      · refine w_aload c_89_90 rfl ?_
        refine w_getR c_89_91 sp_0 (by decide) rfl pr_0_7 ?_
        refine w_aload c_89_94 rfl ?_
        refine w_getR c_89_95 sp_0 (by decide) rfl pr_0_6 ?_
        refine z_push c_89_98 ?_
        refine wc_52 c_89_99 sp_42 (Nat.le_of_ble_eq_true rfl) (by omega) ?_
        refine tc_passSeason (dry := 0) hsh aLk_39 hS hW1 hL1 hXi (by decide) hdr3 (by omega) (fun I2 hL2 hF2 => ?_)
        refine r_i ?_
        refine w_pop c_89_102 rfl ?_
        refine z_iinc c_89_103 rfl rfl ?_
        refine w_goto c_89_106 ?_
        have hst := fdF_t (D := D) (cd := cd) (X := X) (e := e) i
        rw [if_neg (fun z => by first | (exfalso; omega) | exact Bool.noConfusion (z.1.symm.trans (by assumption)))] at hst
        have := ih (i + 1) I2 (by omega) (by omega) hL2 (hF1.tr hF2) k
        rw [hst] at this
        exact this
      · refine w_aload c_89_66 rfl ?_
        refine w_getR c_89_67 sp_0 (by decide) rfl pr_0_6 ?_
        refine wc_7 c_89_70 sp_39 (Nat.le_of_ble_eq_true rfl) (by omega) ?_
        refine tc_darkness aLk_39 hL1.2.1 hL1.2.2.1 (by omega) (by omega) ?_
        refine r_i ?_
        refine w_iload c_89_73 rfl ?_
        refine z_ic_le c_89_75 (by first | exact aRg_of _ | (unfold aRg; omega)) (by first | exact aRg_of _ | (unfold aRg; omega)) (fun h3_ => ?_) (fun h3_ => ?_)
        · refine w_aload c_89_90 rfl ?_
          refine w_getR c_89_91 sp_0 (by decide) rfl pr_0_7 ?_
          refine w_aload c_89_94 rfl ?_
          refine w_getR c_89_95 sp_0 (by decide) rfl pr_0_6 ?_
          refine z_push c_89_98 ?_
          refine wc_52 c_89_99 sp_42 (Nat.le_of_ble_eq_true rfl) (by omega) ?_
          refine tc_passSeason (dry := 0) hsh aLk_39 hS hW1 hL1 hXi (by decide) hdr3 (by omega) (fun I2 hL2 hF2 => ?_)
          refine r_i ?_
          refine w_pop c_89_102 rfl ?_
          refine z_iinc c_89_103 rfl rfl ?_
          refine w_goto c_89_106 ?_
          have hst := fdF_t (D := D) (cd := cd) (X := X) (e := e) i
          rw [if_neg (fun z => by first | (exfalso; omega) | exact Bool.noConfusion (z.1.symm.trans (by assumption)))] at hst
          have := ih (i + 1) I2 (by omega) (by omega) hL2 (hF1.tr hF2) k
          rw [hst] at this
          exact this
        · refine w_iload c_89_78 rfl ?_
          refine w_istore c_89_80 (Nat.le_of_ble_eq_true rfl) rfl ?_
          refine w_aload c_89_81 rfl ?_
          refine w_getR c_89_82 sp_0 (by decide) rfl pr_0_6 ?_
          refine wc_7 c_89_85 sp_39 (Nat.le_of_ble_eq_true rfl) (by omega) ?_
          refine tc_darkness aLk_39 hL1.2.1 hL1.2.2.1 (by omega) (by omega) ?_
          refine r_i ?_
          refine w_istore c_89_88 (Nat.le_of_ble_eq_true rfl) rfl ?_
          refine w_aload c_89_90 rfl ?_
          refine w_getR c_89_91 sp_0 (by decide) rfl pr_0_7 ?_
          refine w_aload c_89_94 rfl ?_
          refine w_getR c_89_95 sp_0 (by decide) rfl pr_0_6 ?_
          refine z_push c_89_98 ?_
          refine wc_52 c_89_99 sp_42 (Nat.le_of_ble_eq_true rfl) (by omega) ?_
          refine tc_passSeason (dry := 0) hsh aLk_39 hS hW1 hL1 hXi (by decide) hdr3 (by omega) (fun I2 hL2 hF2 => ?_)
          refine r_i ?_
          refine w_pop c_89_102 rfl ?_
          refine z_iinc c_89_103 rfl rfl ?_
          refine w_goto c_89_106 ?_
          have hst := fdF_t (D := D) (cd := cd) (X := X) (e := e) i
          rw [if_pos ⟨by assumption, by omega⟩] at hst
          have := ih (i + 1) I2 (by omega) (by omega) hL2 (hF1.tr hF2) k
          rw [hst] at this
          exact this

set_option maxHeartbeats 1000000 in
theorem tc_dip {d : Nat} {I : aFI} {L : aFL} {Q : aPo} {sh : Nat} {su : Option Nat} {D : Nat → Int → Int} {cd : Nat → Option (List Int)} {X : Lk} {kc : Int} (hsh : sh = 8 ∨ sh = 22) (hS : wfS D cd) (hW : cW I sh D cd) (hL : lkX I 36 kc X) (hX : lkOK X) {e v : Int} (re : -2147483648 ≤ e ∧ e < 2147483648) (rv : -2147483648 ≤ v ∧ v < 2147483648) (hs : X.1 ≤ 999) (hdr : -1000000 ≤ (I 42 1).toInt ∧ (I 42 1).toInt ≤ 1000000) (hd : 9 ≤ d) (k : ∀ I2 : aFI, frP (PL 39) I I2 → Q (some (.int (iI (dipZ D cd X e v)))) I2 L (aR sh su)) : aWp none d 89 0 [.ref 0, .int (iI e), .int (iI v), .null, .null, .null, .null] [] I L (aR sh su) Q := by
  have hah := ahZ_rg hX hs
  have hnn : (((ahZ X).toNat : Nat) : Int) = ahZ X := Int.toNat_of_nonneg hah.1
  have hdd := hS.n
  have hx1 := hX.1
  have hx2 := hX.2.1
  have hx3 := hX.2.2.1
  have hx4 := hX.2.2.2.1
  refine w_aload c_89_0 rfl ?_
  refine w_iload c_89_1 rfl ?_
  refine wc_112 c_89_2 sp_0 (Nat.le_of_ble_eq_true rfl) (by omega) ?_
  refine tc_isDeed hsh hS hW re ?_
  refine r_i ?_
  refine b_if_eq c_89_5 (fun h1_ => ?_) (fun h1_ => ?_)
  · refine z_push c_89_17 ?_
    refine z_ret c_89_18 rfl ?_
    refine q_i (k _ frP.rf) ?_
    unfold dipZ
    first
    | (rw [if_neg (by omega)]; done)
    | (rw [if_neg (fun z => Bool.noConfusion ((decide_eq_true z.1).symm.trans (show _ = false by assumption)))]; done)
  · refine w_iload c_89_8 rfl ?_
    refine z_if_lt c_89_9 (by first | exact aRg_of _ | (unfold aRg; omega)) (fun h2_ => ?_) (fun h2_ => ?_)
    · refine z_push c_89_17 ?_
      refine z_ret c_89_18 rfl ?_
      refine q_i (k _ frP.rf) ?_
      unfold dipZ
      first
      | (rw [if_neg (by omega)]; done)
      | (rw [if_neg (fun z => Bool.noConfusion ((decide_eq_true z.1).symm.trans (show _ = false by assumption)))]; done)
    · refine w_iload c_89_12 rfl ?_
      refine z_push c_89_13 ?_
      refine z_ic_le c_89_14 (by first | exact aRg_of _ | (unfold aRg; omega)) (by first | exact aRg_of _ | (unfold aRg; omega)) (fun h3_ => ?_) (fun h3_ => ?_)
      · refine z_push c_89_19 ?_
        refine w_istore c_89_20 (Nat.le_of_ble_eq_true rfl) rfl ?_
        refine z_push c_89_21 ?_
        refine w_istore c_89_22 (Nat.le_of_ble_eq_true rfl) rfl ?_
        refine w_aload c_89_24 rfl ?_
        refine wc_114 c_89_25 sp_0 (Nat.le_of_ble_eq_true rfl) (by omega) ?_
        refine tc_seasonsAhead hsh hS hW hL hX (by omega) ?_
        refine r_i ?_
        refine w_istore c_89_28 (Nat.le_of_ble_eq_true rfl) rfl ?_
        refine w_aload c_89_30 rfl ?_
        refine w_getR c_89_31 sp_0 (by decide) rfl pr_0_6 ?_
        refine w_aload c_89_34 rfl ?_
        refine w_getR c_89_35 sp_0 (by decide) rfl pr_0_5 ?_
        refine wc_6 c_89_38 sp_39 (Nat.le_of_ble_eq_true rfl) (by omega) ?_
        refine tc_copyOf aLk_39 aLk_36 (by decide) hL (by omega) (fun I1 hL1 hF1 => ?_)
        have hF1 : frP (PL 39) I I1 := hF1.mono (fun q hq => Or.inr hq)
        have hW1 := hW.fL hsh aLk_39 hF1
        have hdr1 : -1000000 ≤ (I1 42 1).toInt ∧ (I1 42 1).toInt ≤ 1000000 := by rw [hF1 42 1 (by decide)]; exact hdr
        refine r_v ?_
        refine z_push c_89_41 ?_
        refine w_istore c_89_42 (Nat.le_of_ble_eq_true rfl) rfl ?_
        have hdb : 0 ≤ e ∧ e < D 1 2 := of_decide_eq_true (by assumption)
        rw [← hnn]
        refine tc_dip_1 hsh hS hW1 hX (by omega) (by omega) hdb hdr1 (by omega) _ 0 I1 (Nat.lt_succ_self _) (by omega) hL1 frP.rf (fun I2 h2 => ?_)
        have hfr := fdF_rg (D := D) (cd := cd) (X := X) (e := e) (t := true) ((ahZ X).toNat + 1)
        refine w_iload c_89_109 rfl ?_
        refine z_if_ne c_89_110 (by first | exact aRg_of _ | (unfold aRg; omega)) (fun h21_ => ?_) (fun h21_ => ?_)
        · refine w_iload c_89_117 rfl ?_
          refine z_ret c_89_119 rfl ?_
          refine q_i (k _ (hF1.tr h2)) ?_
          unfold dipZ; rw [if_pos ⟨hdb, by omega⟩]
          (repeat (first | rw [if_pos (by omega)] | rw [if_neg (by omega)]))
        · refine w_iload c_89_113 rfl ?_
          refine w_goto c_89_114 ?_
          refine z_ret c_89_119 rfl ?_
          refine q_i (k _ (hF1.tr h2)) ?_
          unfold dipZ; rw [if_pos ⟨hdb, by omega⟩]
          (repeat (first | rw [if_pos (by omega)] | rw [if_neg (by omega)]))
      · refine z_push c_89_17 ?_
        refine z_ret c_89_18 rfl ?_
        refine q_i (k _ frP.rf) ?_
        unfold dipZ
        first
        | (rw [if_neg (by omega)]; done)
        | (rw [if_neg (fun z => Bool.noConfusion ((decide_eq_true z.1).symm.trans (show _ = false by assumption)))]; done)

set_option maxHeartbeats 1000000 in
theorem t_missed_1 {d : Nat} {I : aFI} {L : aFL} {Q : aPo} {sh : Nat} {su : Option Nat} {D : Nat → Int → Int} {cd : Nat → Option (List Int)} {X : Lk} (hS : wfS D cd) (hR : rS I D cd X) (hX : lkOK X) (hd : 1 ≤ d) : ∀ (n : Nat) (i : Int), (D 1 2 - i).toNat < n → (0 ≤ i) → (i ≤ D 1 2) → (Q (some (.int (iI ((msZ D X : Nat) : Int)))) I L (aR sh su)) → aWp none d 198 4 [.ref 157, .int (iI ((bb (fun j : Nat => !X.2.2.2.1.testBit j && decide (D 9 j < X.1)) i.toNat : Nat) : Int)), .int (iI i)] [] I L (aR sh su) Q := by
  intro n
  induction n with
  | zero => intro i h; omega
  | succ n ih =>
    intro i hn h0 h1 k
    have hdd := hS.n
    have hx1 := hX.1
    have hit : ((i.toNat : Nat) : Int) = i := Int.toNat_of_nonneg h0
    have hst : (i + 1).toNat = i.toNat + 1 := by omega
    have hde := hS.de h0
    refine w_iload c_198_4 rfl ?_
    refine w_aload c_198_5 rfl ?_
    refine wc_161 c_198_6 sp_157 (Nat.le_of_ble_eq_true rfl) (by omega) ?_
    refine t_deedMany hR.1.1 ?_
    refine r_i ?_
    refine z_ic_ge c_198_9 (by first | exact aRg_of _ | (unfold aRg; omega)) (by first | exact aRg_of _ | (unfold aRg; omega)) (fun h1_ => ?_) (fun h1_ => ?_)
    · refine w_iload c_198_46 rfl ?_
      refine z_ret c_198_47 rfl ?_
      refine q_i k ?_
      unfold msZ
      rw [show i = D 1 2 by omega]
    · refine w_aload c_198_12 rfl ?_
      refine w_iload c_198_13 rfl ?_
      refine wc_163 c_198_14 sp_157 (Nat.le_of_ble_eq_true rfl) (by omega) ?_
      have hde := hde (by omega)
      refine t_isWritten hR.2 ⟨h0, by omega⟩ ?_
      refine r_i ?_
      refine b_if_ne c_198_17 (fun h2_ => ?_) (fun h2_ => ?_)
      · refine z_iinc c_198_40 rfl rfl ?_
        refine w_goto c_198_43 ?_
        have e9 : bb (fun j : Nat => !X.2.2.2.1.testBit j && decide (D 9 j < X.1)) (i + 1).toNat = bb (fun j : Nat => !X.2.2.2.1.testBit j && decide (D 9 j < X.1)) i.toNat := by
          rw [hst]; simp only [bb, hit]
          rw [if_neg (fun z => by simp only [Bool.and_eq_true, decide_eq_true_eq, Bool.not_eq_true'] at z; first | (exfalso; omega) | exact Bool.noConfusion (z.1.symm.trans (show tb X.2.2.2.1 i = true by assumption)))]
        have := ih (i + 1) (by omega) (by omega) (by omega) k
        rw [e9] at this
        exact this
      · refine w_aload c_198_20 rfl ?_
        refine w_getR c_198_21 sp_157 (by decide) rfl pr_157_58 ?_
        refine z_push c_198_24 ?_
        refine z_iaload c_198_25 sp_202 (by omega) (by first | decide | omega) hR.2.1 ?_
        refine w_aload c_198_26 rfl ?_
        refine w_iload c_198_27 rfl ?_
        refine wc_166 c_198_28 sp_157 (Nat.le_of_ble_eq_true rfl) (by omega) ?_
        refine t_termOf hR.1.1 ⟨h0, by omega⟩ (by omega) ?_
        refine r_i ?_
        refine z_ic_le c_198_31 (by first | exact aRg_of _ | (unfold aRg; omega)) (by first | exact aRg_of _ | (unfold aRg; omega)) (fun h3_ => ?_) (fun h3_ => ?_)
        · refine z_iinc c_198_40 rfl rfl ?_
          refine w_goto c_198_43 ?_
          have e9 : bb (fun j : Nat => !X.2.2.2.1.testBit j && decide (D 9 j < X.1)) (i + 1).toNat = bb (fun j : Nat => !X.2.2.2.1.testBit j && decide (D 9 j < X.1)) i.toNat := by
            rw [hst]; simp only [bb, hit]
            rw [if_neg (fun z => by simp only [Bool.and_eq_true, decide_eq_true_eq, Bool.not_eq_true'] at z; first | (exfalso; omega) | exact Bool.noConfusion (z.1.symm.trans (show tb X.2.2.2.1 i = true by assumption)))]
          have := ih (i + 1) (by omega) (by omega) (by omega) k
          rw [e9] at this
          exact this
        · refine w_iload c_198_34 rfl ?_
          refine z_push c_198_35 ?_
          refine w_iload c_198_36 rfl ?_
          refine w_ishl c_198_37 (shl1 (by omega)) ?_
          refine w_ior c_198_38 (iI_or _ _) ?_
          refine w_istore c_198_39 (Nat.le_of_ble_eq_true rfl) rfl ?_
          refine z_iinc c_198_40 rfl rfl ?_
          refine w_goto c_198_43 ?_
          have e9 : bb (fun j : Nat => !X.2.2.2.1.testBit j && decide (D 9 j < X.1)) (i + 1).toNat = bb (fun j : Nat => !X.2.2.2.1.testBit j && decide (D 9 j < X.1)) i.toNat ||| 2 ^ i.toNat := by
            rw [hst]; simp only [bb, hit]
            rw [if_pos (by rw [show X.2.2.2.1.testBit i.toNat = false by assumption, Bool.not_false, Bool.true_and]; exact decide_eq_true (by omega))]
          have := ih (i + 1) (by omega) (by omega) (by omega) k
          rw [e9] at this
          exact this

set_option maxHeartbeats 1000000 in
theorem t_missed {d : Nat} {I : aFI} {L : aFL} {Q : aPo} {sh : Nat} {su : Option Nat} {D : Nat → Int → Int} {cd : Nat → Option (List Int)} {X : Lk} (hS : wfS D cd) (hR : rS I D cd X) (hX : lkOK X) (hd : 1 ≤ d) (k : Q (some (.int (iI ((msZ D X : Nat) : Int)))) I L (aR sh su)) : aWp none d 198 0 [.ref 157, .null, .null] [] I L (aR sh su) Q := by
  have hdd := hS.n
  refine z_push c_198_0 ?_
  refine w_istore c_198_1 (Nat.le_of_ble_eq_true rfl) rfl ?_
  refine z_push c_198_2 ?_
  refine w_istore c_198_3 (Nat.le_of_ble_eq_true rfl) rfl ?_
  exact t_missed_1 hS hR hX hd _ 0 (Nat.lt_succ_self _) (by omega) (by omega) k

set_option maxHeartbeats 1000000 in
theorem tc_missed_1 {d : Nat} {I : aFI} {L : aFL} {Q : aPo} {sh : Nat} {su : Option Nat} {D : Nat → Int → Int} {cd : Nat → Option (List Int)} {X : Lk} {kc : Int} (hsh : sh = 8 ∨ sh = 22) (hS : wfS D cd) (hW : cW I sh D cd) (hL : lkX I 36 kc X) (hX : lkOK X) (hd : 1 ≤ d) : ∀ (n : Nat) (i : Int), (D 1 2 - i).toNat < n → (0 ≤ i) → (i ≤ D 1 2) → (Q (some (.int (iI ((msZ D X : Nat) : Int)))) I L (aR sh su)) → aWp none d 90 4 [.ref 0, .int (iI ((bb (fun j : Nat => !X.2.2.2.1.testBit j && decide (D 9 j < X.1)) i.toNat : Nat) : Int)), .int (iI i)] [] I L (aR sh su) Q := by
  intro n
  induction n with
  | zero => intro i h; omega
  | succ n ih =>
    intro i hn h0 h1 k
    have hdd := hS.n
    have hx1 := hX.1
    have hit : ((i.toNat : Nat) : Int) = i := Int.toNat_of_nonneg h0
    have hst : (i + 1).toNat = i.toNat + 1 := by omega
    have hde := hS.de h0
    refine w_iload c_90_4 rfl ?_
    refine w_aload c_90_5 rfl ?_
    refine w_getR c_90_6 sp_0 (by decide) rfl pr_0_3 ?_
    refine w_getR c_90_9 (sps_0 hsh) (by decide) rfl (prs_4 hsh) ?_
    refine z_push c_90_12 ?_
    refine z_iaload c_90_13 (sps_1 hsh) (by omega) (by first | decide | omega) (hW.1.a 1 (by omega) (by omega)) ?_
    refine z_ic_ge c_90_14 (by first | exact aRg_of _ | (unfold aRg; omega)) (by first | exact aRg_of _ | (unfold aRg; omega)) (fun h1_ => ?_) (fun h1_ => ?_)
    · refine w_iload c_90_59 rfl ?_
      refine z_ret c_90_60 rfl ?_
      refine q_i k ?_
      unfold msZ
      rw [show i = D 1 2 by omega]
    · refine w_aload c_90_17 rfl ?_
      refine w_getR c_90_18 sp_0 (by decide) rfl pr_0_5 ?_
      refine w_iload c_90_21 rfl ?_
      refine wc_8 c_90_22 sp_36 (Nat.le_of_ble_eq_true rfl) (by omega) ?_
      have hde := hde (by omega)
      refine tc_isWritten aLk_36 hL hX.2.2.2.1 ⟨h0, by omega⟩ ?_
      refine r_i ?_
      refine b_if_ne c_90_25 (fun h2_ => ?_) (fun h2_ => ?_)
      · refine z_iinc c_90_53 rfl rfl ?_
        refine w_goto c_90_56 ?_
        have e9 : bb (fun j : Nat => !X.2.2.2.1.testBit j && decide (D 9 j < X.1)) (i + 1).toNat = bb (fun j : Nat => !X.2.2.2.1.testBit j && decide (D 9 j < X.1)) i.toNat := by
          rw [hst]; simp only [bb, hit]
          rw [if_neg (fun z => by simp only [Bool.and_eq_true, decide_eq_true_eq, Bool.not_eq_true'] at z; first | (exfalso; omega) | exact Bool.noConfusion (z.1.symm.trans (show tb X.2.2.2.1 i = true by assumption)))]
        have := ih (i + 1) (by omega) (by omega) (by omega) k
        rw [e9] at this
        exact this
      · refine w_aload c_90_28 rfl ?_
        refine w_getR c_90_29 sp_0 (by decide) rfl pr_0_5 ?_
        refine z_getZ c_90_32 sp_36 (by decide) rfl hL.1 ?_
        refine w_aload c_90_35 rfl ?_
        refine w_getR c_90_36 sp_0 (by decide) rfl pr_0_3 ?_
        refine w_getR c_90_39 (sps_0 hsh) (by decide) rfl (prs_12 hsh) ?_
        refine w_iload c_90_42 rfl ?_
        refine z_iaload c_90_43 (sps_9 hsh) (by omega) (by first | decide | omega) (hW.1.a 9 (by omega) (by omega)) ?_
        refine z_ic_le c_90_44 (by first | exact aRg_of _ | (unfold aRg; omega)) (by first | exact aRg_of _ | (unfold aRg; omega)) (fun h3_ => ?_) (fun h3_ => ?_)
        · refine z_iinc c_90_53 rfl rfl ?_
          refine w_goto c_90_56 ?_
          have e9 : bb (fun j : Nat => !X.2.2.2.1.testBit j && decide (D 9 j < X.1)) (i + 1).toNat = bb (fun j : Nat => !X.2.2.2.1.testBit j && decide (D 9 j < X.1)) i.toNat := by
            rw [hst]; simp only [bb, hit]
            rw [if_neg (fun z => by simp only [Bool.and_eq_true, decide_eq_true_eq, Bool.not_eq_true'] at z; first | (exfalso; omega) | exact Bool.noConfusion (z.1.symm.trans (show tb X.2.2.2.1 i = true by assumption)))]
          have := ih (i + 1) (by omega) (by omega) (by omega) k
          rw [e9] at this
          exact this
        · refine w_iload c_90_47 rfl ?_
          refine z_push c_90_48 ?_
          refine w_iload c_90_49 rfl ?_
          refine w_ishl c_90_50 (shl1 (by omega)) ?_
          refine w_ior c_90_51 (iI_or _ _) ?_
          refine w_istore c_90_52 (Nat.le_of_ble_eq_true rfl) rfl ?_
          refine z_iinc c_90_53 rfl rfl ?_
          refine w_goto c_90_56 ?_
          have e9 : bb (fun j : Nat => !X.2.2.2.1.testBit j && decide (D 9 j < X.1)) (i + 1).toNat = bb (fun j : Nat => !X.2.2.2.1.testBit j && decide (D 9 j < X.1)) i.toNat ||| 2 ^ i.toNat := by
            rw [hst]; simp only [bb, hit]
            rw [if_pos (by rw [show X.2.2.2.1.testBit i.toNat = false by assumption, Bool.not_false, Bool.true_and]; exact decide_eq_true (by omega))]
          have := ih (i + 1) (by omega) (by omega) (by omega) k
          rw [e9] at this
          exact this

set_option maxHeartbeats 1000000 in
theorem tc_missed {d : Nat} {I : aFI} {L : aFL} {Q : aPo} {sh : Nat} {su : Option Nat} {D : Nat → Int → Int} {cd : Nat → Option (List Int)} {X : Lk} {kc : Int} (hsh : sh = 8 ∨ sh = 22) (hS : wfS D cd) (hW : cW I sh D cd) (hL : lkX I 36 kc X) (hX : lkOK X) (hd : 1 ≤ d) (k : Q (some (.int (iI ((msZ D X : Nat) : Int)))) I L (aR sh su)) : aWp none d 90 0 [.ref 0, .null, .null] [] I L (aR sh su) Q := by
  have hdd := hS.n
  refine z_push c_90_0 ?_
  refine w_istore c_90_1 (Nat.le_of_ble_eq_true rfl) rfl ?_
  refine z_push c_90_2 ?_
  refine w_istore c_90_3 (Nat.le_of_ble_eq_true rfl) rfl ?_
  exact tc_missed_1 hsh hS hW hL hX hd _ 0 (Nat.lt_succ_self _) (by omega) (by omega) k

