/-! both sides: outflows (p74.py) -/
/-- buckets and grains, season after season, with an outflow ahead of each -/
def ofS (D : Nat → Int → Int) (f : Int) (b g : Int) : Nat → Int × Int
  | 0 => (b, g)
  | k + 1 => (flB D (max 0 ((ofS D f b g k).1 - f) + sumB (D 3) 0 (D 1 0).toNat), flG D (max 0 ((ofS D f b g k).1 - f) + sumB (D 3) 0 (D 1 0).toNat) ((ofS D f b g k).2 + sumB (D 4) 0 (D 1 0).toNat))
def rowV (T : Int → Int) (k : Int) : Int := 256 * T (2 * k) + T (2 * k + 1)
def okF (D : Nat → Int → Int) (T : Int → Int) (f : Int) (b g : Int) : Nat → Bool
  | 0 => true
  | k + 1 => okF D T f b g k && decide ((ofS D f b g (k + 1)).1 = rowV T k)
theorem okF_le {D : Nat → Int → Int} {T : Int → Int} {f b g : Int} {i m : Nat} (h : i ≤ m) (h2 : okF D T f b g m = true) : okF D T f b g i = true := by
  induction m with
  | zero => rw [show i = 0 by omega]; rfl
  | succ m ih =>
    by_cases hi : i = m + 1
    · subst hi; exact h2
    · unfold okF at h2; rw [Bool.and_eq_true] at h2; exact ih (by omega) h2.1
/-- how many outflows, the least, the most -/
def olF (D : Nat → Int → Int) (T : Int → Int) (b g : Int) (m : Nat) : Nat → Int × Int × Int
  | 0 => (0, -1, -1)
  | f + 1 => if okF D T f b g m = true then ((olF D T b g m f).1 + 1, (if (olF D T b g m f).2.1 = -1 then (f : Int) else (olF D T b g m f).2.1), (f : Int)) else olF D T b g m f
theorem olF_rg {D : Nat → Int → Int} {T : Int → Int} {b g : Int} {m : Nat} : ∀ f : Nat, (0 ≤ (olF D T b g m f).1 ∧ (olF D T b g m f).1 ≤ f) ∧ (-1 ≤ (olF D T b g m f).2.1 ∧ (olF D T b g m f).2.1 ≤ f) ∧ ((olF D T b g m f).1 = 0 ↔ (olF D T b g m f).2.1 = -1)
  | 0 => by unfold olF; simp
  | f + 1 => by
    have h := olF_rg (D := D) (T := T) (b := b) (g := g) (m := m) f
    unfold olF
    split
    · refine ⟨⟨?_, ?_⟩, ⟨?_, ?_⟩, ?_⟩ <;> dsimp only <;> (try split) <;> omega
    · exact ⟨⟨h.1.1, by omega⟩, ⟨h.2.1.1, by omega⟩, h.2.2⟩
def ofX (D : Nat → Int → Int) (cd : Nat → Option (List Int)) (f : Int) (X : Lk) : Nat → Lk
  | 0 => X
  | k + 1 => seaX D cd 0 ((ofX D cd f X k).1, max 0 ((ofX D cd f X k).2.1 - f), (ofX D cd f X k).2.2)
section OFX
variable {D : Nat → Int → Int} {cd : Nat → Option (List Int)} {f : Int} {X : Lk}
theorem ofX_bg : ∀ k : Nat, (ofX D cd f X k).2.1 = (ofS D f X.2.1 X.2.2.1 k).1 ∧ (ofX D cd f X k).2.2.1 = (ofS D f X.2.1 X.2.2.1 k).2
  | 0 => ⟨rfl, rfl⟩
  | k + 1 => by
    have h := ofX_bg k
    unfold ofX ofS
    constructor
    · show flB D (max 0 ((ofX D cd f X k).2.1 - f) + _) = _
      rw [h.1]
    · show flG D (max 0 ((ofX D cd f X k).2.1 - f) + _) ((ofX D cd f X k).2.2.1 + _) = _
      rw [h.1, h.2]
theorem ofX_s : ∀ k : Nat, (ofX D cd f X k).1 = X.1 + k
  | 0 => by show X.1 = X.1 + 0; omega
  | k + 1 => by have := ofX_s k; show (ofX D cd f X k).1 + 1 = _; omega
theorem ofX_in {n : Nat} (hX : lkOK (ofX D cd f X n)) (hf : 0 ≤ f) : lkOK ((ofX D cd f X n).1, max 0 ((ofX D cd f X n).2.1 - f), (ofX D cd f X n).2.2) := by
  refine ⟨hX.1, ?_, hX.2.2⟩
  have := hX.2.1
  show 0 ≤ max 0 _ ∧ max 0 _ ≤ 30000
  omega
theorem ofX_ok (hS : wfS D cd) (hX : lkOK X) (hf : 0 ≤ f) : ∀ k : Nat, X.1 + k ≤ 1000 → lkOK (ofX D cd f X k)
  | 0, _ => hX
  | k + 1, h => seaX_ok hS (ofX_in (ofX_ok hS hX hf k (by omega)) hf) (by show (ofX D cd f X k).1 ≤ 999; rw [ofX_s]; omega)
end OFX
theorem ofS_rg {D : Nat → Int → Int} {cd : Nat → Option (List Int)} {f b g : Int} (hS : wfS D cd) (hb : 0 ≤ b ∧ b ≤ 30000) (hg : 0 ≤ g ∧ g ≤ 30000) (hf : 0 ≤ f) : ∀ k : Nat, (0 ≤ (ofS D f b g k).1 ∧ (ofS D f b g k).1 ≤ 30000) ∧ (0 ≤ (ofS D f b g k).2 ∧ (ofS D f b g k).2 ≤ 30000)
  | 0 => ⟨hb, hg⟩
  | k + 1 => by
    have h := ofS_rg hS hb hg hf k
    have hdd := hS.n
    have hhh := hS.h
    have hs3 := sumB_rg (f := D 3) (dry := 0) (m := (D 1 0).toNat) (fun j z1 z2 => (hS.br z1 (by omega)).1) (D 1 0).toNat (by omega)
    have hs4 := sumB_rg (f := D 4) (dry := 0) (m := (D 1 0).toNat) (fun j z1 z2 => (hS.br z1 (by omega)).2) (D 1 0).toNat (by omega)
    have h1 := flB_rg (b := max 0 ((ofS D f b g k).1 - f) + sumB (D 3) 0 (D 1 0).toNat) hS (by omega)
    have h2 := flG_rg (b := max 0 ((ofS D f b g k).1 - f) + sumB (D 3) 0 (D 1 0).toNat) (g := (ofS D f b g k).2 + sumB (D 4) 0 (D 1 0).toNat) hS (by omega) (by omega)
    unfold ofS
    exact ⟨⟨h1.1, by show flB D _ ≤ 30000; omega⟩, ⟨h2.1, by show flG D _ _ ≤ 30000; omega⟩⟩
set_option maxHeartbeats 2000000 in
theorem t_isFlow_1 {d : Nat} {I0 : aFI} {L0 : aFL} {Q : aPo} {sh : Nat} {su : Option Nat} {D : Nat → Int → Int} {cd : Nat → Option (List Int)} {X : Lk} {T : Int → Int} {f : Int} {m : Nat} (hS : wfS D cd) (hX : lkOK X) (hf : 0 ≤ f ∧ f ≤ 999) (hm : X.1 + m ≤ 999) (hm2 : m ≤ 10) (hrw : ∀ j : Int, 0 ≤ j → j < m → I0 206 j.toNat = iI (rowV T j)) (hTr : ∀ j : Int, 0 ≤ T j ∧ T j ≤ 255) (hd : 5 ≤ d) : ∀ (n : Nat) (i : Nat) (I : aFI) (L : aFL), m + 1 - i < n → (i ≤ m) → (okF D T f X.2.1 X.2.2.1 i = true) → (rS I D cd (ofX D cd f X i)) → (frG PT I0 I) → (frG LK L0 L) → (∀ (I2 : aFI) (L2 : aFL) , rW I2 D cd → frG PT I0 I2 → frG LK L0 L2 → Q (some (.int (aBo (okF D T f X.2.1 X.2.2.1 m)))) I2 L2 (aR sh su)) → aWp none d 204 2 [.ref 157, .int (iI f), .int (iI (m : Int)), .int (iI (i : Int))] [] I L (aR sh su) Q := by
  intro n
  induction n with
  | zero => intro i I L h; omega
  | succ n ih =>
    intro i I L hn2 h1 hok hR hF hG k
    have hss := ofX_s (D := D) (cd := cd) (f := f) (X := X) i
    have hbg := ofX_bg (D := D) (cd := cd) (f := f) (X := X) (i + 1)
    have hXi := ofX_ok (cd := cd) hS hX hf.1 i (by omega)
    have hb1 := hXi.2.1
    have hXn := ofX_in hXi hf.1
    have hor := ofS_rg (D := D) (cd := cd) hS hX.2.1 hX.2.2.1 hf.1 (i + 1)
    have hte := hTr (2 * i)
    have hte2 := hTr (2 * i + 1)
    have hrv : rowV T i = 256 * T (2 * i) + T (2 * i + 1) := rfl
    have hst : okF D T f X.2.1 X.2.2.1 (i + 1) = (okF D T f X.2.1 X.2.2.1 i && decide ((ofS D f X.2.1 X.2.2.1 (i + 1)).1 = rowV T i)) := rfl
    refine w_iload c_204_2 rfl ?_
    refine w_iload c_204_3 rfl ?_
    refine z_ic_ge c_204_4 (by first | exact aRg_of _ | (unfold aRg; omega)) (by first | exact aRg_of _ | (unfold aRg; omega)) (fun h1_ => ?_) (fun h1_ => ?_)
    · refine z_push c_204_65 ?_
      refine z_ret1 c_204_66 rfl ?_
      have e9 : i = m := by omega
      subst e9
      exact q_b (k _ _ hR.1 hF hG) hok
    · refine w_aload c_204_7 rfl ?_
      refine w_getR c_204_8 sp_157 (by decide) rfl pr_157_58 ?_
      refine z_push c_204_11 ?_
      refine w_aload c_204_12 rfl ?_
      refine w_getR c_204_13 sp_157 (by decide) rfl pr_157_58 ?_
      refine z_push c_204_16 ?_
      refine z_iaload c_204_17 sp_202 (by omega) (by first | decide | omega) hR.2.2.1 ?_
      refine w_iload c_204_18 rfl ?_
      refine z_ic_le c_204_19 (by first | exact aRg_of _ | (unfold aRg; omega)) (by first | exact aRg_of _ | (unfold aRg; omega)) (fun h2_ => ?_) (fun h2_ => ?_)
      · refine z_push c_204_33 ?_
        refine z_iastore c_204_34 sp_202 (by omega) (by decide) ?_
        refine upG_k hF (Or.inr (Or.inr ⟨rfl, by decide⟩)) (fun I1 hi hF1 => ?_)
        have hR1 : rS I1 D cd ((ofX D cd f X i).1, max 0 ((ofX D cd f X i).2.1 - f), (ofX D cd f X i).2.2) := ⟨hR.1.fr (fun q k z1 z2 => by rw [hi]; exact up_ne (by omega)) (by rw [hi]; exact up_ne (by omega)), (nLk.pb hR.2 hi).cast rfl (by show _ = max 0 _; omega) rfl rfl rfl rfl⟩
        refine w_aload c_204_35 rfl ?_
        refine z_push c_204_36 ?_
        refine z_push c_204_37 ?_
        refine z_push c_204_38 ?_
        refine wc_175 c_204_39 sp_157 (Nat.le_of_ble_eq_true rfl) (by omega) ?_
        refine t_seasonGoes0 (dry := 0) hS hR1 hXn (by decide) rfl (iI_of _) (by omega) (fun I2 L2 hR2 hov2 hF2 hG2 => ?_)
        have hR2 : rS I2 D cd (ofX D cd f X (i + 1)) := hR2
        have hF2 := hF1.tr hF2
        have hb2 : I2 202 1 = iI (ofS D f X.2.1 X.2.2.1 (i + 1)).1 := by rw [← hbg.1]; exact hR2.2.2.1
        refine r_v ?_
        refine w_aload c_204_42 rfl ?_
        refine w_getR c_204_43 sp_157 (by decide) rfl pr_157_58 ?_
        refine z_push c_204_46 ?_
        refine z_iaload c_204_47 sp_202 (by omega) (by first | decide | omega) hb2 ?_
        refine w_aload c_204_48 rfl ?_
        refine w_getR c_204_49 sp_157 (by decide) rfl pr_157_66 ?_
        refine w_iload c_204_52 rfl ?_
        refine z_iaload c_204_53 sp_206 (by omega) (by first | decide | omega) ((hF2 206 _ (by omega)).trans (hrw i (by omega) (by omega))) ?_
        refine z_ic_eq c_204_54 (by first | exact aRg_of _ | (unfold aRg; omega)) (by first | exact aRg_of _ | (unfold aRg; omega)) (fun h3_ => ?_) (fun h3_ => ?_)
        · refine z_iinc c_204_59 rfl rfl ?_
          refine w_goto c_204_62 ?_
          exact ih (i + 1) I2 L2 (by omega) (by omega) (by rw [hst, hok]; exact decide_eq_true (by omega)) hR2 hF2 (hG.tr hG2) k
        · refine z_push c_204_57 ?_
          refine z_ret0 c_204_58 rfl ?_
          refine q_b (k _ _ hR2.1 hF2 (hG.tr hG2)) ?_
          cases hq : okF D T f X.2.1 X.2.2.1 m
          · rfl
          · have hq2 := okF_le (i := i + 1) (by omega) hq
            rw [hst, hok, Bool.true_and, decide_eq_true_eq] at hq2
            omega
      · refine w_aload c_204_22 rfl ?_
        refine w_getR c_204_23 sp_157 (by decide) rfl pr_157_58 ?_
        refine z_push c_204_26 ?_
        refine z_iaload c_204_27 sp_202 (by omega) (by first | decide | omega) hR.2.2.1 ?_
        refine w_iload c_204_28 rfl ?_
        refine z_isub c_204_29 ?_
        refine w_goto c_204_30 ?_
        refine z_iastore c_204_34 sp_202 (by omega) (by decide) ?_
        refine upG_k hF (Or.inr (Or.inr ⟨rfl, by decide⟩)) (fun I1 hi hF1 => ?_)
        have hR1 : rS I1 D cd ((ofX D cd f X i).1, max 0 ((ofX D cd f X i).2.1 - f), (ofX D cd f X i).2.2) := ⟨hR.1.fr (fun q k z1 z2 => by rw [hi]; exact up_ne (by omega)) (by rw [hi]; exact up_ne (by omega)), (nLk.pb hR.2 hi).cast rfl (by show _ = max 0 _; omega) rfl rfl rfl rfl⟩
        refine w_aload c_204_35 rfl ?_
        refine z_push c_204_36 ?_
        refine z_push c_204_37 ?_
        refine z_push c_204_38 ?_
        refine wc_175 c_204_39 sp_157 (Nat.le_of_ble_eq_true rfl) (by omega) ?_
        refine t_seasonGoes0 (dry := 0) hS hR1 hXn (by decide) rfl (iI_of _) (by omega) (fun I2 L2 hR2 hov2 hF2 hG2 => ?_)
        have hR2 : rS I2 D cd (ofX D cd f X (i + 1)) := hR2
        have hF2 := hF1.tr hF2
        have hb2 : I2 202 1 = iI (ofS D f X.2.1 X.2.2.1 (i + 1)).1 := by rw [← hbg.1]; exact hR2.2.2.1
        refine r_v ?_
        refine w_aload c_204_42 rfl ?_
        refine w_getR c_204_43 sp_157 (by decide) rfl pr_157_58 ?_
        refine z_push c_204_46 ?_
        refine z_iaload c_204_47 sp_202 (by omega) (by first | decide | omega) hb2 ?_
        refine w_aload c_204_48 rfl ?_
        refine w_getR c_204_49 sp_157 (by decide) rfl pr_157_66 ?_
        refine w_iload c_204_52 rfl ?_
        refine z_iaload c_204_53 sp_206 (by omega) (by first | decide | omega) ((hF2 206 _ (by omega)).trans (hrw i (by omega) (by omega))) ?_
        refine z_ic_eq c_204_54 (by first | exact aRg_of _ | (unfold aRg; omega)) (by first | exact aRg_of _ | (unfold aRg; omega)) (fun h4_ => ?_) (fun h4_ => ?_)
        · refine z_iinc c_204_59 rfl rfl ?_
          refine w_goto c_204_62 ?_
          exact ih (i + 1) I2 L2 (by omega) (by omega) (by rw [hst, hok]; exact decide_eq_true (by omega)) hR2 hF2 (hG.tr hG2) k
        · refine z_push c_204_57 ?_
          refine z_ret0 c_204_58 rfl ?_
          refine q_b (k _ _ hR2.1 hF2 (hG.tr hG2)) ?_
          cases hq : okF D T f X.2.1 X.2.2.1 m
          · rfl
          · have hq2 := okF_le (i := i + 1) (by omega) hq
            rw [hst, hok, Bool.true_and, decide_eq_true_eq] at hq2
            omega

set_option maxHeartbeats 1000000 in
theorem t_isFlow {d : Nat} {I : aFI} {L : aFL} {Q : aPo} {sh : Nat} {su : Option Nat} {D : Nat → Int → Int} {cd : Nat → Option (List Int)} {X : Lk} {T : Int → Int} {f : Int} {m : Nat} (hS : wfS D cd) (hX : lkOK X) (hf : 0 ≤ f ∧ f ≤ 999) (hm : X.1 + m ≤ 999) (hm2 : m ≤ 10) (hrw : ∀ j : Int, 0 ≤ j → j < m → I 206 j.toNat = iI (rowV T j)) (hTr : ∀ j : Int, 0 ≤ T j ∧ T j ≤ 255) (hd : 5 ≤ d) (hR : rS I D cd X) (k : ∀ (I2 : aFI) (L2 : aFL) , rW I2 D cd → frG PT I I2 → frG LK L L2 → Q (some (.int (aBo (okF D T f X.2.1 X.2.2.1 m)))) I2 L2 (aR sh su)) : aWp none d 204 0 [.ref 157, .int (iI f), .int (iI (m : Int)), .null] [] I L (aR sh su) Q := by
  refine z_push c_204_0 ?_
  refine w_istore c_204_1 (Nat.le_of_ble_eq_true rfl) rfl ?_
  exact t_isFlow_1 hS hX hf hm hm2 hrw hTr hd _ 0 I L (Nat.lt_succ_self _) (by omega) rfl hR frG.rf frG.rf k

set_option maxHeartbeats 1000000 in
theorem tc_pairAt {d : Nat} {I : aFI} {L : aFL} {Q : aPo} {sh : Nat} {su : Option Nat} {T : Int → Int} {e : Int} (hT : ∀ j : Int, 0 ≤ j → j < 1600 → I 1 j.toNat = iI (T j)) (hTr : ∀ j : Int, 0 ≤ T j ∧ T j ≤ 255) (he : 0 ≤ e ∧ e < 1599) (k : Q (some (.int (iI (256 * T e + T (e + 1))))) I L (aR sh su)) : aWp none d 111 0 [.ref 0, .int (iI e)] [] I L (aR sh su) Q := by
  refine w_aload c_111_0 rfl ?_
  refine w_getR c_111_1 sp_0 (by decide) rfl pr_0_0 ?_
  refine w_iload c_111_4 rfl ?_
  refine z_iaload c_111_5 sp_1 (by omega) (by first | decide | omega) (hT _ (by omega) (by omega)) ?_
  refine z_push c_111_6 ?_
  refine z_imul c_111_9 ?_
  refine w_aload c_111_10 rfl ?_
  refine w_getR c_111_11 sp_0 (by decide) rfl pr_0_0 ?_
  refine w_iload c_111_14 rfl ?_
  refine z_push c_111_15 ?_
  refine z_iadd c_111_16 ?_
  refine z_iaload c_111_17 sp_1 (by omega) (by first | decide | omega) (hT _ (by omega) (by omega)) ?_
  refine z_iadd c_111_18 ?_
  refine z_ret c_111_19 rfl ?_
  refine q_i k ?_
  rw [Int.mul_comm]

set_option maxHeartbeats 2000000 in
theorem tc_tells_1 {d : Nat} {I0 : aFI} {L : aFL} {Q : aPo} {sh : Nat} {su : Option Nat} {D : Nat → Int → Int} {cd : Nat → Option (List Int)} {X : Lk} {T : Int → Int} {f : Int} {m : Nat} (hsh : sh = 8 ∨ sh = 22) (hS : wfS D cd) (hW0 : cW I0 sh D cd) (hX : lkOK X) (hf : 0 ≤ f ∧ f ≤ 999) (hm2 : m ≤ 10) (hT : ∀ j : Int, 0 ≤ j → j < 1600 → I0 1 j.toNat = iI (T j)) (hTr : ∀ j : Int, 0 ≤ T j ∧ T j ≤ 255) (hd : 4 ≤ d) : ∀ (n : Nat) (i : Nat) (I : aFI), m + 1 - i < n → (i ≤ m) → (okF D T f X.2.1 X.2.2.1 i = true) → (∃ (s : Int) (w : Int) (kc : Int) (ink age : Int → Int), isLk I 39 s (ofS D f X.2.1 X.2.2.1 i).1 (ofS D f X.2.1 X.2.2.1 i).2 w kc ink age) → (frP (PL 39) I0 I) → (∀ I2 : aFI, frP (PL 39) I0 I2 → Q (some (.int (aBo (okF D T f X.2.1 X.2.2.1 m)))) I2 L (aR sh su)) → aWp none d 116 30 [.ref 0, .int (iI f), .int (iI (m : Int)), .int (iI (i : Int))] [] I L (aR sh su) Q := by
  intro n
  induction n with
  | zero => intro i I h; omega
  | succ n ih =>
    intro i I hn2 h1 hok hL hF k
    have hor := ofS_rg (D := D) (cd := cd) hS hX.2.1 hX.2.2.1 hf.1 i
    have hor2 := ofS_rg (D := D) (cd := cd) hS hX.2.1 hX.2.2.1 hf.1 (i + 1)
    have hte := hTr (2 * i)
    have hte2 := hTr (2 * i + 1)
    have hrv : rowV T i = 256 * T (2 * i) + T (2 * i + 1) := rfl
    have hst : okF D T f X.2.1 X.2.2.1 (i + 1) = (okF D T f X.2.1 X.2.2.1 i && decide ((ofS D f X.2.1 X.2.2.1 (i + 1)).1 = rowV T i)) := rfl
    obtain ⟨s, w, kc, ink, age, hL⟩ := hL
    have hW := hW0.fL hsh aLk_39 hF
    refine w_iload c_116_30 rfl ?_
    refine w_iload c_116_31 rfl ?_
    refine z_ic_ge c_116_32 (by first | exact aRg_of _ | (unfold aRg; omega)) (by first | exact aRg_of _ | (unfold aRg; omega)) (fun h1_ => ?_) (fun h1_ => ?_)
    · refine z_push c_116_93 ?_
      refine z_ret1 c_116_94 rfl ?_
      have e9 : i = m := by omega
      subst e9
      exact q_b (k _ hF) hok
    · refine w_aload c_116_35 rfl ?_
      refine w_getR c_116_36 sp_0 (by decide) rfl pr_0_6 ?_
      refine z_push c_116_39 ?_
      refine w_aload c_116_40 rfl ?_
      refine w_getR c_116_41 sp_0 (by decide) rfl pr_0_6 ?_
      refine z_getZ c_116_44 sp_39 (by decide) rfl hL.2.1 ?_
      refine w_iload c_116_47 rfl ?_
      refine z_isub c_116_48 ?_
      refine z_mmax c_116_49 (by omega) (Nat.le_of_ble_eq_true rfl) (by first | exact aRg_of _ | (unfold aRg; omega)) (by first | exact aRg_of _ | (unfold aRg; omega)) ?_
      refine z_putZ c_116_52 sp_39 (by decide) rfl ?_
      refine up_k hF (Or.inr ⟨by omega, by omega⟩) (fun I1 hi hF1 => ?_)
      have hL1 := hi ▸ hL.pb (v := max 0 ((ofS D f X.2.1 X.2.2.1 i).1 - f))
      have hW1 := hW0.fL hsh aLk_39 hF1
      refine w_aload c_116_55 rfl ?_
      refine w_getR c_116_56 sp_0 (by decide) rfl pr_0_7 ?_
      refine w_aload c_116_59 rfl ?_
      refine w_getR c_116_60 sp_0 (by decide) rfl pr_0_6 ?_
      refine z_push c_116_63 ?_
      refine wc_53 c_116_64 sp_42 (Nat.le_of_ble_eq_true rfl) (by omega) ?_
      refine tc_fill (dry := 0) hsh aLk_39 hS hW1 (by omega) (by omega) (by decide) hL1 (by omega) (fun I2 hL2 hF2 => ?_)
      replace hF2 := hF1.tr hF2
      have hL2 : isLk I2 39 s (ofS D f X.2.1 X.2.2.1 (i + 1)).1 (ofS D f X.2.1 X.2.2.1 (i + 1)).2 w kc ink age := hL2
      refine r_i ?_
      refine w_pop c_116_67 rfl ?_
      refine w_aload c_116_68 rfl ?_
      refine w_getR c_116_69 sp_0 (by decide) rfl pr_0_6 ?_
      refine z_getZ c_116_72 sp_39 (by decide) rfl hL2.2.1 ?_
      refine w_aload c_116_75 rfl ?_
      refine z_push c_116_76 ?_
      refine w_iload c_116_77 rfl ?_
      refine z_imul c_116_78 ?_
      refine wc_111 c_116_79 sp_0 (Nat.le_of_ble_eq_true rfl) (by omega) ?_
      refine tc_pairAt (T := T) (fun j z1 z2 => by rw [hF2 1 _ (by decide)]; exact hT j z1 z2) hTr (by omega) ?_
      refine r_i ?_
      refine z_ic_eq c_116_82 (by first | exact aRg_of _ | (unfold aRg; omega)) (by first | exact aRg_of _ | (unfold aRg; omega)) (fun h2_ => ?_) (fun h2_ => ?_)
      · refine z_iinc c_116_87 rfl rfl ?_
        refine w_goto c_116_90 ?_
        exact ih (i + 1) I2 (by omega) (by omega) (by rw [hst, hok]; exact decide_eq_true (by omega)) ⟨s, w, kc, ink, age, hL2⟩ hF2 k
      · refine z_push c_116_85 ?_
        refine z_ret0 c_116_86 rfl ?_
        refine q_b (k _ hF2) ?_
        cases hq : okF D T f X.2.1 X.2.2.1 m
        · rfl
        · have hq2 := okF_le (i := i + 1) (by omega) hq
          rw [hst, hok, Bool.true_and, decide_eq_true_eq] at hq2
          omega

set_option maxHeartbeats 1000000 in
theorem tc_tells {d : Nat} {I : aFI} {L : aFL} {Q : aPo} {sh : Nat} {su : Option Nat} {D : Nat → Int → Int} {cd : Nat → Option (List Int)} {X : Lk} {T : Int → Int} {f kc : Int} {m : Nat} (hsh : sh = 8 ∨ sh = 22) (hS : wfS D cd) (hW0 : cW I sh D cd) (hX : lkOK X) (hf : 0 ≤ f ∧ f ≤ 999) (hm2 : m ≤ 10) (hT : ∀ j : Int, 0 ≤ j → j < 1600 → I 1 j.toNat = iI (T j)) (hTr : ∀ j : Int, 0 ≤ T j ∧ T j ≤ 255) (hd : 4 ≤ d) (hL : lkX I 36 kc X) (k : ∀ I2 : aFI, frP (PL 39) I I2 → Q (some (.int (aBo (okF D T f X.2.1 X.2.2.1 m)))) I2 L (aR sh su)) : aWp none d 116 0 [.ref 0, .int (iI f), .int (iI (m : Int)), .null] [] I L (aR sh su) Q := by
  refine w_aload c_116_0 rfl ?_
  refine w_getR c_116_1 sp_0 (by decide) rfl pr_0_6 ?_
  refine w_aload c_116_4 rfl ?_
  refine w_getR c_116_5 sp_0 (by decide) rfl pr_0_5 ?_
  refine z_getZ c_116_8 sp_36 (by decide) rfl hL.2.1 ?_
  refine z_putZ c_116_11 sp_39 (by decide) rfl ?_
  refine up_k (frP.rf (P := PL 39) (I := I)) (Or.inr ⟨by omega, by omega⟩) (fun I1 hi hF1 => ?_)
  have hL1 := hi ▸ (isLk.any (I := I) (q := 39)).pb (v := X.2.1)
  refine w_aload c_116_14 rfl ?_
  refine w_getR c_116_15 sp_0 (by decide) rfl pr_0_6 ?_
  refine w_aload c_116_18 rfl ?_
  refine w_getR c_116_19 sp_0 (by decide) rfl pr_0_5 ?_
  refine z_getZ c_116_22 sp_36 (by decide) rfl (((hF1 36 2 (by decide)).trans hL.2.2.1)) ?_
  refine z_putZ c_116_25 sp_39 (by decide) rfl ?_
  refine up_k hF1 (Or.inr ⟨by omega, by omega⟩) (fun I2 hi2 hF2 => ?_)
  have hL2 := hi2 ▸ hL1.pg (v := X.2.2.1)
  refine z_push c_116_28 ?_
  refine w_istore c_116_29 (Nat.le_of_ble_eq_true rfl) rfl ?_
  exact tc_tells_1 hsh hS (hW0.fL hsh aLk_39 hF2) hX hf hm2 (fun j z1 z2 => by rw [hF2 1 _ (by decide)]; exact hT j z1 z2) hTr hd _ 0 I2 (Nat.lt_succ_self _) (by omega) rfl ⟨_, _, _, _, _, hL2⟩ frP.rf (fun I3 h3 => k I3 (hF2.tr h3))

