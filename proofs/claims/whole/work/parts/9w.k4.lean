/-! the class: the lake told (p9w.py) -/
def mD (I : aFI) (x : Nat) : Nat → Int → Int := fun b i => (I (x + b) i.toNat).toInt
theorem mD_r {I : aFI} {x : Nat} : rgD (mD I x) := fun _ => aRg_of _
section CD
variable {I I2 : aFI} {x : Nat} {D : Nat → Int → Int} {v : Int}
theorem cD.h (h : cD I x D) {k : Nat} (hk : k = 1 ∨ k = 2 ∨ k = 3 ∨ k = 14 ∨ k = 15 ∨ k = 16) (e : I2 = aUp I x k (iI v)) : cD I2 x (dU D 0 k v) := by
  have ed : ∀ i : Int, ¬ i = k → dU D 0 k v 0 i = D 0 i := fun i hi => dU_ne (fun z => hi z.2)
  have ez : ∀ m : Nat, ¬ m = k → I2 x m = I x m := fun m hm => by rw [e]; exact up_ne (by omega)
  have e1 : I2 x k = iI (dU D 0 k v 0 k) := by rw [e, up_eq, dU_eq]
  have all : ∀ m : Nat, I x m = iI (D 0 m) → I2 x m = iI (dU D 0 k v 0 m) := fun m hm => by
    by_cases z : m = k
    · subst z; exact e1
    · rw [ez m z, ed m (by omega)]; exact hm
  refine ⟨by rw [ez 0 (by omega), ed 0 (by omega)]; exact h.1, ⟨all 1 h.2.1.1, all 2 h.2.1.2.1, all 3 h.2.1.2.2.1, all 14 h.2.1.2.2.2.1, all 15 h.2.1.2.2.2.2.1, all 16 h.2.1.2.2.2.2.2⟩, fun a j h1 h2 h3 => ?_⟩
  rw [dU_ne (by omega), e, up_ne (by omega)]; exact h.2.2 a j h1 h2 h3
theorem cD.t {b : Bool} (h : cD I x D) (e : I2 = aUp I x 0 (aBo b)) : cD I2 x (dU D 0 0 (if b = true then 1 else 0)) := by
  have ed : ∀ i : Int, ¬ i = 0 → dU D 0 0 (if b = true then 1 else 0) 0 i = D 0 i := fun i hi => dU_ne (fun z => hi z.2)
  have ez : ∀ m : Nat, ¬ m = 0 → I2 x m = I x m := fun m hm => by rw [e]; exact up_ne (by omega)
  refine ⟨?_, ⟨?_, ?_, ?_, ?_, ?_, ?_⟩, fun a j h1 h2 h3 => ?_⟩
  · rw [e, up_eq, dU_eq]; cases b <;> rfl
  · rw [ez 1 (by decide), ed 1 (by decide)]; exact h.2.1.1
  · rw [ez 2 (by decide), ed 2 (by decide)]; exact h.2.1.2.1
  · rw [ez 3 (by decide), ed 3 (by decide)]; exact h.2.1.2.2.1
  · rw [ez 14 (by decide), ed 14 (by decide)]; exact h.2.1.2.2.2.1
  · rw [ez 15 (by decide), ed 15 (by decide)]; exact h.2.1.2.2.2.2.1
  · rw [ez 16 (by decide), ed 16 (by decide)]; exact h.2.1.2.2.2.2.2
  · rw [dU_ne (by omega), e, up_ne (by omega)]; exact h.2.2 a j h1 h2 h3
theorem mD_cD (e : I2 = aUp I x 0 (aBo false)) : cD I2 x (dU (mD I x) 0 0 0) := by
  have ed : ∀ i : Int, ¬ i = 0 → dU (mD I x) 0 0 0 0 i = mD I x 0 i := fun i hi => dU_ne (fun z => hi z.2)
  have ez : ∀ m : Nat, ¬ m = 0 → I2 x m = I x m := fun m hm => by rw [e]; exact up_ne (by omega)
  have all : ∀ m : Nat, ¬ m = 0 → I2 x m = iI (dU (mD I x) 0 0 0 0 m) := fun m hm => by
    rw [ez m hm, ed m (by omega)]
    show _ = iI (I (x + 0) ((m : Int)).toNat).toInt
    rw [Int.toNat_natCast]; exact iI_of _
  refine ⟨?_, ⟨all 1 (by decide), all 2 (by decide), all 3 (by decide), all 14 (by decide), all 15 (by decide), all 16 (by decide)⟩, fun a j h1 h2 h3 => ?_⟩
  · rw [e, up_eq, dU_eq]; rfl
  · rw [dU_ne (by omega), e, up_ne (by omega)]; exact iI_of _
end CD
theorem oS_hk {sc : aSc} {d y pc s x m : Nat} {ls st : List Value} {I I0 : aFI} {L : aFL} {R : aFR} {Q : aPo} {S : Rs} {P : Nat → Nat → Prop} {v : Int32} (hs : aSm s) (hx : x = 8 ∨ x = 22) (hF : frG P I0 I) (hp : P x m) (kk : ∀ I2 : aFI, I2 = aUp I x m v → frG P I0 I2 → aWp sc d y pc ls st (oS I2 s S) L R Q) : aWp sc d y pc ls st (aUp (oS I s S) x m v) L R Q := by
  have := sx_ne hs hx (k := 0) (by decide)
  rw [Nat.add_zero] at this
  rw [oS_out this.1 this.2.1 this.2.2]; exact kk _ rfl (hF.up hp)
theorem oS_x0 {I : aFI} {s x m : Nat} {S : Rs} (hs : aSm s) (hx : x = 8 ∨ x = 22) : oS I s S x m = I x m := by
  have := sx_ne hs hx (k := 0) (by decide)
  rw [Nat.add_zero] at this
  exact oS_ne this.1 this.2.1 this.2.2
theorem oF_s {I : aFI} {s : Nat} : oF I s (fun k => (I (s + 2) k.toNat).toInt) (fun k => (I (s + 3) k.toNat).toInt) = I := by
  funext q k
  unfold oF
  split
  · rename_i h; subst h; exact (iI_of (I (s + 2) k)).symm
  · split
    · rename_i h; subst h; exact (iI_of (I (s + 3) k)).symm
    · rfl
theorem tb_sclear {d s : Nat} {I : aFI} {L : aFL} {Q : aPo} {S : Rs} {sh : Nat} {su : Option Nat} (hs : aSm s) (q : ∀ I2 : aFI, (∀ r : Nat, r < 4 → I2 (s + 2) r = iI (-1)) → frG (fun q _ => q = s + 2 ∨ q = s + 3) I I2 → Q none (oS I2 s (rL0 S)) L (aR sh su)) : aWp none d 72 0 [.ref s, .null] [] (oS I s S) L (aR sh su) Q := by
  have e : oN (oF I s (fun k => (I (s + 2) k.toNat).toInt) (fun k => (I (s + 3) k.toNat).toInt)) (fun k => (I 7 k.toNat).toInt) = I := by
    rw [oF_s]; exact oN_s
  rw [← e]
  refine ts_sclear hs (fun FR TO h => q _ (fun r hr => ?_) (fun p k hp => ?_))
  · have h7 : ¬ s + 2 = 7 := by rcases hs with rfl | rfl | rfl <;> decide
    show (if s + 2 = 7 then _ else if s + 2 = s + 2 then iI (FR r) else _) = _
    rw [if_neg h7, if_pos rfl, (h r (by omega) (by omega)).1]
  · unfold oN oF
    by_cases h7 : p = 7
    · rw [if_pos h7]; subst h7; exact (iI_of (I 7 k)).symm
    · rw [if_neg h7, if_neg (fun z => hp (Or.inl z)), if_neg (fun z => hp (Or.inr z))]
abbrev PCl (x : Nat) : Nat → Nat → Prop := fun q k => (q = x ∧ (k = 0 ∨ k = 1 ∨ k = 14 ∨ k = 15 ∨ k = 16)) ∨ (q = x + 1 ∧ k < 3) ∨ q = x + 12 ∨ q = x + 13
/-- what clear() leaves -/
def clD (D : Nat → Int → Int) : Nat → Int → Int := dU (dU (dU (dU (dU (dU (dU (dU D 0 0 0) 0 1 0) 1 0 0) 1 1 0) 1 2 0) 0 14 0) 0 15 1) 0 16 0
set_option maxHeartbeats 2000000 in
theorem tb_clear_12 {d s x : Nat} {I0 : aFI} {L : aFL} {Q : aPo} {S : Rs} {sh : Nat} {su : Option Nat} {D : Nat → Int → Int} (hs : aSm s) (hx : x = 8 ∨ x = 22) (k : ∀ I2 : aFI, cD I2 x (dU (dU (dU D 1 0 0) 1 1 0) 1 2 0) → frG (PCl x) I0 I2 → aWp none d 64 30 [.ref x, .int (iI 3)] [] (oS I2 s S) L (aR sh su) Q) : ∀ (fz : Nat) (i : Int) (I : aFI), (3 - i).toNat < fz → (0 ≤ i) → (i ≤ 3) → (cD I x (fun b p => if b = 1 ∧ 0 ≤ p ∧ p < i then 0 else D b p)) → (frG (PCl x) I0 I) → aWp none d 64 12 [.ref x, .int (iI i)] [] (oS I s S) L (aR sh su) Q := by
  intro fz
  induction fz with
  | zero => intro i I h; omega
  | succ fz ih =>
    intro i I hn2 h0 h1 hD hF
    refine w_iload c_64_12 rfl ?_
    refine z_push c_64_13 ?_
    refine z_ic_ge c_64_14 (by first | exact aRg_of _ | (unfold aRg; omega)) (by first | exact aRg_of _ | (unfold aRg; omega)) (fun h1_ => ?_) (fun h1_ => ?_)
    · have hi : i = 3 := by omega
      subst hi
      refine k I (hD.ext (fun b p => ?_)) hF
      unfold dU
      by_cases z : b = 1 ∧ 0 ≤ p ∧ p < 3
      · rw [if_pos z]
        by_cases z2 : p = 2
        · rw [if_pos ⟨z.1, z2⟩]
        · rw [if_neg (fun y => z2 y.2)]
          by_cases z3 : p = 1
          · rw [if_pos ⟨z.1, z3⟩]
          · rw [if_neg (fun y => z3 y.2), if_pos ⟨z.1, by omega⟩]
      · rw [if_neg z, if_neg (by omega), if_neg (by omega), if_neg (by omega)]
    · refine w_aload c_64_17 rfl ?_
      refine w_getR c_64_18 (sps_0 hx) (by decide) rfl (prs_4 hx) ?_
      refine w_iload c_64_21 rfl ?_
      refine z_push c_64_22 ?_
      refine z_iastore c_64_23 (sps_1 hx) (by omega) (by decide) ?_
      refine oS_k hs hx (by decide) hF (by omega) (fun I1 e1 hF1 => ?_)
      refine z_iinc c_64_24 rfl rfl ?_
      refine w_goto c_64_27 ?_
      refine ih (i + 1) I1 (by omega) (by omega) (by omega) (hD.put (k := 1) (e := i) (v := 0) (by decide) h0 e1 (fun b p => ?_)) hF1
      by_cases z : b = 1 ∧ p = i
      · rw [if_pos z, if_pos (by omega)]
      · rw [if_neg z]
        by_cases z2 : b = 1 ∧ 0 ≤ p ∧ p < i
        · rw [if_pos (by omega), if_pos z2]
        · rw [if_neg (by omega), if_neg z2]

set_option maxHeartbeats 1000000 in
theorem tb_clear {d x : Nat} {I : aFI} {L : aFL} {Q : aPo} {S : Rs} {sh : Nat} {su : Option Nat} (hx : x = 8 ∨ x = 22) (hd : 2 ≤ d) (k : ∀ I2 : aFI, cD I2 x (clD (mD I x)) → (∀ r : Nat, r < 4 → I2 (x + 10 + 2) r = iI (-1)) → frG (PCl x) I I2 → Q none (oS I2 (x + 10) (rL0 S)) L (aR sh su)) : aWp none d 64 0 [.ref x, .null] [] (oS I (x + 10) S) L (aR sh su) Q := by
  have hs : aSm (x + 10) := aSm_sh hx
  refine w_aload c_64_0 rfl ?_
  refine z_push c_64_1 ?_
  refine z_putB (b := false) c_64_2 (sps_0 hx) (by decide) rfl ?_
  refine oS_hk hs hx (frG.rf (P := PCl x) (I := I)) (by omega) (fun I1 e1 hF1 => ?_)
  have hD1 := mD_cD e1
  refine w_aload c_64_5 rfl ?_
  refine z_push c_64_6 ?_
  refine z_putZ c_64_7 (sps_0 hx) (by decide) rfl ?_
  refine oS_hk hs hx hF1 (by omega) (fun I2 e2 hF2 => ?_)
  have hD2 := hD1.h (k := 1) (by decide) e2
  refine z_push c_64_10 ?_
  refine w_istore c_64_11 (Nat.le_of_ble_eq_true rfl) rfl ?_
  refine tb_clear_12 (I0 := I2) hs hx ?_ _ 0 I2 (Nat.lt_succ_self _) (by decide) (by decide) (hD2.ext (fun b p => if_neg (by omega))) frG.rf
  intro I3 hD3 hG3
  have hF3 : frG (PCl x) I I3 := hF2.tr hG3
  refine w_aload c_64_30 rfl ?_
  refine w_getR c_64_31 (sps_0 hx) (by decide) rfl (prs_13 hx) ?_
  refine wc_72 c_64_34 (sps_10 hx) (Nat.le_of_ble_eq_true rfl) (by omega) ?_
  refine tb_sclear hs (fun I4 hr4 hG4 => ?_)
  have hF4 : frG (PCl (x)) I I4 := hF3.tr (hG4.mono (fun q k z => by omega))
  have hD4 := hD3.fr (I2 := I4) (fun p k h1 h2 => hG4 p k (by omega))
  refine r_v ?_
  refine w_aload c_64_37 rfl ?_
  refine z_push c_64_38 ?_
  refine z_putZ c_64_39 (sps_0 hx) (by decide) rfl ?_
  refine oS_hk hs hx hF4 (by omega) (fun I5 e5 hF5 => ?_)
  have hD5 := hD4.h (k := 14) (by decide) e5
  refine w_aload c_64_42 rfl ?_
  refine z_push c_64_43 ?_
  refine z_putZ c_64_44 (sps_0 hx) (by decide) rfl ?_
  refine oS_hk hs hx hF5 (by omega) (fun I6 e6 hF6 => ?_)
  have hD6 := hD5.h (k := 15) (by decide) e6
  refine w_aload c_64_47 rfl ?_
  refine z_push c_64_48 ?_
  refine z_putZ c_64_49 (sps_0 hx) (by decide) rfl ?_
  refine oS_hk hs hx hF6 (by omega) (fun I7 e7 hF7 => ?_)
  have hD7 := hD6.h (k := 16) (by decide) e7
  refine z_retv c_64_52 ?_
  refine k I7 hD7 (fun r hr => ?_) hF7
  rw [e7, up_ne (by omega), e6, up_ne (by omega), e5, up_ne (by omega)]; exact hr4 r hr

theorem PCl.f {I I2 : aFI} {x : Nat} (h : frG (PCl x) I I2) : frG (PCf x) I I2 := h.mono (fun q k z => by omega)
theorem laD_cl {D : Nat → Int → Int} {Z : Nat → Int} {v2 v4 v6 : Int} (h2 : v2 = Z 2) (h4 : v4 = Z 4) (h6 : v6 = Z 6) : ∀ (b : Nat) (i : Int), laD Z D b i = dU (dU (dU (dU (clD D) 0 (2 : Nat) v2) 0 (3 : Nat) v4) 0 (1 : Nat) v6) 0 0 (if true = true then 1 else 0) b i := by
  intro b i
  subst h2; subst h4; subst h6
  by_cases hb : b = 0
  · subst hb
    by_cases h0 : i = 0
    · subst h0; simp [laD, clD, dU]
    · by_cases h1 : i = 1
      · subst h1; simp [laD, clD, dU]
      · by_cases h2 : i = 2
        · subst h2; simp [laD, clD, dU]
        · by_cases h3 : i = 3
          · subst h3; simp [laD, clD, dU]
          · by_cases h4 : i = 14
            · subst h4; simp [laD, clD, dU]
            · by_cases h5 : i = 15
              · subst h5; simp [laD, clD, dU]
              · by_cases h6 : i = 16
                · subst h6; simp [laD, clD, dU]
                · simp [laD, clD, dU, h0, h1, h2, h3, h4, h5, h6]
  · by_cases hb1 : b = 1
    · subst hb1
      by_cases h0 : i = 0
      · subst h0; simp [laD, clD, dU]
      · by_cases h1 : i = 1
        · subst h1; simp [laD, clD, dU]
        · by_cases h2 : i = 2
          · subst h2; simp [laD, clD, dU]
          · simp [laD, clD, dU, h0, h1, h2]
    · simp [laD, clD, dU, hb, hb1]
theorem clD_r {D : Nat → Int → Int} (h : rgD D) : rgD (clD D) := (((((((h.u (by decide)).u (by decide)).u (by decide)).u (by decide)).u (by decide)).u (by decide)).u (by decide)).u (by decide)
set_option maxHeartbeats 1000000 in
theorem tb_readLake {d x : Nat} {I : aFI} {L : aFL} {Q : aPo} {T : Int → Int} {n N : Int} {S : Rs} {sh : Nat} {su : Option Nat} (hx : x = 8 ∨ x = 22) (hn : 0 ≤ n ∧ n ≤ 1600) (hK : kB I N (tK T n) (tPl T n) (tZ T n)) (hg0 : gS N (rL0 S)) (hC : cc (0, 0, 0) S) (hd : 4 ≤ d) (kk : ∀ (I2 : aFI) (S2 : Rs), gS N S2 → cc (laC (tkK T n) (tkP T n) (tkZ T n)) S2 → (S2.f = 0 → cD I2 x (laD (tkZ T n) (mD I x)) ∧ rgD (laD (tkZ T n) (mD I x)) ∧ ∀ r : Nat, r < 4 → I2 (x + 10 + 2) r = iI (-1)) → S2.ln = 0 → frG (PCf x) I I2 → Q none (oS I2 (x + 10) S2) L (aR sh su)) : aWp none d 22 0 [.ref 2, .ref x] [] (oS I (x + 10) S) L (aR sh su) Q := by
  have hs : aSm (x + 10) := aSm_sh hx
  refine w_aload c_22_0 rfl ?_
  refine wc_64 c_22_1 (sps_0 hx) (Nat.le_of_ble_eq_true rfl) (by omega) ?_
  refine tb_clear hx (by omega) (fun I1 hD1 hr1 hF1c => ?_)
  have hF1 : frG (PCf x) I I1 := PCl.f hF1c
  have hK1 := hK.cf hx hF1
  have hc0 : cc (0, 0, 0) (rL0 S) := hC
  refine r_v ?_
  refine w_aload c_22_4 rfl ?_
  refine z_push c_22_5 ?_
  refine wc_45 c_22_8 sp_2 (Nat.le_of_ble_eq_true rfl) (by omega) ?_
  refine tb_need (C := _) hs hK1 hg0 hc0 (by decide) (by decide) (by omega) (fun S1 hg1 hc1 hl1 ha1 => ?_)
  have hgb1 := hg1
  unfold gS at hgb1
  refine r_v ?_
  refine w_aload c_22_11 rfl ?_
  refine z_push c_22_12 ?_
  refine wc_45 c_22_15 sp_2 (Nat.le_of_ble_eq_true rfl) (by omega) ?_
  refine tb_need (C := _) hs hK1 hg1 hc1 (by decide) (by decide) (by omega) (fun S2 hg2 hc2 hl2 ha2 => ?_)
  have hgb2 := hg2
  unfold gS at hgb2
  refine r_v ?_
  refine w_aload c_22_18 rfl ?_
  refine w_aload c_22_19 rfl ?_
  refine z_push c_22_20 ?_
  refine z_push c_22_21 ?_
  refine wc_32 c_22_24 sp_2 (Nat.le_of_ble_eq_true rfl) (by omega) ?_
  refine tb_num (C := _) hn hs hK1 hg2 hc2 (by omega) (by omega) (by omega) (fun S3 v3 hg3 hc3 hv3 hvr3 hl3 ha3 => ?_)
  have hgb3 := hg3
  unfold gS at hgb3
  refine r_i ?_
  refine z_putZ c_22_27 (sps_0 hx) (by decide) rfl ?_
  refine oS_hk hs hx hF1 (by have := hx; omega) (fun I2 e2 hF2 => ?_)
  have hD2 := hD1.h (k := 2) (by decide) e2
  have hK2 := hK.cf hx hF2
  refine w_aload c_22_30 rfl ?_
  refine z_push c_22_31 ?_
  refine wc_45 c_22_34 sp_2 (Nat.le_of_ble_eq_true rfl) (by omega) ?_
  refine tb_need (C := _) hs hK2 hg3 hc3 (by decide) (by decide) (by omega) (fun S4 hg4 hc4 hl4 ha4 => ?_)
  have hgb4 := hg4
  unfold gS at hgb4
  refine r_v ?_
  refine w_aload c_22_37 rfl ?_
  refine w_aload c_22_38 rfl ?_
  refine z_push c_22_39 ?_
  refine z_push c_22_40 ?_
  refine wc_32 c_22_43 sp_2 (Nat.le_of_ble_eq_true rfl) (by omega) ?_
  refine tb_num (C := _) hn hs hK2 hg4 hc4 (by omega) (by omega) (by omega) (fun S5 v5 hg5 hc5 hv5 hvr5 hl5 ha5 => ?_)
  have hgb5 := hg5
  unfold gS at hgb5
  refine r_i ?_
  refine z_putZ c_22_46 (sps_0 hx) (by decide) rfl ?_
  refine oS_hk hs hx hF2 (by have := hx; omega) (fun I3 e3 hF3 => ?_)
  have hD3 := hD2.h (k := 3) (by decide) e3
  have hK3 := hK.cf hx hF3
  refine w_aload c_22_49 rfl ?_
  refine z_push c_22_50 ?_
  refine wc_45 c_22_53 sp_2 (Nat.le_of_ble_eq_true rfl) (by omega) ?_
  refine tb_need (C := _) hs hK3 hg5 hc5 (by decide) (by decide) (by omega) (fun S6 hg6 hc6 hl6 ha6 => ?_)
  have hgb6 := hg6
  unfold gS at hgb6
  refine r_v ?_
  refine w_aload c_22_56 rfl ?_
  refine w_aload c_22_57 rfl ?_
  refine z_push c_22_58 ?_
  refine w_aload c_22_59 rfl ?_
  refine z_getZ c_22_60 (sps_0 hx) (by decide) rfl ((oS_x0 hs hx).trans (show I3 x 2 = iI v3 by rw [e3, up_ne (by omega), e2]; exact up_eq)) ?_
  refine z_mmax c_22_63 (by omega) (Nat.le_of_ble_eq_true rfl) (by first | exact aRg_of _ | (unfold aRg; omega)) (by first | exact aRg_of _ | (unfold aRg; omega)) ?_
  refine z_push c_22_66 ?_
  refine wc_32 c_22_69 sp_2 (Nat.le_of_ble_eq_true rfl) (by omega) ?_
  refine tb_num (C := _) hn hs hK3 hg6 hc6 (by omega) (by omega) (by omega) (fun S7 v7 hg7 hc7 hv7 hvr7 hl7 ha7 => ?_)
  have hgb7 := hg7
  unfold gS at hgb7
  refine r_i ?_
  refine z_putZ c_22_72 (sps_0 hx) (by decide) rfl ?_
  refine oS_hk hs hx hF3 (by have := hx; omega) (fun I4 e4 hF4 => ?_)
  have hD4 := hD3.h (k := 1) (by decide) e4
  have hK4 := hK.cf hx hF4
  have hlo : cNu (tkK T n) (tkP T n) (tkZ T n) (max 1 v3) 9999 (cWd (tkK T n) (tkP T n) 303 (cNu (tkK T n) (tkP T n) (tkZ T n) 0 9999 (cWd (tkK T n) (tkP T n) 302 (cNu (tkK T n) (tkP T n) (tkZ T n) 0 9999 (cWd (tkK T n) (tkP T n) 301 (cWd (tkK T n) (tkP T n) 300 (0, 0, 0))))))) = cNu (tkK T n) (tkP T n) (tkZ T n) (max 1 (tkZ T n 2)) 9999 (cWd (tkK T n) (tkP T n) 303 (cNu (tkK T n) (tkP T n) (tkZ T n) 0 9999 (cWd (tkK T n) (tkP T n) 302 (cNu (tkK T n) (tkP T n) (tkZ T n) 0 9999 (cWd (tkK T n) (tkP T n) 301 (cWd (tkK T n) (tkP T n) 300 (0, 0, 0))))))) := by
    by_cases z : (cWd (tkK T n) (tkP T n) 303 (cNu (tkK T n) (tkP T n) (tkZ T n) 0 9999 (cWd (tkK T n) (tkP T n) 302 (cNu (tkK T n) (tkP T n) (tkZ T n) 0 9999 (cWd (tkK T n) (tkP T n) 301 (cWd (tkK T n) (tkP T n) 300 (0, 0, 0))))))).1 = 0
    · have g6 := cWd_0 z
      have g5 := cNu_0 g6.1
      have g4 := cWd_0 g5.1
      have g3 := cNu_0 g4.1
      have g2 := cWd_0 g3.1
      have g1 := cWd_0 g2.1
      have hz3 := (hv3 g4.1).1
      rw [g2.2.2, g1.2.2] at hz3
      have hz3 : v3 = tkZ T n 2 := hz3
      rw [hz3]
    · exact (if_neg z).trans (if_neg z).symm
  refine w_aload c_22_75 rfl ?_
  refine z_push c_22_76 ?_
  refine wc_45 c_22_78 sp_2 (Nat.le_of_ble_eq_true rfl) (by omega) ?_
  have hc7 : cc (cNu (tkK T n) (tkP T n) (tkZ T n) (max 1 (tkZ T n 2)) 9999 (cWd (tkK T n) (tkP T n) 303 (cNu (tkK T n) (tkP T n) (tkZ T n) 0 9999 (cWd (tkK T n) (tkP T n) 302 (cNu (tkK T n) (tkP T n) (tkZ T n) 0 9999 (cWd (tkK T n) (tkP T n) 301 (cWd (tkK T n) (tkP T n) 300 (0, 0, 0)))))))) S7 := hlo ▸ hc7
  refine tb_need (C := _) hs hK4 hg7 hc7 (by decide) (by decide) (by omega) (fun S8 hg8 hc8 hl8 ha8 => ?_)
  have hgb8 := hg8
  unfold gS at hgb8
  refine r_v ?_
  refine w_aload c_22_81 rfl ?_
  refine z_push c_22_82 ?_
  refine z_putB (b := true) c_22_83 (sps_0 hx) (by decide) rfl ?_
  refine oS_hk hs hx hF4 (by have := hx; omega) (fun I5 e5 hF5 => ?_)
  refine z_retv c_22_86 ?_
  have hD5 := hD4.t e5
  refine kk I5 S8 hg8 hc8 (fun z => ⟨?_, ?_, fun r hr => ?_⟩) (Eq.trans (Eq.trans (Eq.trans (Eq.trans (Eq.trans (Eq.trans (Eq.trans (hl8.1) hl7.1) hl6.1) hl5.1) hl4.1) hl3.1) hl2.1) hl1.1) hF5
  · have f8 : (laC (tkK T n) (tkP T n) (tkZ T n)).1 = 0 := hc8.1.symm.trans z
    have g8 := cWd_0 f8
    have g7 := cNu_0 g8.1
    have g6 := cWd_0 g7.1
    have g5 := cNu_0 g6.1
    have g4 := cWd_0 g5.1
    have g3 := cNu_0 g4.1
    have g2 := cWd_0 g3.1
    have g1 := cWd_0 g2.1
    have hz3 := (hv3 g4.1).1
    have hz5 := (hv5 g6.1).1
    have hz7 := (hv7 (by rw [hlo]; exact g8.1)).1
    rw [g2.2.2, g1.2.2] at hz3
    rw [g4.2.2, g3.2.2.2.2, g2.2.2, g1.2.2] at hz5
    rw [g6.2.2, g5.2.2.2.2, g4.2.2, g3.2.2.2.2, g2.2.2, g1.2.2] at hz7
    exact hD5.ext (laD_cl (D := mD I x) (Z := tkZ T n) hz3 hz5 hz7)
  · exact fun j => by
      have h9 := (((((clD_r (mD_r (I := I) (x := x))).u (a := 0) (e := 2) (v := v3) (by decide)).u (a := 0) (e := 3) (v := v5) (by decide)).u (a := 0) (e := 1) (v := v7) (by decide)).u (a := 0) (e := 0) (v := 1) (by decide)) j
      have h10 : laD (tkZ T n) (mD I x) 2 j = clD (mD I x) 2 j := by simp [laD, clD, dU]
      have h11 : dU (dU (dU (dU (clD (mD I x)) 0 2 v3) 0 3 v5) 0 1 v7) 0 0 1 2 j = clD (mD I x) 2 j := by simp [dU]
      rw [h10, ← h11]; exact h9
  · rw [e5, up_ne (by omega), e4, up_ne (by omega), e3, up_ne (by omega), e2, up_ne (by omega)]; exact hr1 r hr

