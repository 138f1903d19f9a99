/-! the class: brooks, villages, deeds told (p9v.py) -/
/-- what may differ while the class reads a shore into x -/
abbrev PCr (x : Nat) : Nat → Nat → Prop := fun q _ => q = 7 ∨ (x ≤ q ∧ q ≤ x + 9)
abbrev PCf (x : Nat) : Nat → Nat → Prop := fun q k => q = 7 ∨ (x ≤ q ∧ q ≤ x + 9) ∨ q = x + 12 ∨ q = x + 13 ∨ (q = 2 ∧ k = 4)
theorem PCr.f {I I2 : aFI} {x : Nat} (h : frG (PCr x) I I2) : frG (PCf x) I I2 := h.mono (fun q k z => by omega)
theorem kB.fr {I I2 : aFI} {N : Int} {K PL SZ : Int → Int} (h : kB I N K PL SZ) (h0 : ∀ q k : Nat, 3 ≤ q → q ≤ 6 → I2 q k = I q k) : kB I2 N K PL SZ := ⟨(h0 3 3 (by decide) (by decide)).trans h.1, fun j a b => ⟨(h0 4 _ (by decide) (by decide)).trans (h.2.1 j a b).1, (h0 5 _ (by decide) (by decide)).trans (h.2.1 j a b).2.1, (h0 6 _ (by decide) (by decide)).trans (h.2.1 j a b).2.2⟩, h.2.2⟩
theorem kB.cf {I I2 : aFI} {x : Nat} {N : Int} {K PL SZ : Int → Int} (h : kB I N K PL SZ) (hx : x = 8 ∨ x = 22) (hF : frG (PCf x) I I2) : kB I2 N K PL SZ := h.fr (fun q k a b => hF q k (by omega))
theorem hT_cf {I I2 : aFI} {x : Nat} {T : Int → Int} (h : ∀ j : Int, 0 ≤ j → j < 1600 → I 1 j.toNat = iI (T j) ∧ (0 ≤ T j ∧ T j < 256)) (hx : x = 8 ∨ x = 22) (hF : frG (PCf x) I I2) : ∀ j : Int, 0 ≤ j → j < 1600 → I2 1 j.toNat = iI (T j) ∧ (0 ≤ T j ∧ T j < 256) := fun j a b => ⟨(hF 1 _ (by omega)).trans (h j a b).1, (h j a b).2⟩
theorem kB.rc {I I2 : aFI} {x : Nat} {N : Int} {K PL SZ : Int → Int} (h : kB I N K PL SZ) (hx : x = 8 ∨ x = 22) (hF : frG (PCr x) I I2) : kB I2 N K PL SZ := h.fr (fun q k a b => hF q k (by omega))
theorem hT_rc {I I2 : aFI} {x : Nat} {T : Int → Int} (h : ∀ j : Int, 0 ≤ j → j < 1600 → I 1 j.toNat = iI (T j) ∧ (0 ≤ T j ∧ T j < 256)) (hx : x = 8 ∨ x = 22) (hF : frG (PCr x) I I2) : ∀ j : Int, 0 ≤ j → j < 1600 → I2 1 j.toNat = iI (T j) ∧ (0 ≤ T j ∧ T j < 256) := fun j a b => ⟨(hF 1 _ (by omega)).trans (h j a b).1, (h j a b).2⟩
section TB
variable {d s x : Nat} {I : aFI} {L : aFL} {Q : aPo} {T : Int → Int} {n N : Int} {S : Rs} {sh : Nat} {su : Option Nat} {C : Cu}
theorem tb_need {m : Int} (hs : aSm s) (hK : kB I N (tK T n) (tPl T n) (tZ T n)) (h : gS N S) (hC : cc C S) (hm : 0 ≤ m ∧ m < 1000) (hm2 : ¬ m = 341) (hd : 1 ≤ d) (k : ∀ S2 : Rs, gS N S2 → cc (cWd (tkK T n) (tkP T n) m C) S2 → S2.ln = S.ln ∧ S2.C = S.C → S.a ≤ S2.a → Q none (oS I s S2) L (aR sh su)) : aWp none d 45 0 [.ref 2, .int (iI m)] [] (oS I s S) L (aR sh su) Q :=
  ts_need hm hs hK h hd (k _ (rN_g h (kB_K hK)).1 (hC.wd hm2) rN_l (rN_g h (kB_K hK)).2.1)
theorem tb_num {lo hi : Int} (hn : 0 ≤ n ∧ n ≤ 1600) (hs : aSm s) (hK : kB I N (tK T n) (tPl T n) (tZ T n)) (h : gS N S) (hC : cc C S) (hl : 0 ≤ lo ∧ lo ≤ 9999) (hh : 0 ≤ hi ∧ hi ≤ 9999) (hd : 1 ≤ d) (k : ∀ (S2 : Rs) (v : Int), gS N S2 → cc (cNu (tkK T n) (tkP T n) (tkZ T n) lo hi C) S2 → ((cNu (tkK T n) (tkP T n) (tkZ T n) lo hi C).1 = 0 → v = tkZ T n C.2.2 ∧ lo ≤ v ∧ v ≤ hi) → (-1 ≤ v ∧ v ≤ 9999) → S2.ln = S.ln ∧ S2.C = S.C → S.a ≤ S2.a → Q (some (.int (iI v))) (oS I s S2) L (aR sh su)) : aWp none d 32 0 [.ref 2, .int (iI lo), .int (iI hi), .null] [] (oS I s S) L (aR sh su) Q := by
  have hk := hK.2.2.2 S.a h.1.1 h.1.2
  refine ts_number hs hK h hl hh hd (k _ _ (rM_g h (kB_K hK)).1 hC.nu.1 (fun z => ?_) ?_ rM_l (rM_g h (kB_K hK)).2.1)
  · have h1 := cNu_0 z
    rw [hC.nu.2 z]; exact ⟨rfl, h1.2.2.2.1⟩
  · have := tkZ_rg (T := T) hn S.a.toNat
    unfold rV; split
    · show -1 ≤ tkZ T n S.a.toNat ∧ tkZ T n S.a.toNat ≤ 9999; omega
    · omega
theorem oS_k {sc : aSc} {y pc k m : Nat} {ls st : List Value} {R : aFR} {P : Nat → Nat → Prop} {I0 : aFI} {v : Int32} (hs : aSm s) (hx : x = 8 ∨ x = 22) (hk : k < 10) (hF : frG P I0 I) (hp : P (x + k) m) (kk : ∀ I2 : aFI, I2 = aUp I (x + k) m v → frG P I0 I2 → aWp sc d y pc ls st (oS I2 s S) L R Q) : aWp sc d y pc ls st (aUp (oS I s S) (x + k) m v) L R Q := by
  rw [oS_xu hs hx hk]; exact kk _ rfl (hF.up hp)
end TB
theorem PGn.rc {I I2 : aFI} {x : Nat} (h : frG (fun q _ => q = 7 ∨ q = x + 2) I I2) : frG (PCr x) I I2 := h.mono (fun q k z => by omega)
theorem rgD.l {D : Nat → Int → Int} {T : Int → Int} {p z r : Int} (h : rgD D) (hTr : ∀ j : Int, 0 ≤ T j ∧ T j < 256) : rgD (dL D r (nmL T p z)) := fun j => by
  unfold dL
  split
  · unfold nmL aRg
    split
    · have := hTr (p + (j - r * 6)); omega
    · omega
  · exact h j
theorem rgD.u {D : Nat → Int → Int} {a : Nat} {e v : Int} (h : rgD D) (ha : ¬ a = 2) : rgD (dU D a e v) := fun j => by
  rw [dU_ne (fun z => ha z.1.symm)]; exact h j
section SG
variable {T : Int → Int} {K PL Z : Nat → Int} {D : Nat → Int → Int} {j : Nat}
theorem cWd_f {m c p : Int} {j : Nat} (h : ¬ c = 0) : cWd K PL m (c, p, j) = (c, p, j) := if_neg h
theorem cNu_f {lo hi c p : Int} {j : Nat} (h : ¬ c = 0) : cNu K PL Z lo hi (c, p, j) = (c, p, j) := if_neg h
theorem cNp_f {du : Prop} {c p : Int} {j : Nat} (h : ¬ c = 0) : cNp K PL Z du (c, p, j) = (c, p, j) := if_neg h
theorem sBk_g : sBk T K PL Z D j = cNu K PL Z 0 999 (cWd K PL 302 (cNu K PL Z 0 999 (cWd K PL 305 (cG T K PL Z D 0 j)))) := by
  unfold sBk cG
  by_cases h : D 1 0 = 6
  · rw [if_pos h, if_pos (by rw [if_neg (by decide)]; exact h), cWd_f (c := 5) (by decide), cNu_f (c := 5) (by decide), cWd_f (c := 5) (by decide), cNu_f (c := 5) (by decide)]
  · rw [if_neg h, if_neg (by rw [if_neg (by decide)]; exact h)]
theorem sVi_g : sVi T K PL Z D j = cNu K PL Z 0 99 (cWd K PL 307 (cG T K PL Z D 1 j)) := by
  unfold sVi cG
  by_cases h : D 1 1 = 6
  · rw [if_pos h, if_pos (by rw [if_neg (by decide)]; exact h), cWd_f (c := 5) (by decide), cNu_f (c := 5) (by decide)]
  · rw [if_neg h, if_neg (by rw [if_neg (by decide)]; exact h)]
theorem sDe_g : sDe T K PL Z D j = cNu K PL Z 0 99 (cWd K PL 312 (cNu K PL Z 0 99 (cWd K PL 311 (cNu K PL Z 1 999 (cWd K PL 310 (cVl T K PL Z D (cWd K PL 309 (cG T K PL Z D 2 j)))))))) := by
  unfold sDe cG
  by_cases h : D 1 2 = 8
  · rw [if_pos h, if_pos (by rw [if_pos rfl]; exact h), cWd_f (c := 5) (by decide)]
    unfold cVl
    rw [cNp_f (c := 5) (by decide), cWd_f (c := 5) (by decide), cNu_f (c := 5) (by decide), cWd_f (c := 5) (by decide), cNu_f (c := 5) (by decide), cWd_f (c := 5) (by decide), cNu_f (c := 5) (by decide)]
  · rw [if_neg h, if_neg (by rw [if_pos rfl]; exact h)]
theorem cG_m {c : Int} (h : (cG T K PL Z D c j).1 = 0) : (cG T K PL Z D c j).2.2 = j + 2 := by
  unfold cG at h ⊢
  by_cases h2 : D 1 c = (if c = 2 then 8 else 6)
  · rw [if_pos h2] at h; exact absurd (show (5 : Int) = 0 from h) (by decide)
  · rw [if_neg h2] at h ⊢
    rw [(cNp_0 h).2.2.2.2]
end SG
theorem isFnd_l {LT LT2 NM : Int → Int} {c cnt r : Int} (h : ∀ w : Int, 0 ≤ w → w < cnt → ∀ k : Int, 0 ≤ k → k < 6 → LT ((rowB c + w) * 6 + k) = LT2 ((rowB c + w) * 6 + k)) (hf : isFnd LT NM c cnt r) : isFnd LT2 NM c cnt r := by
  have e : ∀ w : Int, 0 ≤ w → w < cnt → (nmEq LT NM (rowB c + w) ↔ nmEq LT2 NM (rowB c + w)) := fun w a b => ⟨fun z k c d => (h w a b k c d).symm.trans (z k c d), fun z k c d => (h w a b k c d).trans (z k c d)⟩
  rcases hf with ⟨a, b⟩ | ⟨a, b, d⟩
  · exact Or.inl ⟨a, fun w x y z => b w x y ((e w x y).mpr z)⟩
  · exact Or.inr ⟨a, (e r a.1 a.2).mp b, fun w x y z => d w x y ((e w x (by omega)).mpr z)⟩
theorem tb_village {d s x : Nat} {I : aFI} {L : aFL} {Q : aPo} {T : Int → Int} {n N : Int} {S : Rs} {sh : Nat} {su : Option Nat} {C : Cu} {D : Nat → Int → Int} {cd : Nat → Option (List Int)} (hs : aSm s) (hx : x = 8 ∨ x = 22) (hT : ∀ j : Int, 0 ≤ j → j < 1600 → I 1 j.toNat = iI (T j) ∧ (0 ≤ T j ∧ T j < 256)) (hTr : ∀ j : Int, 0 ≤ T j ∧ T j < 256) (hn : 0 ≤ n ∧ n ≤ 1600) (hK : kB I N (tK T n) (tPl T n) (tZ T n)) (h : gS N S) (hC : cc C S) (hwf : wfP D cd) (hDr : rgD D) (hn2 : I (x + 1) 1 = iI (D 1 1)) (hLg : S.f = 0 → ∀ p : Int, 36 ≤ p → p < 72 → I (x + 2) p.toNat = iI (D 2 p)) (hd : 2 ≤ d) (k : ∀ (I2 : aFI) (S2 : Rs) (r : Int), gS N S2 → cc (cVl T (tkK T n) (tkP T n) (tkZ T n) D C) S2 → (S2.f = 0 → r = vix T (tkP T n) (tkZ T n) D C.2.2) → (-1 ≤ r ∧ r < 8) → S2.ln = S.ln ∧ S2.C = S.C → S.a ≤ S2.a → frG (fun q _ => q = 7) I I2 → Q (some (.int (iI r))) (oS I2 s S2) L (aR sh su)) : aWp none d 30 0 [.ref 2, .ref x, .null, .null] [] (oS I s S) L (aR sh su) Q := by
  have hcn := hwf.1.n
  have e := oN_s (I := I)
  rw [← e]
  refine ts_village (LT := fun p => (I (x + 2) p.toNat).toInt) (cnt := D 1 1) hs hT (tW hTr hn) hK h hx hn2 ⟨hcn.2.1.1, hcn.2.1.2⟩ (fun j _ _ => ⟨iI_of _, aRg_of _⟩) (fun j _ _ => aRg_of _) hd (fun r hf => ?_)
  have hrr := fnd_rg hf
  have gn := rNm_g (PL := tPl T n) (SZ := tZ T n) (kB_K hK) h
  have hfr : frG (fun q _ => q = 7) I (oN I (rNa (tK T n) (tPl T n) (tZ T n) T S (fun k => (I 7 k.toNat).toInt))) := fun q p hq => if_neg hq
  by_cases hb : (rNm (tK T n) (tPl T n) (tZ T n) S).f = 0
  · have hok := rNm_ok hC hb
    have hat := cc.at (T := T) (n := n) (hC.2.1 hok.1).1
    have hlt := tkK_lt (T := T) (n := n) (j := C.2.2) hTr hn hok.2.1
    have hwn : wfN (nmJ T (tkP T n) (tkZ T n) C.2.2) := nmL_wf ⟨hlt.1, by have := hok.2.2.1; omega⟩ hlt.2.1
    have hnm : ∀ k : Int, 0 ≤ k → k < 6 → nmJ T (tkP T n) (tkZ T n) C.2.2 k = rNa (tK T n) (tPl T n) (tZ T n) T S (fun k => (I 7 k.toNat).toInt) k := fun k a b => by
      rw [(rNm_2 (by rw [hat.1]; exact hok.2.1) (by rw [hat.2.2]; exact hok.2.2.1)).2]
      show _ = if 0 ≤ k ∧ k < 6 then _ else _
      rw [if_pos ⟨a, b⟩, hat.2.1, hat.2.2]; rfl
    have hf2 := isFnd_g (fun k a b => (hnm k a b).symm) hf
    have hf3 : isFnd (D 2) (nmJ T (tkP T n) (tkZ T n) C.2.2) 1 (D 1 1) r := isFnd_l (fun w a b k c d => by
      show (I (x + 2) ((rowB 1 + w) * 6 + k).toNat).toInt = _
      have h1 := rowB_1
      rw [hLg hok.1 _ (by omega) (by omega), iI_toInt (hDr _)]) hf2
    have hv : r = vix T (tkP T n) (tkZ T n) D C.2.2 := fnd_vix (hwf.2.1 1 (by decide)) hwn hcn.2.1.1 hf3
    by_cases z : r = -1
    · rw [if_pos z]
      exact k _ _ r (rF_g gn.1 (by decide)).1 (hC.np_t hb (by rw [← hv]; exact z)) (fun _ => hv) (by omega) ⟨rF_l.1.trans rNm_l.1, rF_l.2.trans rNm_l.2⟩ (by rw [rF_a]; exact gn.2.1) hfr
    · rw [if_neg z]
      exact k _ _ r gn.1 (hC.np_f hb (fun y => z (hv.trans y))) (fun _ => hv) (by omega) rNm_l gn.2.1 hfr
  · have es : (if r = -1 then rF 3 (tPl T n S.a) (rNm (tK T n) (tPl T n) (tZ T n) S) else rNm (tK T n) (tPl T n) (tZ T n) S) = rNm (tK T n) (tPl T n) (tZ T n) S := by
      split
      · exact rF_b hb
      · rfl
    rw [es]
    exact k _ _ r gn.1 (hC.np_b hb) (fun z => absurd z hb) (by omega) rNm_l gn.2.1 hfr
set_option maxHeartbeats 1000000 in
theorem tb_readBrook {d x : Nat} {I : aFI} {L : aFL} {Q : aPo} {T : Int → Int} {n N : Int} {S : Rs} {sh : Nat} {su : Option Nat} {D : Nat → Int → Int} {cd : Nat → Option (List Int)} (hx : x = 8 ∨ x = 22) (hT : ∀ j : Int, 0 ≤ j → j < 1600 → I 1 j.toNat = iI (T j) ∧ (0 ≤ T j ∧ T j < 256)) (hTr : ∀ j : Int, 0 ≤ T j ∧ T j < 256) (hn : 0 ≤ n ∧ n ≤ 1600) (hK : kB I N (tK T n) (tPl T n) (tZ T n)) (h : gS N S) {j : Nat} (hC : cc (0, 0, j) S) (ha1 : S.a + 1 < N) (hD : cD I x D) (hwf : wfP D cd) (hDr : rgD D) (hd : 6 ≤ d) (kk : ∀ (I2 : aFI) (S2 : Rs), gS N S2 → cc (sBk T (tkK T n) (tkP T n) (tkZ T n) D j) S2 → (S2.f = 0 → cD I2 x (dBk T (tkP T n) (tkZ T n) D j) ∧ rgD (dBk T (tkP T n) (tkZ T n) D j)) → S2.ln = S.ln ∧ S2.C = S.C → S.a ≤ S2.a → frG (PCr x) I I2 → Q none (oS I2 (x + 10) S2) L (aR sh su)) : aWp none d 25 0 [.ref 2, .ref x, .null, .null, .null] [] (oS I (x + 10) S) L (aR sh su) Q := by
  have hs : aSm (x + 10) := aSm_sh hx
  have hcn := hwf.1.n
  have hb := h
  unfold gS at hb
  rw [sBk_g] at kk
  refine w_aload c_25_0 rfl ?_
  refine w_aload c_25_1 rfl ?_
  refine z_push c_25_2 ?_
  refine wc_29 c_25_3 sp_2 (Nat.le_of_ble_eq_true rfl) (by omega) ?_
  refine tb_giveName (s := x + 10) (cd := cd) (c := 0) hs hx hT hTr hn hK h hC ha1 hD hwf hDr (by decide) (by omega) (fun I1 S1 r hg1 hc1 hr1 hrr hl1 hd1 ha2 hFn => ?_)
  have hF1 : frG (PCr x) I I1 := PGn.rc hFn
  have hK1 := hK.rc hx hF1
  refine r_i ?_
  refine w_istore c_25_6 (Nat.le_of_ble_eq_true rfl) rfl ?_
  refine w_aload c_25_7 rfl ?_
  refine z_push c_25_8 ?_
  refine wc_45 c_25_11 sp_2 (Nat.le_of_ble_eq_true rfl) (by omega) ?_
  refine tb_need (C := _) hs hK1 hg1 hc1 (by decide) (by decide) (by omega) (fun S2 hg2 hc2 hl2 ha2 => ?_)
  have hgb2 := hg2
  unfold gS at hgb2
  refine r_v ?_
  refine w_aload c_25_14 rfl ?_
  refine z_push c_25_15 ?_
  refine z_push c_25_16 ?_
  refine wc_32 c_25_19 sp_2 (Nat.le_of_ble_eq_true rfl) (by omega) ?_
  refine tb_num (C := _) hn hs hK1 hg2 hc2 (by decide) (by decide) (by omega) (fun S3 v3 hg3 hc3 hv3 hvr3 hl3 ha3 => ?_)
  have hgb3 := hg3
  unfold gS at hgb3
  refine r_i ?_
  refine w_istore c_25_22 (Nat.le_of_ble_eq_true rfl) rfl ?_
  refine w_aload c_25_23 rfl ?_
  refine z_push c_25_24 ?_
  refine wc_45 c_25_27 sp_2 (Nat.le_of_ble_eq_true rfl) (by omega) ?_
  refine tb_need (C := _) hs hK1 hg3 hc3 (by decide) (by decide) (by omega) (fun S4 hg4 hc4 hl4 ha4 => ?_)
  have hgb4 := hg4
  unfold gS at hgb4
  refine r_v ?_
  refine w_aload c_25_30 rfl ?_
  refine z_push c_25_31 ?_
  refine z_push c_25_32 ?_
  refine wc_32 c_25_35 sp_2 (Nat.le_of_ble_eq_true rfl) (by omega) ?_
  refine tb_num (C := _) hn hs hK1 hg4 hc4 (by decide) (by decide) (by omega) (fun S5 v5 hg5 hc5 hv5 hvr5 hl5 ha5 => ?_)
  have hgb5 := hg5
  unfold gS at hgb5
  refine r_i ?_
  refine w_istore c_25_38 (Nat.le_of_ble_eq_true rfl) rfl ?_
  refine w_aload c_25_40 rfl ?_
  refine z_getZ c_25_41 sp_2 (by decide) rfl rfl ?_
  refine z_if_ne c_25_44 (by first | exact aRg_of _ | (unfold aRg; omega)) (fun h1_ => ?_) (fun h1_ => ?_)
  · refine z_retv c_25_72 ?_
    exact kk I1 S5 hg5 hc5 (fun z => absurd z (by omega)) ⟨Eq.trans (Eq.trans (Eq.trans (Eq.trans (hl5.1) hl4.1) hl3.1) hl2.1) hl1.1, Eq.trans (Eq.trans (Eq.trans (Eq.trans (hl5.2) hl4.2) hl3.2) hl2.2) hl1.2⟩ (by omega) hF1
  · have f5 : S5.f = 0 := by omega
    have g5 := cNu_0 (hc5.1.symm.trans f5)
    have g4 := cWd_0 g5.1
    have g3 := cNu_0 g4.1
    have g2 := cWd_0 g3.1
    have gm := cG_m g2.1
    have hv5z := hv5 (hc5.1.symm.trans f5)
    have hv3z := hv3 g4.1
    have f1 : S1.f = 0 := hc1.1.trans g2.1
    have hr1z := hr1 f1
    have hD1g := hd1 f1
    rw [g4.2.2, g3.2.2.2.2, g2.2.2, gm] at hv5z
    rw [g2.2.2, gm] at hv3z
    have hz5 : v5 = tkZ T n (j + 5) := hv5z.1
    have hz3 : v3 = tkZ T n (j + 3) := hv3z.1
    obtain ⟨hrw, hr6⟩ := hr1z
    have hcnt : iI (dU (dU (dL D (rowB 0 + D 1 0) (nmJ T (tkP T n) (tkZ T n) (j + 1))) 3 r v3) 4 r v5 1 0) = iI (D 1 0) := rfl
    refine w_aload c_25_47 rfl ?_
    refine w_getR c_25_48 (sps_0 hx) (by decide) rfl (prs_6 hx) ?_
    refine w_iload c_25_51 rfl ?_
    refine w_iload c_25_52 rfl ?_
    refine z_iastore c_25_53 (sps_3 hx) (by omega) (by decide) ?_
    refine oS_k hs hx (by decide) hF1 (by have := hx; omega) (fun Ip0 ep0 hFp0 => ?_)
    have hDp0 : cD Ip0 x (dU (dL D (rowB 0 + D 1 0) (nmJ T (tkP T n) (tkZ T n) (j + 1))) 3 r v3) := hD1g.put (k := 3) (e := r) (v := v3) (by decide) (by omega) ep0 (fun _ _ => rfl)
    refine w_aload c_25_54 rfl ?_
    refine w_getR c_25_55 (sps_0 hx) (by decide) rfl (prs_7 hx) ?_
    refine w_iload c_25_58 rfl ?_
    refine w_iload c_25_59 rfl ?_
    refine z_iastore c_25_61 (sps_4 hx) (by omega) (by decide) ?_
    refine oS_k hs hx (by decide) hFp0 (by have := hx; omega) (fun Ip1 ep1 hFp1 => ?_)
    have hDp1 : cD Ip1 x (dU (dU (dL D (rowB 0 + D 1 0) (nmJ T (tkP T n) (tkZ T n) (j + 1))) 3 r v3) 4 r v5) := hDp0.put (k := 4) (e := r) (v := v5) (by decide) (by omega) ep1 (fun _ _ => rfl)
    refine w_aload c_25_62 rfl ?_
    refine w_getR c_25_63 (sps_0 hx) (by decide) rfl (prs_4 hx) ?_
    refine z_push c_25_66 ?_
    refine w_dup2 c_25_67 rfl rfl ?_
    refine z_iaload c_25_68 (sps_1 hx) (by omega) (by first | decide | omega) ((oS_x hs hx (by decide)).trans ((hDp1.a 1 (by decide) (by decide)).trans hcnt)) ?_
    refine z_push c_25_69 ?_
    refine z_iadd c_25_70 ?_
    refine z_iastore c_25_71 (sps_1 hx) (by omega) (by decide) ?_
    refine oS_k hs hx (by decide) hFp1 (by have := hx; omega) (fun Ip2 ep2 hFp2 => ?_)
    have hDp2 : cD Ip2 x (dU (dU (dU (dL D (rowB 0 + D 1 0) (nmJ T (tkP T n) (tkZ T n) (j + 1))) 3 r v3) 4 r v5) 1 0 (D 1 0 + 1)) := hDp1.put (k := 1) (e := 0) (v := (D 1 0 + 1)) (by decide) (by omega) ep2 (fun _ _ => rfl)
    refine z_retv c_25_72 ?_
    refine kk Ip2 S5 hg5 hc5 (fun _ => ?_) ⟨Eq.trans (Eq.trans (Eq.trans (Eq.trans (hl5.1) hl4.1) hl3.1) hl2.1) hl1.1, Eq.trans (Eq.trans (Eq.trans (Eq.trans (hl5.2) hl4.2) hl3.2) hl2.2) hl1.2⟩ (by omega) hFp2
    subst hrw
    rw [hz3, hz5] at hDp2
    have e0 : rowB 0 + D 1 0 = D 1 0 := by rw [rowB_0]; omega
    rw [e0] at hDp2
    exact ⟨hDp2, (((hDr.l hTr).u (by decide)).u (by decide)).u (by decide)⟩

set_option maxHeartbeats 1000000 in
theorem tb_readVillage {d x : Nat} {I : aFI} {L : aFL} {Q : aPo} {T : Int → Int} {n N : Int} {S : Rs} {sh : Nat} {su : Option Nat} {D : Nat → Int → Int} {cd : Nat → Option (List Int)} (hx : x = 8 ∨ x = 22) (hT : ∀ j : Int, 0 ≤ j → j < 1600 → I 1 j.toNat = iI (T j) ∧ (0 ≤ T j ∧ T j < 256)) (hTr : ∀ j : Int, 0 ≤ T j ∧ T j < 256) (hn : 0 ≤ n ∧ n ≤ 1600) (hK : kB I N (tK T n) (tPl T n) (tZ T n)) (h : gS N S) {j : Nat} (hC : cc (0, 0, j) S) (ha1 : S.a + 1 < N) (hD : cD I x D) (hwf : wfP D cd) (hDr : rgD D) (hd : 6 ≤ d) (kk : ∀ (I2 : aFI) (S2 : Rs), gS N S2 → cc (sVi T (tkK T n) (tkP T n) (tkZ T n) D j) S2 → (S2.f = 0 → cD I2 x (dVi T (tkP T n) (tkZ T n) D j) ∧ rgD (dVi T (tkP T n) (tkZ T n) D j)) → S2.ln = S.ln ∧ S2.C = S.C → S.a ≤ S2.a → frG (PCr x) I I2 → Q none (oS I2 (x + 10) S2) L (aR sh su)) : aWp none d 26 0 [.ref 2, .ref x, .null, .null] [] (oS I (x + 10) S) L (aR sh su) Q := by
  have hs : aSm (x + 10) := aSm_sh hx
  have hcn := hwf.1.n
  have hb := h
  unfold gS at hb
  rw [sVi_g] at kk
  refine w_aload c_26_0 rfl ?_
  refine w_aload c_26_1 rfl ?_
  refine z_push c_26_2 ?_
  refine wc_29 c_26_3 sp_2 (Nat.le_of_ble_eq_true rfl) (by omega) ?_
  refine tb_giveName (s := x + 10) (cd := cd) (c := 1) hs hx hT hTr hn hK h hC ha1 hD hwf hDr (by decide) (by omega) (fun I1 S1 r hg1 hc1 hr1 hrr hl1 hd1 ha2 hFn => ?_)
  have hF1 : frG (PCr x) I I1 := PGn.rc hFn
  have hK1 := hK.rc hx hF1
  refine r_i ?_
  refine w_istore c_26_6 (Nat.le_of_ble_eq_true rfl) rfl ?_
  refine w_aload c_26_7 rfl ?_
  refine z_push c_26_8 ?_
  refine wc_45 c_26_11 sp_2 (Nat.le_of_ble_eq_true rfl) (by omega) ?_
  refine tb_need (C := _) hs hK1 hg1 hc1 (by decide) (by decide) (by omega) (fun S2 hg2 hc2 hl2 ha2 => ?_)
  have hgb2 := hg2
  unfold gS at hgb2
  refine r_v ?_
  refine w_aload c_26_14 rfl ?_
  refine z_push c_26_15 ?_
  refine z_push c_26_16 ?_
  refine wc_32 c_26_18 sp_2 (Nat.le_of_ble_eq_true rfl) (by omega) ?_
  refine tb_num (C := _) hn hs hK1 hg2 hc2 (by decide) (by decide) (by omega) (fun S3 v3 hg3 hc3 hv3 hvr3 hl3 ha3 => ?_)
  have hgb3 := hg3
  unfold gS at hgb3
  refine r_i ?_
  refine w_istore c_26_21 (Nat.le_of_ble_eq_true rfl) rfl ?_
  refine w_aload c_26_22 rfl ?_
  refine z_getZ c_26_23 sp_2 (by decide) rfl rfl ?_
  refine z_if_ne c_26_26 (by first | exact aRg_of _ | (unfold aRg; omega)) (fun h1_ => ?_) (fun h1_ => ?_)
  · refine z_retv c_26_46 ?_
    exact kk I1 S3 hg3 hc3 (fun z => absurd z (by omega)) ⟨Eq.trans (Eq.trans (hl3.1) hl2.1) hl1.1, Eq.trans (Eq.trans (hl3.2) hl2.2) hl1.2⟩ (by omega) hF1
  · have f3 : S3.f = 0 := by omega
    have g3 := cNu_0 (hc3.1.symm.trans f3)
    have g2 := cWd_0 g3.1
    have gm := cG_m g2.1
    have hv3z := hv3 (hc3.1.symm.trans f3)
    have f1 : S1.f = 0 := hc1.1.trans g2.1
    have hr1z := hr1 f1
    have hD1g := hd1 f1
    rw [g2.2.2, gm] at hv3z
    have hz3 : v3 = tkZ T n (j + 3) := hv3z.1
    obtain ⟨hrw, hr6⟩ := hr1z
    have hcnt : iI (dU (dL D (rowB 1 + D 1 1) (nmJ T (tkP T n) (tkZ T n) (j + 1))) 5 r v3 1 1) = iI (D 1 1) := rfl
    refine w_aload c_26_29 rfl ?_
    refine w_getR c_26_30 (sps_0 hx) (by decide) rfl (prs_8 hx) ?_
    refine w_iload c_26_33 rfl ?_
    refine w_iload c_26_34 rfl ?_
    refine z_iastore c_26_35 (sps_5 hx) (by omega) (by decide) ?_
    refine oS_k hs hx (by decide) hF1 (by have := hx; omega) (fun Ip0 ep0 hFp0 => ?_)
    have hDp0 : cD Ip0 x (dU (dL D (rowB 1 + D 1 1) (nmJ T (tkP T n) (tkZ T n) (j + 1))) 5 r v3) := hD1g.put (k := 5) (e := r) (v := v3) (by decide) (by omega) ep0 (fun _ _ => rfl)
    refine w_aload c_26_36 rfl ?_
    refine w_getR c_26_37 (sps_0 hx) (by decide) rfl (prs_4 hx) ?_
    refine z_push c_26_40 ?_
    refine w_dup2 c_26_41 rfl rfl ?_
    refine z_iaload c_26_42 (sps_1 hx) (by omega) (by first | decide | omega) ((oS_x hs hx (by decide)).trans ((hDp0.a 1 (by decide) (by decide)).trans hcnt)) ?_
    refine z_push c_26_43 ?_
    refine z_iadd c_26_44 ?_
    refine z_iastore c_26_45 (sps_1 hx) (by omega) (by decide) ?_
    refine oS_k hs hx (by decide) hFp0 (by have := hx; omega) (fun Ip1 ep1 hFp1 => ?_)
    have hDp1 : cD Ip1 x (dU (dU (dL D (rowB 1 + D 1 1) (nmJ T (tkP T n) (tkZ T n) (j + 1))) 5 r v3) 1 1 (D 1 1 + 1)) := hDp0.put (k := 1) (e := 1) (v := (D 1 1 + 1)) (by decide) (by omega) ep1 (fun _ _ => rfl)
    refine z_retv c_26_46 ?_
    refine kk Ip1 S3 hg3 hc3 (fun _ => ?_) ⟨Eq.trans (Eq.trans (hl3.1) hl2.1) hl1.1, Eq.trans (Eq.trans (hl3.2) hl2.2) hl1.2⟩ (by omega) hFp1
    subst hrw
    rw [hz3] at hDp1
    have e0 : rowB 1 + D 1 1 = 6 + D 1 1 := by rw [rowB_1]
    rw [e0] at hDp1
    exact ⟨hDp1, ((hDr.l hTr).u (by decide)).u (by decide)⟩

set_option maxHeartbeats 1000000 in
theorem tb_readDeed {d x : Nat} {I : aFI} {L : aFL} {Q : aPo} {T : Int → Int} {n N : Int} {S : Rs} {sh : Nat} {su : Option Nat} {D : Nat → Int → Int} {cd : Nat → Option (List Int)} (hx : x = 8 ∨ x = 22) (hT : ∀ j : Int, 0 ≤ j → j < 1600 → I 1 j.toNat = iI (T j) ∧ (0 ≤ T j ∧ T j < 256)) (hTr : ∀ j : Int, 0 ≤ T j ∧ T j < 256) (hn : 0 ≤ n ∧ n ≤ 1600) (hK : kB I N (tK T n) (tPl T n) (tZ T n)) (h : gS N S) {j : Nat} (hC : cc (0, 0, j) S) (ha1 : S.a + 1 < N) (hD : cD I x D) (hwf : wfP D cd) (hDr : rgD D) (hd : 6 ≤ d) (kk : ∀ (I2 : aFI) (S2 : Rs), gS N S2 → cc (sDe T (tkK T n) (tkP T n) (tkZ T n) D j) S2 → (S2.f = 0 → cD I2 x (dDe T (tkP T n) (tkZ T n) D j) ∧ rgD (dDe T (tkP T n) (tkZ T n) D j)) → S2.ln = S.ln ∧ S2.C = S.C → S.a ≤ S2.a → frG (PCr x) I I2 → Q none (oS I2 (x + 10) S2) L (aR sh su)) : aWp none d 27 0 [.ref 2, .ref x, .null, .null, .null, .null, .null] [] (oS I (x + 10) S) L (aR sh su) Q := by
  have hs : aSm (x + 10) := aSm_sh hx
  have hcn := hwf.1.n
  have hb := h
  unfold gS at hb
  rw [sDe_g] at kk
  refine w_aload c_27_0 rfl ?_
  refine w_aload c_27_1 rfl ?_
  refine z_push c_27_2 ?_
  refine wc_29 c_27_3 sp_2 (Nat.le_of_ble_eq_true rfl) (by omega) ?_
  refine tb_giveName (s := x + 10) (cd := cd) (c := 2) hs hx hT hTr hn hK h hC ha1 hD hwf hDr (by decide) (by omega) (fun I1 S1 r hg1 hc1 hr1 hrr hl1 hd1 ha2 hFn => ?_)
  have hF1 : frG (PCr x) I I1 := PGn.rc hFn
  have hK1 := hK.rc hx hF1
  refine r_i ?_
  refine w_istore c_27_6 (Nat.le_of_ble_eq_true rfl) rfl ?_
  refine w_aload c_27_7 rfl ?_
  refine z_push c_27_8 ?_
  refine wc_45 c_27_11 sp_2 (Nat.le_of_ble_eq_true rfl) (by omega) ?_
  refine tb_need (C := _) hs hK1 hg1 hc1 (by decide) (by decide) (by omega) (fun S2 hg2 hc2 hl2 ha2 => ?_)
  have hgb2 := hg2
  unfold gS at hgb2
  refine r_v ?_
  refine w_aload c_27_14 rfl ?_
  refine w_aload c_27_15 rfl ?_
  refine wc_30 c_27_16 sp_2 (Nat.le_of_ble_eq_true rfl) (by omega) ?_
  refine tb_village (C := _) (D := D) (cd := cd) hs hx (hT_rc hT hx hF1) hTr hn hK1 hg2 hc2 hwf hDr ((hFn _ _ (by omega)).trans (hD.a 1 (j := 1) (by decide) (by decide))) (fun z p a b => ?_) (by omega) (fun I3 S3 r3 hg3 hc3 hr3 hrr3 hl3 ha3 hF3 => ?_)
  · have f1 : S1.f = 0 := by
      have z1 := hc2.1.symm.trans z
      exact hc1.1.trans (cWd_0 z1).1
    have h9 := (hd1 f1).a 2 (j := p) (by decide) (by omega)
    rw [h9]
    have hrb := rowB_2
    exact congrArg iI (dL_ne (by omega))
  have hF13 : frG (PCr x) I I3 := hF1.tr (hF3.mono (fun q k z => Or.inl z))
  have hK3 := hK.rc hx hF13
  have hgb3 := hg3
  unfold gS at hgb3
  refine r_i ?_
  refine w_istore c_27_19 (Nat.le_of_ble_eq_true rfl) rfl ?_
  refine w_aload c_27_20 rfl ?_
  refine z_push c_27_21 ?_
  refine wc_45 c_27_24 sp_2 (Nat.le_of_ble_eq_true rfl) (by omega) ?_
  refine tb_need (C := _) hs hK3 hg3 hc3 (by decide) (by decide) (by omega) (fun S4 hg4 hc4 hl4 ha4 => ?_)
  have hgb4 := hg4
  unfold gS at hgb4
  refine r_v ?_
  refine w_aload c_27_27 rfl ?_
  refine z_push c_27_28 ?_
  refine z_push c_27_29 ?_
  refine wc_32 c_27_32 sp_2 (Nat.le_of_ble_eq_true rfl) (by omega) ?_
  refine tb_num (C := _) hn hs hK3 hg4 hc4 (by decide) (by decide) (by omega) (fun S5 v5 hg5 hc5 hv5 hvr5 hl5 ha5 => ?_)
  have hgb5 := hg5
  unfold gS at hgb5
  refine r_i ?_
  refine w_istore c_27_35 (Nat.le_of_ble_eq_true rfl) rfl ?_
  refine w_aload c_27_37 rfl ?_
  refine z_push c_27_38 ?_
  refine wc_45 c_27_41 sp_2 (Nat.le_of_ble_eq_true rfl) (by omega) ?_
  refine tb_need (C := _) hs hK3 hg5 hc5 (by decide) (by decide) (by omega) (fun S6 hg6 hc6 hl6 ha6 => ?_)
  have hgb6 := hg6
  unfold gS at hgb6
  refine r_v ?_
  refine w_aload c_27_44 rfl ?_
  refine z_push c_27_45 ?_
  refine z_push c_27_46 ?_
  refine wc_32 c_27_48 sp_2 (Nat.le_of_ble_eq_true rfl) (by omega) ?_
  refine tb_num (C := _) hn hs hK3 hg6 hc6 (by decide) (by decide) (by omega) (fun S7 v7 hg7 hc7 hv7 hvr7 hl7 ha7 => ?_)
  have hgb7 := hg7
  unfold gS at hgb7
  refine r_i ?_
  refine w_istore c_27_51 (Nat.le_of_ble_eq_true rfl) rfl ?_
  refine w_aload c_27_53 rfl ?_
  refine z_push c_27_54 ?_
  refine wc_45 c_27_57 sp_2 (Nat.le_of_ble_eq_true rfl) (by omega) ?_
  refine tb_need (C := _) hs hK3 hg7 hc7 (by decide) (by decide) (by omega) (fun S8 hg8 hc8 hl8 ha8 => ?_)
  have hgb8 := hg8
  unfold gS at hgb8
  refine r_v ?_
  refine w_aload c_27_60 rfl ?_
  refine z_push c_27_61 ?_
  refine z_push c_27_62 ?_
  refine wc_32 c_27_64 sp_2 (Nat.le_of_ble_eq_true rfl) (by omega) ?_
  refine tb_num (C := _) hn hs hK3 hg8 hc8 (by decide) (by decide) (by omega) (fun S9 v9 hg9 hc9 hv9 hvr9 hl9 ha9 => ?_)
  have hgb9 := hg9
  unfold gS at hgb9
  refine r_i ?_
  refine w_istore c_27_67 (Nat.le_of_ble_eq_true rfl) rfl ?_
  refine w_aload c_27_69 rfl ?_
  refine z_getZ c_27_70 sp_2 (by decide) rfl rfl ?_
  refine z_if_ne c_27_73 (by first | exact aRg_of _ | (unfold aRg; omega)) (fun h1_ => ?_) (fun h1_ => ?_)
  · refine z_retv c_27_117 ?_
    exact kk I3 S9 hg9 hc9 (fun z => absurd z (by omega)) ⟨Eq.trans (Eq.trans (Eq.trans (Eq.trans (Eq.trans (Eq.trans (Eq.trans (Eq.trans (hl9.1) hl8.1) hl7.1) hl6.1) hl5.1) hl4.1) hl3.1) hl2.1) hl1.1, Eq.trans (Eq.trans (Eq.trans (Eq.trans (Eq.trans (Eq.trans (Eq.trans (Eq.trans (hl9.2) hl8.2) hl7.2) hl6.2) hl5.2) hl4.2) hl3.2) hl2.2) hl1.2⟩ (by omega) hF13
  · have f9 : S9.f = 0 := by omega
    have g9 := cNu_0 (hc9.1.symm.trans f9)
    have g8 := cWd_0 g9.1
    have g7 := cNu_0 g8.1
    have g6 := cWd_0 g7.1
    have g5 := cNu_0 g6.1
    have g4 := cWd_0 g5.1
    have g3 := cNp_0 g4.1
    have g2 := cWd_0 g3.1
    have gm := cG_m g2.1
    have e4 : (cVl T (tkK T n) (tkP T n) (tkZ T n) D (cWd (tkK T n) (tkP T n) 309 (cG T (tkK T n) (tkP T n) (tkZ T n) D 2 j))).2.2 = j + 4 := by
      show (cNp _ _ _ _ _).2.2 = _
      rw [g3.2.2.2.2, g2.2.2, gm]
    have hv9z := (hv9 (hc9.1.symm.trans f9)).1
    have hv7z := (hv7 g8.1).1
    have hv5z := (hv5 g6.1).1
    have f1 : S1.f = 0 := hc1.1.trans g2.1
    have f3 : S3.f = 0 := hc3.1.trans g4.1
    have hr1z := hr1 f1
    have hr3z := hr3 f3
    have hD1g := (hd1 f1).fr (I2 := I3) (fun p k h1 h2 => hF3 p k (by rcases hx with rfl | rfl <;> omega))
    rw [g8.2.2, g7.2.2.2.2, g6.2.2, g5.2.2.2.2, g4.2.2, e4] at hv9z
    rw [g6.2.2, g5.2.2.2.2, g4.2.2, e4] at hv7z
    rw [g4.2.2, e4] at hv5z
    rw [g2.2.2, gm] at hr3z
    have hz9 : v9 = tkZ T n (j + 9) := hv9z
    have hz7 : v7 = tkZ T n (j + 7) := hv7z
    have hz5 : v5 = tkZ T n (j + 5) := hv5z
    have hz3 : r3 = vix T (tkP T n) (tkZ T n) D (j + 3) := hr3z
    obtain ⟨hrw, hr6⟩ := hr1z
    have hcnt : iI (dU (dU (dU (dU (dL D (rowB 2 + D 1 2) (nmJ T (tkP T n) (tkZ T n) (j + 1))) 6 r r3) 7 r v5) 8 r v7) 9 r v9 1 2) = iI (D 1 2) := rfl
    refine w_aload c_27_76 rfl ?_
    refine w_getR c_27_77 (sps_0 hx) (by decide) rfl (prs_9 hx) ?_
    refine w_iload c_27_80 rfl ?_
    refine w_iload c_27_81 rfl ?_
    refine z_iastore c_27_82 (sps_6 hx) (by omega) (by decide) ?_
    refine oS_k hs hx (by decide) hF13 (by have := hx; omega) (fun Ip0 ep0 hFp0 => ?_)
    have hDp0 : cD Ip0 x (dU (dL D (rowB 2 + D 1 2) (nmJ T (tkP T n) (tkZ T n) (j + 1))) 6 r r3) := hD1g.put (k := 6) (e := r) (v := r3) (by decide) (by omega) ep0 (fun _ _ => rfl)
    refine w_aload c_27_83 rfl ?_
    refine w_getR c_27_84 (sps_0 hx) (by decide) rfl (prs_10 hx) ?_
    refine w_iload c_27_87 rfl ?_
    refine w_iload c_27_88 rfl ?_
    refine z_iastore c_27_90 (sps_7 hx) (by omega) (by decide) ?_
    refine oS_k hs hx (by decide) hFp0 (by have := hx; omega) (fun Ip1 ep1 hFp1 => ?_)
    have hDp1 : cD Ip1 x (dU (dU (dL D (rowB 2 + D 1 2) (nmJ T (tkP T n) (tkZ T n) (j + 1))) 6 r r3) 7 r v5) := hDp0.put (k := 7) (e := r) (v := v5) (by decide) (by omega) ep1 (fun _ _ => rfl)
    refine w_aload c_27_91 rfl ?_
    refine w_getR c_27_92 (sps_0 hx) (by decide) rfl (prs_11 hx) ?_
    refine w_iload c_27_95 rfl ?_
    refine w_iload c_27_96 rfl ?_
    refine z_iastore c_27_98 (sps_8 hx) (by omega) (by decide) ?_
    refine oS_k hs hx (by decide) hFp1 (by have := hx; omega) (fun Ip2 ep2 hFp2 => ?_)
    have hDp2 : cD Ip2 x (dU (dU (dU (dL D (rowB 2 + D 1 2) (nmJ T (tkP T n) (tkZ T n) (j + 1))) 6 r r3) 7 r v5) 8 r v7) := hDp1.put (k := 8) (e := r) (v := v7) (by decide) (by omega) ep2 (fun _ _ => rfl)
    refine w_aload c_27_99 rfl ?_
    refine w_getR c_27_100 (sps_0 hx) (by decide) rfl (prs_12 hx) ?_
    refine w_iload c_27_103 rfl ?_
    refine w_iload c_27_104 rfl ?_
    refine z_iastore c_27_106 (sps_9 hx) (by omega) (by decide) ?_
    refine oS_k hs hx (by decide) hFp2 (by have := hx; omega) (fun Ip3 ep3 hFp3 => ?_)
    have hDp3 : cD Ip3 x (dU (dU (dU (dU (dL D (rowB 2 + D 1 2) (nmJ T (tkP T n) (tkZ T n) (j + 1))) 6 r r3) 7 r v5) 8 r v7) 9 r v9) := hDp2.put (k := 9) (e := r) (v := v9) (by decide) (by omega) ep3 (fun _ _ => rfl)
    refine w_aload c_27_107 rfl ?_
    refine w_getR c_27_108 (sps_0 hx) (by decide) rfl (prs_4 hx) ?_
    refine z_push c_27_111 ?_
    refine w_dup2 c_27_112 rfl rfl ?_
    refine z_iaload c_27_113 (sps_1 hx) (by omega) (by first | decide | omega) ((oS_x hs hx (by decide)).trans ((hDp3.a 1 (by decide) (by decide)).trans hcnt)) ?_
    refine z_push c_27_114 ?_
    refine z_iadd c_27_115 ?_
    refine z_iastore c_27_116 (sps_1 hx) (by omega) (by decide) ?_
    refine oS_k hs hx (by decide) hFp3 (by have := hx; omega) (fun Ip4 ep4 hFp4 => ?_)
    have hDp4 : cD Ip4 x (dU (dU (dU (dU (dU (dL D (rowB 2 + D 1 2) (nmJ T (tkP T n) (tkZ T n) (j + 1))) 6 r r3) 7 r v5) 8 r v7) 9 r v9) 1 2 (D 1 2 + 1)) := hDp3.put (k := 1) (e := 2) (v := (D 1 2 + 1)) (by decide) (by omega) ep4 (fun _ _ => rfl)
    refine z_retv c_27_117 ?_
    refine kk Ip4 S9 hg9 hc9 (fun _ => ?_) ⟨Eq.trans (Eq.trans (Eq.trans (Eq.trans (Eq.trans (Eq.trans (Eq.trans (Eq.trans (hl9.1) hl8.1) hl7.1) hl6.1) hl5.1) hl4.1) hl3.1) hl2.1) hl1.1, Eq.trans (Eq.trans (Eq.trans (Eq.trans (Eq.trans (Eq.trans (Eq.trans (Eq.trans (hl9.2) hl8.2) hl7.2) hl6.2) hl5.2) hl4.2) hl3.2) hl2.2) hl1.2⟩ (by omega) hFp4
    subst hrw
    rw [hz3, hz5, hz7, hz9] at hDp4
    have e0 : rowB 2 + D 1 2 = 12 + D 1 2 := by rw [rowB_2]
    rw [e0] at hDp4
    exact ⟨hDp4, (((((hDr.l hTr).u (by decide)).u (by decide)).u (by decide)).u (by decide)).u (by decide)⟩

