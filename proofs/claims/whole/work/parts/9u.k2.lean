/-! the class: a name given (p9u.py) -/
theorem oN_s {I : aFI} : oN I (fun k => (I 7 k.toNat).toInt) = I := by
  funext q k
  unfold oN
  split
  · rename_i h; subst h; exact (iI_of (I 7 k)).symm
  · rfl
theorem oS_ne {I : aFI} {s q k : Nat} {S : Rs} (h1 : ¬ q = 2) (h2 : ¬ q = s) (h3 : ¬ q = s + 1) : oS I s S q k = I q k := by
  unfold oS oR oU
  rw [if_neg (fun z => h1 z.1), if_neg (fun z => h1 z.1), if_neg (fun z => h1 z.1), if_neg (fun z => h1 z.1), if_neg (fun z => h2 z.1), if_neg h3]
theorem sx_ne {s x k : Nat} (hs : aSm s) (hx : x = 8 ∨ x = 22) (hk : k < 10) : ¬ x + k = 2 ∧ ¬ x + k = s ∧ ¬ x + k = s + 1 := by rcases hs with rfl | rfl | rfl <;> rcases hx with rfl | rfl <;> omega
theorem oS_x {I : aFI} {s x k m : Nat} {S : Rs} (hs : aSm s) (hx : x = 8 ∨ x = 22) (hk : k < 10) : oS I s S (x + k) m = I (x + k) m := oS_ne (sx_ne hs hx hk).1 (sx_ne hs hx hk).2.1 (sx_ne hs hx hk).2.2
theorem oS_xu {I : aFI} {s x k m : Nat} {S : Rs} {v : Int32} (hs : aSm s) (hx : x = 8 ∨ x = 22) (hk : k < 10) : aUp (oS I s S) (x + k) m v = oS (aUp I (x + k) m v) s S := oS_out (sx_ne hs hx hk).1 (sx_ne hs hx hk).2.1 (sx_ne hs hx hk).2.2
theorem tW {T : Int → Int} {n N : Int} (hTr : ∀ j : Int, 0 ≤ T j ∧ T j < 256) (hn : 0 ≤ n ∧ n ≤ 1600) : ∀ j : Int, 0 ≤ j → j < N → 332 ≤ tK T n j → tK T n j ≤ 338 → 0 ≤ tZ T n j ∧ tPl T n j + tZ T n j ≤ 1600 := fun j _ _ a b => by
  have h := tkK_lt (j := j.toNat) hTr hn ⟨a, b⟩
  have h1 : 1 ≤ tZ T n j := h.1
  have h2 : tPl T n j + tZ T n j ≤ n := h.2.2
  omega
theorem tb_name {d s : Nat} {I : aFI} {L : aFL} {Q : aPo} {N : Int} {K PL SZ T : Int → Int} {S : Rs} {sh : Nat} {su : Option Nat} (hs : aSm s) (hT : ∀ j : Int, 0 ≤ j → j < 1600 → I 1 j.toNat = iI (T j) ∧ (0 ≤ T j ∧ T j < 256)) (hW : ∀ j : Int, 0 ≤ j → j < N → 332 ≤ K j → K j ≤ 338 → 0 ≤ SZ j ∧ PL j + SZ j ≤ 1600) (hK : kB I N K PL SZ) (h : gS N S) (hd : 1 ≤ d) (k : ∀ I2 : aFI, frG (fun q _ => q = 7) I I2 → (332 ≤ K S.a ∧ K S.a ≤ 338 → ¬ 6 < SZ S.a → ∀ j : Int, 0 ≤ j → j < 6 → I2 7 j.toNat = iI (if j < SZ S.a then T (PL S.a + j) - 97 + 1 else 0)) → Q none (oS I2 s (rNm K PL SZ S)) L (aR sh su)) : aWp none d 31 0 [.ref 2, .null, .null, .null, .null] [] (oS I s S) L (aR sh su) Q := by
  have e := oN_s (I := I)
  rw [← e]
  refine ts_name hs hT hW hK h hd (k _ ?_ ?_)
  · intro q p hq
    exact if_neg hq
  · intro h1 h2 j h3 h4
    have e2 := (rNm_2 (K := K) (PL := PL) (SZ := SZ) (T := T) (NM := fun k => (I 7 k.toNat).toInt) h1 h2).2
    show (if (7 : Nat) = 7 then iI (rNa K PL SZ T S (fun k => (I 7 k.toNat).toInt) ((j.toNat : Nat) : Int)) else _) = _
    rw [if_pos rfl, e2, Int.toNat_of_nonneg h3]
    show iI (if 0 ≤ j ∧ j < 6 then _ else _) = _
    rw [if_pos ⟨h3, h4⟩]
def dLp (D : Nat → Int → Int) (r : Int) (NM : Int → Int) (i : Int) : Nat → Int → Int := fun b p => if b = 2 ∧ r * 6 ≤ p ∧ p < r * 6 + i then NM (p - r * 6) else D b p
theorem cD.put {I I2 : aFI} {x k : Nat} {D D2 : Nat → Int → Int} {e v : Int} (h : cD I x D) (hk : 1 ≤ k ∧ k ≤ 9) (he : 0 ≤ e) (hi : I2 = aUp I (x + k) e.toNat (iI v)) (hd : ∀ (b : Nat) (i : Int), D2 b i = if b = k ∧ i = e then v else D b i) : cD I2 x D2 := by
  have e0 : ∀ j : Int, D2 0 j = D 0 j := fun j => by rw [hd, if_neg (by omega)]
  have ez : ∀ m : Nat, I2 x m = I x m := fun m => by rw [hi]; exact up_ne (by omega)
  refine ⟨by rw [ez, e0]; exact h.1, ⟨by rw [ez, e0]; exact h.2.1.1, by rw [ez, e0]; exact h.2.1.2.1, by rw [ez, e0]; exact h.2.1.2.2.1, by rw [ez, e0]; exact h.2.1.2.2.2.1, by rw [ez, e0]; exact h.2.1.2.2.2.2.1, by rw [ez, e0]; exact h.2.1.2.2.2.2.2⟩, fun m j h1 h2 h3 => ?_⟩
  rw [hi, hd]
  by_cases z : m = k ∧ j = e
  · obtain ⟨rfl, rfl⟩ := z; rw [if_pos ⟨rfl, rfl⟩]; exact up_eq
  · rw [if_neg z, up_ne (by omega)]; exact h.2.2 m j h1 h2 h3
theorem cD.ext {I : aFI} {x : Nat} {D D2 : Nat → Int → Int} (h : cD I x D) (hd : ∀ (b : Nat) (i : Int), D2 b i = D b i) : cD I x D2 := by
  have : D2 = D := funext fun b => funext fun i => hd b i
  rw [this]; exact h
set_option maxHeartbeats 2000000 in
theorem tb_give_74 {d s x : Nat} {I0 : aFI} {L : aFL} {Q : aPo} {S : Rs} {sh : Nat} {su : Option Nat} {D : Nat → Int → Int} (hs : aSm s) (hx : x = 8 ∨ x = 22) {c w z : Int} (hc : 0 ≤ c ∧ c < 3) (hw : 0 ≤ w ∧ w < (if c = 2 then 8 else 6)) (hd : 1 ≤ d) (k : ∀ I2 : aFI, cD I2 x (dLp D (rowB c + w) (fun k => (I0 7 k.toNat).toInt) 6) → frG (fun q _ => q = x + 2) I0 I2 → Q (some (.int (iI w))) (oS I2 s S) L (aR sh su)) : ∀ (fz : Nat) (i : Int) (I : aFI), (6 - i).toNat < fz → (0 ≤ i) → (i ≤ 6) → (cD I x (dLp D (rowB c + w) (fun k => (I0 7 k.toNat).toInt) i)) → (frG (fun q _ => q = x + 2) I0 I) → aWp none d 29 74 [.ref 2, .ref x, .int (iI c), .int (iI w), .int (iI z), .int (iI i)] [] (oS I s S) L (aR sh su) Q := by
  intro fz
  induction fz with
  | zero => intro i I h; omega
  | succ fz ih =>
    intro i I hn2 h0 h1 hD hF
    refine w_iload c_29_74 rfl ?_
    refine z_push c_29_76 ?_
    refine z_ic_ge c_29_78 (by first | exact aRg_of _ | (unfold aRg; omega)) (by first | exact aRg_of _ | (unfold aRg; omega)) (fun h1_ => ?_) (fun h1_ => ?_)
    · refine w_iload c_29_110 rfl ?_
      refine z_ret c_29_111 rfl ?_
      have hi : i = 6 := by omega
      subst hi
      exact k I hD hF
    · have hrb := rowB_rg hc
      have hrw : rowB c + w < 20 := by
        unfold rowB
        split at hw <;> rename_i hc2 <;> (repeat' split) <;> omega
      refine w_aload c_29_81 rfl ?_
      refine w_getR c_29_82 (sps_0 hx) (by decide) rfl (prs_5 hx) ?_
      refine w_iload c_29_85 rfl ?_
      refine w_iload c_29_86 rfl ?_
      refine wc_65 c_29_87 (Nat.le_of_ble_eq_true rfl) (by omega) ?_
      refine tc_rowOf hc (by split at hw <;> omega) ?_
      refine r_i ?_
      refine z_push c_29_90 ?_
      refine z_imul c_29_92 ?_
      refine w_iload c_29_93 rfl ?_
      refine z_iadd c_29_95 ?_
      refine w_aload c_29_96 rfl ?_
      refine w_getR c_29_97 sp_2 (by decide) rfl pr_2_2 ?_
      refine w_iload c_29_100 rfl ?_
      refine z_iaload c_29_102 sp_7 (by omega) (by first | decide | omega) ((oS_ne (by decide) (by rcases hs with rfl | rfl | rfl <;> decide) (by rcases hs with rfl | rfl | rfl <;> decide)).trans ((hF 7 _ (by omega)).trans (iI_of _))) ?_
      refine z_iastore c_29_103 (sps_2 hx) (by omega) (by decide) ?_
      rw [oS_xu hs hx (by decide)]
      refine z_iinc c_29_104 rfl rfl ?_
      refine w_goto c_29_107 ?_
      refine ih (i + 1) _ (by omega) (by omega) (by omega) (hD.put (k := 2) (e := (rowB c + w) * 6 + i) (v := (I0 7 i.toNat).toInt) (by decide) (by omega) rfl (fun b p => ?_)) (hF.up rfl)
      unfold dLp
      by_cases z : b = 2 ∧ p = (rowB c + w) * 6 + i
      · rw [if_pos z, if_pos (by omega), show p - (rowB c + w) * 6 = i by omega]
      · rw [if_neg z]
        by_cases z2 : b = 2 ∧ (rowB c + w) * 6 ≤ p ∧ p < (rowB c + w) * 6 + i
        · rw [if_pos z2, if_pos (by omega)]
        · rw [if_neg z2, if_neg (by omega)]

theorem rF_a {x z : Int} {S : Rs} : (rF x z S).a = S.a := by unfold rF; split <;> rfl
/-- where a name given of sort c leads -/
noncomputable def cG (T : Int → Int) (K PL Z : Nat → Int) (D : Nat → Int → Int) (c : Int) (j : Nat) : Cu := if D 1 c = (if c = 2 then 8 else 6) then (5, PL j, j) else cNp K PL Z (cdu T PL Z D (j + 1)) (0, 0, j + 1)
def rgD (D : Nat → Int → Int) : Prop := ∀ j : Int, aRg (D 2 j)
set_option maxHeartbeats 2000000 in
theorem tb_giveName {d s x : Nat} {I : aFI} {L : aFL} {Q : aPo} {T : Int → Int} {n N : Int} {S : Rs} {sh : Nat} {su : Option Nat} {D : Nat → Int → Int} {cd : Nat → Option (List Int)} (hs : aSm s) (hx : x = 8 ∨ x = 22) (hT : ∀ j : Int, 0 ≤ j → j < 1600 → I 1 j.toNat = iI (T j) ∧ (0 ≤ T j ∧ T j < 256)) (hTr : ∀ j : Int, 0 ≤ T j ∧ T j < 256) (hn : 0 ≤ n ∧ n ≤ 1600) (hK : kB I N (tK T n) (tPl T n) (tZ T n)) (h : gS N S) {j : Nat} (hC : cc (0, 0, j) S) (ha1 : S.a + 1 < N) (hD : cD I x D) (hwf : wfP D cd) (hDr : rgD D) {c : Int} (hc : 0 ≤ c ∧ c < 3) (hd : 4 ≤ d) (kk : ∀ (I2 : aFI) (S2 : Rs) (r : Int), gS N S2 → cc (cG T (tkK T n) (tkP T n) (tkZ T n) D c j) S2 → (S2.f = 0 → r = D 1 c ∧ D 1 c < (if c = 2 then 8 else 6)) → aRg r → S2.ln = S.ln ∧ S2.C = S.C → (S2.f = 0 → cD I2 x (dL D (rowB c + D 1 c) (nmJ T (tkP T n) (tkZ T n) (j + 1)))) → S.a ≤ S2.a → frG (fun q _ => q = 7 ∨ q = x + 2) I I2 → Q (some (.int (iI r))) (oS I2 s S2) L (aR sh su)) : aWp none d 29 0 [.ref 2, .ref x, .int (iI c), .null, .null, .null] [] (oS I s S) L (aR sh su) Q := by
  have hf : S.f = 0 := hC.1
  have hat := cc.at (T := T) (n := n) (hC.2.1 hf).1
  have hcn := hwf.1.n
  have hb := h
  unfold gS at hb
  have hNb := hK.2.2.1
  have hwc : 0 ≤ D 1 c ∧ D 1 c ≤ (if c = 2 then 8 else 6) := by
    rcases (show c = 0 ∨ c = 1 ∨ c = 2 by omega) with rfl | rfl | rfl
    · exact ⟨hcn.1.1, hcn.1.2⟩
    · exact ⟨hcn.2.1.1, hcn.2.1.2⟩
    · exact ⟨hcn.2.2.1, hcn.2.2.2⟩
  have hmr : (if c = 2 then (8 : Int) else 6) ≤ 8 ∧ 6 ≤ (if c = 2 then (8 : Int) else 6) := by split <;> omega
  have gi := rI_g h ha1
  have hpl := hK.2.2.2 S.a h.1.1 h.1.2
  refine w_aload c_29_0 rfl ?_
  refine w_getR c_29_1 (sps_0 hx) (by decide) rfl (prs_4 hx) ?_
  refine w_iload c_29_4 rfl ?_
  refine z_iaload c_29_5 (sps_1 hx) (by omega) (by first | decide | omega) ((oS_x hs hx (by decide)).trans (hD.a 1 (by decide) hc.1)) ?_
  refine w_istore c_29_6 (Nat.le_of_ble_eq_true rfl) rfl ?_
  refine w_iload c_29_7 rfl ?_
  refine w_iload c_29_8 rfl ?_
  refine wc_66 c_29_9 (Nat.le_of_ble_eq_true rfl) (by omega) ?_
  refine tc_mostOf hc ?_
  refine r_i ?_
  refine z_ic_lt c_29_12 (by first | exact aRg_of _ | (unfold aRg; omega)) (by first | exact aRg_of _ | (unfold aRg; omega)) (fun h1_ => ?_) (fun h1_ => ?_)
  · have hwk : 0 ≤ D 1 c ∧ D 1 c < (if c = 2 then 8 else 6) := ⟨hwc.1, by omega⟩
    have hcg : cG T (tkK T n) (tkP T n) (tkZ T n) D c j = cNp (tkK T n) (tkP T n) (tkZ T n) (cdu T (tkP T n) (tkZ T n) D (j + 1)) (0, 0, j + 1) := if_neg (by omega)
    have hcI : cc (0, 0, j + 1) (rI S) := cc.ok (S := rI S) hf (by have := (hC.2.1 hf).1; show S.a + 1 = ((j + 1 : Nat) : Int); have : S.a = ((j : Nat) : Int) := this; omega) (hC.2.1 hf).2.1 (hC.2.1 hf).2.2
    have hfI : (rI S).f = 0 := hf
    refine w_aload c_29_26 rfl ?_
    refine w_dup c_29_27 rfl ?_
    refine z_getZ c_29_28 sp_2 (by decide) rfl rfl ?_
    refine z_push c_29_31 ?_
    refine z_iadd c_29_32 ?_
    refine z_putZ c_29_33 sp_2 (by decide) rfl ?_
    rw [oS_I]
    refine w_aload c_29_36 rfl ?_
    refine wc_43 c_29_37 sp_2 (Nat.le_of_ble_eq_true rfl) (by omega) ?_
    refine ts_nextPlace hs hK gi.1 ?_
    refine r_i ?_
    refine w_istore c_29_40 (Nat.le_of_ble_eq_true rfl) rfl ?_
    refine w_aload c_29_42 rfl ?_
    refine wc_31 c_29_43 sp_2 (Nat.le_of_ble_eq_true rfl) (by omega) ?_
    refine tb_name hs hT (tW hTr hn) hK gi.1 (by omega) (fun I1 hF1 hN1 => ?_)
    have gn := (rNm_g (PL := tPl T n) (SZ := tZ T n) (kB_K hK) gi.1)
    have gnb := gn.1
    unfold gS at gnb
    refine r_v ?_
    refine w_aload c_29_46 rfl ?_
    refine z_getZ c_29_47 sp_2 (by decide) rfl rfl ?_
    refine z_if_ne c_29_50 (by first | exact aRg_of _ | (unfold aRg; omega)) (fun h2_ => ?_) (fun h2_ => ?_)
    · refine z_push c_29_71 ?_
      refine w_istore c_29_72 (Nat.le_of_ble_eq_true rfl) rfl ?_
      refine tb_give_74 (I0 := I1) (S := rNm (tK T n) (tPl T n) (tZ T n) (rI S)) (D := D) (w := D 1 c) hs hx hc hwk (by omega) ?_ _ 0 I1 (Nat.lt_succ_self _) (by decide) (by decide) ?_ frG.rf
      rotate_left
      · refine (hD.fr (fun p k h1 h2 => hF1 p k (by rcases hx with rfl | rfl <;> omega))).ext (fun b p => ?_)
        unfold dLp; rw [if_neg (by omega)]
      intro I2 hD2 hF2
      have hcc : cc (cNp (tkK T n) (tkP T n) (tkZ T n) (cdu T (tkP T n) (tkZ T n) D (j + 1)) (0, 0, j + 1)) (rNm (tK T n) (tPl T n) (tZ T n) (rI S)) := hcI.np_b h2_
      refine kk I2 (rNm (tK T n) (tPl T n) (tZ T n) (rI S)) (D 1 c) (rNm_g (PL := tPl T n) (SZ := tZ T n) (kB_K hK) gi.1).1 (hcg ▸ hcc) (fun _ => ⟨rfl, hwk.2⟩) (by unfold aRg; split at hwk <;> omega) rNm_l ?_ (by have := (rNm_g (PL := tPl T n) (SZ := tZ T n) (kB_K hK) gi.1).2.1; have : (rI S).a = S.a + 1 := rfl; omega) ?_
      · intro z; exact absurd z h2_
      · intro q k hq
        exact (hF2 q k (fun z => hq (Or.inr z))).trans (hF1 q k (fun z => hq (Or.inl z)))
    · refine w_aload c_29_53 rfl ?_
      refine w_aload c_29_54 rfl ?_
      refine w_getR c_29_55 sp_2 (by decide) rfl pr_2_2 ?_
      refine wc_68 c_29_58 (sps_0 hx) (Nat.le_of_ble_eq_true rfl) (by omega) ?_
      have hb0 : (rNm (tK T n) (tPl T n) (tZ T n) (rI S)).f = 0 := by omega
      have hok := rNm_ok hcI hb0
      have hlt := tkK_lt (T := T) (n := n) (j := j + 1) hTr hn hok.2.1
      have hz6 : 1 ≤ tkZ T n (j + 1) ∧ tkZ T n (j + 1) ≤ 6 := ⟨hlt.1, by have : ¬ 6 < tkZ T n (j + 1) := hok.2.2.1; omega⟩
      have hwn : wfN (nmJ T (tkP T n) (tkZ T n) (j + 1)) := nmL_wf hz6 hlt.2.1
      have hatI := cc.at (T := T) (n := n) (hcI.2.1 hfI).1
      have hN6 : ∀ p : Int, 0 ≤ p → p < 6 → I1 7 p.toNat = iI (nmJ T (tkP T n) (tkZ T n) (j + 1) p) := fun p a b => by
        rw [hN1 (by rw [hatI.1]; exact hok.2.1) (by rw [hatI.2.2]; exact hok.2.2.1) p a b, hatI.2.2, hatI.2.1]; rfl
      have hNr : ∀ p : Int, 0 ≤ p → p < 6 → 0 ≤ nmJ T (tkP T n) (tkZ T n) (j + 1) p ∧ nmJ T (tkP T n) (tkZ T n) (j + 1) p ≤ 26 := fun p a b => by
        unfold nmJ nmL
        split
        · have := hlt.2.1 p a (by assumption); omega
        · omega
      have hNM : ∀ p : Int, (rowB c + D 1 c) * 6 ≤ p → p < (rowB c + D 1 c) * 6 + 6 → nmJ T (tkP T n) (tkZ T n) (j + 1) (p - (rowB c + D 1 c) * 6) = (I1 7 (p - (rowB c + D 1 c) * 6).toNat).toInt := fun p a b => by
        have h9 := hNr (p - (rowB c + D 1 c) * 6) (by omega) (by omega)
        rw [hN6 _ (by omega) (by omega), iI_toInt (by unfold aRg; omega)]
      have hkd := knwn_dup (D := D) hwf.2.1 hwn
      refine tc_knows (LT := D 2) (NM := nmJ T (tkP T n) (tkZ T n) (j + 1)) (CN := D 1) (by omega) hx (fun c a b => ⟨(oS_x hs hx (by decide)).trans ((hF1 _ _ (by rcases hx with rfl | rfl <;> omega)).trans (hD.a 1 (by decide) a)), ?_⟩) (fun p a b => ⟨(oS_x hs hx (by decide)).trans ((hF1 _ _ (by rcases hx with rfl | rfl <;> omega)).trans (hD.a 2 (by decide) a)), hDr p⟩) (fun p a b => ⟨(oS_ne (by decide) (by rcases hs with rfl | rfl | rfl <;> decide) (by rcases hs with rfl | rfl | rfl <;> decide)).trans (hN6 p a b), by have := hNr p a b; unfold aRg; omega⟩) (fun h7 => ?_) (fun h7 => ?_)
      · rcases (show c = 0 ∨ c = 1 ∨ c = 2 by omega) with rfl | rfl | rfl
        · exact ⟨hcn.1.1, hcn.1.2⟩
        · exact ⟨hcn.2.1.1, hcn.2.1.2⟩
        · exact ⟨hcn.2.2.1, hcn.2.2.2⟩
      · refine r_i ?_
        refine b_if_eq c_29_61 (fun h => Bool.noConfusion h) (fun _ => ?_)
        refine w_aload c_29_64 rfl ?_
        refine z_push c_29_65 ?_
        refine w_iload c_29_66 rfl ?_
        refine wc_46 c_29_68 sp_2 (Nat.le_of_ble_eq_true rfl) (by omega) ?_
        refine ts_fail gn.1 ?_
        refine r_v ?_
        refine z_push c_29_71 ?_
        refine w_istore c_29_72 (Nat.le_of_ble_eq_true rfl) rfl ?_
        refine tb_give_74 (I0 := I1) (S := rF 3 (tPl T n (rI S).a) (rNm (tK T n) (tPl T n) (tZ T n) (rI S))) (D := D) (w := D 1 c) hs hx hc hwk (by omega) ?_ _ 0 I1 (Nat.lt_succ_self _) (by decide) (by decide) ?_ frG.rf
        rotate_left
        · refine (hD.fr (fun p k h1 h2 => hF1 p k (by rcases hx with rfl | rfl <;> omega))).ext (fun b p => ?_)
          unfold dLp; rw [if_neg (by omega)]
        intro I2 hD2 hF2
        have hcc : cc (cNp (tkK T n) (tkP T n) (tkZ T n) (cdu T (tkP T n) (tkZ T n) D (j + 1)) (0, 0, j + 1)) (rF 3 (tPl T n (rI S).a) (rNm (tK T n) (tPl T n) (tZ T n) (rI S))) := hcI.np_t hb0 (hkd.mp h7)
        refine kk I2 (rF 3 (tPl T n (rI S).a) (rNm (tK T n) (tPl T n) (tZ T n) (rI S))) (D 1 c) (rF_g (rNm_g (PL := tPl T n) (SZ := tZ T n) (kB_K hK) gi.1).1 (by decide)).1 (hcg ▸ hcc) (fun _ => ⟨rfl, hwk.2⟩) (by unfold aRg; split at hwk <;> omega) ⟨rF_l.1.trans rNm_l.1, rF_l.2.trans rNm_l.2⟩ ?_ (by have := (rNm_g (PL := tPl T n) (SZ := tZ T n) (kB_K hK) gi.1).2.1; have : (rI S).a = S.a + 1 := rfl; rw [rF_a]; omega) ?_
        · intro z; exact absurd z (rF_f (by decide))
        · intro q k hq
          exact (hF2 q k (fun z => hq (Or.inr z))).trans (hF1 q k (fun z => hq (Or.inl z)))
      · refine r_i ?_
        refine b_if_eq c_29_61 (fun _ => ?_) (fun h => Bool.noConfusion h)
        refine z_push c_29_71 ?_
        refine w_istore c_29_72 (Nat.le_of_ble_eq_true rfl) rfl ?_
        refine tb_give_74 (I0 := I1) (S := rNm (tK T n) (tPl T n) (tZ T n) (rI S)) (D := D) (w := D 1 c) hs hx hc hwk (by omega) ?_ _ 0 I1 (Nat.lt_succ_self _) (by decide) (by decide) ?_ frG.rf
        rotate_left
        · refine (hD.fr (fun p k h1 h2 => hF1 p k (by rcases hx with rfl | rfl <;> omega))).ext (fun b p => ?_)
          unfold dLp; rw [if_neg (by omega)]
        intro I2 hD2 hF2
        have hcc : cc (cNp (tkK T n) (tkP T n) (tkZ T n) (cdu T (tkP T n) (tkZ T n) D (j + 1)) (0, 0, j + 1)) (rNm (tK T n) (tPl T n) (tZ T n) (rI S)) := hcI.np_f hb0 (fun z => h7 (hkd.mpr z))
        refine kk I2 (rNm (tK T n) (tPl T n) (tZ T n) (rI S)) (D 1 c) (rNm_g (PL := tPl T n) (SZ := tZ T n) (kB_K hK) gi.1).1 (hcg ▸ hcc) (fun _ => ⟨rfl, hwk.2⟩) (by unfold aRg; split at hwk <;> omega) rNm_l ?_ (by have := (rNm_g (PL := tPl T n) (SZ := tZ T n) (kB_K hK) gi.1).2.1; have : (rI S).a = S.a + 1 := rfl; omega) ?_
        · intro z
          refine hD2.ext (fun b p => ?_)
          unfold dL dLp
          by_cases y : b = 2 ∧ (rowB c + D 1 c) * 6 ≤ p ∧ p < (rowB c + D 1 c) * 6 + 6
          · rw [if_pos y, if_pos y]
            have y2 := hNM p (by omega) (by omega)
            exact y2
          · rw [if_neg y, if_neg y]
        · intro q k hq
          exact (hF2 q k (fun z => hq (Or.inr z))).trans (hF1 q k (fun z => hq (Or.inl z)))
  · have hmx : (if c = 2 then (8 : Int) else 6) ≤ D 1 c := by omega
    refine w_aload c_29_15 rfl ?_
    refine z_push c_29_16 ?_
    refine w_aload c_29_17 rfl ?_
    refine wc_43 c_29_18 sp_2 (Nat.le_of_ble_eq_true rfl) (by omega) ?_
    refine ts_nextPlace hs hK h ?_
    refine r_i ?_
    refine wc_46 c_29_21 sp_2 (Nat.le_of_ble_eq_true rfl) (by omega) ?_
    refine ts_fail h ?_
    refine r_v ?_
    refine z_push c_29_24 ?_
    refine z_ret c_29_25 rfl ?_
    have hcg : cG T (tkK T n) (tkP T n) (tkZ T n) D c j = (5, tkP T n j, j) := if_pos (by split at hmx <;> split <;> omega)
    have hg5 : gS N (rF 5 (tPl T n S.a) S) := (rF_g h (by decide)).1
    refine kk I _ (-1) hg5 (hcg ▸ ?_) (fun z => absurd z (rF_f (by decide))) (by unfold aRg; omega) rF_l (fun z => absurd z (rF_f (by decide))) (by rw [rF_a]; exact Int.le_refl _) frG.rf
    rw [hat.2.1]; exact cc.bf hf (by decide)

