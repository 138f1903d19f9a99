/-! the class: rules, statements told (p9x.py) -/
def cdS (I : aFI) (s : Nat) (S : Rs) (cd : Nat → Option (List Int)) : Prop := ∀ r : Nat, r < 3 → (cd r = none ∧ I (s + 2) r = iI (-1)) ∨ ∃ (l : List Int) (f : Int), cd r = some l ∧ (0 ≤ f ∧ f + l.length ≤ S.ln) ∧ I (s + 2) r = iI f ∧ I (s + 3) r = iI (f + l.length) ∧ cAt S.C f l
theorem cdS.fr {I I2 : aFI} {s : Nat} {S S2 : Rs} {cd : Nat → Option (List Int)} (h : cdS I s S cd) (h0 : ∀ k : Nat, I2 (s + 2) k = I (s + 2) k ∧ I2 (s + 3) k = I (s + 3) k) (h1 : S2.ln = S.ln ∧ S2.C = S.C) : cdS I2 s S2 cd := fun r hr => by
  rcases h r hr with ⟨a, b⟩ | ⟨l, f, a, b, c, d, e⟩
  · exact Or.inl ⟨a, (h0 r).1.trans b⟩
  · exact Or.inr ⟨l, f, a, by rw [h1.1]; exact b, (h0 r).1.trans c, (h0 r).2.trans d, by rw [h1.2]; exact e⟩
theorem rlR_cc {T : Int → Int} {n N : Int} {S : Rs} {r j : Nat} (hn : 0 ≤ n ∧ n ≤ 1600) (hr : r < 3) (hN : N ≤ 1601) (hK : ∀ j : Int, 0 ≤ j → j < N → (tK T n j = 341 ↔ j = N - 1)) (h : gS N S) (hC : cc (0, 0, j) S) (ha1 : S.a + 1 < N) (hln : S.ln ≤ S.a) {U : Rs} (hU : U = rdQ (tK T n) (tPl T n) (tZ T n) r (decide (r = 2)) (rI S)) (hop : U.op = S.op) : cc ((rlR (tkK T n) (tkP T n) (tkZ T n) r j).1, (rlR (tkK T n) (tkP T n) (tkZ T n) r j).2.1, (rlR (tkK T n) (tkP T n) (tkZ T n) r j).2.2.1) U ∧ (U.f = 0 → gt r 0 (rI S) U (lRl (tkK T n) (tkP T n) (tkZ T n) r j)) := by
  have hf : S.f = 0 := hC.1
  have hc := hC.2.1 hf
  have hca : S.a = ((j : Nat) : Int) := hc.1
  have gi := (rI_g h ha1).1
  have hq := rul (S := rI S) (j := j + 1) hn (rl_hr hr) hN hK gi hf hc.2.1 (by show S.ln ≤ S.a + 1; omega) (by show ((j + 1 : Nat) : Int) = S.a + 1; omega) (decide (r = 2))
  rw [← hU] at hq
  unfold lRl
  rw [rlR_q hr]
  refine ⟨⟨?_, fun z => ?_, fun z => (hq.1 z).2.symm⟩, fun z => ?_⟩
  · by_cases z : U.f = 0
    · rw [z]; exact (hq.2 z).1.symm
    · exact (hq.1 z).1.symm
  · obtain ⟨a, b, l, c, d⟩ := hq.2 z
    exact ⟨b.symm, hop.trans hc.2.1, c.2.2.2.2.2.trans hc.2.2⟩
  · obtain ⟨a, b, l, c, d, e⟩ := hq.2 z
    rw [d]; exact c
set_option maxHeartbeats 1000000 in
theorem tb_rule {d s : Nat} {I : aFI} {L : aFL} {Q : aPo} {T : Int → Int} {n N : Int} {S : Rs} {sh : Nat} {su : Option Nat} {cd : Nat → Option (List Int)} {r j : Nat} {rz : Int} (hs : aSm s) (hn : 0 ≤ n ∧ n ≤ 1600) (hK : kB I N (tK T n) (tPl T n) (tZ T n)) (h : gS N S) (hC : cc (0, 0, j) S) (ha1 : S.a + 1 < N) (hln : S.ln ≤ S.a) (hcd : cdS I s S cd) (hr : r < 3) (hrz : (r : Int) = rz) (hd : 82 ≤ d) (k : ∀ (I2 : aFI) (S2 : Rs) (su2 : Option Nat), gS N S2 → cc (sRl (tkK T n) (tkP T n) (tkZ T n) cd r j) S2 → (S2.f = 0 → cdS I2 s S2 (cRu (tkK T n) (tkP T n) (tkZ T n) cd r j) ∧ S2.ln ≤ S2.a) → frG (fun q k => (q = 2 ∧ k = 4) ∨ q = s + 2 ∨ q = s + 3) I I2 → Q none (oS I2 s S2) L (aR sh su2)) : aWp none d 28 0 [.ref 2, .ref s, .int (iI rz)] [] (oS I s S) L (aR sh su) Q := by
  subst hrz
  have hf : S.f = 0 := hC.1
  have hb := h
  unfold gS at hb
  have hN := hK.2.2.1
  have gi := (rI_g h ha1).1
  have hat := cc.at (T := T) (n := n) (hC.2.1 hf).1
  have h7 : ¬ s + 2 = 7 ∧ ¬ s + 3 = 7 ∧ ¬ s + 2 = 2 ∧ ¬ s + 3 = 2 := by rcases hs with rfl | rfl | rfl <;> decide
  have e : oN (oF I s (fun k => (I (s + 2) k.toNat).toInt) (fun k => (I (s + 3) k.toNat).toInt)) (fun k => (I 7 k.toNat).toInt) = I := by
    rw [oF_s]; exact oN_s
  have hfr : (I (s + 2) ((r : Int)).toNat).toInt = (I (s + 2) r).toInt := by rw [Int.toNat_natCast]
  have hv : -1 ≤ (I (s + 2) ((r : Int)).toNat).toInt ∧ (I (s + 2) ((r : Int)).toNat).toInt ≤ 1600 := by
    rw [hfr]
    rcases hcd r hr with ⟨a, b⟩ | ⟨l, f, a, b, c, d, e⟩
    · rw [b, iI_toInt (by unfold aRg; omega)]; omega
    · rw [c, iI_toInt (by unfold aRg; omega)]; omega
  have hnone : (I (s + 2) ((r : Int)).toNat).toInt = -1 ↔ cd r = none := by
    rw [hfr]
    rcases hcd r hr with ⟨a, b⟩ | ⟨l, f, a, b, c, d, e⟩
    · rw [b, iI_toInt (by unfold aRg; omega)]; exact ⟨fun _ => a, fun _ => rfl⟩
    · rw [c, iI_toInt (by unfold aRg; omega), a]
      constructor
      · intro z; omega
      · intro z; cases z
  have hgood : ∀ U : Rs, gS N U → U.op = S.op → S.a + 1 ≤ U.a → U = rdQ (tK T n) (tPl T n) (tZ T n) r (decide (r = 2)) (rI S) → cd r = none → Q none (oS (oN (oF (aUp I 2 4 (iI r)) s (cU (fun k => (I (s + 2) k.toNat).toInt) r S.ln) (cU (fun k => (I (s + 3) k.toNat).toInt) r U.ln)) (fun k => (I 7 k.toNat).toInt)) s U) L (aR sh (some s)) := by
    intro U gU hop ha hU hc
    have hcc := rlR_cc hn hr (by omega) (kB_K hK) h hC ha1 hln hU hop
    refine k _ U (some s) gU (by unfold sRl; rw [if_pos hc]; exact hcc.1) (fun z => ?_) (fun q p hq => ?_)
    · have hg := hcc.2 z
      have hg1 : U.ln = S.ln + (lRl (tkK T n) (tkP T n) (tkZ T n) r j).length := hg.1
      have hg2 : ((lRl (tkK T n) (tkP T n) (tkZ T n) r j).length : Int) + 0 ≤ U.a - (S.a + 1) := hg.2.1
      refine ⟨fun q hq => ?_, by omega⟩
      have e2 : ∀ p : Nat, oN (oF (aUp I 2 4 (iI r)) s (cU (fun k => (I (s + 2) k.toNat).toInt) r S.ln) (cU (fun k => (I (s + 3) k.toNat).toInt) r U.ln)) (fun k => (I 7 k.toNat).toInt) (s + 2) p = iI (cU (fun k => (I (s + 2) k.toNat).toInt) r S.ln p) := fun p => by
        unfold oN oF
        rw [if_neg h7.1, if_pos rfl]
      have e3 : ∀ p : Nat, oN (oF (aUp I 2 4 (iI r)) s (cU (fun k => (I (s + 2) k.toNat).toInt) r S.ln) (cU (fun k => (I (s + 3) k.toNat).toInt) r U.ln)) (fun k => (I 7 k.toNat).toInt) (s + 3) p = iI (cU (fun k => (I (s + 3) k.toNat).toInt) r U.ln p) := fun p => by
        unfold oN oF
        rw [if_neg h7.2.1, if_neg (by omega), if_pos rfl]
      by_cases hqr : q = r
      · subst hqr
        refine Or.inr ⟨lRl (tkK T n) (tkP T n) (tkZ T n) q j, S.ln, if_pos rfl, ⟨by omega, by omega⟩, ?_, ?_, hg.2.2.2.1⟩
        · rw [e2]; unfold cU; rw [if_pos rfl]
        · rw [e3]; unfold cU; rw [if_pos rfl, hg1]
      · have c2 : ∀ (f : Int → Int) (v : Int), cU f r v q = f q := fun f v => by unfold cU; rw [if_neg (by omega)]
        rw [e2, e3, c2, c2]
        show _ = none ∧ iI (I (s + 2) ((q : Int)).toNat).toInt = _ ∨ ∃ l f, _ ∧ _ ∧ iI (I (s + 2) ((q : Int)).toNat).toInt = _ ∧ iI (I (s + 3) ((q : Int)).toNat).toInt = _ ∧ _
        rw [Int.toNat_natCast, ← iI_of, ← iI_of]
        rcases hcd q hq with ⟨a, b⟩ | ⟨l, f, a, b, c, d, e⟩
        · exact Or.inl ⟨(if_neg hqr).trans a, b⟩
        · exact Or.inr ⟨l, f, (if_neg hqr).trans a, by omega, c, d, e.fr (fun i hi => hg.2.2.1 i (by show i < S.ln; omega))⟩
    · unfold oN oF
      by_cases y : q = 7
      · rw [if_pos y]; subst y; exact (iI_of (I 7 p)).symm
      · rw [if_neg y, if_neg (fun z => hq (Or.inr (Or.inl z))), if_neg (fun z => hq (Or.inr (Or.inr z)))]
        exact up_ne (fun z => hq (Or.inl z))
  rw [← e]
  refine ts_rule (w := (r : Int)) hs hK h ha1 (by omega) hv hd (fun z => ?_) (fun z z2 => ?_) (fun z z2 => ?_)
  · have hc : ¬ cd r = none := fun y => z (hnone.mpr y)
    rw [e]
    refine k I _ su (rF_g h (by decide)).1 ?_ (fun y => absurd y (rF_f (by decide))) frG.rf
    unfold sRl; rw [if_neg hc, hat.2.1]
    exact cc.bf hf (by decide)
  · have hr2 : r = 2 := by omega
    have hg := rTest_g (PL := tPl T n) (SZ := tZ T n) (rl := (r : Int)) (by omega) (kB_K hK) gi
    refine hgood _ hg.1 hg.2.2.1 hg.2.1 ?_ (hnone.mp z)
    rw [show decide (r = 2) = true from decide_eq_true hr2, rdQ_t]
  · have hr2 : ¬ r = 2 := by omega
    have hg := rSum_g (PL := tPl T n) (SZ := tZ T n) (rl := (r : Int)) (by omega) (kB_K hK) gi
    refine hgood _ hg.1 hg.2.2.1 hg.2.1 ?_ (hnone.mp z)
    rw [show decide (r = 2) = false from decide_eq_false hr2, rdQ_f]
set_option maxHeartbeats 1000000 in
theorem tb_st_end {d x : Nat} {I I1 : aFI} {L : aFL} {Q : aPo} {T : Int → Int} {n N cnt z1 : Int} {S1 : Rs} {sh : Nat} {su : Option Nat} {D D2 : Nat → Int → Int} {cd cd2 : Nat → Option (List Int)} {j : Nat} {C : Cu} {v3 : Value} (hx : x = 8 ∨ x = 22) (hK : kB I N (tK T n) (tPl T n) (tZ T n)) (hcnt : ¬ cnt = 70) (hst : stC T (tkK T n) (tkP T n) (tkZ T n) D cd j = (C, D2, cd2)) (hg1 : gS N S1) (hC1 : cc C S1) (hr : S1.f = 0 → cD I1 x D2 ∧ rgD D2 ∧ cdS I1 (x + 10) S1 cd2 ∧ S1.ln ≤ S1.a) (hF : frG (PCf x) I I1) (hd : 2 ≤ d) (kk : ∀ (I2 : aFI) (S2 : Rs) (su2 : Option Nat), gS N S2 → cc (stS T (tkK T n) (tkP T n) (tkZ T n) D cd cnt j).1 S2 → (S2.f = 0 → cD I2 x (stS T (tkK T n) (tkP T n) (tkZ T n) D cd cnt j).2.1 ∧ rgD (stS T (tkK T n) (tkP T n) (tkZ T n) D cd cnt j).2.1 ∧ cdS I2 (x + 10) S2 (stS T (tkK T n) (tkP T n) (tkZ T n) D cd cnt j).2.2 ∧ S2.ln ≤ S2.a) → frG (PCf x) I I2 → Q none (oS I2 (x + 10) S2) L (aR sh su2)) : aWp none d 23 238 [.ref 2, .ref x, .int (iI z1), v3] [] (oS I1 (x + 10) S1) L (aR sh su) Q := by
  have hs : aSm (x + 10) := aSm_sh hx
  refine w_aload c_23_238 rfl ?_
  refine z_push c_23_239 ?_
  refine wc_45 c_23_241 sp_2 (Nat.le_of_ble_eq_true rfl) (by omega) ?_
  refine tb_need (C := C) hs (hK.cf hx hF) hg1 hC1 (by decide) (by decide) (by omega) (fun S2 hg2 hc2 hl2 ha2 => ?_)
  refine r_v ?_
  refine z_retv c_23_244 ?_
  rw [stS_n hcnt hst] at kk
  refine kk I1 S2 su hg2 hc2 (fun z => ?_) hF
  have z1 : S1.f = 0 := hC1.1.trans (cWd_0 (hc2.1.symm.trans z)).1
  have hh := hr z1
  exact ⟨hh.1, hh.2.1, hh.2.2.1.fr (fun _ => ⟨rfl, rfl⟩) hl2, by have := hl2.1; have := hh.2.2.2; omega⟩

set_option maxHeartbeats 1000000 in
theorem tb_readStatement {d x : Nat} {I : aFI} {L : aFL} {Q : aPo} {T : Int → Int} {n N : Int} {S : Rs} {sh : Nat} {su : Option Nat} {D : Nat → Int → Int} {cd : Nat → Option (List Int)} (hx : x = 8 ∨ x = 22) (hT : ∀ j : Int, 0 ≤ j → j < 1600 → I 1 j.toNat = iI (T j) ∧ (0 ≤ T j ∧ T j < 256)) (hTr : ∀ j : Int, 0 ≤ T j ∧ T j < 256) (hn : 0 ≤ n ∧ n ≤ 1600) (hK : kB I N (tK T n) (tPl T n) (tZ T n)) (h : gS N S) {j : Nat} {cnt : Int} (hC : cc (0, 0, j) S) (hK0 : ¬ tkK T n j = 341) (hD : cD I x D) (hwf : wfP D cd) (hDr : rgD D) (hcd : cdS I (x + 10) S cd) (hln : S.ln ≤ S.a) (hcr : 0 ≤ cnt ∧ cnt ≤ 70) (hd : 84 ≤ d) (kk : ∀ (I2 : aFI) (S2 : Rs) (su2 : Option Nat), gS N S2 → cc (stS T (tkK T n) (tkP T n) (tkZ T n) D cd cnt j).1 S2 → (S2.f = 0 → cD I2 x (stS T (tkK T n) (tkP T n) (tkZ T n) D cd cnt j).2.1 ∧ rgD (stS T (tkK T n) (tkP T n) (tkZ T n) D cd cnt j).2.1 ∧ cdS I2 (x + 10) S2 (stS T (tkK T n) (tkP T n) (tkZ T n) D cd cnt j).2.2 ∧ S2.ln ≤ S2.a) → frG (PCf x) I I2 → Q none (oS I2 (x + 10) S2) L (aR sh su2)) : aWp none d 23 0 [.ref 2, .ref x, .int (iI cnt), .null] [] (oS I (x + 10) S) L (aR sh su) Q := by
  have hs : aSm (x + 10) := aSm_sh hx
  have hf : S.f = 0 := hC.1
  have hc := hC.2.1 hf
  have hca : S.a = ((j : Nat) : Int) := hc.1
  have hat : tK T n S.a = tkK T n j ∧ tPl T n S.a = tkP T n j ∧ tZ T n S.a = tkZ T n j := cc.at (T := T) (n := n) (C := (0, 0, j)) hc.1
  have hb := h
  unfold gS at hb
  have hNb := hK.2.2.1
  have hkb := hK.2.2.2 S.a h.1.1 h.1.2
  have ha1 : S.a + 1 < N := by
    have h1 := hkb.1.2.2
    rw [hat.1] at h1
    have : ¬ S.a = N - 1 := fun z => hK0 (h1.mpr z)
    omega
  have gi := rI_g h ha1
  have hcI : cc (0, 0, j + 1) (rI S) := cc.ok (S := rI S) hf (by show S.a + 1 = ((j + 1 : Nat) : Int); omega) hc.2.1 hc.2.2
  have hkr : 0 ≤ tkK T n j ∧ tkK T n j ≤ 341 := by have h1 := hkb.1; rw [hat.1] at h1; omega
  refine w_aload c_23_0 rfl ?_
  refine wc_42 c_23_1 sp_2 (Nat.le_of_ble_eq_true rfl) (by omega) ?_
  refine ts_next hs hK h ?_
  rw [hat.1]
  refine r_i ?_
  refine w_istore c_23_4 (Nat.le_of_ble_eq_true rfl) rfl ?_
  refine w_iload c_23_5 rfl ?_
  refine z_push c_23_6 ?_
  refine z_ic_lt c_23_8 (by first | exact aRg_of _ | (unfold aRg; omega)) (by first | exact aRg_of _ | (unfold aRg; omega)) (fun h1_ => ?_) (fun h1_ => ?_)
  · have hcnt : ¬ cnt = 70 := by omega
    refine w_iload c_23_21 rfl ?_
    rcases (show ((tkK T n j) = 304) ∨ ((tkK T n j) = 306) ∨ ((tkK T n j) = 308) ∨ ((tkK T n j) = 313) ∨ ((tkK T n j) = 314) ∨ ((tkK T n j) = 315) ∨ ((tkK T n j) = 316) ∨ ((tkK T n j) = 317) ∨ ((tkK T n j) = 318) ∨ (¬ (tkK T n j) = 304 ∧ ¬ (tkK T n j) = 306 ∧ ¬ (tkK T n j) = 308 ∧ ¬ (tkK T n j) = 313 ∧ ¬ (tkK T n j) = 314 ∧ ¬ (tkK T n j) = 315 ∧ ¬ (tkK T n j) = 316 ∧ ¬ (tkK T n j) = 317 ∧ ¬ (tkK T n j) = 318) by omega) with h2_ | h2_ | h2_ | h2_ | h2_ | h2_ | h2_ | h2_ | h2_ | h2_
    · refine z_tsw c_23_22 (by first | exact aRg_of _ | (unfold aRg; omega)) (pc2 := 96) (by rcases h2_ with h2_ <;> (rw [h2_]; rfl)) ?_
      refine w_aload c_23_96 rfl ?_
      refine w_aload c_23_97 rfl ?_
      refine wc_25 c_23_98 sp_2 (Nat.le_of_ble_eq_true rfl) (by omega) ?_
      refine tb_readBrook hx hT hTr hn hK h hC ha1 hD hwf hDr (by omega) (fun I1 S1 hg1 hc1 hr1 hl1 ha2 hF1 => ?_)
      refine r_v ?_
      refine w_goto c_23_101 ?_
      exact tb_st_end hx hK hcnt (stC_1 h2_) hg1 hc1 (fun z => ⟨(hr1 z).1, (hr1 z).2, hcd.fr (fun k => ⟨hF1 _ k (by omega), hF1 _ k (by omega)⟩) hl1, by have := hl1.1; omega⟩) (PCr.f hF1) (by omega) kk
    · refine z_tsw c_23_22 (by first | exact aRg_of _ | (unfold aRg; omega)) (pc2 := 104) (by rcases h2_ with h2_ <;> (rw [h2_]; rfl)) ?_
      refine w_aload c_23_104 rfl ?_
      refine w_aload c_23_105 rfl ?_
      refine wc_26 c_23_106 sp_2 (Nat.le_of_ble_eq_true rfl) (by omega) ?_
      refine tb_readVillage hx hT hTr hn hK h hC ha1 hD hwf hDr (by omega) (fun I1 S1 hg1 hc1 hr1 hl1 ha2 hF1 => ?_)
      refine r_v ?_
      refine w_goto c_23_109 ?_
      exact tb_st_end hx hK hcnt (stC_2 h2_) hg1 hc1 (fun z => ⟨(hr1 z).1, (hr1 z).2, hcd.fr (fun k => ⟨hF1 _ k (by omega), hF1 _ k (by omega)⟩) hl1, by have := hl1.1; omega⟩) (PCr.f hF1) (by omega) kk
    · refine z_tsw c_23_22 (by first | exact aRg_of _ | (unfold aRg; omega)) (pc2 := 112) (by rcases h2_ with h2_ <;> (rw [h2_]; rfl)) ?_
      refine w_aload c_23_112 rfl ?_
      refine w_aload c_23_113 rfl ?_
      refine wc_27 c_23_114 sp_2 (Nat.le_of_ble_eq_true rfl) (by omega) ?_
      refine tb_readDeed hx hT hTr hn hK h hC ha1 hD hwf hDr (by omega) (fun I1 S1 hg1 hc1 hr1 hl1 ha2 hF1 => ?_)
      refine r_v ?_
      refine w_goto c_23_117 ?_
      exact tb_st_end hx hK hcnt (stC_3 h2_) hg1 hc1 (fun z => ⟨(hr1 z).1, (hr1 z).2, hcd.fr (fun k => ⟨hF1 _ k (by omega), hF1 _ k (by omega)⟩) hl1, by have := hl1.1; omega⟩) (PCr.f hF1) (by omega) kk
    · refine z_tsw c_23_22 (by first | exact aRg_of _ | (unfold aRg; omega)) (pc2 := 120) (by rcases h2_ with h2_ <;> (rw [h2_]; rfl)) ?_
      refine w_aload c_23_120 rfl ?_
      refine w_aload c_23_121 rfl ?_
      refine w_getR c_23_122 (sps_0 hx) (by decide) rfl (prs_13 hx) ?_
      refine z_push c_23_125 ?_
      refine wc_28 c_23_126 sp_2 (Nat.le_of_ble_eq_true rfl) (by omega) ?_
      refine tb_rule (r := 0) (cd := cd) hs hn hK h hC ha1 hln hcd (by decide) rfl (by omega) (fun I1 S1 su1 hg1 hc1 hr1 hF1 => ?_)
      refine r_v ?_
      refine w_goto c_23_129 ?_
      exact tb_st_end hx hK hcnt (stC_4 h2_) hg1 hc1 (fun z => ⟨hD.fr (fun p k a b => hF1 p k (by omega)), hDr, (hr1 z).1, (hr1 z).2⟩) (hF1.mono (fun q k z => by omega)) (by omega) kk
    · refine z_tsw c_23_22 (by first | exact aRg_of _ | (unfold aRg; omega)) (pc2 := 132) (by rcases h2_ with h2_ <;> (rw [h2_]; rfl)) ?_
      refine w_aload c_23_132 rfl ?_
      refine w_aload c_23_133 rfl ?_
      refine w_getR c_23_134 (sps_0 hx) (by decide) rfl (prs_13 hx) ?_
      refine z_push c_23_137 ?_
      refine wc_28 c_23_138 sp_2 (Nat.le_of_ble_eq_true rfl) (by omega) ?_
      refine tb_rule (r := 1) (cd := cd) hs hn hK h hC ha1 hln hcd (by decide) rfl (by omega) (fun I1 S1 su1 hg1 hc1 hr1 hF1 => ?_)
      refine r_v ?_
      refine w_goto c_23_141 ?_
      exact tb_st_end hx hK hcnt (stC_5 h2_) hg1 hc1 (fun z => ⟨hD.fr (fun p k a b => hF1 p k (by omega)), hDr, (hr1 z).1, (hr1 z).2⟩) (hF1.mono (fun q k z => by omega)) (by omega) kk
    · refine z_tsw c_23_22 (by first | exact aRg_of _ | (unfold aRg; omega)) (pc2 := 144) (by rcases h2_ with h2_ <;> (rw [h2_]; rfl)) ?_
      refine w_aload c_23_144 rfl ?_
      refine w_aload c_23_145 rfl ?_
      refine w_getR c_23_146 (sps_0 hx) (by decide) rfl (prs_13 hx) ?_
      refine z_push c_23_149 ?_
      refine wc_28 c_23_150 sp_2 (Nat.le_of_ble_eq_true rfl) (by omega) ?_
      refine tb_rule (r := 2) (cd := cd) hs hn hK h hC ha1 hln hcd (by decide) rfl (by omega) (fun I1 S1 su1 hg1 hc1 hr1 hF1 => ?_)
      refine r_v ?_
      refine w_goto c_23_153 ?_
      exact tb_st_end hx hK hcnt (stC_6 h2_) hg1 hc1 (fun z => ⟨hD.fr (fun p k a b => hF1 p k (by omega)), hDr, (hr1 z).1, (hr1 z).2⟩) (hF1.mono (fun q k z => by omega)) (by omega) kk
    · refine z_tsw c_23_22 (by first | exact aRg_of _ | (unfold aRg; omega)) (pc2 := 156) (by rcases h2_ with h2_ <;> (rw [h2_]; rfl)) ?_
      refine w_aload c_23_156 rfl ?_
      refine w_dup c_23_157 rfl ?_
      refine z_getZ c_23_158 sp_2 (by decide) rfl rfl ?_
      refine z_push c_23_161 ?_
      refine z_iadd c_23_162 ?_
      refine z_putZ c_23_163 sp_2 (by decide) rfl ?_
      rw [oS_I]
      refine w_aload c_23_166 rfl ?_
      refine w_aload c_23_167 rfl ?_
      refine z_push c_23_168 ?_
      refine z_push c_23_169 ?_
      refine wc_32 c_23_171 sp_2 (Nat.le_of_ble_eq_true rfl) (by omega) ?_
      refine tb_num (C := (0, 0, j + 1)) hn hs hK gi.1 hcI (by decide) (by decide) (by omega) (fun S1 v1 hg1 hc1 hv1 hvr1 hl1 ha2 => ?_)
      refine r_i ?_
      refine z_putZ c_23_174 (sps_0 hx) (by decide) rfl ?_
      refine oS_hk hs hx (frG.rf (P := PCf x) (I := I)) (by have := hx; omega) (fun I1 e1 hF1 => ?_)
      refine w_goto c_23_177 ?_
      refine tb_st_end hx hK hcnt (stC_7 h2_) hg1 hc1 (fun z => ?_) hF1 (by omega) kk
      have hvz := (hv1 (hc1.1.symm.trans z)).1
      have hvz : v1 = tkZ T n (j + 1) := hvz
      rw [hvz] at e1
      exact ⟨hD.h (k := 14) (by decide) e1, hDr.u (by decide), hcd.fr (fun k => ⟨by rw [e1]; exact up_ne (by omega), by rw [e1]; exact up_ne (by omega)⟩) hl1, by have := hl1.1; have : (rI S).ln = S.ln := rfl; have : (rI S).a = S.a + 1 := rfl; omega⟩
    · refine z_tsw c_23_22 (by first | exact aRg_of _ | (unfold aRg; omega)) (pc2 := 180) (by rcases h2_ with h2_ <;> (rw [h2_]; rfl)) ?_
      refine w_aload c_23_180 rfl ?_
      refine w_dup c_23_181 rfl ?_
      refine z_getZ c_23_182 sp_2 (by decide) rfl rfl ?_
      refine z_push c_23_185 ?_
      refine z_iadd c_23_186 ?_
      refine z_putZ c_23_187 sp_2 (by decide) rfl ?_
      rw [oS_I]
      refine w_aload c_23_190 rfl ?_
      refine w_aload c_23_191 rfl ?_
      refine z_push c_23_192 ?_
      refine z_push c_23_193 ?_
      refine wc_32 c_23_196 sp_2 (Nat.le_of_ble_eq_true rfl) (by omega) ?_
      refine tb_num (C := (0, 0, j + 1)) hn hs hK gi.1 hcI (by decide) (by decide) (by omega) (fun S1 v1 hg1 hc1 hv1 hvr1 hl1 ha2 => ?_)
      refine r_i ?_
      refine z_putZ c_23_199 (sps_0 hx) (by decide) rfl ?_
      refine oS_hk hs hx (frG.rf (P := PCf x) (I := I)) (by have := hx; omega) (fun I1 e1 hF1 => ?_)
      refine w_goto c_23_202 ?_
      refine tb_st_end hx hK hcnt (stC_8 h2_) hg1 hc1 (fun z => ?_) hF1 (by omega) kk
      have hvz := (hv1 (hc1.1.symm.trans z)).1
      have hvz : v1 = tkZ T n (j + 1) := hvz
      rw [hvz] at e1
      exact ⟨hD.h (k := 15) (by decide) e1, hDr.u (by decide), hcd.fr (fun k => ⟨by rw [e1]; exact up_ne (by omega), by rw [e1]; exact up_ne (by omega)⟩) hl1, by have := hl1.1; have : (rI S).ln = S.ln := rfl; have : (rI S).a = S.a + 1 := rfl; omega⟩
    · refine z_tsw c_23_22 (by first | exact aRg_of _ | (unfold aRg; omega)) (pc2 := 205) (by rcases h2_ with h2_ <;> (rw [h2_]; rfl)) ?_
      refine w_aload c_23_205 rfl ?_
      refine w_dup c_23_206 rfl ?_
      refine z_getZ c_23_207 sp_2 (by decide) rfl rfl ?_
      refine z_push c_23_210 ?_
      refine z_iadd c_23_211 ?_
      refine z_putZ c_23_212 sp_2 (by decide) rfl ?_
      rw [oS_I]
      refine w_aload c_23_215 rfl ?_
      refine w_aload c_23_216 rfl ?_
      refine z_push c_23_217 ?_
      refine z_push c_23_218 ?_
      refine wc_32 c_23_220 sp_2 (Nat.le_of_ble_eq_true rfl) (by omega) ?_
      refine tb_num (C := (0, 0, j + 1)) hn hs hK gi.1 hcI (by decide) (by decide) (by omega) (fun S1 v1 hg1 hc1 hv1 hvr1 hl1 ha2 => ?_)
      refine r_i ?_
      refine z_putZ c_23_223 (sps_0 hx) (by decide) rfl ?_
      refine oS_hk hs hx (frG.rf (P := PCf x) (I := I)) (by have := hx; omega) (fun I1 e1 hF1 => ?_)
      refine w_goto c_23_226 ?_
      refine tb_st_end hx hK hcnt (stC_9 h2_) hg1 hc1 (fun z => ?_) hF1 (by omega) kk
      have hvz := (hv1 (hc1.1.symm.trans z)).1
      have hvz : v1 = tkZ T n (j + 1) := hvz
      rw [hvz] at e1
      exact ⟨hD.h (k := 16) (by decide) e1, hDr.u (by decide), hcd.fr (fun k => ⟨by rw [e1]; exact up_ne (by omega), by rw [e1]; exact up_ne (by omega)⟩) hl1, by have := hl1.1; have : (rI S).ln = S.ln := rfl; have : (rI S).a = S.a + 1 := rfl; omega⟩
    · refine z_tsw c_23_22 (by first | exact aRg_of _ | (unfold aRg; omega)) (pc2 := 229) (by (by_cases hq : (tkK T n j) < 304 ∨ 318 < (tkK T n j)); (rw [if_pos hq]; rfl); (rw [if_neg hq]; rcases (show (tkK T n j) = 305 ∨ (tkK T n j) = 307 ∨ (tkK T n j) = 309 ∨ (tkK T n j) = 310 ∨ (tkK T n j) = 311 ∨ (tkK T n j) = 312 by omega) with hq2 | hq2 | hq2 | hq2 | hq2 | hq2 <;> first | rfl | (rw [hq2]; rfl))) ?_
      refine w_aload c_23_229 rfl ?_
      refine z_push c_23_230 ?_
      refine w_aload c_23_231 rfl ?_
      refine wc_43 c_23_232 sp_2 (Nat.le_of_ble_eq_true rfl) (by omega) ?_
      refine ts_nextPlace hs hK h ?_
      refine r_i ?_
      refine wc_46 c_23_235 sp_2 (Nat.le_of_ble_eq_true rfl) (by omega) ?_
      refine ts_fail h ?_
      refine r_v ?_
      refine tb_st_end hx hK hcnt (stC_0 (by omega)) (rF_g h (by decide)).1 (C := (1, tkP T n j, j)) ?_ (fun z => absurd z (rF_f (by decide))) frG.rf (by omega) kk
      rw [hat.2.1]; exact cc.bf hf (by decide)
  · refine w_aload c_23_11 rfl ?_
    refine z_push c_23_12 ?_
    refine w_aload c_23_13 rfl ?_
    refine wc_43 c_23_14 sp_2 (Nat.le_of_ble_eq_true rfl) (by omega) ?_
    refine ts_nextPlace hs hK h ?_
    refine r_i ?_
    refine wc_46 c_23_17 sp_2 (Nat.le_of_ble_eq_true rfl) (by omega) ?_
    refine ts_fail h ?_
    refine r_v ?_
    refine z_retv c_23_20 ?_
    have hcnt : cnt = 70 := by omega
    have hs5 : stS T (tkK T n) (tkP T n) (tkZ T n) D cd cnt j = ((5, tkP T n j, j), D, cd) := if_pos hcnt
    rw [hs5] at kk
    refine kk I _ su (rF_g h (by decide)).1 ?_ (fun z => absurd z (rF_f (by decide))) frG.rf
    rw [hat.2.1]; exact cc.bf hf (by decide)

