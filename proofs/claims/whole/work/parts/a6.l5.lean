/-! asking: the reference (pa6.py) -/
theorem aSs_s {W : Int → Int} {n : Nat} (hW : ∀ i : Nat, i < n → -1000000 ≤ W i ∧ W i ≤ 1000000) : ∀ i : Nat, i ≤ n → -1000000 * (i : Int) ≤ (aSs W i).1 ∧ (aSs W i).1 ≤ 1000000 * (i : Int) := by
  intro i
  induction i with
  | zero => intro _; show (-1000000 * ((0 : Nat) : Int) ≤ 0) ∧ (0 ≤ 1000000 * ((0 : Nat) : Int)); omega
  | succ i ih =>
    intro hi
    have h1 := ih (by omega)
    have h2 := hW i (by omega)
    rw [aSs_on]
    show -1000000 * ((i + 1 : Nat) : Int) ≤ (aSs W i).1 + W i ∧ (aSs W i).1 + W i ≤ 1000000 * ((i + 1 : Nat) : Int)
    omega
theorem aNow_b {W : Int → Int} {n : Nat} (hn : n ≤ 8) (hW : ∀ i : Nat, i < n → -1000000 ≤ W i ∧ W i ≤ 1000000) {i : Nat} (hi : i ≤ n) {k : Int} : -100000000 ≤ aNow W k i ∧ aNow W k i ≤ 100000000 := by
  have h1 := aTs_b (W := W) i
  have h2 := aSs_b hW i hi
  have h3 := aSs_s hW i hi
  unfold aNow
  repeat' split
  all_goals omega
theorem quR_q {T : Int → Int} {n : Int} (hn : 0 ≤ n ∧ n ≤ 1600) {E : Nat} (hE : ∀ j : Nat, tkK T n j = 341 ↔ E ≤ j) (hEn : (E : Int) ≤ n) (hk : ¬ tkK T n 0 = 341) (h0 : (quR T n).1 = 0) : tyC (quL T n) [] [decide (tkK T n 0 ≤ 334)] ∧ (∀ m ∈ quL T n, okM 3 m) ∧ (quR T n).2.2.2.1.reverse = (quL T n).map cmap := by
  have h1 : 1 ≤ E := by
    have := (hE 0).mpr
    by_cases z : E = 0
    · exact absurd (this (by omega)) hk
    · omega
  have hg : gS ((E : Int) + 1) (Rs.mk 1 0 0 0 0 (fun _ => 0)) := by
    unfold gS; simp only [Rs.mka, Rs.mkop, Rs.mkf, Rs.mkln]; omega
  have h := rul (rl := 3) (tk := 2) (S := Rs.mk 1 0 0 0 0 (fun _ => 0)) (j := 1) hn (by decide) (by omega) (tK_N hE) hg rfl rfl (by decide) (by show ((1 : Nat) : Int) = 1; decide) (decide (tkK T n 0 ≤ 334))
  have hf : (rdQ (tK T n) (tPl T n) (tZ T n) 3 (decide (tkK T n 0 ≤ 334)) (Rs.mk 1 0 0 0 0 (fun _ => 0))).f = 0 := by
    by_cases z : (rdQ (tK T n) (tPl T n) (tZ T n) 3 (decide (tkK T n 0 ≤ 334)) (Rs.mk 1 0 0 0 0 (fun _ => 0))).f = 0
    · exact z
    · exact absurd ((h.1 z).1.symm.trans h0) z
  obtain ⟨_, _, l, g1, g2, g3, g4, g5⟩ := h.2 hf
  have e : quL T n = l := g2
  rw [e]
  exact ⟨g4, g1.2.2.2.2.1, g5⟩
abbrev PAr : Nat → Nat → Prop := fun q k => (q = 157 ∧ ((1 ≤ k ∧ k ≤ 8) ∨ k = 10 ∨ k = 43 ∨ k = 57 ∨ (98 ≤ k ∧ k ≤ 106))) ∨ q = 232 ∨ q = 233
abbrev PArL : Nat → Nat → Prop := fun q k => q = 234 ∨ q = 204 ∨ (q = 157 ∧ k = 105)
theorem rS.ar {I I2 : aFI} {D : Nat → Int → Int} {cd : Nat → Option (List Int)} {X : Lk} (h : rS I D cd X) (hF : frG PAr I I2) : rS I2 D cd X :=
  ⟨h.1.fr (fun q k h1 h2 => hF q k (by omega)) (hF 157 56 (by decide)), nLk.fr h.2 (fun k _ => hF 202 k (by omega))⟩
abbrev PAq : Nat → Nat → Prop := fun q k => q = 157 ∧ 98 ≤ k ∧ k ≤ 106
theorem rS.aq {I I2 : aFI} {D : Nat → Int → Int} {cd : Nat → Option (List Int)} {X : Lk} (h : rS I D cd X) (hF : frG PAq I I2) : rS I2 D cd X := h.ar (hF.mono (fun q k z => by omega))
theorem aNow_0 {W : Int → Int} {kd : Int} (hk : 0 ≤ kd ∧ kd < 6) : aNow W (332 + kd) 0 = if 2 ≤ kd then 0 else -1 := by
  rcases (show kd = 0 ∨ kd = 1 ∨ kd = 2 ∨ kd = 3 ∨ kd = 4 ∨ kd = 5 by omega) with rfl | rfl | rfl | rfl | rfl | rfl <;> rfl
theorem qcAt.ar {I I2 : aFI} {f : Int} {l : List Int} (h : qcAt I f l) (h2 : ∀ k : Nat, I2 232 k = I 232 k) : qcAt I2 f l := h.fr h2
set_option maxHeartbeats 1000000 in
theorem t_ask_183 {d : Nat} {Q : aPo} {sh : Nat} {su : Option Nat} {D : Nat → Int → Int} {cd : Nat → Option (List Int)} {X : Lk} {l : List Int} {t : Bool} {kd : Int} {I0 : aFI} {L0 : aFL} (hS : wfS D cd) (hX : lkOK X) (hd : 6 ≤ d) (kk : ∀ (I2 : aFI) (L2 : aFL) (v : Value), rS I2 D cd X → (∀ p : Nat, (p : Int) < D 1 2 → L2 204 p = lI (drwZ D cd X p)) → frG PAq I0 I2 → frG PArL L0 L2 → I2 157 106 = I0 157 106 → L2 157 105 = L0 157 105 → I2 157 98 = I0 157 98 → (∀ k : Nat, I2 232 k = I0 232 k) → aWp none d 246 209 [.ref 157, .int (iI kd), v] [] I2 L2 (aR sh su) Q) : ∀ (n : Nat) (i : Nat) (I : aFI) (L : aFL), (D 1 2).toNat - i < n → (i ≤ (D 1 2).toNat) → (rS I D cd X) → (∀ p : Nat, p < i → L 204 p = lI (drwZ D cd X p)) → (frG PAq I0 I) → (frG PArL L0 L) → (I 157 106 = I0 157 106) → (L 157 105 = L0 157 105) → (I 157 98 = I0 157 98) → (∀ k : Nat, I 232 k = I0 232 k) → aWp none d 246 183 [.ref 157, .int (iI kd), .int (iI (i : Int))] [] I L (aR sh su) Q := by
  intro n
  induction n with
  | zero => intro i I L h; omega
  | succ n ih =>
    intro i I L hn0 hi hR hp0 hF hG h6 h5 h98 h232
    have hn := hS.n
    refine w_iload c_246_183 rfl ?_
    refine w_aload c_246_184 rfl ?_
    refine wc_161 c_246_185 sp_157 (Nat.le_of_ble_eq_true rfl) (by omega) ?_
    refine t_deedMany hR.1.1 ?_
    refine r_i ?_
    refine z_ic_ge c_246_188 (by first | exact aRg_of _ | (unfold aRg; omega)) (by first | exact aRg_of _ | (unfold aRg; omega)) (fun h1_ => ?_) (fun h1_ => ?_)
    · exact kk I L _ hR (fun p hp => hp0 p (by omega)) hF hG h6 h5 h98 h232
    · refine w_aload c_246_191 rfl ?_
      refine w_getR c_246_192 sp_157 (by decide) rfl pr_157_60 ?_
      refine w_iload c_246_195 rfl ?_
      refine w_aload c_246_196 rfl ?_
      refine w_iload c_246_197 rfl ?_
      refine wc_171 c_246_198 sp_157 (Nat.le_of_ble_eq_true rfl) (by omega) ?_
      refine t_drawnBy (de := (i : Int)) hS hR hX ⟨by omega, by omega⟩ (by omega) (fun I2 L2 hf hf2 => ?_)
      have hdw := drwZ_rg (cd := cd) (X := X) (de := (i : Int)) hS ⟨by omega, by omega⟩
      refine r_i ?_
      refine z_i2l c_246_201 (by first | exact aRg_of _ | (unfold aRg; omega)) ?_
      refine z_lastore c_246_202 sp_204 (by omega) (by decide) ?_
      refine z_iinc c_246_203 rfl rfl ?_
      refine w_goto c_246_206 ?_
      have h := ih (i + 1) I2 (aUp L2 204 ((i : Int)).toNat (lI (drwZ D cd X i))) (by omega) (by omega) (hR.pk hf) ?_ (hF.tr (hf.mono (fun q k z => by omega))) ((hG.tr (hf2.mono (fun q k z => by omega))).up (by omega)) ((hf 157 106 (by omega)).trans h6) (by rw [upL_ne (by omega), hf2 157 105 (by omega)]; exact h5) ((hf 157 98 (by omega)).trans h98) (fun k => (hf 232 k (by omega)).trans (h232 k))
      · rw [show ((i + 1 : Nat) : Int) = (i : Int) + 1 by omega] at h
        exact h
      intro p hp
      by_cases e : p = i
      · subst e
        rw [Int.toNat_natCast]; exact upL_eq
      · rw [upL_ne (by omega), hf2 204 p (by omega)]; exact hp0 p (by omega)

set_option maxHeartbeats 1000000 in
theorem t_ask_211 {d : Nat} {Q : aPo} {sh : Nat} {su : Option Nat} {D : Nat → Int → Int} {cd : Nat → Option (List Int)} {X : Lk} {l : List Int} {t : Bool} {kd : Int} {I0 : aFI} {L0 : aFL} (hS : wfS D cd) (hX : lkOK X) (hd : 6 ≤ d) (hkd : 0 ≤ kd ∧ kd < 6) (htt : kd < 3 → t = true) (hl : l.length ≤ 1600) (ht : tyC l [] [t]) (hok : ∀ m ∈ l, okM 3 m) (kk : ∀ (I2 : aFI) (L2 : aFL), frG PAq I0 I2 → frG PArL L0 L2 → Q (some (.long (lI (aNow (askW D cd X l) (332 + kd) (D 1 2).toNat)))) I2 L2 (aR sh su)) : ∀ (n : Nat) (i : Nat) (I : aFI) (L : aFL), (D 1 2).toNat - i < n → (i ≤ (D 1 2).toNat) → (rS I D cd X) → (∀ p : Nat, (p : Int) < D 1 2 → L 204 p = lI (drwZ D cd X p)) → (frG PAq I0 I) → (frG PArL L0 L) → (L 157 105 = lI (aNow (askW D cd X l) (332 + kd) i)) → (I 157 106 = aBo (decide (i = 0))) → (I 157 98 = iI (l.length : Int)) → (qcAt I 0 l) → aWp none d 246 211 [.ref 157, .int (iI kd), .int (iI (i : Int))] [] I L (aR sh su) Q := by
  intro n
  induction n with
  | zero => intro i I L h; omega
  | succ n ih =>
    intro i I L hn0 hi hR hp0 hF hG hA hN h98 hc
    have hn := hS.n
    refine w_iload c_246_211 rfl ?_
    refine w_aload c_246_212 rfl ?_
    refine wc_161 c_246_213 sp_157 (Nat.le_of_ble_eq_true rfl) (by omega) ?_
    refine t_deedMany hR.1.1 ?_
    refine r_i ?_
    refine z_ic_ge c_246_216 (by first | exact aRg_of _ | (unfold aRg; omega)) (by first | exact aRg_of _ | (unfold aRg; omega)) (fun h1_ => ?_) (fun h1_ => ?_)
    · refine w_aload c_246_236 rfl ?_
      refine z_getL c_246_237 sp_157 (by decide) rfl hA ?_
      refine z_retl c_246_240 ?_
      have ei : i = (D 1 2).toNat := by omega
      subst ei
      exact kk I L hF hG
    · refine w_aload c_246_219 rfl ?_
      refine w_iload c_246_220 rfl ?_
      refine w_aload c_246_221 rfl ?_
      refine w_iload c_246_222 rfl ?_
      refine wc_243 c_246_223 sp_157 (Nat.le_of_ble_eq_true rfl) (by omega) ?_
      have hde : 0 ≤ (i : Int) ∧ (i : Int) < D 1 2 := ⟨by omega, by omega⟩
      have hx := hX.2.2.2.2 (i : Int) hde.1 (by omega)
      have hwb := askW_b hS hX ht hde
      have hwr := hwb.2
      refine t_qTold (l := l) (t := t) (dr := drwZ D cd X (i : Int)) hS hR.1.1 (show nLk _ 202 X.1 X.2.1 X.2.2.1 X.2.2.2.1 X.2.2.2.2.1 X.2.2.2.2.2 from hR.2) hde hX.1 (by have := hX.2.1; omega) (by have := hX.2.2.1; omega) hx.1 hx.2 (by rw [Int.toNat_natCast]; exact hp0 i hde.2) (askE hS hX hde) (by omega) h98 (by omega) hc ht hok (fun I2 L2 hf hf2 => ?_)
      refine r_l ?_
      refine w_iload c_246_226 rfl ?_
      refine wc_245 c_246_227 sp_157 (Nat.le_of_ble_eq_true rfl) (by omega) ?_
      refine t_qTakes (W := askW D cd X l) (kd := kd) (i := i) hkd (by omega) hwr (fun z => hwb.1 (htt z)) (by rw [hf2 157 105 (by omega)]; exact hA) (aNow_b (n := (D 1 2).toNat) (by omega) (fun j hj => (askW_b hS hX ht (de := (j : Int)) ⟨by omega, by omega⟩).2) (by omega)) ((hf 157 106 (by omega)).trans hN) (fun L3 hA3 hf3 => ?_)
      refine r_v ?_
      refine z_iinc c_246_230 rfl rfl ?_
      refine w_goto c_246_233 ?_
      have h := ih (i + 1) (aUp I2 157 106 (aBo false)) L3 (by omega) (by omega) ((hR.pk hf).aq (frG.rf.up (by omega))) (fun p hp => by rw [hf3 204 p (by omega), hf2 204 p (by omega)]; exact hp0 p hp) (hF.tr ((hf.mono (fun q k z => by omega)).up (by omega))) (hG.tr ((hf2.mono (fun q k z => by omega)).tr (hf3.mono (fun q k z => by omega)))) hA3 (by rw [decide_eq_false (by omega)]; exact up_eq) ((up_ne (by decide)).trans ((hf 157 98 (by omega)).trans h98)) (hc.fr (fun k => (up_ne (by omega)).trans (hf 232 k (by omega))))
      rw [show ((i + 1 : Nat) : Int) = (i : Int) + 1 by omega] at h
      exact h

set_option maxHeartbeats 1000000 in
theorem t_ask_160 {d : Nat} {Q : aPo} {sh : Nat} {su : Option Nat} {D : Nat → Int → Int} {cd : Nat → Option (List Int)} {X : Lk} {l : List Int} {t : Bool} {kd : Int} {I : aFI} {L : aFL} {v : Value} (hS : wfS D cd) (hX : lkOK X) (hd : 6 ≤ d) (hkd : 0 ≤ kd ∧ kd < 6) (htt : kd < 3 → t = true) (hl : l.length ≤ 1600) (ht : tyC l [] [t]) (hok : ∀ m ∈ l, okM 3 m) (hR : rS I D cd X) (h98 : I 157 98 = iI (l.length : Int)) (hc : qcAt I 0 l) (kk : ∀ (I2 : aFI) (L2 : aFL), frG PAq I I2 → frG PArL L L2 → Q (some (.long (lI (aNow (askW D cd X l) (332 + kd) (D 1 2).toNat)))) I2 L2 (aR sh su)) : aWp none d 246 160 [.ref 157, .int (iI kd), v] [] I L (aR sh su) Q := by
  refine w_aload c_246_160 rfl ?_
  refine w_iload c_246_161 rfl ?_
  refine z_push c_246_162 ?_
  refine z_ic_ge c_246_163 (by first | exact aRg_of _ | (unfold aRg; omega)) (by first | exact aRg_of _ | (unfold aRg; omega)) (fun h1_ => ?_) (fun h1_ => ?_)
  · refine z_pushl c_246_172 ?_
    refine w_putL c_246_173 sp_157 (by decide) rfl ?_
    refine w_aload c_246_176 rfl ?_
    refine z_push c_246_177 ?_
    refine z_putB (b := true) c_246_178 sp_157 (by decide) rfl ?_
    refine z_push c_246_181 ?_
    refine w_istore c_246_182 (Nat.le_of_ble_eq_true rfl) rfl ?_
    generalize e1 : aUp I 157 (2410 % 256) (aBo true) = I1
    generalize e2 : aUp L 157 (2409 % 256) (lI 0) = L1
    have hF1 : frG PAq I I1 := by rw [← e1]; exact frG.rf.up (by decide)
    have hG1 : frG PArL L L1 := by rw [← e2]; exact frG.rf.up (by decide)
    have h106 : I1 157 106 = aBo true := by rw [← e1]; exact up_eq
    have h105 : L1 157 105 = lI 0 := by rw [← e2]; exact upL_eq
    have h98b : I1 157 98 = iI (l.length : Int) := by rw [← e1]; exact (up_ne (by decide)).trans h98
    have hcb : ∀ k : Nat, I1 232 k = I 232 k := fun k => by rw [← e1]; exact up_ne (by omega)
    refine t_ask_183 (l := l) (t := t) (I0 := I1) (L0 := L1) (kd := kd) hS hX hd ?_ ((D 1 2).toNat + 1) 0 I1 L1 (by omega) (by omega) (hR.aq hF1) (fun p hp => by omega) frG.rf frG.rf rfl rfl rfl (fun _ => rfl)
    intro I2 L2 v2 hR2 hp2 hF2 hG2 h6 h5 h982 h232
    refine z_push c_246_209 ?_
    refine w_istore c_246_210 (Nat.le_of_ble_eq_true rfl) rfl ?_
    exact t_ask_211 (I0 := I2) (L0 := L2) (t := t) hS hX hd hkd htt hl ht hok (fun I3 L3 hF3 hG3 => kk I3 L3 ((hF1.tr hF2).tr hF3) ((hG1.tr hG2).tr hG3)) ((D 1 2).toNat + 1) 0 I2 L2 (by omega) (by omega) hR2 hp2 frG.rf frG.rf (h5.trans (h105.trans (congrArg lI (by rw [aNow_0 hkd]; exact (if_pos h1_).symm)))) (h6.trans h106) (h982.trans h98b) (hc.fr (fun k => (h232 k).trans (hcb k)))
  · refine z_pushl c_246_166 ?_
    refine w_goto c_246_169 ?_
    refine w_putL c_246_173 sp_157 (by decide) rfl ?_
    refine w_aload c_246_176 rfl ?_
    refine z_push c_246_177 ?_
    refine z_putB (b := true) c_246_178 sp_157 (by decide) rfl ?_
    refine z_push c_246_181 ?_
    refine w_istore c_246_182 (Nat.le_of_ble_eq_true rfl) rfl ?_
    generalize e1 : aUp I 157 (2410 % 256) (aBo true) = I1
    generalize e2 : aUp L 157 (2409 % 256) (lI (-1)) = L1
    have hF1 : frG PAq I I1 := by rw [← e1]; exact frG.rf.up (by decide)
    have hG1 : frG PArL L L1 := by rw [← e2]; exact frG.rf.up (by decide)
    have h106 : I1 157 106 = aBo true := by rw [← e1]; exact up_eq
    have h105 : L1 157 105 = lI (-1) := by rw [← e2]; exact upL_eq
    have h98b : I1 157 98 = iI (l.length : Int) := by rw [← e1]; exact (up_ne (by decide)).trans h98
    have hcb : ∀ k : Nat, I1 232 k = I 232 k := fun k => by rw [← e1]; exact up_ne (by omega)
    refine t_ask_183 (l := l) (t := t) (I0 := I1) (L0 := L1) (kd := kd) hS hX hd ?_ ((D 1 2).toNat + 1) 0 I1 L1 (by omega) (by omega) (hR.aq hF1) (fun p hp => by omega) frG.rf frG.rf rfl rfl rfl (fun _ => rfl)
    intro I2 L2 v2 hR2 hp2 hF2 hG2 h6 h5 h982 h232
    refine z_push c_246_209 ?_
    refine w_istore c_246_210 (Nat.le_of_ble_eq_true rfl) rfl ?_
    exact t_ask_211 (I0 := I2) (L0 := L2) (t := t) hS hX hd hkd htt hl ht hok (fun I3 L3 hF3 hG3 => kk I3 L3 ((hF1.tr hF2).tr hF3) ((hG1.tr hG2).tr hG3)) ((D 1 2).toNat + 1) 0 I2 L2 (by omega) (by omega) hR2 hp2 frG.rf frG.rf (h5.trans (h105.trans (congrArg lI (by rw [aNow_0 hkd]; exact (if_neg h1_).symm)))) (h6.trans h106) (h982.trans h98b) (hc.fr (fun k => (h232 k).trans (hcb k)))

