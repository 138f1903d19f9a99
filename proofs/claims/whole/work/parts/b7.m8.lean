/-! the law: a shore told (pb7.py) -/
abbrev LOW : Nat → Nat → Prop := fun q k => ((q = 192 ∨ q = 194 ∨ q = 198 ∨ q = 199 ∨ q = 200) ∧ k < 3) ∨ (q = 195 ∧ k < 12) ∨ (q = 196 ∧ k < 6) ∨ (q = 197 ∧ k < 32) ∨ (q = 201 ∧ k < 1600)
theorem rcAt.lo {I I2 : aFI} (hF : ∀ k : Nat, 1600 ≤ k → I2 201 k = I 201 k) : ∀ {l : List Int} {f : Int}, 0 ≤ f → rcAt I f l → rcAt I2 f l
  | [], _, _, _ => trivial
  | _ :: _, f, h0, h => ⟨(hF _ (by omega)).trans h.1, rcAt.lo hF (by omega) h.2⟩
theorem rW.lo {I I2 : aFI} {D : Nat → Int → Int} {cd : Nat → Option (List Int)} (h : rW I D cd) (hF : ∀ q k : Nat, 192 ≤ q → q ≤ 201 → ¬ LOW q k → I2 q k = I q k) (h56 : I2 157 56 = I 157 56) : rW I2 D cd := by
  refine ⟨⟨⟨?_, ?_, ?_⟩, ?_, ⟨?_, ?_, ?_⟩, h56.trans h.1.2.2.2.1, fun j a b => ⟨?_, ?_⟩, fun j a b => ?_, fun j a b => ⟨?_, ?_, ?_, ?_⟩⟩, fun z r hr => ?_⟩
  · exact (hF 192 3 (by omega) (by omega) (by omega)).trans h.1.1.1
  · exact (hF 192 4 (by omega) (by omega) (by omega)).trans h.1.1.2.1
  · exact (hF 192 5 (by omega) (by omega) (by omega)).trans h.1.1.2.2
  · exact (hF 194 5 (by omega) (by omega) (by omega)).trans h.1.2.1
  · exact (hF 198 3 (by omega) (by omega) (by omega)).trans h.1.2.2.1.1
  · exact fun z => (hF 198 4 (by omega) (by omega) (by omega)).trans (h.1.2.2.1.2.1 z)
  · exact (hF 198 5 (by omega) (by omega) (by omega)).trans h.1.2.2.1.2.2
  · exact (hF 195 _ (by omega) (by omega) (by omega)).trans (h.1.2.2.2.2.1 j a b).1
  · exact (hF 195 _ (by omega) (by omega) (by omega)).trans (h.1.2.2.2.2.1 j a b).2
  · exact (hF 196 _ (by omega) (by omega) (by omega)).trans (h.1.2.2.2.2.2.1 j a b)
  · exact (hF 197 _ (by omega) (by omega) (by omega)).trans (h.1.2.2.2.2.2.2 j a b).1
  · exact (hF 197 _ (by omega) (by omega) (by omega)).trans (h.1.2.2.2.2.2.2 j a b).2.1
  · exact (hF 197 _ (by omega) (by omega) (by omega)).trans (h.1.2.2.2.2.2.2 j a b).2.2.1
  · exact (hF 197 _ (by omega) (by omega) (by omega)).trans (h.1.2.2.2.2.2.2 j a b).2.2.2
  · rcases h.2 z r hr with ⟨q1, q2⟩ | ⟨l, f, q1, q2, q3, q4, q5⟩
    · exact Or.inl ⟨q1, (hF 199 _ (by omega) (by omega) (by omega)).trans q2⟩
    · exact Or.inr ⟨l, f, q1, q2, (hF 199 _ (by omega) (by omega) (by omega)).trans q3, (hF 200 _ (by omega) (by omega) (by omega)).trans q4, q5.lo (fun k hk => hF 201 k (by omega) (by omega) (by omega)) q2.1⟩
abbrev CSh : Nat → Nat → Prop := fun q k => (q = 157 ∧ (k ≤ 10 ∨ k = 43 ∨ (54 ≤ k ∧ k ≤ 57) ∨ (67 ≤ k ∧ k ≤ 70) ∨ (98 ≤ k ∧ k ≤ 102))) ∨ (192 ≤ q ∧ q ≤ 202) ∨ q = 232 ∨ q = 233
abbrev CShf : Nat → Nat → Prop := fun q k => (q = 157 ∧ (k ≤ 10 ∨ k = 43 ∨ (54 ≤ k ∧ k ≤ 55) ∨ k = 57 ∨ (98 ≤ k ∧ k ≤ 102))) ∨ LOW q k ∨ q = 232 ∨ q = 233 ∨ (q = 159 ∧ k = 1)
theorem CSh_of {q k : Nat} (h : PSh q k) : CSh q k := by
  rcases h with (h | h) | h | h
  · omega
  · rcases h with h | h | h | h | h | h | h | h <;> omega
  · rcases h with h | h | h | h | h | h | h <;> omega
  · omega
theorem CShf_of {q k : Nat} (h : PShf q k) : CShf q k := by
  rcases h with (h | h) | h | h
  · omega
  · rcases h with h | h | h | h | h | h | h | h <;> omega
  · omega
  · omega
set_option maxHeartbeats 4000000 in
theorem l_shore {N : Nat} {xs : Nat → Int32} {v : Int → Int} {d sh : Nat} {su : Option Nat} {I : aFI} {L : aFL} {Q : aPo} {i : Int} (hI : Inv I L sh) (hsr : ∀ k : Int, 0 ≤ k → k < 6 → ¬ (iI (i + k) < 0 ∨ N ≤ (iI (i + k)).toNatClampNeg)) (hxs : ∀ k : Int, xs (iI (i + k)).toNatClampNeg = iI (v k)) (hv : ∀ k : Int, -2147483648 ≤ v k ∧ v k < 2147483648) (hd : 100 ≤ d) (kk : ∀ (I2 : aFI) (L2 : aFL) (sh2 : Nat) (su2 : Option Nat), Inv I2 L2 sh2 → aWp (some (N, xs)) d 259 983 [.ref aSCR, .ref 0, .ref 157, .int (iI i)] [] I2 L2 (aR sh2 su2) Q) : aWp (some (N, xs)) d 259 262 [.ref aSCR, .ref 0, .ref 157, .int (iI i)] [] I L (aR sh su) Q := by
  have hI0 := hI
  obtain ⟨hsh, D, cd, X, K, kc, T, nt, nx, nw, ct, U, s, P, np, a1, a2, a3, a4, a5, a6, a7, a8⟩ := hI
  have h40 := a2.kc40
  have hS := a1.1.1
  have h999 := a2.2.1
  have hTr : ∀ j : Int, 0 ≤ T j ∧ T j < 256 := fun j => by have := a5.2.2.2.2.2 j; omega
  obtain ⟨E, hE, hEj, hEn⟩ := tkE_ex (T := T) (n := nt) a5.2.2.1.1 hTr
  refine w_aload c_259_262 rfl ?_
  refine wc_78 c_259_263 sp_0 (Nat.le_of_ble_eq_true rfl) (by omega) ?_
  refine tc_shore (T := T) (E := E) hsh a5.1 a5.2.2.1 a5.2.2.2.1 hTr hE hEn (by omega) (fun D0 I1 su1 hz hwf hrg cw1 l36 n1 n2 f14 f15 f7 f8 t0 hf => ?_) (fun D0 I1 su1 hz f7 f8 t0 e1 hf => ?_)
  · refine r_i ?_
    refine w_aload c_259_266 rfl ?_
    refine wc_156 c_259_267 sp_157 (Nat.le_of_ble_eq_true rfl) (by omega) ?_
    have b4 := a4.cl (I2 := I1) (fun q k z => hf q k (by omega))
    refine t_shore (T := T) (E := E) (D0 := D0) hE hEn hEj ((hf 157 1 (by omega)).trans a5.2.1) a5.2.2.1 (fun j z1 z2 => (hf 158 _ (by omega)).trans (a5.2.2.2.2.1 j z1 z2)) hTr b4.2.2.2.2.1 (by omega) (fun _ I2 L2 hwf2 hcr rw2 rn2 rx2 r27 u70 u67 u68 u7 u8 u1 hf2 hg2 => ?_) (fun z => absurd hz z)
    refine r_i ?_
    refine w_same c_259_270 ?_
    have hf2 : frG CSh I1 I2 := hf2.mono (fun q k z => CSh_of z)
    have hF : ∀ q k : Nat, ¬ (PCsh (30 - sh) q k ∨ CSh q k) → I2 q k = I q k := fun q k z => (hf2 q k (fun y => z (Or.inr y))).trans (hf q k (fun y => z (Or.inl y)))
    refine kk I2 L2 (30 - sh) su1 ⟨by omega, (shN T nt D0).2.2.1, (shN T nt D0).2.2.2, X0 (shN T nt D0).2.2.1, K, 0, T, 0, 0, nw, 0, [], s, P, np, ⟨hwf.q, hrg, fun _ => hwf⟩, stX.x0 hwf, ⟨cw1.fr ?_, l36.fr ?_, fun a b z1 z2 => by omega, ?_⟩, ⟨⟨rw2, rx2⟩, r27, fun a b e z1 z2 => by omega, rn2, fun q a j b c => ?_, ?_⟩, a5.tn ⟨by decide, by decide⟩ ?_ u1 ?_ ?_, a6.none (nw2 := 0) ?_ ?_ u70 ?_, ⟨fun k hk => ?_, ?_, ?_, ?_, a7.2.2.2.2⟩, a8.fr ?_ ?_ ?_ ?_⟩
    · intro p k z1 z2; exact hf2 p k (by omega)
    · intro p k z1 z2; exact hf2 p k (by omega)
    · rw [hF 42 1 (by omega)]; exact a3.2.2.2
    · have a' := a
      unfold isWd at a'
      rw [hF q _ (by omega)]; exact a4.2.2.2.2.1 q a j b c
    · rw [hF 157 61 (by omega)]; exact a4.2.2.2.2.2
    · exact (hf2 0 1 (by omega)).trans t0
    · intro k; exact hF 1 k (by omega)
    · intro k; exact hF 158 k (by omega)
    · exact (hf2 44 1 (by omega)).trans n1
    · exact (hf2 44 2 (by omega)).trans n2
    · exact hF 157 71 (by omega)
    · rw [hF 159 k (by omega), hF 156 k (by omega)]; exact a7.1 k hk
    · rw [u7, u8, hf2 2 7 (by omega), hf2 2 8 (by omega), f7, f8]; exact ⟨rfl, rfl⟩
    · rw [u67, u68, hf2 0 14 (by omega), hf2 0 15 (by omega), f14, f15]; exact ⟨rfl, rfl⟩
    · rw [hg2 0 17 (by omega), hg2 157 72 (by omega)]; exact a7.2.2.2.1
    · exact hF _ _ (by omega)
    · exact hF _ _ (by omega)
    · intro k; exact hF 155 k (by omega)
    · intro k; exact hF 235 k (by omega)
  · refine r_i ?_
    refine w_aload c_259_266 rfl ?_
    refine wc_156 c_259_267 sp_157 (Nat.le_of_ble_eq_true rfl) (by omega) ?_
    have b4 := a4.cl (I2 := I1) (fun q k z => hf q k (by omega))
    refine t_shore (T := T) (E := E) (D0 := D0) hE hEn hEj ((hf 157 1 (by omega)).trans a5.2.1) a5.2.2.1 (fun j z1 z2 => (hf 158 _ (by omega)).trans (a5.2.2.2.2.1 j z1 z2)) hTr b4.2.2.2.2.1 (by omega) (fun z => absurd z hz) (fun _ I2 L2 u7 u8 u1 e2 hf2 hg2 => ?_)
    refine r_i ?_
    refine w_same c_259_270 ?_
    have hf2 : frG CShf I1 I2 := hf2.mono (fun q k z => CShf_of z)
    have hF : ∀ q k : Nat, ¬ (PCsf (30 - sh) q k ∨ CShf q k) → I2 q k = I q k := fun q k z => (hf2 q k (fun y => z (Or.inr y))).trans (hf q k (fun y => z (Or.inl y)))
    refine kk I2 L2 sh su1 ⟨hsh, D, cd, X, K, kc, T, 0, nx, nw, ct, U, s, P, np, a1, a2, a3.fr (by omega) ?_ ?_ ?_ ?_, ⟨⟨a4.1.1.lo ?_ ?_, nLk.fr a4.1.2 (fun k _ => hF 202 k (by omega))⟩, (hF 202 27 (by omega)).trans a4.2.1, a4.2.2.1.fr (fun k => hF 202 k (by omega)), fun k a i b c => (hg2 193 _ (by omega)).trans (a4.2.2.2.1 k a i b c), fun q a j b c => ?_, ?_⟩, a5.tn ⟨by decide, by decide⟩ ?_ u1 ?_ ?_, a6.fr ?_ ?_ ?_ ?_, ⟨fun k hk => ?_, ?_, ?_, ?_, a7.2.2.2.2⟩, a8.fr ?_ ?_ ?_ ?_⟩
    · intro p k z1 z2; exact hF p k (by omega)
    · intro p k z1 z2; exact hF p k (by omega)
    · intro p k z1 z2; exact hF p k (by omega)
    · rw [hF 42 1 (by omega)]; exact a3.2.2.2
    · intro q k z1 z2 z3; exact hF q k (by omega)
    · exact hF 157 56 (by omega)
    · have a' := a
      unfold isWd at a'
      rw [hF q _ (by omega)]; exact a4.2.2.2.2.1 q a j b c
    · rw [hF 157 61 (by omega)]; exact a4.2.2.2.2.2
    · exact (hf2 0 1 (by omega)).trans t0
    · intro k; exact hF 1 k (by omega)
    · intro k; exact hF 158 k (by omega)
    · intro q k z1 z2; exact hF q k (by omega)
    · intro k; exact hF 207 k (by omega)
    · exact hF 157 70 (by omega)
    · exact hF 157 71 (by omega)
    · by_cases e : k = 1
      · subst e; rw [e2, hf2 156 1 (by omega), e1, hf 159 1 (by omega), a7.1 1 hk]
      · rw [hF 159 k (by omega), hF 156 k (by omega)]; exact a7.1 k hk
    · rw [u7, u8, hf2 2 7 (by omega), hf2 2 8 (by omega), f7, f8]; exact ⟨rfl, rfl⟩
    · rw [hF 157 67 (by omega), hF 157 68 (by omega), hF 0 14 (by omega), hF 0 15 (by omega)]; exact a7.2.2.1
    · rw [hg2 0 17 (by omega), hg2 157 72 (by omega)]; exact a7.2.2.2.1
    · exact hF _ _ (by omega)
    · exact hF _ _ (by omega)
    · intro k; exact hF 155 k (by omega)
    · intro k; exact hF 235 k (by omega)

