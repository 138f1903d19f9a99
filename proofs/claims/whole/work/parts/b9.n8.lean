/-! the law from nothing: PURE over the machine -/
section LST
variable {sc : Option (Nat × (Nat → Int32))} {n d y pc nx : Nat} {ls st ls2 st2 : List Value} {M M2 : aM} {o : Option (Option Value × aM)} {i : Instr}
theorem e_st (hc : aCod y pc = some (i, nx)) (h1 : aRet y i st = none) (h2 : aCal i st M = none) (h3 : aBr i nx st = none) (h : aSt sc WD d i ls st M = some (ls2, st2, M2)) (k : aEv WD sc n d y nx ls2 st2 M2 = o) : aEv WD sc (n + 1) d y pc ls st M = o := by
  rw [aEv_succ, hc]; simp only [h1, h2, h3, h]; exact k
theorem e_call {z d2 n2 : Nat} {as rest : List Value} {w : Option Value} (hc : aCod y pc = some (i, nx)) (h1 : aRet y i st = none) (h2 : aCal i st M = some (z, as, rest)) (hw : aEv WD none n2 d2 z 0 (aEnt0 z as) [] M = some (w, M2)) (hn : n2 ≤ n) (k : aEv WD sc n (d2 + 1) y nx ls (w.toList ++ rest) M2 = o) : aEv WD sc (n + 1) (d2 + 1) y pc ls st M = o := by
  rw [aEv_succ, hc]
  simp only [h1, h2]
  have e : n = n2 + (n - n2) := by omega
  rw [show aEv WD none n d2 z 0 (aEnt0 z as) [] M = some (w, M2) by rw [e]; exact aEv_more n2 (n - n2) _ _ _ _ _ _ _ _ _ hw]
  exact k
end LST
theorem law_all {N : Nat} {xs : Nat → Int32} (hN : N ≤ 3072) : ∃ (n : Nat) (M9 : aM), aEv WD (some (N, xs)) n 151 259 0 [.ref aSCR, .null, .null, .null] [] mz = some (some (.int 1), M9) ∧ M9.1 = S0 := by
  obtain ⟨I1, L1, R1, h1, hC, hL, hR, hT, hs⟩ := ini1_ex
  have h2 : gWp 150 129 0 (aEnt0 129 [.ref 157]) [] (S0.take 158) (ig (aRow I1 157 (fun _ => 0)) icP0 icZ0) (aRow L1 157 (fun _ => 0)) (rgm (aRow R1 157 (fun _ => none)) icR0) (fun v S I L R => v = none ∧ S = S0 ∧ I = J0 I1 ∧ L = LF (aRow L1 157 (fun _ => 0)) ∧ R = aR 8 none) :=
    ic_all ⟨rfl, rfl, rfl, rfl, iniR hR hs⟩
  obtain ⟨n2, v2, S2, I2, L2, R2, h3, rfl, rfl, rfl, rfl, rfl⟩ := h2
  obtain ⟨n3, v3, I3, L3, R3, h4, h5⟩ := law_loop (xs := xs) hN (d := 151) (by decide) (Q := fun v _ _ _ => v = some (.int (aBo true))) (fun _ _ _ _ _ => rfl) (N + 1) 0 (J0 I1) (LF (aRow L1 157 (fun _ => 0))) 8 none (by omega) (by decide) (by decide) (inv0 hC hL hT)
  have hm : (ig (aRow I1 157 (fun _ => 0)) icP0 icZ0) = aRow I1 157 (fun _ => 0) := by funext a b; rfl
  have hr : (rgm (aRow R1 157 (fun _ => none)) icR0) = aRow R1 157 (fun _ => none) := by funext a b; rfl
  rw [hm, hr] at h3
  have hlen : (S0.take 157).length = 157 := by decide +kernel
  have hk : S0.take 157 ++ [(none, 9)] = S0.take 158 := by decide +kernel
  refine ⟨(3000 + n2 + n3) + 10, (S0, I3, L3, R3), ?_, rfl⟩
  have h5 : v3 = some (.int 1) := h5
  rw [← h5]
  refine e_st (show aCod 259 0 = some (.new 8, 3) by decide +kernel) rfl rfl rfl (M2 := mNw mz 8) rfl ?_
  refine e_st (show aCod 259 3 = some (.dup, 4) by decide +kernel) rfl rfl rfl (M2 := mNw mz 8) rfl ?_
  refine e_call (show aCod 259 4 = some (.invokespecial 75, 7) by decide +kernel) rfl (z := 75) (as := [.ref 0]) (rest := [.ref 0]) rfl h1 (by omega) ?_
  refine e_st (show aCod 259 7 = some (.astore 1, 8) by decide +kernel) rfl rfl rfl (M2 := (S0.take 157, I1, L1, R1)) rfl ?_
  refine e_st (show aCod 259 8 = some (.new 9, 11) by decide +kernel) rfl rfl rfl (M2 := (S0.take 158, aRow I1 157 (fun _ => 0), aRow L1 157 (fun _ => 0), aRow R1 157 (fun _ => none))) (st2 := [.ref 157]) (ls2 := [.ref aSCR, .ref 0, .null, .null]) (by simp only [aSt, hlen]; rw [if_pos (by decide), hk]; rfl) ?_
  refine e_st (show aCod 259 11 = some (.dup, 12) by decide +kernel) rfl rfl rfl rfl ?_
  refine e_call (show aCod 259 12 = some (.invokespecial 129, 15) by decide +kernel) rfl (z := 129) (as := [.ref 157]) (rest := [.ref 157]) rfl h3 (by omega) ?_
  refine e_st (show aCod 259 15 = some (.astore 2, 16) by decide +kernel) rfl rfl rfl rfl ?_
  refine e_st (show aCod 259 16 = some (.sipush 0, 17) by decide +kernel) rfl rfl rfl rfl ?_
  refine e_st (show aCod 259 17 = some (.istore 3, 18) by decide +kernel) rfl rfl rfl rfl ?_
  have e : 3000 + n2 + n3 = n3 + (3000 + n2) := by omega
  rw [e]
  exact aEv_more n3 (3000 + n2) _ _ _ _ _ _ _ _ _ h4
