/-! a sum read by the class and by the reference: steps (p97.py) -/
section RSL
variable {S : Rs} {x z : Int}
theorem rI_e : (rI S).a = S.a + 1 ∧ (rI S).op = S.op ∧ (rI S).f = S.f ∧ (rI S).pl = S.pl ∧ (rI S).ln = S.ln ∧ (rI S).C = S.C := ⟨rfl, rfl, rfl, rfl, rfl, rfl⟩
theorem rZ_e : (rZ S).a = S.a ∧ (rZ S).op = S.op - 1 ∧ (rZ S).f = S.f ∧ (rZ S).pl = S.pl ∧ (rZ S).ln = S.ln ∧ (rZ S).C = S.C := ⟨rfl, rfl, rfl, rfl, rfl, rfl⟩
theorem rF_e : (rF x z S).a = S.a ∧ (rF x z S).op = S.op ∧ (rF x z S).ln = S.ln ∧ (rF x z S).C = S.C := by
  unfold rF; split <;> exact ⟨rfl, rfl, rfl, rfl⟩
theorem rF_0 (h : S.f = 0) : (rF x z S).f = x ∧ (rF x z S).pl = z := by unfold rF; rw [if_pos h]; exact ⟨rfl, rfl⟩
theorem rF_1 (h : ¬ S.f = 0) : rF x z S = S := by unfold rF; rw [if_neg h]
theorem rP_e : (rP x S).a = S.a ∧ (rP x S).op = S.op ∧ (rP x S).f = S.f ∧ (rP x S).pl = S.pl := by
  unfold rP; split <;> exact ⟨rfl, rfl, rfl, rfl⟩
theorem rP_ln (h : S.ln < 1600) : (rP x S).ln = S.ln + 1 := by unfold rP; rw [if_pos h]; rfl
variable {K PL : Int → Int} {m : Int}
theorem rN_t (h : K S.a = m) (hm : ¬ m = 341) : rN K PL m S = rI S := by unfold rN; rw [if_pos h, if_neg hm]
theorem rN_f (h : ¬ K S.a = m) : rN K PL m S = rF 1 (PL S.a) S := by unfold rN; rw [if_neg h]
theorem rN_k (h : ¬ S.f = 0) : (rN K PL m S).f = S.f ∧ (rN K PL m S).pl = S.pl := by
  unfold rN; split
  · split
    · exact ⟨rfl, rfl⟩
    · exact ⟨rfl, rfl⟩
  · rw [rF_1 h]; exact ⟨rfl, rfl⟩
theorem rO_t (h : S.f = 0 ∧ S.op < 6) : (rO PL S).a = S.a + 1 ∧ (rO PL S).op = S.op + 1 ∧ (rO PL S).f = S.f ∧ (rO PL S).pl = S.pl ∧ (rO PL S).ln = S.ln ∧ (rO PL S).C = S.C := by
  unfold rO; rw [if_pos h]; exact ⟨rfl, rfl, rfl, rfl, rfl, rfl⟩
theorem rO_n (h : ¬ (S.f = 0 ∧ S.op < 6)) : rO PL S = rF 4 (PL S.a) S := by unfold rO; rw [if_neg h]
end RSL
section RMS
variable {K PL Z : Nat → Int} {tk : Int} {f j : Nat} {U O : List Int} {op h : Int}
theorem brk_h (hh : 20 ≤ h ∧ h ≤ 24) : brk (h :: U) = h := by show (if isBr h = true then h else brk U) = h; rw [if_pos (show isBr h = true from decide_eq_true hh)]
theorem dW_h (hh : 20 ≤ h ∧ h ≤ 24) : dW nBr (h :: U) O = (h :: U, O) := by show (if nBr h = true then _ else _) = _; rw [if_neg (by unfold nBr; rw [show isBr h = true from decide_eq_true hh]; decide)]
theorem dW_no {q : Int → Bool} (hU : ∀ v : Int, U.head? = some v → ¬ q v = true) : dW q U O = (U, O) := by
  cases U with
  | nil => rfl
  | cons u U => show (if q u = true then _ else _) = _; rw [if_neg (hU u rfl)]
theorem eP_no (hU : ∀ v : Int, U.head? = some v → v < 60) : eP U O op = (U, O, op) := by
  cases U with
  | nil => rfl
  | cons u U => have := hU u rfl; show (if 60 ≤ u then _ else _) = _; rw [if_neg (by omega)]
abbrev EM (K PL Z : Nat → Int) (tk : Int) (f j : Nat) (t : List Int × List Int × Int) : Oc := rm K PL Z tk f 2 j t.1 t.2.1 t.2.2
theorem rm2_close (hk : K j = 41) (hh : h = 20 ∨ h = 23 ∨ h = 24) : rm K PL Z tk (f + 1) 2 j (h :: U) O op = EM K PL Z tk f (j + 1) (eP U (if h = 20 then O else (if h = 23 then 5 else 6) :: O) (op - 1)) := by
  simp only [rm, brk_h (U := U) (h := h) (by omega), dW_h (U := U) (O := O) (h := h) (by omega)]
  rw [if_pos ⟨hk, hh⟩]
theorem rm2_noclose (hk : ¬ K j = 41) (h1 : ¬ (K j = 42 ∨ K j = 47)) (h2 : ¬ (K j = 43 ∨ K j = 45)) (hh : h = 20 ∨ h = 23 ∨ h = 24) : rm K PL Z tk (f + 1) 2 j (h :: U) O op = (1, PL j, j, O, op) := by
  simp only [rm, brk_h (U := U) (h := h) (by omega)]
  rw [if_neg (fun z => hk z.1), if_neg h1, if_neg h2, if_neg (by omega), if_pos (by omega)]
theorem rm2_comma (hk : K j = 44) (hh : h = 21 ∨ h = 22) : rm K PL Z tk (f + 1) 2 j (h :: U) O op = rm K PL Z tk f 0 (j + 1) ((h + 2) :: U) O op := by
  simp only [rm, brk_h (U := U) (h := h) (by omega), dW_h (U := U) (O := O) (h := h) (by omega)]
  rw [if_neg (by omega), if_neg (by omega), if_neg (by omega), if_pos hh, if_pos hk]
theorem rm2_nocomma (hk : ¬ K j = 44) (h1 : ¬ (K j = 42 ∨ K j = 47)) (h2 : ¬ (K j = 43 ∨ K j = 45)) (hh : h = 21 ∨ h = 22) : rm K PL Z tk (f + 1) 2 j (h :: U) O op = (1, PL j, j, O, op) := by
  simp only [rm, brk_h (U := U) (h := h) (by omega)]
  rw [if_neg (by omega), if_neg h1, if_neg h2, if_pos hh, if_neg hk]
theorem rm2_mul (hk : K j = 42 ∨ K j = 47) (hU : ∀ v : Int, U.head? = some v → ¬ isMu v = true) : rm K PL Z tk (f + 1) 2 j U O op = rm K PL Z tk f 0 (j + 1) ((if K j = 42 then 3 else 4) :: U) O op := by
  simp only [rm, dW_no (O := O) hU]
  rw [if_neg (by omega), if_pos hk]
theorem rm2_add (hk : K j = 43 ∨ K j = 45) (hU : ∀ v : Int, U.head? = some v → ¬ isSu v = true) : rm K PL Z tk (f + 1) 2 j U O op = rm K PL Z tk f 0 (j + 1) ((if K j = 43 then 1 else 2) :: U) O op := by
  simp only [rm, dW_no (O := O) hU]
  rw [if_neg (by omega), if_neg (by omega), if_pos hk]
theorem rm2_end (hk : ¬ (K j = 42 ∨ K j = 47)) (h2 : ¬ (K j = 43 ∨ K j = 45)) : rm K PL Z tk (f + 1) 2 j [] O op = (0, 0, j, O, op) := by
  simp only [rm]
  rw [if_neg (by intro z; rcases z.2 with z | z | z <;> exact absurd z (by decide)), if_neg hk, if_neg h2, if_neg (by intro z; rcases z with z | z <;> exact absurd z (by decide)), if_neg (fun z => z rfl)]
  rfl
theorem rm0_par (hk : K j = 40) : rm K PL Z tk (f + 1) 0 j U O op = if op = 6 then (4, PL j, j, O, op) else rm K PL Z tk f 0 (j + 1) (20 :: U) O (op + 1) := by
  simp only [rm]; rw [if_pos hk]
theorem rm0_min (hk : K j = 330) : rm K PL Z tk (f + 1) 0 j U O op = rm K PL Z tk f 1 (j + 1) U O op := by
  simp only [rm]; rw [if_neg (by omega), if_pos hk]
theorem rm0_max (hk : K j = 331) : rm K PL Z tk (f + 1) 0 j U O op = rm K PL Z tk f 3 (j + 1) U O op := by
  simp only [rm]; rw [if_neg (by omega), if_neg (by omega), if_pos hk]
theorem rm0_now (hk : K j = 312) (ht : tk = 2) : rm K PL Z tk (f + 1) 0 j U O op = if op = 6 then (4, PL j, j, O, op) else rm K PL Z tk f 0 (j + 1) (60 :: U) O (op + 1) := by
  simp only [rm]; rw [if_neg (by omega), if_neg (by omega), if_neg (by omega), if_pos ⟨hk, ht⟩]
theorem rm0_word (h1 : ¬ K j = 40) (h2 : ¬ K j = 330) (h3 : ¬ K j = 331) (h4 : ¬ (K j = 312 ∧ tk = 2)) (h5 : ¬ qWo tk (K j) 0 11 = -1) : rm K PL Z tk (f + 1) 0 j U O op = EM K PL Z tk f (j + 1) (eP U ((40 + qWo tk (K j) 0 11) :: O) op) := by
  simp only [rm]; rw [if_neg h1, if_neg h2, if_neg h3, if_neg h4, if_pos h5]
theorem rm0_num (hk : K j = 339) (h5 : qWo tk (K j) 0 11 = -1) : rm K PL Z tk (f + 1) 0 j U O op = if Z j = -1 then (1, PL j + 4, j, O, op) else EM K PL Z tk f (j + 1) (eP U ((1000 + Z j) :: O) op) := by
  simp only [rm]; rw [if_neg (by omega), if_neg (by omega), if_neg (by omega), if_neg (by omega), if_neg (fun z => z h5), if_pos hk]
theorem rm0_none (h1 : ¬ K j = 40) (h2 : ¬ K j = 330) (h3 : ¬ K j = 331) (h4 : ¬ (K j = 312 ∧ tk = 2)) (h5 : qWo tk (K j) 0 11 = -1) (h6 : ¬ K j = 339) : rm K PL Z tk (f + 1) 0 j U O op = (1, PL j, j, O, op) := by
  simp only [rm]; rw [if_neg h1, if_neg h2, if_neg h3, if_neg h4, if_neg (fun z => z h5), if_neg h6]
theorem rm1_par (hk : K j = 40) : rm K PL Z tk (f + 1) 1 j U O op = if op = 6 then (4, PL j, j, O, op) else rm K PL Z tk f 0 (j + 1) (21 :: U) O (op + 1) := by
  simp only [rm]; rw [if_pos hk]
theorem rm1_no (hk : ¬ K j = 40) : rm K PL Z tk (f + 1) 1 j U O op = (1, PL j, j, O, op) := by
  simp only [rm]; rw [if_neg hk]
theorem rm3_par (hk : K j = 40) : rm K PL Z tk (f + 1) 3 j U O op = if op = 6 then (4, PL j, j, O, op) else rm K PL Z tk f 0 (j + 1) (22 :: U) O (op + 1) := by
  simp only [rm]; rw [if_pos hk]
theorem rm3_no (hk : ¬ K j = 40) : rm K PL Z tk (f + 1) 3 j U O op = (1, PL j, j, O, op) := by
  simp only [rm]; rw [if_neg hk]
end RMS
/-- the part's words of the class are those of the reference -/
theorem partQ {rl tk m : Int} (hr : (rl = 0 ∧ tk = 0) ∨ (rl = 1 ∧ tk = 1) ∨ (rl = 2 ∧ tk = 0) ∨ (rl = 3 ∧ tk = 2)) : (partB rl m = true → ¬ qWo tk m 0 11 = -1 ∧ cmap m = 40 + qWo tk m 0 11) ∧ (¬ partB rl m = true → qWo tk m 0 11 = -1) := by
  by_cases hk : m = 310 ∨ m = 311 ∨ m = 307 ∨ m = 319 ∨ m = 320 ∨ m = 321 ∨ m = 322 ∨ m = 323 ∨ m = 324 ∨ m = 325 ∨ m = 313 ∨ m = 312
  · rcases hk with rfl | rfl | rfl | rfl | rfl | rfl | rfl | rfl | rfl | rfl | rfl | rfl <;> rcases hr with ⟨rfl, rfl⟩ | ⟨rfl, rfl⟩ | ⟨rfl, rfl⟩ | ⟨rfl, rfl⟩ <;> decide
  · refine ⟨fun z => ?_, fun _ => ?_⟩
    · have := partB_iff.mp z; omega
    · have := qWz_no (k := m) (by omega)
      unfold qWo; rw [this, if_neg (fun z => absurd z.1.1 (by decide))]

