/-! the start's references and numbers (by hand) -/
theorem ini1_T : on1 (fun M => rw0 M.2.1 1 1600) = true := by decide +kernel
theorem sup0 : aSup (mNw mz 8) := by
  intro q k z hz
  have hz : aRow (fun _ _ => none) 0 (fun _ => none) q k = some z := hz
  unfold aRow at hz
  split at hz <;> cases hz
theorem ini1_ex : ∃ (I1 : aFI) (L1 : aFL) (R1 : aFR), ini1 = some (none, (S0.take 157, I1, L1, R1)) ∧ okC I1 = true ∧ L1 0 17 = lI 1 ∧ okRc R1 = true ∧ rw0 I1 1 1600 = true ∧ aSup (S0.take 157, I1, L1, R1) := by
  have h1 := ini1_S
  have h2 := ini1_I
  have h3 := ini1_L
  have h4 := ini1_R
  have h5 := ini1_T
  unfold on1 at h1 h2 h3 h4 h5
  generalize hq : ini1 = o at h1 h2 h3 h4 h5
  rcases o with _ | ⟨_ | v, S, I1, L1, R1⟩
  · exact (Bool.false_ne_true h1).elim
  · have e : S = S0.take 157 := of_decide_eq_true h1
    have h3b : L1 0 17 = lI 1 := of_decide_eq_true h3
    subst e
    exact ⟨I1, L1, R1, rfl, h2, h3b, h4, h5, aEv_sup 3000 none 150 75 0 _ [] _ _ _ hq sup0⟩
  · exact (Bool.false_ne_true h1).elim
theorem aRT_len : (List.range 236).all (fun q => decide ((aRT 8 none q).length ≤ bdR q) && (decide (q ≤ 157) || decide ((aRT 8 none q).length = 0))) = true := by decide +kernel
theorem aRT_out {q : Nat} (h : 236 ≤ q) : aRT 8 none q = [] := by
  unfold aRT
  repeat rw [if_neg (by omega)]
theorem aR_none {q k : Nat} (h : (aRT 8 none q).length ≤ k) : aR 8 none q k = none := by
  unfold aR
  rw [List.getElem?_eq_none h]
  rfl
theorem icR_157 : icR78.all (fun e => decide (e.1 = 157) && decide (e.2.1 < 110)) = true := by decide +kernel
theorem icR_at : (List.range 110).all (fun k => decide ((match lk3 icR78 157 k with | some v => v | none => none) = aR 8 none 157 k)) = true := by decide +kernel
theorem lk3_q {α : Type} : ∀ {P : List (Nat × Nat × α)}, P.all (fun e => decide (e.1 = 157) && decide (e.2.1 < 110)) = true → ∀ q k : Nat, ¬ (q = 157 ∧ k < 110) → lk3 P q k = none
  | [], _, _, _, _ => rfl
  | e :: r, h, q, k, hn => by
    simp only [List.all_cons, Bool.and_eq_true, decide_eq_true_eq] at h
    unfold lk3
    rw [if_neg (fun z => hn ⟨by omega, by omega⟩)]
    exact lk3_q (by simpa using h.2) q k hn
theorem iniR {R1 : aFR} {I1 : aFI} {L1 : aFL} (h : okRc R1 = true) (hs : aSup (S0.take 157, I1, L1, R1)) : rgm (aRow R1 157 (fun _ => none)) icR78 = aR 8 none := by
  have hl := List.all_eq_true.mp aRT_len
  funext q k
  unfold rgm
  by_cases h1 : q = 157 ∧ k < 110
  · obtain ⟨rfl, hk⟩ := h1
    have h2 := of_decide_eq_true (List.all_eq_true.mp icR_at k (List.mem_range.mpr hk))
    rw [← h2]
    cases lk3 icR78 157 k with
    | some v => rfl
    | none => show aRow R1 157 (fun _ => none) 157 k = none; unfold aRow; rw [if_pos rfl]
  · rw [lk3_q icR_157 q k h1]
    show aRow R1 157 (fun _ => none) q k = _
    unfold aRow
    by_cases h2 : q = 157
    · subst h2
      rw [if_pos rfl]
      have h3 := hl 157 (List.mem_range.mpr (by decide))
      simp only [Bool.and_eq_true, decide_eq_true_eq] at h3
      have h4 : bdR 157 = 110 := rfl
      exact (aR_none (by omega)).symm
    · rw [if_neg h2]
      by_cases h3 : q < 157 ∧ k < bdR q
      · exact of_decide_eq_true (List.all_eq_true.mp (List.all_eq_true.mp h q (List.mem_range.mpr h3.1)) k (List.mem_range.mpr h3.2))
      · have e1 : R1 q k = none := by
          cases hz : R1 q k with
          | none => rfl
          | some z =>
            exfalso
            have g : ∀ x, (S0.take 157)[q]? = some x → q < 157 ∧ S0[q]? = some x := fun x hx => by
              have hq : q < 157 := by
                rcases Nat.lt_or_ge q 157 with w | w
                · exact w
                · rw [List.getElem?_eq_none (by rw [List.length_take]; omega)] at hx; cases hx
              rw [List.getElem?_take, if_pos hq] at hx
              exact ⟨hq, hx⟩
            rcases hs q k z hz with ⟨ci, a, b⟩ | ⟨_, _, c, _⟩ | ⟨x, n, a, b, c⟩
            · have := g _ a
              have e : bdR q = 110 := by unfold bdR; rw [this.2]
              exact h3 ⟨this.1, by omega⟩
            · exact c
            · have := g _ a
              have e : bdR q = n := by
                unfold bdR; rw [this.2]
                rcases b with rfl | rfl <;> rfl
              exact h3 ⟨this.1, by omega⟩
        rw [e1]
        rcases Nat.lt_or_ge q 236 with w | w
        · have h4 := hl q (List.mem_range.mpr w)
          simp only [Bool.and_eq_true, Bool.or_eq_true, decide_eq_true_eq] at h4
          exact (aR_none (by omega)).symm
        · exact (aR_none (by rw [aRT_out w]; exact Nat.zero_le _)).symm
