/-! where references lie: PURE, over the machine -/
def aSup (M : aM) : Prop := ∀ q k z, M.2.2.2 q k = some z → (∃ ci, M.1[q]? = some (none, ci) ∧ k < 110) ∨ (∃ (Cn : ClassId) (n : Nat), False ∧ Cn = Cn ∧ n = n) ∨ (∃ (e : FieldType) (n : Nat), M.1[q]? = some (some e, n) ∧ (e = .object RX1 ∨ e = .array .int) ∧ k < n)
theorem aNF_le {ci : Nat} : aNF ci ≤ 109 := by
  by_cases h : ci < 10
  · have := List.all_eq_true.mp (show (List.range 10).all (fun ci => decide (aNF ci ≤ 109)) = true by decide +kernel) ci (List.mem_range.mpr h)
    exact of_decide_eq_true this
  · unfold aNF
    rw [List.getElem?_eq_none (by simp; omega)]
    decide
section SUP
variable {M M2 : aM} {I : Nat → Nat → Int32} {L : Nat → Nat → Int64}
theorem aSup_app {l : List aSh} (h : aSup M) : aSup (M.1 ++ l, I, L, M.2.2.2) := fun q k z hz => by
  have e : ∀ x, M.1[q]? = some x → (M.1 ++ l)[q]? = some x := fun x hx => by
    have hq : q < M.1.length := by
      rcases Nat.lt_or_ge q M.1.length with w | w
      · exact w
      · rw [List.getElem?_eq_none w] at hx; cases hx
    rw [List.getElem?_append_left hq]; exact hx
  rcases h q k z hz with ⟨ci, a, b⟩ | ⟨_, _, c, _⟩ | ⟨x, n, a, b, c⟩
  · exact Or.inl ⟨ci, e _ a, b⟩
  · exact c.elim
  · exact Or.inr (Or.inr ⟨x, n, e _ a, b, c⟩)
theorem aSup_row {l : List aSh} {p : Nat} (h : aSup M) : aSup (M.1 ++ l, I, L, aRow M.2.2.2 p (fun _ => none)) := fun q k z hz => by
  have hz : aRow M.2.2.2 p (fun _ => none) q k = some z := hz
  simp only [aRow] at hz
  split at hz
  · cases hz
  · exact aSup_app (I := I) (L := L) (l := l) h q k z hz
theorem aSup_put {q k x ci : Nat} {P : Prop} (h : aSup M) (hc : M.1[q]? = some (none, ci) ∧ k < aNF ci ∧ P) : aSup (M.1, I, L, aUp M.2.2.2 q k (some x)) := fun a b z hz => by
  have hz : aUp M.2.2.2 q k (some x) a b = some z := hz
  simp only [aUp] at hz
  split at hz
  · rename_i e
    have := aNF_le (ci := ci)
    exact Or.inl ⟨ci, by rw [e.1]; exact hc.1, by omega⟩
  · exact h a b z hz
theorem aSup_aa {q k x n : Nat} {Cn : String} (h : aSup M) (hc : M.1[q]? = some (some (.object Cn), n)) (hn : Cn = RX1) (hk : k < n) : aSup (M.1, I, L, aUp M.2.2.2 q k (some x)) := fun a b z hz => by
  have hz : aUp M.2.2.2 q k (some x) a b = some z := hz
  simp only [aUp] at hz
  split at hz
  · rename_i e
    exact Or.inr (Or.inr ⟨_, n, by rw [e.1]; exact hc, Or.inl (by rw [hn]), by omega⟩)
  · exact h a b z hz
theorem aSup_multi {n m : Nat} (h : aSup M) : aSup ((M.1 ++ [(some (.array .int), n)]) ++ List.replicate n (some .int, m), I, L, aRow M.2.2.2 M.1.length (fun j => if j < n then some (M.1.length + 1 + j) else none)) := fun q k z hz => by
  have hz : aRow M.2.2.2 M.1.length (fun j => if j < n then some (M.1.length + 1 + j) else none) q k = some z := hz
  simp only [aRow] at hz
  split at hz
  · rename_i e
    split at hz
    · refine Or.inr (Or.inr ⟨.array .int, n, ?_, Or.inr rfl, by omega⟩)
      subst e
      show ((M.1 ++ [(some (.array .int), n)]) ++ List.replicate n (some .int, m))[M.1.length]? = _
      rw [List.append_assoc, List.getElem?_append_right (Nat.le_refl _)]
      simp
    · cases hz
  · have := aSup_app (I := I) (L := L) (l := [(some (.array .int), n)] ++ List.replicate n (some .int, m)) h q k z hz
    rw [← List.append_assoc] at this
    exact this
end SUP
set_option maxHeartbeats 4000000 in
theorem aSt_sup {sc : Option (Nat × (Nat → Int32))} {wd : List Int32} {d : Nat} {i : Instr} {ls st ls2 st2 : List Value} {M M2 : aM} (h : aSt sc wd d i ls st M = some (ls2, st2, M2)) (hS : aSup M) : aSup M2 := by
  unfold aSt at h
  split at h
  all_goals (repeat' split at h)
  all_goals (first | (cases h; done) | (simp only [Option.some.injEq, Prod.mk.injEq] at h; obtain ⟨rfl, rfl, rfl⟩ := h))
  all_goals first
    | exact hS
    | exact aSup_put hS (by assumption)
    | exact aSup_aa hS (by assumption) (Classical.byContradiction fun w => (by assumption : ¬ (_ ∨ _)) (Or.inl w)) (by omega)
    | exact aSup_row hS
    | exact aSup_app hS
    | exact aSup_multi hS
theorem aEv_sup {wd : List Int32} : ∀ (n : Nat) (sc : Option (Nat × (Nat → Int32))) (d y pc : Nat) (ls st : List Value) (M M9 : aM) (v : Option Value), aEv wd sc n d y pc ls st M = some (v, M9) → aSup M → aSup M9
  | 0, _, _, _, _, _, _, _, _, _, h, _ => by cases h
  | n + 1, sc, d, y, pc, ls, st, M, M9, v, h, hS => by
    rw [aEv_succ] at h
    split at h
    · cases h
    · split at h
      · cases h; exact hS
      · split at h
        · split at h
          · cases h
          · split at h
            · rename_i w M2 he1
              exact aEv_sup n sc _ y _ ls _ _ _ _ h (aEv_sup n none _ _ _ _ _ _ _ _ he1 hS)
            · cases h
        · split at h
          · exact aEv_sup n sc _ y _ ls _ _ _ _ h hS
          · split at h
            · rename_i ls2 st2 M2 hst
              exact aEv_sup n sc _ y _ _ _ _ _ _ h (aSt_sup hst hS)
            · cases h
