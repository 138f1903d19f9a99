/-! entries, and what the fuel's result keeps -/
theorem aEntL_len (r : Nat → Nat) : ∀ as : List Value, (lg_sl (aVs r as)).length = (aEntL as).length
  | [] => rfl
  | v :: as => by
    have ih := aEntL_len r as
    simp only [lg_sl, aVs, List.map_cons, List.flatMap_cons, List.length_append, aEntL, aV_cat] at ih ⊢
    rw [ih]
    split <;> simp <;> omega
theorem aEntL_in (r : Nat → Nat) : ∀ (as : List Value) (k i : Nat) (v : Value), (aEntL as)[i]? = some v → v ≠ .null → (k + i, aV r v) ∈ lv_args k (aVs r as)
  | [], k, i, v, h, _ => by simp [aEntL] at h
  | w :: as, k, i, v, h, hn => by
    simp only [aEntL] at h
    simp only [aVs, List.map_cons, lv_args, aV_cat]
    split at h
    · rename_i hc
      match i, h with
      | 0, h =>
        cases h
        exact List.mem_cons_self
      | 1, h => cases h; exact absurd rfl hn
      | i + 2, h =>
        rw [if_pos hc]
        have := aEntL_in r as (k + 2) i v h hn
        rw [show k + 2 + i = k + (i + 2) by omega] at this
        exact List.mem_cons_of_mem _ this
    · rename_i hc
      match i, h with
      | 0, h =>
        cases h
        exact List.mem_cons_self
      | i + 1, h =>
        rw [if_neg hc]
        have := aEntL_in r as (k + 1) i v h hn
        rw [show k + 1 + i = k + (i + 1) by omega] at this
        exact List.mem_cons_of_mem _ this
theorem aEnt0_len {y : Nat} {as : List Value} (h : (aEntL as).length ≤ mL y) : (aEnt0 y as).length = mL y := by
  simp only [aEnt0, List.length_append, List.length_replicate]
  omega
theorem aEnt0_loc {r : Nat → Nat} {y : Nat} {as : List Value} (h : (aEntL as).length ≤ mL y) : aLoc r (aEnt0 y as) ((lg_sl (aVs r as) ++ List.replicate (mL y - (lg_sl (aVs r as)).length) Slot.unset).toArray) := by
  refine aLoc_of (lv_entry (aVs r as) (by rw [aEntL_len]; exact h)) (aEnt0_len h) (fun i v h1 h2 => ?_)
  have := aEntL_in r as 0 i v ?_ h2
  · rw [Nat.zero_add] at this
    exact this
  · simp only [aEnt0] at h1
    by_cases hi : i < (aEntL as).length
    · rw [List.getElem?_append_left hi] at h1
      exact h1
    · rw [List.getElem?_append_right (by omega), List.getElem?_replicate] at h1
      split at h1
      · cases h1; exact absurd rfl h2
      · cases h1
theorem aOkL_entL {n : Nat} : ∀ {as : List Value}, aOkL n as → aOkL n (aEntL as)
  | [], h => h
  | v :: as, h => by
    have ih := aOkL_entL (aOkL_cons.mp h).2
    simp only [aEntL]
    split
    · exact aOkL_cons.mpr ⟨(aOkL_cons.mp h).1, aOkL_cons.mpr ⟨aOk_null, ih⟩⟩
    · exact aOkL_cons.mpr ⟨(aOkL_cons.mp h).1, ih⟩
theorem aOkL_ent0 {n y : Nat} {as : List Value} (h : aOkL n as) : aOkL n (aEnt0 y as) := fun v hv => by
  rcases List.mem_append.mp hv with h1 | h1
  · exact aOkL_entL h v h1
  · rw [List.eq_of_mem_replicate h1]; exact aOk_null
theorem aCal_spec {i : Instr} {st : List Value} {M : aM} {y : Nat} {as rest : List Value} (h : aCal i st M = some (y, as, rest)) : (i = .invokevirtual y ∨ i = .invokestatic y ∨ i = .invokespecial y) ∧ as.length = aArg y ∧ st = as.reverse ++ rest ∧ aCat rest ≤ 8 ∧ aRecv M y as = true ∧ (aEntL as).length ≤ mL y := by
  simp only [aCal] at h
  split at h
  · rename_i z hz
    split at h
    · rename_i hc
      simp only [Option.some.injEq, Prod.mk.injEq] at h
      obtain ⟨rfl, rfl, rfl⟩ := h
      refine ⟨?_, by rw [List.length_reverse, List.length_take]; omega, by rw [List.reverse_reverse, List.take_append_drop], hc.2.1, hc.2.2.1, hc.2.2.2⟩
      split at hz <;> simp_all
    · cases h
  · cases h
theorem aRet_spec {y : Nat} {i : Instr} {st : List Value} {v : Option Value} (h : aRet y i st = some v) : (i = .return_ ∧ st = [] ∧ v = none) ∨ (∃ x : Int32, i = .ireturn ∧ st = [.int x] ∧ v = some (.int x) ∧ narrow ((mR y).getD .int) (.int x) = .int x) ∨ ∃ x : Int64, i = .lreturn ∧ st = [.long x] ∧ v = some (.long x) := by
  unfold aRet at h
  split at h
  · cases h; exact Or.inl ⟨rfl, rfl, rfl⟩
  · split at h
    · rename_i x hx
      cases h; exact Or.inr (Or.inl ⟨x, rfl, rfl, rfl, hx⟩)
    · cases h
  · rename_i x
    cases h; exact Or.inr (Or.inr ⟨x, rfl, rfl, rfl⟩)
  · cases h
theorem aBr_ok {i : Instr} {nx : Nat} {st st2 : List Value} {pc2 n : Nat} (h : aBr i nx st = some (st2, pc2)) (hs : aOkL n st) : aOkL n st2 := by
  unfold aBr at h
  split at h
  all_goals (repeat' split at h)
  all_goals first
    | (cases h; done)
    | (cases h; exact hs)
    | (cases h; exact (aOkL_cons.mp hs).2)
    | (cases h; exact (aOkL_cons.mp (aOkL_cons.mp hs).2).2)
    | (simp only [Option.some.injEq, Prod.mk.injEq] at h; obtain ⟨rfl, rfl⟩ := h; first | exact (aOkL_cons.mp hs).2 | exact (aOkL_cons.mp (aOkL_cons.mp hs).2).2)
theorem aOkL_rev {n : Nat} {l : List Value} (h : aOkL n l) : aOkL n l.reverse := fun v hv => h v (List.mem_reverse.mp hv)
theorem aOkL_app {n : Nat} {l k : List Value} : aOkL n (l ++ k) ↔ aOkL n l ∧ aOkL n k := by
  simp only [aOkL, List.mem_append]
  exact ⟨fun h => ⟨fun v hv => h v (Or.inl hv), fun v hv => h v (Or.inr hv)⟩, fun h v hv => hv.elim (h.1 v) (h.2 v)⟩
theorem aRet_ok {y : Nat} {i : Instr} {st : List Value} {v : Option Value} {n : Nat} (h : aRet y i st = some v) : aOkL n v.toList := by
  rcases aRet_spec h with ⟨-, -, rfl⟩ | ⟨x, -, -, rfl, -⟩ | ⟨x, -, -, rfl⟩
  · exact aOkL_nil
  · exact aOkL_cons.mpr ⟨aOk_int, aOkL_nil⟩
  · exact aOkL_cons.mpr ⟨aOk_long, aOkL_nil⟩
/-- a run keeps cells and references -/
theorem aEv_ok {wd : List Int32} : ∀ (n : Nat) (sc : Option (Nat × (Nat → Int32))) (d y pc : Nat) (ls st : List Value) (M M9 : aM) (v : Option Value), aEv wd sc n d y pc ls st M = some (v, M9) → aOkM M → aOkL M.1.length ls → aOkL M.1.length st → M.1.length ≤ M9.1.length ∧ aSz M.1 ≤ aSz M9.1 ∧ aOkM M9 ∧ (∀ k, aOkL k v.toList)
  | 0, _, _, _, _, _, _, _, _, _, h, _, _, _ => by cases h
  | n + 1, sc, d, y, pc, ls, st, M, M9, v, h, hM, hl, hs => by
    rw [aEv_succ] at h
    split at h
    · cases h
    · split at h
      · rename_i w hw
        cases h
        exact ⟨Nat.le_refl _, Nat.le_refl _, hM, fun k => aRet_ok hw⟩
      · split at h
        · rename_i y2 as rest hc
          split at h
          · cases h
          · split at h
            · rename_i w M2 he
              obtain ⟨-, -, e, -⟩ := aCal_spec hc
              rw [e, aOkL_app] at hs
              have h1 := aEv_ok n none _ y2 0 _ _ _ _ _ he hM (aOkL_ent0 (by have := aOkL_rev hs.1; rwa [List.reverse_reverse] at this)) aOkL_nil
              have h2 := aEv_ok n sc _ y _ ls _ _ _ _ h h1.2.2.1 (aOkL_mono hl h1.1) (aOkL_app.mpr ⟨h1.2.2.2 _, aOkL_mono hs.2 h1.1⟩)
              exact ⟨Nat.le_trans h1.1 h2.1, Nat.le_trans h1.2.1 h2.2.1, h2.2.2⟩
            · cases h
        · split at h
          · rename_i st2 pc2 hb
            exact aEv_ok n sc _ y _ ls _ _ _ _ h hM hl (aBr_ok hb hs)
          · split at h
            · rename_i ls2 st2 M2 hst
              obtain ⟨k1, k2, -, k4, k5, k6⟩ := aSt_ok hst hM hl hs
              have h2 := aEv_ok n sc _ y _ ls2 _ _ _ _ h k4 k5 k6
              exact ⟨Nat.le_trans k1 h2.1, Nat.le_trans k2 h2.2.1, h2.2.2⟩
            · cases h
