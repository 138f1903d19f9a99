/-! compare and branch on longs -/
theorem z_cmp3 (a b : Int) : ∃ v : Int, (if a < b then -1 else if a = b then 0 else 1) = v ∧ ((a < b ∧ v = -1) ∨ (a = b ∧ v = 0) ∨ (b < a ∧ v = 1)) := by
  by_cases h : a < b
  · exact ⟨-1, if_pos h, Or.inl ⟨h, rfl⟩⟩
  · by_cases h2 : a = b
    · exact ⟨0, by rw [if_neg h, if_pos h2], Or.inr (Or.inl ⟨h2, rfl⟩)⟩
    · exact ⟨1, by rw [if_neg h, if_neg h2], Or.inr (Or.inr ⟨by omega, rfl⟩)⟩
section WL
variable {sc : aSc} {d y pc nx n1 : Nat} {ls st : List Value} {I : aFI} {L : aFL} {R : aFR} {Q : aPo}
theorem z_lc_eq {t : Int} {a b : Int} (hc : aCod y pc = some (.lcmp, n1)) (h2 : aCod y n1 = some (.ifCond .eq t, nx)) (ha : aRl a) (hb : aRl b) (k1 : a = b → aWp sc d y t.toNat ls st I L R Q) (k2 : ¬ (a = b) → aWp sc d y nx ls st I L R Q) : aWp sc d y pc ls (.long (lI b) :: .long (lI a) :: st) I L R Q := by
  refine z_lcmp hc ha hb ?_
  obtain ⟨v, hv, h3⟩ := z_cmp3 a b
  rw [hv]
  exact z_if_eq h2 (by unfold aRg; omega) (fun h => k1 (by omega)) (fun h => k2 (by omega))
theorem z_lc_ne {t : Int} {a b : Int} (hc : aCod y pc = some (.lcmp, n1)) (h2 : aCod y n1 = some (.ifCond .ne t, nx)) (ha : aRl a) (hb : aRl b) (k1 : ¬ a = b → aWp sc d y t.toNat ls st I L R Q) (k2 : ¬ (¬ a = b) → aWp sc d y nx ls st I L R Q) : aWp sc d y pc ls (.long (lI b) :: .long (lI a) :: st) I L R Q := by
  refine z_lcmp hc ha hb ?_
  obtain ⟨v, hv, h3⟩ := z_cmp3 a b
  rw [hv]
  exact z_if_ne h2 (by unfold aRg; omega) (fun h => k1 (by omega)) (fun h => k2 (by omega))
theorem z_lc_lt {t : Int} {a b : Int} (hc : aCod y pc = some (.lcmp, n1)) (h2 : aCod y n1 = some (.ifCond .lt t, nx)) (ha : aRl a) (hb : aRl b) (k1 : a < b → aWp sc d y t.toNat ls st I L R Q) (k2 : ¬ (a < b) → aWp sc d y nx ls st I L R Q) : aWp sc d y pc ls (.long (lI b) :: .long (lI a) :: st) I L R Q := by
  refine z_lcmp hc ha hb ?_
  obtain ⟨v, hv, h3⟩ := z_cmp3 a b
  rw [hv]
  exact z_if_lt h2 (by unfold aRg; omega) (fun h => k1 (by omega)) (fun h => k2 (by omega))
theorem z_lc_ge {t : Int} {a b : Int} (hc : aCod y pc = some (.lcmp, n1)) (h2 : aCod y n1 = some (.ifCond .ge t, nx)) (ha : aRl a) (hb : aRl b) (k1 : b ≤ a → aWp sc d y t.toNat ls st I L R Q) (k2 : ¬ (b ≤ a) → aWp sc d y nx ls st I L R Q) : aWp sc d y pc ls (.long (lI b) :: .long (lI a) :: st) I L R Q := by
  refine z_lcmp hc ha hb ?_
  obtain ⟨v, hv, h3⟩ := z_cmp3 a b
  rw [hv]
  exact z_if_ge h2 (by unfold aRg; omega) (fun h => k1 (by omega)) (fun h => k2 (by omega))
theorem z_lc_gt {t : Int} {a b : Int} (hc : aCod y pc = some (.lcmp, n1)) (h2 : aCod y n1 = some (.ifCond .gt t, nx)) (ha : aRl a) (hb : aRl b) (k1 : b < a → aWp sc d y t.toNat ls st I L R Q) (k2 : ¬ (b < a) → aWp sc d y nx ls st I L R Q) : aWp sc d y pc ls (.long (lI b) :: .long (lI a) :: st) I L R Q := by
  refine z_lcmp hc ha hb ?_
  obtain ⟨v, hv, h3⟩ := z_cmp3 a b
  rw [hv]
  exact z_if_gt h2 (by unfold aRg; omega) (fun h => k1 (by omega)) (fun h => k2 (by omega))
theorem z_lc_le {t : Int} {a b : Int} (hc : aCod y pc = some (.lcmp, n1)) (h2 : aCod y n1 = some (.ifCond .le t, nx)) (ha : aRl a) (hb : aRl b) (k1 : a ≤ b → aWp sc d y t.toNat ls st I L R Q) (k2 : ¬ (a ≤ b) → aWp sc d y nx ls st I L R Q) : aWp sc d y pc ls (.long (lI b) :: .long (lI a) :: st) I L R Q := by
  refine z_lcmp hc ha hb ?_
  obtain ⟨v, hv, h3⟩ := z_cmp3 a b
  rw [hv]
  exact z_if_le h2 (by unfold aRg; omega) (fun h => k1 (by omega)) (fun h => k2 (by omega))
end WL
