/-! PURE: the statements of a shore, mark by mark (9i) -/
def dU (D : Nat → Int → Int) (a : Nat) (j v : Int) : Nat → Int → Int := fun b i => if b = a ∧ i = j then v else D b i
def dL (D : Nat → Int → Int) (r : Int) (NM : Int → Int) : Nat → Int → Int := fun b i => if b = 2 ∧ r * 6 ≤ i ∧ i < r * 6 + 6 then NM (i - r * 6) else D b i
theorem dU_eq {D : Nat → Int → Int} {a : Nat} {j v : Int} : dU D a j v a j = v := if_pos ⟨rfl, rfl⟩
theorem dU_ne {D : Nat → Int → Int} {a b : Nat} {i j v : Int} (h : ¬ (b = a ∧ i = j)) : dU D a j v b i = D b i := if_neg h
theorem dL_ne {D : Nat → Int → Int} {b : Nat} {r i : Int} {NM : Int → Int} (h : ¬ (b = 2 ∧ r * 6 ≤ i ∧ i < r * 6 + 6)) : dL D r NM b i = D b i := if_neg h
theorem dL_in {D : Nat → Int → Int} {r k : Int} {NM : Int → Int} (h : 0 ≤ k ∧ k < 6) : dL D r NM 2 (r * 6 + k) = NM k := by
  unfold dL; rw [if_pos (by omega), show r * 6 + k - r * 6 = k by omega]
/-- a name's letters, and its number -/
def nmL (T : Int → Int) (p z : Int) : Int → Int := fun k => if k < z then T (p + k) - 97 + 1 else 0
def nmc (f : Int → Int) : Nat → Int
  | 0 => 0
  | k + 1 => if f k = 0 then nmc f k else 27 * nmc f k + f k
def nmR (D : Nat → Int → Int) (k : Nat) (i : Int) : Int := nmc (fun j => D 2 ((rowB k + i) * 6 + j)) 6
abbrev lts (f : Int → Int) (z : Nat) : Prop := ∀ k : Int, 0 ≤ k → k < z → 1 ≤ f k ∧ f k ≤ 26
def wfN (f : Int → Int) : Prop := ∃ z : Nat, (1 ≤ z ∧ z ≤ 6) ∧ lts f z ∧ ∀ k : Int, (z : Int) ≤ k → k < 6 → f k = 0
section NMC
variable {f g : Int → Int} {z w m : Nat}
theorem nmc_s (h : lts f (z + 1)) : nmc f (z + 1) = 27 * nmc f z + f z := by
  have := h z (by omega) (by omega)
  show (if f z = 0 then nmc f z else _) = _
  rw [if_neg (by omega)]
theorem nmc_0 : ∀ d : Nat, (∀ k : Int, (z : Int) ≤ k → k < z + d → f k = 0) → nmc f (z + d) = nmc f z
  | 0, _ => rfl
  | d + 1, h => by
    show (if f ((z + d : Nat) : Int) = 0 then nmc f (z + d) else _) = _
    rw [if_pos (h _ (by omega) (by omega))]
    exact nmc_0 d (fun k h1 h2 => h k h1 (by omega))
theorem nmc_pos : ∀ {z : Nat}, lts f z → 0 ≤ nmc f z ∧ (1 ≤ z → 1 ≤ nmc f z)
  | 0, _ => ⟨Int.le_refl 0, fun h => absurd h (by decide)⟩
  | z + 1, h => by
    have h1 := nmc_pos (z := z) (fun k a b => h k a (by omega))
    have h2 := h z (by omega) (by omega)
    rw [nmc_s h]; omega
theorem nmc_inj : ∀ (z w : Nat), lts f z → lts g w → nmc f z = nmc g w → z = w ∧ ∀ k : Int, 0 ≤ k → k < z → f k = g k
  | 0, 0, _, _, _ => ⟨rfl, fun k h1 h2 => by omega⟩
  | 0, w + 1, _, hg, h => by have := (nmc_pos hg).2 (by omega); rw [← h] at this; exact absurd this (show ¬ (1 : Int) ≤ 0 by decide)
  | z + 1, 0, hf, _, h => by have := (nmc_pos hf).2 (by omega); rw [h] at this; exact absurd this (show ¬ (1 : Int) ≤ 0 by decide)
  | z + 1, w + 1, hf, hg, h => by
    have a1 := hf z (by omega) (by omega)
    have a2 := hg w (by omega) (by omega)
    rw [nmc_s hf, nmc_s hg] at h
    have h3 : nmc f z = nmc g w := by omega
    have h4 : f z = g w := by omega
    obtain ⟨h5, h6⟩ := nmc_inj z w (fun k a b => hf k a (by omega)) (fun k a b => hg k a (by omega)) h3
    subst h5
    refine ⟨rfl, fun k h7 h8 => ?_⟩
    by_cases hk : k = z
    · subst hk; exact h4
    · exact h6 k h7 (by omega)
theorem nmc_6 (hz : z ≤ 6) (h0 : ∀ k : Int, (z : Int) ≤ k → k < 6 → f k = 0) : nmc f 6 = nmc f z := by
  have := nmc_0 (f := f) (z := z) (6 - z) (fun k h1 h2 => h0 k h1 (by omega))
  rw [show z + (6 - z) = 6 by omega] at this; exact this
theorem nmc_eq (hf : wfN f) (hg : wfN g) : nmc f 6 = nmc g 6 ↔ ∀ k : Int, 0 ≤ k → k < 6 → f k = g k := by
  obtain ⟨z, h1, h2, h3⟩ := hf
  obtain ⟨w, h4, h5, h6⟩ := hg
  constructor
  · intro h
    rw [nmc_6 h1.2 h3, nmc_6 h4.2 h6] at h
    obtain ⟨e, h7⟩ := nmc_inj z w h2 h5 h
    subst e
    intro k a b
    by_cases hk : k < z
    · exact h7 k a hk
    · rw [h3 k (by omega) b, h6 k (by omega) b]
  · intro h
    have : ∀ m : Nat, m ≤ 6 → nmc f m = nmc g m := by
      intro m
      induction m with
      | zero => intro _; rfl
      | succ m ih =>
        intro hm
        show (if f m = 0 then nmc f m else 27 * nmc f m + f m) = (if g m = 0 then nmc g m else 27 * nmc g m + g m)
        rw [ih (by omega), h m (by omega) (by omega)]
    exact this 6 (Nat.le_refl 6)
theorem nmc_lt : ∀ {z : Nat}, z ≤ 6 → lts f z → 0 ≤ nmc f z ∧ nmc f z < 400000000 ∧ (z ≤ 5 → nmc f z < 14400000) ∧ (z ≤ 4 → nmc f z < 532000) ∧ (z ≤ 3 → nmc f z < 19700) ∧ (z ≤ 2 → nmc f z < 729) ∧ (z ≤ 1 → nmc f z < 27) ∧ (z = 0 → nmc f z = 0)
  | 0, _, _ => by simp [nmc]
  | z + 1, hz, h => by
    have ih := nmc_lt (z := z) (by omega) (fun k a b => h k a (by omega))
    have h2 := h z (by omega) (by omega)
    rw [nmc_s h]
    refine ⟨?_, ?_, ?_, ?_, ?_, ?_, ?_, ?_⟩ <;> omega
theorem nmc_rg (h : wfN f) : 1 ≤ nmc f 6 ∧ nmc f 6 < 1000000000 := by
  obtain ⟨z, h1, h2, h3⟩ := h
  rw [nmc_6 h1.2 h3]
  have a := (nmc_pos h2).2 h1.1
  have b := nmc_lt h1.2 h2
  omega
theorem nmc_same : ∀ m : Nat, (∀ k : Int, 0 ≤ k → k < m → f k = g k) → nmc f m = nmc g m
  | 0, _ => rfl
  | m + 1, h => by
    show (if f m = 0 then nmc f m else 27 * nmc f m + f m) = (if g m = 0 then nmc g m else 27 * nmc g m + g m)
    rw [nmc_same m (fun k a b => h k a (by omega)), h m (by omega) (by omega)]
end NMC
section NML
variable {T : Int → Int} {p z : Int}
theorem nmL_wf (hz : 1 ≤ z ∧ z ≤ 6) (h : ∀ i : Int, 0 ≤ i → i < z → 97 ≤ T (p + i) ∧ T (p + i) ≤ 122) : wfN (nmL T p z) := by
  refine ⟨z.toNat, by omega, fun k a b => ?_, fun k a b => ?_⟩
  · unfold nmL; rw [if_pos (by omega)]; have := h k a (by omega); omega
  · unfold nmL; rw [if_neg (by omega)]
theorem nc_nmc (h : ∀ i : Int, 0 ≤ i → i < z → 97 ≤ T (p + i) ∧ T (p + i) ≤ 122) : ∀ m : Nat, (m : Int) ≤ z → nc T p m = nmc (nmL T p z) m
  | 0, _ => rfl
  | m + 1, hm => by
    have := h m (by omega) (by omega)
    show 27 * nc T p m + T (p + m) - 97 + 1 = (if nmL T p z m = 0 then nmc (nmL T p z) m else 27 * nmc (nmL T p z) m + nmL T p z m)
    rw [nc_nmc h m (by omega)]
    have e : nmL T p z m = T (p + m) - 97 + 1 := by unfold nmL; rw [if_pos (by omega)]
    rw [e, if_neg (by omega)]; omega
theorem nc_nm6 (hz : 1 ≤ z ∧ z ≤ 6) (h : ∀ i : Int, 0 ≤ i → i < z → 97 ≤ T (p + i) ∧ T (p + i) ≤ 122) : nc T p z.toNat = nmc (nmL T p z) 6 := by
  rw [nc_nmc h z.toNat (by omega), nmc_6 (f := nmL T p z) (z := z.toNat) (by omega) (fun k a b => by unfold nmL; rw [if_neg (by omega)])]
end NML
/- the mark at which the text ends -/
section TKE
variable {T : Int → Int} {n : Int}
theorem tkS_st {j : Nat} (h : ¬ tkP T n j < n) : ∀ d : Nat, tkS T n (j + d) = tkS T n j
  | 0 => rfl
  | d + 1 => by
    have ih := tkS_st h d
    show (if skip T n (tkS T n (j + d)).1 < n then _ else tkS T n (j + d)) = _
    rw [ih]; exact if_neg h
theorem tkK_341 (hT : ∀ j : Int, 0 ≤ T j ∧ T j < 256) {j : Nat} : tkK T n j = 341 ↔ ¬ tkP T n j < n := by
  rw [tkK_end hT]
  have := hT (tkP T n j)
  unfold lkc
  constructor
  · intro h; split at h <;> omega
  · intro h; rw [if_neg h]
theorem tkE_ex (hn : 0 ≤ n) (hT : ∀ j : Int, 0 ≤ T j ∧ T j < 256) : ∃ E : Nat, (∀ j : Nat, tkK T n j = 341 ↔ E ≤ j) ∧ (∀ j : Nat, j ≤ E → (j : Int) ≤ (tkS T n j).1) ∧ (E : Int) ≤ n := by
  have h1 : ∀ m : Nat, (∃ j : Nat, j < m ∧ tkK T n j = 341) ∨ ∀ j : Nat, j ≤ m → (j : Int) ≤ (tkS T n j).1 := by
    intro m
    induction m with
    | zero => right; intro j hj; have : j = 0 := by omega
              subst this; show (0 : Int) ≤ 0; omega
    | succ m ih =>
      rcases ih with ⟨j, a, b⟩ | ih
      · exact Or.inl ⟨j, by omega, b⟩
      · by_cases hk : tkK T n m = 341
        · exact Or.inl ⟨m, by omega, hk⟩
        · right
          intro j hj
          by_cases hj2 : j ≤ m
          · exact ih j hj2
          · have : j = m + 1 := by omega
            subst this
            exact tkS_up hn hT (ih m (Nat.le_refl m)) hk
  have h2 : ∃ j : Nat, tkK T n j = 341 := by
    rcases h1 (n.toNat + 1) with ⟨j, _, b⟩ | h
    · exact ⟨j, b⟩
    · have := h (n.toNat + 1) (Nat.le_refl _)
      have := (tkS_rg (T := T) hn (n.toNat + 1)).1
      omega
  have h3 : ∀ m : Nat, (∃ j : Nat, j < m ∧ tkK T n j = 341) → ∃ E : Nat, tkK T n E = 341 ∧ ∀ j : Nat, j < E → ¬ tkK T n j = 341 := by
    intro m
    induction m with
    | zero => rintro ⟨j, a, _⟩; omega
    | succ m ih =>
      rintro ⟨j, a, b⟩
      by_cases hx : ∃ j : Nat, j < m ∧ tkK T n j = 341
      · exact ih hx
      · refine ⟨j, b, fun i hi hk => hx ⟨i, by omega, hk⟩⟩
  obtain ⟨j0, hj0⟩ := h2
  obtain ⟨E, e1, e2⟩ := h3 (j0 + 1) ⟨j0, by omega, hj0⟩
  refine ⟨E, fun j => ⟨fun h => ?_, fun h => ?_⟩, fun j hj => ?_, ?_⟩
  · rcases Nat.lt_or_ge j E with z | z
    · exact absurd h (e2 j z)
    · exact z
  · rw [tkK_341 hT] at e1 ⊢
    have := tkS_st e1 (j - E)
    rw [show E + (j - E) = j by omega] at this
    unfold tkP at e1 ⊢; rw [this]; exact e1
  · rcases h1 j with ⟨i, a, b⟩ | h
    · exact absurd b (e2 i (by omega))
    · exact h j (Nat.le_refl j)
  · rcases h1 E with ⟨i, a, b⟩ | h
    · exact absurd b (e2 i a)
    · have := h E (Nat.le_refl E)
      have := (tkS_rg (T := T) hn E).1
      omega
end TKE
/- the steps of a cursor -/
section CUR
variable {K PL Z : Nat → Int} {m lo hi : Int} {C : Cu} {E : Nat} {du : Prop}
noncomputable def cNp (K PL Z : Nat → Int) (du : Prop) (C : Cu) : Cu := @cNm K PL Z du (Classical.propDecidable du) C
theorem cWd_0 (h : (cWd K PL m C).1 = 0) : C.1 = 0 ∧ K C.2.2 = m ∧ cWd K PL m C = (0, 0, C.2.2 + 1) := by
  unfold cWd at *
  by_cases h1 : C.1 = 0
  · rw [if_pos h1] at h ⊢
    by_cases h2 : K C.2.2 = m
    · rw [if_pos h2]; exact ⟨h1, h2, rfl⟩
    · rw [if_neg h2] at h; exact absurd (show (1 : Int) = 0 from h) (by decide)
  · rw [if_neg h1] at h; exact absurd h h1
theorem cNu_0 (h : (cNu K PL Z lo hi C).1 = 0) : C.1 = 0 ∧ K C.2.2 = 339 ∧ ¬ Z C.2.2 = -1 ∧ (lo ≤ Z C.2.2 ∧ Z C.2.2 ≤ hi) ∧ cNu K PL Z lo hi C = (0, 0, C.2.2 + 1) := by
  unfold cNu at *
  by_cases h1 : C.1 = 0
  · rw [if_pos h1] at h ⊢
    by_cases h2 : K C.2.2 = 339
    · rw [if_neg (fun z => z h2)] at h ⊢
      by_cases h3 : Z C.2.2 = -1
      · rw [if_pos h3] at h; exact absurd (show (1 : Int) = 0 from h) (by decide)
      · rw [if_neg h3] at h ⊢
        by_cases h4 : lo ≤ Z C.2.2 ∧ Z C.2.2 ≤ hi
        · rw [if_pos h4]; exact ⟨h1, h2, h3, h4, rfl⟩
        · rw [if_neg h4] at h; exact absurd (show (2 : Int) = 0 from h) (by decide)
    · rw [if_pos h2] at h; exact absurd (show (1 : Int) = 0 from h) (by decide)
  · rw [if_neg h1] at h; exact absurd h h1
theorem cNp_b (h : ¬ C.1 = 0) : cNp K PL Z du C = C := if_neg h
theorem cNp_1 (h : C.1 = 0) (h2 : ¬ (332 ≤ K C.2.2 ∧ K C.2.2 ≤ 338)) : cNp K PL Z du C = (1, PL C.2.2, C.2.2) := (if_pos h).trans (if_pos h2)
theorem cNp_2 (h : C.1 = 0) (h2 : 332 ≤ K C.2.2 ∧ K C.2.2 ≤ 338) (h3 : 6 < Z C.2.2) : cNp K PL Z du C = (1, PL C.2.2 + 6, C.2.2) := (if_pos h).trans ((if_neg (fun z => z h2)).trans (if_pos h3))
theorem cNp_3 (h : C.1 = 0) (h2 : 332 ≤ K C.2.2 ∧ K C.2.2 ≤ 338) (h3 : ¬ 6 < Z C.2.2) (h4 : du) : cNp K PL Z du C = (3, PL C.2.2, C.2.2) := (if_pos h).trans ((if_neg (fun z => z h2)).trans ((if_neg h3).trans (if_pos h4)))
theorem cNp_4 (h : C.1 = 0) (h2 : 332 ≤ K C.2.2 ∧ K C.2.2 ≤ 338) (h3 : ¬ 6 < Z C.2.2) (h4 : ¬ du) : cNp K PL Z du C = (0, 0, C.2.2 + 1) := (if_pos h).trans ((if_neg (fun z => z h2)).trans ((if_neg h3).trans (if_neg h4)))
theorem cNp_0 (h : (cNp K PL Z du C).1 = 0) : C.1 = 0 ∧ (332 ≤ K C.2.2 ∧ K C.2.2 ≤ 338) ∧ ¬ 6 < Z C.2.2 ∧ ¬ du ∧ cNp K PL Z du C = (0, 0, C.2.2 + 1) := by
  by_cases h1 : C.1 = 0
  · by_cases h2 : 332 ≤ K C.2.2 ∧ K C.2.2 ≤ 338
    · by_cases h3 : 6 < Z C.2.2
      · rw [cNp_2 h1 h2 h3] at h; exact absurd (show (1 : Int) = 0 from h) (by decide)
      · by_cases h4 : du
        · rw [cNp_3 h1 h2 h3 h4] at h; exact absurd (show (3 : Int) = 0 from h) (by decide)
        · exact ⟨h1, h2, h3, h4, cNp_4 h1 h2 h3 h4⟩
    · rw [cNp_1 h1 h2] at h; exact absurd (show (1 : Int) = 0 from h) (by decide)
  · rw [cNp_b h1] at h; exact absurd h h1
/-- a good cursor lies no further than the text's end -/
def cE (E : Nat) (C : Cu) : Prop := C.1 = 0 → C.2.2 ≤ E
theorem cE.wd (hE : ∀ j : Nat, K j = 341 ↔ E ≤ j) (h : cE E C) (hm : ¬ m = 341) : cE E (cWd K PL m C) := fun z => by
  have h1 := cWd_0 z
  have h2 := h h1.1
  have h3 : ¬ K C.2.2 = 341 := by omega
  rw [hE] at h3
  rw [h1.2.2]; show C.2.2 + 1 ≤ E; omega
theorem cE.nu (hE : ∀ j : Nat, K j = 341 ↔ E ≤ j) (h : cE E C) : cE E (cNu K PL Z lo hi C) := fun z => by
  have h1 := cNu_0 z
  have h2 := h h1.1
  have h3 : ¬ K C.2.2 = 341 := by omega
  rw [hE] at h3
  rw [h1.2.2.2.2]; show C.2.2 + 1 ≤ E; omega
theorem cE.nm (hE : ∀ j : Nat, K j = 341 ↔ E ≤ j) (h : cE E C) : cE E (cNp K PL Z du C) := fun z => by
  have h1 := cNp_0 z
  have h2 := h h1.1
  have h3 : ¬ K C.2.2 = 341 := by omega
  rw [hE] at h3
  rw [h1.2.2.2.2]; show C.2.2 + 1 ≤ E; omega
end CUR
/-- marks back from the reference's numbers -/
def ucm (c : Int) : Int := if c = 1 then 43 else if c = 2 then 45 else if c = 3 then 42 else if c = 4 then 47 else if c = 5 then 330 else if c = 6 then 331 else if c = 7 then 60 else if c = 8 then 62 else if c = 9 then 61 else if c = 10 then 327 else if c = 11 then 326 else if c = 12 then 328 else if c = 13 then 329 else if c = 40 then 310 else if c = 41 then 311 else if c = 42 then 307 else if c = 43 then 319 else if c = 44 then 320 else if c = 45 then 321 else if c = 46 then 322 else if c = 47 then 323 else if c = 48 then 324 else if c = 49 then 325 else if c = 50 then 313 else if c = 60 then 312 else c
theorem ucm_cmap {rl m : Int} (h : okM rl m) : ucm (cmap m) = m := by
  by_cases hb : 1000 ≤ m
  · rw [cmap_num hb]; unfold ucm; (repeat rw [if_neg (by omega)])
  · have hr : 0 ≤ m ∧ m < 1000 := by unfold okM isAri isCmp isLog isPrt at h; omega
    have h2 : (List.range 1000).all (fun k => decide (¬ (isAri (k : Nat) ∨ isCmp (k : Nat) ∨ isLog (k : Nat) ∨ (k : Int) = 328 ∨ (k : Int) = 329 ∨ (k : Int) = 312 ∨ isPrt (k : Nat))) || decide (ucm (cmap (k : Nat)) = (k : Nat))) = true := by decide +kernel
    have h3 := List.all_eq_true.mp h2 m.toNat (List.mem_range.mpr (by omega))
    rw [Bool.or_eq_true, decide_eq_true_eq, decide_eq_true_eq, Int.toNat_of_nonneg hr.1] at h3
    rcases h3 with h3 | h3
    · exfalso; apply h3
      rcases h with h | h | h | h | h | h | h
      · exact Or.inl h
      · exact Or.inr (Or.inl h)
      · exact Or.inr (Or.inr (Or.inl h))
      · exact Or.inr (Or.inr (Or.inr (Or.inl h)))
      · exact Or.inr (Or.inr (Or.inr (Or.inr (Or.inl h))))
      · exact Or.inr (Or.inr (Or.inr (Or.inr (Or.inr (Or.inl h.1)))))
      · exact Or.inr (Or.inr (Or.inr (Or.inr (Or.inr (Or.inr h.1)))))
    · exact h3
/- the statements: cursors and numbers -/
section STM
variable (T : Int → Int) (K PL Z : Nat → Int) (D : Nat → Int → Int) (cd : Nat → Option (List Int))
def nmJ (j : Nat) : Int → Int := nmL T (PL j) (Z j)
def cdu (j : Nat) : Prop := dupN (fun k => D 1 k) (nmR D) (nmc (nmJ T PL Z j) 6) 0
def vix (j : Nat) : Int := nxI (nmR D 1) (nmc (nmJ T PL Z j) 6) 0 (D 1 1).toNat
noncomputable def sBk (j : Nat) : Cu := if D 1 0 = 6 then (5, PL j, j) else cNu K PL Z 0 999 (cWd K PL 302 (cNu K PL Z 0 999 (cWd K PL 305 (cNp K PL Z (cdu T PL Z D (j + 1)) (0, 0, j + 1)))))
def dBk (j : Nat) : Nat → Int → Int := dU (dU (dU (dL D (D 1 0) (nmJ T PL Z (j + 1))) 3 (D 1 0) (Z (j + 3))) 4 (D 1 0) (Z (j + 5))) 1 0 (D 1 0 + 1)
noncomputable def sVi (j : Nat) : Cu := if D 1 1 = 6 then (5, PL j, j) else cNu K PL Z 0 99 (cWd K PL 307 (cNp K PL Z (cdu T PL Z D (j + 1)) (0, 0, j + 1)))
def dVi (j : Nat) : Nat → Int → Int := dU (dU (dL D (6 + D 1 1) (nmJ T PL Z (j + 1))) 5 (D 1 1) (Z (j + 3))) 1 1 (D 1 1 + 1)
noncomputable def cVl (C : Cu) : Cu := cNp K PL Z (vix T PL Z D C.2.2 = -1) C
noncomputable def sDe (j : Nat) : Cu := if D 1 2 = 8 then (5, PL j, j) else cNu K PL Z 0 99 (cWd K PL 312 (cNu K PL Z 0 99 (cWd K PL 311 (cNu K PL Z 1 999 (cWd K PL 310 (cVl T K PL Z D (cWd K PL 309 (cNp K PL Z (cdu T PL Z D (j + 1)) (0, 0, j + 1)))))))))
def dDe (j : Nat) : Nat → Int → Int := dU (dU (dU (dU (dU (dL D (12 + D 1 2) (nmJ T PL Z (j + 1))) 6 (D 1 2) (vix T PL Z D (j + 3))) 7 (D 1 2) (Z (j + 5))) 8 (D 1 2) (Z (j + 7))) 9 (D 1 2) (Z (j + 9))) 1 2 (D 1 2 + 1)
def rlR (r : Nat) (j : Nat) : Oc := if r = 2 then rmT K PL Z 0 1700 0 (j + 1) [] [] 0 else rm K PL Z (if r = 1 then 1 else 0) (1700 - (j + 1)) 0 (j + 1) [] [] 0
def sRl (r : Nat) (j : Nat) : Cu := if cd r = none then ((rlR K PL Z r j).1, (rlR K PL Z r j).2.1, (rlR K PL Z r j).2.2.1) else (5, PL j, j)
def lRl (r : Nat) (j : Nat) : List Int := (rlR K PL Z r j).2.2.2.1.reverse.map ucm
def cRu (r : Nat) (j : Nat) : Nat → Option (List Int) := fun q => if q = r then some (lRl K PL Z r j) else cd q
abbrev Ps := Cu × (Nat → Int → Int) × (Nat → Option (List Int))
/-- what a statement's first mark leads to, ahead of its sign ; -/
noncomputable def stC (j : Nat) : Ps :=
  if K j = 304 then (sBk T K PL Z D j, dBk T PL Z D j, cd)
  else if K j = 306 then (sVi T K PL Z D j, dVi T PL Z D j, cd)
  else if K j = 308 then (sDe T K PL Z D j, dDe T PL Z D j, cd)
  else if K j = 313 then (sRl K PL Z cd 0 j, D, cRu K PL Z cd 0 j)
  else if K j = 314 then (sRl K PL Z cd 1 j, D, cRu K PL Z cd 1 j)
  else if K j = 315 then (sRl K PL Z cd 2 j, D, cRu K PL Z cd 2 j)
  else if K j = 316 then (cNu K PL Z 0 100 (0, 0, j + 1), dU D 0 14 (Z (j + 1)), cd)
  else if K j = 317 then (cNu K PL Z 0 9999 (0, 0, j + 1), dU D 0 15 (Z (j + 1)), cd)
  else if K j = 318 then (cNu K PL Z 0 100 (0, 0, j + 1), dU D 0 16 (Z (j + 1)), cd)
  else ((1, PL j, j), D, cd)
noncomputable def stS (cnt : Int) (j : Nat) : Ps := if cnt = 70 then ((5, PL j, j), D, cd) else (cWd K PL 59 (stC T K PL Z D cd j).1, (stC T K PL Z D cd j).2.1, (stC T K PL Z D cd j).2.2)
def laC : Cu := cWd K PL 59 (cNu K PL Z (max 1 (Z 2)) 9999 (cWd K PL 303 (cNu K PL Z 0 9999 (cWd K PL 302 (cNu K PL Z 0 9999 (cWd K PL 301 (cWd K PL 300 (0, 0, 0))))))))
def laD : Nat → Int → Int := dU (dU (dU (dU (dU (dU (dU (dU (dU (dU D 0 0 1) 0 1 (Z 6)) 0 2 (Z 2)) 0 3 (Z 4)) 0 14 0) 0 15 1) 0 16 0) 1 0 0) 1 1 0) 1 2 0
end STM
/-- the statements one behind the other -/
noncomputable def stN (T : Int → Int) (K PL Z : Nat → Int) : Nat → Int → Cu → (Nat → Int → Int) → (Nat → Option (List Int)) → Int × Ps
  | 0, cnt, C, D, cd => (cnt, C, D, cd)
  | f + 1, cnt, C, D, cd => if C.1 = 0 ∧ ¬ K C.2.2 = 341 then stN T K PL Z f (cnt + 1) (stS T K PL Z D cd cnt C.2.2).1 (stS T K PL Z D cd cnt C.2.2).2.1 (stS T K PL Z D cd cnt C.2.2).2.2 else (cnt, C, D, cd)
