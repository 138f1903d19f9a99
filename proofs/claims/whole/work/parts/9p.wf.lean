/-! PURE: what is told keeps its bounds (9p) -/
theorem nxI_in {N : Int → Int} {x : Int} : ∀ (m : Nat) (i : Int), 0 ≤ i → ¬ nxI N x i m = -1 → (i ≤ nxI N x i m ∧ nxI N x i m < i + m) ∧ N (nxI N x i m) = x ∧ ∀ p : Int, i ≤ p → p < nxI N x i m → ¬ N p = x
  | 0, i, _, h => absurd rfl h
  | m + 1, i, h0, h => by
    unfold nxI at h ⊢
    by_cases e : N i = x
    · rw [if_pos e]; exact ⟨by omega, e, fun p a b => by omega⟩
    · rw [if_neg e] at h ⊢
      have h1 := nxI_in m (i + 1) (by omega) h
      refine ⟨by omega, h1.2.1, fun p a b => ?_⟩
      by_cases hp : p = i
      · subst hp; exact e
      · exact h1.2.2 p (by omega) b
theorem nxI_no {N : Int → Int} {x : Int} : ∀ (m : Nat) (i : Int), 0 ≤ i → nxI N x i m = -1 → ∀ p : Int, i ≤ p → p < i + m → ¬ N p = x
  | 0, i, _, _, p, a, b => by omega
  | m + 1, i, h0, h, p, a, b => by
    unfold nxI at h
    by_cases e : N i = x
    · rw [if_pos e] at h; omega
    · rw [if_neg e] at h
      by_cases hp : p = i
      · subst hp; exact e
      · exact nxI_no m (i + 1) (by omega) h p (by omega) (by omega)
def wfP (D : Nat → Int → Int) (cd : Nat → Option (List Int)) : Prop := wfS D cd ∧ (∀ k : Nat, k < 3 → ∀ i : Int, 0 ≤ i → i < D 1 k → wfN (fun j => D 2 ((rowB k + i) * 6 + j))) ∧ (D 0 0 = 1 ∧ (0 ≤ D 0 2 ∧ D 0 2 ≤ D 0 1) ∧ (0 ≤ D 0 3 ∧ D 0 3 ≤ 9999))
theorem wfN.ext {f g : Int → Int} (h : wfN f) (e : ∀ k : Int, 0 ≤ k → k < 6 → g k = f k) : wfN g := by
  obtain ⟨z, h1, h2, h3⟩ := h
  exact ⟨z, h1, fun k a b => by rw [e k a (by omega)]; exact h2 k a b, fun k a b => by rw [e k (by omega) b]; exact h3 k a b⟩
/-- the rows of names with one more -/
theorem wfN_dL {D D2 : Nat → Int → Int} {k : Nat} {w : Int} {NM : Int → Int} (hk : k < 3) (hw : w = D 1 k) (hb : (0 ≤ D 1 0 ∧ D 1 0 ≤ 6) ∧ (0 ≤ D 1 1 ∧ D 1 1 ≤ 6) ∧ 0 ≤ D 1 2) (hwk : w < (if k = 2 then 8 else 6)) (h : ∀ k : Nat, k < 3 → ∀ i : Int, 0 ≤ i → i < D 1 k → wfN (fun j => D 2 ((rowB k + i) * 6 + j))) (hN : wfN NM) (h2 : ∀ i : Int, D2 2 i = dL D (rowB k + w) NM 2 i) (h1 : ∀ p : Nat, p < 3 → D2 1 p = if p = k then w + 1 else D 1 p) : ∀ p : Nat, p < 3 → ∀ i : Int, 0 ≤ i → i < D2 1 p → wfN (fun j => D2 2 ((rowB p + i) * 6 + j)) := by
  have hr := rowB_n
  intro p hp i a b
  rw [h1 p hp] at b
  by_cases e : p = k ∧ i = w
  · obtain ⟨rfl, rfl⟩ := e
    refine hN.ext (fun j c d => ?_)
    show D2 2 ((rowB p + i) * 6 + j) = NM j
    rw [h2]; exact dL_in ⟨c, d⟩
  · have hne : ¬ rowB p + i = rowB k + w := by
      intro z
      apply e
      rcases (show p = 0 ∨ p = 1 ∨ p = 2 by omega) with rfl | rfl | rfl <;> rcases (show k = 0 ∨ k = 1 ∨ k = 2 by omega) with rfl | rfl | rfl
      all_goals (simp only [hr.1, hr.2.1, hr.2.2] at z)
      all_goals first
        | (refine ⟨rfl, ?_⟩; omega)
        | (exfalso; simp at b hwk hw; omega)
    have hb2 : i < D 1 p := by
      by_cases z : p = k
      · rw [if_pos z] at b; subst z
        have : ¬ i = w := fun y => e ⟨rfl, y⟩
        omega
      · rwa [if_neg z] at b
    refine (h p hp i a hb2).ext (fun j c d => ?_)
    show D2 2 ((rowB p + i) * 6 + j) = D 2 ((rowB p + i) * 6 + j)
    rw [h2]; exact dL_ne (by omega)
section WFP
variable {T : Int → Int} {n : Int} {D : Nat → Int → Int} {cd : Nat → Option (List Int)} {j : Nat}
theorem wfP_bk (hT : ∀ j : Int, 0 ≤ T j ∧ T j < 256) (hn : 0 ≤ n ∧ n ≤ 1600) (h : wfP D cd) (h0 : (sBk T (tkK T n) (tkP T n) (tkZ T n) D j).1 = 0) : wfP (dBk T (tkP T n) (tkZ T n) D j) cd := by
  have hc := h.1.n
  have hne : ¬ D 1 0 = 6 := fun z => by unfold sBk at h0; rw [if_pos z] at h0; exact absurd (show (5 : Int) = 0 from h0) (by decide)
  unfold sBk at h0; rw [if_neg hne] at h0
  have g5 := cNu_0 h0
  have g4 := cWd_0 g5.1
  have g3 := cNu_0 g4.1
  have g2 := cWd_0 g3.1
  have g1 := cNp_0 g2.1
  rw [g4.2.2, g3.2.2.2.2, g2.2.2, g1.2.2.2.2] at g5
  rw [g2.2.2, g1.2.2.2.2] at g3
  have h5 : 0 ≤ tkZ T n (j + 5) ∧ tkZ T n (j + 5) ≤ 999 := g5.2.2.2.1
  have h3 : 0 ≤ tkZ T n (j + 3) ∧ tkZ T n (j + 3) ≤ 999 := g3.2.2.2.1
  have hl := tkK_lt hT hn g1.2.1
  have hnw : wfN (nmJ T (tkP T n) (tkZ T n) (j + 1)) := nmL_wf ⟨hl.1, by have : ¬ 6 < tkZ T n (j + 1) := g1.2.2.1; omega⟩ hl.2.1
  refine ⟨⟨?_, ?_, fun i a b => ?_, fun i a b => ?_, fun i a b => ?_, h.1.2.2.2.2.2⟩, ?_, ?_⟩
  · simp only [dBk, dU, dL]; simp; omega
  · have := h.1.h; simpa [dBk, dU, dL] using this
  · have b : i < D 1 0 + 1 := by simpa [dBk, dU, dL] using b
    by_cases hi : i = D 1 0
    · subst hi; simpa [dBk, dU, dL] using And.intro h3 h5
    · have := h.1.br a (by omega); simpa [dBk, dU, dL, hi] using this
  · have b : i < D 1 1 := by simpa [dBk, dU, dL] using b
    have := h.1.2.2.2.1 i a b; simpa [dBk, dU, dL] using this
  · have b : i < D 1 2 := by simpa [dBk, dU, dL] using b
    have := h.1.de a b; simpa [dBk, dU, dL] using this
  · refine wfN_dL (k := 0) (by decide) rfl ⟨hc.1, hc.2.1, hc.2.2.1⟩ (by show D 1 0 < 6; omega) h.2.1 hnw (fun i => ?_) (fun p hp => ?_)
    · rw [show rowB ((0 : Nat) : Int) + D 1 ((0 : Nat) : Int) = D 1 0 by rw [rowB_n.1]; exact Int.zero_add _]; simp [dBk, dU]
    · rcases (show p = 0 ∨ p = 1 ∨ p = 2 by omega) with rfl | rfl | rfl <;> simp [dBk, dU, dL]
  · simpa [dBk, dU, dL] using h.2.2
theorem wfP_vi (hT : ∀ j : Int, 0 ≤ T j ∧ T j < 256) (hn : 0 ≤ n ∧ n ≤ 1600) (h : wfP D cd) (h0 : (sVi T (tkK T n) (tkP T n) (tkZ T n) D j).1 = 0) : wfP (dVi T (tkP T n) (tkZ T n) D j) cd := by
  have hc := h.1.n
  have hne : ¬ D 1 1 = 6 := fun z => by unfold sVi at h0; rw [if_pos z] at h0; exact absurd (show (5 : Int) = 0 from h0) (by decide)
  unfold sVi at h0; rw [if_neg hne] at h0
  have g3 := cNu_0 h0
  have g2 := cWd_0 g3.1
  have g1 := cNp_0 g2.1
  rw [g2.2.2, g1.2.2.2.2] at g3
  have h3 : 0 ≤ tkZ T n (j + 3) ∧ tkZ T n (j + 3) ≤ 99 := g3.2.2.2.1
  have hl := tkK_lt hT hn g1.2.1
  have hnw : wfN (nmJ T (tkP T n) (tkZ T n) (j + 1)) := nmL_wf ⟨hl.1, by have : ¬ 6 < tkZ T n (j + 1) := g1.2.2.1; omega⟩ hl.2.1
  refine ⟨⟨?_, ?_, fun i a b => ?_, fun i a b => ?_, fun i a b => ?_, h.1.2.2.2.2.2⟩, ?_, ?_⟩
  · simp only [dVi, dU, dL]; simp; omega
  · have := h.1.h; simpa [dVi, dU, dL] using this
  · have b : i < D 1 0 := by simpa [dVi, dU, dL] using b
    have := h.1.br a b; simpa [dVi, dU, dL] using this
  · have b : i < D 1 1 + 1 := by simpa [dVi, dU, dL] using b
    by_cases hi : i = D 1 1
    · subst hi; simpa [dVi, dU, dL] using h3
    · have := h.1.2.2.2.1 i a (by omega); simpa [dVi, dU, dL, hi] using this
  · have b : i < D 1 2 := by simpa [dVi, dU, dL] using b
    have := h.1.de a b
    simp only [dVi, dU, dL]; simp; omega
  · refine wfN_dL (k := 1) (by decide) rfl ⟨hc.1, hc.2.1, hc.2.2.1⟩ (by show D 1 1 < 6; omega) h.2.1 hnw (fun i => ?_) (fun p hp => ?_)
    · rw [show rowB ((1 : Nat) : Int) + D 1 ((1 : Nat) : Int) = 6 + D 1 1 by rw [rowB_n.2.1]; rfl]; simp [dVi, dU]
    · rcases (show p = 0 ∨ p = 1 ∨ p = 2 by omega) with rfl | rfl | rfl <;> simp [dVi, dU, dL]
  · simpa [dVi, dU, dL] using h.2.2
theorem wfP_de (hT : ∀ j : Int, 0 ≤ T j ∧ T j < 256) (hn : 0 ≤ n ∧ n ≤ 1600) (h : wfP D cd) (h0 : (sDe T (tkK T n) (tkP T n) (tkZ T n) D j).1 = 0) : wfP (dDe T (tkP T n) (tkZ T n) D j) cd := by
  have hc := h.1.n
  have hne : ¬ D 1 2 = 8 := fun z => by unfold sDe at h0; rw [if_pos z] at h0; exact absurd (show (5 : Int) = 0 from h0) (by decide)
  unfold sDe at h0; rw [if_neg hne] at h0
  have g9 := cNu_0 h0
  have g8 := cWd_0 g9.1
  have g7 := cNu_0 g8.1
  have g6 := cWd_0 g7.1
  have g5 := cNu_0 g6.1
  have g4 := cWd_0 g5.1
  have g3 := cNp_0 g4.1
  have g2 := cWd_0 g3.1
  have g1 := cNp_0 g2.1
  have e4 : cVl T (tkK T n) (tkP T n) (tkZ T n) D (cWd (tkK T n) (tkP T n) 309 (cNp (tkK T n) (tkP T n) (tkZ T n) (cdu T (tkP T n) (tkZ T n) D (j + 1)) (0, 0, j + 1))) = (0, 0, j + 4) := by
    show cNp _ _ _ _ _ = _
    rw [g3.2.2.2.2, g2.2.2, g1.2.2.2.2]
  rw [g8.2.2, g7.2.2.2.2, g6.2.2, g5.2.2.2.2, g4.2.2, e4] at g9
  rw [g6.2.2, g5.2.2.2.2, g4.2.2, e4] at g7
  rw [g4.2.2, e4] at g5
  rw [g2.2.2, g1.2.2.2.2] at g3
  have h9 : 0 ≤ tkZ T n (j + 9) ∧ tkZ T n (j + 9) ≤ 99 := g9.2.2.2.1
  have h7 : 0 ≤ tkZ T n (j + 7) ∧ tkZ T n (j + 7) ≤ 99 := g7.2.2.2.1
  have h5 : 1 ≤ tkZ T n (j + 5) ∧ tkZ T n (j + 5) ≤ 999 := g5.2.2.2.1
  have h3 : ¬ vix T (tkP T n) (tkZ T n) D (j + 3) = -1 := g3.2.2.2.1
  have hv := nxI_in (N := nmR D 1) (x := nmc (nmJ T (tkP T n) (tkZ T n) (j + 3)) 6) (D 1 1).toNat 0 (by decide) h3
  have hv2 : 0 ≤ vix T (tkP T n) (tkZ T n) D (j + 3) ∧ vix T (tkP T n) (tkZ T n) D (j + 3) < D 1 1 := by unfold vix; omega
  have hl := tkK_lt hT hn g1.2.1
  have hnw : wfN (nmJ T (tkP T n) (tkZ T n) (j + 1)) := nmL_wf ⟨hl.1, by have : ¬ 6 < tkZ T n (j + 1) := g1.2.2.1; omega⟩ hl.2.1
  refine ⟨⟨?_, ?_, fun i a b => ?_, fun i a b => ?_, fun i a b => ?_, h.1.2.2.2.2.2⟩, ?_, ?_⟩
  · simp only [dDe, dU, dL]; simp; omega
  · have := h.1.h; simpa [dDe, dU, dL] using this
  · have b : i < D 1 0 := by simpa [dDe, dU, dL] using b
    have := h.1.br a b; simpa [dDe, dU, dL] using this
  · have b : i < D 1 1 := by simpa [dDe, dU, dL] using b
    have := h.1.2.2.2.1 i a b; simpa [dDe, dU, dL] using this
  · have b : i < D 1 2 + 1 := by simpa [dDe, dU, dL] using b
    by_cases hi : i = D 1 2
    · subst hi; simpa [dDe, dU, dL] using And.intro hv2 ⟨h5, h7, h9⟩
    · have := h.1.de a (by omega); simpa [dDe, dU, dL, hi] using this
  · refine wfN_dL (k := 2) (by decide) rfl ⟨hc.1, hc.2.1, hc.2.2.1⟩ (by show D 1 2 < 8; omega) h.2.1 hnw (fun i => ?_) (fun p hp => ?_)
    · rw [show rowB ((2 : Nat) : Int) + D 1 ((2 : Nat) : Int) = 12 + D 1 2 by rw [rowB_n.2.2]; rfl]; simp [dDe, dU]
    · rcases (show p = 0 ∨ p = 1 ∨ p = 2 by omega) with rfl | rfl | rfl <;> simp [dDe, dU, dL]
  · simpa [dDe, dU, dL] using h.2.2
theorem wfP_cd {r : Nat} {l : List Int} (h : wfP D cd) (ht : tyC l [] [decide (r = 2)]) (ho : ∀ m ∈ l, okR r m) : wfP D (fun q => if q = r then some l else cd q) := by
  refine ⟨⟨h.1.1, h.1.2.1, h.1.2.2.1, h.1.2.2.2.1, h.1.2.2.2.2.1, fun q hq l2 hl => ?_⟩, h.2⟩
  by_cases e : q = r
  · have hl : (if q = r then some l else cd q) = some l2 := hl
    rw [if_pos e] at hl
    cases hl; subst e; exact ⟨ht, ho⟩
  · have hl : (if q = r then some l else cd q) = some l2 := hl
    rw [if_neg e] at hl; exact h.1.c hq hl
theorem okM_R {r : Nat} {rl m : Int} (hr : rl = r) (hr3 : r < 3) (h : okM rl m) : okR r m := by
  unfold okR
  rcases h with h | h | h | h | h | h | h
  · unfold isAri at h; omega
  · unfold isCmp at h; omega
  · unfold isLog at h; omega
  · omega
  · omega
  · omega
  · by_cases hm : m < 1000
    · have := partB_iff.mp (h.2 hm); omega
    · omega
theorem rlR_q {K PL Z : Nat → Int} {r j : Nat} (hr : r < 3) : rlR K PL Z r j = rlQ K PL Z (if r = 1 then 1 else 0) (decide (r = 2)) (j + 1) := by
  rcases (show r = 0 ∨ r = 1 ∨ r = 2 by omega) with rfl | rfl | rfl
  · show _ = rlQ K PL Z 0 false (j + 1)
    rw [rlQ_f]; exact (if_neg (by decide)).trans rfl
  · show _ = rlQ K PL Z 1 false (j + 1)
    rw [rlQ_f]; exact (if_neg (by decide)).trans rfl
  · show _ = rlQ K PL Z 0 true (j + 1)
    rw [rlQ_t]; exact if_pos rfl
theorem rl_hr {r : Nat} (hr : r < 3) : (((r : Int) = 0 ∧ (if r = 1 then (1 : Int) else 0) = 0) ∨ ((r : Int) = 1 ∧ (if r = 1 then (1 : Int) else 0) = 1) ∨ ((r : Int) = 2 ∧ (if r = 1 then (1 : Int) else 0) = 0) ∨ ((r : Int) = 3 ∧ (if r = 1 then (1 : Int) else 0) = 2)) := by
  rcases (show r = 0 ∨ r = 1 ∨ r = 2 by omega) with rfl | rfl | rfl <;> decide
theorem tK_N {E : Nat} (hE : ∀ j : Nat, tkK T n j = 341 ↔ E ≤ j) : ∀ j : Int, 0 ≤ j → j < (E : Int) + 1 → (tK T n j = 341 ↔ j = (E : Int) + 1 - 1) := by
  intro j h0 h1
  show tkK T n j.toNat = 341 ↔ _
  rw [hE]; omega
theorem rlR_wf (hn : 0 ≤ n ∧ n ≤ 1600) {E r : Nat} (hE : ∀ j : Nat, tkK T n j = 341 ↔ E ≤ j) (hEn : (E : Int) ≤ n) (hr : r < 3) (hj : j < E) (h0 : (rlR (tkK T n) (tkP T n) (tkZ T n) r j).1 = 0) : (∀ c ∈ (rlR (tkK T n) (tkP T n) (tkZ T n) r j).2.2.2.1, cmap (ucm c) = c) ∧ tyC (lRl (tkK T n) (tkP T n) (tkZ T n) r j) [] [decide (r = 2)] ∧ ∀ m ∈ lRl (tkK T n) (tkP T n) (tkZ T n) r j, okR r m := by
  have hg : gS ((E : Int) + 1) (Rs.mk ((j : Int) + 1) 0 0 0 0 (fun _ => 0)) := by
    unfold gS; simp only [Rs.mka, Rs.mkop, Rs.mkf, Rs.mkln]; omega
  have h := rul (S := Rs.mk ((j : Int) + 1) 0 0 0 0 (fun _ => 0)) (j := j + 1) hn (rl_hr hr) (by omega) (tK_N hE) hg rfl rfl (by show (0 : Int) ≤ (j : Int) + 1; omega) (by show ((j + 1 : Nat) : Int) = (j : Int) + 1; omega) (decide (r = 2))
  unfold lRl
  rw [rlR_q hr] at h0 ⊢
  have hf : (rdQ (tK T n) (tPl T n) (tZ T n) r (decide (r = 2)) (Rs.mk ((j : Int) + 1) 0 0 0 0 (fun _ => 0))).f = 0 := by
    by_cases z : (rdQ (tK T n) (tPl T n) (tZ T n) r (decide (r = 2)) (Rs.mk ((j : Int) + 1) 0 0 0 0 (fun _ => 0))).f = 0
    · exact z
    · exact absurd ((h.1 z).1.symm.trans h0) z
  obtain ⟨_, _, l, g1, g2, g3, g4, _⟩ := h.2 hf
  refine ⟨g3, by rw [g2]; exact g4, fun m hm => ?_⟩
  rw [g2] at hm
  exact okM_R rfl hr (g1.2.2.2.2.1 m hm)
theorem wfP_set {q : Int} {v : Int} (h : wfP D cd) (hq : (q = 14 ∧ 0 ≤ v ∧ v ≤ 100) ∨ (q = 15 ∧ 0 ≤ v ∧ v ≤ 9999) ∨ (q = 16 ∧ 0 ≤ v ∧ v ≤ 100)) : wfP (dU D 0 q v) cd := by
  have hh := h.1.h
  have e : ∀ (a : Nat) (i : Int), ¬ a = 0 → dU D 0 q v a i = D a i := fun a i ha => dU_ne (fun z => ha z.1)
  have e0 : ∀ i : Int, ¬ i = q → dU D 0 q v 0 i = D 0 i := fun i hi => dU_ne (fun z => hi z.2)
  refine ⟨⟨?_, ⟨?_, ?_, ?_, ?_⟩, ?_, ?_, ?_, h.1.2.2.2.2.2⟩, ?_, ?_⟩
  · simpa only [e 1 _ (by decide)] using h.1.1
  · rw [e0 1 (by omega)]; exact hh.1
  · by_cases z : q = 14
    · subst z; rw [dU_eq]; omega
    · rw [e0 14 (fun y => z y.symm)]; exact hh.2.1
  · by_cases z : q = 15
    · subst z; rw [dU_eq]; omega
    · rw [e0 15 (fun y => z y.symm)]; exact hh.2.2.1
  · by_cases z : q = 16
    · subst z; rw [dU_eq]; omega
    · rw [e0 16 (fun y => z y.symm)]; exact hh.2.2.2
  · intro j a b
    rw [e 1 _ (by decide)] at b
    rw [e 3 _ (by decide), e 4 _ (by decide)]; exact h.1.br a b
  · intro j a b
    rw [e 1 _ (by decide)] at b
    rw [e 5 _ (by decide)]; exact h.1.2.2.2.1 j a b
  · intro j a b
    rw [e 1 _ (by decide)] at b
    rw [e 1 _ (by decide), e 6 _ (by decide), e 7 _ (by decide), e 8 _ (by decide), e 9 _ (by decide)]; exact h.1.de a b
  · intro k hk i a b
    rw [e 1 _ (by decide)] at b
    exact (h.2.1 k hk i a b).ext (fun p _ _ => e 2 _ (by decide))
  · rw [e0 0 (by omega), e0 1 (by omega), e0 2 (by omega), e0 3 (by omega)]; exact h.2.2
/-- a statement more -/
theorem stC_wf (hT : ∀ j : Int, 0 ≤ T j ∧ T j < 256) (hn : 0 ≤ n ∧ n ≤ 1600) {E : Nat} (hE : ∀ j : Nat, tkK T n j = 341 ↔ E ≤ j) (hEn : (E : Int) ≤ n) (h : wfP D cd) (hj : j < E) (h0 : (stC T (tkK T n) (tkP T n) (tkZ T n) D cd j).1.1 = 0) : wfP (stC T (tkK T n) (tkP T n) (tkZ T n) D cd j).2.1 (stC T (tkK T n) (tkP T n) (tkZ T n) D cd j).2.2 := by
  have hrl : ∀ r : Nat, r < 3 → (sRl (tkK T n) (tkP T n) (tkZ T n) cd r j).1 = 0 → wfP D (cRu (tkK T n) (tkP T n) (tkZ T n) cd r j) := by
    intro r hr hz
    unfold sRl at hz
    by_cases hc : cd r = none
    · rw [if_pos hc] at hz
      have h1 := rlR_wf hn hE hEn hr hj hz
      exact wfP_cd h h1.2.1 h1.2.2
    · rw [if_neg hc] at hz; exact absurd (show (5 : Int) = 0 from hz) (by decide)
  unfold stC at h0 ⊢
  by_cases a1 : tkK T n j = 304
  · rw [if_pos a1] at h0 ⊢; exact wfP_bk hT hn h h0
  rw [if_neg a1] at h0 ⊢
  by_cases a2 : tkK T n j = 306
  · rw [if_pos a2] at h0 ⊢; exact wfP_vi hT hn h h0
  rw [if_neg a2] at h0 ⊢
  by_cases a3 : tkK T n j = 308
  · rw [if_pos a3] at h0 ⊢; exact wfP_de hT hn h h0
  rw [if_neg a3] at h0 ⊢
  by_cases a4 : tkK T n j = 313
  · rw [if_pos a4] at h0 ⊢; exact hrl 0 (by decide) h0
  rw [if_neg a4] at h0 ⊢
  by_cases a5 : tkK T n j = 314
  · rw [if_pos a5] at h0 ⊢; exact hrl 1 (by decide) h0
  rw [if_neg a5] at h0 ⊢
  by_cases a6 : tkK T n j = 315
  · rw [if_pos a6] at h0 ⊢; exact hrl 2 (by decide) h0
  rw [if_neg a6] at h0 ⊢
  by_cases a7 : tkK T n j = 316
  · rw [if_pos a7] at h0 ⊢
    have g := (cNu_0 h0).2.2.2.1
    exact wfP_set h (Or.inl ⟨rfl, g⟩)
  rw [if_neg a7] at h0 ⊢
  by_cases a8 : tkK T n j = 317
  · rw [if_pos a8] at h0 ⊢
    have g := (cNu_0 h0).2.2.2.1
    exact wfP_set h (Or.inr (Or.inl ⟨rfl, g⟩))
  rw [if_neg a8] at h0 ⊢
  by_cases a9 : tkK T n j = 318
  · rw [if_pos a9] at h0 ⊢
    have g := (cNu_0 h0).2.2.2.1
    exact wfP_set h (Or.inr (Or.inr ⟨rfl, g⟩))
  rw [if_neg a9] at h0
  exact absurd (show (1 : Int) = 0 from h0) (by decide)
theorem stS_wf (hT : ∀ j : Int, 0 ≤ T j ∧ T j < 256) (hn : 0 ≤ n ∧ n ≤ 1600) {E : Nat} {cnt : Int} (hE : ∀ j : Nat, tkK T n j = 341 ↔ E ≤ j) (hEn : (E : Int) ≤ n) (h : wfP D cd) (hj : j < E) (h0 : (stS T (tkK T n) (tkP T n) (tkZ T n) D cd cnt j).1.1 = 0) : wfP (stS T (tkK T n) (tkP T n) (tkZ T n) D cd cnt j).2.1 (stS T (tkK T n) (tkP T n) (tkZ T n) D cd cnt j).2.2 := by
  unfold stS at h0 ⊢
  by_cases a : cnt = 70
  · rw [if_pos a] at h0; exact absurd (show (5 : Int) = 0 from h0) (by decide)
  · rw [if_neg a] at h0 ⊢
    exact stC_wf hT hn hE hEn h hj (cWd_0 h0).1
theorem rlR_E {E r : Nat} (hE : ∀ j : Nat, tkK T n j = 341 ↔ E ≤ j) (hn : 0 ≤ n ∧ n ≤ 1600) (hEn : (E : Int) ≤ n) (hr : r < 3) (hj : j < E) (h0 : (rlR (tkK T n) (tkP T n) (tkZ T n) r j).1 = 0) : (rlR (tkK T n) (tkP T n) (tkZ T n) r j).2.2.1 ≤ E := by
  have hg : gS ((E : Int) + 1) (Rs.mk ((j : Int) + 1) 0 0 0 0 (fun _ => 0)) := by
    unfold gS; simp only [Rs.mka, Rs.mkop, Rs.mkf, Rs.mkln]; omega
  have h := rul (S := Rs.mk ((j : Int) + 1) 0 0 0 0 (fun _ => 0)) (j := j + 1) hn (rl_hr hr) (by omega) (tK_N hE) hg rfl rfl (by show (0 : Int) ≤ (j : Int) + 1; omega) (by show ((j + 1 : Nat) : Int) = (j : Int) + 1; omega) (decide (r = 2))
  rw [rlR_q hr] at h0 ⊢
  have hf : (rdQ (tK T n) (tPl T n) (tZ T n) r (decide (r = 2)) (Rs.mk ((j : Int) + 1) 0 0 0 0 (fun _ => 0))).f = 0 := by
    by_cases z : (rdQ (tK T n) (tPl T n) (tZ T n) r (decide (r = 2)) (Rs.mk ((j : Int) + 1) 0 0 0 0 (fun _ => 0))).f = 0
    · exact z
    · exact absurd ((h.1 z).1.symm.trans h0) z
  have h2 := (h.2 hf).2.1
  have h3 : (rdQ (tK T n) (tPl T n) (tZ T n) r (decide (r = 2)) (Rs.mk ((j : Int) + 1) 0 0 0 0 (fun _ => 0))).a < (E : Int) + 1 := by
    cases decide (r = 2)
    · rw [rdQ_f]; exact (rSum_g (by omega) (tK_N hE) hg).1.1.2
    · rw [rdQ_t]; exact (rTest_g (by omega) (tK_N hE) hg).1.1.2
  omega
theorem stS_E {E : Nat} {cnt : Int} (hE : ∀ j : Nat, tkK T n j = 341 ↔ E ≤ j) (hn : 0 ≤ n ∧ n ≤ 1600) (hEn : (E : Int) ≤ n) (hj : j < E) : cE E (stS T (tkK T n) (tkP T n) (tkZ T n) D cd cnt j).1 := by
  have h5 : ∀ p : Int, cE E (5, p, j) := fun p z => absurd (show (5 : Int) = 0 from z) (by decide)
  have hr : ∀ r : Nat, r < 3 → cE E (sRl (tkK T n) (tkP T n) (tkZ T n) cd r j) := by
    intro r hr
    unfold sRl
    split
    · intro z; exact rlR_E hE hn hEn hr hj z
    · exact h5 _
  have h0 : cE E (0, 0, j + 1) := fun _ => hj
  unfold stS
  split
  · exact h5 _
  · refine cE.wd hE ?_ (by decide)
    unfold stC
    split
    · show cE E (sBk _ _ _ _ _ _)
      unfold sBk; split
      · exact h5 _
      · exact (((h0.nm hE).wd hE (by decide)).nu hE |>.wd hE (by decide)).nu hE
    split
    · show cE E (sVi _ _ _ _ _ _)
      unfold sVi; split
      · exact h5 _
      · exact ((h0.nm hE).wd hE (by decide)).nu hE
    split
    · show cE E (sDe _ _ _ _ _ _)
      unfold sDe; split
      · exact h5 _
      · exact ((((((((h0.nm hE).wd hE (by decide)).nm hE).wd hE (by decide)).nu hE).wd hE (by decide)).nu hE).wd hE (by decide)).nu hE
    split
    · exact hr 0 (by decide)
    split
    · exact hr 1 (by decide)
    split
    · exact hr 2 (by decide)
    split
    · exact h0.nu hE
    split
    · exact h0.nu hE
    split
    · exact h0.nu hE
    · intro z; exact absurd (show (1 : Int) = 0 from z) (by decide)
end WFP
