/-! the reference: what is being told (p9j.py) -/
/-- what may differ while the reference reads a shore -/
abbrev PRd : Nat → Nat → Prop := fun q k => (q = 157 ∧ (k = 54 ∨ k = 57 ∨ k = 98 ∨ k = 100 ∨ k = 101 ∨ k = 102)) ∨ ((q = 192 ∨ q = 194 ∨ q = 198 ∨ q = 199 ∨ q = 200) ∧ k < 3) ∨ (q = 195 ∧ k < 12) ∨ (q = 196 ∧ k < 6) ∨ (q = 197 ∧ k < 32) ∨ (q = 201 ∧ k < 1600) ∨ q = 232 ∨ q = 233
abbrev PRl : Nat → Nat → Prop := fun q k => q = 193 ∧ k < 24
theorem oB.rd {I0 I : aFI} {T : Int → Int} {n : Int} (h : oB I0 T n) (hF : frG PRd I0 I) : oB I T n := ⟨(hF 157 3 (by decide)).trans h.1, fun j h1 h2 => (hF 158 _ (by omega)).trans (h.2.1 j h1 h2), h.2.2⟩
theorem oW.rd {I0 I : aFI} (h : oW I0) (hF : frG PRd I0 I) : oW I := fun q hq j h1 h2 => (hF q _ (by unfold isWd at hq; omega)).trans (h q hq j h1 h2)
def rc1 (I : aFI) : Int → List Int → Prop
  | _, [] => True
  | f, m :: r => I 201 f.toNat = iI (cmap m) ∧ rc1 I (f + 1) r
theorem rc1.fr {I I2 : aFI} : ∀ {l : List Int} {f : Int}, 0 ≤ f → rc1 I f l → (∀ k : Nat, (k : Int) < f + l.length → I2 201 k = I 201 k) → rc1 I2 f l
  | [], _, _, _, _ => trivial
  | m :: r, f, h0, h, hf => by
    have hl : ((m :: r).length : Int) = r.length + 1 := by simp
    exact ⟨(hf _ (by omega)).trans h.1, rc1.fr (by omega) h.2 (fun k hk => hf k (by omega))⟩
def rCd (I : aFI) (cd : Nat → Option (List Int)) (m : Int) : Prop := I 157 54 = iI m ∧ 0 ≤ m ∧ ∀ r : Nat, r < 3 → (cd r = none ∧ I 199 r = iI (-1)) ∨ ∃ (l : List Int) (f : Int), cd r = some l ∧ (0 ≤ f ∧ f + l.length ≤ m) ∧ I 199 r = iI f ∧ I 200 r = iI (f + l.length) ∧ rc1 I f l
def rL (I : aFI) (D : Nat → Int → Int) : Prop := (I 194 0 = iI (D 0 2) ∧ I 194 1 = iI (D 0 3) ∧ I 194 2 = iI (D 0 1)) ∧ (I 198 0 = iI (D 0 14) ∧ I 198 1 = iI (D 0 15) ∧ I 198 2 = iI (D 0 16)) ∧ (∀ j : Int, 0 ≤ j → j < D 1 0 → I 195 (2 * j).toNat = iI (D 3 j) ∧ I 195 (2 * j + 1).toNat = iI (D 4 j)) ∧ (∀ j : Int, 0 ≤ j → j < D 1 1 → I 196 j.toNat = iI (D 5 j)) ∧ (∀ j : Int, 0 ≤ j → j < D 1 2 → I 197 (4 * j).toNat = iI (D 6 j) ∧ I 197 (4 * j + 1).toNat = iI (D 7 j) ∧ I 197 (4 * j + 2).toNat = iI (D 8 j) ∧ I 197 (4 * j + 3).toNat = iI (D 9 j))
def rB (I : aFI) (L : aFL) (D : Nat → Int → Int) (cd : Nat → Option (List Int)) (m : Int) : Prop := tN I L (fun k => D 1 k) (nmR D) ∧ rL I D ∧ rCd I cd m
theorem rCd.fr {I I2 : aFI} {cd : Nat → Option (List Int)} {m : Int} (h : rCd I cd m) (h0 : I2 157 54 = I 157 54) (h1 : ∀ q k : Nat, 199 ≤ q → q ≤ 201 → I2 q k = I q k) : rCd I2 cd m := by
  refine ⟨h0.trans h.1, h.2.1, fun r hr => ?_⟩
  rcases h.2.2 r hr with ⟨a, b⟩ | ⟨l, f, a, b, c, e, g⟩
  · exact Or.inl ⟨a, (h1 199 r (by omega) (by omega)).trans b⟩
  · exact Or.inr ⟨l, f, a, b, (h1 199 r (by omega) (by omega)).trans c, (h1 200 r (by omega) (by omega)).trans e, g.fr b.1 (fun k _ => h1 201 k (by omega) (by omega))⟩
theorem tN.cast {I : aFI} {L : aFL} {c c2 : Nat → Int} {N N2 : Nat → Int → Int} (h : tN I L c N) (h1 : ∀ p : Nat, p < 3 → c2 p = c p) (h2 : ∀ p : Nat, p < 3 → ∀ i : Int, 0 ≤ i → i < c p → N2 p i = N p i) : tN I L c2 N2 := by
  intro p hp
  have h3 := h p hp
  rw [h1 p hp]
  refine ⟨h3.1, h3.2.1, fun i a b => ?_⟩
  rw [h2 p hp i a b]; exact h3.2.2 i a b
theorem tN.fr {I I2 : aFI} {L L2 : aFL} {c : Nat → Int} {N : Nat → Int → Int} (h : tN I L c N) (h1 : ∀ k : Nat, k < 3 → I2 192 k = I 192 k) (h2 : ∀ k : Nat, L2 193 k = L 193 k) : tN I2 L2 c N := fun p hp => ⟨(h1 p hp).trans (h p hp).1, (h p hp).2.1, fun i a b => ⟨(h2 _).trans ((h p hp).2.2 i a b).1, ((h p hp).2.2 i a b).2⟩⟩
theorem nmR_dL {D D2 : Nat → Int → Int} {r i : Int} {k : Nat} {NM : Int → Int} (h : ∀ i : Int, D2 2 i = dL D r NM 2 i) : (rowB k + i = r → nmR D2 k i = nmc NM 6) ∧ (¬ rowB k + i = r → nmR D2 k i = nmR D k i) := by
  constructor
  · intro e
    refine nmc_same 6 (fun j h1 h2 => ?_)
    show D2 2 ((rowB k + i) * 6 + j) = NM j
    rw [h, e]; exact dL_in ⟨h1, h2⟩
  · intro e
    refine nmc_same 6 (fun j h1 h2 => ?_)
    show D2 2 ((rowB k + i) * 6 + j) = D 2 ((rowB k + i) * 6 + j)
    rw [h]; exact dL_ne (by omega)
theorem rowB_n : rowB ((0 : Nat) : Int) = 0 ∧ rowB ((1 : Nat) : Int) = 6 ∧ rowB ((2 : Nat) : Int) = 12 := ⟨rfl, rfl, rfl⟩
/-- a name more of sort k -/
theorem tN.dn {I : aFI} {L : aFL} {D D2 : Nat → Int → Int} {k : Nat} {w x : Int} {NM : Int → Int} (hk : k < 3) (hw : w = D 1 k) (h : tN I L (fun p => if p = k then (fun p : Nat => D 1 p) k + 1 else (fun p : Nat => D 1 p) p) (fun p i => if p = k ∧ i = (fun p : Nat => D 1 p) k then x else nmR D p i)) (hx : x = nmc NM 6) (hb : (0 ≤ w ∧ D 1 0 ≤ 6 ∧ D 1 1 ≤ 6) ∧ w < (if k = 2 then 8 else 6)) (h2 : ∀ i : Int, D2 2 i = dL D (rowB k + w) NM 2 i) (h1 : ∀ p : Nat, p < 3 → D2 1 p = if p = k then w + 1 else D 1 p) : tN I L (fun p => D2 1 p) (nmR D2) := by
  have hr := rowB_n
  refine h.cast (fun p hp => ?_) (fun p hp i a b => ?_)
  · show D2 1 p = if p = k then D 1 k + 1 else D 1 p
    rw [h1 p hp, hw]
  · have hn := nmR_dL (k := p) (i := i) h2
    show _ = if p = k ∧ i = D 1 k then x else nmR D p i
    by_cases e : p = k ∧ i = D 1 k
    · rw [if_pos e, hx]
      exact hn.1 (by rw [e.1, hw, e.2])
    · rw [if_neg e]
      refine hn.2 (fun z => e ?_)
      have b2 : i < if p = k then D 1 k + 1 else D 1 p := b
      rcases (show p = 0 ∨ p = 1 ∨ p = 2 by omega) with rfl | rfl | rfl <;> rcases (show k = 0 ∨ k = 1 ∨ k = 2 by omega) with rfl | rfl | rfl
      all_goals (simp only [hr.1, hr.2.1, hr.2.2] at z)
      all_goals first
        | (refine ⟨rfl, ?_⟩; omega)
        | (exfalso; simp at b2 hb; omega)
section RB
variable {I I2 I3 : aFI} {L L2 : aFL} {T : Int → Int} {PL Z : Nat → Int} {D : Nat → Int → Int} {cd : Nat → Option (List Int)} {m x : Int} {j : Nat}
theorem fr192 {k : Nat} (hF : frG (fun q p => q = 192 ∧ p = k) I I2) {q p : Nat} (h : ¬ q = 192) : I2 q p = I q p := hF q p (fun z => h z.1)
theorem rB.bk (h : rB I L D cd m) (hN : tN I2 L2 (fun p => if p = 0 then (fun p : Nat => D 1 p) 0 + 1 else (fun p : Nat => D 1 p) p) (fun p i => if p = 0 ∧ i = (fun p : Nat => D 1 p) 0 then x else nmR D p i)) (hF : frG (fun q p => q = 192 ∧ p = 0) I I2) (hx : x = nmc (nmJ T PL Z (j + 1)) 6) (hb : (0 ≤ D 1 0 ∧ D 1 0 ≤ 6 ∧ D 1 1 ≤ 6) ∧ D 1 0 < 6) (h3 : I3 = aUp (aUp I2 195 (2 * D 1 0).toNat (iI (Z (j + 3)))) 195 (2 * D 1 0 + 1).toNat (iI (Z (j + 5)))) : rB I3 L2 (dBk T PL Z D j) cd m := by
  have e192 : ∀ q k : Nat, ¬ q = 195 → I3 q k = I2 q k := fun q k hq => by rw [h3]; exact (up_ne (by omega)).trans (up_ne (by omega))
  refine ⟨?_, ?_, ?_⟩
  · refine tN.dn (k := 0) (w := D 1 0) (by decide) rfl (hN.fr (fun k _ => e192 192 k (by decide)) (fun _ => rfl)) hx ⟨hb.1, hb.2⟩ (fun i => ?_) (fun p hp => ?_)
    · rw [show rowB ((0 : Nat) : Int) + D 1 0 = D 1 0 by rw [rowB_n.1]; omega]; simp [dBk, dU]
    · rcases (show p = 0 ∨ p = 1 ∨ p = 2 by omega) with rfl | rfl | rfl <;> simp [dBk, dU, dL]
  · have hl := h.2.1
    have e0 : ∀ q k : Nat, ¬ q = 195 → ¬ q = 192 → I3 q k = I q k := fun q k h1 h2 => (e192 q k h1).trans (fr192 hF h2)
    refine ⟨by rw [e0 194 0 (by decide) (by decide), e0 194 1 (by decide) (by decide), e0 194 2 (by decide) (by decide)]; simpa [dBk, dU, dL] using hl.1, by rw [e0 198 0 (by decide) (by decide), e0 198 1 (by decide) (by decide), e0 198 2 (by decide) (by decide)]; simpa [dBk, dU, dL] using hl.2.1, fun i a b => ?_, fun i a b => ?_, fun i a b => ?_⟩
    · have b : i < D 1 0 + 1 := by simpa [dBk, dU, dL] using b
      by_cases hi : i = D 1 0
      · subst hi
        rw [h3]
        exact ⟨(up_ne (by omega)).trans (up_eq.trans (by simp [dBk, dU, dL])), up_eq.trans (by simp [dBk, dU, dL])⟩
      · have h4 := hl.2.2.1 i a (by omega)
        rw [h3, up_ne (by omega), up_ne (by omega), up_ne (by omega), up_ne (by omega), fr192 hF (by decide), fr192 hF (by decide)]
        simpa [dBk, dU, dL, hi] using h4
    · have b : i < D 1 1 := by simpa [dBk, dU, dL] using b
      rw [e0 196 _ (by decide) (by decide)]
      simpa [dBk, dU, dL] using hl.2.2.2.1 i a b
    · have b : i < D 1 2 := by simpa [dBk, dU, dL] using b
      rw [e0 197 _ (by decide) (by decide), e0 197 _ (by decide) (by decide), e0 197 _ (by decide) (by decide), e0 197 _ (by decide) (by decide)]
      simpa [dBk, dU, dL] using hl.2.2.2.2 i a b
  · exact h.2.2.fr ((e192 157 54 (by decide)).trans (fr192 hF (by decide))) (fun q k z1 z2 => (e192 q k (by omega)).trans (fr192 hF (by omega)))
theorem rB.vi (h : rB I L D cd m) (hN : tN I2 L2 (fun p => if p = 1 then (fun p : Nat => D 1 p) 1 + 1 else (fun p : Nat => D 1 p) p) (fun p i => if p = 1 ∧ i = (fun p : Nat => D 1 p) 1 then x else nmR D p i)) (hF : frG (fun q p => q = 192 ∧ p = 1) I I2) (hx : x = nmc (nmJ T PL Z (j + 1)) 6) (hb : (0 ≤ D 1 1 ∧ D 1 0 ≤ 6 ∧ D 1 1 ≤ 6) ∧ D 1 1 < 6) (h3 : I3 = aUp I2 196 (D 1 1).toNat (iI (Z (j + 3)))) : rB I3 L2 (dVi T PL Z D j) cd m := by
  have e192 : ∀ q k : Nat, ¬ q = 196 → I3 q k = I2 q k := fun q k hq => by rw [h3]; exact up_ne (by omega)
  refine ⟨?_, ?_, ?_⟩
  · refine tN.dn (k := 1) (w := D 1 1) (by decide) rfl (hN.fr (fun k _ => e192 192 k (by decide)) (fun _ => rfl)) hx ⟨hb.1, hb.2⟩ (fun i => ?_) (fun p hp => ?_)
    · rw [show rowB ((1 : Nat) : Int) + D 1 1 = 6 + D 1 1 by rw [rowB_n.2.1]]; simp [dVi, dU]
    · rcases (show p = 0 ∨ p = 1 ∨ p = 2 by omega) with rfl | rfl | rfl <;> simp [dVi, dU, dL]
  · have hl := h.2.1
    have e0 : ∀ q k : Nat, ¬ q = 196 → ¬ q = 192 → I3 q k = I q k := fun q k h1 h2 => (e192 q k h1).trans (fr192 hF h2)
    refine ⟨by rw [e0 194 0 (by decide) (by decide), e0 194 1 (by decide) (by decide), e0 194 2 (by decide) (by decide)]; simpa [dVi, dU, dL] using hl.1, by rw [e0 198 0 (by decide) (by decide), e0 198 1 (by decide) (by decide), e0 198 2 (by decide) (by decide)]; simpa [dVi, dU, dL] using hl.2.1, fun i a b => ?_, fun i a b => ?_, fun i a b => ?_⟩
    · have b : i < D 1 0 := by simpa [dVi, dU, dL] using b
      rw [e0 195 _ (by decide) (by decide), e0 195 _ (by decide) (by decide)]
      simpa [dVi, dU, dL] using hl.2.2.1 i a b
    · have b : i < D 1 1 + 1 := by simpa [dVi, dU, dL] using b
      by_cases hi : i = D 1 1
      · subst hi
        rw [h3]
        exact up_eq.trans (by simp [dVi, dU, dL])
      · have h4 := hl.2.2.2.1 i a (by omega)
        rw [h3, up_ne (by omega), fr192 hF (by decide)]
        simpa [dVi, dU, dL, hi] using h4
    · have b : i < D 1 2 := by simpa [dVi, dU, dL] using b
      rw [e0 197 _ (by decide) (by decide), e0 197 _ (by decide) (by decide), e0 197 _ (by decide) (by decide), e0 197 _ (by decide) (by decide)]
      simpa [dVi, dU, dL] using hl.2.2.2.2 i a b
  · exact h.2.2.fr ((e192 157 54 (by decide)).trans (fr192 hF (by decide))) (fun q k z1 z2 => (e192 q k (by omega)).trans (fr192 hF (by omega)))
theorem rB.de (h : rB I L D cd m) (hN : tN I2 L2 (fun p => if p = 2 then (fun p : Nat => D 1 p) 2 + 1 else (fun p : Nat => D 1 p) p) (fun p i => if p = 2 ∧ i = (fun p : Nat => D 1 p) 2 then x else nmR D p i)) (hF : frG (fun q p => q = 192 ∧ p = 2) I I2) (hx : x = nmc (nmJ T PL Z (j + 1)) 6) (hb : (0 ≤ D 1 2 ∧ D 1 0 ≤ 6 ∧ D 1 1 ≤ 6) ∧ D 1 2 < 8) (h3 : I3 = aUp (aUp (aUp (aUp I2 197 (4 * D 1 2).toNat (iI (vix T PL Z D (j + 3)))) 197 (4 * D 1 2 + 1).toNat (iI (Z (j + 5)))) 197 (4 * D 1 2 + 2).toNat (iI (Z (j + 7)))) 197 (4 * D 1 2 + 3).toNat (iI (Z (j + 9)))) : rB I3 L2 (dDe T PL Z D j) cd m := by
  have e192 : ∀ q k : Nat, ¬ q = 197 → I3 q k = I2 q k := fun q k hq => by rw [h3]; exact (up_ne (by omega)).trans ((up_ne (by omega)).trans ((up_ne (by omega)).trans (up_ne (by omega))))
  refine ⟨?_, ?_, ?_⟩
  · refine tN.dn (k := 2) (w := D 1 2) (by decide) rfl (hN.fr (fun k _ => e192 192 k (by decide)) (fun _ => rfl)) hx ⟨hb.1, hb.2⟩ (fun i => ?_) (fun p hp => ?_)
    · rw [show rowB ((2 : Nat) : Int) + D 1 2 = 12 + D 1 2 by rw [rowB_n.2.2]]; simp [dDe, dU]
    · rcases (show p = 0 ∨ p = 1 ∨ p = 2 by omega) with rfl | rfl | rfl <;> simp [dDe, dU, dL]
  · have hl := h.2.1
    have e0 : ∀ q k : Nat, ¬ q = 197 → ¬ q = 192 → I3 q k = I q k := fun q k h1 h2 => (e192 q k h1).trans (fr192 hF h2)
    refine ⟨by rw [e0 194 0 (by decide) (by decide), e0 194 1 (by decide) (by decide), e0 194 2 (by decide) (by decide)]; simpa [dDe, dU, dL] using hl.1, by rw [e0 198 0 (by decide) (by decide), e0 198 1 (by decide) (by decide), e0 198 2 (by decide) (by decide)]; simpa [dDe, dU, dL] using hl.2.1, fun i a b => ?_, fun i a b => ?_, fun i a b => ?_⟩
    · have b : i < D 1 0 := by simpa [dDe, dU, dL] using b
      rw [e0 195 _ (by decide) (by decide), e0 195 _ (by decide) (by decide)]
      simpa [dDe, dU, dL] using hl.2.2.1 i a b
    · have b : i < D 1 1 := by simpa [dDe, dU, dL] using b
      rw [e0 196 _ (by decide) (by decide)]
      simpa [dDe, dU, dL] using hl.2.2.2.1 i a b
    · have b : i < D 1 2 + 1 := by simpa [dDe, dU, dL] using b
      by_cases hi : i = D 1 2
      · subst hi
        rw [h3]
        exact ⟨(up_ne (by omega)).trans ((up_ne (by omega)).trans ((up_ne (by omega)).trans (up_eq.trans (by simp [dDe, dU, dL])))), (up_ne (by omega)).trans ((up_ne (by omega)).trans (up_eq.trans (by simp [dDe, dU, dL]))), (up_ne (by omega)).trans (up_eq.trans (by simp [dDe, dU, dL])), up_eq.trans (by simp [dDe, dU, dL])⟩
      · have h4 := hl.2.2.2.2 i a (by omega)
        rw [h3]
        refine ⟨?_, ?_, ?_, ?_⟩ <;> rw [up_ne (by omega), up_ne (by omega), up_ne (by omega), up_ne (by omega), fr192 hF (by decide)]
        · simpa [dDe, dU, dL, hi] using h4.1
        · simpa [dDe, dU, dL, hi] using h4.2.1
        · simpa [dDe, dU, dL, hi] using h4.2.2.1
        · simpa [dDe, dU, dL, hi] using h4.2.2.2
  · exact h.2.2.fr ((e192 157 54 (by decide)).trans (fr192 hF (by decide))) (fun q k z1 z2 => (e192 q k (by omega)).trans (fr192 hF (by omega)))
end RB
theorem tkK_lt {T : Int → Int} {n : Int} {j : Nat} (hT : ∀ j : Int, 0 ≤ T j ∧ T j < 256) (hn : 0 ≤ n ∧ n ≤ 1600) (h : 332 ≤ tkK T n j ∧ tkK T n j ≤ 338) : 1 ≤ tkZ T n j ∧ (∀ i : Int, 0 ≤ i → i < tkZ T n j → 97 ≤ T (tkP T n j + i) ∧ T (tkP T n j + i) ≤ 122) ∧ tkP T n j + tkZ T n j ≤ n := by
  have hnm := tkK_name hT hn (T := T) (n := n) (j := j)
  have hpr := tkP_rg (T := T) (n := n) (j := j) hn.1
  have hdl : wend T n (tkP T n j) ≤ n := scan_le hpr.2
  have h1 := hnm.mp h
  unfold nmAt at h1
  rw [Bool.and_eq_true] at h1
  have h2 := of_decide_eq_true h1.1
  have hl : isLe T (tkP T n j) = true := isLe_iff.mpr h2.2.1
  have h3 : wend T n (tkP T n j) = wend T n (tkP T n j + 1) := wend_step ⟨h2.1, h2.2.1⟩
  have h4 : tkP T n j + 1 ≤ wend T n (tkP T n j + 1) := scan_ge
  have hz : tkZ T n j = wend T n (tkP T n j) - tkP T n j := by unfold tkZ; rw [if_neg (by omega), if_pos hl]
  rw [hz]
  refine ⟨by omega, fun i a b => ?_, by omega⟩
  exact isLe_iff.mp (scan_all (p := isLe T) (e := n) (a := tkP T n j) (by omega) (show tkP T n j + i < wend T n (tkP T n j) by omega))
section CU2
variable {d : Nat} {I : aFI} {L : aFL} {Q : aPo} {T : Int → Int} {n : Int} {sh : Nat} {su : Option Nat} {C : Cu} {a en b bp np nm : Int}
theorem tu_newName (hB : oB I T n) (hO : oW I) {c : Nat → Int} {N : Nat → Int → Int} (hN : tN I L c N) (hd : 5 ≤ d) {j : Nat} (hA : rA T n j a) (hbp : bp = -1) (k : ∀ a2 en2 b2 bp2 nm2 v : Int, (0 ≤ v ∧ v < 1000000000) → cu T n (cNp (tkK T n) (tkP T n) (tkZ T n) (dupN c N (nmc (nmJ T (tkP T n) (tkZ T n) j) 6) 0) (0, 0, j)) a2 en2 b2 bp2 → ((cNp (tkK T n) (tkP T n) (tkZ T n) (dupN c N (nmc (nmJ T (tkP T n) (tkZ T n) j) 6) 0) (0, 0, j)).1 = 0 → v = nmc (nmJ T (tkP T n) (tkZ T n) j) 6) → Q (some (.long (lI v))) (oP I a2 en2 b2 bp2 np nm2) L (aR sh su)) : aWp none d 148 0 [.ref 157, .null, .null, .null] [] (oT I T n j a 0 bp np nm) L (aR sh su) Q := by
  have hn := hB.2.2.1
  refine t_newName hB hO hA hN hd (fun z1 => ?_) (fun z1 z2 a2 en2 h2 => ?_) (fun z1 z2 z3 a2 h2 => ?_) (fun z1 z2 z3 a2 h2 => ?_)
  · rw [cNp_1 rfl z1] at k; exact k _ _ _ _ _ 0 (by decide) (cu.bad (by decide) ⟨tkP_rg hn.1, en_rg hn⟩) (fun z => absurd (show (1 : Int) = 0 from z) (by decide))
  · rw [cNp_2 rfl z1 z2] at k; exact k _ _ _ _ _ 0 (by decide) (cu.bad (by decide) h2) (fun z => absurd (show (1 : Int) = 0 from z) (by decide))
  · have hl := tkK_lt hB.2.2.2 hn z1
    have e := nc_nm6 z2 hl.2.1
    have hr := nmc_rg (nmL_wf z2 hl.2.1)
    rw [e] at z3 ⊢
    rw [cNp_3 (K := tkK T n) (PL := tkP T n) (Z := tkZ T n) (C := (0, 0, j)) (du := dupN c N (nmc (nmJ T (tkP T n) (tkZ T n) j) 6) 0) rfl z1 (by show ¬ 6 < tkZ T n j; omega) z3] at k
    exact k _ _ _ _ _ _ ⟨by omega, hr.2⟩ (cu.bad (by decide) (rA_aF hn h2)) (fun z => absurd (show (3 : Int) = 0 from z) (by decide))
  · have hl := tkK_lt hB.2.2.2 hn z1
    have e := nc_nm6 z2 hl.2.1
    have hr := nmc_rg (nmL_wf z2 hl.2.1)
    rw [e] at z3 ⊢
    rw [cNp_4 (K := tkK T n) (PL := tkP T n) (Z := tkZ T n) (C := (0, 0, j)) (du := dupN c N (nmc (nmJ T (tkP T n) (tkZ T n) j) 6) 0) rfl z1 (by show ¬ 6 < tkZ T n j; omega) z3] at k
    exact k _ _ _ _ _ _ ⟨by omega, hr.2⟩ (cu.good h2 hbp) (fun _ => rfl)
theorem tu_name (hB : oB I T n) (hO : oW I) (hd : 4 ≤ d) (hC : cu T n C a en b bp) (k : ∀ a2 en2 b2 bp2 nm2 v : Int, (0 ≤ v ∧ v < 1000000000) → cu T n (cNp (tkK T n) (tkP T n) (tkZ T n) False C) a2 en2 b2 bp2 → ((cNp (tkK T n) (tkP T n) (tkZ T n) False C).1 = 0 → v = nmc (nmJ T (tkP T n) (tkZ T n) C.2.2) 6 ∧ nm2 = tkP T n C.2.2) → Q (some (.long (lI v))) (oP I a2 en2 b2 bp2 np nm2) L (aR sh su)) : aWp none d 144 0 [.ref 157, .null, .null] [] (oP I a en b bp np nm) L (aR sh su) Q := by
  have hn := hB.2.2.1
  rcases hC.cs with ⟨h1, rfl, h3, rfl, hbp⟩ | ⟨h1, h2, h3, h4, h5⟩
  · refine tt_name hB hO hd h3 (fun z1 => ?_) (fun z1 z2 a2 en2 h2 => ?_) (fun z1 z2 z3 a2 h2 => ?_)
    · rw [cNp_1 h1 z1] at k; exact k _ _ _ _ _ 0 (by decide) (cu.bad (by decide) ⟨tkP_rg hn.1, en_rg hn⟩) (fun z => absurd (show (1 : Int) = 0 from z) (by decide))
    · rw [cNp_2 h1 z1 z2] at k; exact k _ _ _ _ _ 0 (by decide) (cu.bad (by decide) h2) (fun z => absurd (show (1 : Int) = 0 from z) (by decide))
    · have hl := tkK_lt hB.2.2.2 hn z1
      have e := nc_nm6 z2 hl.2.1
      have hr := nmc_rg (nmL_wf z2 hl.2.1)
      rw [e]
      rw [cNp_4 h1 z1 (by omega) (fun z => z)] at k
      exact k _ _ _ _ _ _ ⟨by omega, hr.2⟩ (cu.good h2 hbp) (fun _ => ⟨rfl, rfl⟩)
  · rw [cNp_b h1] at k
    exact tf_name hB hO hd h2 h5 h3 (k _ _ _ _ _ 0 (by decide) hC (fun z => absurd z h1))
theorem tu_asks (hB : oB I T n) (hO : oW I) {q : Nat} (hq : isWd q) {m : Int} (hm : wcode q = m) (hd : 4 ≤ d) (hC : cu T n C a en b bp) (k : ∀ a2 en2 b2 bp2 : Int, cu T n (cWd (tkK T n) (tkP T n) m C) a2 en2 b2 bp2 → Q none (oP I a2 en2 b2 bp2 np nm) L (aR sh su)) : aWp none d 139 0 [.ref 157, .ref q] [] (oP I a en b bp np nm) L (aR sh su) Q := by
  subst hm; exact tu_asksW hB hO hq hd hC k
theorem cNp_du {K PL Z : Nat → Int} {du : Prop} {C : Cu} (h : ¬ (cNp K PL Z False C).1 = 0) : cNp K PL Z du C = cNp K PL Z False C := by
  by_cases h1 : C.1 = 0
  · by_cases h2 : 332 ≤ K C.2.2 ∧ K C.2.2 ≤ 338
    · by_cases h3 : 6 < Z C.2.2
      · rw [cNp_2 h1 h2 h3, cNp_2 h1 h2 h3]
      · rw [cNp_4 h1 h2 h3 (fun z => z)] at h; exact absurd rfl h
    · rw [cNp_1 h1 h2, cNp_1 h1 h2]
  · rw [cNp_b h1, cNp_b h1]
end CU2
theorem t_adds2 {d : Nat} {I : aFI} {L : aFL} {Q : aPo} {sh : Nat} {su : Option Nat} {a en b bp np nm w kz : Int} {c : Nat → Int} {N : Nat → Int → Int} {k : Nat} {x : Int} (hN : tN I L c N) (hk : k < 3) (hw : c k = w) (hkz : (k : Int) = kz) (hcm : w < 8) (hx : 0 ≤ x ∧ x < 1000000000) (kk : ∀ (I2 : aFI) (L2 : aFL), tN I2 L2 (fun p => if p = k then c k + 1 else c p) (fun p i => if p = k ∧ i = c k then x else N p i) → frG (fun q p => q = 192 ∧ p = k) I I2 → frG (fun q p => q = 193 ∧ p = (8 * kz + w).toNat) L L2 → Q (some (.int (iI w))) (oP I2 a en b bp np nm) L2 (aR sh su)) : aWp none d 149 0 [.ref 157, .int (iI kz), .long (lI x), .null] [] (oP I a en b bp np nm) L (aR sh su) Q := by
  subst hw; subst hkz
  exact t_adds hN hk hcm hx kk
theorem t_nameOf2 {d : Nat} {I : aFI} {L : aFL} {Q : aPo} {sh : Nat} {su : Option Nat} {c : Nat → Int} {N : Nat → Int → Int} {k : Nat} {x w kz : Int} (hN : tN I L c N) (hk : k < 3) (hw : c k = w) (hkz : (k : Int) = kz) (hx : 0 ≤ x ∧ x < 1000000000) (kk : Q (some (.int (iI (nxI (N k) x 0 w.toNat)))) I L (aR sh su)) : aWp none d 147 0 [.ref 157, .int (iI kz), .long (lI x), .null, .null] [] I L (aR sh su) Q := by
  subst hw; subst hkz
  exact t_nameOf hN hk hx kk
theorem wk_own {q : Nat} {m : Int} (h : 160 ≤ q ∧ q ≤ 191) (e : m = 140 + (q : Int)) : wcode q = m := (wcode_own h).trans e.symm
set_option maxHeartbeats 1000000 in
theorem t_brookTold {d : Nat} {I : aFI} {L : aFL} {Q : aPo} {T : Int → Int} {n : Int} {sh : Nat} {su : Option Nat} {j : Nat} {a bp np nm : Int} {D : Nat → Int → Int} {cd : Nat → Option (List Int)} {m : Int} (hB : oB I T n) (hO : oW I) (hA : rA T n (j + 1) a) (hbp : bp = -1) (hR : rB I L D cd m) (hD : (0 ≤ D 1 0 ∧ D 1 0 ≤ 6) ∧ (0 ≤ D 1 1 ∧ D 1 1 ≤ 6) ∧ (0 ≤ D 1 2 ∧ D 1 2 ≤ 8)) (hd : 6 ≤ d) (k : ∀ (I2 : aFI) (L2 : aFL) (a2 en2 b2 bp2 np2 nm2 : Int), cu T n (sBk T (tkK T n) (tkP T n) (tkZ T n) D j) a2 en2 b2 bp2 → ((sBk T (tkK T n) (tkP T n) (tkZ T n) D j).1 = 0 → rB I2 L2 (dBk T (tkP T n) (tkZ T n) D j) cd m) → frG PRd I I2 → frG PRl L L2 → Q none (oP I2 a2 en2 b2 bp2 np2 nm2) L2 (aR sh su)) : aWp none d 151 0 [.ref 157, .int (iI (tkP T n j)), .null, .null, .null, .null, .null] [] (oT I T n (j + 1) a 0 bp np nm) L (aR sh su) Q := by
  refine w_aload c_151_0 rfl ?_
  refine z_push c_151_1 ?_
  refine z_push c_151_2 ?_
  refine w_iload c_151_4 rfl ?_
  refine wc_146 c_151_5 sp_157 (Nat.le_of_ble_eq_true rfl) (by omega) ?_
  refine t_isFull (k := 0) hR.1 (by decide) (by decide) (by have := tkP_rg (T := T) (n := n) (j := j) hB.2.2.1.1; have := hB.2.2.1; unfold aRg; omega) (by omega) (fun z1 => ?_) (fun z1 => ?_)
  · refine r_i ?_
    refine b_if_eq c_151_8 (fun h => Bool.noConfusion h) (fun _ => ?_)
    refine z_retv c_151_11 ?_
    have hs : sBk T (tkK T n) (tkP T n) (tkZ T n) D j = (5, tkP T n j, j) := if_pos z1
    rw [hs] at k
    exact k I L _ _ _ _ _ _ (cu.bad (by decide) (rA_aF hB.2.2.1 hA)) (fun z => absurd (show (5 : Int) = 0 from z) (by decide)) frG.rf frG.rf
  · refine r_i ?_
    refine b_if_eq c_151_8 (fun _ => ?_) (fun h => Bool.noConfusion h)
    refine w_aload c_151_12 rfl ?_
    refine wc_148 c_151_13 sp_157 (Nat.le_of_ble_eq_true rfl) (by omega) ?_
    have z1 : ¬ D 1 0 = 6 := z1
    have hs : sBk T (tkK T n) (tkP T n) (tkZ T n) D j = _ := if_neg z1
    rw [hs] at k
    refine tu_newName hB hO hR.1 (by omega) hA hbp (fun a1 en1 b1 bp1 nm1 x hx hC1 hgx => ?_)
    have hC1 : cu T n (cNp (tkK T n) (tkP T n) (tkZ T n) (cdu T (tkP T n) (tkZ T n) D (j + 1)) (0, 0, j + 1)) a1 en1 b1 bp1 := hC1
    have hgx : (cNp (tkK T n) (tkP T n) (tkZ T n) (cdu T (tkP T n) (tkZ T n) D (j + 1)) (0, 0, j + 1)).1 = 0 → x = nmc (nmJ T (tkP T n) (tkZ T n) (j + 1)) 6 := hgx
    refine r_l ?_
    refine w_lstore c_151_16 (Nat.le_of_ble_eq_true rfl) rfl ?_
    refine w_aload c_151_17 rfl ?_
    refine w_aload c_151_18 rfl ?_
    refine w_getR c_151_19 sp_157 (by decide) rfl pr_157_16 ?_
    refine wc_139 c_151_22 sp_157 (Nat.le_of_ble_eq_true rfl) (by omega) ?_
    refine tu_asks hB hO (q := 165) (Or.inl ⟨by decide, by decide⟩) (m := 305) (wk_own ⟨by decide, by decide⟩ (by decide)) (by omega) hC1 (fun a2 en2 b2 bp2 hC2 => ?_)
    refine r_v ?_
    refine w_aload c_151_25 rfl ?_
    refine z_push c_151_26 ?_
    refine z_push c_151_27 ?_
    refine wc_142 c_151_30 sp_157 (Nat.le_of_ble_eq_true rfl) (by omega) ?_
    refine tu_number hB (by decide) (by decide) (by omega) hC2 (fun a3 en3 b3 bp3 np3 v3 hv3 hC3 hg3 => ?_)
    have hb3 := hC3.2.1
    refine r_i ?_
    refine w_istore c_151_33 (Nat.le_of_ble_eq_true rfl) rfl ?_
    refine w_aload c_151_35 rfl ?_
    refine w_aload c_151_36 rfl ?_
    refine w_getR c_151_37 sp_157 (by decide) rfl pr_157_13 ?_
    refine wc_139 c_151_40 sp_157 (Nat.le_of_ble_eq_true rfl) (by omega) ?_
    refine tu_asks hB hO (q := 162) (Or.inl ⟨by decide, by decide⟩) (m := 302) (wk_own ⟨by decide, by decide⟩ (by decide)) (by omega) hC3 (fun a4 en4 b4 bp4 hC4 => ?_)
    refine r_v ?_
    refine w_aload c_151_43 rfl ?_
    refine z_push c_151_44 ?_
    refine z_push c_151_45 ?_
    refine wc_142 c_151_48 sp_157 (Nat.le_of_ble_eq_true rfl) (by omega) ?_
    refine tu_number hB (by decide) (by decide) (by omega) hC4 (fun a5 en5 b5 bp5 np5 v5 hv5 hC5 hg5 => ?_)
    have hb5 := hC5.2.1
    refine r_i ?_
    refine w_istore c_151_51 (Nat.le_of_ble_eq_true rfl) rfl ?_
    refine w_aload c_151_53 rfl ?_
    refine z_getZ c_151_54 sp_157 (by decide) rfl rfl ?_
    refine z_if_eq c_151_57 (by first | exact aRg_of _ | (unfold aRg; omega)) (fun h3_ => ?_) (fun h3_ => ?_)
    · refine w_aload c_151_61 rfl ?_
      refine z_push c_151_62 ?_
      refine w_lload c_151_63 rfl ?_
      refine wc_149 c_151_64 sp_157 (Nat.le_of_ble_eq_true rfl) (by omega) ?_
      have f5 : (cNu (tkK T n) (tkP T n) (tkZ T n) 0 999 (cWd (tkK T n) (tkP T n) 302 (cNu (tkK T n) (tkP T n) (tkZ T n) 0 999 (cWd (tkK T n) (tkP T n) 305 (cNp (tkK T n) (tkP T n) (tkZ T n) (cdu T (tkP T n) (tkZ T n) D (j + 1)) (0, 0, j + 1)))))).1 = 0 := by have := hC5.1; omega
      have g5 := cNu_0 f5
      have g4 := cWd_0 g5.1
      have g3 := cNu_0 g4.1
      have g2 := cWd_0 g3.1
      have g1 := cNp_0 g2.1
      have hv5 := (hg5 f5).1
      have hv3 := (hg3 (g4.1)).1
      rw [g4.2.2, g3.2.2.2.2, g2.2.2, g1.2.2.2.2] at hv5
      rw [g2.2.2, g1.2.2.2.2] at hv3
      have hxx := hgx g2.1
      refine t_adds2 (k := 0) (w := D 1 0) hR.1 (by decide) rfl rfl (by omega) hx (fun I1 L1 hN1 hF1 hG1 => ?_)
      refine r_i ?_
      refine w_istore c_151_67 (Nat.le_of_ble_eq_true rfl) rfl ?_
      refine w_aload c_151_69 rfl ?_
      refine w_getR c_151_70 sp_157 (by decide) rfl pr_157_47 ?_
      refine z_push c_151_73 ?_
      refine w_iload c_151_74 rfl ?_
      refine z_imul c_151_76 ?_
      refine w_iload c_151_77 rfl ?_
      refine z_iastore c_151_79 sp_195 (by omega) (by decide) ?_
      rw [oP_out (by omega)]
      refine w_aload c_151_80 rfl ?_
      refine w_getR c_151_81 sp_157 (by decide) rfl pr_157_47 ?_
      refine z_push c_151_84 ?_
      refine w_iload c_151_85 rfl ?_
      refine z_imul c_151_87 ?_
      refine z_push c_151_88 ?_
      refine z_iadd c_151_89 ?_
      refine w_iload c_151_90 rfl ?_
      refine z_iastore c_151_92 sp_195 (by omega) (by decide) ?_
      rw [oP_out (by omega)]
      refine z_retv c_151_93 ?_
      refine k _ L1 _ _ _ _ _ _ hC5 (fun _ => hR.bk (j := j) hN1 hF1 hxx ⟨⟨hD.1.1, hD.1.2, hD.2.1.2⟩, by omega⟩ (by rw [hv3, hv5])) ?_ ?_
      · exact ((hF1.mono (fun q p z => by have := z.1; have := z.2; omega)).up (by omega)).up (by omega)
      · exact hG1.mono (fun q p z => by have h1 := z.1; have h2 := z.2; have : ((0 : Nat) : Int) = 0 := rfl; have h3 : p = (8 * 0 + D 1 0).toNat := h2; omega)
    · refine z_retv c_151_60 ?_
      exact k I L _ _ _ _ _ _ hC5 (fun z => absurd (hC5.1.trans z) (by omega)) frG.rf frG.rf

set_option maxHeartbeats 1000000 in
theorem t_villageTold {d : Nat} {I : aFI} {L : aFL} {Q : aPo} {T : Int → Int} {n : Int} {sh : Nat} {su : Option Nat} {j : Nat} {a bp np nm : Int} {D : Nat → Int → Int} {cd : Nat → Option (List Int)} {m : Int} (hB : oB I T n) (hO : oW I) (hA : rA T n (j + 1) a) (hbp : bp = -1) (hR : rB I L D cd m) (hD : (0 ≤ D 1 0 ∧ D 1 0 ≤ 6) ∧ (0 ≤ D 1 1 ∧ D 1 1 ≤ 6) ∧ (0 ≤ D 1 2 ∧ D 1 2 ≤ 8)) (hd : 6 ≤ d) (k : ∀ (I2 : aFI) (L2 : aFL) (a2 en2 b2 bp2 np2 nm2 : Int), cu T n (sVi T (tkK T n) (tkP T n) (tkZ T n) D j) a2 en2 b2 bp2 → ((sVi T (tkK T n) (tkP T n) (tkZ T n) D j).1 = 0 → rB I2 L2 (dVi T (tkP T n) (tkZ T n) D j) cd m) → frG PRd I I2 → frG PRl L L2 → Q none (oP I2 a2 en2 b2 bp2 np2 nm2) L2 (aR sh su)) : aWp none d 152 0 [.ref 157, .int (iI (tkP T n j)), .null, .null, .null] [] (oT I T n (j + 1) a 0 bp np nm) L (aR sh su) Q := by
  refine w_aload c_152_0 rfl ?_
  refine z_push c_152_1 ?_
  refine z_push c_152_2 ?_
  refine w_iload c_152_4 rfl ?_
  refine wc_146 c_152_5 sp_157 (Nat.le_of_ble_eq_true rfl) (by omega) ?_
  refine t_isFull (k := 1) hR.1 (by decide) (by decide) (by have := tkP_rg (T := T) (n := n) (j := j) hB.2.2.1.1; have := hB.2.2.1; unfold aRg; omega) (by omega) (fun z1 => ?_) (fun z1 => ?_)
  · refine r_i ?_
    refine b_if_eq c_152_8 (fun h => Bool.noConfusion h) (fun _ => ?_)
    refine z_retv c_152_11 ?_
    have hs : sVi T (tkK T n) (tkP T n) (tkZ T n) D j = (5, tkP T n j, j) := if_pos z1
    rw [hs] at k
    exact k I L _ _ _ _ _ _ (cu.bad (by decide) (rA_aF hB.2.2.1 hA)) (fun z => absurd (show (5 : Int) = 0 from z) (by decide)) frG.rf frG.rf
  · refine r_i ?_
    refine b_if_eq c_152_8 (fun _ => ?_) (fun h => Bool.noConfusion h)
    refine w_aload c_152_12 rfl ?_
    refine wc_148 c_152_13 sp_157 (Nat.le_of_ble_eq_true rfl) (by omega) ?_
    have z1 : ¬ D 1 1 = 6 := z1
    have hs : sVi T (tkK T n) (tkP T n) (tkZ T n) D j = _ := if_neg z1
    rw [hs] at k
    refine tu_newName hB hO hR.1 (by omega) hA hbp (fun a1 en1 b1 bp1 nm1 x hx hC1 hgx => ?_)
    have hC1 : cu T n (cNp (tkK T n) (tkP T n) (tkZ T n) (cdu T (tkP T n) (tkZ T n) D (j + 1)) (0, 0, j + 1)) a1 en1 b1 bp1 := hC1
    have hgx : (cNp (tkK T n) (tkP T n) (tkZ T n) (cdu T (tkP T n) (tkZ T n) D (j + 1)) (0, 0, j + 1)).1 = 0 → x = nmc (nmJ T (tkP T n) (tkZ T n) (j + 1)) 6 := hgx
    refine r_l ?_
    refine w_lstore c_152_16 (Nat.le_of_ble_eq_true rfl) rfl ?_
    refine w_aload c_152_17 rfl ?_
    refine w_aload c_152_18 rfl ?_
    refine w_getR c_152_19 sp_157 (by decide) rfl pr_157_18 ?_
    refine wc_139 c_152_22 sp_157 (Nat.le_of_ble_eq_true rfl) (by omega) ?_
    refine tu_asks hB hO (q := 167) (Or.inl ⟨by decide, by decide⟩) (m := 307) (wk_own ⟨by decide, by decide⟩ (by decide)) (by omega) hC1 (fun a2 en2 b2 bp2 hC2 => ?_)
    refine r_v ?_
    refine w_aload c_152_25 rfl ?_
    refine z_push c_152_26 ?_
    refine z_push c_152_27 ?_
    refine wc_142 c_152_29 sp_157 (Nat.le_of_ble_eq_true rfl) (by omega) ?_
    refine tu_number hB (by decide) (by decide) (by omega) hC2 (fun a3 en3 b3 bp3 np3 v3 hv3 hC3 hg3 => ?_)
    have hb3 := hC3.2.1
    refine r_i ?_
    refine w_istore c_152_32 (Nat.le_of_ble_eq_true rfl) rfl ?_
    refine w_aload c_152_34 rfl ?_
    refine z_getZ c_152_35 sp_157 (by decide) rfl rfl ?_
    refine z_if_ne c_152_38 (by first | exact aRg_of _ | (unfold aRg; omega)) (fun h3_ => ?_) (fun h3_ => ?_)
    · refine z_retv c_152_54 ?_
      exact k I L _ _ _ _ _ _ hC3 (fun z => absurd (hC3.1.trans z) (by omega)) frG.rf frG.rf
    · refine w_aload c_152_41 rfl ?_
      refine w_getR c_152_42 sp_157 (by decide) rfl pr_157_48 ?_
      refine w_aload c_152_45 rfl ?_
      refine z_push c_152_46 ?_
      refine w_lload c_152_47 rfl ?_
      refine wc_149 c_152_48 sp_157 (Nat.le_of_ble_eq_true rfl) (by omega) ?_
      have f3 : (cNu (tkK T n) (tkP T n) (tkZ T n) 0 99 (cWd (tkK T n) (tkP T n) 307 (cNp (tkK T n) (tkP T n) (tkZ T n) (cdu T (tkP T n) (tkZ T n) D (j + 1)) (0, 0, j + 1)))).1 = 0 := by have := hC3.1; omega
      have g3 := cNu_0 f3
      have g2 := cWd_0 g3.1
      have g1 := cNp_0 g2.1
      have hv4 := (hg3 f3).1
      rw [g2.2.2, g1.2.2.2.2] at hv4
      have hxx := hgx g2.1
      refine t_adds2 (k := 1) (w := D 1 1) hR.1 (by decide) rfl rfl (by omega) hx (fun I1 L1 hN1 hF1 hG1 => ?_)
      refine r_i ?_
      refine w_iload c_152_51 rfl ?_
      refine z_iastore c_152_53 sp_196 (by omega) (by decide) ?_
      rw [oP_out (by omega)]
      refine z_retv c_152_54 ?_
      refine k _ L1 _ _ _ _ _ _ hC3 (fun _ => hR.vi (j := j) hN1 hF1 hxx ⟨⟨hD.2.1.1, hD.1.2, hD.2.1.2⟩, by omega⟩ (by rw [hv4])) ?_ ?_
      · exact (hF1.mono (fun q p z => by have := z.1; have := z.2; omega)).up (by omega)
      · exact hG1.mono (fun q p z => by have h1 := z.1; have h2 := z.2; have h3 : p = (8 * 1 + D 1 1).toNat := h2; omega)

