/-! PURE: the best share: sets tried one after another, or by branches -/
section SHP
variable (D : Nat → Int → Int) (cd : Nat → Option (List Int)) (X : Lk) (n : Nat)
/-- a set's deeds written in turn, up to i: the state; what is drawn; whether each can be; the worth -/
def shS (t : Nat) : Nat → Lk
  | 0 => X
  | i + 1 => if t.testBit i = true then drawX (shS t i) i (drwZ D cd (shS t i) i) else shS t i
def shQ (t : Nat) : Nat → Int
  | 0 => 0
  | i + 1 => shQ t i + (if t.testBit i = true then drwZ D cd (shS D cd X t i) i else 0)
def shO (t : Nat) : Nat → Bool
  | 0 => true
  | i + 1 => shO t i && (!t.testBit i || cbZ D cd (shS D cd X t i) i)
def shV (t : Nat) : Nat → Int
  | 0 => 0
  | i + 1 => shV t i + (if t.testBit i = true then D 8 i else 0)
/-- sets tried from 1 on -/
def shF : Nat → Nat × Int
  | 0 => (0, 0)
  | k + 1 => if shV D (k + 1) n < shV D (shF k).1 n then shF k else if shO D cd X (k + 1) n = false then shF k else if shV D (k + 1) n = shV D (shF k).1 n ∧ (shF k).2 ≤ shQ D cd X (k + 1) n then shF k else (k + 1, shQ D cd X (k + 1) n)
def chU (t : Nat) (v q : Int) (b : Nat × Int × Int) : Nat × Int × Int := if b.2.1 < v ∨ (v = b.2.1 ∧ (q < b.2.2 ∨ (q = b.2.2 ∧ t < b.1))) then (t, v, q) else b
/-- branch after branch: r deeds are left -/
def chF : Nat → Nat → Nat × Int × Int → Nat × Int × Int
  | 0, t, b => chU t (shV D t n) (shQ D cd X t n) b
  | r + 1, t, b => if cbZ D cd (shS D cd X t (n - (r + 1))) ((n - (r + 1) : Nat) : Int) = true then chF r (t ||| 2 ^ (n - (r + 1))) (chF r t b) else chF r t b
def btr (t s : Nat) : Prop := shV D s n < shV D t n ∨ (shV D t n = shV D s n ∧ (shQ D cd X t n < shQ D cd X s n ∨ (shQ D cd X t n = shQ D cd X s n ∧ t < s)))
def bst (S : Nat → Prop) (b : Nat × Int × Int) : Prop := (b = (0, -1, 0) ∧ ∀ s, ¬ S s) ∨ ∃ t, S t ∧ b = (t, shV D t n, shQ D cd X t n) ∧ ∀ s, S s → s ≠ t → btr D cd X n t s
end SHP
section SHQ
variable {D : Nat → Int → Int} {cd : Nat → Option (List Int)} {X : Lk} {n : Nat}
theorem sh_same {s t : Nat} : ∀ i : Nat, (∀ j : Nat, j < i → s.testBit j = t.testBit j) → shS D cd X s i = shS D cd X t i ∧ shQ D cd X s i = shQ D cd X t i ∧ shO D cd X s i = shO D cd X t i ∧ shV D s i = shV D t i
  | 0, _ => ⟨rfl, rfl, rfl, rfl⟩
  | i + 1, h => by
    obtain ⟨h1, h2, h3, h4⟩ := sh_same i (fun j hj => h j (by omega))
    have hb := h i (by omega)
    simp only [shS, shQ, shO, shV]
    rw [h1, h2, h3, h4, hb]
    exact ⟨rfl, rfl, rfl, rfl⟩
theorem sh_off {t i : Nat} (h : t.testBit i = false) : shS D cd X t (i + 1) = shS D cd X t i ∧ shQ D cd X t (i + 1) = shQ D cd X t i ∧ shO D cd X t (i + 1) = shO D cd X t i ∧ shV D t (i + 1) = shV D t i := by
  simp only [shS, shQ, shO, shV, h]
  refine ⟨by simp, by simp, by simp, by simp⟩
theorem shO_le {t : Nat} : ∀ {i m : Nat}, i ≤ m → shO D cd X t m = true → shO D cd X t i = true := by
  intro i m h h2
  induction m with
  | zero => rw [show i = 0 by omega]; rfl
  | succ m ih =>
    by_cases hi : i = m + 1
    · subst hi; exact h2
    · simp only [shO] at h2; rw [Bool.and_eq_true] at h2; exact ih (by omega) h2.1
theorem bits_mod {s t i : Nat} (h : s % 2 ^ i = t) : ∀ j : Nat, j < i → s.testBit j = t.testBit j := by
  intro j hj
  rw [← h, Nat.testBit_mod_two_pow, decide_eq_true hj, Bool.true_and]
theorem bit_top {t i : Nat} (h : t < 2 ^ i) : t.testBit i = false := Nat.testBit_lt_two_pow h
theorem or_top {t i : Nat} (h : t < 2 ^ i) : t ||| 2 ^ i < 2 ^ (i + 1) := Nat.or_lt_two_pow (Nat.lt_of_lt_of_le h (Nat.pow_le_pow_right (by omega) (by omega))) (Nat.pow_lt_pow_right (by omega) (by omega))
theorem or_bit {t i : Nat} : (t ||| 2 ^ i).testBit i = true := by rw [Nat.testBit_or, Nat.testBit_two_pow]; simp
theorem or_low {t i j : Nat} (h : j < i) : (t ||| 2 ^ i).testBit j = t.testBit j := by
  rw [Nat.testBit_or, Nat.testBit_two_pow, decide_eq_false (by omega), Bool.or_false]
/-- a set with deed i in it -/
theorem sh_on {t i : Nat} : shS D cd X (t ||| 2 ^ i) (i + 1) = drawX (shS D cd X t i) i (drwZ D cd (shS D cd X t i) i) ∧ shQ D cd X (t ||| 2 ^ i) (i + 1) = shQ D cd X t i + drwZ D cd (shS D cd X t i) i ∧ shO D cd X (t ||| 2 ^ i) (i + 1) = (shO D cd X t i && cbZ D cd (shS D cd X t i) i) ∧ shV D (t ||| 2 ^ i) (i + 1) = shV D t i + D 8 i := by
  obtain ⟨h1, h2, h3, h4⟩ := sh_same (D := D) (cd := cd) (X := X) (s := t ||| 2 ^ i) (t := t) i (fun j hj => or_low hj)
  simp only [shS, shQ, shO, shV, or_bit]
  rw [h1, h2, h3, h4]
  refine ⟨by simp, by simp, by simp, by simp⟩
theorem mod_split {s t i : Nat} (h : s % 2 ^ i = t) : s % 2 ^ (i + 1) = if s.testBit i = true then t ||| 2 ^ i else t := by
  apply Nat.eq_of_testBit_eq; intro j
  rw [Nat.testBit_mod_two_pow]
  have hb := bits_mod h
  have ht : t < 2 ^ i := by rw [← h]; exact Nat.mod_lt _ (Nat.pow_pos (by omega))
  by_cases hj : j < i
  · rw [decide_eq_true (by omega), Bool.true_and, hb j hj]
    split
    · rw [or_low hj]
    · rfl
  by_cases hj2 : j = i
  · subst hj2
    rw [decide_eq_true (by omega), Bool.true_and]
    split
    · rename_i hc; rw [or_bit, hc]
    · rename_i hc; rw [bit_top ht]; cases hq : s.testBit j
      · rfl
      · exact absurd hq hc
  · rw [decide_eq_false (by omega), Bool.false_and]
    have h1 : t.testBit j = false := Nat.testBit_lt_two_pow (Nat.lt_of_lt_of_le ht (Nat.pow_le_pow_right (by omega) (by omega)))
    split
    · rw [Nat.testBit_or, h1, Nat.testBit_two_pow, decide_eq_false (by omega)]; rfl
    · exact h1.symm
theorem shV_nn {t : Nat} (hv : ∀ j : Nat, j < n → 0 ≤ D 8 j) : ∀ i : Nat, i ≤ n → 0 ≤ shV D t i
  | 0, _ => Int.le_refl 0
  | i + 1, h => by
    have h1 := shV_nn (t := t) hv i (by omega)
    have h2 := hv i (by omega)
    simp only [shV]
    split <;> omega
theorem btr_tr {a b c : Nat} (h : btr D cd X n a b) (h2 : btr D cd X n b c) : btr D cd X n a c := by unfold btr at *; omega
theorem btr_as {a b : Nat} (h : btr D cd X n a b) (h2 : btr D cd X n b a) : False := by unfold btr at *; omega
theorem chU_bst {S : Nat → Prop} {b : Nat × Int × Int} {t : Nat} (hv : ∀ j : Nat, j < n → 0 ≤ D 8 j) (h : bst D cd X n S b) : bst D cd X n (fun s => S s ∨ s = t) (chU t (shV D t n) (shQ D cd X t n) b) := by
  have hnn := shV_nn (t := t) hv n (Nat.le_refl n)
  unfold chU
  rcases h with ⟨rfl, h2⟩ | ⟨u, hu, rfl, h2⟩
  · rw [if_pos (Or.inl (show (-1 : Int) < _ by omega))]
    refine Or.inr ⟨t, Or.inr rfl, rfl, fun s hs hne => ?_⟩
    rcases hs with hs | hs
    · exact absurd hs (h2 s)
    · exact absurd hs hne
  · split
    · rename_i hc
      have hbt : btr D cd X n t u := by
        unfold btr
        rcases hc with hc | hc
        · exact Or.inl hc
        · exact Or.inr hc
      refine Or.inr ⟨t, Or.inr rfl, rfl, fun s hs hne => ?_⟩
      rcases hs with hs | hs
      · by_cases hsu : s = u
        · subst hsu; exact hbt
        · exact btr_tr hbt (h2 s hs hsu)
      · exact absurd hs hne
    · rename_i hc
      refine Or.inr ⟨u, Or.inl hu, rfl, fun s hs hne => ?_⟩
      rcases hs with hs | hs
      · exact h2 s hs hne
      · subst hs
        have hc2 : ¬ (shV D u n < shV D s n ∨ shV D s n = shV D u n ∧ (shQ D cd X s n < shQ D cd X u n ∨ shQ D cd X s n = shQ D cd X u n ∧ s < u)) := hc
        unfold btr
        omega
theorem bst_eq {S S2 : Nat → Prop} {b : Nat × Int × Int} (h : bst D cd X n S b) (he : ∀ s, S s ↔ S2 s) : bst D cd X n S2 b := by
  rcases h with ⟨h1, h2⟩ | ⟨t, h1, h2, h3⟩
  · exact Or.inl ⟨h1, fun s hs => h2 s ((he s).mpr hs)⟩
  · exact Or.inr ⟨t, (he t).mp h1, h2, fun s hs => h3 s ((he s).mpr hs)⟩
def shB (D : Nat → Int → Int) (cd : Nat → Option (List Int)) (X : Lk) (n r t : Nat) (s : Nat) : Prop := s < 2 ^ n ∧ shO D cd X s n = true ∧ s % 2 ^ (n - r) = t
theorem chF_bst (hv : ∀ j : Nat, j < n → 0 ≤ D 8 j) : ∀ (r : Nat) {S : Nat → Prop} {b : Nat × Int × Int} {t : Nat}, r ≤ n → t < 2 ^ (n - r) → shO D cd X t (n - r) = true → bst D cd X n S b → bst D cd X n (fun s => S s ∨ shB D cd X n r t s) (chF D cd X n r t b)
  | 0, S, b, t, _, ht, ho, h => by
    refine bst_eq (chU_bst (t := t) hv h) (fun s => ?_)
    constructor
    · rintro (h1 | rfl)
      · exact Or.inl h1
      · exact Or.inr ⟨ht, ho, Nat.mod_eq_of_lt ht⟩
    · rintro (h1 | ⟨h1, h2, h3⟩)
      · exact Or.inl h1
      · right
        rw [← h3]; exact (Nat.mod_eq_of_lt h1).symm
  | r + 1, S, b, t, hr, ht, ho, h => by
    obtain ⟨i, hi⟩ : ∃ i, i = n - (r + 1) := ⟨_, rfl⟩
    have hi2 : n - r = i + 1 := by omega
    rw [← hi] at ht ho
    have h1 : bst D cd X n (fun s => S s ∨ shB D cd X n r t s) (chF D cd X n r t b) := chF_bst hv r (by omega) (by rw [hi2]; exact Nat.lt_of_lt_of_le ht (Nat.pow_le_pow_right (by omega) (by omega))) (by rw [hi2, (sh_off (bit_top ht)).2.2.1]; exact ho) h
    simp only [chF]
    rw [← hi]
    split
    · rename_i hc
      have h2 := chF_bst (t := t ||| 2 ^ i) hv r (by omega) (by rw [hi2]; exact or_top ht) (by rw [hi2, sh_on.2.2.1, ho, hc]; rfl) h1
      refine bst_eq h2 (fun s => ?_)
      unfold shB
      rw [hi2, ← hi]
      constructor
      · rintro ((z | ⟨z1, z2, z3⟩) | ⟨z1, z2, z3⟩)
        · exact Or.inl z
        · exact Or.inr ⟨z1, z2, by rw [← Nat.mod_mod_of_dvd s (Nat.pow_dvd_pow 2 (Nat.le_succ i)), z3, Nat.mod_eq_of_lt ht]⟩
        · refine Or.inr ⟨z1, z2, ?_⟩
          rw [← Nat.mod_mod_of_dvd s (Nat.pow_dvd_pow 2 (Nat.le_succ i)), z3]
          apply Nat.eq_of_testBit_eq; intro j
          rw [Nat.testBit_mod_two_pow]
          by_cases hj : j < i
          · rw [decide_eq_true hj, Bool.true_and, or_low hj]
          · rw [decide_eq_false hj, Bool.false_and]; exact (Nat.testBit_lt_two_pow (Nat.lt_of_lt_of_le ht (Nat.pow_le_pow_right (by omega) (by omega)))).symm
      · rintro (z | ⟨z1, z2, z3⟩)
        · exact Or.inl (Or.inl z)
        · have hm := mod_split z3
          split at hm
          · exact Or.inr ⟨z1, z2, hm⟩
          · exact Or.inl (Or.inr ⟨z1, z2, hm⟩)
    · rename_i hc
      refine bst_eq h1 (fun s => ?_)
      unfold shB
      rw [hi2, ← hi]
      constructor
      · rintro (z | ⟨z1, z2, z3⟩)
        · exact Or.inl z
        · exact Or.inr ⟨z1, z2, by rw [← Nat.mod_mod_of_dvd s (Nat.pow_dvd_pow 2 (Nat.le_succ i)), z3, Nat.mod_eq_of_lt ht]⟩
      · rintro (z | ⟨z1, z2, z3⟩)
        · exact Or.inl z
        · have hm := mod_split z3
          split at hm
          · rename_i hb
            exfalso
            have h5 := shO_le (i := i + 1) (by omega) z2
            simp only [shO] at h5
            rw [Bool.and_eq_true, hb, Bool.not_true, Bool.false_or] at h5
            rw [(sh_same (s := s) (t := t) i (bits_mod z3)).1] at h5
            exact hc h5.2
          · exact Or.inr ⟨z1, z2, hm⟩
/-- the sets in turn -/
theorem shF_bst : ∀ k : Nat, (shF D cd X n k).1 ≤ k ∧ shO D cd X (shF D cd X n k).1 n = true ∧ (shF D cd X n k).2 = shQ D cd X (shF D cd X n k).1 n ∧ ∀ s, s ≤ k → shO D cd X s n = true → s ≠ (shF D cd X n k).1 → btr D cd X n (shF D cd X n k).1 s
  | 0 => by
    have h0 : shO D cd X 0 n = true ∧ shQ D cd X 0 n = 0 := by
      induction n with
      | zero => exact ⟨rfl, rfl⟩
      | succ m ih =>
        have hb : (0 : Nat).testBit m = false := Nat.zero_testBit m
        obtain ⟨-, h2, h3, -⟩ := sh_off (D := D) (cd := cd) (X := X) hb
        rw [h2, h3]; exact ih
    refine ⟨Nat.le_refl 0, h0.1, h0.2.symm, fun s hs _ hne => ?_⟩
    exact absurd (show s = 0 by omega) hne
  | k + 1 => by
    obtain ⟨h1, h2, h3, h4⟩ := shF_bst k
    have hold : ∀ s, s ≤ k → shO D cd X s n = true → s ≠ (shF D cd X n k).1 → btr D cd X n (shF D cd X n k).1 s := h4
    simp only [shF]
    split
    · rename_i hc
      refine ⟨by omega, h2, h3, fun s hs ho hne => ?_⟩
      by_cases hsk : s ≤ k
      · exact hold s hsk ho hne
      · rw [show s = k + 1 by omega]; exact Or.inl hc
    · rename_i hc
      split
      · rename_i hc2
        refine ⟨by omega, h2, h3, fun s hs ho hne => ?_⟩
        by_cases hsk : s ≤ k
        · exact hold s hsk ho hne
        · rw [show s = k + 1 by omega] at ho; exact Bool.noConfusion (ho.symm.trans hc2)
      · rename_i hc2
        split
        · rename_i hc3
          refine ⟨by omega, h2, h3, fun s hs ho hne => ?_⟩
          by_cases hsk : s ≤ k
          · exact hold s hsk ho hne
          · rw [show s = k + 1 by omega]; unfold btr; omega
        · rename_i hc3
          have hbt : btr D cd X n (k + 1) (shF D cd X n k).1 := by unfold btr; omega
          refine ⟨Nat.le_refl _, by cases hq : shO D cd X (k + 1) n; exact absurd hq hc2; rfl, rfl, fun s hs ho hne => ?_⟩
          by_cases hsk : s ≤ k
          · by_cases hsb : s = (shF D cd X n k).1
            · rw [hsb]; exact hbt
            · exact btr_tr hbt (hold s hsk ho hsb)
          · exact absurd (show s = k + 1 by omega) hne
/-- both ways find the same -/
theorem ch_sh (hv : ∀ j : Nat, j < n → 0 ≤ D 8 j) : chF D cd X n n 0 (0, -1, 0) = ((shF D cd X n (2 ^ n - 1)).1, shV D (shF D cd X n (2 ^ n - 1)).1 n, (shF D cd X n (2 ^ n - 1)).2) := by
  have h1 := chF_bst (D := D) (cd := cd) (X := X) hv n (S := fun _ => False) (b := (0, -1, 0)) (t := 0) (Nat.le_refl n) (Nat.pow_pos (by omega)) (by rw [Nat.sub_self]; rfl) (Or.inl ⟨rfl, fun _ z => z⟩)
  obtain ⟨h2, h3, h4, h5⟩ := shF_bst (D := D) (cd := cd) (X := X) (n := n) (2 ^ n - 1)
  have hp : 0 < 2 ^ n := Nat.pow_pos (by omega)
  have hin : ∀ s, s < 2 ^ n → shO D cd X s n = true → shB D cd X n n 0 s := fun s z1 z2 => ⟨z1, z2, by rw [Nat.sub_self]; exact Nat.mod_one s⟩
  rcases h1 with ⟨h6, h7⟩ | ⟨t, h6, h7, h8⟩
  · exact absurd (Or.inr (hin _ (by omega) h3)) (h7 (shF D cd X n (2 ^ n - 1)).1)
  · rcases h6 with h6 | h6
    · exact h6.elim
    · have hte : t = (shF D cd X n (2 ^ n - 1)).1 := by
        by_cases hq : t = (shF D cd X n (2 ^ n - 1)).1
        · exact hq
        · exfalso
          exact btr_as (h8 _ (Or.inr (hin _ (by omega) h3)) (fun z => hq z.symm)) (h5 t (by have := h6.1; omega) h6.2.1 hq)
      rw [h7, hte, h4]
end SHQ
