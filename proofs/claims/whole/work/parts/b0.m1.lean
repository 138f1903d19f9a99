/-! THE INVARIANT of the law: class and reference side by side -/
def iS (D : Nat → Int → Int) (cd : Nat → Option (List Int)) : Prop := wfQ D cd ∧ rgD D ∧ (D 0 0 = 1 → wfP D cd)
def invC (I : aFI) (sh : Nat) (D : Nat → Int → Int) (cd : Nat → Option (List Int)) (X : Lk) (K : Int → Int → Int) (kc : Int) : Prop :=
  cW I sh D cd ∧ lkX I 36 kc X ∧ kpC I K kc ∧ (-1000000 ≤ (I 42 1).toInt ∧ (I 42 1).toInt ≤ 1000000)
def invR (I : aFI) (L : aFL) (D : Nat → Int → Int) (cd : Nat → Option (List Int)) (X : Lk) (K : Int → Int → Int) (kc : Int) : Prop :=
  rS I D cd X ∧ I 202 27 = iI kc ∧ kpR I 202 0 K kc ∧ rNms L D ∧ oW I ∧ I 157 61 = aBo false
def invT (I : aFI) (T : Int → Int) (nt : Int) : Prop :=
  I 0 1 = iI nt ∧ I 157 1 = iI nt ∧ (0 ≤ nt ∧ nt ≤ 1600) ∧ (∀ j : Int, 0 ≤ j → j < 1600 → I 1 j.toNat = iI (T j)) ∧ (∀ j : Int, 0 ≤ j → j < 1600 → I 158 j.toNat = iI (T j)) ∧ ∀ j : Int, 0 ≤ T j ∧ T j ≤ 255
/-- a row of the reference's ring, as if it were the lake's own row -/
abbrev slI (I : aFI) (b : Nat) : aFI := fun _ k => I 207 (188 * b + k)
/-- what can be undone, the newest first -/
def rng (I : aFI) (D : Nat → Int → Int) (K : Int → Int → Int) : Int → Int → Int → List (Lk × Int) → Prop
  | _, _, _, [] => True
  | nx, nw, kc, (Y, c) :: r => (lkX I (46 + 3 * ((nx + 19) % 20).toNat) c Y ∧ rX (slI I nw.toNat) 202 Y ∧ slI I nw.toNat 202 27 = iI c ∧ kpR (slI I nw.toNat) 202 0 K c ∧ stX D Y c ∧ c ≤ kc) ∧ rng I D K ((nx + 19) % 20) ((nw + 19) % 20) c r
def invU (I : aFI) (D : Nat → Int → Int) (K : Int → Int → Int) (kc nx nw ct : Int) (U : List (Lk × Int)) : Prop :=
  (I 44 1 = iI nx ∧ I 44 2 = iI ct ∧ I 157 71 = iI nw ∧ I 157 70 = iI ct) ∧ (0 ≤ nx ∧ nx < 20) ∧ (0 ≤ nw ∧ nw < 20) ∧ ct ≤ 20 ∧ (U.length : Int) = ct ∧ rng I D K nx nw kc U
def invM (I : aFI) (L : aFL) (s : Int) : Prop :=
  (∀ k : Nat, k < 6 → I 159 k = I 156 k) ∧ (I 157 7 = I 2 7 ∧ I 157 8 = I 2 8) ∧ (I 157 67 = I 0 14 ∧ I 157 68 = I 0 15) ∧ (L 0 17 = lI s ∧ L 157 72 = lI s) ∧ 0 ≤ s ∧ s < 2147483648
def invP (I : aFI) (P : Int → Int) (n : Int) : Prop :=
  I 0 13 = iI n ∧ I 157 108 = iI n ∧ (0 ≤ n ∧ n ≤ 39) ∧ (∀ j : Int, 0 ≤ j → j < n → I 155 j.toNat = iI (P j)) ∧ ∀ j : Int, 0 ≤ j → j < n → I 235 j.toNat = iI (P j)
section INV
variable {I I2 : aFI} {L L2 : aFL} {sh : Nat} {D : Nat → Int → Int} {cd : Nat → Option (List Int)} {X : Lk} {K K2 : Int → Int → Int} {kc nt nx nw ct s n : Int} {T P : Int → Int} {U : List (Lk × Int)}
theorem kpC.fr (h : kpC I K kc) (h40 : kc ≤ 40) (hF : ∀ q k : Nat, 115 ≤ q → q ≤ 154 → I2 q k = I q k) : kpC I2 K kc := fun i j a b c d => by
  rw [hF _ _ (by omega) (by omega)]; exact h i j a b c d
theorem kpR.fr {c o : Nat} (h : kpR I c o K kc) (hF : ∀ k : Nat, I2 c k = I c k) : kpR I2 c o K kc := fun i j e a b c2 d e2 => by
  rw [hF]; exact h i j e a b c2 d e2
theorem invC.fr (h : invC I sh D cd X K kc) (h40 : kc ≤ 40) (h1 : ∀ q k : Nat, sh ≤ q → q ≤ sh + 13 → I2 q k = I q k) (h2 : ∀ q k : Nat, 36 ≤ q → q ≤ 38 → I2 q k = I q k) (h3 : ∀ q k : Nat, 115 ≤ q → q ≤ 154 → I2 q k = I q k) (h4 : -1000000 ≤ (I2 42 1).toInt ∧ (I2 42 1).toInt ≤ 1000000) : invC I2 sh D cd X K kc :=
  ⟨h.1.fr h1, h.2.1.fr (fun p k a b => h2 p k a b), h.2.2.1.fr h40 h3, h4⟩
theorem invR.fr (h : invR I L D cd X K kc) (h1 : ∀ q k : Nat, 192 ≤ q → q ≤ 202 → I2 q k = I q k) (h2 : ∀ q k : Nat, isWd q → I2 q k = I q k) (h3 : I2 157 56 = I 157 56) (h4 : I2 157 61 = I 157 61) (h5 : ∀ k : Nat, L2 193 k = L 193 k) : invR I2 L2 D cd X K kc :=
  ⟨⟨h.1.1.fr (fun q k a b => h1 q k a (by omega)) h3, nLk.fr h.1.2 (fun k _ => h1 202 k (by omega) (by omega))⟩, (h1 202 27 (by omega) (by omega)).trans h.2.1, h.2.2.1.fr (fun k => h1 202 k (by omega) (by omega)), fun k a i b c => (h5 _).trans (h.2.2.2.1 k a i b c), fun q a j b c => (h2 q _ a).trans (h.2.2.2.2.1 q a j b c), h4.trans h.2.2.2.2.2⟩
theorem invT.fr (h : invT I T nt) (h0 : I2 0 1 = I 0 1) (h1 : I2 157 1 = I 157 1) (h2 : ∀ k : Nat, I2 1 k = I 1 k) (h3 : ∀ k : Nat, I2 158 k = I 158 k) : invT I2 T nt :=
  ⟨h0.trans h.1, h1.trans h.2.1, h.2.2.1, fun j a b => (h2 _).trans (h.2.2.2.1 j a b), fun j a b => (h3 _).trans (h.2.2.2.2.1 j a b), h.2.2.2.2.2⟩
theorem invT.tn (h : invT I T nt) {v : Int} (hv : 0 ≤ v ∧ v ≤ 1600) (h0 : I2 0 1 = iI v) (h1 : I2 157 1 = iI v) (h2 : ∀ k : Nat, I2 1 k = I 1 k) (h3 : ∀ k : Nat, I2 158 k = I 158 k) : invT I2 T v :=
  ⟨h0, h1, hv, fun j a b => (h2 _).trans (h.2.2.2.1 j a b), fun j a b => (h3 _).trans (h.2.2.2.2.1 j a b), h.2.2.2.2.2⟩
theorem rng.fr : ∀ {U : List (Lk × Int)} {nx nw kc : Int}, rng I D K nx nw kc U → (0 ≤ nx ∧ nx < 20) → (∀ q k : Nat, 46 ≤ q → q ≤ 105 → I2 q k = I q k) → (∀ k : Nat, I2 207 k = I 207 k) → rng I2 D K nx nw kc U
  | [], _, _, _, _, _, _, _ => trivial
  | (Y, c) :: r, nx, nw, kc, h, hx, h1, h2 => by
    refine ⟨⟨h.1.1.fr (fun p k a b => h1 p k (by omega) (by omega)), nLk.fr h.1.2.1 (fun k _ => h2 _), (h2 _).trans h.1.2.2.1, h.1.2.2.2.1.fr (fun k => h2 _), h.1.2.2.2.2.1, h.1.2.2.2.2.2⟩, rng.fr h.2 (by omega) h1 h2⟩
/-- one slot written on both sides, which the ring does not use -/
theorem rng.sl : ∀ {U : List (Lk × Int)} {nx nw kc : Int} {p q : Int}, rng I D K nx nw kc U → (0 ≤ nx ∧ nx < 20) → (0 ≤ nw ∧ nw < 20) → (0 ≤ p ∧ p < 20) → (0 ≤ q ∧ q < 20) → (U.length : Int) ≤ (nx + 19 - p) % 20 → (U.length : Int) ≤ (nw + 20 - q) % 20 → (∀ a k : Nat, 46 ≤ a → a ≤ 105 → ¬ (46 + 3 * p.toNat ≤ a ∧ a ≤ 46 + 3 * p.toNat + 2) → I2 a k = I a k) → (∀ k : Nat, ¬ (188 * q.toNat ≤ k ∧ k < 188 * q.toNat + 188) → I2 207 k = I 207 k) → (∀ i j : Int, 0 ≤ i → i < kc → K2 i j = K i j) → kc ≤ 40 → rng I2 D K2 nx nw kc U
  | [], _, _, _, _, _, _, _, _, _, _, _, _, _, _, _, _ => trivial
  | (Y, c) :: r, nx, nw, kc, p, q, h, hx, hw, hp, hq, l1, l2, h1, h2, h3, h40 => by
    simp only [List.length_cons] at l1 l2
    have e1 : ∀ k : Nat, k < 188 → slI I2 nw.toNat 202 k = slI I nw.toNat 202 k := fun k hk => h2 _ (by omega)
    have hc := h.1.2.2.2.2.2
    refine ⟨⟨h.1.1.fr (fun a k z1 z2 => h1 a k (by omega) (by omega) (by omega)), nLk.fr h.1.2.1 (fun k hk => e1 k (by omega)), (e1 27 (by decide)).trans h.1.2.2.1, fun i j e a b z1 z2 z3 => ?_, h.1.2.2.2.2.1, hc⟩, rng.sl h.2 (by omega) (by omega) hp hq (by omega) (by omega) h1 h2 (fun i j a b => h3 i j a (by omega)) (by omega)⟩
    rw [e1 _ (by omega), h3 i j a (by omega)]
    exact h.1.2.2.2.1 i j e a b z1 z2 z3
theorem rng.take : ∀ {U : List (Lk × Int)} {nx nw kc : Int} (m : Nat), rng I D K nx nw kc U → rng I D K nx nw kc (U.take m)
  | [], _, _, _, 0, _ => trivial
  | [], _, _, _, _ + 1, _ => trivial
  | (_, _) :: _, _, _, _, 0, _ => trivial
  | (_, _) :: _, _, _, _, m + 1, h => ⟨h.1, rng.take m h.2⟩
theorem invU.fr (h : invU I D K kc nx nw ct U) (h1 : ∀ q k : Nat, 44 ≤ q → q ≤ 105 → I2 q k = I q k) (h2 : ∀ k : Nat, I2 207 k = I 207 k) (h3 : I2 157 70 = I 157 70) (h4 : I2 157 71 = I 157 71) : invU I2 D K kc nx nw ct U :=
  ⟨⟨(h1 44 1 (by omega) (by omega)).trans h.1.1, (h1 44 2 (by omega) (by omega)).trans h.1.2.1, h4.trans h.1.2.2.1, h3.trans h.1.2.2.2⟩, h.2.1, h.2.2.1, h.2.2.2.1, h.2.2.2.2.1, rng.fr h.2.2.2.2.2 h.2.1 (fun q k a b => h1 q k (by omega) b) h2⟩
/-- nothing is left to undo -/
theorem invU.none {nw2 : Int} (h : invU I D K kc nx nw ct U) (h1 : I2 44 1 = iI 0) (h2 : I2 44 2 = iI 0) (h3 : I2 157 70 = iI 0) (h4 : I2 157 71 = I 157 71) {D2 : Nat → Int → Int} {K2 : Int → Int → Int} {kc2 : Int} : invU I2 D2 K2 kc2 0 nw 0 [] :=
  ⟨⟨h1, h2, h4.trans h.1.2.2.1, h3⟩, by decide, h.2.2.1, by decide, rfl, trivial⟩
theorem invM.fr (h : invM I L s) (h1 : ∀ k : Nat, k < 6 → I2 156 k = I 156 k ∧ I2 159 k = I 159 k) (h2 : I2 2 7 = I 2 7 ∧ I2 2 8 = I 2 8 ∧ I2 157 7 = I 157 7 ∧ I2 157 8 = I 157 8) (h3 : I2 0 14 = I 0 14 ∧ I2 0 15 = I 0 15 ∧ I2 157 67 = I 157 67 ∧ I2 157 68 = I 157 68) (h4 : L2 0 17 = L 0 17 ∧ L2 157 72 = L 157 72) : invM I2 L2 s :=
  ⟨fun k hk => (h1 k hk).2.trans ((h.1 k hk).trans (h1 k hk).1.symm), ⟨h2.2.2.1.trans (h.2.1.1.trans h2.1.symm), h2.2.2.2.trans (h.2.1.2.trans h2.2.1.symm)⟩, ⟨h3.2.2.1.trans (h.2.2.1.1.trans h3.1.symm), h3.2.2.2.trans (h.2.2.1.2.trans h3.2.1.symm)⟩, ⟨h4.1.trans h.2.2.2.1.1, h4.2.trans h.2.2.2.1.2⟩, h.2.2.2.2⟩
theorem invP.fr (h : invP I P n) (h1 : I2 0 13 = I 0 13) (h2 : I2 157 108 = I 157 108) (h3 : ∀ k : Nat, I2 155 k = I 155 k) (h4 : ∀ k : Nat, I2 235 k = I 235 k) : invP I2 P n :=
  ⟨h1.trans h.1, h2.trans h.2.1, h.2.2.1, fun j a b => (h3 _).trans (h.2.2.2.1 j a b), fun j a b => (h4 _).trans (h.2.2.2.2 j a b)⟩
end INV
def Inv (I : aFI) (L : aFL) (sh : Nat) : Prop := (sh = 8 ∨ sh = 22) ∧ ∃ (D : Nat → Int → Int) (cd : Nat → Option (List Int)) (X : Lk) (K : Int → Int → Int) (kc : Int) (T : Int → Int) (nt nx nw ct : Int) (U : List (Lk × Int)) (s : Int) (P : Int → Int) (np : Int),
  iS D cd ∧ stX D X kc ∧ invC I sh D cd X K kc ∧ invR I L D cd X K kc ∧ invT I T nt ∧ invU I D K kc nx nw ct U ∧ invM I L s ∧ invP I P np
/-- cells that say nothing from one call to the next -/
abbrev SCR : Nat → Nat → Prop := fun q k => q = 43 ∨ (39 ≤ q ∧ q ≤ 41) ∨ (106 ≤ q ∧ q ≤ 113) ∨ (3 ≤ q ∧ q ≤ 7) ∨ (q = 2 ∧ 4 ≤ k ∧ k ≤ 6) ∨ (q = 157 ∧ ((2 ≤ k ∧ k ≤ 6) ∨ k = 10 ∨ k = 43 ∨ k = 54 ∨ k = 55 ∨ k = 57 ∨ (63 ≤ k ∧ k ≤ 65) ∨ (98 ≤ k ∧ k ≤ 106))) ∨ q = 203 ∨ q = 205 ∨ q = 206 ∨ q = 232 ∨ q = 233
abbrev SCL : Nat → Nat → Prop := fun q k => q = 234 ∨ q = 204 ∨ (q = 157 ∧ k = 105)
section SAME
variable {sc : aSc} {d y pc nx n1 : Nat} {ls st : List Value} {I : aFI} {L : aFL} {R : aFR} {Q : aPo}
theorem w_same {t : Int} {a : Int32} (hc : aCod y pc = some (.if_icmp .eq t, nx)) (k : aWp sc d y t.toNat ls st I L R Q) : aWp sc d y pc ls (.int a :: .int a :: st) I L R Q := w_ic_eq hc (fun _ => k) (fun h => absurd rfl h)
theorem lg_same {a : Int64} : lg_cmp a a = 0 := by
  unfold lg_cmp
  split
  · rename_i h; exact absurd h Int64.lt_irrefl
  · first
    | rfl
    | (split
       · rfl
       · rename_i h1 h2; exact absurd rfl h2)
theorem w_lsame {t : Int} {a : Int64} (hc : aCod y pc = some (.lcmp, n1)) (h2 : aCod y n1 = some (.ifCond .eq t, nx)) (k : aWp sc d y t.toNat ls st I L R Q) : aWp sc d y pc ls (.long a :: .long a :: st) I L R Q := w_lcmp hc lg_same (w_if_eq h2 (fun _ => k) (fun h => absurd rfl h))
end SAME
theorem Inv.sc {I I2 : aFI} {L L2 : aFL} {sh : Nat} (h : Inv I L sh) (hF : frG (fun q k => SCR q k ∨ (q = 42 ∧ k = 1)) I I2) (hG : frG SCL L L2) (h4 : -1000000 ≤ (I2 42 1).toInt ∧ (I2 42 1).toInt ≤ 1000000) : Inv I2 L2 sh := by
  obtain ⟨hsh, D, cd, X, K, kc, T, nt, nx, nw, ct, U, s, P, np, a1, a2, a3, a4, a5, a6, a7, a8⟩ := h
  have h40 := a2.kc8
  refine ⟨hsh, D, cd, X, K, kc, T, nt, nx, nw, ct, U, s, P, np, a1, a2, a3.fr (by omega) ?_ ?_ ?_ h4, a4.fr ?_ ?_ ?_ ?_ ?_, a5.fr ?_ ?_ ?_ ?_, a6.fr ?_ ?_ ?_ ?_, a7.fr ?_ ?_ ?_ ?_, a8.fr ?_ ?_ ?_ ?_⟩
  all_goals first
    | exact hF _ _ (by omega)
    | (intro q k z1 z2; exact hF q k (by omega))
    | (intro q k z1; unfold isWd at z1; exact hF q k (by omega))
    | (intro k; exact hF _ k (by omega))
    | (intro k; exact hG _ k (by omega))
    | (intro k hk; exact ⟨hF _ k (by omega), hF _ k (by omega)⟩)
    | exact ⟨hF _ _ (by omega), hF _ _ (by omega), hF _ _ (by omega), hF _ _ (by omega)⟩
    | exact ⟨hG _ _ (by omega), hG _ _ (by omega)⟩
