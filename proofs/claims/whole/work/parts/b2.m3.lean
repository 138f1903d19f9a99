/-! the law: refusals, the ring -/
section INV2
variable {I I2 : aFI} {L L2 : aFL} {sh : Nat} {D : Nat → Int → Int} {cd : Nat → Option (List Int)} {X : Lk} {K K2 : Int → Int → Int} {kc kc2 nt nx nw ct s n : Int} {T P : Int → Int} {U : List (Lk × Int)}
/-- a refusal on both sides, the tape perhaps taken -/
theorem Inv.rt (h : Inv I L sh) {j : Nat} {v : Int} (hv : 0 ≤ v ∧ v ≤ 1600) (hF : frG (fun q k => SC4 q k ∨ ((q = 156 ∨ q = 159) ∧ k = j) ∨ (q = 0 ∧ k = 1) ∨ (q = 157 ∧ k = 1)) I I2) (hG : frG SCL L L2) (h4 : -1000000 ≤ (I2 42 1).toInt ∧ (I2 42 1).toInt ≤ 1000000) (t0 : I2 0 1 = iI v) (t1 : I2 157 1 = iI v) (e1 : I2 156 j = iI ((I 156 j).toInt + 1)) (e2 : I2 159 j = iI ((I 159 j).toInt + 1)) (hj : j < 6) : Inv I2 L2 sh := by
  obtain ⟨hsh, D, cd, X, K, kc, T, nt, nx, nw, ct, U, s, P, np, a1, a2, a3, a4, a5, a6, a7, a8⟩ := h
  have h40 := a2.kc8
  refine ⟨hsh, D, cd, X, K, kc, T, v, nx, nw, ct, U, s, P, np, a1, a2, a3.fr (by omega) ?_ ?_ ?_ h4, a4.fr ?_ ?_ ?_ ?_ ?_, a5.tn hv t0 t1 ?_ ?_, a6.fr ?_ ?_ ?_ ?_, ⟨fun k hk => ?_, ?_, ?_, ?_, a7.2.2.2.2⟩, a8.fr ?_ ?_ ?_ ?_⟩
  rotate_left 14
  · by_cases e : k = j
    · subst e; rw [e1, e2, a7.1 k hk]
    · rw [hF 159 k (by omega), hF 156 k (by omega)]; exact a7.1 k hk
  · rw [hF 157 7 (by omega), hF 157 8 (by omega), hF 2 7 (by omega), hF 2 8 (by omega)]; exact a7.2.1
  · rw [hF 157 67 (by omega), hF 157 68 (by omega), hF 0 14 (by omega), hF 0 15 (by omega)]; exact a7.2.2.1
  · rw [hG 0 17 (by omega), hG 157 72 (by omega)]; exact a7.2.2.2.1
  all_goals first
    | exact hF _ _ (by omega)
    | (intro q k z1 z2; exact hF q k (by omega))
    | (intro q k z1; unfold isWd at z1; exact hF q k (by omega))
    | (intro k; exact hF _ k (by omega))
    | (intro k; exact hG _ k (by omega))
/-- an act remembered on both sides -/
theorem invU.push (h : invU I D K kc nx nw ct U) (hR : invR I L D cd X K kc) (hX : stX D X kc) (hk : kc ≤ kc2) (hK : ∀ i j : Int, 0 ≤ i → i < kc → K2 i j = K i j) (h1 : I2 44 1 = iI ((nx + 1) % 20)) (h2 : I2 44 2 = iI (min 20 (ct + 1))) (h3 : I2 157 71 = iI ((nw + 1) % 20)) (h4 : I2 157 70 = iI (min 20 (ct + 1))) (hc : lkX I2 (46 + 3 * nx.toNat) kc X) (hr : ∀ k : Nat, k < 188 → I2 207 (188 * ((nw + 1) % 20).toNat + k) = I 202 k) (hF : ∀ a k : Nat, 46 ≤ a → a ≤ 105 → ¬ (46 + 3 * nx.toNat ≤ a ∧ a ≤ 46 + 3 * nx.toNat + 2) → I2 a k = I a k) (hG : ∀ k : Nat, ¬ (188 * ((nw + 1) % 20).toNat ≤ k ∧ k < 188 * ((nw + 1) % 20).toNat + 188) → I2 207 k = I 207 k) : invU I2 D K2 kc2 ((nx + 1) % 20) ((nw + 1) % 20) (min 20 (ct + 1)) ((X, kc) :: U.take 19) := by
  obtain ⟨_, hx, hw, hct, hl, hg⟩ := h
  have h40 := hX.kc8
  have hlt : ((U.take 19).length : Int) ≤ 19 ∧ ((U.take 19).length : Int) + 1 = min 20 (ct + 1) := by rw [List.length_take]; omega
  refine ⟨⟨h1, h2, h3, h4⟩, by omega, by omega, by omega, by rw [List.length_cons]; omega, ⟨?_, ?_, ?_, ?_, hX, hk⟩, ?_⟩
  · rw [show (((nx + 1) % 20 + 19) % 20) = nx by omega]; exact hc
  · exact nLk.fr hR.1.2 (fun k hk2 => hr k (by omega))
  · exact (hr 27 (by decide)).trans hR.2.1
  · intro i j e a b z1 z2 z3
    have e0 : slI I2 ((nw + 1) % 20).toNat 202 e.toNat = I 202 e.toNat := hr _ (by omega)
    rw [e0, hK i j a b]
    exact hR.2.2.1 i j e a b z1 z2 z3
  · rw [show (((nx + 1) % 20 + 19) % 20) = nx by omega, show (((nw + 1) % 20 + 19) % 20) = nw by omega]
    exact rng.sl (rng.take 19 hg) hx hw hx (by omega) (by omega) (by omega) hF hG hK (by omega)
theorem kA_lt {s de ink dr : Int} : ∀ i j : Int, 0 ≤ i → i < kc → kA K kc s de ink dr i j = K i j := fun i j _ h => by
  unfold kA; rw [if_neg (by omega)]
end INV2
