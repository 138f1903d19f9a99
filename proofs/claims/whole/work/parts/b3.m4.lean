/-! the law: what changes something -/
section INV3
variable {I I2 : aFI} {L L2 : aFL} {sh : Nat} {D : Nat → Int → Int} {cd : Nat → Option (List Int)} {X X2 : Lk} {K K2 : Int → Int → Int} {kc kc2 nt nx nw ct nx2 nw2 ct2 s s2 n : Int} {T P : Int → Int} {U U2 : List (Lk × Int)}
/-- the class alone has run -/
theorem invR.cl (h : invR I L D cd X K kc) (hF : ∀ q k : Nat, 157 ≤ q → I2 q k = I q k) : invR I2 L D cd X K kc :=
  h.fr (fun q k z1 z2 => hF q k (by omega)) (fun q k z1 => by unfold isWd at z1; exact hF q k (by omega)) (hF _ _ (by omega)) (hF _ _ (by omega)) (fun _ => rfl)
abbrev SCG : Nat → Nat → Prop := fun q k => SC4 q k ∨ (q = 0 ∧ (k = 1 ∨ k = 14 ∨ k = 15)) ∨ (q = 157 ∧ (k = 1 ∨ k = 7 ∨ k = 8 ∨ k = 67 ∨ k = 68)) ∨ (q = 2 ∧ (k = 7 ∨ k = 8))
/-- tape taken, faults and flows told anew -/
theorem Inv.gen (h : Inv I L sh) {v : Int} (hv : 0 ≤ v ∧ v ≤ 1600) (hF : frG SCG I I2) (hG : frG SCL L L2) (h4 : -1000000 ≤ (I2 42 1).toInt ∧ (I2 42 1).toInt ≤ 1000000) (t0 : I2 0 1 = iI v) (t1 : I2 157 1 = iI v) (e1 : I2 157 7 = I2 2 7 ∧ I2 157 8 = I2 2 8) (e2 : I2 157 67 = I2 0 14 ∧ I2 157 68 = I2 0 15) : Inv I2 L2 sh := by
  obtain ⟨hsh, D, cd, X, K, kc, T, nt, nx, nw, ct, U, s, P, np, a1, a2, a3, a4, a5, a6, a7, a8⟩ := h
  have h40 := a2.kc8
  refine ⟨hsh, D, cd, X, K, kc, T, v, nx, nw, ct, U, s, P, np, a1, a2, a3.fr (by omega) ?_ ?_ ?_ h4, a4.fr ?_ ?_ ?_ ?_ ?_, a5.tn hv t0 t1 ?_ ?_, a6.fr ?_ ?_ ?_ ?_, ⟨fun k hk => ?_, e1, e2, ?_, a7.2.2.2.2⟩, a8.fr ?_ ?_ ?_ ?_⟩
  rotate_left 14
  · rw [hF 159 k (by omega), hF 156 k (by omega)]; exact a7.1 k hk
  · rw [hG 0 17 (by omega), hG 157 72 (by omega)]; exact a7.2.2.2.1
  all_goals first
    | exact hF _ _ (by omega)
    | (intro q k z1 z2; exact hF q k (by omega))
    | (intro q k z1; unfold isWd at z1; exact hF q k (by omega))
    | (intro k; exact hF _ k (by omega))
    | (intro k; exact hG _ k (by omega))
/-- cells that an act on the lake changes, slots p and r of the rings -/
abbrev SCA : Nat → Nat → Prop := fun q k => SC4 q k ∨ (36 ≤ q ∧ q ≤ 38) ∨ (44 ≤ q ∧ q ≤ 105) ∨ (115 ≤ q ∧ q ≤ 154) ∨ q = 202 ∨ q = 207 ∨ (q = 157 ∧ (k = 70 ∨ k = 71))
/-- the lake changed on both sides -/
theorem Inv.act (hsh : sh = 8 ∨ sh = 22) (a1 : iS D cd) (a2 : stX D X2 kc2) (a3 : invC I sh D cd X K kc) (a4 : invR I L D cd X K kc) (a5 : invT I T nt) (a8 : invP I P n) (hm : ∀ k : Nat, k < 6 → I 159 k = I 156 k) (hf : I 157 7 = I 2 7 ∧ I 157 8 = I 2 8) (hfl : I 157 67 = I 0 14 ∧ I 157 68 = I 0 15) (hF : frG SCA I I2) (hG : ∀ k : Nat, L2 193 k = L 193 k) (h4 : -1000000 ≤ (I2 42 1).toInt ∧ (I2 42 1).toInt ≤ 1000000) (hs : L2 0 17 = lI s2 ∧ L2 157 72 = lI s2) (hs2 : 0 ≤ s2 ∧ s2 < 2147483648) (c1 : lkX I2 36 kc2 X2) (c2 : kpC I2 K2 kc2) (r1 : rX I2 202 X2) (r2 : I2 202 27 = iI kc2) (r3 : kpR I2 202 0 K2 kc2) (a6 : invU I2 D K2 kc2 nx2 nw2 ct2 U2) : Inv I2 L2 sh := by
  refine ⟨hsh, D, cd, X2, K2, kc2, T, nt, nx2, nw2, ct2, U2, s2, P, n, a1, a2, ⟨a3.1.fr ?_, c1, c2, h4⟩, ⟨⟨a4.1.1.fr ?_ ?_, r1⟩, r2, r3, fun k a i b c => (hG _).trans (a4.2.2.2.1 k a i b c), fun q a j b c => ?_, ?_⟩, a5.fr ?_ ?_ ?_ ?_, a6, ⟨fun k hk => ?_, ?_, ?_, hs, hs2⟩, a8.fr ?_ ?_ ?_ ?_⟩
  · intro p k z1 z2; exact hF p k (by omega)
  · intro q k z1 z2; exact hF q k (by omega)
  · exact hF _ _ (by omega)
  · have a' := a
    unfold isWd at a'
    rw [hF q _ (by omega)]; exact a4.2.2.2.2.1 q a j b c
  · rw [hF _ _ (by omega)]; exact a4.2.2.2.2.2
  · exact hF _ _ (by omega)
  · exact hF _ _ (by omega)
  · intro k; exact hF _ k (by omega)
  · intro k; exact hF _ k (by omega)
  · rw [hF 159 k (by omega), hF 156 k (by omega)]; exact hm k hk
  · rw [hF 157 7 (by omega), hF 157 8 (by omega), hF 2 7 (by omega), hF 2 8 (by omega)]; exact hf
  · rw [hF 157 67 (by omega), hF 157 68 (by omega), hF 0 14 (by omega), hF 0 15 (by omega)]; exact hfl
  · exact hF _ _ (by omega)
  · exact hF _ _ (by omega)
  · intro k; exact hF _ k (by omega)
  · intro k; exact hF _ k (by omega)
end INV3
