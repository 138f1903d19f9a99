/-! the lake's state, whatever was done: PURE -/
theorem popc_or : (List.range 256).all (fun w => (List.range 8).all (fun e => decide (w.testBit e = true ∨ popc (w ||| 2 ^ e) = popc w + 1))) = true := by decide +kernel
theorem popc_set {w e : Nat} (hw : w < 256) (he : e < 8) (h : w.testBit e = false) : popc (w ||| 2 ^ e) = popc w + 1 := by
  have h1 := of_decide_eq_true (List.all_eq_true.mp (List.all_eq_true.mp popc_or w (List.mem_range.mpr hw)) e (List.mem_range.mpr he))
  rcases h1 with h1 | h1
  · rw [h] at h1; cases h1
  · exact h1
def stX (D : Nat → Int → Int) (X : Lk) (kc : Int) : Prop := lkOK X ∧ (X.1 ≤ 999 ∧ X.2.1 ≤ 9999 ∧ X.2.2.1 ≤ 9999) ∧ X.2.2.2.1 < 2 ^ (D 1 2).toNat ∧ (D 0 0 = 1 → ∀ j : Int, D 1 2 ≤ j → j < 8 → X.2.2.2.2.1 j = 0 ∧ X.2.2.2.2.2 j = 99) ∧ 0 ≤ kc ∧ kc ≤ popc X.2.2.2.1
section STX
variable {D : Nat → Int → Int} {cd : Nat → Option (List Int)} {X : Lk} {kc : Int}
theorem stX.im (h : stX D X kc) : imOK X := by
  have h1 := h.1
  unfold lkOK at h1
  exact ⟨by have := h.2.1; omega, by have := h.2.1; omega, by have := h.2.1; omega, h1.2.2.2.2⟩
theorem stX.kc8 (h : stX D X kc) : 0 ≤ kc ∧ kc ≤ 8 := by
  have h1 := popc_le h.1.2.2.2.1
  have := h.2.2.2.2
  omega
theorem stX.kc40 (h : stX D X kc) : 0 ≤ kc ∧ kc < 40 := by have := h.kc8; omega
theorem stX.x0 (h : wfP D cd) : stX D (X0 D) 0 := by
  have hh := h.1.h
  have h2 := h.2.2.2
  show ((0 ≤ (0 : Int) ∧ (0 : Int) ≤ 1000) ∧ (0 ≤ D 0 2 ∧ D 0 2 ≤ 30000) ∧ (0 ≤ D 0 3 ∧ D 0 3 ≤ 30000) ∧ (0 : Nat) < 256 ∧ ∀ j : Int, 0 ≤ j → j < 8 → (0 ≤ (0 : Int) ∧ (0 : Int) ≤ 9999) ∧ (0 ≤ (99 : Int) ∧ (99 : Int) ≤ 99)) ∧ ((0 : Int) ≤ 999 ∧ D 0 2 ≤ 9999 ∧ D 0 3 ≤ 9999) ∧ (0 : Nat) < 2 ^ (D 1 2).toNat ∧ (D 0 0 = 1 → ∀ j : Int, D 1 2 ≤ j → j < 8 → (0 : Int) = 0 ∧ (99 : Int) = 99) ∧ 0 ≤ (0 : Int) ∧ (0 : Int) ≤ ((popc 0 : Nat) : Int)
  exact ⟨⟨by decide, by omega, by omega, by decide, fun j _ _ => by decide⟩, by omega, Nat.two_pow_pos _, fun _ j _ _ => ⟨rfl, rfl⟩, by decide, by decide⟩
theorem stX.draw (h : stX D X kc) (hS : wfS D cd) {e : Int} (he : 0 ≤ e ∧ e < D 1 2) (hc : cbZ D cd X e = true) : stX D (drawX X e (drwZ D cd X e)) (kc + 1) := by
  have hle := cbZ_le hc
  have hd := drwZ_rg (cd := cd) (X := X) hS he
  have hn := hS.n
  have hok := drawX_ok (X := X) (de := e) (dr := drwZ D cd X e) h.1 ⟨he.1, by omega⟩ ⟨hd.1, hle.1⟩
  obtain ⟨s, b, g, w, ink, age⟩ := X
  obtain ⟨h1, h2, h3, h4, h5, h6⟩ := h
  simp only at h2 h3 h4 h5 h6 hle
  refine ⟨hok, ⟨h2.1, ?_, ?_⟩, ?_, fun hD j z1 z2 => ?_, by omega, ?_⟩
  · show b - _ ≤ 9999; omega
  · show (if 0 < b then g - g * drwZ D cd (s, b, g, w, ink, age) e / b else g) ≤ 9999
    split
    · rename_i hb
      have hg : 0 ≤ g := h1.2.2.1.1
      have h7 : 0 ≤ g * drwZ D cd (s, b, g, w, ink, age) e / b := Int.ediv_nonneg (Int.mul_nonneg hg hd.1) (by omega)
      omega
    · exact h2.2.2
  · show w ||| 2 ^ e.toNat < 2 ^ (D 1 2).toNat
    exact or_lt h3 (Nat.pow_lt_pow_right (by omega) (by omega))
  · have h7 := h4 hD j z1 z2
    refine ⟨?_, ?_⟩
    · show cU ink e _ j = 0
      unfold cU; rw [if_neg (by omega)]; exact h7.1
    · show cU age e 0 j = 99
      unfold cU; rw [if_neg (by omega)]; exact h7.2
  · show kc + 1 ≤ ((popc (w ||| 2 ^ e.toNat) : Nat) : Int)
    have h7 : kc ≤ ((popc w : Nat) : Int) := h6
    have h8 := popc_set (w := w) (e := e.toNat) h1.2.2.2.1 (by omega) hle.2.2
    omega
theorem stX.sea (h : stX D X kc) (hS : wfS D cd) (hs : X.1 ≤ 998) {dry : Nat} : stX D (seaX D cd dry X) kc := by
  have hn := hS.n
  have hhh := hS.h
  have hok := seaX_ok (dry := dry) hS h.1 (by omega)
  obtain ⟨s, b, g, w, ink, age⟩ := X
  obtain ⟨h1, h2, h3, h4, h5, h6⟩ := h
  obtain ⟨g1, g2, g3, g4, g5⟩ := h1
  simp only at h2 h3 h4 h5 h6 hs g1 g2 g3
  have hs3 := sumB_rg (f := D 3) (dry := dry) (m := (D 1 0).toNat) (fun j z1 z2 => (hS.br z1 (by omega)).1) (D 1 0).toNat (by omega)
  have hs4 := sumB_rg (f := D 4) (dry := dry) (m := (D 1 0).toNat) (fun j z1 z2 => (hS.br z1 (by omega)).2) (D 1 0).toNat (by omega)
  have hb := flB_rg (b := b + sumB (D 3) dry (D 1 0).toNat) hS (by omega)
  have hg := flG_rg (b := b + sumB (D 3) dry (D 1 0).toNat) (g := g + sumB (D 4) dry (D 1 0).toNat) hS (by omega) (by omega)
  refine ⟨hok, ⟨by show s + 1 ≤ 999; omega, Int.le_trans hb.2 (by omega), hg.2⟩, h3, fun hD j z1 z2 => ?_, h5, h6⟩
  have h7 := h4 hD j z1 z2
  refine ⟨?_, ?_⟩
  · show fadI D cd s w ink age (D 1 2) j = 0
    unfold fadI; rw [if_neg (by omega)]; exact h7.1
  · show fadA w age (D 1 2) j = 99
    unfold fadA; rw [if_neg (by omega)]; exact h7.2
theorem stX.sN (h : stX D X kc) (hS : wfS D cd) : ∀ n : Nat, X.1 + n ≤ 999 → stX D (seaN D cd X n) kc
  | 0, _ => h
  | n + 1, hs => stX.sea (stX.sN h hS n (by omega)) hS (by rw [seaN_s]; omega)
theorem stX.yN (h : stX D X kc) (hS : wfS D cd) {s : Int} : ∀ n : Nat, X.1 + n ≤ 999 → stX D (yrF D cd X s n).1 kc
  | 0, _ => h
  | n + 1, hs => stX.sea (stX.yN h hS n (by omega)) hS (by rw [yrF_s]; omega)
theorem stX.pour (h : stX D X kc) {v : Int} (hv : 1 ≤ v) (hg : X.2.2.1 + v ≤ 9999) : stX D (X.1, X.2.1, X.2.2.1 + v, X.2.2.2) kc := by
  obtain ⟨s, b, g, w, ink, age⟩ := X
  obtain ⟨⟨g1, g2, g3, g4, g5⟩, h2, h3, h4, h5, h6⟩ := h
  simp only at h2 hg g3
  refine ⟨⟨g1, g2, ?_, g4, g5⟩, ⟨h2.1, h2.2.1, hg⟩, h3, h4, h5, h6⟩
  show 0 ≤ g + v ∧ g + v ≤ 30000; omega
theorem stX.on {T : Int → Int} {nt : Int} (hS : wfS D cd) (hT : ∀ j : Int, 0 ≤ T j ∧ T j ≤ 255) (h : imC D T nt) : stX D (onX D T) 0 := by
  obtain ⟨⟨h1, h2, _⟩, ⟨h3, h4, h5⟩, h6⟩ := h
  have hn := hS.n
  have hhh := hS.h
  have a0 := t2_rg hT 0
  have a2 := t2_rg hT 2
  have a4 := t2_rg hT 4
  refine ⟨⟨⟨a0.1, by show t2 T 0 ≤ 1000; omega⟩, ⟨a2.1, by show t2 T 2 ≤ 30000; omega⟩, ⟨a4.1, by show t2 T 4 ≤ 30000; omega⟩, bb_lt8 _ (by omega), fun j z1 z2 => ?_⟩, ⟨h3, by show t2 T 2 ≤ 9999; omega, h5⟩, bb_lt _ _, fun _ j z1 z2 => ?_, by decide, ?_⟩
  · show (0 ≤ (if 0 ≤ j ∧ j < D 1 2 then t2 T (7 + 4 * j) else 0) ∧ (if 0 ≤ j ∧ j < D 1 2 then t2 T (7 + 4 * j) else 0) ≤ 9999) ∧ (0 ≤ (if 0 ≤ j ∧ j < D 1 2 then T (9 + 4 * j) else 99) ∧ (if 0 ≤ j ∧ j < D 1 2 then T (9 + 4 * j) else 99) ≤ 99)
    by_cases hj : 0 ≤ j ∧ j < D 1 2
    · rw [if_pos hj, if_pos hj]
      have h7 := h6 j hj.1 hj.2
      unfold dOK at h7
      have e1 : 6 + 4 * j + 1 = 7 + 4 * j := by omega
      have e2 : 6 + 4 * j + 3 = 9 + 4 * j := by omega
      rw [e1, e2] at h7
      have b1 := t2_rg hT (7 + 4 * j)
      have b2 := hT (9 + 4 * j)
      omega
    · rw [if_neg hj, if_neg hj]; omega
  · show (if 0 ≤ j ∧ j < D 1 2 then t2 T (7 + 4 * j) else 0) = 0 ∧ (if 0 ≤ j ∧ j < D 1 2 then T (9 + 4 * j) else 99) = 99
    rw [if_neg (by omega), if_neg (by omega)]; exact ⟨rfl, rfl⟩
  · exact Int.ofNat_nonneg _
end STX
