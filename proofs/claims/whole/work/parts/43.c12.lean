/-! the class: a shore's own cells under the reading (c12.py) -/
/-- one row over the rest -/
def oH (I : aFI) (r : Nat) (A : Int → Int) : aFI := fun q k => if q = r then iI (A k) else I q k
section OH
variable {I : aFI} {s x r : Nat} {S : Rs} {NM FR TO A : Int → Int} {j z : Int}
theorem oH_c (hj : 0 ≤ j) : aUp (oH I r A) r j.toNat (iI z) = oH I r (cU A j z) := by
  funext q k; unfold aUp oH cU
  by_cases h1 : q = r
  · subst h1
    rw [if_pos rfl, if_pos rfl]
    by_cases h2 : k = j.toNat
    · rw [if_pos ⟨rfl, h2⟩, if_pos (by omega)]
    · rw [if_neg (fun z => h2 z.2), if_neg (by omega)]
  · rw [if_neg (fun z => h1 z.1), if_neg h1, if_neg h1]
theorem oH_at (hj : 0 ≤ j) : oH I r A r j.toNat = iI (A j) := by
  unfold oH; rw [if_pos rfl, Int.toNat_of_nonneg hj]
theorem oH_ne {q k : Nat} (h : ¬ q = r) : oH I r A q k = I q k := if_neg h
theorem oF_out {q k : Nat} {v : Int32} (h1 : ¬ q = s + 2) (h2 : ¬ q = s + 3) : aUp (oF I s FR TO) q k v = oF (aUp I q k v) s FR TO := by
  funext q2 k2
  unfold aUp oF
  by_cases h3 : q2 = q ∧ k2 = k
  · obtain ⟨rfl, rfl⟩ := h3
    rw [if_pos ⟨rfl, rfl⟩, if_neg h1, if_neg h2]
    show _ = (if q2 = q2 ∧ k2 = k2 then v else I q2 k2)
    rw [if_pos ⟨rfl, rfl⟩]
  · simp only [h3, if_false]
/-- a shore's cell written -/
theorem oX_out {k m : Nat} {v : Int32} (hs : aSm s) (hx : x = 8 ∨ x = 22) (hk : k < 10) : aUp (oS (oN (oF I s FR TO) NM) s S) (x + k) m v = oS (oN (oF (aUp I (x + k) m v) s FR TO) NM) s S := by
  have e0 : (¬ x + k = 2 ∧ ¬ x + k = 7) ∧ ((¬ x + k = s ∧ ¬ x + k = s + 1) ∧ (¬ x + k = s + 2 ∧ ¬ x + k = s + 3)) := by
    rcases hs with rfl | rfl | rfl <;> omega
  rw [oS_out e0.1.1 e0.2.1.1 e0.2.1.2, oN_out e0.1.2, oF_out e0.2.2.1 e0.2.2.2]
/-- a shore's cell read -/
theorem rX_out {k m : Nat} (hs : aSm s) (hx : x = 8 ∨ x = 22) (hk : k < 10) : oS (oN (oF I s FR TO) NM) s S (x + k) m = I (x + k) m := by
  have e0 : ¬ x + k = s + 2 ∧ ¬ x + k = s + 3 := by rcases hs with rfl | rfl | rfl <;> omega
  rw [show oS (oN (oF I s FR TO) NM) s S (x + k) m = oF I s FR TO (x + k) m from rS_sh hs hx hk]
  unfold oF
  rw [if_neg e0.1, if_neg e0.2]
/-- a letter of a shore's row put -/
theorem oX_l (hs : aSm s) (hx : x = 8 ∨ x = 22) (hj : 0 ≤ j) : aUp (oS (oN (oF (oH I (x + 2) A) s FR TO) NM) s S) (x + 2) j.toNat (iI z) = oS (oN (oF (oH I (x + 2) (cU A j z)) s FR TO) NM) s S := by
  rw [oX_out hs hx (by decide), oH_c hj]
end OH
