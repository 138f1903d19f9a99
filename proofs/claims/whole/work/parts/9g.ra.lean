/-! the reference: one mark after another, whatever stands already (p9g.py) -/
/-- fault, place, mark -/
abbrev Cu := Int × Int × Nat
def cu (T : Int → Int) (n : Int) (C : Cu) (a en b bp : Int) : Prop := b = C.1 ∧ (0 ≤ b ∧ b < 10) ∧ (b = 0 → rA T n C.2.2 a ∧ en = (tkS T n C.2.2).2 ∧ bp = -1) ∧ (¬ b = 0 → aF n a en ∧ bp = C.2.1)
def cWd (K : Nat → Int) (PL : Nat → Int) (m : Int) (C : Cu) : Cu := if C.1 = 0 then (if K C.2.2 = m then (0, 0, C.2.2 + 1) else (1, PL C.2.2, C.2.2)) else C
def cNu (K PL Z : Nat → Int) (lo hi : Int) (C : Cu) : Cu := if C.1 = 0 then (if ¬ K C.2.2 = 339 then (1, PL C.2.2, C.2.2) else if Z C.2.2 = -1 then (1, PL C.2.2 + 4, C.2.2) else if lo ≤ Z C.2.2 ∧ Z C.2.2 ≤ hi then (0, 0, C.2.2 + 1) else (2, PL C.2.2, C.2.2)) else C
/-- a name: its length, and whether it will do (du: a fault 3 at it) -/
def cNm (K PL Z : Nat → Int) (du : Prop) [Decidable du] (C : Cu) : Cu := if C.1 = 0 then (if ¬ (332 ≤ K C.2.2 ∧ K C.2.2 ≤ 338) then (1, PL C.2.2, C.2.2) else if 6 < Z C.2.2 then (1, PL C.2.2 + 6, C.2.2) else if du then (3, PL C.2.2, C.2.2) else (0, 0, C.2.2 + 1)) else C
section CU
variable {d : Nat} {I : aFI} {L : aFL} {Q : aPo} {T : Int → Int} {n : Int} {sh : Nat} {su : Option Nat} {C : Cu} {a en b bp np nm : Int}
theorem cu.good {j : Nat} (h : rA T n j a) (hbp : bp = -1) : cu T n (0, 0, j) a (tkS T n j).2 0 bp := ⟨rfl, by decide, fun _ => ⟨h, rfl, hbp⟩, fun z => absurd rfl z⟩
theorem cu.bad {j : Nat} {c p : Int} (hc : 0 < c ∧ c < 10) (h : aF n a en) : cu T n (c, p, j) a en c p := ⟨rfl, by omega, fun z => by omega, fun _ => ⟨h, rfl⟩⟩
theorem cu.cs (h : cu T n C a en b bp) : (C.1 = 0 ∧ b = 0 ∧ rA T n C.2.2 a ∧ en = (tkS T n C.2.2).2 ∧ bp = -1) ∨ (¬ C.1 = 0 ∧ ¬ b = 0 ∧ aF n a en ∧ bp = C.2.1 ∧ aRg b) := by
  by_cases z : b = 0
  · exact Or.inl ⟨h.1 ▸ z, z, (h.2.2.1 z).1, (h.2.2.1 z).2.1, (h.2.2.1 z).2.2⟩
  · exact Or.inr ⟨fun y => z (h.1.trans y), z, (h.2.2.2 z).1, (h.2.2.2 z).2, by have := h.2.1; unfold aRg; omega⟩
theorem tu_asksW (hB : oB I T n) (hO : oW I) {q : Nat} (hq : isWd q) (hd : 4 ≤ d) (hC : cu T n C a en b bp) (k : ∀ a2 en2 b2 bp2 : Int, cu T n (cWd (tkK T n) (tkP T n) (wcode q) C) a2 en2 b2 bp2 → Q none (oP I a2 en2 b2 bp2 np nm) L (aR sh su)) : aWp none d 139 0 [.ref 157, .ref q] [] (oP I a en b bp np nm) L (aR sh su) Q := by
  have hn := hB.2.2.1
  unfold cWd at k
  rcases hC.cs with ⟨h1, rfl, h3, rfl, hbp⟩ | ⟨h1, h2, h3, h4, h5⟩
  · rw [if_pos h1] at k
    refine tt_asksW hB hO hq hd h3 (fun hk a2 hA2 => ?_) (fun hk => ?_)
    · rw [if_pos hk] at k; exact k _ _ _ _ (cu.good hA2 hbp)
    · rw [if_neg hk] at k; exact k _ _ _ _ (cu.bad (by decide) ⟨tkP_rg hn.1, en_rg hn⟩)
  · rw [if_neg h1] at k
    exact tf_asksW hB hO hq hd h2 h5 h3 (k _ _ _ _ hC)
theorem tu_asksSign (hB : oB I T n) {c : Int} (hc : sgn c) (hd : 2 ≤ d) (hC : cu T n C a en b bp) (k : ∀ a2 en2 b2 bp2 : Int, cu T n (cWd (tkK T n) (tkP T n) c C) a2 en2 b2 bp2 → Q none (oP I a2 en2 b2 bp2 np nm) L (aR sh su)) : aWp none d 141 0 [.ref 157, .int (iI c)] [] (oP I a en b bp np nm) L (aR sh su) Q := by
  have hn := hB.2.2.1
  have hc2 := hc.1
  unfold cWd at k
  rcases hC.cs with ⟨h1, rfl, h3, rfl, hbp⟩ | ⟨h1, h2, h3, h4, h5⟩
  · rw [if_pos h1] at k
    refine tt_asksSign hB hc hd h3 (fun hk a2 hA2 => ?_) (fun hk => ?_)
    · rw [if_pos hk] at k; exact k _ _ _ _ (cu.good hA2 hbp)
    · rw [if_neg hk] at k; exact k _ _ _ _ (cu.bad (by decide) ⟨tkP_rg hn.1, en_rg hn⟩)
  · rw [if_neg h1] at k
    exact tf_asksSign hB (by omega) hd h2 h5 h3 (k _ _ _ _ hC)
theorem tu_number (hB : oB I T n) {lo hi : Int} (hlo : 0 ≤ lo ∧ lo < 20000) (hhi : 0 ≤ hi ∧ hi < 20000) (hd : 1 ≤ d) (hC : cu T n C a en b bp) (k : ∀ a2 en2 b2 bp2 np2 v : Int, (0 ≤ v ∧ v ≤ 9999) → cu T n (cNu (tkK T n) (tkP T n) (tkZ T n) lo hi C) a2 en2 b2 bp2 → ((cNu (tkK T n) (tkP T n) (tkZ T n) lo hi C).1 = 0 → v = tkZ T n C.2.2 ∧ lo ≤ v ∧ v ≤ hi) → Q (some (.int (iI v))) (oP I a2 en2 b2 bp2 np2 nm) L (aR sh su)) : aWp none d 142 0 [.ref 157, .int (iI lo), .int (iI hi), .null, .null] [] (oP I a en b bp np nm) L (aR sh su) Q := by
  have hn := hB.2.2.1
  unfold cNu at k
  rcases hC.cs with ⟨h1, rfl, h3, rfl, hbp⟩ | ⟨h1, h2, h3, h4, h5⟩
  · rw [if_pos h1] at k
    refine tt_number hB hlo hhi hd h3 (fun z1 => ?_) (fun z1 z2 a2 en2 hA2 => ?_) (fun z1 z2 z3 a2 en2 hA2 => ?_) (fun z1 z2 z3 a2 hA2 => ?_)
    · rw [if_pos z1] at k; exact k _ _ _ _ _ 0 (by decide) (cu.bad (by decide) ⟨tkP_rg hn.1, en_rg hn⟩) (fun z => absurd (show (1 : Int) = 0 from z) (by decide))
    · rw [if_neg (fun z => z z1), if_pos z2] at k; exact k _ _ _ _ _ 0 (by decide) (cu.bad (by decide) hA2) (fun z => absurd (show (1 : Int) = 0 from z) (by decide))
    · rw [if_neg (fun z => z z1), if_neg (by omega), if_neg z3] at k; exact k _ _ _ _ _ _ z2 (cu.bad (by decide) hA2) (fun z => absurd (show (2 : Int) = 0 from z) (by decide))
    · rw [if_neg (fun z => z z1), if_neg (by omega), if_pos z3] at k; exact k _ _ _ _ _ _ z2 (cu.good hA2 hbp) (fun _ => ⟨rfl, z3⟩)
  · rw [if_neg h1] at k
    exact tf_number hB hlo hhi hd h2 h5 h3 (k _ _ _ _ _ 0 (by decide) hC (fun z => absurd z h1))
end CU

