/-! a test read by the class and by the reference: steps (p9b.py) -/
def pT (lo : Int) (f : Nat) (S T : Rs) (X : Nat → Nat → Oc) (r : Oc) : Prop := (¬ T.f = 0 → r.1 = T.f ∧ r.2.1 = T.pl) ∧ (T.f = 0 → lo ≤ T.ln ∧ T.ln + S.a ≤ S.ln + T.a ∧ ∃ f2 j2 : Nat, (j2 : Int) = T.a ∧ (f : Int) + S.a ≤ f2 + T.a ∧ oe r (X f2 j2))
theorem pT.bind {lo : Int} {f : Nat} {S T1 T : Rs} {X1 X : Nat → Nat → Oc} {r : Oc} (h1 : pT lo f S T1 X1 r) (hf : ¬ T1.f = 0 → T.f = T1.f ∧ T.pl = T1.pl) (h2 : T1.f = 0 → ∀ f2 j2 : Nat, (j2 : Int) = T1.a → (f : Int) + S.a ≤ f2 + T1.a → lo ≤ T1.ln → T1.ln + S.a ≤ S.ln + T1.a → pT lo f2 T1 T X (X1 f2 j2)) : pT lo f S T X r := by
  by_cases h0 : T1.f = 0
  · obtain ⟨a1, a2, f2, j2, a3, a4, a5⟩ := h1.2 h0
    have h3 := h2 h0 f2 j2 a3 a4 a1 a2
    refine ⟨fun hz => ?_, fun hz => ?_⟩
    · have := h3.1 hz
      exact ⟨a5.1.trans this.1, a5.2.1.trans this.2⟩
    · obtain ⟨b1, b2, f3, j3, b3, b4, b5⟩ := h3.2 hz
      exact ⟨b1, by omega, f3, j3, b3, by omega, a5.tr b5⟩
  · have h4 := hf h0
    refine ⟨fun _ => ?_, fun hz => absurd (h4.1 ▸ hz) h0⟩
    rw [h4.1, h4.2]; exact h1.1 h0
theorem pT.pre {lo : Int} {f : Nat} {S T : Rs} {X : Nat → Nat → Oc} {r r2 : Oc} (h : pT lo f S T X r2) (h2 : r = r2) : pT lo f S T X r := h2 ▸ h
theorem pT.sub {lo : Int} {f f1 : Nat} {S S1 T : Rs} {X : Nat → Nat → Oc} {r : Oc} (h : pT lo f1 S1 T X r) (h1 : (f : Int) + S.a ≤ f1 + S1.a) (h2 : S1.ln + S.a ≤ S.ln + S1.a) : pT lo f S T X r := ⟨h.1, fun z => by
  obtain ⟨b1, b2, f3, j3, b3, b4, b5⟩ := h.2 z
  exact ⟨b1, by omega, f3, j3, b3, by omega, b5⟩⟩
theorem pT.flt {lo : Int} {f j : Nat} {S T : Rs} {X : Nat → Nat → Oc} {O : List Int} {op c p : Int} (h0 : ¬ c = 0) (h1 : T.f = c) (h2 : T.pl = p) : pT lo f S T X (c, p, j, O, op) := ⟨fun _ => ⟨h1.symm, h2.symm⟩, fun z => absurd (h1 ▸ z) h0⟩
theorem pT.fin1 {lo : Int} {f f1 j : Nat} {S T : Rs} {X : Nat → Nat → Oc} (hj : (j : Int) = T.a) (h1 : (f : Int) + S.a ≤ f1 + T.a) (h2 : T.ln + S.a ≤ S.ln + T.a) (h3 : T.f = 0) (h4 : lo ≤ T.ln) : pT lo f S T X (X f1 j) := ⟨fun z => absurd h3 z, fun _ => ⟨h4, h2, f1, j, hj, h1, oe.rf⟩⟩
theorem pT.rP {lo x : Int} {f f1 : Nat} {S S1 T : Rs} {X X2 : Nat → Nat → Oc} {r : Oc} (h : pT lo f1 S1 T X r) (h1 : (f : Int) + S.a ≤ f1 + S1.a) (h2 : S1.ln + (S.a + 1) ≤ S.ln + S1.a) (hl : T.f = 0 → lo ≤ T.ln → T.ln + S1.a ≤ S1.ln + T.a → T.ln < 1600) (hX : T.f = 0 → lo ≤ T.ln → T.ln < 1600 → ∀ f2 j2 : Nat, (j2 : Int) = T.a → oe (X f2 j2) (X2 f2 j2)) : pT lo f S (rP x T) X2 r := by
  obtain ⟨e3, e4, e1, e2⟩ := rP_e (S := T) (x := x)
  refine ⟨fun z => ?_, fun z => ?_⟩
  · rw [e1] at z ⊢; rw [e2]; exact h.1 z
  · rw [e1] at z
    obtain ⟨b1, b2, f3, j3, b3, b4, b5⟩ := h.2 z
    have hl := hl z b1 b2
    have e5 := rP_ln (x := x) hl
    exact ⟨by omega, by omega, f3, j3, by omega, by omega, b5.tr (hX z b1 hl f3 j3 b3)⟩
section DT
variable {K PL Z : Nat → Int} {tk : Int} {f j : Nat} {W O : List Int} {op p : Int}
theorem m25 (hp : ¬ p = 25) : ((25 : Int) ∈ p :: W) = ((25 : Int) ∈ W) := propext ⟨fun z => (List.mem_cons.mp z).resolve_left (fun z => hp z.symm), fun z => List.mem_cons_of_mem _ z⟩
theorem d_ao (hp : (p = 10) ∨ (p = 11 ∧ ¬ K j = 327)) : oe (rmT K PL Z tk f 1 j (p :: W) O op) (rmT K PL Z tk f 1 j W (p :: O) op) := by
  cases f with
  | zero => exact oe.flt (by decide)
  | succ f =>
    have n1 : n25 p = true := by show (!decide (p = 25)) = true; rw [decide_eq_false (by omega)]; rfl
    have n2 : iAO p = true := decide_eq_true (by omega)
    rw [rmT_1, rmT_1, dW_t (q := n25) n1, dW_t (q := iAO) n2, dW_t (q := fun _ => true) rfl]
    simp only [m25 (W := W) (show ¬ p = 25 by omega)]
    by_cases h1 : K j = 93 ∧ (25 : Int) ∈ W
    · rw [if_pos h1, if_pos h1]; exact oe.rf
    · rw [if_neg h1, if_neg h1]
      by_cases h2 : K j = 327
      · rw [if_pos h2, if_pos h2, dW_t (q := i10) (decide_eq_true (by omega))]; exact oe.rf
      · rw [if_neg h2, if_neg h2]
        by_cases h3 : K j = 326
        · rw [if_pos h3, if_pos h3]; exact oe.rf
        · rw [if_neg h3, if_neg h3]
          by_cases h4 : (25 : Int) ∈ W
          · rw [if_pos h4, if_pos h4]; exact oe.flt (by decide)
          · rw [if_neg h4, if_neg h4]; exact oe.rf
theorem eN_no (hU : ∀ v : Int, W.head? = some v → ¬ v = 12) : eN W O op = (W, O, op) := by
  cases W with
  | nil => rfl
  | cons u U => have := hU u rfl; show (if u = 12 then _ else _) = _; rw [if_neg this]
abbrev ET (K PL Z : Nat → Int) (tk : Int) (f j : Nat) (t : List Int × List Int × Int) : Oc := rmT K PL Z tk f 1 j t.1 t.2.1 t.2.2
theorem rmT1_close (hk : K j = 93) : rmT K PL Z tk (f + 1) 1 j (25 :: W) O op = ET K PL Z tk f (j + 1) (eN W O (op - 1)) := by
  have e : dW n25 (25 :: W) O = (25 :: W, O) := by show (if n25 25 = true then _ else _) = _; rw [if_neg (by decide)]
  rw [rmT_1, if_pos ⟨hk, List.mem_cons_self⟩, e]; rfl
theorem rmT1_noclose (hk : ¬ K j = 93) (h1 : ¬ K j = 327) (h2 : ¬ K j = 326) : rmT K PL Z tk (f + 1) 1 j (25 :: W) O op = (1, PL j, j, O, op) := by
  rw [rmT_1, if_neg (fun z => hk z.1), if_neg h1, if_neg h2, if_pos List.mem_cons_self]
theorem rmT1_and (hk : K j = 327) (hU : ∀ v : Int, W.head? = some v → ¬ v = 10) : rmT K PL Z tk (f + 1) 1 j W O op = rmT K PL Z tk f 0 (j + 1) (10 :: W) O op := by
  rw [rmT_1, if_neg (fun z => by have := z.1; omega), if_pos hk, dW_no (fun v hv z => hU v hv (of_decide_eq_true z))]
theorem rmT1_or (hk : K j = 326) (hU : ∀ v : Int, W.head? = some v → ¬ (v = 10 ∨ v = 11)) : rmT K PL Z tk (f + 1) 1 j W O op = rmT K PL Z tk f 0 (j + 1) (11 :: W) O op := by
  rw [rmT_1, if_neg (fun z => by have := z.1; omega), if_neg (by omega), if_pos hk, dW_no (fun v hv z => hU v hv (of_decide_eq_true z))]
theorem rmT1_end (h1 : ¬ K j = 327) (h2 : ¬ K j = 326) : rmT K PL Z tk (f + 1) 1 j [] O op = (0, 0, j, O, op) := by
  rw [rmT_1, if_neg (fun z => absurd z.2 List.not_mem_nil), if_neg h1, if_neg h2, if_neg List.not_mem_nil]; rfl
theorem rmT0_sq (hk : K j = 91) : rmT K PL Z tk (f + 1) 0 j W O op = if op = 6 then (4, PL j, j, O, op) else rmT K PL Z tk f 0 (j + 1) (25 :: W) O (op + 1) := by rw [rmT_0, if_pos hk]
theorem rmT0_not (hk : K j = 328) : rmT K PL Z tk (f + 1) 0 j W O op = if op = 6 then (4, PL j, j, O, op) else rmT K PL Z tk f 0 (j + 1) (12 :: W) O (op + 1) := by rw [rmT_0, if_neg (by omega), if_pos hk]
theorem rmT0_f (hk : ¬ K j = 91) (hk2 : ¬ K j = 328) (h : ¬ (ftR K PL Z tk j O op).1 = 0) : rmT K PL Z tk (f + 1) 0 j W O op = ftR K PL Z tk j O op := by rw [rmT_0, if_neg hk, if_neg hk2, if_pos h]
theorem rmT0_g {j2 : Nat} {O2 : List Int} {op2 : Int} (hk : ¬ K j = 91) (hk2 : ¬ K j = 328) (h : ftR K PL Z tk j O op = (0, 0, j2, O2, op2)) : rmT K PL Z tk (f + 1) 0 j W O op = ET K PL Z tk f j2 (eN W O2 op2) := by rw [rmT_0, if_neg hk, if_neg hk2, h, if_neg (fun z => z rfl)]
end DT
/-- a sum on its own -/
theorem sumEnd {K PL SZ : Int → Int} {rl tk n lo : Int} {g : Nat} (hK : ∀ j : Int, 0 ≤ j → j < n → (K j = 341 ↔ j = n - 1)) (h3 : A3 K PL SZ rl tk n lo g) {S : Rs} {f j : Nat} (hp : pre n lo S f j) (hg : 16 * (n - S.a) + 3 < g) : (¬ (rd K PL SZ rl g 3 S).f = 0 → (RM K PL SZ tk f 0 j [] (oL lo S) S.op).1 = (rd K PL SZ rl g 3 S).f ∧ (RM K PL SZ tk f 0 j [] (oL lo S) S.op).2.1 = (rd K PL SZ rl g 3 S).pl) ∧ ((rd K PL SZ rl g 3 S).f = 0 → lo ≤ (rd K PL SZ rl g 3 S).ln ∧ (rd K PL SZ rl g 3 S).ln + S.a ≤ S.ln + (rd K PL SZ rl g 3 S).a ∧ noOp (K (rd K PL SZ rl g 3 S).a) ∧ RM K PL SZ tk f 0 j [] (oL lo S) S.op = (0, 0, (rd K PL SZ rl g 3 S).a.toNat, oL lo (rd K PL SZ rl g 3 S), S.op)) := by
  obtain ⟨q1, q2⟩ := h3 S f j [] hp ⟨hg, fun v hv => by cases hv⟩
  have G := rd_g (SZ := SZ) (rl := rl) (PL := PL) hK g 3 S hp.1 (by decide) (by simp only [rk]; omega)
  refine ⟨q1.1, fun hz => ?_⟩
  obtain ⟨b1, b2, f3, j3, b3, b4, b5⟩ := q1.2 hz
  have hno := q2 hz
  have hT := G.1.1
  obtain ⟨f3, rfl⟩ : ∃ x, f3 = x + 1 := ⟨f3 - 1, by have := hp.2.2.2.2.2; omega⟩
  have e := rm2_end (K := fun j : Nat => K j) (PL := fun j : Nat => PL j) (Z := fun j : Nat => SZ j) (tk := tk) (f := f3) (j := j3) (O := oL lo (rd K PL SZ rl g 3 S)) (op := S.op) (by show ¬ (K (j3 : Int) = 42 ∨ K (j3 : Int) = 47); rw [b3]; exact hno.1) (by show ¬ (K (j3 : Int) = 43 ∨ K (j3 : Int) = 45); rw [b3]; exact hno.2)
  have b6 := b5.tr (oe.of e)
  have b7 := b6.2.2 b6.1
  rw [show j3 = (rd K PL SZ rl g 3 S).a.toNat by omega] at b7
  exact ⟨b1, b2, hno, b7⟩

