/-! the class's reader and the reference's: sums (p96.py) -/
/-- two ways that end alike: the same mark, the same place, and without a fault the same in all -/
def oe (r r2 : Oc) : Prop := r.1 = r2.1 ∧ r.2.1 = r2.2.1 ∧ (r.1 = 0 → r = r2)
theorem oe.rf {r : Oc} : oe r r := ⟨rfl, rfl, fun _ => rfl⟩
theorem oe.of {r r2 : Oc} (h : r = r2) : oe r r2 := h ▸ oe.rf
theorem oe.tr {r r2 r3 : Oc} (h : oe r r2) (h2 : oe r2 r3) : oe r r3 := ⟨h.1.trans h2.1, h.2.1.trans h2.2.1, fun z => (h.2.2 z).trans (h2.2.2 (h.1 ▸ z))⟩
theorem oe.flt {c p : Int} {j j2 : Nat} {O O2 : List Int} {op op2 : Int} (hc : ¬ c = 0) : oe (c, p, j, O, op) (c, p, j2, O2, op2) := ⟨rfl, rfl, fun z => absurd z hc⟩
section DL
variable {K PL Z : Nat → Int} {tk : Int} {f j : Nat} {U O : List Int} {op p : Int}
theorem br_no (hp : isSu p = true) : isBr p = false := by
  have := of_decide_eq_true hp
  exact decide_eq_false (by omega)
theorem brk_su (hp : isSu p = true) : brk (p :: U) = brk U := by show (if isBr p = true then p else brk U) = _; rw [if_neg (by rw [br_no hp]; decide)]
theorem dW_t {q : Int → Bool} (h : q p = true) : dW q (p :: U) O = dW q U (p :: O) := by show (if q p = true then _ else _) = _; rw [if_pos h]
theorem nBr_su (hp : isSu p = true) : nBr p = true := by unfold nBr; rw [br_no hp]; rfl
/-- an operator of a sum that waits on top may as well be a code, when the next mark is none of a product's -/
theorem d_su (hp : isSu p = true) (hK : isMu p = true ∨ ¬ (K j = 42 ∨ K j = 47)) : oe (rm K PL Z tk f 2 j (p :: U) O op) (rm K PL Z tk f 2 j U (p :: O) op) := by
  cases f with
  | zero => exact oe.flt (by decide)
  | succ f =>
    simp only [rm, brk_su hp, dW_t (q := nBr) (nBr_su hp), dW_t (q := isSu) hp, dW_t (q := fun _ => true) rfl]
    by_cases h1 : K j = 41 ∧ (brk U = 20 ∨ brk U = 23 ∨ brk U = 24)
    · rw [if_pos h1, if_pos h1]; split
      · exact oe.flt (by decide)
      · exact oe.rf
    · rw [if_neg h1, if_neg h1]
      by_cases h2 : K j = 42 ∨ K j = 47
      · rw [if_pos h2, if_pos h2, dW_t (q := isMu) (hK.resolve_right (fun z => z h2))]; exact oe.rf
      · rw [if_neg h2, if_neg h2]
        by_cases h3 : K j = 43 ∨ K j = 45
        · rw [if_pos h3, if_pos h3]; exact oe.rf
        · rw [if_neg h3, if_neg h3]
          by_cases h4 : brk U = 21 ∨ brk U = 22
          · rw [if_pos h4, if_pos h4]
            by_cases h5 : K j = 44
            · rw [if_pos h5, if_pos h5]; split
              · exact oe.flt (by decide)
              · exact oe.rf
            · rw [if_neg h5, if_neg h5]; exact oe.flt (by decide)
          · rw [if_neg h4, if_neg h4]
            by_cases h6 : ¬ brk U = -1
            · rw [if_pos h6, if_pos h6]; exact oe.flt (by decide)
            · rw [if_neg h6, if_neg h6]; exact oe.rf
end DL
/-- the codes from lo on, the last first, in the reference's numbers -/
def cRl (C : Int → Int) (lo : Int) : Nat → List Int
  | 0 => []
  | k + 1 => cmap (C (lo + k)) :: cRl C lo k
def oL (lo : Int) (S : Rs) : List Int := cRl S.C lo (S.ln - lo).toNat
theorem cRl_cU {C : Int → Int} {lo i x : Int} : ∀ k : Nat, lo + k ≤ i → cRl (cU C i x) lo k = cRl C lo k
  | 0, _ => rfl
  | k + 1, h => by
    unfold cRl
    rw [cRl_cU k (by omega), show cU C i x (lo + k) = C (lo + k) by unfold cU; rw [if_neg (by omega)]]
theorem oL_P {lo x : Int} {S : Rs} (hl : lo ≤ S.ln) (h : S.ln < 1600) : oL lo (rP x S) = cmap x :: oL lo S := by
  unfold oL rP
  rw [if_pos h, Rs.mkC, Rs.mkln, show (S.ln + 1 - lo).toNat = (S.ln - lo).toNat + 1 by omega]
  show cmap (cU S.C S.ln x (lo + ((S.ln - lo).toNat : Int))) :: cRl (cU S.C S.ln x) lo (S.ln - lo).toNat = _
  rw [show lo + ((S.ln - lo).toNat : Int) = S.ln by omega, show cU S.C S.ln x S.ln = x by unfold cU; rw [if_pos rfl], cRl_cU _ (by omega)]
theorem oL_same {lo : Int} {S T : Rs} (h1 : T.ln = S.ln) (h2 : T.C = S.C) : oL lo T = oL lo S := by unfold oL; rw [h1, h2]
/-- the class stands at T behind S; the reference, at r, ends as X does from there -/
def pOK (lo : Int) (f : Nat) (S T : Rs) (X : Nat → Nat → Oc) (r : Oc) : Prop := (¬ T.f = 0 → r.1 = T.f ∧ r.2.1 = T.pl) ∧ (T.f = 0 → lo ≤ T.ln ∧ T.ln + S.a ≤ S.ln + T.a ∧ ∃ f2 j2 : Nat, (j2 : Int) = T.a ∧ (f2 : Int) + T.a = f + S.a ∧ oe r (X f2 j2))
theorem pOK.bind {lo : Int} {f : Nat} {S T1 T : Rs} {X1 X : Nat → Nat → Oc} {r : Oc} (h1 : pOK lo f S T1 X1 r) (hf : ¬ T1.f = 0 → T.f = T1.f ∧ T.pl = T1.pl) (h2 : T1.f = 0 → ∀ f2 j2 : Nat, (j2 : Int) = T1.a → (f2 : Int) + T1.a = f + S.a → lo ≤ T1.ln → T1.ln + S.a ≤ S.ln + T1.a → pOK lo f2 T1 T X (X1 f2 j2)) : pOK lo f S T X r := by
  by_cases h0 : T1.f = 0
  · obtain ⟨a1, a2, f2, j2, a3, a4, a5⟩ := h1.2 h0
    have h3 := h2 h0 f2 j2 a3 a4 a1 a2
    refine ⟨fun hz => ?_, fun hz => ?_⟩
    · have := h3.1 hz
      exact ⟨a5.1.trans this.1, a5.2.1.trans this.2⟩
    · obtain ⟨b1, b2, f3, j3, b3, b4, b5⟩ := h3.2 hz
      exact ⟨b1, by omega, f3, j3, b3, by omega, a5.tr b5⟩
  · have h4 := hf h0
    refine ⟨fun _ => ?_, fun hz => absurd (h4.1 ▸ hz) h0⟩
    rw [h4.1, h4.2]; exact h1.1 h0
/-- the reference's first step -/
theorem pOK.pre {lo : Int} {f : Nat} {S T : Rs} {X : Nat → Nat → Oc} {r r2 : Oc} (h : pOK lo f S T X r2) (h2 : r = r2) : pOK lo f S T X r := h2 ▸ h
theorem pOK.sub {lo : Int} {f f1 : Nat} {S S1 T : Rs} {X : Nat → Nat → Oc} {r : Oc} (h : pOK lo f1 S1 T X r) (h1 : (f1 : Int) + S1.a = f + S.a) (h2 : S1.ln + S.a ≤ S.ln + S1.a) : pOK lo f S T X r := ⟨h.1, fun z => by
  obtain ⟨b1, b2, f3, j3, b3, b4, b5⟩ := h.2 z
  exact ⟨b1, by omega, f3, j3, b3, by omega, b5⟩⟩
theorem pOK.flt {lo : Int} {f j : Nat} {S T : Rs} {X : Nat → Nat → Oc} {O : List Int} {op c p : Int} (h0 : ¬ c = 0) (h1 : T.f = c) (h2 : T.pl = p) : pOK lo f S T X (c, p, j, O, op) := ⟨fun _ => ⟨h1.symm, h2.symm⟩, fun z => absurd (h1 ▸ z) h0⟩
theorem pOK.fin {lo : Int} {f j : Nat} {S T : Rs} {X : Nat → Nat → Oc} (hj : (j : Int) = T.a) (h1 : T.a = S.a) (h2 : T.ln = S.ln) (h3 : T.f = 0) (h4 : lo ≤ S.ln) : pOK lo f S T X (X f j) := ⟨fun z => absurd h3 z, fun _ => ⟨by omega, by omega, f, j, hj, by omega, oe.rf⟩⟩
theorem pOK.to {lo : Int} {f : Nat} {S T : Rs} {X X2 : Nat → Nat → Oc} {r : Oc} (h : pOK lo f S T X r) (h2 : ∀ f2 j2 : Nat, T.f = 0 → (j2 : Int) = T.a → oe (X f2 j2) (X2 f2 j2)) : pOK lo f S T X2 r := ⟨h.1, fun z => by
  obtain ⟨b1, b2, f3, j3, b3, b4, b5⟩ := h.2 z
  exact ⟨b1, b2, f3, j3, b3, b4, b5.tr (h2 f3 j3 z b3)⟩⟩
/-- a code more -/
theorem pOK.code {lo : Int} {f : Nat} {S T : Rs} {X X2 : Nat → Nat → Oc} {r : Oc} {x : Int} (h : pOK lo f S T X r) (hg : T.f = 0 → T.ln < 1600) (hs : T.f = 0 → S.ln + 1 ≤ S.a ∧ True) (h2 : ∀ f2 j2 : Nat, T.f = 0 → lo ≤ T.ln → T.ln < 1600 → (j2 : Int) = T.a → oe (X f2 j2) (X2 f2 j2)) : (¬ (rP x T).f = 0 → r.1 = (rP x T).f ∧ r.2.1 = (rP x T).pl) ∧ ((rP x T).f = 0 → lo ≤ (rP x T).ln ∧ (rP x T).ln + S.a ≤ S.ln + 1 + (rP x T).a ∧ ∃ f2 j2 : Nat, (j2 : Int) = (rP x T).a ∧ (f2 : Int) + (rP x T).a = f + S.a ∧ oe r (X2 f2 j2)) := by
  have e : ∀ c : Prop, [Decidable c] → (rP x T).f = T.f ∧ (rP x T).pl = T.pl ∧ (rP x T).a = T.a ∧ (T.ln < 1600 → (rP x T).ln = T.ln + 1) := fun c _ => by
    unfold rP; split
    · exact ⟨rfl, rfl, rfl, fun _ => rfl⟩
    · exact ⟨rfl, rfl, rfl, fun z => absurd z (by assumption)⟩
  obtain ⟨e1, e2, e3, e4⟩ := e True
  rw [e1, e2, e3]
  refine ⟨h.1, fun z => ?_⟩
  obtain ⟨b1, b2, f3, j3, b3, b4, b5⟩ := h.2 z
  have := e4 (hg z)
  exact ⟨by omega, by omega, f3, j3, b3, b4, b5.tr (h2 f3 j3 z b1 (hg z) b3)⟩

