/-! a sum read by the class and by the reference (p98.py) -/
theorem pOK.fin1 {lo : Int} {f f1 j : Nat} {S T : Rs} {X : Nat → Nat → Oc} (hj : (j : Int) = T.a) (h1 : (f1 : Int) + T.a = f + S.a) (h2 : T.ln + S.a ≤ S.ln + T.a) (h3 : T.f = 0) (h4 : lo ≤ T.ln) : pOK lo f S T X (X f1 j) := ⟨fun z => absurd h3 z, fun _ => ⟨h4, h2, f1, j, hj, h1, oe.rf⟩⟩
theorem pOK.rP {lo x : Int} {f f1 : Nat} {S S1 T : Rs} {X X2 : Nat → Nat → Oc} {r : Oc} (h : pOK lo f1 S1 T X r) (h1 : (f1 : Int) + S1.a = f + S.a) (h2 : S1.ln = S.ln ∧ S1.a = S.a + 1) (hl : T.f = 0 → lo ≤ T.ln → T.ln + S1.a ≤ S1.ln + T.a → T.ln < 1600) (hX : T.f = 0 → lo ≤ T.ln → T.ln < 1600 → ∀ f2 j2 : Nat, (j2 : Int) = T.a → oe (X f2 j2) (X2 f2 j2)) : pOK lo f S (rP x T) X2 r := by
  obtain ⟨e3, e4, e1, e2⟩ := rP_e (S := T) (x := x)
  refine ⟨fun z => ?_, fun z => ?_⟩
  · rw [e1] at z ⊢; rw [e2]; exact h.1 z
  · rw [e1] at z
    obtain ⟨b1, b2, f3, j3, b3, b4, b5⟩ := h.2 z
    have hl := hl z b1 b2
    have e5 := rP_ln (x := x) hl
    exact ⟨by omega, by omega, f3, j3, by omega, by omega, b5.tr (hX z b1 hl f3 j3 b3)⟩
def pre (n lo : Int) (S : Rs) (f j : Nat) : Prop := gS n S ∧ S.f = 0 ∧ lo ≤ S.ln ∧ S.ln ≤ S.a ∧ (j : Int) = S.a ∧ n ≤ f + S.a
abbrev RM (K PL SZ : Int → Int) (tk : Int) : Nat → Nat → Nat → List Int → List Int → Int → Oc := rm (fun j : Nat => K j) (fun j : Nat => PL j) (fun j : Nat => SZ j) tk
abbrev EMc (K PL SZ : Int → Int) (tk : Int) (f j : Nat) (t : List Int × List Int × Int) : Oc := RM K PL SZ tk f 2 j t.1 t.2.1 t.2.2
def A0 (K PL SZ : Int → Int) (rl tk n lo : Int) (g : Nat) : Prop := ∀ (S : Rs) (f j : Nat) (U : List Int), pre n lo S f j → 16 * (n - S.a) + 1 < g → pOK lo f S (rd K PL SZ rl g 0 S) (fun f2 j2 => EMc K PL SZ tk f2 j2 (eP U (oL lo (rd K PL SZ rl g 0 S)) S.op)) (RM K PL SZ tk f 0 j U (oL lo S) S.op)
def A10 (K PL SZ : Int → Int) (rl tk n lo : Int) (g : Nat) : Prop := ∀ (S : Rs) (f j : Nat) (U : List Int), pre n lo S f j → K S.a = 40 ∧ 16 * (n - S.a) < g → pOK lo f S (rd K PL SZ rl g 10 S) (fun f2 j2 => EMc K PL SZ tk f2 j2 (eP U (oL lo (rd K PL SZ rl g 10 S)) S.op)) (RM K PL SZ tk f 0 j U (oL lo S) S.op)
def A11 (K PL SZ : Int → Int) (rl tk n lo : Int) (g : Nat) : Prop := ∀ (S : Rs) (f j : Nat) (U : List Int), pre n lo S f j → 16 * (n - S.a) < g → ∀ (m : Nat) (c : Int), (m = 1 ∧ c = 5) ∨ (m = 3 ∧ c = 6) → pOK lo f S (rd K PL SZ rl g 11 S) (fun f2 j2 => EMc K PL SZ tk f2 j2 (eP U (c :: oL lo (rd K PL SZ rl g 11 S)) S.op)) (RM K PL SZ tk f m j U (oL lo S) S.op)
def A1 (K PL SZ : Int → Int) (rl tk n lo : Int) (g : Nat) : Prop := ∀ (S : Rs) (f j : Nat) (U : List Int), pre n lo S f j → 16 * (n - S.a) + 2 < g ∧ (∀ v : Int, U.head? = some v → ¬ isMu v = true ∧ v < 60) → pOK lo f S (rd K PL SZ rl g 1 S) (fun f2 j2 => RM K PL SZ tk f2 2 j2 U (oL lo (rd K PL SZ rl g 1 S)) S.op) (RM K PL SZ tk f 0 j U (oL lo S) S.op) ∧ ((rd K PL SZ rl g 1 S).f = 0 → ¬ (K (rd K PL SZ rl g 1 S).a = 42 ∨ K (rd K PL SZ rl g 1 S).a = 47))
def A2 (K PL SZ : Int → Int) (rl tk n lo : Int) (g : Nat) : Prop := ∀ (S : Rs) (f j : Nat) (U : List Int), pre n lo S f j → 16 * (n - S.a) < g ∧ (∀ v : Int, U.head? = some v → ¬ isMu v = true ∧ v < 60) → pOK lo f S (rd K PL SZ rl g 2 S) (fun f2 j2 => RM K PL SZ tk f2 2 j2 U (oL lo (rd K PL SZ rl g 2 S)) S.op) (RM K PL SZ tk f 2 j U (oL lo S) S.op) ∧ ((rd K PL SZ rl g 2 S).f = 0 → ¬ (K (rd K PL SZ rl g 2 S).a = 42 ∨ K (rd K PL SZ rl g 2 S).a = 47))
abbrev noOp (k : Int) : Prop := ¬ (k = 42 ∨ k = 47) ∧ ¬ (k = 43 ∨ k = 45)
def A3 (K PL SZ : Int → Int) (rl tk n lo : Int) (g : Nat) : Prop := ∀ (S : Rs) (f j : Nat) (U : List Int), pre n lo S f j → 16 * (n - S.a) + 3 < g ∧ (∀ v : Int, U.head? = some v → ¬ isSu v = true ∧ v < 60) → pOK lo f S (rd K PL SZ rl g 3 S) (fun f2 j2 => RM K PL SZ tk f2 2 j2 U (oL lo (rd K PL SZ rl g 3 S)) S.op) (RM K PL SZ tk f 0 j U (oL lo S) S.op) ∧ ((rd K PL SZ rl g 3 S).f = 0 → noOp (K (rd K PL SZ rl g 3 S).a))
def A4 (K PL SZ : Int → Int) (rl tk n lo : Int) (g : Nat) : Prop := ∀ (S : Rs) (f j : Nat) (U : List Int), pre n lo S f j → (16 * (n - S.a) < g ∧ ¬ (K S.a = 42 ∨ K S.a = 47)) ∧ (∀ v : Int, U.head? = some v → ¬ isSu v = true ∧ v < 60) → pOK lo f S (rd K PL SZ rl g 4 S) (fun f2 j2 => RM K PL SZ tk f2 2 j2 U (oL lo (rd K PL SZ rl g 4 S)) S.op) (RM K PL SZ tk f 2 j U (oL lo S) S.op) ∧ ((rd K PL SZ rl g 4 S).f = 0 → noOp (K (rd K PL SZ rl g 4 S).a))
theorem not_su20 {h : Int} (hh : 20 ≤ h ∧ h ≤ 24) {U : List Int} : ∀ v : Int, (h :: U).head? = some v → ¬ isSu v = true ∧ v < 60 := fun v hv => by
  have e : h = v := Option.some.inj hv
  subst e
  exact ⟨fun z => by have := of_decide_eq_true z; omega, by omega⟩
theorem nxt_lt {K : Int → Int} {n : Int} (hK : ∀ j : Int, 0 ≤ j → j < n → (K j = 341 ↔ j = n - 1)) {S : Rs} (h : gS n S) (h2 : ¬ K S.a = 341) : S.a + 1 < n := by
  have h3 := hK S.a h.1.1 h.1.2
  have h4 : ¬ S.a = n - 1 := fun z => h2 (h3.mpr z)
  have := h.1
  omega
theorem rI_gS {n : Int} {S : Rs} (h : gS n S) (h2 : S.a + 1 < n) : gS n (rI S) := ⟨⟨by have := h.1; show 0 ≤ S.a + 1; omega, h2⟩, h.2⟩
set_option maxHeartbeats 1000000 in
theorem a10 {K PL SZ : Int → Int} {rl tk n lo : Int} {g : Nat} (hK : ∀ j : Int, 0 ≤ j → j < n → (K j = 341 ↔ j = n - 1)) (h3 : A3 K PL SZ rl tk n lo g) : A10 K PL SZ rl tk n lo (g + 1) := by
  intro S f j U hp hk
  obtain ⟨hk, hg⟩ := hk
  obtain ⟨hgS, hf0, hlo, hla, hj, hf⟩ := hp
  obtain ⟨f, rfl⟩ : ∃ x, f = x + 1 := ⟨f - 1, by have := hgS.1; omega⟩
  have hkj : K (j : Int) = 40 := by rw [hj]; exact hk
  have ha2 := nxt_lt hK hgS (by rw [hk]; decide)
  have erd : rd K PL SZ rl (g + 1) 10 S = (if S.f = 0 ∧ S.op < 6 then rZ (rN K PL 41 (rd K PL SZ rl g 3 (rO PL S))) else rO PL S) := if_pos hk
  have hop6 := hgS.2.1
  rw [erd]
  refine pOK.pre ?_ (rm0_par hkj)
  by_cases hop : S.op = 6
  · rw [if_neg (by omega : ¬ (S.f = 0 ∧ S.op < 6)), if_pos hop, rO_n (by omega)]
    exact pOK.flt (by decide) (rF_0 hf0).1 (by rw [(rF_0 hf0).2, hj])
  · have hc : S.f = 0 ∧ S.op < 6 := ⟨hf0, by omega⟩
    rw [if_pos hc, if_neg hop]
    obtain ⟨e1, e2, e3, e4, e5, e6⟩ := rO_t (PL := PL) hc
    have g1 := rO_g (PL := PL) hgS hc ha2
    obtain ⟨q1, q2⟩ := h3 (rO PL S) f (j + 1) (20 :: U) ⟨g1.1, g1.2.2.2, by omega, by omega, by omega, by omega⟩ ⟨by omega, not_su20 (by decide)⟩
    have G := rd_g (SZ := SZ) (rl := rl) (PL := PL) hK g 3 (rO PL S) g1.1 (by decide) (by simp only [rk]; omega)
    rw [oL_same e5 e6, e2] at q1
    generalize rd K PL SZ rl g 3 (rO PL S) = T1 at q1 q2 G ⊢
    refine pOK.bind (pOK.sub q1 (by omega) (by omega)) (fun hz => rN_k hz) (fun hz f2 j2 hj2 hf2 hl2 hs2 => ?_)
    have hgT := G.1
    obtain ⟨f2, rfl⟩ : ∃ x, f2 = x + 1 := ⟨f2 - 1, by have := hgT.1; omega⟩
    by_cases hk2 : K T1.a = 41
    · rw [rN_t hk2 (by decide)]
      refine pOK.pre ?_ (rm2_close (by rw [hj2]; exact hk2) (Or.inl rfl))
      rw [if_pos rfl, show S.op + 1 - 1 = S.op by omega]
      exact pOK.fin1 (X := fun f2 j2 => EMc K PL SZ tk f2 j2 (eP U (oL lo (rZ (rI T1))) S.op)) (by show ((j2 + 1 : Nat) : Int) = T1.a + 1; omega) (by show (f2 : Int) + (T1.a + 1) = ((f2 + 1 : Nat) : Int) + T1.a; omega) (by show T1.ln + T1.a ≤ T1.ln + (T1.a + 1); omega) hz hl2
    · rw [rN_f hk2]
      have hno := q2 hz
      refine pOK.pre ?_ (rm2_noclose (by rw [hj2]; exact hk2) (by rw [hj2]; exact hno.1) (by rw [hj2]; exact hno.2) (Or.inl rfl))
      exact pOK.flt (by decide) (rF_0 hz).1 (by show (rF 1 (PL T1.a) T1).pl = _; rw [(rF_0 hz).2, hj2])

