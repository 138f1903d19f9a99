/-! a sum read by the class and by the reference, whole (p99.py) -/
theorem cm_num {z : Int} (h : 0 ≤ z) : cmap (1000 + z) = 1000 + z := by
  unfold cmap
  repeat rw [if_neg (by omega)]
theorem rP_gS {n x : Int} {S : Rs} (h : gS n S) : gS n (rP x S) := (rP_g (n := n) h).1
set_option maxHeartbeats 1000000 in
theorem a1 {K PL SZ : Int → Int} {rl tk n lo : Int} {g : Nat} (hK : ∀ j : Int, 0 ≤ j → j < n → (K j = 341 ↔ j = n - 1)) (h0 : A0 K PL SZ rl tk n lo g) (h2 : A2 K PL SZ rl tk n lo g) : A1 K PL SZ rl tk n lo (g + 1) := by
  intro S f j U hp hg
  have hgS := hp.1
  have q := h0 S f j U hp (by omega)
  have G := rd_g (SZ := SZ) (rl := rl) (PL := PL) hK g 0 S hgS (by decide) (by simp only [rk]; omega)
  have erd : rd K PL SZ rl (g + 1) 1 S = rd K PL SZ rl g 2 (rd K PL SZ rl g 0 S) := rfl
  rw [erd]
  generalize rd K PL SZ rl g 0 S = T1 at q G ⊢
  have G2 := rd_g (SZ := SZ) (rl := rl) (PL := PL) hK g 2 T1 G.1 (by decide) (by simp only [rk]; have := G.2.1; omega)
  have hop : T1.op = S.op := G.2.2.1
  have W : T1.f = 0 → ∀ f2 j2 : Nat, (j2 : Int) = T1.a → (f2 : Int) + T1.a = f + S.a → lo ≤ T1.ln → T1.ln + S.a ≤ S.ln + T1.a → _ := fun hz f2 j2 hj2 hf2 hl2 hs2 => h2 T1 f2 j2 U ⟨G.1, hz, hl2, by have := hp.2.2.2.1; omega, hj2, by have := hp.2.2.2.2.2; omega⟩ ⟨by have := G.2.1; omega, hg.2⟩
  refine ⟨pOK.bind q (fun hz => by have := G2.2.2.2.1; exact this.resolve_left hz) (fun hz f2 j2 hj2 hf2 hl2 hs2 => ?_), fun hz => ?_⟩
  · have w := (W hz f2 j2 hj2 hf2 hl2 hs2).1
    rw [hop] at w
    refine pOK.pre w ?_
    show EMc K PL SZ tk f2 j2 (eP U (oL lo T1) S.op) = _
    rw [eP_no (fun v hv => (hg.2 v hv).2)]
  · have hz1 : T1.f = 0 := by
      by_cases h : T1.f = 0
      · exact h
      · exact absurd ((G2.2.2.2.1.resolve_left h).1 ▸ hz) h
    obtain ⟨b1, b2, f3, j3, b3, b4, b5⟩ := q.2 hz1
    exact (W hz1 f3 j3 b3 b4 b1 b2).2 hz
set_option maxHeartbeats 1000000 in
theorem a3 {K PL SZ : Int → Int} {rl tk n lo : Int} {g : Nat} (hK : ∀ j : Int, 0 ≤ j → j < n → (K j = 341 ↔ j = n - 1)) (h0 : A1 K PL SZ rl tk n lo g) (h2 : A4 K PL SZ rl tk n lo g) : A3 K PL SZ rl tk n lo (g + 1) := by
  intro S f j U hp hg
  have hgS := hp.1
  have hU : ∀ v : Int, U.head? = some v → ¬ isMu v = true ∧ v < 60 := fun v hv => ⟨fun z => (hg.2 v hv).1 (by have := of_decide_eq_true z; exact decide_eq_true (by omega)), (hg.2 v hv).2⟩
  obtain ⟨q, qk⟩ := h0 S f j U hp ⟨by omega, hU⟩
  have G := rd_g (SZ := SZ) (rl := rl) (PL := PL) hK g 1 S hgS (by decide) (by simp only [rk]; omega)
  have erd : rd K PL SZ rl (g + 1) 3 S = rd K PL SZ rl g 4 (rd K PL SZ rl g 1 S) := rfl
  rw [erd]
  generalize rd K PL SZ rl g 1 S = T1 at q qk G ⊢
  have G2 := rd_g (SZ := SZ) (rl := rl) (PL := PL) hK g 4 T1 G.1 (by decide) (by simp only [rk]; have := G.2.1; omega)
  have hop : T1.op = S.op := G.2.2.1
  have W : T1.f = 0 → ∀ f2 j2 : Nat, (j2 : Int) = T1.a → (f2 : Int) + T1.a = f + S.a → lo ≤ T1.ln → T1.ln + S.a ≤ S.ln + T1.a → _ := fun hz f2 j2 hj2 hf2 hl2 hs2 => h2 T1 f2 j2 U ⟨G.1, hz, hl2, by have := hp.2.2.2.1; omega, hj2, by have := hp.2.2.2.2.2; omega⟩ ⟨⟨by have := G.2.1; omega, qk hz⟩, hg.2⟩
  refine ⟨pOK.bind q (fun hz => by have := G2.2.2.2.1; exact this.resolve_left hz) (fun hz f2 j2 hj2 hf2 hl2 hs2 => ?_), fun hz => ?_⟩
  · have w := (W hz f2 j2 hj2 hf2 hl2 hs2).1
    rw [hop] at w
    exact w
  · have hz1 : T1.f = 0 := by
      by_cases h : T1.f = 0
      · exact h
      · exact absurd ((G2.2.2.2.1.resolve_left h).1 ▸ hz) h
    obtain ⟨b1, b2, f3, j3, b3, b4, b5⟩ := q.2 hz1
    exact (W hz1 f3 j3 b3 b4 b1 b2).2 hz
set_option maxHeartbeats 1000000 in
theorem a2 {K PL SZ : Int → Int} {rl tk n lo : Int} {g : Nat} (hK : ∀ j : Int, 0 ≤ j → j < n → (K j = 341 ↔ j = n - 1)) (hn : n ≤ 1601) (h0 : A0 K PL SZ rl tk n lo g) (h2 : A2 K PL SZ rl tk n lo g) : A2 K PL SZ rl tk n lo (g + 1) := by
  intro S f j U hp hg
  obtain ⟨hgS, hf0, hlo, hla, hj, hf⟩ := hp
  obtain ⟨f, rfl⟩ : ∃ x, f = x + 1 := ⟨f - 1, by have := hgS.1; omega⟩
  have hfu : 16 * (n - S.a) < ((g + 1 : Nat) : Int) := hg.1
  have erd : rd K PL SZ rl (g + 1) 2 S = (if S.f = 0 ∧ (K S.a = 42 ∨ K S.a = 47) then rd K PL SZ rl g 2 (rP (K S.a) (rd K PL SZ rl g 0 (rI S))) else S) := rfl
  rw [erd]
  by_cases hk : K S.a = 42 ∨ K S.a = 47
  · rw [if_pos ⟨hf0, hk⟩]
    have ha2 := nxt_lt hK hgS (by omega)
    have hgI := rI_gS hgS ha2
    obtain ⟨p, hpp⟩ : ∃ p : Int, (if K (j : Int) = 42 then 3 else 4) = p := ⟨_, rfl⟩
    have hp1 : (p = 3 ∨ p = 4) ∧ cmap (K S.a) = p := by
      rw [← hpp, hj]
      rcases hk with hk | hk <;> rw [hk] <;> decide
    have hsu : isSu p = true := decide_eq_true (by omega)
    have q := h0 (rI S) f (j + 1) (p :: U) ⟨hgI, hf0, hlo, by show S.ln ≤ S.a + 1; omega, by show ((j + 1 : Nat) : Int) = S.a + 1; omega, by show n ≤ f + (S.a + 1); omega⟩ (by show 16 * (n - (S.a + 1)) + 1 < (g : Int); omega)
    have G := rd_g (SZ := SZ) (rl := rl) (PL := PL) hK g 0 (rI S) hgI (by decide) (by simp only [rk]; show 16 * (n - (S.a + 1)) + _ < (g : Int); omega)
    have Ga : S.a + 1 ≤ (rd K PL SZ rl g 0 (rI S)).a := G.2.1
    have hop : (rd K PL SZ rl g 0 (rI S)).op = S.op := G.2.2.1
    skip
    generalize rd K PL SZ rl g 0 (rI S) = T1 at q  G Ga hop ⊢
    have hT1 := G.1.1
    have qP : pOK lo (f + 1) S (rP (K S.a) T1) (fun f2 j2 => RM K PL SZ tk f2 2 j2 U (oL lo (rP (K S.a) T1)) S.op) (RM K PL SZ tk f 0 (j + 1) (p :: U) (oL lo S) S.op) := by
      refine pOK.rP q (by show (f : Int) + (S.a + 1) = ((f + 1 : Nat) : Int) + S.a; omega) ⟨rfl, rfl⟩ (fun _ _ z => by have z : T1.ln + (S.a + 1) ≤ S.ln + T1.a := z; omega) (fun hz hl1 hl2 f2 j2 hj2 => ?_)
      rw [oL_P hl1 hl2, hp1.2]
      show oe (EMc K PL SZ tk f2 j2 (eP (p :: U) (oL lo T1) S.op)) _
      rw [eP_no (U := p :: U) (fun v hv => by have e : p = v := Option.some.inj hv; omega)]
      exact d_su hsu (Or.inl (decide_eq_true (by omega)))
    obtain ⟨e1, e2, e3, e4⟩ := rP_e (S := T1) (x := K S.a)
    have hgP : gS n (rP (K S.a) T1) := rP_gS G.1
    have G2 := rd_g (SZ := SZ) (rl := rl) (PL := PL) hK g 2 (rP (K S.a) T1) hgP (by decide) (by simp only [rk]; omega)
    have W : (rP (K S.a) T1).f = 0 → ∀ f2 j2 : Nat, (j2 : Int) = (rP (K S.a) T1).a → (f2 : Int) + (rP (K S.a) T1).a = ((f + 1 : Nat) : Int) + S.a → lo ≤ (rP (K S.a) T1).ln → (rP (K S.a) T1).ln + S.a ≤ S.ln + (rP (K S.a) T1).a → _ := fun hz f2 j2 hj2 hf2 hl2 hs2 => h2 (rP (K S.a) T1) f2 j2 U ⟨hgP, hz, hl2, by omega, hj2, by omega⟩ ⟨by omega, hg.2⟩
    refine ⟨pOK.pre (pOK.bind qP (fun hz => G2.2.2.2.1.resolve_left hz) (fun hz f2 j2 hj2 hf2 hl2 hs2 => ?_)) (by
      refine (rm2_mul (by rw [hj]; exact hk) (fun v hv => (hg.2 v hv).1)).trans ?_
      rw [hpp]), fun hz => ?_⟩
    · have w := (W hz f2 j2 hj2 hf2 hl2 hs2).1
      rw [e2, hop] at w
      exact w
    · have hz1 : (rP (K S.a) T1).f = 0 := by
        by_cases h : (rP (K S.a) T1).f = 0
        · exact h
        · exact absurd ((G2.2.2.2.1.resolve_left h).1 ▸ hz) h
      obtain ⟨b1, b2, f3, j3, b3, b4, b5⟩ := qP.2 hz1
      exact (W hz1 f3 j3 b3 b4 b1 b2).2 hz
  · rw [if_neg (fun z => hk z.2)]
    exact ⟨pOK.fin1 (X := fun f2 j2 => RM K PL SZ tk f2 2 j2 U (oL lo S) S.op) hj rfl (by omega) hf0 hlo, fun _ => hk⟩
set_option maxHeartbeats 1000000 in
theorem a4 {K PL SZ : Int → Int} {rl tk n lo : Int} {g : Nat} (hK : ∀ j : Int, 0 ≤ j → j < n → (K j = 341 ↔ j = n - 1)) (hn : n ≤ 1601) (h0 : A1 K PL SZ rl tk n lo g) (h2 : A4 K PL SZ rl tk n lo g) : A4 K PL SZ rl tk n lo (g + 1) := by
  intro S f j U hp hg
  obtain ⟨hgS, hf0, hlo, hla, hj, hf⟩ := hp
  obtain ⟨f, rfl⟩ : ∃ x, f = x + 1 := ⟨f - 1, by have := hgS.1; omega⟩
  have hfu : 16 * (n - S.a) < ((g + 1 : Nat) : Int) := hg.1.1
  have erd : rd K PL SZ rl (g + 1) 4 S = (if S.f = 0 ∧ (K S.a = 43 ∨ K S.a = 45) then rd K PL SZ rl g 4 (rP (K S.a) (rd K PL SZ rl g 1 (rI S))) else S) := rfl
  rw [erd]
  by_cases hk : K S.a = 43 ∨ K S.a = 45
  · rw [if_pos ⟨hf0, hk⟩]
    have ha2 := nxt_lt hK hgS (by omega)
    have hgI := rI_gS hgS ha2
    obtain ⟨p, hpp⟩ : ∃ p : Int, (if K (j : Int) = 43 then 1 else 2) = p := ⟨_, rfl⟩
    have hp1 : (p = 1 ∨ p = 2) ∧ cmap (K S.a) = p := by
      rw [← hpp, hj]
      rcases hk with hk | hk <;> rw [hk] <;> decide
    have hsu : isSu p = true := decide_eq_true (by omega)
    have q := h0 (rI S) f (j + 1) (p :: U) ⟨hgI, hf0, hlo, by show S.ln ≤ S.a + 1; omega, by show ((j + 1 : Nat) : Int) = S.a + 1; omega, by show n ≤ f + (S.a + 1); omega⟩ ⟨by show 16 * (n - (S.a + 1)) + 2 < (g : Int); omega, fun v hv => by
      have e : p = v := Option.some.inj hv
      subst e
      exact ⟨fun z => by have := of_decide_eq_true z; omega, by omega⟩⟩
    have G := rd_g (SZ := SZ) (rl := rl) (PL := PL) hK g 1 (rI S) hgI (by decide) (by simp only [rk]; show 16 * (n - (S.a + 1)) + _ < (g : Int); omega)
    have Ga : S.a + 1 ≤ (rd K PL SZ rl g 1 (rI S)).a := G.2.1
    have hop : (rd K PL SZ rl g 1 (rI S)).op = S.op := G.2.2.1
    obtain ⟨q, qk⟩ := q
    generalize rd K PL SZ rl g 1 (rI S) = T1 at q qk G Ga hop ⊢
    have hT1 := G.1.1
    have qP : pOK lo (f + 1) S (rP (K S.a) T1) (fun f2 j2 => RM K PL SZ tk f2 2 j2 U (oL lo (rP (K S.a) T1)) S.op) (RM K PL SZ tk f 0 (j + 1) (p :: U) (oL lo S) S.op) := by
      refine pOK.rP q (by show (f : Int) + (S.a + 1) = ((f + 1 : Nat) : Int) + S.a; omega) ⟨rfl, rfl⟩ (fun _ _ z => by have z : T1.ln + (S.a + 1) ≤ S.ln + T1.a := z; omega) (fun hz hl1 hl2 f2 j2 hj2 => ?_)
      rw [oL_P hl1 hl2, hp1.2]
      skip
      exact d_su hsu (Or.inr (by rw [hj2]; exact qk hz))
    obtain ⟨e1, e2, e3, e4⟩ := rP_e (S := T1) (x := K S.a)
    have hgP : gS n (rP (K S.a) T1) := rP_gS G.1
    have G2 := rd_g (SZ := SZ) (rl := rl) (PL := PL) hK g 4 (rP (K S.a) T1) hgP (by decide) (by simp only [rk]; omega)
    have W : (rP (K S.a) T1).f = 0 → ∀ f2 j2 : Nat, (j2 : Int) = (rP (K S.a) T1).a → (f2 : Int) + (rP (K S.a) T1).a = ((f + 1 : Nat) : Int) + S.a → lo ≤ (rP (K S.a) T1).ln → (rP (K S.a) T1).ln + S.a ≤ S.ln + (rP (K S.a) T1).a → _ := fun hz f2 j2 hj2 hf2 hl2 hs2 => h2 (rP (K S.a) T1) f2 j2 U ⟨hgP, hz, hl2, by omega, hj2, by omega⟩ ⟨⟨by omega, by rw [e1]; exact qk (e3 ▸ hz)⟩, hg.2⟩
    refine ⟨pOK.pre (pOK.bind qP (fun hz => G2.2.2.2.1.resolve_left hz) (fun hz f2 j2 hj2 hf2 hl2 hs2 => ?_)) (by
      refine (rm2_add (by rw [hj]; exact hk) (fun v hv => (hg.2 v hv).1)).trans ?_
      rw [hpp]), fun hz => ?_⟩
    · have w := (W hz f2 j2 hj2 hf2 hl2 hs2).1
      rw [e2, hop] at w
      exact w
    · have hz1 : (rP (K S.a) T1).f = 0 := by
        by_cases h : (rP (K S.a) T1).f = 0
        · exact h
        · exact absurd ((G2.2.2.2.1.resolve_left h).1 ▸ hz) h
      obtain ⟨b1, b2, f3, j3, b3, b4, b5⟩ := qP.2 hz1
      exact (W hz1 f3 j3 b3 b4 b1 b2).2 hz
  · rw [if_neg (fun z => hk z.2)]
    exact ⟨pOK.fin1 (X := fun f2 j2 => RM K PL SZ tk f2 2 j2 U (oL lo S) S.op) hj rfl (by omega) hf0 hlo, fun _ => ⟨hg.1.2, hk⟩⟩

