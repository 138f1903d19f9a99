/-! a test read by the class and by the reference (p9c.py) -/
section FT
variable {K PL Z : Nat → Int} {tk : Int} {j j1 j2 : Nat} {O O1 O2 : List Int} {op op1 op2 : Int}
theorem ftR_0 (hk : K j = 329) : ftR K PL Z tk j O op = (0, 0, j + 1, 13 :: O, op) := by unfold ftR; rw [if_pos hk]
theorem ftR_1 (hk : ¬ K j = 329) (h : ¬ (rm K PL Z tk (1700 - j) 0 j [] O op).1 = 0) : ftR K PL Z tk j O op = rm K PL Z tk (1700 - j) 0 j [] O op := by unfold ftR; rw [if_neg hk, if_pos h]
theorem ftR_2 (hk : ¬ K j = 329) (h : rm K PL Z tk (1700 - j) 0 j [] O op = (0, 0, j1, O1, op1)) (hc : ¬ (K j1 = 60 ∨ K j1 = 62 ∨ K j1 = 61)) : ftR K PL Z tk j O op = (1, PL j1, j1, O1, op1) := by
  unfold ftR; rw [if_neg hk, h, if_neg (fun z => z rfl), if_pos hc]
theorem ftR_3 (hk : ¬ K j = 329) (h : rm K PL Z tk (1700 - j) 0 j [] O op = (0, 0, j1, O1, op1)) (hc : K j1 = 60 ∨ K j1 = 62 ∨ K j1 = 61) (h2 : ¬ (rm K PL Z tk (1700 - (j1 + 1)) 0 (j1 + 1) [] O1 op1).1 = 0) : ftR K PL Z tk j O op = rm K PL Z tk (1700 - (j1 + 1)) 0 (j1 + 1) [] O1 op1 := by
  unfold ftR; rw [if_neg hk, h, if_neg (fun z => z rfl), if_neg (fun z => z hc), if_pos h2]
theorem ftR_4 (hk : ¬ K j = 329) (h : rm K PL Z tk (1700 - j) 0 j [] O op = (0, 0, j1, O1, op1)) (hc : K j1 = 60 ∨ K j1 = 62 ∨ K j1 = 61) (h2 : rm K PL Z tk (1700 - (j1 + 1)) 0 (j1 + 1) [] O1 op1 = (0, 0, j2, O2, op2)) : ftR K PL Z tk j O op = (0, 0, j2, cmap (K j1) :: O2, op2) := by
  unfold ftR; rw [if_neg hk, h, if_neg (fun z => z rfl), if_neg (fun z => z hc)]
  show (if ¬ (rm K PL Z tk (1700 - (j1 + 1)) 0 (j1 + 1) [] O1 op1).1 = 0 then _ else _) = _
  rw [h2, if_neg (fun z => z rfl)]
  show (0, 0, j2, (if K j1 = 60 then (7 : Int) else if K j1 = 62 then 8 else 9) :: O2, op2) = _
  rcases hc with z | z | z <;> rw [z] <;> rfl
end FT
abbrev RTm (K PL SZ : Int → Int) (tk : Int) : Nat → Nat → Nat → List Int → List Int → Int → Oc := rmT (fun j : Nat => K j) (fun j : Nat => PL j) (fun j : Nat => SZ j) tk
abbrev ETm (K PL SZ : Int → Int) (tk : Int) (f j : Nat) (t : List Int × List Int × Int) : Oc := RTm K PL SZ tk f 1 j t.1 t.2.1 t.2.2
def B5 (K PL SZ : Int → Int) (rl tk n lo : Int) (g : Nat) : Prop := ∀ (S : Rs) (f j : Nat) (W : List Int), pre n lo S f j → 16 * (n - S.a) + 4 < g → pT lo f S (rd K PL SZ rl g 5 S) (fun f2 j2 => ETm K PL SZ tk f2 j2 (eN W (oL lo (rd K PL SZ rl g 5 S)) S.op)) (RTm K PL SZ tk f 0 j W (oL lo S) S.op)
def B6 (K PL SZ : Int → Int) (rl tk n lo : Int) (g : Nat) : Prop := ∀ (S : Rs) (f j : Nat) (W : List Int), pre n lo S f j → 16 * (n - S.a) + 5 < g ∧ (∀ v : Int, W.head? = some v → ¬ (v = 10 ∨ v = 12)) → pT lo f S (rd K PL SZ rl g 6 S) (fun f2 j2 => RTm K PL SZ tk f2 1 j2 W (oL lo (rd K PL SZ rl g 6 S)) S.op) (RTm K PL SZ tk f 0 j W (oL lo S) S.op) ∧ ((rd K PL SZ rl g 6 S).f = 0 → ¬ K (rd K PL SZ rl g 6 S).a = 327)
def B7 (K PL SZ : Int → Int) (rl tk n lo : Int) (g : Nat) : Prop := ∀ (S : Rs) (f j : Nat) (W : List Int), pre n lo S f j → 16 * (n - S.a) < g ∧ (∀ v : Int, W.head? = some v → ¬ (v = 10 ∨ v = 12)) → pT lo f S (rd K PL SZ rl g 7 S) (fun f2 j2 => RTm K PL SZ tk f2 1 j2 W (oL lo (rd K PL SZ rl g 7 S)) S.op) (RTm K PL SZ tk f 1 j W (oL lo S) S.op) ∧ ((rd K PL SZ rl g 7 S).f = 0 → ¬ K (rd K PL SZ rl g 7 S).a = 327)
def B8 (K PL SZ : Int → Int) (rl tk n lo : Int) (g : Nat) : Prop := ∀ (S : Rs) (f j : Nat) (W : List Int), pre n lo S f j → 16 * (n - S.a) + 6 < g ∧ (∀ v : Int, W.head? = some v → ¬ (v = 10 ∨ v = 11 ∨ v = 12)) → pT lo f S (rd K PL SZ rl g 8 S) (fun f2 j2 => RTm K PL SZ tk f2 1 j2 W (oL lo (rd K PL SZ rl g 8 S)) S.op) (RTm K PL SZ tk f 0 j W (oL lo S) S.op) ∧ ((rd K PL SZ rl g 8 S).f = 0 → ¬ K (rd K PL SZ rl g 8 S).a = 327 ∧ ¬ K (rd K PL SZ rl g 8 S).a = 326)
def B9 (K PL SZ : Int → Int) (rl tk n lo : Int) (g : Nat) : Prop := ∀ (S : Rs) (f j : Nat) (W : List Int), pre n lo S f j → (16 * (n - S.a) < g ∧ ¬ K S.a = 327) ∧ (∀ v : Int, W.head? = some v → ¬ (v = 10 ∨ v = 11 ∨ v = 12)) → pT lo f S (rd K PL SZ rl g 9 S) (fun f2 j2 => RTm K PL SZ tk f2 1 j2 W (oL lo (rd K PL SZ rl g 9 S)) S.op) (RTm K PL SZ tk f 1 j W (oL lo S) S.op) ∧ ((rd K PL SZ rl g 9 S).f = 0 → ¬ K (rd K PL SZ rl g 9 S).a = 327 ∧ ¬ K (rd K PL SZ rl g 9 S).a = 326)
set_option maxHeartbeats 1000000 in
theorem b6 {K PL SZ : Int → Int} {rl tk n lo : Int} {g : Nat} (hK : ∀ j : Int, 0 ≤ j → j < n → (K j = 341 ↔ j = n - 1)) (h0 : B5 K PL SZ rl tk n lo g) (h2 : B7 K PL SZ rl tk n lo g) : B6 K PL SZ rl tk n lo (g + 1) := by
  intro S f j W hp hg
  have hgS := hp.1
  have q := h0 S f j W hp (by omega)
  have G := rd_g (SZ := SZ) (rl := rl) (PL := PL) hK g 5 S hgS (by decide) (by simp only [rk]; omega)
  have erd : rd K PL SZ rl (g + 1) 6 S = rd K PL SZ rl g 7 (rd K PL SZ rl g 5 S) := rfl
  rw [erd]
  generalize rd K PL SZ rl g 5 S = T1 at q  G ⊢
  have G2 := rd_g (SZ := SZ) (rl := rl) (PL := PL) hK g 7 T1 G.1 (by decide) (by simp only [rk]; have := G.2.1; omega)
  have hop : T1.op = S.op := G.2.2.1
  have Wn : T1.f = 0 → ∀ f2 j2 : Nat, (j2 : Int) = T1.a → (f : Int) + S.a ≤ f2 + T1.a → lo ≤ T1.ln → T1.ln + S.a ≤ S.ln + T1.a → _ := fun hz f2 j2 hj2 hf2 hl2 hs2 => h2 T1 f2 j2 W ⟨G.1, hz, hl2, by have := hp.2.2.2.1; omega, hj2, by have := hp.2.2.2.2.2; omega⟩ ⟨by have := G.2.1; omega, hg.2⟩
  refine ⟨pT.bind q (fun hz => by have := G2.2.2.2.1; exact this.resolve_left hz) (fun hz f2 j2 hj2 hf2 hl2 hs2 => ?_), fun hz => ?_⟩
  · have w := (Wn hz f2 j2 hj2 hf2 hl2 hs2).1
    rw [hop] at w
    refine pT.pre w ?_
    show ETm K PL SZ tk f2 j2 (eN W (oL lo T1) S.op) = _
    rw [eN_no (fun v hv z => hg.2 v hv (Or.inr z))]
  · have hz1 : T1.f = 0 := by
      by_cases h : T1.f = 0
      · exact h
      · exact absurd ((G2.2.2.2.1.resolve_left h).1 ▸ hz) h
    obtain ⟨b1, b2, f3, j3, b3, b4, b5⟩ := q.2 hz1
    exact (Wn hz1 f3 j3 b3 b4 b1 b2).2 hz
set_option maxHeartbeats 1000000 in
theorem b8 {K PL SZ : Int → Int} {rl tk n lo : Int} {g : Nat} (hK : ∀ j : Int, 0 ≤ j → j < n → (K j = 341 ↔ j = n - 1)) (h0 : B6 K PL SZ rl tk n lo g) (h2 : B9 K PL SZ rl tk n lo g) : B8 K PL SZ rl tk n lo (g + 1) := by
  intro S f j W hp hg
  have hgS := hp.1
  obtain ⟨q, qk⟩ := h0 S f j W hp ⟨by omega, fun v hv z => hg.2 v hv (by omega)⟩
  have G := rd_g (SZ := SZ) (rl := rl) (PL := PL) hK g 6 S hgS (by decide) (by simp only [rk]; omega)
  have erd : rd K PL SZ rl (g + 1) 8 S = rd K PL SZ rl g 9 (rd K PL SZ rl g 6 S) := rfl
  rw [erd]
  generalize rd K PL SZ rl g 6 S = T1 at q qk G ⊢
  have G2 := rd_g (SZ := SZ) (rl := rl) (PL := PL) hK g 9 T1 G.1 (by decide) (by simp only [rk]; have := G.2.1; omega)
  have hop : T1.op = S.op := G.2.2.1
  have Wn : T1.f = 0 → ∀ f2 j2 : Nat, (j2 : Int) = T1.a → (f : Int) + S.a ≤ f2 + T1.a → lo ≤ T1.ln → T1.ln + S.a ≤ S.ln + T1.a → _ := fun hz f2 j2 hj2 hf2 hl2 hs2 => h2 T1 f2 j2 W ⟨G.1, hz, hl2, by have := hp.2.2.2.1; omega, hj2, by have := hp.2.2.2.2.2; omega⟩ ⟨⟨by have := G.2.1; omega, qk hz⟩, hg.2⟩
  refine ⟨pT.bind q (fun hz => by have := G2.2.2.2.1; exact this.resolve_left hz) (fun hz f2 j2 hj2 hf2 hl2 hs2 => ?_), fun hz => ?_⟩
  · have w := (Wn hz f2 j2 hj2 hf2 hl2 hs2).1
    rw [hop] at w
    exact w
  · have hz1 : T1.f = 0 := by
      by_cases h : T1.f = 0
      · exact h
      · exact absurd ((G2.2.2.2.1.resolve_left h).1 ▸ hz) h
    obtain ⟨b1, b2, f3, j3, b3, b4, b5⟩ := q.2 hz1
    exact (Wn hz1 f3 j3 b3 b4 b1 b2).2 hz
set_option maxHeartbeats 1000000 in
theorem b7 {K PL SZ : Int → Int} {rl tk n lo : Int} {g : Nat} (hK : ∀ j : Int, 0 ≤ j → j < n → (K j = 341 ↔ j = n - 1)) (hn : n ≤ 1601) (h0 : B5 K PL SZ rl tk n lo g) (h2 : B7 K PL SZ rl tk n lo g) : B7 K PL SZ rl tk n lo (g + 1) := by
  intro S f j W hp hg
  obtain ⟨hgS, hf0, hlo, hla, hj, hf⟩ := hp
  obtain ⟨f, rfl⟩ : ∃ x, f = x + 1 := ⟨f - 1, by have := hgS.1; omega⟩
  have hfu : 16 * (n - S.a) < ((g + 1 : Nat) : Int) := hg.1
  have erd : rd K PL SZ rl (g + 1) 7 S = (if S.f = 0 ∧ K S.a = 327 then rd K PL SZ rl g 7 (rP 327 (rd K PL SZ rl g 5 (rI S))) else S) := rfl
  rw [erd]
  by_cases hk : K S.a = 327
  · rw [if_pos ⟨hf0, hk⟩]
    have ha2 := nxt_lt hK hgS (by omega)
    have hgI := rI_gS hgS ha2
    have q := h0 (rI S) f (j + 1) (10 :: W) ⟨hgI, hf0, hlo, by show S.ln ≤ S.a + 1; omega, by show ((j + 1 : Nat) : Int) = S.a + 1; omega, by show n ≤ f + (S.a + 1); omega⟩ (by show 16 * (n - (S.a + 1)) + 4 < (g : Int); omega)
    have G := rd_g (SZ := SZ) (rl := rl) (PL := PL) hK g 5 (rI S) hgI (by decide) (by simp only [rk]; show 16 * (n - (S.a + 1)) + _ < (g : Int); omega)
    have Ga : S.a + 1 ≤ (rd K PL SZ rl g 5 (rI S)).a := G.2.1
    have hop : (rd K PL SZ rl g 5 (rI S)).op = S.op := G.2.2.1
    skip
    generalize rd K PL SZ rl g 5 (rI S) = T1 at q  G Ga hop ⊢
    have hT1 := G.1.1
    have qP : pT lo (f + 1) S (rP 327 T1) (fun f2 j2 => RTm K PL SZ tk f2 1 j2 W (oL lo (rP 327 T1)) S.op) (RTm K PL SZ tk f 0 (j + 1) (10 :: W) (oL lo S) S.op) := by
      refine pT.rP q (by show ((f + 1 : Nat) : Int) + S.a ≤ (f : Int) + (S.a + 1); omega) (by show S.ln + (S.a + 1) ≤ S.ln + (S.a + 1); omega) (fun _ _ z => by have z : T1.ln + (S.a + 1) ≤ S.ln + T1.a := z; omega) (fun hz hl1 hl2 f2 j2 hj2 => ?_)
      rw [oL_P hl1 hl2, show cmap 327 = 10 by decide]
      show oe (ETm K PL SZ tk f2 j2 (eN (10 :: W) (oL lo T1) S.op)) _
      rw [eN_no (W := 10 :: W) (fun v hv => by have e : (10 : Int) = v := Option.some.inj hv; omega)]
      exact d_ao (Or.inl rfl)
    obtain ⟨e1, e2, e3, e4⟩ := rP_e (S := T1) (x := 327)
    have hgP : gS n (rP 327 T1) := rP_gS G.1
    have G2 := rd_g (SZ := SZ) (rl := rl) (PL := PL) hK g 7 (rP 327 T1) hgP (by decide) (by simp only [rk]; omega)
    have Wn : (rP 327 T1).f = 0 → ∀ f2 j2 : Nat, (j2 : Int) = (rP 327 T1).a → ((f + 1 : Nat) : Int) + S.a ≤ (f2 : Int) + (rP 327 T1).a → lo ≤ (rP 327 T1).ln → (rP 327 T1).ln + S.a ≤ S.ln + (rP 327 T1).a → _ := fun hz f2 j2 hj2 hf2 hl2 hs2 => h2 (rP 327 T1) f2 j2 W ⟨hgP, hz, hl2, by omega, hj2, by omega⟩ ⟨by omega, hg.2⟩
    refine ⟨pT.pre (pT.bind qP (fun hz => G2.2.2.2.1.resolve_left hz) (fun hz f2 j2 hj2 hf2 hl2 hs2 => ?_)) (rmT1_and (by rw [hj]; exact hk) (fun v hv z => hg.2 v hv (by omega))), fun hz => ?_⟩
    · have w := (Wn hz f2 j2 hj2 hf2 hl2 hs2).1
      rw [e2, hop] at w
      exact w
    · have hz1 : (rP 327 T1).f = 0 := by
        by_cases h : (rP 327 T1).f = 0
        · exact h
        · exact absurd ((G2.2.2.2.1.resolve_left h).1 ▸ hz) h
      obtain ⟨b1, b2, f3, j3, b3, b4, b5⟩ := qP.2 hz1
      exact (Wn hz1 f3 j3 b3 b4 b1 b2).2 hz
  · rw [if_neg (fun z => hk z.2)]
    exact ⟨pT.fin1 (X := fun f2 j2 => RTm K PL SZ tk f2 1 j2 W (oL lo S) S.op) hj (by omega) (by omega) hf0 hlo, fun _ => hk⟩
set_option maxHeartbeats 1000000 in
theorem b9 {K PL SZ : Int → Int} {rl tk n lo : Int} {g : Nat} (hK : ∀ j : Int, 0 ≤ j → j < n → (K j = 341 ↔ j = n - 1)) (hn : n ≤ 1601) (h0 : B6 K PL SZ rl tk n lo g) (h2 : B9 K PL SZ rl tk n lo g) : B9 K PL SZ rl tk n lo (g + 1) := by
  intro S f j W hp hg
  obtain ⟨hgS, hf0, hlo, hla, hj, hf⟩ := hp
  obtain ⟨f, rfl⟩ : ∃ x, f = x + 1 := ⟨f - 1, by have := hgS.1; omega⟩
  have hfu : 16 * (n - S.a) < ((g + 1 : Nat) : Int) := hg.1.1
  have erd : rd K PL SZ rl (g + 1) 9 S = (if S.f = 0 ∧ K S.a = 326 then rd K PL SZ rl g 9 (rP 326 (rd K PL SZ rl g 6 (rI S))) else S) := rfl
  rw [erd]
  by_cases hk : K S.a = 326
  · rw [if_pos ⟨hf0, hk⟩]
    have ha2 := nxt_lt hK hgS (by omega)
    have hgI := rI_gS hgS ha2
    have q := h0 (rI S) f (j + 1) (11 :: W) ⟨hgI, hf0, hlo, by show S.ln ≤ S.a + 1; omega, by show ((j + 1 : Nat) : Int) = S.a + 1; omega, by show n ≤ f + (S.a + 1); omega⟩ ⟨by show 16 * (n - (S.a + 1)) + 5 < (g : Int); omega, fun v hv => by
      have e : (11 : Int) = v := Option.some.inj hv
      omega⟩
    have G := rd_g (SZ := SZ) (rl := rl) (PL := PL) hK g 6 (rI S) hgI (by decide) (by simp only [rk]; show 16 * (n - (S.a + 1)) + _ < (g : Int); omega)
    have Ga : S.a + 1 ≤ (rd K PL SZ rl g 6 (rI S)).a := G.2.1
    have hop : (rd K PL SZ rl g 6 (rI S)).op = S.op := G.2.2.1
    obtain ⟨q, qk⟩ := q
    generalize rd K PL SZ rl g 6 (rI S) = T1 at q qk G Ga hop ⊢
    have hT1 := G.1.1
    have qP : pT lo (f + 1) S (rP 326 T1) (fun f2 j2 => RTm K PL SZ tk f2 1 j2 W (oL lo (rP 326 T1)) S.op) (RTm K PL SZ tk f 0 (j + 1) (11 :: W) (oL lo S) S.op) := by
      refine pT.rP q (by show ((f + 1 : Nat) : Int) + S.a ≤ (f : Int) + (S.a + 1); omega) (by show S.ln + (S.a + 1) ≤ S.ln + (S.a + 1); omega) (fun _ _ z => by have z : T1.ln + (S.a + 1) ≤ S.ln + T1.a := z; omega) (fun hz hl1 hl2 f2 j2 hj2 => ?_)
      rw [oL_P hl1 hl2, show cmap 326 = 11 by decide]
      skip
      exact d_ao (Or.inr ⟨rfl, by rw [hj2]; exact qk hz⟩)
    obtain ⟨e1, e2, e3, e4⟩ := rP_e (S := T1) (x := 326)
    have hgP : gS n (rP 326 T1) := rP_gS G.1
    have G2 := rd_g (SZ := SZ) (rl := rl) (PL := PL) hK g 9 (rP 326 T1) hgP (by decide) (by simp only [rk]; omega)
    have Wn : (rP 326 T1).f = 0 → ∀ f2 j2 : Nat, (j2 : Int) = (rP 326 T1).a → ((f + 1 : Nat) : Int) + S.a ≤ (f2 : Int) + (rP 326 T1).a → lo ≤ (rP 326 T1).ln → (rP 326 T1).ln + S.a ≤ S.ln + (rP 326 T1).a → _ := fun hz f2 j2 hj2 hf2 hl2 hs2 => h2 (rP 326 T1) f2 j2 W ⟨hgP, hz, hl2, by omega, hj2, by omega⟩ ⟨⟨by omega, by rw [e1]; exact qk (e3 ▸ hz)⟩, hg.2⟩
    refine ⟨pT.pre (pT.bind qP (fun hz => G2.2.2.2.1.resolve_left hz) (fun hz f2 j2 hj2 hf2 hl2 hs2 => ?_)) (rmT1_or (by rw [hj]; exact hk) (fun v hv z => hg.2 v hv (by omega))), fun hz => ?_⟩
    · have w := (Wn hz f2 j2 hj2 hf2 hl2 hs2).1
      rw [e2, hop] at w
      exact w
    · have hz1 : (rP 326 T1).f = 0 := by
        by_cases h : (rP 326 T1).f = 0
        · exact h
        · exact absurd ((G2.2.2.2.1.resolve_left h).1 ▸ hz) h
      obtain ⟨b1, b2, f3, j3, b3, b4, b5⟩ := qP.2 hz1
      exact (Wn hz1 f3 j3 b3 b4 b1 b2).2 hz
  · rw [if_neg (fun z => hk z.2)]
    exact ⟨pT.fin1 (X := fun f2 j2 => RTm K PL SZ tk f2 1 j2 W (oL lo S) S.op) hj (by omega) (by omega) hf0 hlo, fun _ => ⟨hg.1.2, hk⟩⟩

