/-! a fact and a test read by the class and by the reference, whole (p9d.py) -/
def cmpS (k : Int) : Prop := k = 60 ∨ k = 62 ∨ k = 61
set_option maxHeartbeats 1000000 in
theorem b5 {K PL SZ : Int → Int} {rl tk n lo : Int} {g : Nat} (hn : n ≤ 1601) (hK : ∀ j : Int, 0 ≤ j → j < n → (K j = 341 ↔ j = n - 1)) (h3 : A3 K PL SZ rl tk n lo g) (h5 : B5 K PL SZ rl tk n lo g) (h8 : B8 K PL SZ rl tk n lo g) : B5 K PL SZ rl tk n lo (g + 1) := by
  intro S f j W hp hg
  have hp0 := hp
  obtain ⟨hgS, hf0, hlo, hla, hj, hf⟩ := hp
  have hS1 := hgS.1
  have hop6 := hgS.2.1
  obtain ⟨f, rfl⟩ : ∃ x, f = x + 1 := ⟨f - 1, by omega⟩
  have erd : rd K PL SZ rl (g + 1) 5 S = (if K S.a = 328 then (if S.f = 0 ∧ S.op < 6 then rZ (rP 328 (rd K PL SZ rl g 5 (rO PL S))) else rO PL S)
    else if K S.a = 91 then (if S.f = 0 ∧ S.op < 6 then rZ (rN K PL 93 (rd K PL SZ rl g 8 (rO PL S))) else rO PL S)
    else if K S.a = 329 then rP 329 (rI S)
    else if K (rd K PL SZ rl g 3 S).a = 60 ∨ K (rd K PL SZ rl g 3 S).a = 62 ∨ K (rd K PL SZ rl g 3 S).a = 61 then rP (K (rd K PL SZ rl g 3 S).a) (rd K PL SZ rl g 3 (rI (rd K PL SZ rl g 3 S)))
    else rF 1 (PL (rd K PL SZ rl g 3 S).a) (rd K PL SZ rl g 3 S)) := rfl
  rw [erd]
  by_cases k328 : K S.a = 328
  · rw [if_pos k328]
    have ha2 := nxt_lt hK hgS (by omega)
    refine pT.pre ?_ (rmT0_not (by show K (j : Int) = 328; rw [hj]; exact k328))
    by_cases hop : S.op = 6
    · rw [if_neg (by omega : ¬ (S.f = 0 ∧ S.op < 6)), if_pos hop, rO_n (by omega)]
      exact pT.flt (by decide) (rF_0 hf0).1 (by rw [(rF_0 hf0).2, hj])
    · have hc : S.f = 0 ∧ S.op < 6 := ⟨hf0, by omega⟩
      rw [if_pos hc, if_neg hop]
      obtain ⟨e1, e2, e3, e4, e5, e6⟩ := rO_t (PL := PL) hc
      have g1 := rO_g (PL := PL) hgS hc ha2
      have q1 := h5 (rO PL S) f (j + 1) (12 :: W) ⟨g1.1, g1.2.2.2, by omega, by omega, by omega, by omega⟩ (by omega)
      have G := rd_g (SZ := SZ) (rl := rl) (PL := PL) hK g 5 (rO PL S) g1.1 (by decide) (by simp only [rk]; omega)
      rw [oL_same e5 e6, e2] at q1
      generalize rd K PL SZ rl g 5 (rO PL S) = T1 at q1 G ⊢
      have hT1 := G.1.1
      have q2 : pT lo (f + 1) S (rP 328 T1) (fun f2 j2 => ETm K PL SZ tk f2 j2 (eN W (oL lo (rP 328 T1)) S.op)) (RTm K PL SZ tk f 0 (j + 1) (12 :: W) (oL lo S) (S.op + 1)) := by
        refine pT.rP q1 (by omega) (by omega) (fun _ _ z => by omega) (fun hz hl1 hl2 f2 j2 hj2 => ?_)
        rw [oL_P hl1 hl2]
        refine oe.of ?_
        show ETm K PL SZ tk f2 j2 (eN (12 :: W) (oL lo T1) (S.op + 1)) = ETm K PL SZ tk f2 j2 (eN W (cmap 328 :: oL lo T1) S.op)
        have e : eN (12 :: W) (oL lo T1) (S.op + 1) = eN W (12 :: oL lo T1) (S.op + 1 - 1) := by
          show (if (12 : Int) = 12 then _ else _) = _
          rw [if_pos rfl]
        rw [e, show S.op + 1 - 1 = S.op by omega, show cmap 328 = 12 by decide]
      exact q2
  · rw [if_neg k328]
    by_cases k91 : K S.a = 91
    · rw [if_pos k91]
      have ha2 := nxt_lt hK hgS (by omega)
      refine pT.pre ?_ (rmT0_sq (by show K (j : Int) = 91; rw [hj]; exact k91))
      by_cases hop : S.op = 6
      · rw [if_neg (by omega : ¬ (S.f = 0 ∧ S.op < 6)), if_pos hop, rO_n (by omega)]
        exact pT.flt (by decide) (rF_0 hf0).1 (by rw [(rF_0 hf0).2, hj])
      · have hc : S.f = 0 ∧ S.op < 6 := ⟨hf0, by omega⟩
        rw [if_pos hc, if_neg hop]
        obtain ⟨e1, e2, e3, e4, e5, e6⟩ := rO_t (PL := PL) hc
        have g1 := rO_g (PL := PL) hgS hc ha2
        obtain ⟨q1, q2⟩ := h8 (rO PL S) f (j + 1) (25 :: W) ⟨g1.1, g1.2.2.2, by omega, by omega, by omega, by omega⟩ ⟨by omega, fun v hv => by have e : (25 : Int) = v := Option.some.inj hv; omega⟩
        have G := rd_g (SZ := SZ) (rl := rl) (PL := PL) hK g 8 (rO PL S) g1.1 (by decide) (by simp only [rk]; omega)
        rw [oL_same e5 e6, e2] at q1
        generalize rd K PL SZ rl g 8 (rO PL S) = T1 at q1 q2 G ⊢
        have hT1 := G.1.1
        refine pT.bind (pT.sub q1 (by omega) (by omega)) (fun hz => rN_k hz) (fun hz f2 j2 hj2 hf2 hl2 hs2 => ?_)
        obtain ⟨f2, rfl⟩ : ∃ x, f2 = x + 1 := ⟨f2 - 1, by omega⟩
        by_cases hk2 : K T1.a = 93
        · rw [rN_t hk2 (by decide)]
          refine pT.pre ?_ (rmT1_close (by rw [hj2]; exact hk2))
          rw [show S.op + 1 - 1 = S.op by omega]
          exact pT.fin1 (X := fun f2 j2 => ETm K PL SZ tk f2 j2 (eN W (oL lo (rZ (rI T1))) S.op)) (by show ((j2 + 1 : Nat) : Int) = T1.a + 1; omega) (by show ((f2 + 1 : Nat) : Int) + T1.a ≤ (f2 : Int) + (T1.a + 1); omega) (by show T1.ln + T1.a ≤ T1.ln + (T1.a + 1); omega) hz hl2
        · rw [rN_f hk2]
          have hno := q2 hz
          refine pT.pre ?_ (rmT1_noclose (by rw [hj2]; exact hk2) (by rw [hj2]; exact hno.1) (by rw [hj2]; exact hno.2))
          exact pT.flt (by decide) (rF_0 hz).1 (by show (rF 1 (PL T1.a) T1).pl = _; rw [(rF_0 hz).2, hj2])
    · rw [if_neg k91]
      have kj91 : ¬ K (j : Int) = 91 := by rw [hj]; exact k91
      have kj328 : ¬ K (j : Int) = 328 := by rw [hj]; exact k328
      by_cases k329 : K S.a = 329
      · rw [if_pos k329]
        have ha2 := nxt_lt hK hgS (by omega)
        have e := ftR_0 (K := fun j : Nat => K j) (PL := fun j : Nat => PL j) (Z := fun j : Nat => SZ j) (tk := tk) (j := j) (O := oL lo S) (op := S.op) (by show K (j : Int) = 329; rw [hj]; exact k329)
        refine pT.pre ?_ (rmT0_g kj91 kj328 e)
        refine pT.rP (f1 := f) (S1 := rI S) (X := fun f2 j2 => ETm K PL SZ tk f2 j2 (eN W (13 :: oL lo S) S.op)) (pT.fin1 (X := fun f2 j2 => ETm K PL SZ tk f2 j2 (eN W (13 :: oL lo S) S.op)) (by show ((j + 1 : Nat) : Int) = S.a + 1; omega) (Int.le_refl _) (by omega) hf0 hlo) (by show ((f + 1 : Nat) : Int) + S.a ≤ (f : Int) + (S.a + 1); omega) (by show S.ln + (S.a + 1) ≤ S.ln + (S.a + 1); omega) (fun _ _ _ => by show S.ln < 1600; omega) (fun _ hl1 hl2 f3 j3 _ => ?_)
        rw [oL_P hl1 hl2]
        exact oe.rf
      · rw [if_neg k329]
        have kj329 : ¬ K (j : Int) = 329 := by rw [hj]; exact k329
        have s1 := sumEnd (tk := tk) hK h3 (S := S) (f := 1700 - j) (j := j) ⟨hgS, hf0, hlo, hla, hj, by omega⟩ (by omega)
        have G := rd_g (SZ := SZ) (rl := rl) (PL := PL) hK g 3 S hgS (by decide) (by simp only [rk]; omega)
        generalize rd K PL SZ rl g 3 S = T1 at s1 G ⊢
        have hgT := G.1
        have hT1 := hgT.1
        have hop1 : T1.op = S.op := G.2.2.1
        have Ga := G.2.1
        by_cases hz : T1.f = 0
        · obtain ⟨b1, b2, b3, b4⟩ := s1.2 hz
          have hja : ((T1.a.toNat : Nat) : Int) = T1.a := by omega
          have Gb : S.a + 1 ≤ T1.a := by have := G.2.2.2.2; simp only [rE] at this; omega
          by_cases kc : K T1.a = 60 ∨ K T1.a = 62 ∨ K T1.a = 61
          · rw [if_pos kc]
            have hb2 := nxt_lt hK hgT (by omega)
            have hgI := rI_gS hgT hb2
            have s2 := sumEnd (tk := tk) hK h3 (S := rI T1) (f := 1700 - (T1.a.toNat + 1)) (j := T1.a.toNat + 1) ⟨hgI, hz, b1, by show T1.ln ≤ T1.a + 1; omega, by show ((T1.a.toNat + 1 : Nat) : Int) = T1.a + 1; omega, by show n ≤ ((1700 - (T1.a.toNat + 1) : Nat) : Int) + (T1.a + 1); omega⟩ (by show 16 * (n - (T1.a + 1)) + 3 < (g : Int); omega)
            have hopI : (rI T1).op = S.op := hop1
            have hoLI : oL lo (rI T1) = oL lo T1 := rfl
            rw [hopI, hoLI] at s2
            have G3 := rd_g (SZ := SZ) (rl := rl) (PL := PL) hK g 3 (rI T1) hgI (by decide) (by simp only [rk]; show 16 * (n - (T1.a + 1)) + 3 < (g : Int); omega)
            have G3a : T1.a + 1 ≤ (rd K PL SZ rl g 3 (rI T1)).a := G3.2.1
            generalize rd K PL SZ rl g 3 (rI T1) = T2 at s2 G3 G3a ⊢
            have hT2 := G3.1.1
            by_cases hz2 : T2.f = 0
            · obtain ⟨c1, c2, c3, c4⟩ := s2.2 hz2
              have c2 : T2.ln + (T1.a + 1) ≤ T1.ln + T2.a := c2
              have e := ftR_4 (K := fun j : Nat => K j) kj329 b4 (by show K ((T1.a.toNat : Nat) : Int) = 60 ∨ K ((T1.a.toNat : Nat) : Int) = 62 ∨ K ((T1.a.toNat : Nat) : Int) = 61; rw [hja]; exact kc) c4
              refine pT.pre ?_ (rmT0_g kj91 kj328 e)
              have hx : cmap (K ((T1.a.toNat : Nat) : Int)) = cmap (K T1.a) := by rw [hja]
              show pT lo (f + 1) S (rP (K T1.a) T2) _ (ETm K PL SZ tk f T2.a.toNat (eN W (cmap (K ((T1.a.toNat : Nat) : Int)) :: oL lo T2) S.op))
              rw [hx]
              refine ⟨fun z => absurd ((rP_e (S := T2) (x := K T1.a)).2.2.1 ▸ hz2 : (rP (K T1.a) T2).f = 0) z, fun _ => ?_⟩
              have e5 := rP_ln (S := T2) (x := K T1.a) (by omega)
              have e6 := (rP_e (S := T2) (x := K T1.a)).1
              refine ⟨by omega, by omega, f, T2.a.toNat, by omega, by omega, ?_⟩
              rw [oL_P c1 (by omega)]
              exact oe.rf
            · have e := s2.1 hz2
              have e2 := ftR_3 (K := fun j : Nat => K j) kj329 b4 (by show K ((T1.a.toNat : Nat) : Int) = 60 ∨ K ((T1.a.toNat : Nat) : Int) = 62 ∨ K ((T1.a.toNat : Nat) : Int) = 61; rw [hja]; exact kc) (by rw [e.1]; exact hz2)
              have e3 := rmT0_f (W := W) (f := f) kj91 kj328 (by rw [e2, e.1]; exact hz2)
              obtain ⟨r1, r2, r3, r4⟩ := rP_e (S := T2) (x := K T1.a)
              refine pT.pre ?_ (e3.trans e2)
              exact ⟨fun _ => ⟨e.1.trans r3.symm, e.2.trans r4.symm⟩, fun z => absurd (r3 ▸ z) hz2⟩
          · rw [if_neg kc]
            have e := ftR_2 (K := fun j : Nat => K j) kj329 b4 (by show ¬ (K ((T1.a.toNat : Nat) : Int) = 60 ∨ K ((T1.a.toNat : Nat) : Int) = 62 ∨ K ((T1.a.toNat : Nat) : Int) = 61); rw [hja]; exact kc)
            refine pT.pre ?_ ((rmT0_f kj91 kj328 (by rw [e]; exact (by decide : ¬ (1 : Int) = 0))).trans e)
            exact pT.flt (by decide) (rF_0 hz).1 (by rw [(rF_0 hz).2]; show PL T1.a = PL ((T1.a.toNat : Nat) : Int); rw [hja])
        · have e := s1.1 hz
          have e2 := ftR_1 (K := fun j : Nat => K j) kj329 (by rw [e.1]; exact hz)
          have e3 := rmT0_f (W := W) (f := f) kj91 kj328 (by rw [e2, e.1]; exact hz)
          refine pT.pre ?_ (e3.trans e2)
          have hgo : (if K T1.a = 60 ∨ K T1.a = 62 ∨ K T1.a = 61 then rP (K T1.a) (rd K PL SZ rl g 3 (rI T1)) else rF 1 (PL T1.a) T1).f = T1.f ∧ (if K T1.a = 60 ∨ K T1.a = 62 ∨ K T1.a = 61 then rP (K T1.a) (rd K PL SZ rl g 3 (rI T1)) else rF 1 (PL T1.a) T1).pl = T1.pl := by
            by_cases kc : K T1.a = 60 ∨ K T1.a = 62 ∨ K T1.a = 61
            · rw [if_pos kc]
              have hgI := rI_gS hgT (nxt_lt hK hgT (by omega))
              have G3 := rd_g (SZ := SZ) (rl := rl) (PL := PL) hK g 3 (rI T1) hgI (by decide) (by simp only [rk]; show 16 * (n - (T1.a + 1)) + 3 < (g : Int); omega)
              obtain ⟨r1, r2, r3, r4⟩ := rP_e (S := rd K PL SZ rl g 3 (rI T1)) (x := K T1.a)
              have k := G3.2.2.2.1.resolve_left hz
              exact ⟨r3.trans k.1, r4.trans k.2⟩
            · rw [if_neg kc, rF_1 hz]; exact ⟨rfl, rfl⟩
          exact ⟨fun _ => ⟨e.1.trans hgo.1.symm, e.2.trans hgo.2.symm⟩, fun z => absurd (hgo.1 ▸ z) hz⟩
/-- all of them, by the class's depth -/
theorem bAll {K PL SZ : Int → Int} {rl tk n lo : Int} (hr : (rl = 0 ∧ tk = 0) ∨ (rl = 1 ∧ tk = 1) ∨ (rl = 2 ∧ tk = 0) ∨ (rl = 3 ∧ tk = 2)) (hS : ∀ j : Int, SZ j = -1 ∨ (0 ≤ SZ j ∧ SZ j ≤ 9999)) (hn : n ≤ 1601) (hK : ∀ j : Int, 0 ≤ j → j < n → (K j = 341 ↔ j = n - 1)) : ∀ g : Nat, B5 K PL SZ rl tk n lo g ∧ (B6 K PL SZ rl tk n lo g ∧ B7 K PL SZ rl tk n lo g) ∧ (B8 K PL SZ rl tk n lo g ∧ B9 K PL SZ rl tk n lo g)
  | 0 => by
    refine ⟨?_, ⟨?_, ?_⟩, ⟨?_, ?_⟩⟩
    · intro S f j U hp hg; have := hp.1.1; omega
    · intro S f j U hp hg; have := hp.1.1; have := hg.1; omega
    · intro S f j U hp hg; have := hp.1.1; have := hg.1; omega
    · intro S f j U hp hg; have := hp.1.1; have := hg.1; omega
    · intro S f j U hp hg; have := hp.1.1; have := hg.1.1; omega
  | g + 1 => by
    obtain ⟨b5', ⟨b6', b7'⟩, b8', b9'⟩ := bAll hr hS hn hK g
    exact ⟨b5 hn hK (aAll hr hS hn hK g).2.2.1 b5' b8', ⟨b6 hK b5' b7', b7 hK hn b5' b7'⟩, b8 hK b6' b9', b9 hK hn b6' b9'⟩

