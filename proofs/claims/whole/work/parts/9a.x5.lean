/-! a part read by the class and by the reference (p9a.py) -/
set_option maxHeartbeats 1000000 in
theorem a11 {K PL SZ : Int → Int} {rl tk n lo : Int} {g : Nat} (hK : ∀ j : Int, 0 ≤ j → j < n → (K j = 341 ↔ j = n - 1)) (h3 : A3 K PL SZ rl tk n lo g) : A11 K PL SZ rl tk n lo (g + 1) := by
  intro S f j U hp hg m c hmc
  obtain ⟨hgS, hf0, hlo, hla, hj, hf⟩ := hp
  obtain ⟨f, rfl⟩ : ∃ x, f = x + 1 := ⟨f - 1, by have := hgS.1; omega⟩
  have erd : rd K PL SZ rl (g + 1) 11 S = (if K S.a = 40 then (if S.f = 0 ∧ S.op < 6 then rZ (rN K PL 41 (rd K PL SZ rl g 3 (rN K PL 44 (rd K PL SZ rl g 3 (rO PL S))))) else rO PL S) else rF 1 (PL S.a) S) := rfl
  rw [erd]
  obtain ⟨h, hh, hhc, hpar, hno⟩ : ∃ h : Int, (h = 21 ∨ h = 22) ∧ (if h + 2 = 23 then (5 : Int) else 6) = c ∧ (K (j : Int) = 40 → RM K PL SZ tk (f + 1) m j U (oL lo S) S.op = if S.op = 6 then (4, PL (j : Int), j, oL lo S, S.op) else RM K PL SZ tk f 0 (j + 1) (h :: U) (oL lo S) (S.op + 1)) ∧ (¬ K (j : Int) = 40 → RM K PL SZ tk (f + 1) m j U (oL lo S) S.op = (1, PL (j : Int), j, oL lo S, S.op)) := by
    rcases hmc with ⟨rfl, rfl⟩ | ⟨rfl, rfl⟩
    · exact ⟨21, Or.inl rfl, rfl, fun z => rm1_par z, fun z => rm1_no z⟩
    · exact ⟨22, Or.inr rfl, rfl, fun z => rm3_par z, fun z => rm3_no z⟩
  have hop6 := hgS.2.1
  by_cases hk : K S.a = 40
  · have hkj : K (j : Int) = 40 := by rw [hj]; exact hk
    have ha2 := nxt_lt hK hgS (by rw [hk]; decide)
    refine pOK.pre ?_ (hpar hkj)
    rw [if_pos hk]
    by_cases hop : S.op = 6
    · rw [if_neg (by omega : ¬ (S.f = 0 ∧ S.op < 6)), if_pos hop, rO_n (by omega)]
      exact pOK.flt (by decide) (rF_0 hf0).1 (by rw [(rF_0 hf0).2, hj])
    · have hc : S.f = 0 ∧ S.op < 6 := ⟨hf0, by omega⟩
      rw [if_pos hc, if_neg hop]
      obtain ⟨e1, e2, e3, e4, e5, e6⟩ := rO_t (PL := PL) hc
      have g1 := rO_g (PL := PL) hgS hc ha2
      obtain ⟨q1, q2⟩ := h3 (rO PL S) f (j + 1) (h :: U) ⟨g1.1, g1.2.2.2, by omega, by omega, by omega, by omega⟩ ⟨by omega, not_su20 (by omega)⟩
      have G := rd_g (SZ := SZ) (rl := rl) (PL := PL) hK g 3 (rO PL S) g1.1 (by decide) (by simp only [rk]; omega)
      rw [oL_same e5 e6, e2] at q1
      generalize rd K PL SZ rl g 3 (rO PL S) = T1 at q1 q2 G ⊢
      have hgT := G.1
      have hT1 := hgT.1
      have Ga := G.2.1
      have hop1 : T1.op = S.op + 1 := G.2.2.1.trans e2
      have GN := rN_g (PL := PL) (m := 44) hgT hK
      have G3 := rd_g (SZ := SZ) (rl := rl) (PL := PL) hK g 3 (rN K PL 44 T1) GN.1 (by decide) (by simp only [rk]; have := GN.2.1; omega)
      refine pOK.bind (pOK.sub q1 (by omega) (by omega)) (fun hz => ?_) (fun hz f2 j2 hj2 hf2 hl2 hs2 => ?_)
      · have k1 := rN_k (K := K) (PL := PL) (m := 44) hz
        have hz2 : ¬ (rN K PL 44 T1).f = 0 := by rw [k1.1]; exact hz
        have k2 := G3.2.2.2.1.resolve_left hz2
        have k3 := rN_k (K := K) (PL := PL) (m := 41) (S := rd K PL SZ rl g 3 (rN K PL 44 T1)) (by rw [k2.1]; exact hz2)
        exact ⟨k3.1.trans (k2.1.trans k1.1), k3.2.trans (k2.2.trans k1.2)⟩
      · obtain ⟨f2, rfl⟩ : ∃ x, f2 = x + 1 := ⟨f2 - 1, by omega⟩
        have hno2 := q2 hz
        by_cases hk2 : K T1.a = 44
        · have hb2 := nxt_lt hK hgT (by rw [hk2]; decide)
          have hgI := rI_gS hgT hb2
          refine pOK.pre ?_ (rm2_comma (by rw [hj2]; exact hk2) hh)
          rw [rN_t hk2 (by decide)] at G3 ⊢
          obtain ⟨q3, q4⟩ := h3 (rI T1) f2 (j2 + 1) ((h + 2) :: U) ⟨hgI, hz, hl2, by show T1.ln ≤ T1.a + 1; omega, by show ((j2 + 1 : Nat) : Int) = T1.a + 1; omega, by show n ≤ f2 + (T1.a + 1); omega⟩ ⟨by show 16 * (n - (T1.a + 1)) + 3 < (g : Int); omega, not_su20 (by omega)⟩
          have hop2 : (rI T1).op = S.op + 1 := hop1
          have q3 : pOK lo f2 (rI T1) (rd K PL SZ rl g 3 (rI T1)) (fun f2 j2 => RM K PL SZ tk f2 2 j2 ((h + 2) :: U) (oL lo (rd K PL SZ rl g 3 (rI T1))) (S.op + 1)) (RM K PL SZ tk f2 0 (j2 + 1) ((h + 2) :: U) (oL lo T1) (S.op + 1)) := by
            rw [hop2] at q3; exact q3
          generalize rd K PL SZ rl g 3 (rI T1) = T2 at q3 q4 G3 ⊢
          have hgT2 := G3.1
          refine pOK.bind (pOK.sub q3 (by show (f2 : Int) + (T1.a + 1) = ((f2 + 1 : Nat) : Int) + T1.a; omega) (by show T1.ln + T1.a ≤ T1.ln + (T1.a + 1); omega)) (fun hz => rN_k hz) (fun hz2 f3 j3 hj3 hf3 hl3 hs3 => ?_)
          have hT2 := hgT2.1
          obtain ⟨f3, rfl⟩ : ∃ x, f3 = x + 1 := ⟨f3 - 1, by omega⟩
          by_cases hk3 : K T2.a = 41
          · rw [rN_t hk3 (by decide)]
            refine pOK.pre ?_ (rm2_close (h := h + 2) (by rw [hj3]; exact hk3) (by omega))
            rw [if_neg (by omega), hhc, show S.op + 1 - 1 = S.op by omega]
            exact pOK.fin1 (X := fun f2 j2 => EMc K PL SZ tk f2 j2 (eP U (c :: oL lo (rZ (rI T2))) S.op)) (by show ((j3 + 1 : Nat) : Int) = T2.a + 1; omega) (by show (f3 : Int) + (T2.a + 1) = ((f3 + 1 : Nat) : Int) + T2.a; omega) (by show T2.ln + T2.a ≤ T2.ln + (T2.a + 1); omega) hz2 hl3
          · rw [rN_f hk3]
            have hno3 := q4 hz2
            refine pOK.pre ?_ (rm2_noclose (h := h + 2) (by rw [hj3]; exact hk3) (by rw [hj3]; exact hno3.1) (by rw [hj3]; exact hno3.2) (by omega))
            exact pOK.flt (by decide) (rF_0 hz2).1 (by show (rF 1 (PL T2.a) T2).pl = _; rw [(rF_0 hz2).2, hj3])
        · refine pOK.pre ?_ (rm2_nocomma (by rw [hj2]; exact hk2) (by rw [hj2]; exact hno2.1) (by rw [hj2]; exact hno2.2) hh)
          rw [rN_f hk2] at G3 ⊢
          have k1 := rF_0 (x := 1) (z := PL T1.a) hz
          have hz2 : ¬ (rF 1 (PL T1.a) T1).f = 0 := by rw [k1.1]; decide
          have k2 := G3.2.2.2.1.resolve_left hz2
          have k3 := rN_k (K := K) (PL := PL) (m := 41) (S := rd K PL SZ rl g 3 (rF 1 (PL T1.a) T1)) (by rw [k2.1]; exact hz2)
          exact pOK.flt (by decide) (k3.1.trans (k2.1.trans k1.1)) ((k3.2.trans (k2.2.trans k1.2)).trans (by rw [hj2]))
  · rw [if_neg hk]
    refine pOK.pre ?_ (hno (by rw [hj]; exact hk))
    exact pOK.flt (by decide) (rF_0 hf0).1 (by rw [(rF_0 hf0).2, hj])

set_option maxHeartbeats 1000000 in
theorem a0 {K PL SZ : Int → Int} {rl tk n lo : Int} {g : Nat} (hr : (rl = 0 ∧ tk = 0) ∨ (rl = 1 ∧ tk = 1) ∨ (rl = 2 ∧ tk = 0) ∨ (rl = 3 ∧ tk = 2)) (hS : ∀ j : Int, SZ j = -1 ∨ (0 ≤ SZ j ∧ SZ j ≤ 9999)) (hn : n ≤ 1601) (hK : ∀ j : Int, 0 ≤ j → j < n → (K j = 341 ↔ j = n - 1)) (h0 : A0 K PL SZ rl tk n lo g) (h10 : A10 K PL SZ rl tk n lo g) (h11 : A11 K PL SZ rl tk n lo g) : A0 K PL SZ rl tk n lo (g + 1) := by
  intro S f j U hp hg
  have hp0 := hp
  obtain ⟨hgS, hf0, hlo, hla, hj, hf⟩ := hp
  have hS1 := hgS.1
  have erd : rd K PL SZ rl (g + 1) 0 S = (if K S.a = 339 then rP (1000 + SZ S.a) (rM K PL SZ 0 9999 S)
    else if K S.a = 40 then rd K PL SZ rl g 10 S
    else if K S.a = 330 ∨ K S.a = 331 then rP (K S.a) (rd K PL SZ rl g 11 (rI S))
    else if K S.a = 312 ∧ rl = 3 then (if S.f = 0 ∧ S.op < 6 then rZ (rP 312 (rd K PL SZ rl g 0 (rO PL S))) else rO PL S)
    else if partB rl (K S.a) = true then rP (K S.a) (rI S)
    else rF 1 (PL S.a) S) := rfl
  rw [erd]
  have hop6 := hgS.2.1
  have hq := partQ (rl := rl) (tk := tk) (m := K S.a) hr
  -- a code for one mark
  have one : ∀ (x : Int) (f2 : Nat), f = f2 + 1 → S.a + 1 < n → RM K PL SZ tk f 0 j U (oL lo S) S.op = EMc K PL SZ tk f2 (j + 1) (eP U (cmap x :: oL lo S) S.op) → pOK lo f S (rP x (rI S)) (fun f2 j2 => EMc K PL SZ tk f2 j2 (eP U (oL lo (rP x (rI S))) S.op)) (RM K PL SZ tk f 0 j U (oL lo S) S.op) := fun x f2 e ha2 hr2 => by
    subst e
    refine pOK.pre (r2 := EMc K PL SZ tk f2 (j + 1) (eP U (cmap x :: oL lo S) S.op)) ?_ hr2
    refine pOK.rP (f1 := f2) (S1 := rI S) (X := fun f2 j2 => EMc K PL SZ tk f2 j2 (eP U (cmap x :: oL lo S) S.op)) (pOK.fin1 (X := fun f2 j2 => EMc K PL SZ tk f2 j2 (eP U (cmap x :: oL lo S) S.op)) (by show ((j + 1 : Nat) : Int) = S.a + 1; omega) rfl (by omega) hf0 hlo) (by show (f2 : Int) + (S.a + 1) = ((f2 + 1 : Nat) : Int) + S.a; omega) ⟨rfl, rfl⟩ (fun _ _ _ => by show S.ln < 1600; omega) (fun _ hl1 hl2 f3 j3 _ => ?_)
    rw [oL_P hl1 hl2]
    exact oe.rf
  by_cases k339 : K S.a = 339
  · rw [if_pos k339]
    obtain ⟨f, rfl⟩ : ∃ x, f = x + 1 := ⟨f - 1, by omega⟩
    have ha2 := nxt_lt hK hgS (by omega)
    have hw : qWo tk (K (j : Int)) 0 11 = -1 := by
      rw [hj, k339]
      have e : qWz 339 = -1 := by decide
      unfold qWo; rw [e, if_neg (fun z => absurd z.1.1 (by decide))]
    have e2 := rm0_num (K := fun j : Nat => K j) (PL := fun j : Nat => PL j) (Z := fun j : Nat => SZ j) (tk := tk) (f := f) (j := j) (U := U) (O := oL lo S) (op := S.op) (by show K (j : Int) = 339; rw [hj]; exact k339) hw
    unfold rM
    rw [if_pos k339]
    by_cases hz : SZ S.a = -1
    · rw [if_pos hz]
      refine pOK.pre ?_ (e2.trans (if_pos (by rw [hj]; exact hz)))
      obtain ⟨c1, c2, c3, c4⟩ := rP_e (S := rI (rF 1 (PL S.a + 4) S)) (x := 1000 + SZ S.a)
      exact pOK.flt (by decide) (c3.trans (rF_0 hf0).1) (c4.trans ((rF_0 hf0).2.trans (by rw [hj])))
    · have hz2 := (hS S.a).resolve_left hz
      rw [if_neg hz, if_neg (by omega)]
      have e3 := e2.trans (if_neg (by rw [hj]; exact hz))
      refine one (1000 + SZ S.a) f rfl ha2 (e3.trans ?_)
      rw [hj, cm_num hz2.1]
  · rw [if_neg k339]
    by_cases k40 : K S.a = 40
    · rw [if_pos k40]
      exact h10 S f j U hp0 ⟨k40, by omega⟩
    · rw [if_neg k40]
      by_cases k33 : K S.a = 330 ∨ K S.a = 331
      · rw [if_pos k33]
        obtain ⟨f, rfl⟩ : ∃ x, f = x + 1 := ⟨f - 1, by omega⟩
        have ha2 := nxt_lt hK hgS (by omega)
        have hgI := rI_gS hgS ha2
        obtain ⟨m, c, hmc, hcm, hrm⟩ : ∃ (m : Nat) (c : Int), ((m = 1 ∧ c = 5) ∨ (m = 3 ∧ c = 6)) ∧ cmap (K S.a) = c ∧ RM K PL SZ tk (f + 1) 0 j U (oL lo S) S.op = RM K PL SZ tk f m (j + 1) U (oL lo S) S.op := by
          rcases k33 with k | k
          · exact ⟨1, 5, Or.inl ⟨rfl, rfl⟩, by rw [k]; decide, rm0_min (by show K (j : Int) = 330; rw [hj]; exact k)⟩
          · exact ⟨3, 6, Or.inr ⟨rfl, rfl⟩, by rw [k]; decide, rm0_max (by show K (j : Int) = 331; rw [hj]; exact k)⟩
        have q := h11 (rI S) f (j + 1) U ⟨hgI, hf0, hlo, by show S.ln ≤ S.a + 1; omega, by show ((j + 1 : Nat) : Int) = S.a + 1; omega, by show n ≤ f + (S.a + 1); omega⟩ (by show 16 * (n - (S.a + 1)) < (g : Int); omega) m c hmc
        have G := rd_g (SZ := SZ) (rl := rl) (PL := PL) hK g 11 (rI S) hgI (by decide) (by simp only [rk]; show 16 * (n - (S.a + 1)) + _ < (g : Int); omega)
        generalize rd K PL SZ rl g 11 (rI S) = T1 at q G ⊢
        have hT1 := G.1.1
        refine pOK.pre (pOK.rP q (by show (f : Int) + (S.a + 1) = ((f + 1 : Nat) : Int) + S.a; omega) ⟨rfl, rfl⟩ (fun _ _ z => by have z : T1.ln + (S.a + 1) ≤ S.ln + T1.a := z; omega) (fun hz hl1 hl2 f2 j2 hj2 => ?_)) hrm
        rw [oL_P hl1 hl2, hcm]
        exact oe.rf
      · rw [if_neg k33]
        obtain ⟨f, rfl⟩ : ∃ x, f = x + 1 := ⟨f - 1, by omega⟩
        by_cases k312 : K S.a = 312 ∧ rl = 3
        · rw [if_pos k312]
          have ht : tk = 2 := by omega
          have ha2 := nxt_lt hK hgS (by omega)
          refine pOK.pre ?_ (rm0_now (by show K (j : Int) = 312; rw [hj]; exact k312.1) ht)
          by_cases hop : S.op = 6
          · rw [if_neg (by omega : ¬ (S.f = 0 ∧ S.op < 6)), if_pos hop, rO_n (by omega)]
            exact pOK.flt (by decide) (rF_0 hf0).1 (by rw [(rF_0 hf0).2, hj])
          · have hc : S.f = 0 ∧ S.op < 6 := ⟨hf0, by omega⟩
            rw [if_pos hc, if_neg hop]
            obtain ⟨e1, e2, e3, e4, e5, e6⟩ := rO_t (PL := PL) hc
            have g1 := rO_g (PL := PL) hgS hc ha2
            have q1 := h0 (rO PL S) f (j + 1) (60 :: U) ⟨g1.1, g1.2.2.2, by omega, by omega, by omega, by omega⟩ (by omega)
            have G := rd_g (SZ := SZ) (rl := rl) (PL := PL) hK g 0 (rO PL S) g1.1 (by decide) (by simp only [rk]; omega)
            rw [oL_same e5 e6, e2] at q1
            generalize rd K PL SZ rl g 0 (rO PL S) = T1 at q1 G ⊢
            have hT1 := G.1.1
            have q2 : pOK lo (f + 1) S (rP 312 T1) (fun f2 j2 => EMc K PL SZ tk f2 j2 (eP U (oL lo (rP 312 T1)) S.op)) (RM K PL SZ tk f 0 (j + 1) (60 :: U) (oL lo S) (S.op + 1)) := by
              refine pOK.rP q1 (by omega) ⟨e5, e1⟩ (fun _ _ z => by omega) (fun hz hl1 hl2 f2 j2 hj2 => ?_)
              rw [oL_P hl1 hl2]
              refine oe.of ?_
              show EMc K PL SZ tk f2 j2 (eP (60 :: U) (oL lo T1) (S.op + 1)) = EMc K PL SZ tk f2 j2 (eP U (cmap 312 :: oL lo T1) S.op)
              have e : eP (60 :: U) (oL lo T1) (S.op + 1) = eP U (60 :: oL lo T1) (S.op + 1 - 1) := by
                show (if (60 : Int) ≤ 60 then _ else _) = _
                rw [if_pos (by decide)]
              rw [e, show S.op + 1 - 1 = S.op by omega, show cmap 312 = 60 by decide]
            exact q2
        · rw [if_neg k312]
          have k312' : ¬ (K (j : Int) = 312 ∧ tk = 2) := by rw [hj]; exact fun z => k312 ⟨z.1, by omega⟩
          by_cases kp : partB rl (K S.a) = true
          · rw [if_pos kp]
            obtain ⟨w1, w2⟩ := hq.1 kp
            have kne : ¬ K S.a = 341 := fun z => by rw [z] at kp; have := partB_iff.mp kp; omega
            refine one (K S.a) f rfl (nxt_lt hK hgS kne) ?_
            refine (rm0_word (by show ¬ K (j : Int) = 40; rw [hj]; exact k40) (by show ¬ K (j : Int) = 330; rw [hj]; exact fun z => k33 (Or.inl z)) (by show ¬ K (j : Int) = 331; rw [hj]; exact fun z => k33 (Or.inr z)) k312' (by show ¬ qWo tk (K (j : Int)) 0 11 = -1; rw [hj]; exact w1)).trans ?_
            show EMc K PL SZ tk f (j + 1) (eP U ((40 + qWo tk (K (j : Int)) 0 11) :: oL lo S) S.op) = _
            rw [hj, w2]
          · rw [if_neg kp]
            refine pOK.pre ?_ (rm0_none (by show ¬ K (j : Int) = 40; rw [hj]; exact k40) (by show ¬ K (j : Int) = 330; rw [hj]; exact fun z => k33 (Or.inl z)) (by show ¬ K (j : Int) = 331; rw [hj]; exact fun z => k33 (Or.inr z)) k312' (by show qWo tk (K (j : Int)) 0 11 = -1; rw [hj]; exact hq.2 kp) (by show ¬ K (j : Int) = 339; rw [hj]; exact k339))
            exact pOK.flt (by decide) (rF_0 hf0).1 (by rw [(rF_0 hf0).2, hj])

/-- all of them, by the class's depth -/
theorem aAll {K PL SZ : Int → Int} {rl tk n lo : Int} (hr : (rl = 0 ∧ tk = 0) ∨ (rl = 1 ∧ tk = 1) ∨ (rl = 2 ∧ tk = 0) ∨ (rl = 3 ∧ tk = 2)) (hS : ∀ j : Int, SZ j = -1 ∨ (0 ≤ SZ j ∧ SZ j ≤ 9999)) (hn : n ≤ 1601) (hK : ∀ j : Int, 0 ≤ j → j < n → (K j = 341 ↔ j = n - 1)) : ∀ g : Nat, (A0 K PL SZ rl tk n lo g ∧ A10 K PL SZ rl tk n lo g ∧ A11 K PL SZ rl tk n lo g) ∧ (A1 K PL SZ rl tk n lo g ∧ A2 K PL SZ rl tk n lo g) ∧ (A3 K PL SZ rl tk n lo g ∧ A4 K PL SZ rl tk n lo g)
  | 0 => by
    refine ⟨⟨?_, ?_, ?_⟩, ⟨?_, ?_⟩, ⟨?_, ?_⟩⟩
    · intro S f j U hp hg; have := hp.1.1; omega
    · intro S f j U hp hg; have := hp.1.1; have := hg.2; omega
    · intro S f j U hp hg; have := hp.1.1; omega
    · intro S f j U hp hg; have := hp.1.1; have := hg.1; omega
    · intro S f j U hp hg; have := hp.1.1; have := hg.1; omega
    · intro S f j U hp hg; have := hp.1.1; have := hg.1; omega
    · intro S f j U hp hg; have := hp.1.1; have := hg.1.1; omega
  | g + 1 => by
    obtain ⟨⟨b0, b10, b11⟩, ⟨b1, b2⟩, b3, b4⟩ := aAll hr hS hn hK g
    exact ⟨⟨a0 hr hS hn hK b0 b10 b11, a10 hK b3, a11 hK b3⟩, ⟨a1 hK b0 b2, a2 hK hn b0 b2⟩, a3 hK b1 b4, a4 hK hn b1 b4⟩

