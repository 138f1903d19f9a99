/-! the class's reader: cursors, names (9t) -/
def cc (C : Cu) (S : Rs) : Prop := S.f = C.1 ∧ (S.f = 0 → S.a = C.2.2 ∧ S.op = 0 ∧ S.pl = -1) ∧ (¬ S.f = 0 → S.pl = C.2.1)
section CC
variable {T : Int → Int} {n : Int} {C : Cu} {S : Rs} {m lo hi : Int} {du : Prop} {K PL SZ : Int → Int}
theorem cc.at (h : S.a = C.2.2) : tK T n S.a = tkK T n C.2.2 ∧ tPl T n S.a = tkP T n C.2.2 ∧ tZ T n S.a = tkZ T n C.2.2 := by
  refine ⟨?_, ?_, ?_⟩
  · show tkK T n S.a.toNat = _; rw [h, Int.toNat_natCast]
  · show tkP T n S.a.toNat = _; rw [h, Int.toNat_natCast]
  · show tkZ T n S.a.toNat = _; rw [h, Int.toNat_natCast]
theorem cc.flt {c p : Int} {j : Nat} (hc : ¬ c = 0) (hf : S.f = c) (hp : S.pl = p) : cc (c, p, j) S := ⟨hf, fun z => absurd (hf.symm.trans z) hc, fun _ => hp⟩
theorem cc.bf {c p : Int} {j : Nat} (hf : S.f = 0) (hc : ¬ c = 0) : cc (c, p, j) (rF c p S) := by
  unfold rF; rw [if_pos hf]; exact cc.flt hc rfl rfl
theorem cc.ok {j : Nat} (hf : S.f = 0) (ha : S.a = j) (ho : S.op = 0) (hp : S.pl = -1) : cc (0, 0, j) S := ⟨hf, fun _ => ⟨ha, ho, hp⟩, fun z => absurd hf z⟩
theorem rF_b {x z : Int} (h : ¬ S.f = 0) : rF x z S = S := if_neg h
theorem cc.wd (h : cc C S) (hm : ¬ m = 341) : cc (cWd (tkK T n) (tkP T n) m C) (rN (tK T n) (tPl T n) m S) := by
  unfold rN cWd
  by_cases hf : S.f = 0
  · have h1 := h.2.1 hf
    have hc : C.1 = 0 := h.1.symm.trans hf
    have hk := cc.at (T := T) (n := n) h1.1
    rw [if_pos hc, hk.1, hk.2.1]
    by_cases hm2 : tkK T n C.2.2 = m
    · rw [if_pos hm2, if_pos hm2, if_neg hm]
      exact cc.ok (S := rI S) hf (by show S.a + 1 = ((C.2.2 + 1 : Nat) : Int); omega) h1.2.1 h1.2.2
    · rw [if_neg hm2, if_neg hm2]; exact cc.bf hf (by decide)
  · have hc : ¬ C.1 = 0 := fun z => hf (h.1.trans z)
    rw [if_neg hc]
    split
    · first | rw [if_neg hm] | skip
      exact ⟨h.1, fun z => absurd z hf, fun _ => h.2.2 hf⟩
    · rw [rF_b hf]; exact h
theorem cc.nu (h : cc C S) : cc (cNu (tkK T n) (tkP T n) (tkZ T n) lo hi C) (rM (tK T n) (tPl T n) (tZ T n) lo hi S) ∧ ((cNu (tkK T n) (tkP T n) (tkZ T n) lo hi C).1 = 0 → rV (tK T n) (tZ T n) S = tkZ T n C.2.2) := by
  by_cases hf : S.f = 0
  · have h1 := h.2.1 hf
    have hc : C.1 = 0 := h.1.symm.trans hf
    have hk := cc.at (T := T) (n := n) h1.1
    have hv : tkK T n C.2.2 = 339 → rV (tK T n) (tZ T n) S = tkZ T n C.2.2 := fun z => by unfold rV; rw [hk.1, if_pos z, hk.2.2]
    refine ⟨?_, fun z => hv (cNu_0 z).2.1⟩
    unfold rM cNu
    rw [if_pos hc, hk.1, hk.2.1, hk.2.2]
    by_cases h2 : tkK T n C.2.2 = 339
    · rw [if_pos h2, if_neg (show ¬ ¬ tkK T n C.2.2 = 339 from fun z => z h2)]
      by_cases h3 : tkZ T n C.2.2 = -1
      · rw [if_pos h3, if_pos h3]
        have := cc.bf (S := S) (c := 1) (p := tkP T n C.2.2 + 4) (j := C.2.2) hf (by decide)
        exact ⟨this.1, fun z => absurd (show (1 : Int) = 0 from this.1.symm.trans z) (by decide), fun z => this.2.2 z⟩
      · rw [if_neg h3, if_neg h3]
        by_cases h4 : tkZ T n C.2.2 < lo ∨ hi < tkZ T n C.2.2
        · rw [if_pos h4, if_neg (show ¬ (lo ≤ tkZ T n C.2.2 ∧ tkZ T n C.2.2 ≤ hi) by omega)]
          have := cc.bf (S := S) (c := 2) (p := tkP T n C.2.2) (j := C.2.2) hf (by decide)
          exact ⟨this.1, fun z => absurd (show (2 : Int) = 0 from this.1.symm.trans z) (by decide), fun z => this.2.2 z⟩
        · rw [if_neg h4, if_pos (show (lo ≤ tkZ T n C.2.2 ∧ tkZ T n C.2.2 ≤ hi) by omega)]
          exact cc.ok (S := rI S) hf (by show S.a + 1 = ((C.2.2 + 1 : Nat) : Int); omega) h1.2.1 h1.2.2
    · rw [if_neg h2, if_pos h2]; exact cc.bf hf (by decide)
  · have hc : ¬ C.1 = 0 := fun z => hf (h.1.trans z)
    refine ⟨?_, fun z => absurd (cNu_0 z).1 hc⟩
    unfold rM cNu
    rw [if_neg hc, rF_b hf, rF_b hf, rF_b hf]
    have e : (if tZ T n S.a = -1 then S else if tZ T n S.a < lo ∨ hi < tZ T n S.a then S else S) = S := by split; rfl; split <;> rfl
    rw [e]
    split
    · exact ⟨h.1, fun z => absurd z hf, fun _ => h.2.2 hf⟩
    · exact h
theorem cc.np_b (h : cc C S) (hb : ¬ (rNm (tK T n) (tPl T n) (tZ T n) S).f = 0) : cc (cNp (tkK T n) (tkP T n) (tkZ T n) du C) (rNm (tK T n) (tPl T n) (tZ T n) S) := by
  by_cases hf : S.f = 0
  · have h1 := h.2.1 hf
    have hc : C.1 = 0 := h.1.symm.trans hf
    have hk := cc.at (T := T) (n := n) h1.1
    unfold rNm at hb ⊢
    rw [hk.1, hk.2.1, hk.2.2] at hb ⊢
    by_cases h2 : 332 ≤ tkK T n C.2.2 ∧ tkK T n C.2.2 ≤ 338
    · rw [if_pos h2] at hb ⊢
      by_cases h3 : 6 < tkZ T n C.2.2
      · rw [if_pos h3] at hb ⊢; rw [cNp_2 hc h2 h3]; exact cc.bf hf (by decide)
      · rw [if_neg h3] at hb; exact absurd hf hb
    · rw [if_neg h2, cNp_1 hc h2]; exact cc.bf hf (by decide)
  · have hc : ¬ C.1 = 0 := fun z => hf (h.1.trans z)
    rw [cNp_b hc]
    unfold rNm
    split
    · split
      · rw [rF_b hf]; exact h
      · exact ⟨h.1, fun z => absurd z hf, fun _ => h.2.2 hf⟩
    · rw [rF_b hf]; exact h
/-- a good name -/
theorem rNm_ok (h : cc C S) (hb : (rNm (tK T n) (tPl T n) (tZ T n) S).f = 0) : S.f = 0 ∧ (332 ≤ tkK T n C.2.2 ∧ tkK T n C.2.2 ≤ 338) ∧ ¬ 6 < tkZ T n C.2.2 ∧ rNm (tK T n) (tPl T n) (tZ T n) S = rI S := by
  have hf : S.f = 0 := by
    by_cases hf : S.f = 0
    · exact hf
    · exfalso
      unfold rNm at hb
      split at hb
      · split at hb
        · rw [rF_b hf] at hb; exact hf hb
        · exact hf hb
      · rw [rF_b hf] at hb; exact hf hb
  have h1 := h.2.1 hf
  have hk := cc.at (T := T) (n := n) h1.1
  unfold rNm at hb ⊢
  rw [hk.1, hk.2.1, hk.2.2] at hb ⊢
  by_cases h2 : 332 ≤ tkK T n C.2.2 ∧ tkK T n C.2.2 ≤ 338
  · rw [if_pos h2] at hb ⊢
    by_cases h3 : 6 < tkZ T n C.2.2
    · rw [if_pos h3] at hb; exact absurd hb (rF_f (by decide))
    · rw [if_neg h3]; exact ⟨hf, h2, h3, rfl⟩
  · rw [if_neg h2] at hb; exact absurd hb (rF_f (by decide))
theorem cc.np_t (h : cc C S) (hb : (rNm (tK T n) (tPl T n) (tZ T n) S).f = 0) (hd : du) : cc (cNp (tkK T n) (tkP T n) (tkZ T n) du C) (rF 3 (tPl T n S.a) (rNm (tK T n) (tPl T n) (tZ T n) S)) := by
  have g := rNm_ok h hb
  have hk := cc.at (T := T) (n := n) (h.2.1 g.1).1
  rw [cNp_3 (h.1.symm.trans g.1) g.2.1 g.2.2.1 hd, hk.2.1]
  exact cc.bf hb (by decide)
theorem cc.np_f (h : cc C S) (hb : (rNm (tK T n) (tPl T n) (tZ T n) S).f = 0) (hd : ¬ du) : cc (cNp (tkK T n) (tkP T n) (tkZ T n) du C) (rNm (tK T n) (tPl T n) (tZ T n) S) := by
  have g := rNm_ok h hb
  have h1 := h.2.1 g.1
  rw [cNp_4 (h.1.symm.trans g.1) g.2.1 g.2.2.1 hd, g.2.2.2]
  exact cc.ok (S := rI S) g.1 (by show S.a + 1 = ((C.2.2 + 1 : Nat) : Int); omega) h1.2.1 h1.2.2
theorem rN_l {m : Int} : (rN K PL m S).ln = S.ln ∧ (rN K PL m S).C = S.C := by
  unfold rN
  split
  · split
    · exact ⟨rfl, rfl⟩
    · exact ⟨rfl, rfl⟩
  · unfold rF; split <;> exact ⟨rfl, rfl⟩
theorem rF_l {x z : Int} : (rF x z S).ln = S.ln ∧ (rF x z S).C = S.C := by unfold rF; split <;> exact ⟨rfl, rfl⟩
theorem rM_l : (rM K PL SZ lo hi S).ln = S.ln ∧ (rM K PL SZ lo hi S).C = S.C := by
  unfold rM
  split
  · have e : ∀ U : Rs, (rI U).ln = U.ln ∧ (rI U).C = U.C := fun U => ⟨rfl, rfl⟩
    rw [(e _).1, (e _).2]
    split
    · exact rF_l
    · split
      · exact rF_l
      · exact ⟨rfl, rfl⟩
  · exact rF_l
theorem rNm_l : (rNm K PL SZ S).ln = S.ln ∧ (rNm K PL SZ S).C = S.C := by
  unfold rNm
  split
  · split
    · exact rF_l
    · exact ⟨rfl, rfl⟩
  · exact rF_l
end CC
section NMD
variable {D : Nat → Int → Int} {NM : Int → Int}
theorem nmR_eq {k : Nat} {i : Int} (hR : wfN (fun j => D 2 ((rowB k + i) * 6 + j))) (hN : wfN NM) : nmR D k i = nmc NM 6 ↔ nmEq (D 2) NM (rowB k + i) := nmc_eq hR hN
theorem knwn_dup (hR : ∀ k : Nat, k < 3 → ∀ i : Int, 0 ≤ i → i < D 1 k → wfN (fun j => D 2 ((rowB k + i) * 6 + j))) (hN : wfN NM) : knwn (D 2) NM (D 1) ↔ dupN (fun k : Nat => D 1 k) (nmR D) (nmc NM 6) 0 := by
  constructor
  · rintro ⟨c, w, h1, h2, h3⟩
    refine ⟨c.toNat, Nat.zero_le _, by omega, fun z => ?_⟩
    have hc : ((c.toNat : Nat) : Int) = c := by omega
    have h4 := nxI_no (D 1 (c.toNat : Nat)).toNat 0 (by decide) z w h2.1 (by rw [hc]; omega)
    apply h4
    refine (nmR_eq (hR c.toNat (by omega) w h2.1 (by rw [hc]; exact h2.2)) hN).mpr ?_
    rw [hc]; exact h3
  · rintro ⟨k, h1, h2, h3⟩
    have h4 := nxI_in (D 1 (k : Nat)).toNat 0 (by decide) h3
    have h5 : 0 ≤ nxI (nmR D k) (nmc NM 6) 0 (D 1 (k : Nat)).toNat ∧ nxI (nmR D k) (nmc NM 6) 0 (D 1 (k : Nat)).toNat < D 1 (k : Nat) := by omega
    exact ⟨k, _, by omega, h5, (nmR_eq (hR k h2 _ h5.1 h5.2) hN).mp h4.2.1⟩
theorem fnd_vix {r : Int} (hR : ∀ i : Int, 0 ≤ i → i < D 1 1 → wfN (fun j => D 2 ((rowB (1 : Nat) + i) * 6 + j))) (hN : wfN NM) (h0 : 0 ≤ D 1 1) (h : isFnd (D 2) NM 1 (D 1 1) r) : r = nxI (nmR D 1) (nmc NM 6) 0 (D 1 1).toNat := by
  have e1 : rowB ((1 : Nat) : Int) = rowB 1 := rfl
  have hno : ∀ w : Int, 0 ≤ w → w < D 1 1 → ¬ nmEq (D 2) NM (rowB 1 + w) → ¬ nmR D 1 w = nmc NM 6 := fun w a b c z => c ((nmR_eq (k := 1) (hR w a b) hN).mp z)
  by_cases z : nxI (nmR D 1) (nmc NM 6) 0 (D 1 1).toNat = -1
  · rcases h with ⟨h1, _⟩ | ⟨h1, h2, _⟩
    · rw [h1, z]
    · exact absurd ((nmR_eq (k := 1) (hR r h1.1 h1.2) hN).mpr h2) (nxI_no _ 0 (by decide) z r h1.1 (by omega))
  · have h4 := nxI_in _ 0 (by decide) z
    rcases h with ⟨h1, h2⟩ | ⟨h1, h2, h3⟩
    · exact absurd h4.2.1 (hno _ h4.1.1 (by omega) (h2 _ h4.1.1 (by omega)))
    · rcases Int.lt_trichotomy r (nxI (nmR D 1) (nmc NM 6) 0 (D 1 1).toNat) with q | q | q
      · exact absurd ((nmR_eq (k := 1) (hR r h1.1 h1.2) hN).mpr h2) (h4.2.2 r h1.1 q)
      · exact q
      · exact absurd h4.2.1 (hno _ h4.1.1 (by omega) (h3 _ h4.1.1 q))
theorem nmEq_g {LT NM2 : Int → Int} {r : Int} (h : ∀ k : Int, 0 ≤ k → k < 6 → NM2 k = NM k) : nmEq LT NM2 r ↔ nmEq LT NM r := ⟨fun z k a b => (z k a b).trans (h k a b), fun z k a b => (z k a b).trans (h k a b).symm⟩
theorem knwn_g {LT NM2 CN : Int → Int} (h : ∀ k : Int, 0 ≤ k → k < 6 → NM2 k = NM k) : knwn LT NM2 CN ↔ knwn LT NM CN := by
  constructor
  · rintro ⟨c, w, a, b, d⟩; exact ⟨c, w, a, b, (nmEq_g h).mp d⟩
  · rintro ⟨c, w, a, b, d⟩; exact ⟨c, w, a, b, (nmEq_g h).mpr d⟩
theorem isFnd_g {LT NM2 : Int → Int} {c cnt r : Int} (h : ∀ k : Int, 0 ≤ k → k < 6 → NM2 k = NM k) (hf : isFnd LT NM2 c cnt r) : isFnd LT NM c cnt r := by
  rcases hf with ⟨a, b⟩ | ⟨a, b, d⟩
  · exact Or.inl ⟨a, fun w x y z => b w x y ((nmEq_g h).mpr z)⟩
  · exact Or.inr ⟨a, (nmEq_g h).mp b, fun w x y z => d w x y ((nmEq_g h).mpr z)⟩
end NMD
