/-! PURE: what the class's reader lays down: sorts, marks, what stays (9h) -/
def tyI : Nat → List Bool → List Bool
  | 2, a => false :: a | 4, a => false :: a | 7, a => true :: a | 9, a => true :: a | _, a => a
def tyO : Nat → List Bool → List Bool
  | 11, a => false :: false :: a | 5, a => true :: a | 6, a => true :: a | 7, a => true :: a | 8, a => true :: a | 9, a => true :: a | _, a => false :: a
def tyK : Nat → Int
  | 0 => 1 | 1 => 2 | 2 => 2 | 3 => 3 | 4 => 3 | 5 => 4 | 6 => 5 | 7 => 5 | 8 => 6 | 9 => 6 | _ => 0
def okM (rl m : Int) : Prop := isAri m ∨ isCmp m ∨ isLog m ∨ m = 328 ∨ m = 329 ∨ (m = 312 ∧ rl = 3) ∨ (isPrt m ∧ (m < 1000 → partB rl m = true))
def cAt (C : Int → Int) : Int → List Int → Prop
  | _, [] => True
  | k, m :: r => C k = m ∧ cAt C (k + 1) r
theorem cAt.fr {C C2 : Int → Int} : ∀ {l : List Int} {k : Int}, cAt C k l → (∀ i : Int, i < k + l.length → C2 i = C i) → cAt C2 k l
  | [], _, _, _ => trivial
  | m :: r, k, h, hf => by
    have hl : ((m :: r).length : Int) = r.length + 1 := by simp
    exact ⟨(hf k (by omega)).trans h.1, cAt.fr h.2 (fun i hi => hf i (by omega))⟩
theorem cAt.app {C : Int → Int} : ∀ {l1 l2 : List Int} {k : Int}, cAt C k l1 → cAt C (k + l1.length) l2 → cAt C k (l1 ++ l2)
  | [], l2, k, _, h => by simpa using h
  | m :: r, l2, k, h, h2 => ⟨h.1, cAt.app h.2 (by
      have hl : ((m :: r).length : Int) = r.length + 1 := by simp
      rw [hl] at h2; rw [show k + 1 + (r.length : Int) = k + (r.length + 1) by omega]; exact h2)⟩
/-- from S on to T the codes l were laid down, and at least e more marks read than codes -/
def gt (rl e : Int) (S T : Rs) (l : List Int) : Prop := T.ln = S.ln + l.length ∧ (l.length : Int) + e ≤ T.a - S.a ∧ (∀ i : Int, i < S.ln → T.C i = S.C i) ∧ cAt T.C S.ln l ∧ (∀ x ∈ l, okM rl x) ∧ T.pl = S.pl
section GT
variable {rl e e1 e2 : Int} {S T U : Rs} {l l1 l2 : List Int}
theorem gt.rf : gt rl 0 S S [] := ⟨by simp, by simp, fun _ _ => rfl, trivial, fun x hx => (by cases hx), rfl⟩
theorem gt.tr (h1 : gt rl e1 S T l1) (h2 : gt rl e2 T U l2) (he : e ≤ e1 + e2) : gt rl e S U (l1 ++ l2) := by
  have hl : ((l1 ++ l2).length : Int) = l1.length + l2.length := by simp
  refine ⟨by have := h1.1; have := h2.1; omega, by have := h1.2.1; have := h2.2.1; omega, fun i hi => (h2.2.2.1 i (by have := h1.1; omega)).trans (h1.2.2.1 i hi), (h1.2.2.2.1.fr (fun i hi => h2.2.2.1 i (by have := h1.1; omega))).app (by rw [← h1.1]; exact h2.2.2.2.1), fun x hx => ?_, h2.2.2.2.2.2.trans h1.2.2.2.2.2⟩
  rcases List.mem_append.mp hx with h | h
  · exact h1.2.2.2.2.1 x h
  · exact h2.2.2.2.2.1 x h
theorem gt.mono (h : gt rl e1 S T l) (he : e ≤ e1) : gt rl e S T l := ⟨h.1, by have := h.2.1; omega, h.2.2⟩
theorem gt.I : gt rl 1 S (rI S) [] := ⟨by show S.ln = _; simp, by show _ ≤ S.a + 1 - S.a; simp; omega, fun _ _ => rfl, trivial, fun x hx => (by cases hx), rfl⟩
theorem gt.Z (h : gt rl e S T l) : gt rl e S (rZ T) l := h
theorem gt.O {PL : Int → Int} (hc : S.f = 0 ∧ S.op < 6) : gt rl 1 S (rO PL S) [] := by
  unfold rO; rw [if_pos hc]
  exact ⟨by show S.ln = _; simp, by show _ ≤ S.a + 1 - S.a; simp; omega, fun _ _ => rfl, trivial, fun x hx => (by cases hx), rfl⟩
theorem rP_f {x : Int} : (rP x S).f = S.f := by unfold rP; split <;> rfl
theorem rP_a {x : Int} : (rP x S).a = S.a := by unfold rP; split <;> rfl
theorem rP_op {x : Int} : (rP x S).op = S.op := by unfold rP; split <;> rfl
theorem rF_f {x z : Int} (hx : ¬ x = 0) : ¬ (rF x z S).f = 0 := by
  unfold rF; split
  · exact hx
  · assumption
theorem rN_0 {K PL : Int → Int} {m : Int} (h : (rN K PL m S).f = 0) : S.f = 0 ∧ K S.a = m := by
  unfold rN at h
  split at h
  · rename_i hk
    refine ⟨?_, hk⟩
    split at h
    · exact h
    · exact h
  · exact absurd h (rF_f (by decide))
theorem gt.N {K PL : Int → Int} {m : Int} (h : (rN K PL m S).f = 0) : gt rl 0 S (rN K PL m S) [] := by
  have hk := (rN_0 h).2
  unfold rN; rw [if_pos hk]
  split
  · exact gt.rf
  · exact gt.I.mono (by decide)
theorem gt.P {n x : Int} (h : gt rl e S T l) (he : 1 ≤ e) (hl : S.ln ≤ S.a) (hT : gS n T) (hn : n ≤ 1601) (hx : okM rl x) : gt rl (e - 1) S (rP x T) (l ++ [x]) := by
  have h1 := h.1
  have h2 := h.2.1
  have h3 := hT.1
  have hlen : ((l ++ [x]).length : Int) = l.length + 1 := by simp
  unfold rP
  rw [if_pos (by omega)]
  refine ⟨by show T.ln + 1 = _; omega, by show _ ≤ T.a - S.a; omega, fun i hi => ?_, ?_, fun y hy => ?_, h.2.2.2.2.2⟩
  · show cU T.C T.ln x i = _
    unfold cU; rw [if_neg (by omega)]; exact h.2.2.1 i hi
  · show cAt (cU T.C T.ln x) _ _
    refine (h.2.2.2.1.fr (fun i hi => ?_)).app ?_
    · unfold cU; rw [if_neg (by omega)]
    · refine ⟨?_, trivial⟩
      unfold cU; rw [if_pos (by omega)]
  · rcases List.mem_append.mp hy with h5 | h5
    · exact h.2.2.2.2.1 y h5
    · rw [List.mem_singleton] at h5; subst h5; exact hx
theorem gt.le (h : gt rl e S T l) (he : 0 ≤ e) (hl : S.ln ≤ S.a) : T.ln ≤ T.a := by have := h.1; have := h.2.1; omega
theorem rG.f0 {n : Int} (h : rG n e S T) (hf : T.f = 0) : S.f = 0 := by
  rcases h.2.2.2.2 with z | z
  · exact absurd hf z
  · exact z.1
end GT
def tyR (rl : Int) (m : Nat) (S T : Rs) : Prop := T.f = 0 → ∃ l : List Int, gt rl 0 S T l ∧ ∀ a : List Bool, (a.length : Int) + 4 * (6 - S.op) + tyK m ≤ 64 → tyC l (tyI m a) (tyO m a)
theorem tyC_1 {m : Int} {a c : List Bool} (h : tyM m a c) : tyC [m] a c := ⟨c, h, rfl⟩
theorem tyM_not {r : List Bool} : tyM 328 (true :: r) (true :: r) := Or.inl ⟨rfl, r, rfl, rfl⟩
theorem tyM_by {r : List Bool} : tyM 312 (false :: r) (false :: r) := Or.inr (Or.inl ⟨rfl, r, rfl, rfl⟩)
theorem tyM_ari {m : Int} {r : List Bool} (h : isAri m) : tyM m (false :: false :: r) (false :: r) := Or.inr (Or.inr (Or.inl ⟨h, r, rfl, rfl⟩))
theorem tyM_cmp {m : Int} {r : List Bool} (h : isCmp m) : tyM m (false :: false :: r) (true :: r) := Or.inr (Or.inr (Or.inr (Or.inl ⟨h, r, rfl, rfl⟩)))
theorem tyM_log {m : Int} {r : List Bool} (h : isLog m) : tyM m (true :: true :: r) (true :: r) := Or.inr (Or.inr (Or.inr (Or.inr (Or.inl ⟨h, r, rfl, rfl⟩))))
theorem tyM_all {r : List Bool} (h : r.length < 64) : tyM 329 r (true :: r) := Or.inr (Or.inr (Or.inr (Or.inr (Or.inr (Or.inl ⟨rfl, h, rfl⟩)))))
theorem tyM_prt {m : Int} {r : List Bool} (h : isPrt m) (h2 : r.length < 64) : tyM m r (false :: r) := Or.inr (Or.inr (Or.inr (Or.inr (Or.inr (Or.inr ⟨h, h2, rfl⟩)))))
theorem partB_prt {rl m : Int} (h : partB rl m = true) : isPrt m := by have := partB_iff.mp h; unfold isPrt; omega
section TYR
variable {K PL SZ : Int → Int} {rl n : Int}
theorem rd_ty (hS : ∀ j : Int, SZ j = -1 ∨ (0 ≤ SZ j ∧ SZ j ≤ 9999)) (hn : n ≤ 1601) (hK : ∀ j : Int, 0 ≤ j → j < n → (K j = 341 ↔ j = n - 1)) : ∀ (g m : Nat) (S : Rs), gS n S → S.ln ≤ S.a → m < 12 → 16 * (n - S.a) + rk m < g → tyR rl m S (rd K PL SZ rl g m S) := by
  intro g
  induction g with
  | zero => intro m S h _ _ h2; have := h.1; omega
  | succ g ih =>
    intro m S h hln hm hg
    have hk := hK S.a h.1.1 h.1.2
    have hb := h
    unfold gS at hb
    show tyR rl m S (rdS K PL SZ rl (rd K PL SZ rl g) m S)
    have rg : ∀ (m : Nat) (T : Rs), gS n T → m < 12 → 16 * (n - T.a) + rk m < g → rG n (rE m) T (rd K PL SZ rl g m T) := fun m T hT hm hq => rd_g hK g m T hT hm hq
    match m, hm with
    | 0, _ =>
      simp only [rdS]
      have hk1 : rk 0 = 1 := rfl
      split
      · rename_i h1
        intro hf
        rw [rP_f] at hf
        have hz := hS S.a
        have hv : rM K PL SZ 0 9999 S = rI S ∧ (0 ≤ SZ S.a ∧ SZ S.a ≤ 9999) := by
          unfold rM at hf ⊢
          rw [if_pos h1] at hf ⊢
          by_cases z1 : SZ S.a = -1
          · rw [if_pos z1] at hf; exact absurd hf (rF_f (by decide))
          · rw [if_neg z1] at hf ⊢
            rw [if_neg (by omega)]; exact ⟨rfl, by omega⟩
        rw [hv.1] at hf ⊢
        have a1 := rI_g h (by omega)
        have hp : isPrt (1000 + SZ S.a) := by unfold isPrt; omega
        refine ⟨_, (gt.I (rl := rl)).P (by decide) hln a1.1 hn (Or.inr (Or.inr (Or.inr (Or.inr (Or.inr (Or.inr ⟨hp, fun z => by omega⟩)))))), fun a ha => ?_⟩
        exact show tyC _ a (false :: a) from tyC_1 (tyM_prt hp (by simp only [tyK] at ha; omega))
      split
      · have a1 := ih 10 S h hln (by omega) (by simp only [rk] at *; omega)
        intro hf
        obtain ⟨l, h1, h2⟩ := a1 hf
        exact ⟨l, h1, fun a ha => h2 a (by simp only [tyK] at *; omega)⟩
      split
      · rename_i hm2
        intro hf
        rw [rP_f] at hf
        have a1 := rI_g h (by omega)
        have ga := rg 11 (rI S) a1.1 (by omega) (by simp only [rk] at *; have : (rI S).a = S.a + 1 := rfl; omega)
        obtain ⟨l, h1, h2⟩ := ih 11 (rI S) a1.1 (by have : (rI S).a = S.a + 1 := rfl; have : (rI S).ln = S.ln := rfl; omega) (by omega) (by simp only [rk] at *; have : (rI S).a = S.a + 1 := rfl; omega) hf
        have hari : isAri (K S.a) := by unfold isAri; omega
        refine ⟨_, ((gt.I (rl := rl)).tr h1 (e := 1) (by decide)).P (by decide) hln ga.1 hn (Or.inl hari), fun a ha => ?_⟩
        refine tyC_app (b := false :: false :: a) (h2 a (by simp only [tyK] at *; have : (rI S).op = S.op := rfl; omega)) (tyC_1 (tyM_ari hari))
      split
      · rename_i hby
        split
        · rename_i hc
          intro hf
          have hf2 : (rP 312 (rd K PL SZ rl g 0 (rO PL S))).f = 0 := hf
          rw [rP_f] at hf2
          have a1 := rO_g (PL := PL) h hc (by omega)
          have ga := rg 0 (rO PL S) a1.1 (by omega) (by simp only [rk] at *; omega)
          have hO := gt.O (rl := rl) (PL := PL) hc
          obtain ⟨l, h1, h2⟩ := ih 0 (rO PL S) a1.1 (hO.le (by decide) hln) (by omega) (by simp only [rk] at *; omega) hf2
          refine ⟨_, ((hO.tr h1 (e := 1) (by decide)).P (x := 312) (by decide) hln ga.1 hn (Or.inr (Or.inr (Or.inr (Or.inr (Or.inr (Or.inl ⟨rfl, hby.2⟩))))))).Z, fun a ha => ?_⟩
          refine tyC_app (b := false :: a) (h2 a (by simp only [tyK] at *; rw [a1.2.2.1]; omega)) (tyC_1 tyM_by)
        · rename_i hc
          intro hf
          unfold rO at hf; rw [if_neg hc] at hf
          exact absurd hf (rF_f (by decide))
      split
      · rename_i hp
        intro hf
        have a1 := rI_g h (by have := partB_iff.mp hp; omega)
        refine ⟨_, (gt.I (rl := rl)).P (by decide) hln a1.1 hn (Or.inr (Or.inr (Or.inr (Or.inr (Or.inr (Or.inr ⟨partB_prt hp, fun _ => hp⟩)))))), fun a ha => ?_⟩
        exact show tyC _ a (false :: a) from tyC_1 (tyM_prt (partB_prt hp) (by simp only [tyK] at ha; omega))
      · intro hf; exact absurd hf (rF_f (by decide))
    | 1, _ =>
      intro hf
      have ga := rg 0 S h (by omega) (by simp only [rk] at *; omega)
      have gb := rg 2 _ ga.1 (by omega) (by have := ga.2.1; simp only [rk] at *; omega)
      obtain ⟨l1, h1, h2⟩ := ih 0 S h hln (by omega) (by simp only [rk] at *; omega) (gb.f0 hf)
      obtain ⟨l3, h3, h4⟩ := ih 2 _ ga.1 (h1.le (by decide) hln) (by omega) (by have := ga.2.1; simp only [rk] at *; omega) hf
      refine ⟨_, h1.tr h3 (by decide), fun a ha => tyC_app (h2 a (by simp only [tyK] at *; omega)) (h4 a (by simp only [tyK] at *; rw [ga.2.2.1]; omega))⟩
    | 2, _ =>
      simp only [rdS]
      split
      · rename_i hc
        intro hf
        have a1 := rI_g h (by omega)
        have ga := rg 0 (rI S) a1.1 (by omega) (by simp only [rk] at *; have : (rI S).a = S.a + 1 := rfl; omega)
        have gp := rP_g (x := K S.a) ga.1
        have ea : (rP (K S.a) (rd K PL SZ rl g 0 (rI S))).a = (rd K PL SZ rl g 0 (rI S)).a := rP_a
        have ei : (rI S).a = S.a + 1 := rfl
        have gb := rg 2 _ gp.1 (by omega) (by have := ga.2.1; simp only [rk] at *; omega)
        have hf2 := gb.f0 hf
        rw [rP_f] at hf2
        obtain ⟨l1, h1, h2⟩ := ih 0 (rI S) a1.1 (by have : (rI S).ln = S.ln := rfl; omega) (by omega) (by simp only [rk] at *; omega) hf2
        have hari : isAri (K S.a) := by unfold isAri; omega
        have h3 := ((gt.I (rl := rl)).tr h1 (e := 1) (by decide)).P (x := K S.a) (by decide) hln ga.1 hn (Or.inl hari)
        obtain ⟨l3, h4, h5⟩ := ih 2 _ gp.1 (h3.le (by decide) hln) (by omega) (by have := ga.2.1; simp only [rk] at *; omega) hf
        refine ⟨_, h3.tr h4 (by decide), fun a ha => ?_⟩
        refine tyC_app (b := false :: a) (tyC_app (b := false :: false :: a) (h2 (false :: a) (by simp only [tyK, List.length_cons] at *; have : (rI S).op = S.op := rfl; omega)) (tyC_1 (tyM_ari hari))) (h5 a ?_)
        have e2 := ga.2.2.1
        have e3 : (rP (K S.a) (rd K PL SZ rl g 0 (rI S))).op = (rd K PL SZ rl g 0 (rI S)).op := rP_op
        have e4 : (rI S).op = S.op := rfl
        simp only [tyK] at *; omega
      · intro hf; exact ⟨[], gt.rf, fun a _ => rfl⟩
    | 3, _ =>
      intro hf
      have ga := rg 1 S h (by omega) (by simp only [rk] at *; omega)
      have gb := rg 4 _ ga.1 (by omega) (by have := ga.2.1; simp only [rk] at *; omega)
      obtain ⟨l1, h1, h2⟩ := ih 1 S h hln (by omega) (by simp only [rk] at *; omega) (gb.f0 hf)
      obtain ⟨l3, h3, h4⟩ := ih 4 _ ga.1 (h1.le (by decide) hln) (by omega) (by have := ga.2.1; simp only [rk] at *; omega) hf
      refine ⟨_, h1.tr h3 (by decide), fun a ha => tyC_app (h2 a (by simp only [tyK] at *; omega)) (h4 a (by simp only [tyK] at *; rw [ga.2.2.1]; omega))⟩
    | 4, _ =>
      simp only [rdS]
      split
      · rename_i hc
        intro hf
        have a1 := rI_g h (by omega)
        have ga := rg 1 (rI S) a1.1 (by omega) (by simp only [rk] at *; have : (rI S).a = S.a + 1 := rfl; omega)
        have gp := rP_g (x := K S.a) ga.1
        have ea : (rP (K S.a) (rd K PL SZ rl g 1 (rI S))).a = (rd K PL SZ rl g 1 (rI S)).a := rP_a
        have ei : (rI S).a = S.a + 1 := rfl
        have gb := rg 4 _ gp.1 (by omega) (by have := ga.2.1; simp only [rk] at *; omega)
        have hf2 := gb.f0 hf
        rw [rP_f] at hf2
        obtain ⟨l1, h1, h2⟩ := ih 1 (rI S) a1.1 (by have : (rI S).ln = S.ln := rfl; omega) (by omega) (by simp only [rk] at *; omega) hf2
        have hari : isAri (K S.a) := by unfold isAri; omega
        have h3 := ((gt.I (rl := rl)).tr h1 (e := 1) (by decide)).P (x := K S.a) (by decide) hln ga.1 hn (Or.inl hari)
        obtain ⟨l3, h4, h5⟩ := ih 4 _ gp.1 (h3.le (by decide) hln) (by omega) (by have := ga.2.1; simp only [rk] at *; omega) hf
        refine ⟨_, h3.tr h4 (by decide), fun a ha => ?_⟩
        refine tyC_app (b := false :: a) (tyC_app (b := false :: false :: a) (h2 (false :: a) (by simp only [tyK, List.length_cons] at *; have : (rI S).op = S.op := rfl; omega)) (tyC_1 (tyM_ari hari))) (h5 a ?_)
        have e2 := ga.2.2.1
        have e3 : (rP (K S.a) (rd K PL SZ rl g 1 (rI S))).op = (rd K PL SZ rl g 1 (rI S)).op := rP_op
        have e4 : (rI S).op = S.op := rfl
        simp only [tyK] at *; omega
      · intro hf; exact ⟨[], gt.rf, fun a _ => rfl⟩
    | 5, _ =>
      simp only [rdS]
      split
      · split
        · rename_i hc
          intro hf
          have hf2 : (rP 328 (rd K PL SZ rl g 5 (rO PL S))).f = 0 := hf
          rw [rP_f] at hf2
          have a1 := rO_g (PL := PL) h hc (by omega)
          have ga := rg 5 (rO PL S) a1.1 (by omega) (by simp only [rk] at *; omega)
          have hO := gt.O (rl := rl) (PL := PL) hc
          obtain ⟨l, h1, h2⟩ := ih 5 (rO PL S) a1.1 (hO.le (by decide) hln) (by omega) (by simp only [rk] at *; omega) hf2
          refine ⟨_, ((hO.tr h1 (e := 1) (by decide)).P (x := 328) (by decide) hln ga.1 hn (Or.inr (Or.inr (Or.inr (Or.inl rfl))))).Z, fun a ha => ?_⟩
          refine tyC_app (b := true :: a) (h2 a (by simp only [tyK] at *; rw [a1.2.2.1]; omega)) (tyC_1 tyM_not)
        · rename_i hc
          intro hf
          unfold rO at hf; rw [if_neg hc] at hf
          exact absurd hf (rF_f (by decide))
      split
      · split
        · rename_i hc
          intro hf
          have hf2 : (rN K PL 93 (rd K PL SZ rl g 8 (rO PL S))).f = 0 := hf
          have a1 := rO_g (PL := PL) h hc (by omega)
          have ga := rg 8 (rO PL S) a1.1 (by omega) (by simp only [rk] at *; omega)
          have hO := gt.O (rl := rl) (PL := PL) hc
          obtain ⟨l, h1, h2⟩ := ih 8 (rO PL S) a1.1 (hO.le (by decide) hln) (by omega) (by simp only [rk] at *; omega) (rN_0 hf2).1
          refine ⟨_, ((hO.tr h1 (e := 1) (by decide)).tr (gt.N hf2) (e := 0) (by decide)).Z, fun a ha => ?_⟩
          rw [List.append_nil]
          exact h2 a (by simp only [tyK] at *; rw [a1.2.2.1]; omega)
        · rename_i hc
          intro hf
          unfold rO at hf; rw [if_neg hc] at hf
          exact absurd hf (rF_f (by decide))
      split
      · intro hf
        have a1 := rI_g h (by omega)
        refine ⟨_, (gt.I (rl := rl)).P (x := 329) (by decide) hln a1.1 hn (Or.inr (Or.inr (Or.inr (Or.inr (Or.inl rfl))))), fun a ha => ?_⟩
        exact show tyC _ a (true :: a) from tyC_1 (tyM_all (by simp only [tyK] at ha; omega))
      have ga := rg 3 S h (by omega) (by simp only [rk] at *; omega)
      have hk2 := hK _ ga.1.1.1 ga.1.1.2
      have hb2 := ga.1
      unfold gS at hb2
      split
      · rename_i hcm
        intro hf
        rw [rP_f] at hf
        have a2 := rI_g ga.1 (by omega)
        have ei : (rI (rd K PL SZ rl g 3 S)).a = (rd K PL SZ rl g 3 S).a + 1 := rfl
        have gb := rg 3 _ a2.1 (by omega) (by have := ga.2.1; simp only [rk] at *; omega)
        obtain ⟨l1, h1, h2⟩ := ih 3 S h hln (by omega) (by simp only [rk] at *; omega) (gb.f0 hf)
        have hcmp : isCmp (K (rd K PL SZ rl g 3 S).a) := by unfold isCmp; omega
        have h3 := h1.tr (gt.I (rl := rl)) (e := 1) (by decide)
        obtain ⟨l3, h4, h5⟩ := ih 3 _ a2.1 (h3.le (by decide) hln) (by omega) (by have := ga.2.1; simp only [rk] at *; omega) hf
        refine ⟨_, (h3.tr h4 (e := 1) (by decide)).P (by decide) hln gb.1 hn (Or.inr (Or.inl hcmp)), fun a ha => ?_⟩
        refine tyC_app (b := false :: false :: a) (tyC_app (b := false :: a) (by rw [List.append_nil]; exact h2 a (by simp only [tyK] at *; omega)) (h5 (false :: a) ?_)) (tyC_1 (tyM_cmp hcmp))
        have e2 := ga.2.2.1
        have e4 : (rI (rd K PL SZ rl g 3 S)).op = (rd K PL SZ rl g 3 S).op := rfl
        simp only [tyK, List.length_cons] at *; omega
      · intro hf; exact absurd hf (rF_f (by decide))
    | 6, _ =>
      intro hf
      have ga := rg 5 S h (by omega) (by simp only [rk] at *; omega)
      have gb := rg 7 _ ga.1 (by omega) (by have := ga.2.1; simp only [rk] at *; omega)
      obtain ⟨l1, h1, h2⟩ := ih 5 S h hln (by omega) (by simp only [rk] at *; omega) (gb.f0 hf)
      obtain ⟨l3, h3, h4⟩ := ih 7 _ ga.1 (h1.le (by decide) hln) (by omega) (by have := ga.2.1; simp only [rk] at *; omega) hf
      refine ⟨_, h1.tr h3 (by decide), fun a ha => tyC_app (h2 a (by simp only [tyK] at *; omega)) (h4 a (by simp only [tyK] at *; rw [ga.2.2.1]; omega))⟩
    | 7, _ =>
      simp only [rdS]
      split
      · rename_i hc
        intro hf
        have a1 := rI_g h (by omega)
        have ga := rg 5 (rI S) a1.1 (by omega) (by simp only [rk] at *; have : (rI S).a = S.a + 1 := rfl; omega)
        have gp := rP_g (x := 327) ga.1
        have ea : (rP 327 (rd K PL SZ rl g 5 (rI S))).a = (rd K PL SZ rl g 5 (rI S)).a := rP_a
        have ei : (rI S).a = S.a + 1 := rfl
        have gb := rg 7 _ gp.1 (by omega) (by have := ga.2.1; simp only [rk] at *; omega)
        have hf2 := gb.f0 hf
        rw [rP_f] at hf2
        obtain ⟨l1, h1, h2⟩ := ih 5 (rI S) a1.1 (by have : (rI S).ln = S.ln := rfl; omega) (by omega) (by simp only [rk] at *; omega) hf2
        have hlog : isLog 327 := by decide
        have h3 := ((gt.I (rl := rl)).tr h1 (e := 1) (by decide)).P (x := 327) (by decide) hln ga.1 hn (Or.inr (Or.inr (Or.inl hlog)))
        obtain ⟨l3, h4, h5⟩ := ih 7 _ gp.1 (h3.le (by decide) hln) (by omega) (by have := ga.2.1; simp only [rk] at *; omega) hf
        refine ⟨_, h3.tr h4 (by decide), fun a ha => ?_⟩
        refine tyC_app (b := true :: a) (tyC_app (b := true :: true :: a) (h2 (true :: a) (by simp only [tyK, List.length_cons] at *; have : (rI S).op = S.op := rfl; omega)) (tyC_1 (tyM_log hlog))) (h5 a ?_)
        have e2 := ga.2.2.1
        have e3 : (rP 327 (rd K PL SZ rl g 5 (rI S))).op = (rd K PL SZ rl g 5 (rI S)).op := rP_op
        have e4 : (rI S).op = S.op := rfl
        simp only [tyK] at *; omega
      · intro hf; exact ⟨[], gt.rf, fun a _ => rfl⟩
    | 8, _ =>
      intro hf
      have ga := rg 6 S h (by omega) (by simp only [rk] at *; omega)
      have gb := rg 9 _ ga.1 (by omega) (by have := ga.2.1; simp only [rk] at *; omega)
      obtain ⟨l1, h1, h2⟩ := ih 6 S h hln (by omega) (by simp only [rk] at *; omega) (gb.f0 hf)
      obtain ⟨l3, h3, h4⟩ := ih 9 _ ga.1 (h1.le (by decide) hln) (by omega) (by have := ga.2.1; simp only [rk] at *; omega) hf
      refine ⟨_, h1.tr h3 (by decide), fun a ha => tyC_app (h2 a (by simp only [tyK] at *; omega)) (h4 a (by simp only [tyK] at *; rw [ga.2.2.1]; omega))⟩
    | 9, _ =>
      simp only [rdS]
      split
      · rename_i hc
        intro hf
        have a1 := rI_g h (by omega)
        have ga := rg 6 (rI S) a1.1 (by omega) (by simp only [rk] at *; have : (rI S).a = S.a + 1 := rfl; omega)
        have gp := rP_g (x := 326) ga.1
        have ea : (rP 326 (rd K PL SZ rl g 6 (rI S))).a = (rd K PL SZ rl g 6 (rI S)).a := rP_a
        have ei : (rI S).a = S.a + 1 := rfl
        have gb := rg 9 _ gp.1 (by omega) (by have := ga.2.1; simp only [rk] at *; omega)
        have hf2 := gb.f0 hf
        rw [rP_f] at hf2
        obtain ⟨l1, h1, h2⟩ := ih 6 (rI S) a1.1 (by have : (rI S).ln = S.ln := rfl; omega) (by omega) (by simp only [rk] at *; omega) hf2
        have hlog : isLog 326 := by decide
        have h3 := ((gt.I (rl := rl)).tr h1 (e := 1) (by decide)).P (x := 326) (by decide) hln ga.1 hn (Or.inr (Or.inr (Or.inl hlog)))
        obtain ⟨l3, h4, h5⟩ := ih 9 _ gp.1 (h3.le (by decide) hln) (by omega) (by have := ga.2.1; simp only [rk] at *; omega) hf
        refine ⟨_, h3.tr h4 (by decide), fun a ha => ?_⟩
        refine tyC_app (b := true :: a) (tyC_app (b := true :: true :: a) (h2 (true :: a) (by simp only [tyK, List.length_cons] at *; have : (rI S).op = S.op := rfl; omega)) (tyC_1 (tyM_log hlog))) (h5 a ?_)
        have e2 := ga.2.2.1
        have e3 : (rP 326 (rd K PL SZ rl g 6 (rI S))).op = (rd K PL SZ rl g 6 (rI S)).op := rP_op
        have e4 : (rI S).op = S.op := rfl
        simp only [tyK] at *; omega
      · intro hf; exact ⟨[], gt.rf, fun a _ => rfl⟩
    | 10, _ =>
      simp only [rdS]
      split
      · split
        · rename_i hc
          intro hf
          have hf2 : (rN K PL 41 (rd K PL SZ rl g 3 (rO PL S))).f = 0 := hf
          have a1 := rO_g (PL := PL) h hc (by omega)
          have ga := rg 3 (rO PL S) a1.1 (by omega) (by simp only [rk] at *; omega)
          have hO := gt.O (rl := rl) (PL := PL) hc
          obtain ⟨l, h1, h2⟩ := ih 3 (rO PL S) a1.1 (hO.le (by decide) hln) (by omega) (by simp only [rk] at *; omega) (rN_0 hf2).1
          refine ⟨_, ((hO.tr h1 (e := 1) (by decide)).tr (gt.N hf2) (e := 0) (by decide)).Z, fun a ha => ?_⟩
          rw [List.append_nil]
          exact h2 a (by simp only [tyK] at *; rw [a1.2.2.1]; omega)
        · rename_i hc
          intro hf
          unfold rO at hf; rw [if_neg hc] at hf
          exact absurd hf (rF_f (by decide))
      · intro hf; exact absurd hf (rF_f (by decide))
    | 11, _ =>
      simp only [rdS]
      split
      · split
        · rename_i hc
          intro hf
          have hf2 : (rN K PL 41 (rd K PL SZ rl g 3 (rN K PL 44 (rd K PL SZ rl g 3 (rO PL S))))).f = 0 := hf
          have a1 := rO_g (PL := PL) h hc (by omega)
          have ga := rg 3 (rO PL S) a1.1 (by omega) (by simp only [rk] at *; omega)
          have gn := rN_g (PL := PL) (m := 44) ga.1 hK
          have gb := rg 3 _ gn.1 (by omega) (by have := ga.2.1; have := gn.2.1; simp only [rk] at *; omega)
          have hO := gt.O (rl := rl) (PL := PL) hc
          have hf3 := (rN_0 hf2).1
          have hf4 := gb.f0 hf3
          obtain ⟨l, h1, h2⟩ := ih 3 (rO PL S) a1.1 (hO.le (by decide) hln) (by omega) (by simp only [rk] at *; omega) (rN_0 hf4).1
          have h3 := (hO.tr h1 (e := 1) (by decide)).tr (gt.N hf4) (e := 1) (by decide)
          obtain ⟨l3, h4, h5⟩ := ih 3 _ gn.1 (h3.le (by decide) hln) (by omega) (by have := ga.2.1; have := gn.2.1; simp only [rk] at *; omega) hf3
          refine ⟨_, ((h3.tr h4 (e := 1) (by decide)).tr (gt.N hf2) (e := 0) (by decide)).Z, fun a ha => ?_⟩
          have e1 := ga.2.2.1
          have e2 := gn.2.2.1
          rw [List.append_nil, List.append_nil]
          exact tyC_app (b := false :: a) (h2 a (by simp only [tyK] at *; omega)) (h5 (false :: a) (by simp only [tyK, List.length_cons] at *; omega))
        · rename_i hc
          intro hf
          unfold rO at hf; rw [if_neg hc] at hf
          exact absurd hf (rF_f (by decide))
      · intro hf; exact absurd hf (rF_f (by decide))
end TYR
