/-! the class's reader of sums as a function on states -/
abbrev Rs := Int × Int × Int × Int × Int × (Int → Int)
section RS
def Rs.mk (a op f pl ln : Int) (C : Int → Int) : Rs := (a, op, f, pl, ln, C)
def Rs.a (S : Rs) : Int := S.1
def Rs.op (S : Rs) : Int := S.2.1
def Rs.f (S : Rs) : Int := S.2.2.1
def Rs.pl (S : Rs) : Int := S.2.2.2.1
def Rs.ln (S : Rs) : Int := S.2.2.2.2.1
def Rs.C (S : Rs) : Int → Int := S.2.2.2.2.2
variable {x1 x2 x3 x4 x5 : Int} {x6 : Int → Int}
theorem Rs.mka : (Rs.mk x1 x2 x3 x4 x5 x6).a = x1 := rfl
theorem Rs.mkop : (Rs.mk x1 x2 x3 x4 x5 x6).op = x2 := rfl
theorem Rs.mkf : (Rs.mk x1 x2 x3 x4 x5 x6).f = x3 := rfl
theorem Rs.mkpl : (Rs.mk x1 x2 x3 x4 x5 x6).pl = x4 := rfl
theorem Rs.mkln : (Rs.mk x1 x2 x3 x4 x5 x6).ln = x5 := rfl
theorem Rs.mkC : (Rs.mk x1 x2 x3 x4 x5 x6).C = x6 := rfl
end RS
def rI (S : Rs) : Rs := (Rs.mk (S.a + 1) S.op S.f S.pl S.ln S.C)
def rZ (S : Rs) : Rs := (Rs.mk S.a (S.op - 1) S.f S.pl S.ln S.C)
def rF (x z : Int) (S : Rs) : Rs := if S.f = 0 then (Rs.mk S.a S.op (x) (z) S.ln S.C) else S
def rP (x : Int) (S : Rs) : Rs := if S.ln < 1600 then (Rs.mk S.a S.op S.f S.pl (S.ln + 1) (cU S.C S.ln x)) else S
section RD
variable (K PL SZ : Int → Int) (rl : Int)
def rN (m : Int) (S : Rs) : Rs := if K S.a = m then (if m = 341 then S else rI S) else rF 1 (PL S.a) S
def rO (S : Rs) : Rs := if S.f = 0 ∧ S.op < 6 then (Rs.mk (S.a + 1) (S.op + 1) S.f S.pl S.ln S.C) else rF 4 (PL S.a) S
def rV (S : Rs) : Int := if K S.a = 339 then SZ S.a else -1
def rM (lo hi : Int) (S : Rs) : Rs := if K S.a = 339 then rI (if SZ S.a = -1 then rF 1 (PL S.a + 4) S else if SZ S.a < lo ∨ hi < SZ S.a then rF 2 (PL S.a) S else S) else rF 1 (PL S.a) S
def rdS (r : Nat → Rs → Rs) (m : Nat) (S : Rs) : Rs := match m with
  | 0 => if K S.a = 339 then rP (1000 + SZ S.a) (rM K PL SZ 0 9999 S)
    else if K S.a = 40 then r 10 S
    else if K S.a = 330 ∨ K S.a = 331 then rP (K S.a) (r 11 (rI S))
    else if K S.a = 312 ∧ rl = 3 then (if S.f = 0 ∧ S.op < 6 then rZ (rP 312 (r 0 (rO PL S))) else rO PL S)
    else if partB rl (K S.a) = true then rP (K S.a) (rI S)
    else rF 1 (PL S.a) S
  | 1 => r 2 (r 0 S)
  | 2 => if S.f = 0 ∧ (K S.a = 42 ∨ K S.a = 47) then r 2 (rP (K S.a) (r 0 (rI S))) else S
  | 3 => r 4 (r 1 S)
  | 4 => if S.f = 0 ∧ (K S.a = 43 ∨ K S.a = 45) then r 4 (rP (K S.a) (r 1 (rI S))) else S
  | 5 => if K S.a = 328 then (if S.f = 0 ∧ S.op < 6 then rZ (rP 328 (r 5 (rO PL S))) else rO PL S)
    else if K S.a = 91 then (if S.f = 0 ∧ S.op < 6 then rZ (rN K PL 93 (r 8 (rO PL S))) else rO PL S)
    else if K S.a = 329 then rP 329 (rI S)
    else if K (r 3 S).a = 60 ∨ K (r 3 S).a = 62 ∨ K (r 3 S).a = 61 then rP (K (r 3 S).a) (r 3 (rI (r 3 S)))
    else rF 1 (PL (r 3 S).a) (r 3 S)
  | 6 => r 7 (r 5 S)
  | 7 => if S.f = 0 ∧ K S.a = 327 then r 7 (rP 327 (r 5 (rI S))) else S
  | 8 => r 9 (r 6 S)
  | 9 => if S.f = 0 ∧ K S.a = 326 then r 9 (rP 326 (r 6 (rI S))) else S
  | 10 => if K S.a = 40 then (if S.f = 0 ∧ S.op < 6 then rZ (rN K PL 41 (r 3 (rO PL S))) else rO PL S) else rF 1 (PL S.a) S
  | _ => if K S.a = 40 then (if S.f = 0 ∧ S.op < 6 then rZ (rN K PL 41 (r 3 (rN K PL 44 (r 3 (rO PL S))))) else rO PL S) else rF 1 (PL S.a) S
def rd : Nat → Nat → Rs → Rs
  | 0 => fun _ S => S
  | g + 1 => rdS K PL SZ rl (rd g)
end RD
def rk : Nat → Nat
  | 0 => 1 | 1 => 2 | 3 => 3 | 5 => 4 | 6 => 5 | 8 => 6 | _ => 0
/-- the state's bounds -/
def gS (n : Int) (S : Rs) : Prop := (0 ≤ S.a ∧ S.a < n) ∧ (0 ≤ S.op ∧ S.op ≤ 6) ∧ (0 ≤ S.f ∧ S.f < 10) ∧ (0 ≤ S.ln ∧ S.ln ≤ 1600)
/-- T follows S: no mark is given back, what is open stays so, a fault stays, and without one at least e marks were read -/
def rG (n e : Int) (S T : Rs) : Prop := gS n T ∧ S.a ≤ T.a ∧ T.op = S.op ∧ (S.f = 0 ∨ T.f = S.f ∧ T.pl = S.pl) ∧ (¬ T.f = 0 ∨ S.f = 0 ∧ S.a + e ≤ T.a)
section RG
variable {K PL SZ : Int → Int} {rl n : Int} {S : Rs}
theorem rF_g {x z : Int} (h : gS n S) (hx : 1 ≤ x ∧ x < 10) : rG n 1 S (rF x z S) := by
  unfold rG gS at *; unfold rF; split <;> simp only [Rs.mka, Rs.mkop, Rs.mkf, Rs.mkpl, Rs.mkln, Rs.mkC, true_and, and_true, true_or, or_true] <;> omega
theorem rI_g (h : gS n S) (h2 : S.a + 1 < n) : rG n 1 S (rI S) := by
  unfold rG gS at *; unfold rI; simp only [Rs.mka, Rs.mkop, Rs.mkf, Rs.mkpl, Rs.mkln, Rs.mkC, true_and, and_true, true_or, or_true]; omega
theorem rP_g {x : Int} (h : gS n S) : rG n 0 S (rP x S) := by
  unfold rG gS at *; unfold rP; split <;> simp only [Rs.mka, Rs.mkop, Rs.mkf, Rs.mkpl, Rs.mkln, Rs.mkC, true_and, and_true, true_or, or_true] <;> omega
theorem rN_g {m : Int} (h : gS n S) (hK : ∀ j : Int, 0 ≤ j → j < n → (K j = 341 ↔ j = n - 1)) : rG n 0 S (rN K PL m S) := by
  have hk := hK S.a h.1.1 h.1.2
  unfold rN rF rI; unfold rG gS at *
  repeat' split
  all_goals simp only [Rs.mka, Rs.mkop, Rs.mkf, Rs.mkpl, Rs.mkln, Rs.mkC, true_and, and_true, true_or, or_true]
  all_goals omega
theorem rM_g {lo hi : Int} (h : gS n S) (hK : ∀ j : Int, 0 ≤ j → j < n → (K j = 341 ↔ j = n - 1)) : rG n 1 S (rM K PL SZ lo hi S) := by
  have hk := hK S.a h.1.1 h.1.2
  unfold rM rF rI; unfold rG gS at *
  repeat' split
  all_goals simp only [Rs.mka, Rs.mkop, Rs.mkf, Rs.mkpl, Rs.mkln, Rs.mkC, true_and, and_true, true_or, or_true]
  all_goals omega
theorem rG_t {e e1 e2 : Int} {T U : Rs} (h1 : rG n e1 S T) (h2 : rG n e2 T U) (he : e ≤ e1 + e2) : rG n e S U := by
  unfold rG at *
  refine ⟨h2.1, ?_, ?_, ?_, ?_⟩ <;> omega
/-- what lies in brackets -/
theorem rO_g (h : gS n S) (hc : S.f = 0 ∧ S.op < 6) (h2 : S.a + 1 < n) : gS n (rO PL S) ∧ (rO PL S).a = S.a + 1 ∧ (rO PL S).op = S.op + 1 ∧ (rO PL S).f = 0 := by
  unfold rO; rw [if_pos hc]; unfold gS at *; simp only [Rs.mka, Rs.mkop, Rs.mkf, Rs.mkpl, Rs.mkln, Rs.mkC, true_and, and_true, true_or, or_true]; omega
theorem rO_f (h : gS n S) (hc : ¬ (S.f = 0 ∧ S.op < 6)) : rG n 1 S (rO PL S) := by
  unfold rO; rw [if_neg hc]; exact rF_g h (by omega)
theorem rZ_g {e : Int} {T : Rs} (h : gS n S) (hc : S.f = 0 ∧ S.op < 6) (h2 : S.a + 1 < n) (h3 : rG n e (rO PL S) T) (he : 0 ≤ e) : rG n 1 S (rZ T) := by
  have h4 := rO_g (PL := PL) h hc h2
  have e1 : (rZ T).a = T.a := rfl
  have e2 : (rZ T).op = T.op - 1 := rfl
  have e3 : (rZ T).f = T.f := rfl
  have e4 : (rZ T).ln = T.ln := rfl
  unfold rG gS at *; rw [e1, e2, e3, e4]; omega
def rE : Nat → Int
  | 2 => 0 | 4 => 0 | 7 => 0 | 9 => 0 | _ => 1
theorem rd_g (hK : ∀ j : Int, 0 ≤ j → j < n → (K j = 341 ↔ j = n - 1)) : ∀ (g m : Nat) (S : Rs), gS n S → m < 12 → 16 * (n - S.a) + rk m < g → rG n (rE m) S (rd K PL SZ rl g m S) := by
  intro g
  induction g with
  | zero => intro m S h _ h2; have := h.1; omega
  | succ g ih =>
    intro m S h hm hg
    have hk := hK S.a h.1.1 h.1.2
    have hb := h
    unfold gS at hb
    have e0 : rG n 0 S S := by unfold rG; exact ⟨h, by omega, rfl, by omega, by omega⟩
    show rG n (rE m) S (rdS K PL SZ rl (rd K PL SZ rl g) m S)
    have ih2 : ∀ (m : Nat) (e : Int) (T : Rs), rG n e S T → m < 12 → 16 * (n - T.a) + rk m < g → rG n (rE m) T (rd K PL SZ rl g m T) := fun m e T hT hm hq => ih m T hT.1 hm hq
    match m, hm with
    | 0, _ =>
      simp only [rdS]
      have hk1 : rk 0 = 1 := rfl
      split
      · exact rG_t (rM_g h hK) (rP_g (rM_g h hK).1) (by decide)
      split
      · exact ih 10 S h (by omega) (by simp only [rk] at *; omega)
      split
      · have a1 := rI_g h (by omega)
        have a2 := ih 11 (rI S) a1.1 (by omega) (by simp only [rk] at *; have : (rI S).a = S.a + 1 := rfl; omega)
        exact rG_t (rG_t a1 a2 (e := 2) (by decide)) (rP_g a2.1) (by decide)
      split
      · split
        · rename_i hc
          have a1 := rO_g (PL := PL) h hc (by omega)
          have a2 := ih 0 (rO PL S) a1.1 (by omega) (by simp only [rk] at *; omega)
          exact rZ_g h hc (by omega) (rG_t a2 (rP_g a2.1) (e := 1) (by decide)) (by decide)
        · rename_i hc; exact rO_f h hc
      split
      · have a1 := rI_g h (by have := partB_iff.mp ‹_›; omega)
        exact rG_t a1 (rP_g a1.1) (by decide)
      · exact rF_g h (by omega)
    | 1, _ =>
      have a1 := ih 0 S h (by omega) (by simp only [rk] at *; omega)
      have a2 := ih 2 _ a1.1 (by omega) (by have := a1.2.1; simp only [rk] at *; omega)
      exact rG_t a1 a2 (by decide)
    | 2, _ =>
      simp only [rdS]
      split
      · have a1 := rI_g h (by omega)
        have a2 := ih 0 (rI S) a1.1 (by omega) (by simp only [rk] at *; have : (rI S).a = S.a + 1 := rfl; omega)
        have a3 := rG_t a1 (rG_t a2 (rP_g (x := K S.a) a2.1) (e := 1) (by decide)) (e := 1) (by decide)
        have a4 := ih 2 _ a3.1 (by omega) (by have : (rI S).a = S.a + 1 := rfl; have := a2.2.1; have := (rP_g (x := K S.a) a2.1).2.1; simp only [rk] at *; omega)
        exact rG_t a3 a4 (by decide)
      · exact e0
    | 3, _ =>
      have a1 := ih 1 S h (by omega) (by simp only [rk] at *; omega)
      have a2 := ih 4 _ a1.1 (by omega) (by have := a1.2.1; simp only [rk] at *; omega)
      exact rG_t a1 a2 (by decide)
    | 4, _ =>
      simp only [rdS]
      split
      · have a1 := rI_g h (by omega)
        have a2 := ih 1 (rI S) a1.1 (by omega) (by simp only [rk] at *; have : (rI S).a = S.a + 1 := rfl; omega)
        have a3 := rG_t a1 (rG_t a2 (rP_g (x := K S.a) a2.1) (e := 1) (by decide)) (e := 1) (by decide)
        have a4 := ih 4 _ a3.1 (by omega) (by have : (rI S).a = S.a + 1 := rfl; have := a2.2.1; have := (rP_g (x := K S.a) a2.1).2.1; simp only [rk] at *; omega)
        exact rG_t a3 a4 (by decide)
      · exact e0
    | 5, _ =>
      simp only [rdS]
      split
      · split
        · rename_i hc
          have a1 := rO_g (PL := PL) h hc (by omega)
          have a2 := ih 5 (rO PL S) a1.1 (by omega) (by simp only [rk] at *; omega)
          exact rZ_g h hc (by omega) (rG_t a2 (rP_g a2.1) (e := 1) (by decide)) (by decide)
        · rename_i hc; exact rO_f h hc
      split
      · split
        · rename_i hc
          have a1 := rO_g (PL := PL) h hc (by omega)
          have a2 := ih 8 (rO PL S) a1.1 (by omega) (by simp only [rk] at *; omega)
          exact rZ_g h hc (by omega) (rG_t a2 (rN_g a2.1 hK) (e := 1) (by decide)) (by decide)
        · rename_i hc; exact rO_f h hc
      split
      · have a1 := rI_g h (by omega)
        exact rG_t a1 (rP_g a1.1) (by decide)
      have a1 := ih 3 S h (by omega) (by simp only [rk] at *; omega)
      have hk2 := hK _ a1.1.1.1 a1.1.1.2
      have hb2 := a1.1
      unfold gS at hb2
      split
      · have a2 := rI_g a1.1 (by omega)
        have a3 := ih 3 _ a2.1 (by omega) (by have : (rI (rd K PL SZ rl g 3 S)).a = (rd K PL SZ rl g 3 S).a + 1 := rfl; have := a1.2.1; simp only [rk] at *; omega)
        exact rG_t (rG_t a1 a2 (e := 2) (by decide)) (rG_t a3 (rP_g a3.1) (e := 1) (by decide)) (by decide)
      · exact rG_t a1 (rF_g a1.1 (by omega)) (by decide)
    | 6, _ =>
      have a1 := ih 5 S h (by omega) (by simp only [rk] at *; omega)
      have a2 := ih 7 _ a1.1 (by omega) (by have := a1.2.1; simp only [rk] at *; omega)
      exact rG_t a1 a2 (by decide)
    | 7, _ =>
      simp only [rdS]
      split
      · have a1 := rI_g h (by omega)
        have a2 := ih 5 (rI S) a1.1 (by omega) (by simp only [rk] at *; have : (rI S).a = S.a + 1 := rfl; omega)
        have a3 := rG_t a1 (rG_t a2 (rP_g (x := 327) a2.1) (e := 1) (by decide)) (e := 1) (by decide)
        have a4 := ih 7 _ a3.1 (by omega) (by have : (rI S).a = S.a + 1 := rfl; have := a2.2.1; have := (rP_g (x := 327) a2.1).2.1; simp only [rk] at *; omega)
        exact rG_t a3 a4 (by decide)
      · exact e0
    | 8, _ =>
      have a1 := ih 6 S h (by omega) (by simp only [rk] at *; omega)
      have a2 := ih 9 _ a1.1 (by omega) (by have := a1.2.1; simp only [rk] at *; omega)
      exact rG_t a1 a2 (by decide)
    | 9, _ =>
      simp only [rdS]
      split
      · have a1 := rI_g h (by omega)
        have a2 := ih 6 (rI S) a1.1 (by omega) (by simp only [rk] at *; have : (rI S).a = S.a + 1 := rfl; omega)
        have a3 := rG_t a1 (rG_t a2 (rP_g (x := 326) a2.1) (e := 1) (by decide)) (e := 1) (by decide)
        have a4 := ih 9 _ a3.1 (by omega) (by have : (rI S).a = S.a + 1 := rfl; have := a2.2.1; have := (rP_g (x := 326) a2.1).2.1; simp only [rk] at *; omega)
        exact rG_t a3 a4 (by decide)
      · exact e0
    | 10, _ =>
      simp only [rdS]
      split
      · split
        · rename_i hc
          have a1 := rO_g (PL := PL) h hc (by omega)
          have a2 := ih 3 (rO PL S) a1.1 (by omega) (by simp only [rk] at *; omega)
          exact rZ_g h hc (by omega) (rG_t a2 (rN_g a2.1 hK) (e := 1) (by decide)) (by decide)
        · rename_i hc; exact rO_f h hc
      · exact rF_g h (by omega)
    | 11, _ =>
      simp only [rdS]
      split
      · split
        · rename_i hc
          have a1 := rO_g (PL := PL) h hc (by omega)
          have a2 := ih 3 (rO PL S) a1.1 (by omega) (by simp only [rk] at *; omega)
          have a3 := rG_t a2 (rN_g (PL := PL) (m := 44) a2.1 hK) (e := 1) (by decide)
          have a4 := ih 3 _ a3.1 (by omega) (by have := a3.2.1; simp only [rk] at *; omega)
          exact rZ_g h hc (by omega) (rG_t a3 (rG_t a4 (rN_g a4.1 hK) (e := 1) (by decide)) (e := 1) (by decide)) (by decide)
        · rename_i hc; exact rO_f h hc
      · exact rF_g h (by omega)
end RG
