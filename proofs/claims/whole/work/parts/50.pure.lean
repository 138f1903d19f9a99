/-! PURE: a row of marks with a stack; what each sort of value can be (p50.py) -/
theorem q_i {Q : aPo} {I : aFI} {L : aFL} {R : aFR} {X Y : Int} (k : Q (some (.int (iI Y))) I L R) (e : Y = X) : Q (some (.int (iI X))) I L R := e ▸ k
theorem q_b {Q : aPo} {I : aFI} {L : aFL} {R : aFR} {X Y : Bool} (k : Q (some (.int (aBo Y))) I L R) (e : Y = X) : Q (some (.int (aBo X))) I L R := e ▸ k
theorem q_l {Q : aPo} {I : aFI} {L : aFL} {R : aFR} {X Y : Int} (k : Q (some (.long (lI Y))) I L R) (e : Y = X) : Q (some (.long (lI X))) I L R := e ▸ k
abbrev isAri (m : Int) : Prop := m = 43 ∨ m = 45 ∨ m = 42 ∨ m = 47 ∨ m = 330 ∨ m = 331
abbrev isCmp (m : Int) : Prop := m = 60 ∨ m = 62 ∨ m = 61
abbrev isLog (m : Int) : Prop := m = 326 ∨ m = 327
abbrev isPrt (m : Int) : Prop := m = 310 ∨ m = 311 ∨ m = 307 ∨ (319 ≤ m ∧ m ≤ 325) ∨ m = 313 ∨ (1000 ≤ m ∧ m ≤ 10999)
abbrev isJn (m : Int) : Prop := m < 300 ∨ m = 326 ∨ m = 327 ∨ m = 330 ∨ m = 331
def tyM (m : Int) (a c : List Bool) : Prop :=
  (m = 328 ∧ ∃ r, a = true :: r ∧ c = true :: r) ∨ (m = 312 ∧ ∃ r, a = false :: r ∧ c = false :: r) ∨ (isAri m ∧ ∃ r, a = false :: false :: r ∧ c = false :: r) ∨ (isCmp m ∧ ∃ r, a = false :: false :: r ∧ c = true :: r) ∨
  (isLog m ∧ ∃ r, a = true :: true :: r ∧ c = true :: r) ∨ (m = 329 ∧ a.length < 64 ∧ c = true :: a) ∨ (isPrt m ∧ a.length < 64 ∧ c = false :: a)
def tyC : List Int → List Bool → List Bool → Prop
  | [], a, b => a = b
  | m :: l, a, b => ∃ c, tyM m a c ∧ tyC l c b
theorem tyC_app {l1 l2 : List Int} : ∀ {a b c : List Bool}, tyC l1 a b → tyC l2 b c → tyC (l1 ++ l2) a c := by
  induction l1 with
  | nil => intro a b c h1 h2; cases h1; exact h2
  | cons m l ih => intro a b c h1 h2; obtain ⟨e, h3, h4⟩ := h1; exact ⟨e, h3, ih h4 h2⟩
def joinZ (m a b : Int) : Int := if m = 43 then clip (a + b) else if m = 45 then clip (a - b) else if m = 42 then clip (a * b) else if m = 47 then a.fdiv b else if m = 60 then (if a < b then 1 else 0) else if m = 62 then (if b < a then 1 else 0) else if m = 61 then (if a = b then 1 else 0) else if m = 326 then max a b else if m = 327 then min a b else if m = 330 then min a b else max a b
def pvZ (E : Int → Int) (m : Int) : Int := if 1000 ≤ m then m - 1000 else E m
def evM (E : Int → Int) (vl m : Int) (st : List Int) : List Int :=
  if m = 328 then (match st with
    | a :: r => (1 - a) :: r
    | [] => [])
  else if m = 312 then (match st with
    | a :: r => (if a = vl then 1 else 0) :: r
    | [] => [])
  else if isJn m then (match st with
    | b :: a :: r => joinZ m a b :: r
    | _ => [])
  else pvZ E m :: st
def evC (E : Int → Int) (vl : Int) : List Int → List Int → List Int
  | [], st => st
  | m :: l, st => evC E vl l (evM E vl m st)
def valC (E : Int → Int) (vl : Int) (l : List Int) : Int := (evC E vl l []).headD 0
def vOK (t : Bool) (v : Int) : Prop := (t = true → v = 0 ∨ v = 1) ∧ (-1000000 ≤ v ∧ v ≤ 1000000)
def stOK : List Bool → List Int → Prop
  | [], [] => True
  | t :: ts, v :: vs => vOK t v ∧ stOK ts vs
  | _, _ => False
theorem stOK_len : ∀ {ts : List Bool} {vs : List Int}, stOK ts vs → vs.length = ts.length
  | [], [], _ => rfl
  | t :: ts, v :: vs, h => by simp only [List.length_cons, stOK_len h.2]
  | [], _ :: _, h => h.elim
  | _ :: _, [], h => h.elim
theorem clip_rg {v : Int} : -1000000 ≤ clip v ∧ clip v ≤ 1000000 := by unfold clip; split <;> (try split) <;> omega
theorem vOK_f {v : Int} (h : -1000000 ≤ v ∧ v ≤ 1000000) : vOK false v := ⟨fun z => (by cases z), h⟩
theorem vOK_t {v : Int} (h : v = 0 ∨ v = 1) : vOK true v := ⟨fun _ => h, by omega⟩
theorem fdiv_rg {a b : Int} (h : -1000000 ≤ a ∧ a ≤ 1000000) : -1000000 ≤ a.fdiv b ∧ a.fdiv b ≤ 1000000 := by
  by_cases hb : b = 0
  · subst hb; rw [Int.fdiv_zero]; omega
  have ht : (a.tdiv b).natAbs ≤ a.natAbs := td_rg
  have ht2 : (a.tdiv b).natAbs * b.natAbs ≤ a.natAbs := by rw [Int.natAbs_tdiv]; exact Nat.div_mul_le_self _ _
  rw [fdiv_td hb]
  split
  · rename_i hc
    by_cases h1 : (a.tdiv b).natAbs = a.natAbs
    · exfalso
      apply hc.1
      by_cases ha : a = 0
      · subst ha; exact Int.zero_tmod b
      have hb1 : b.natAbs = 1 := by
        have hb0 : 0 < b.natAbs := Int.natAbs_pos.mpr hb
        have ha0 : 0 < a.natAbs := Int.natAbs_pos.mpr ha
        rw [h1] at ht2
        have : b.natAbs ≤ 1 := by
          rcases Nat.lt_or_ge 1 b.natAbs with q | q
          · have := Nat.mul_le_mul_left a.natAbs q
            omega
          · exact q
        omega
      have : b = 1 ∨ b = -1 := by omega
      rcases this with rfl | rfl
      · exact Int.tmod_one a
      · rw [Int.tmod_neg]; exact Int.tmod_one a
    · omega
  · omega
theorem joinZ_ari {m a b : Int} (hm : isAri m) (ha : -1000000 ≤ a ∧ a ≤ 1000000) (hb : -1000000 ≤ b ∧ b ≤ 1000000) : -1000000 ≤ joinZ m a b ∧ joinZ m a b ≤ 1000000 := by
  unfold joinZ
  rcases hm with rfl | rfl | rfl | rfl | rfl | rfl
  · rw [if_pos rfl]; exact clip_rg
  · rw [if_neg (by decide), if_pos rfl]; exact clip_rg
  · rw [if_neg (by decide), if_neg (by decide), if_pos rfl]; exact clip_rg
  · rw [if_neg (by decide), if_neg (by decide), if_neg (by decide), if_pos rfl]; exact fdiv_rg ha
  · simp only [Int.reduceEq, if_false, if_true]; omega
  · simp only [Int.reduceEq, if_false]; omega
theorem joinZ_cmp {m a b : Int} (hm : isCmp m) : joinZ m a b = 0 ∨ joinZ m a b = 1 := by
  unfold joinZ
  rcases hm with rfl | rfl | rfl <;> simp only [Int.reduceEq, if_false, if_true] <;> split <;> simp
theorem joinZ_log {m a b : Int} (hm : isLog m) (ha : a = 0 ∨ a = 1) (hb : b = 0 ∨ b = 1) : joinZ m a b = 0 ∨ joinZ m a b = 1 := by
  unfold joinZ
  rcases hm with rfl | rfl <;> simp only [Int.reduceEq, if_false, if_true] <;> omega
/-- the parts' values lie within bounds -/
def eOK (E : Int → Int) : Prop := (∀ m : Int, isPrt m → -1000000 ≤ E m ∧ E m ≤ 1000000) ∧ E 329 = 1
theorem evM_ok {E : Int → Int} {vl m : Int} {a c : List Bool} {st : List Int} (hE : eOK E) (h : tyM m a c) (hs : stOK a st) : stOK c (evM E vl m st) := by
  unfold evM
  rcases h with ⟨rfl, r, rfl, rfl⟩ | ⟨rfl, r, rfl, rfl⟩ | ⟨hm, r, rfl, rfl⟩ | ⟨hm, r, rfl, rfl⟩ | ⟨hm, r, rfl, rfl⟩ | ⟨rfl, hl, rfl⟩ | ⟨hm, hl, rfl⟩
  · match st, hs with
    | v :: vs, hs => rw [if_pos rfl]; exact ⟨vOK_t (by have := hs.1.1 rfl; omega), hs.2⟩
  · match st, hs with
    | v :: vs, hs => rw [if_neg (by decide), if_pos rfl]; exact ⟨vOK_f (by split <;> omega), hs.2⟩
  · match st, hs with
    | b :: a :: vs, hs =>
      rw [if_neg (by omega), if_neg (by omega), if_pos (by omega)]
      exact ⟨vOK_f (joinZ_ari hm hs.2.1.2 hs.1.2), hs.2.2⟩
  · match st, hs with
    | b :: a :: vs, hs =>
      rw [if_neg (by omega), if_neg (by omega), if_pos (by omega)]
      exact ⟨vOK_t (joinZ_cmp hm), hs.2.2⟩
  · match st, hs with
    | b :: a :: vs, hs =>
      rw [if_neg (by omega), if_neg (by omega), if_pos (by omega)]
      exact ⟨vOK_t (joinZ_log hm (hs.2.1.1 rfl) (hs.1.1 rfl)), hs.2.2⟩
  · rw [if_neg (by decide), if_neg (by decide), if_neg (by decide)]
    exact ⟨vOK_t (by unfold pvZ; rw [if_neg (by decide), hE.2]; exact Or.inr rfl), hs⟩
  · rw [if_neg (by omega), if_neg (by omega), if_neg (by omega)]
    refine ⟨vOK_f ?_, hs⟩
    unfold pvZ; split
    · omega
    · exact hE.1 m hm
theorem evC_ok {E : Int → Int} {vl : Int} (hE : eOK E) : ∀ {l : List Int} {a c : List Bool} {st : List Int}, tyC l a c → stOK a st → stOK c (evC E vl l st)
  | [], _, _, _, h, hs => by cases h; exact hs
  | m :: l, _, _, _, h, hs => by obtain ⟨b, h1, h2⟩ := h; exact evC_ok (l := l) hE h2 (evM_ok hE h1 hs)
theorem valC_ok {E : Int → Int} {vl : Int} {l : List Int} {t : Bool} (hE : eOK E) (h : tyC l [] [t]) : vOK t (valC E vl l) ∧ evC E vl l [] = [valC E vl l] := by
  have h1 := evC_ok (vl := vl) hE h (show stOK [] [] from trivial)
  unfold valC
  match hq : evC E vl l [], h1 with
  | [v], h1 => exact ⟨h1.1, rfl⟩
  | _ :: _ :: _, h1 => exact h1.2.elim
