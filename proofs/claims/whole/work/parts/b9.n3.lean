/-! the reference made: its constructor, statement by statement (pb9.py) -/
def gWp (d y pc : Nat) (ls st : List Value) (S : List aSh) (I : aFI) (L : aFL) (R : aFR) (Q : Option Value → List aSh → aFI → aFL → aFR → Prop) : Prop := ∃ (n : Nat) (v : Option Value) (S2 : List aSh) (I2 : aFI) (L2 : aFL) (R2 : aFR), aEv WD none n d y pc ls st (S, I, L, R) = some (v, (S2, I2, L2, R2)) ∧ Q v S2 I2 L2 R2
section GW
variable {d y pc nx : Nat} {ls st : List Value} {S S2 : List aSh} {I : aFI} {L : aFL} {R : aFR} {Q : Option Value → List aSh → aFI → aFL → aFR → Prop}
theorem g_st {i : Instr} {ls2 st2 : List Value} {I2 : aFI} {L2 : aFL} {R2 : aFR} (hc : aCod y pc = some (i, nx)) (h1 : aRet y i st = none) (h2 : aCal i st (S, I, L, R) = none) (h3 : aBr i nx st = none) (h : aSt none WD d i ls st (S, I, L, R) = some (ls2, st2, (S2, I2, L2, R2))) (k : gWp d y nx ls2 st2 S2 I2 L2 R2 Q) : gWp d y pc ls st S I L R Q := by
  obtain ⟨n, v, S3, I3, L3, R3, h4, h5⟩ := k
  exact ⟨n + 1, v, S3, I3, L3, R3, by rw [aEv_succ, hc]; simp only [h1, h2, h3, h]; exact h4, h5⟩
theorem g_rv (hc : aCod y pc = some (.return_, nx)) (k : Q none S I L R) : gWp d y pc ls [] S I L R Q := ⟨1, none, S, I, L, R, by rw [aEv_succ, hc]; rfl, k⟩
theorem g_pu {v : Int} (hc : aCod y pc = some (.sipush v, nx)) (k : gWp d y nx ls (.int (iI v) :: st) S I L R Q) : gWp d y pc ls st S I L R Q := g_st hc (by cases st <;> rfl) rfl rfl rfl k
theorem g_pl {v : Int} (hc : aCod y pc = some (.goto_w v, nx)) (k : gWp d y nx ls (.long (lI v) :: st) S I L R Q) : gWp d y pc ls st S I L R Q := g_st hc (by cases st <;> rfl) rfl rfl rfl k
theorem g_al {j x : Nat} (hc : aCod y pc = some (.aload j, nx)) (hl : ls[j]? = some (.ref x)) (k : gWp d y nx ls (.ref x :: st) S I L R Q) : gWp d y pc ls st S I L R Q := g_st hc (by cases st <;> rfl) rfl rfl (by simp only [aSt, hl]) k
theorem g_du {v : Value} (hc : aCod y pc = some (.dup, nx)) (hv : v.category = 1) (k : gWp d y nx ls (v :: v :: st) S I L R Q) : gWp d y pc ls (v :: st) S I L R Q := g_st hc rfl rfl rfl (by simp only [aSt, if_pos hv]) k
theorem g_oi {i0 q : Nat} (hc : aCod y pc = some (.invokeinterface 0 i0, nx)) (hd : ¬ (d = 0 ∨ 8 < aCat st)) (k : gWp d y nx ls st S I L R Q) : gWp d y pc ls (.ref q :: st) S I L R Q := g_st hc (by cases st <;> rfl) rfl rfl (by simp only [aSt, if_neg hd]) k
theorem g_cs {q n : Nat} {j x x2 : Int32} {k2 : Nat} (hc : aCod y pc = some (.castore, nx)) (hs : S[q]? = some (some .char, n)) (hj : ¬ (j < 0 ∨ n ≤ j.toNatClampNeg)) (hk : j.toNatClampNeg = k2) (hx : vp_nar .char x = x2) (k : gWp d y nx ls st S (aUp I q k2 x2) L R Q) : gWp d y pc ls (.int x :: .int j :: .ref q :: st) S I L R Q := g_st hc rfl rfl rfl (by subst hx; subst hk; simp only [aSt, hs, if_neg hj]) k
theorem g_is {q n : Nat} {j x : Int32} {k2 : Nat} (hc : aCod y pc = some (.iastore, nx)) (hs : S[q]? = some (some .int, n)) (hj : ¬ (j < 0 ∨ n ≤ j.toNatClampNeg)) (hk : j.toNatClampNeg = k2) (k : gWp d y nx ls st S (aUp I q k2 x) L R Q) : gWp d y pc ls (.int x :: .int j :: .ref q :: st) S I L R Q := g_st hc rfl rfl rfl (by subst hk; simp only [aSt, hs, if_neg hj]) k
theorem g_nc {t : ArrayType} {n : Int32} {p m : Nat} (hc : aCod y pc = some (.newarray t, nx)) (ht : newarray.typeOf t = .char) (hp : S.length = p) (hm : n.toNatClampNeg = m) (hn : ¬ (n < 0 ∨ 1000000 ≤ m ∨ 1000000 ≤ p)) (hS : S ++ [(some .char, m)] = S2) (k : gWp d y nx ls (.ref p :: st) S2 (aRow I p (fun _ => 0)) L R Q) : gWp d y pc ls (.int n :: st) S I L R Q := g_st hc (by cases st <;> rfl) rfl rfl (by subst hS; subst hp; subst hm; simp only [aSt, ht, if_neg hn]) k
theorem g_ni {t : ArrayType} {n : Int32} {p m : Nat} (hc : aCod y pc = some (.newarray t, nx)) (ht : newarray.typeOf t = .int) (hp : S.length = p) (hm : n.toNatClampNeg = m) (hn : ¬ (n < 0 ∨ 1000000 ≤ m ∨ 1000000 ≤ p)) (hS : S ++ [(some .int, m)] = S2) (k : gWp d y nx ls (.ref p :: st) S2 (aRow I p (fun _ => 0)) L R Q) : gWp d y pc ls (.int n :: st) S I L R Q := g_st hc (by cases st <;> rfl) rfl rfl (by subst hS; subst hp; subst hm; simp only [aSt, ht, if_neg hn]) k
theorem g_nl {t : ArrayType} {n : Int32} {p m : Nat} (hc : aCod y pc = some (.newarray t, nx)) (ht : newarray.typeOf t = .long) (hp : S.length = p) (hm : n.toNatClampNeg = m) (hn : ¬ (n < 0 ∨ 1000000 ≤ m ∨ 1000000 ≤ p)) (hS : S ++ [(some .long, m)] = S2) (k : gWp d y nx ls (.ref p :: st) S2 I (aRow L p (fun _ => 0)) R Q) : gWp d y pc ls (.int n :: st) S I L R Q := g_st hc (by cases st <;> rfl) rfl rfl (by subst hS; subst hp; subst hm; simp only [aSt, ht, if_neg hn]) k
theorem g_pz {f q : Nat} {x : Int32} (hc : aCod y pc = some (.putfield f, nx)) (hs : S[q]? = some (none, f / 256) ∧ f % 256 < aNF (f / 256) ∧ aIsRef (aTy (f / 256) (f % 256)) = false ∧ aTy (f / 256) (f % 256) ≠ .long ∧ narrow (aTy (f / 256) (f % 256)) (.int x) = .int x ∧ fits (aTy (f / 256) (f % 256)) (.int x) = true) (k : gWp d y nx ls st S (aUp I q (f % 256) x) L R Q) : gWp d y pc ls (.int x :: .ref q :: st) S I L R Q := g_st hc rfl rfl rfl (by simp only [aSt]; rw [if_pos hs]) k
theorem g_pj {f q : Nat} {x : Int64} (hc : aCod y pc = some (.putfield f, nx)) (hs : S[q]? = some (none, f / 256) ∧ f % 256 < aNF (f / 256) ∧ aTy (f / 256) (f % 256) = .long) (k : gWp d y nx ls st S I (aUp L q (f % 256) x) R Q) : gWp d y pc ls (.long x :: .ref q :: st) S I L R Q := g_st hc rfl rfl rfl (by simp only [aSt]; rw [if_pos hs]) k
theorem g_pr {f q a : Nat} (hc : aCod y pc = some (.putfield f, nx)) (hs : S[q]? = some (none, f / 256) ∧ f % 256 < aNF (f / 256) ∧ aIsRef (aTy (f / 256) (f % 256)) = true) (k : gWp d y nx ls st S I L (aUp R q (f % 256) (some a)) Q) : gWp d y pc ls (.ref a :: .ref q :: st) S I L R Q := g_st hc rfl rfl rfl (by simp only [aSt]; rw [if_pos hs]) k
end GW
/-- a memory: what was written, the newest first; rows made; what was there -/
def lk3 {α : Type} : List (Nat × Nat × α) → Nat → Nat → Option α
  | [], _, _ => none
  | e :: r, q, k => if q = e.1 ∧ k = e.2.1 then some e.2.2 else lk3 r q k
def ig (B : aFI) (P : List (Nat × Nat × Int32)) (Z : List Nat) : aFI := fun q k => match lk3 P q k with
  | some v => v
  | none => if Z.contains q = true then 0 else B q k
def rgm (B : aFR) (P : List (Nat × Nat × Option Nat)) : aFR := fun q k => match lk3 P q k with
  | some v => v
  | none => B q k
theorem ig_up {B : aFI} {P : List (Nat × Nat × Int32)} {Z : List Nat} {q k : Nat} {v : Int32} : aUp (ig B P Z) q k v = ig B ((q, k, v) :: P) Z := by
  funext a b
  unfold aUp ig
  show _ = match (if a = q ∧ b = k then some v else lk3 P a b) with | some v => v | none => _
  by_cases h : a = q ∧ b = k
  · rw [if_pos h, if_pos h]
  · rw [if_neg h, if_neg h]
theorem rgm_up {B : aFR} {P : List (Nat × Nat × Option Nat)} {q k : Nat} {v : Option Nat} : aUp (rgm B P) q k v = rgm B ((q, k, v) :: P) := by
  funext a b
  unfold aUp rgm
  show _ = match (if a = q ∧ b = k then some v else lk3 P a b) with | some v => v | none => _
  by_cases h : a = q ∧ b = k
  · rw [if_pos h, if_pos h]
  · rw [if_neg h, if_neg h]
theorem lk3_no {α : Type} {q : Nat} : ∀ {P : List (Nat × Nat × α)}, P.all (fun e => decide (¬ e.1 = q)) = true → ∀ k : Nat, lk3 P q k = none
  | [], _, _ => rfl
  | e :: r, h, k => by
    simp only [List.all_cons, Bool.and_eq_true, decide_eq_true_eq] at h
    unfold lk3
    rw [if_neg (fun z => h.1 z.1.symm)]
    exact lk3_no h.2 k
theorem ig_row {B : aFI} {P : List (Nat × Nat × Int32)} {Z : List Nat} {p : Nat} (h : P.all (fun e => decide (¬ e.1 = p)) = true) : aRow (ig B P Z) p (fun _ => 0) = ig B P (p :: Z) := by
  funext a b
  unfold aRow ig
  by_cases e : a = p
  · subst e
    rw [if_pos rfl, lk3_no h b]
    simp
  · rw [if_neg e]
    have : (p :: Z).contains a = Z.contains a := by simp [List.contains_cons, e]
    rw [this]
def icP0 : List (Nat × Nat × Int32) := []
def icR0 : List (Nat × Nat × Option Nat) := []
def icZ0 : List Nat := []
theorem ic_0 {Q : Option Value → List aSh → aFI → aFL → aFR → Prop} {B : aFI} {L : aFL} {R : aFR} (k : gWp 150 129 4 [.ref 157] [] (S0.take 158) (ig B icP0 icZ0) L (rgm R icR0) Q) : gWp 150 129 0 [.ref 157] [] (S0.take 158) (ig B icP0 icZ0) L (rgm R icR0) Q := by
  refine g_al (show aCod 129 0 = some (.aload 0, 1) by decide +kernel) rfl ?_
  refine g_oi (show aCod 129 1 = some (.invokeinterface 0 0, 4) by decide +kernel) (by decide) ?_
  exact k
def icR1 : List (Nat × Nat × Option Nat) := (157, 0, some 158) :: icR0
def icZ1 : List Nat := 158 :: icZ0
theorem ic_1 {Q : Option Value → List aSh → aFI → aFL → aFR → Prop} {B : aFI} {L : aFL} {R : aFR} (k : gWp 150 129 13 [.ref 157] [] (S0.take 159) (ig B icP0 icZ1) L (rgm R icR1) Q) : gWp 150 129 4 [.ref 157] [] (S0.take 158) (ig B icP0 icZ0) L (rgm R icR0) Q := by
  refine g_al (show aCod 129 4 = some (.aload 0, 5) by decide +kernel) rfl ?_
  refine g_pu (show aCod 129 5 = some (.sipush 1600, 8) by decide +kernel) ?_
  refine g_ni (p := 158) (m := 1600) (S2 := (S0.take 159)) (show aCod 129 8 = some (.newarray .int, 10) by decide +kernel) rfl (by decide +kernel) (by decide) (by decide) (by decide +kernel) ?_
  rw [ig_row (by decide +kernel)]
  refine g_pr (show aCod 129 10 = some (.putfield 2304, 13) by decide +kernel) ⟨rfl, by decide, rfl⟩ ?_
  rw [rgm_up]
  exact k
def icP1 : List (Nat × Nat × Int32) := (157, 8, iI (-1)) :: icP0
theorem ic_2 {Q : Option Value → List aSh → aFI → aFL → aFR → Prop} {B : aFI} {L : aFL} {R : aFR} (k : gWp 150 129 18 [.ref 157] [] (S0.take 159) (ig B icP1 icZ1) L (rgm R icR1) Q) : gWp 150 129 13 [.ref 157] [] (S0.take 159) (ig B icP0 icZ1) L (rgm R icR1) Q := by
  refine g_al (show aCod 129 13 = some (.aload 0, 14) by decide +kernel) rfl ?_
  refine g_pu (show aCod 129 14 = some (.sipush (-1), 15) by decide +kernel) ?_
  refine g_pz (show aCod 129 15 = some (.putfield 2312, 18) by decide +kernel) ⟨rfl, by decide, rfl, by decide, rfl, rfl⟩ ?_
  rw [ig_up]
  exact k
def icR2 : List (Nat × Nat × Option Nat) := (157, 9, some 159) :: icR1
def icZ2 : List Nat := 159 :: icZ1
theorem ic_3 {Q : Option Value → List aSh → aFI → aFL → aFR → Prop} {B : aFI} {L : aFL} {R : aFR} (k : gWp 150 129 26 [.ref 157] [] (S0.take 160) (ig B icP1 icZ2) L (rgm R icR2) Q) : gWp 150 129 18 [.ref 157] [] (S0.take 159) (ig B icP1 icZ1) L (rgm R icR1) Q := by
  refine g_al (show aCod 129 18 = some (.aload 0, 19) by decide +kernel) rfl ?_
  refine g_pu (show aCod 129 19 = some (.sipush 6, 21) by decide +kernel) ?_
  refine g_ni (p := 159) (m := 6) (S2 := (S0.take 160)) (show aCod 129 21 = some (.newarray .int, 23) by decide +kernel) rfl (by decide +kernel) (by decide) (by decide) (by decide +kernel) ?_
  rw [ig_row (by decide +kernel)]
  refine g_pr (show aCod 129 23 = some (.putfield 2313, 26) by decide +kernel) ⟨rfl, by decide, rfl⟩ ?_
  rw [rgm_up]
  exact k
def icP2 : List (Nat × Nat × Int32) := (160, 3, iI (101)) :: (160, 2, iI (107)) :: (160, 1, iI (97)) :: (160, 0, iI (108)) :: icP1
def icR3 : List (Nat × Nat × Option Nat) := (157, 11, some 160) :: icR2
def icZ3 : List Nat := 160 :: icZ2
theorem ic_4 {Q : Option Value → List aSh → aFI → aFL → aFR → Prop} {B : aFI} {L : aFL} {R : aFR} (k : gWp 150 129 53 [.ref 157] [] (S0.take 161) (ig B icP2 icZ3) L (rgm R icR3) Q) : gWp 150 129 26 [.ref 157] [] (S0.take 160) (ig B icP1 icZ2) L (rgm R icR2) Q := by
  refine g_al (show aCod 129 26 = some (.aload 0, 27) by decide +kernel) rfl ?_
  refine g_pu (show aCod 129 27 = some (.sipush 4, 28) by decide +kernel) ?_
  refine g_nc (p := 160) (m := 4) (S2 := (S0.take 161)) (show aCod 129 28 = some (.newarray .char, 30) by decide +kernel) rfl (by decide +kernel) (by decide) (by decide) (by decide +kernel) ?_
  rw [ig_row (by decide +kernel)]
  refine g_du (show aCod 129 30 = some (.dup, 31) by decide +kernel) rfl ?_
  refine g_pu (show aCod 129 31 = some (.sipush 0, 32) by decide +kernel) ?_
  refine g_pu (show aCod 129 32 = some (.sipush 108, 34) by decide +kernel) ?_
  refine g_cs (k2 := 0) (x2 := iI 108) (show aCod 129 34 = some (.castore, 35) by decide +kernel) rfl (by decide) (by decide) (by decide) ?_
  rw [ig_up]
  refine g_du (show aCod 129 35 = some (.dup, 36) by decide +kernel) rfl ?_
  refine g_pu (show aCod 129 36 = some (.sipush 1, 37) by decide +kernel) ?_
  refine g_pu (show aCod 129 37 = some (.sipush 97, 39) by decide +kernel) ?_
  refine g_cs (k2 := 1) (x2 := iI 97) (show aCod 129 39 = some (.castore, 40) by decide +kernel) rfl (by decide) (by decide) (by decide) ?_
  rw [ig_up]
  refine g_du (show aCod 129 40 = some (.dup, 41) by decide +kernel) rfl ?_
  refine g_pu (show aCod 129 41 = some (.sipush 2, 42) by decide +kernel) ?_
  refine g_pu (show aCod 129 42 = some (.sipush 107, 44) by decide +kernel) ?_
  refine g_cs (k2 := 2) (x2 := iI 107) (show aCod 129 44 = some (.castore, 45) by decide +kernel) rfl (by decide) (by decide) (by decide) ?_
  rw [ig_up]
  refine g_du (show aCod 129 45 = some (.dup, 46) by decide +kernel) rfl ?_
  refine g_pu (show aCod 129 46 = some (.sipush 3, 47) by decide +kernel) ?_
  refine g_pu (show aCod 129 47 = some (.sipush 101, 49) by decide +kernel) ?_
  refine g_cs (k2 := 3) (x2 := iI 101) (show aCod 129 49 = some (.castore, 50) by decide +kernel) rfl (by decide) (by decide) (by decide) ?_
  rw [ig_up]
  refine g_pr (show aCod 129 50 = some (.putfield 2315, 53) by decide +kernel) ⟨rfl, by decide, rfl⟩ ?_
  rw [rgm_up]
  exact k
def icP3 : List (Nat × Nat × Int32) := (161, 2, iI (115)) :: (161, 1, iI (97)) :: (161, 0, iI (104)) :: icP2
def icR4 : List (Nat × Nat × Option Nat) := (157, 12, some 161) :: icR3
def icZ4 : List Nat := 161 :: icZ3
theorem ic_5 {Q : Option Value → List aSh → aFI → aFL → aFR → Prop} {B : aFI} {L : aFL} {R : aFR} (k : gWp 150 129 75 [.ref 157] [] (S0.take 162) (ig B icP3 icZ4) L (rgm R icR4) Q) : gWp 150 129 53 [.ref 157] [] (S0.take 161) (ig B icP2 icZ3) L (rgm R icR3) Q := by
  refine g_al (show aCod 129 53 = some (.aload 0, 54) by decide +kernel) rfl ?_
  refine g_pu (show aCod 129 54 = some (.sipush 3, 55) by decide +kernel) ?_
  refine g_nc (p := 161) (m := 3) (S2 := (S0.take 162)) (show aCod 129 55 = some (.newarray .char, 57) by decide +kernel) rfl (by decide +kernel) (by decide) (by decide) (by decide +kernel) ?_
  rw [ig_row (by decide +kernel)]
  refine g_du (show aCod 129 57 = some (.dup, 58) by decide +kernel) rfl ?_
  refine g_pu (show aCod 129 58 = some (.sipush 0, 59) by decide +kernel) ?_
  refine g_pu (show aCod 129 59 = some (.sipush 104, 61) by decide +kernel) ?_
  refine g_cs (k2 := 0) (x2 := iI 104) (show aCod 129 61 = some (.castore, 62) by decide +kernel) rfl (by decide) (by decide) (by decide) ?_
  rw [ig_up]
  refine g_du (show aCod 129 62 = some (.dup, 63) by decide +kernel) rfl ?_
  refine g_pu (show aCod 129 63 = some (.sipush 1, 64) by decide +kernel) ?_
  refine g_pu (show aCod 129 64 = some (.sipush 97, 66) by decide +kernel) ?_
  refine g_cs (k2 := 1) (x2 := iI 97) (show aCod 129 66 = some (.castore, 67) by decide +kernel) rfl (by decide) (by decide) (by decide) ?_
  rw [ig_up]
  refine g_du (show aCod 129 67 = some (.dup, 68) by decide +kernel) rfl ?_
  refine g_pu (show aCod 129 68 = some (.sipush 2, 69) by decide +kernel) ?_
  refine g_pu (show aCod 129 69 = some (.sipush 115, 71) by decide +kernel) ?_
  refine g_cs (k2 := 2) (x2 := iI 115) (show aCod 129 71 = some (.castore, 72) by decide +kernel) rfl (by decide) (by decide) (by decide) ?_
  rw [ig_up]
  refine g_pr (show aCod 129 72 = some (.putfield 2316, 75) by decide +kernel) ⟨rfl, by decide, rfl⟩ ?_
  rw [rgm_up]
  exact k
def icP4 : List (Nat × Nat × Int32) := (162, 4, iI (107)) :: (162, 3, iI (99)) :: (162, 2, iI (97)) :: (162, 1, iI (108)) :: (162, 0, iI (98)) :: icP3
def icR5 : List (Nat × Nat × Option Nat) := (157, 13, some 162) :: icR4
def icZ5 : List Nat := 162 :: icZ4
theorem ic_6 {Q : Option Value → List aSh → aFI → aFL → aFR → Prop} {B : aFI} {L : aFL} {R : aFR} (k : gWp 150 129 107 [.ref 157] [] (S0.take 163) (ig B icP4 icZ5) L (rgm R icR5) Q) : gWp 150 129 75 [.ref 157] [] (S0.take 162) (ig B icP3 icZ4) L (rgm R icR4) Q := by
  refine g_al (show aCod 129 75 = some (.aload 0, 76) by decide +kernel) rfl ?_
  refine g_pu (show aCod 129 76 = some (.sipush 5, 77) by decide +kernel) ?_
  refine g_nc (p := 162) (m := 5) (S2 := (S0.take 163)) (show aCod 129 77 = some (.newarray .char, 79) by decide +kernel) rfl (by decide +kernel) (by decide) (by decide) (by decide +kernel) ?_
  rw [ig_row (by decide +kernel)]
  refine g_du (show aCod 129 79 = some (.dup, 80) by decide +kernel) rfl ?_
  refine g_pu (show aCod 129 80 = some (.sipush 0, 81) by decide +kernel) ?_
  refine g_pu (show aCod 129 81 = some (.sipush 98, 83) by decide +kernel) ?_
  refine g_cs (k2 := 0) (x2 := iI 98) (show aCod 129 83 = some (.castore, 84) by decide +kernel) rfl (by decide) (by decide) (by decide) ?_
  rw [ig_up]
  refine g_du (show aCod 129 84 = some (.dup, 85) by decide +kernel) rfl ?_
  refine g_pu (show aCod 129 85 = some (.sipush 1, 86) by decide +kernel) ?_
  refine g_pu (show aCod 129 86 = some (.sipush 108, 88) by decide +kernel) ?_
  refine g_cs (k2 := 1) (x2 := iI 108) (show aCod 129 88 = some (.castore, 89) by decide +kernel) rfl (by decide) (by decide) (by decide) ?_
  rw [ig_up]
  refine g_du (show aCod 129 89 = some (.dup, 90) by decide +kernel) rfl ?_
  refine g_pu (show aCod 129 90 = some (.sipush 2, 91) by decide +kernel) ?_
  refine g_pu (show aCod 129 91 = some (.sipush 97, 93) by decide +kernel) ?_
  refine g_cs (k2 := 2) (x2 := iI 97) (show aCod 129 93 = some (.castore, 94) by decide +kernel) rfl (by decide) (by decide) (by decide) ?_
  rw [ig_up]
  refine g_du (show aCod 129 94 = some (.dup, 95) by decide +kernel) rfl ?_
  refine g_pu (show aCod 129 95 = some (.sipush 3, 96) by decide +kernel) ?_
  refine g_pu (show aCod 129 96 = some (.sipush 99, 98) by decide +kernel) ?_
  refine g_cs (k2 := 3) (x2 := iI 99) (show aCod 129 98 = some (.castore, 99) by decide +kernel) rfl (by decide) (by decide) (by decide) ?_
  rw [ig_up]
  refine g_du (show aCod 129 99 = some (.dup, 100) by decide +kernel) rfl ?_
  refine g_pu (show aCod 129 100 = some (.sipush 4, 101) by decide +kernel) ?_
  refine g_pu (show aCod 129 101 = some (.sipush 107, 103) by decide +kernel) ?_
  refine g_cs (k2 := 4) (x2 := iI 107) (show aCod 129 103 = some (.castore, 104) by decide +kernel) rfl (by decide) (by decide) (by decide) ?_
  rw [ig_up]
  refine g_pr (show aCod 129 104 = some (.putfield 2317, 107) by decide +kernel) ⟨rfl, by decide, rfl⟩ ?_
  rw [rgm_up]
  exact k
def icP5 : List (Nat × Nat × Int32) := (163, 4, iI (115)) :: (163, 3, iI (100)) :: (163, 2, iI (108)) :: (163, 1, iI (111)) :: (163, 0, iI (104)) :: icP4
def icR6 : List (Nat × Nat × Option Nat) := (157, 14, some 163) :: icR5
def icZ6 : List Nat := 163 :: icZ5
theorem ic_7 {Q : Option Value → List aSh → aFI → aFL → aFR → Prop} {B : aFI} {L : aFL} {R : aFR} (k : gWp 150 129 139 [.ref 157] [] (S0.take 164) (ig B icP5 icZ6) L (rgm R icR6) Q) : gWp 150 129 107 [.ref 157] [] (S0.take 163) (ig B icP4 icZ5) L (rgm R icR5) Q := by
  refine g_al (show aCod 129 107 = some (.aload 0, 108) by decide +kernel) rfl ?_
  refine g_pu (show aCod 129 108 = some (.sipush 5, 109) by decide +kernel) ?_
  refine g_nc (p := 163) (m := 5) (S2 := (S0.take 164)) (show aCod 129 109 = some (.newarray .char, 111) by decide +kernel) rfl (by decide +kernel) (by decide) (by decide) (by decide +kernel) ?_
  rw [ig_row (by decide +kernel)]
  refine g_du (show aCod 129 111 = some (.dup, 112) by decide +kernel) rfl ?_
  refine g_pu (show aCod 129 112 = some (.sipush 0, 113) by decide +kernel) ?_
  refine g_pu (show aCod 129 113 = some (.sipush 104, 115) by decide +kernel) ?_
  refine g_cs (k2 := 0) (x2 := iI 104) (show aCod 129 115 = some (.castore, 116) by decide +kernel) rfl (by decide) (by decide) (by decide) ?_
  rw [ig_up]
  refine g_du (show aCod 129 116 = some (.dup, 117) by decide +kernel) rfl ?_
  refine g_pu (show aCod 129 117 = some (.sipush 1, 118) by decide +kernel) ?_
  refine g_pu (show aCod 129 118 = some (.sipush 111, 120) by decide +kernel) ?_
  refine g_cs (k2 := 1) (x2 := iI 111) (show aCod 129 120 = some (.castore, 121) by decide +kernel) rfl (by decide) (by decide) (by decide) ?_
  rw [ig_up]
  refine g_du (show aCod 129 121 = some (.dup, 122) by decide +kernel) rfl ?_
  refine g_pu (show aCod 129 122 = some (.sipush 2, 123) by decide +kernel) ?_
  refine g_pu (show aCod 129 123 = some (.sipush 108, 125) by decide +kernel) ?_
  refine g_cs (k2 := 2) (x2 := iI 108) (show aCod 129 125 = some (.castore, 126) by decide +kernel) rfl (by decide) (by decide) (by decide) ?_
  rw [ig_up]
  refine g_du (show aCod 129 126 = some (.dup, 127) by decide +kernel) rfl ?_
  refine g_pu (show aCod 129 127 = some (.sipush 3, 128) by decide +kernel) ?_
  refine g_pu (show aCod 129 128 = some (.sipush 100, 130) by decide +kernel) ?_
  refine g_cs (k2 := 3) (x2 := iI 100) (show aCod 129 130 = some (.castore, 131) by decide +kernel) rfl (by decide) (by decide) (by decide) ?_
  rw [ig_up]
  refine g_du (show aCod 129 131 = some (.dup, 132) by decide +kernel) rfl ?_
  refine g_pu (show aCod 129 132 = some (.sipush 4, 133) by decide +kernel) ?_
  refine g_pu (show aCod 129 133 = some (.sipush 115, 135) by decide +kernel) ?_
  refine g_cs (k2 := 4) (x2 := iI 115) (show aCod 129 135 = some (.castore, 136) by decide +kernel) rfl (by decide) (by decide) (by decide) ?_
  rw [ig_up]
  refine g_pr (show aCod 129 136 = some (.putfield 2318, 139) by decide +kernel) ⟨rfl, by decide, rfl⟩ ?_
  rw [rgm_up]
  exact k
def icP6 : List (Nat × Nat × Int32) := (164, 4, iI (107)) :: (164, 3, iI (111)) :: (164, 2, iI (111)) :: (164, 1, iI (114)) :: (164, 0, iI (98)) :: icP5
def icR7 : List (Nat × Nat × Option Nat) := (157, 15, some 164) :: icR6
def icZ7 : List Nat := 164 :: icZ6
theorem ic_8 {Q : Option Value → List aSh → aFI → aFL → aFR → Prop} {B : aFI} {L : aFL} {R : aFR} (k : gWp 150 129 171 [.ref 157] [] (S0.take 165) (ig B icP6 icZ7) L (rgm R icR7) Q) : gWp 150 129 139 [.ref 157] [] (S0.take 164) (ig B icP5 icZ6) L (rgm R icR6) Q := by
  refine g_al (show aCod 129 139 = some (.aload 0, 140) by decide +kernel) rfl ?_
  refine g_pu (show aCod 129 140 = some (.sipush 5, 141) by decide +kernel) ?_
  refine g_nc (p := 164) (m := 5) (S2 := (S0.take 165)) (show aCod 129 141 = some (.newarray .char, 143) by decide +kernel) rfl (by decide +kernel) (by decide) (by decide) (by decide +kernel) ?_
  rw [ig_row (by decide +kernel)]
  refine g_du (show aCod 129 143 = some (.dup, 144) by decide +kernel) rfl ?_
  refine g_pu (show aCod 129 144 = some (.sipush 0, 145) by decide +kernel) ?_
  refine g_pu (show aCod 129 145 = some (.sipush 98, 147) by decide +kernel) ?_
  refine g_cs (k2 := 0) (x2 := iI 98) (show aCod 129 147 = some (.castore, 148) by decide +kernel) rfl (by decide) (by decide) (by decide) ?_
  rw [ig_up]
  refine g_du (show aCod 129 148 = some (.dup, 149) by decide +kernel) rfl ?_
  refine g_pu (show aCod 129 149 = some (.sipush 1, 150) by decide +kernel) ?_
  refine g_pu (show aCod 129 150 = some (.sipush 114, 152) by decide +kernel) ?_
  refine g_cs (k2 := 1) (x2 := iI 114) (show aCod 129 152 = some (.castore, 153) by decide +kernel) rfl (by decide) (by decide) (by decide) ?_
  rw [ig_up]
  refine g_du (show aCod 129 153 = some (.dup, 154) by decide +kernel) rfl ?_
  refine g_pu (show aCod 129 154 = some (.sipush 2, 155) by decide +kernel) ?_
  refine g_pu (show aCod 129 155 = some (.sipush 111, 157) by decide +kernel) ?_
  refine g_cs (k2 := 2) (x2 := iI 111) (show aCod 129 157 = some (.castore, 158) by decide +kernel) rfl (by decide) (by decide) (by decide) ?_
  rw [ig_up]
  refine g_du (show aCod 129 158 = some (.dup, 159) by decide +kernel) rfl ?_
  refine g_pu (show aCod 129 159 = some (.sipush 3, 160) by decide +kernel) ?_
  refine g_pu (show aCod 129 160 = some (.sipush 111, 162) by decide +kernel) ?_
  refine g_cs (k2 := 3) (x2 := iI 111) (show aCod 129 162 = some (.castore, 163) by decide +kernel) rfl (by decide) (by decide) (by decide) ?_
  rw [ig_up]
  refine g_du (show aCod 129 163 = some (.dup, 164) by decide +kernel) rfl ?_
  refine g_pu (show aCod 129 164 = some (.sipush 4, 165) by decide +kernel) ?_
  refine g_pu (show aCod 129 165 = some (.sipush 107, 167) by decide +kernel) ?_
  refine g_cs (k2 := 4) (x2 := iI 107) (show aCod 129 167 = some (.castore, 168) by decide +kernel) rfl (by decide) (by decide) (by decide) ?_
  rw [ig_up]
  refine g_pr (show aCod 129 168 = some (.putfield 2319, 171) by decide +kernel) ⟨rfl, by decide, rfl⟩ ?_
  rw [rgm_up]
  exact k
def icP7 : List (Nat × Nat × Int32) := (165, 4, iI (115)) :: (165, 3, iI (101)) :: (165, 2, iI (118)) :: (165, 1, iI (105)) :: (165, 0, iI (103)) :: icP6
def icR8 : List (Nat × Nat × Option Nat) := (157, 16, some 165) :: icR7
def icZ8 : List Nat := 165 :: icZ7
theorem ic_9 {Q : Option Value → List aSh → aFI → aFL → aFR → Prop} {B : aFI} {L : aFL} {R : aFR} (k : gWp 150 129 203 [.ref 157] [] (S0.take 166) (ig B icP7 icZ8) L (rgm R icR8) Q) : gWp 150 129 171 [.ref 157] [] (S0.take 165) (ig B icP6 icZ7) L (rgm R icR7) Q := by
  refine g_al (show aCod 129 171 = some (.aload 0, 172) by decide +kernel) rfl ?_
  refine g_pu (show aCod 129 172 = some (.sipush 5, 173) by decide +kernel) ?_
  refine g_nc (p := 165) (m := 5) (S2 := (S0.take 166)) (show aCod 129 173 = some (.newarray .char, 175) by decide +kernel) rfl (by decide +kernel) (by decide) (by decide) (by decide +kernel) ?_
  rw [ig_row (by decide +kernel)]
  refine g_du (show aCod 129 175 = some (.dup, 176) by decide +kernel) rfl ?_
  refine g_pu (show aCod 129 176 = some (.sipush 0, 177) by decide +kernel) ?_
  refine g_pu (show aCod 129 177 = some (.sipush 103, 179) by decide +kernel) ?_
  refine g_cs (k2 := 0) (x2 := iI 103) (show aCod 129 179 = some (.castore, 180) by decide +kernel) rfl (by decide) (by decide) (by decide) ?_
  rw [ig_up]
  refine g_du (show aCod 129 180 = some (.dup, 181) by decide +kernel) rfl ?_
  refine g_pu (show aCod 129 181 = some (.sipush 1, 182) by decide +kernel) ?_
  refine g_pu (show aCod 129 182 = some (.sipush 105, 184) by decide +kernel) ?_
  refine g_cs (k2 := 1) (x2 := iI 105) (show aCod 129 184 = some (.castore, 185) by decide +kernel) rfl (by decide) (by decide) (by decide) ?_
  rw [ig_up]
  refine g_du (show aCod 129 185 = some (.dup, 186) by decide +kernel) rfl ?_
  refine g_pu (show aCod 129 186 = some (.sipush 2, 187) by decide +kernel) ?_
  refine g_pu (show aCod 129 187 = some (.sipush 118, 189) by decide +kernel) ?_
  refine g_cs (k2 := 2) (x2 := iI 118) (show aCod 129 189 = some (.castore, 190) by decide +kernel) rfl (by decide) (by decide) (by decide) ?_
  rw [ig_up]
  refine g_du (show aCod 129 190 = some (.dup, 191) by decide +kernel) rfl ?_
  refine g_pu (show aCod 129 191 = some (.sipush 3, 192) by decide +kernel) ?_
  refine g_pu (show aCod 129 192 = some (.sipush 101, 194) by decide +kernel) ?_
  refine g_cs (k2 := 3) (x2 := iI 101) (show aCod 129 194 = some (.castore, 195) by decide +kernel) rfl (by decide) (by decide) (by decide) ?_
  rw [ig_up]
  refine g_du (show aCod 129 195 = some (.dup, 196) by decide +kernel) rfl ?_
  refine g_pu (show aCod 129 196 = some (.sipush 4, 197) by decide +kernel) ?_
  refine g_pu (show aCod 129 197 = some (.sipush 115, 199) by decide +kernel) ?_
  refine g_cs (k2 := 4) (x2 := iI 115) (show aCod 129 199 = some (.castore, 200) by decide +kernel) rfl (by decide) (by decide) (by decide) ?_
  rw [ig_up]
  refine g_pr (show aCod 129 200 = some (.putfield 2320, 203) by decide +kernel) ⟨rfl, by decide, rfl⟩ ?_
  rw [rgm_up]
  exact k
def icP8 : List (Nat × Nat × Int32) := (166, 6, iI (101)) :: (166, 5, iI (103)) :: (166, 4, iI (97)) :: (166, 3, iI (108)) :: (166, 2, iI (108)) :: (166, 1, iI (105)) :: (166, 0, iI (118)) :: icP7
def icR9 : List (Nat × Nat × Option Nat) := (157, 17, some 166) :: icR8
def icZ9 : List Nat := 166 :: icZ8
theorem ic_10 {Q : Option Value → List aSh → aFI → aFL → aFR → Prop} {B : aFI} {L : aFL} {R : aFR} (k : gWp 150 129 247 [.ref 157] [] (S0.take 167) (ig B icP8 icZ9) L (rgm R icR9) Q) : gWp 150 129 203 [.ref 157] [] (S0.take 166) (ig B icP7 icZ8) L (rgm R icR8) Q := by
  refine g_al (show aCod 129 203 = some (.aload 0, 204) by decide +kernel) rfl ?_
  refine g_pu (show aCod 129 204 = some (.sipush 7, 206) by decide +kernel) ?_
  refine g_nc (p := 166) (m := 7) (S2 := (S0.take 167)) (show aCod 129 206 = some (.newarray .char, 208) by decide +kernel) rfl (by decide +kernel) (by decide) (by decide) (by decide +kernel) ?_
  rw [ig_row (by decide +kernel)]
  refine g_du (show aCod 129 208 = some (.dup, 209) by decide +kernel) rfl ?_
  refine g_pu (show aCod 129 209 = some (.sipush 0, 210) by decide +kernel) ?_
  refine g_pu (show aCod 129 210 = some (.sipush 118, 212) by decide +kernel) ?_
  refine g_cs (k2 := 0) (x2 := iI 118) (show aCod 129 212 = some (.castore, 213) by decide +kernel) rfl (by decide) (by decide) (by decide) ?_
  rw [ig_up]
  refine g_du (show aCod 129 213 = some (.dup, 214) by decide +kernel) rfl ?_
  refine g_pu (show aCod 129 214 = some (.sipush 1, 215) by decide +kernel) ?_
  refine g_pu (show aCod 129 215 = some (.sipush 105, 217) by decide +kernel) ?_
  refine g_cs (k2 := 1) (x2 := iI 105) (show aCod 129 217 = some (.castore, 218) by decide +kernel) rfl (by decide) (by decide) (by decide) ?_
  rw [ig_up]
  refine g_du (show aCod 129 218 = some (.dup, 219) by decide +kernel) rfl ?_
  refine g_pu (show aCod 129 219 = some (.sipush 2, 220) by decide +kernel) ?_
  refine g_pu (show aCod 129 220 = some (.sipush 108, 222) by decide +kernel) ?_
  refine g_cs (k2 := 2) (x2 := iI 108) (show aCod 129 222 = some (.castore, 223) by decide +kernel) rfl (by decide) (by decide) (by decide) ?_
  rw [ig_up]
  refine g_du (show aCod 129 223 = some (.dup, 224) by decide +kernel) rfl ?_
  refine g_pu (show aCod 129 224 = some (.sipush 3, 225) by decide +kernel) ?_
  refine g_pu (show aCod 129 225 = some (.sipush 108, 227) by decide +kernel) ?_
  refine g_cs (k2 := 3) (x2 := iI 108) (show aCod 129 227 = some (.castore, 228) by decide +kernel) rfl (by decide) (by decide) (by decide) ?_
  rw [ig_up]
  refine g_du (show aCod 129 228 = some (.dup, 229) by decide +kernel) rfl ?_
  refine g_pu (show aCod 129 229 = some (.sipush 4, 230) by decide +kernel) ?_
  refine g_pu (show aCod 129 230 = some (.sipush 97, 232) by decide +kernel) ?_
  refine g_cs (k2 := 4) (x2 := iI 97) (show aCod 129 232 = some (.castore, 233) by decide +kernel) rfl (by decide) (by decide) (by decide) ?_
  rw [ig_up]
  refine g_du (show aCod 129 233 = some (.dup, 234) by decide +kernel) rfl ?_
  refine g_pu (show aCod 129 234 = some (.sipush 5, 235) by decide +kernel) ?_
  refine g_pu (show aCod 129 235 = some (.sipush 103, 237) by decide +kernel) ?_
  refine g_cs (k2 := 5) (x2 := iI 103) (show aCod 129 237 = some (.castore, 238) by decide +kernel) rfl (by decide) (by decide) (by decide) ?_
  rw [ig_up]
  refine g_du (show aCod 129 238 = some (.dup, 239) by decide +kernel) rfl ?_
  refine g_pu (show aCod 129 239 = some (.sipush 6, 241) by decide +kernel) ?_
  refine g_pu (show aCod 129 241 = some (.sipush 101, 243) by decide +kernel) ?_
  refine g_cs (k2 := 6) (x2 := iI 101) (show aCod 129 243 = some (.castore, 244) by decide +kernel) rfl (by decide) (by decide) (by decide) ?_
  rw [ig_up]
  refine g_pr (show aCod 129 244 = some (.putfield 2321, 247) by decide +kernel) ⟨rfl, by decide, rfl⟩ ?_
  rw [rgm_up]
  exact k
def icP9 : List (Nat × Nat × Int32) := (167, 4, iI (115)) :: (167, 3, iI (101)) :: (167, 2, iI (108)) :: (167, 1, iI (105)) :: (167, 0, iI (109)) :: icP8
def icR10 : List (Nat × Nat × Option Nat) := (157, 18, some 167) :: icR9
def icZ10 : List Nat := 167 :: icZ9
theorem ic_11 {Q : Option Value → List aSh → aFI → aFL → aFR → Prop} {B : aFI} {L : aFL} {R : aFR} (k : gWp 150 129 279 [.ref 157] [] (S0.take 168) (ig B icP9 icZ10) L (rgm R icR10) Q) : gWp 150 129 247 [.ref 157] [] (S0.take 167) (ig B icP8 icZ9) L (rgm R icR9) Q := by
  refine g_al (show aCod 129 247 = some (.aload 0, 248) by decide +kernel) rfl ?_
  refine g_pu (show aCod 129 248 = some (.sipush 5, 249) by decide +kernel) ?_
  refine g_nc (p := 167) (m := 5) (S2 := (S0.take 168)) (show aCod 129 249 = some (.newarray .char, 251) by decide +kernel) rfl (by decide +kernel) (by decide) (by decide) (by decide +kernel) ?_
  rw [ig_row (by decide +kernel)]
  refine g_du (show aCod 129 251 = some (.dup, 252) by decide +kernel) rfl ?_
  refine g_pu (show aCod 129 252 = some (.sipush 0, 253) by decide +kernel) ?_
  refine g_pu (show aCod 129 253 = some (.sipush 109, 255) by decide +kernel) ?_
  refine g_cs (k2 := 0) (x2 := iI 109) (show aCod 129 255 = some (.castore, 256) by decide +kernel) rfl (by decide) (by decide) (by decide) ?_
  rw [ig_up]
  refine g_du (show aCod 129 256 = some (.dup, 257) by decide +kernel) rfl ?_
  refine g_pu (show aCod 129 257 = some (.sipush 1, 258) by decide +kernel) ?_
  refine g_pu (show aCod 129 258 = some (.sipush 105, 260) by decide +kernel) ?_
  refine g_cs (k2 := 1) (x2 := iI 105) (show aCod 129 260 = some (.castore, 261) by decide +kernel) rfl (by decide) (by decide) (by decide) ?_
  rw [ig_up]
  refine g_du (show aCod 129 261 = some (.dup, 262) by decide +kernel) rfl ?_
  refine g_pu (show aCod 129 262 = some (.sipush 2, 263) by decide +kernel) ?_
  refine g_pu (show aCod 129 263 = some (.sipush 108, 265) by decide +kernel) ?_
  refine g_cs (k2 := 2) (x2 := iI 108) (show aCod 129 265 = some (.castore, 266) by decide +kernel) rfl (by decide) (by decide) (by decide) ?_
  rw [ig_up]
  refine g_du (show aCod 129 266 = some (.dup, 267) by decide +kernel) rfl ?_
  refine g_pu (show aCod 129 267 = some (.sipush 3, 268) by decide +kernel) ?_
  refine g_pu (show aCod 129 268 = some (.sipush 101, 270) by decide +kernel) ?_
  refine g_cs (k2 := 3) (x2 := iI 101) (show aCod 129 270 = some (.castore, 271) by decide +kernel) rfl (by decide) (by decide) (by decide) ?_
  rw [ig_up]
  refine g_du (show aCod 129 271 = some (.dup, 272) by decide +kernel) rfl ?_
  refine g_pu (show aCod 129 272 = some (.sipush 4, 273) by decide +kernel) ?_
  refine g_pu (show aCod 129 273 = some (.sipush 115, 275) by decide +kernel) ?_
  refine g_cs (k2 := 4) (x2 := iI 115) (show aCod 129 275 = some (.castore, 276) by decide +kernel) rfl (by decide) (by decide) (by decide) ?_
  rw [ig_up]
  refine g_pr (show aCod 129 276 = some (.putfield 2322, 279) by decide +kernel) ⟨rfl, by decide, rfl⟩ ?_
  rw [rgm_up]
  exact k
def icP10 : List (Nat × Nat × Int32) := (168, 3, iI (100)) :: (168, 2, iI (101)) :: (168, 1, iI (101)) :: (168, 0, iI (100)) :: icP9
def icR11 : List (Nat × Nat × Option Nat) := (157, 19, some 168) :: icR10
def icZ11 : List Nat := 168 :: icZ10
theorem ic_12 {Q : Option Value → List aSh → aFI → aFL → aFR → Prop} {B : aFI} {L : aFL} {R : aFR} (k : gWp 150 129 306 [.ref 157] [] (S0.take 169) (ig B icP10 icZ11) L (rgm R icR11) Q) : gWp 150 129 279 [.ref 157] [] (S0.take 168) (ig B icP9 icZ10) L (rgm R icR10) Q := by
  refine g_al (show aCod 129 279 = some (.aload 0, 280) by decide +kernel) rfl ?_
  refine g_pu (show aCod 129 280 = some (.sipush 4, 281) by decide +kernel) ?_
  refine g_nc (p := 168) (m := 4) (S2 := (S0.take 169)) (show aCod 129 281 = some (.newarray .char, 283) by decide +kernel) rfl (by decide +kernel) (by decide) (by decide) (by decide +kernel) ?_
  rw [ig_row (by decide +kernel)]
  refine g_du (show aCod 129 283 = some (.dup, 284) by decide +kernel) rfl ?_
  refine g_pu (show aCod 129 284 = some (.sipush 0, 285) by decide +kernel) ?_
  refine g_pu (show aCod 129 285 = some (.sipush 100, 287) by decide +kernel) ?_
  refine g_cs (k2 := 0) (x2 := iI 100) (show aCod 129 287 = some (.castore, 288) by decide +kernel) rfl (by decide) (by decide) (by decide) ?_
  rw [ig_up]
  refine g_du (show aCod 129 288 = some (.dup, 289) by decide +kernel) rfl ?_
  refine g_pu (show aCod 129 289 = some (.sipush 1, 290) by decide +kernel) ?_
  refine g_pu (show aCod 129 290 = some (.sipush 101, 292) by decide +kernel) ?_
  refine g_cs (k2 := 1) (x2 := iI 101) (show aCod 129 292 = some (.castore, 293) by decide +kernel) rfl (by decide) (by decide) (by decide) ?_
  rw [ig_up]
  refine g_du (show aCod 129 293 = some (.dup, 294) by decide +kernel) rfl ?_
  refine g_pu (show aCod 129 294 = some (.sipush 2, 295) by decide +kernel) ?_
  refine g_pu (show aCod 129 295 = some (.sipush 101, 297) by decide +kernel) ?_
  refine g_cs (k2 := 2) (x2 := iI 101) (show aCod 129 297 = some (.castore, 298) by decide +kernel) rfl (by decide) (by decide) (by decide) ?_
  rw [ig_up]
  refine g_du (show aCod 129 298 = some (.dup, 299) by decide +kernel) rfl ?_
  refine g_pu (show aCod 129 299 = some (.sipush 3, 300) by decide +kernel) ?_
  refine g_pu (show aCod 129 300 = some (.sipush 100, 302) by decide +kernel) ?_
  refine g_cs (k2 := 3) (x2 := iI 100) (show aCod 129 302 = some (.castore, 303) by decide +kernel) rfl (by decide) (by decide) (by decide) ?_
  rw [ig_up]
  refine g_pr (show aCod 129 303 = some (.putfield 2323, 306) by decide +kernel) ⟨rfl, by decide, rfl⟩ ?_
  rw [rgm_up]
  exact k
def icP11 : List (Nat × Nat × Int32) := (169, 1, iI (102)) :: (169, 0, iI (111)) :: icP10
def icR12 : List (Nat × Nat × Option Nat) := (157, 20, some 169) :: icR11
def icZ12 : List Nat := 169 :: icZ11
theorem ic_13 {Q : Option Value → List aSh → aFI → aFL → aFR → Prop} {B : aFI} {L : aFL} {R : aFR} (k : gWp 150 129 323 [.ref 157] [] (S0.take 170) (ig B icP11 icZ12) L (rgm R icR12) Q) : gWp 150 129 306 [.ref 157] [] (S0.take 169) (ig B icP10 icZ11) L (rgm R icR11) Q := by
  refine g_al (show aCod 129 306 = some (.aload 0, 307) by decide +kernel) rfl ?_
  refine g_pu (show aCod 129 307 = some (.sipush 2, 308) by decide +kernel) ?_
  refine g_nc (p := 169) (m := 2) (S2 := (S0.take 170)) (show aCod 129 308 = some (.newarray .char, 310) by decide +kernel) rfl (by decide +kernel) (by decide) (by decide) (by decide +kernel) ?_
  rw [ig_row (by decide +kernel)]
  refine g_du (show aCod 129 310 = some (.dup, 311) by decide +kernel) rfl ?_
  refine g_pu (show aCod 129 311 = some (.sipush 0, 312) by decide +kernel) ?_
  refine g_pu (show aCod 129 312 = some (.sipush 111, 314) by decide +kernel) ?_
  refine g_cs (k2 := 0) (x2 := iI 111) (show aCod 129 314 = some (.castore, 315) by decide +kernel) rfl (by decide) (by decide) (by decide) ?_
  rw [ig_up]
  refine g_du (show aCod 129 315 = some (.dup, 316) by decide +kernel) rfl ?_
  refine g_pu (show aCod 129 316 = some (.sipush 1, 317) by decide +kernel) ?_
  refine g_pu (show aCod 129 317 = some (.sipush 102, 319) by decide +kernel) ?_
  refine g_cs (k2 := 1) (x2 := iI 102) (show aCod 129 319 = some (.castore, 320) by decide +kernel) rfl (by decide) (by decide) (by decide) ?_
  rw [ig_up]
  refine g_pr (show aCod 129 320 = some (.putfield 2324, 323) by decide +kernel) ⟨rfl, by decide, rfl⟩ ?_
  rw [rgm_up]
  exact k
def icP12 : List (Nat × Nat × Int32) := (170, 4, iI (115)) :: (170, 3, iI (100)) :: (170, 2, iI (101)) :: (170, 1, iI (101)) :: (170, 0, iI (110)) :: icP11
def icR13 : List (Nat × Nat × Option Nat) := (157, 21, some 170) :: icR12
def icZ13 : List Nat := 170 :: icZ12
theorem ic_14 {Q : Option Value → List aSh → aFI → aFL → aFR → Prop} {B : aFI} {L : aFL} {R : aFR} (k : gWp 150 129 355 [.ref 157] [] (S0.take 171) (ig B icP12 icZ13) L (rgm R icR13) Q) : gWp 150 129 323 [.ref 157] [] (S0.take 170) (ig B icP11 icZ12) L (rgm R icR12) Q := by
  refine g_al (show aCod 129 323 = some (.aload 0, 324) by decide +kernel) rfl ?_
  refine g_pu (show aCod 129 324 = some (.sipush 5, 325) by decide +kernel) ?_
  refine g_nc (p := 170) (m := 5) (S2 := (S0.take 171)) (show aCod 129 325 = some (.newarray .char, 327) by decide +kernel) rfl (by decide +kernel) (by decide) (by decide) (by decide +kernel) ?_
  rw [ig_row (by decide +kernel)]
  refine g_du (show aCod 129 327 = some (.dup, 328) by decide +kernel) rfl ?_
  refine g_pu (show aCod 129 328 = some (.sipush 0, 329) by decide +kernel) ?_
  refine g_pu (show aCod 129 329 = some (.sipush 110, 331) by decide +kernel) ?_
  refine g_cs (k2 := 0) (x2 := iI 110) (show aCod 129 331 = some (.castore, 332) by decide +kernel) rfl (by decide) (by decide) (by decide) ?_
  rw [ig_up]
  refine g_du (show aCod 129 332 = some (.dup, 333) by decide +kernel) rfl ?_
  refine g_pu (show aCod 129 333 = some (.sipush 1, 334) by decide +kernel) ?_
  refine g_pu (show aCod 129 334 = some (.sipush 101, 336) by decide +kernel) ?_
  refine g_cs (k2 := 1) (x2 := iI 101) (show aCod 129 336 = some (.castore, 337) by decide +kernel) rfl (by decide) (by decide) (by decide) ?_
  rw [ig_up]
  refine g_du (show aCod 129 337 = some (.dup, 338) by decide +kernel) rfl ?_
  refine g_pu (show aCod 129 338 = some (.sipush 2, 339) by decide +kernel) ?_
  refine g_pu (show aCod 129 339 = some (.sipush 101, 341) by decide +kernel) ?_
  refine g_cs (k2 := 2) (x2 := iI 101) (show aCod 129 341 = some (.castore, 342) by decide +kernel) rfl (by decide) (by decide) (by decide) ?_
  rw [ig_up]
  refine g_du (show aCod 129 342 = some (.dup, 343) by decide +kernel) rfl ?_
  refine g_pu (show aCod 129 343 = some (.sipush 3, 344) by decide +kernel) ?_
  refine g_pu (show aCod 129 344 = some (.sipush 100, 346) by decide +kernel) ?_
  refine g_cs (k2 := 3) (x2 := iI 100) (show aCod 129 346 = some (.castore, 347) by decide +kernel) rfl (by decide) (by decide) (by decide) ?_
  rw [ig_up]
  refine g_du (show aCod 129 347 = some (.dup, 348) by decide +kernel) rfl ?_
  refine g_pu (show aCod 129 348 = some (.sipush 4, 349) by decide +kernel) ?_
  refine g_pu (show aCod 129 349 = some (.sipush 115, 351) by decide +kernel) ?_
  refine g_cs (k2 := 4) (x2 := iI 115) (show aCod 129 351 = some (.castore, 352) by decide +kernel) rfl (by decide) (by decide) (by decide) ?_
  rw [ig_up]
  refine g_pr (show aCod 129 352 = some (.putfield 2325, 355) by decide +kernel) ⟨rfl, by decide, rfl⟩ ?_
  rw [rgm_up]
  exact k
def icP13 : List (Nat × Nat × Int32) := (171, 4, iI (104)) :: (171, 3, iI (116)) :: (171, 2, iI (114)) :: (171, 1, iI (111)) :: (171, 0, iI (119)) :: icP12
def icR14 : List (Nat × Nat × Option Nat) := (157, 22, some 171) :: icR13
def icZ14 : List Nat := 171 :: icZ13
theorem ic_15 {Q : Option Value → List aSh → aFI → aFL → aFR → Prop} {B : aFI} {L : aFL} {R : aFR} (k : gWp 150 129 387 [.ref 157] [] (S0.take 172) (ig B icP13 icZ14) L (rgm R icR14) Q) : gWp 150 129 355 [.ref 157] [] (S0.take 171) (ig B icP12 icZ13) L (rgm R icR13) Q := by
  refine g_al (show aCod 129 355 = some (.aload 0, 356) by decide +kernel) rfl ?_
  refine g_pu (show aCod 129 356 = some (.sipush 5, 357) by decide +kernel) ?_
  refine g_nc (p := 171) (m := 5) (S2 := (S0.take 172)) (show aCod 129 357 = some (.newarray .char, 359) by decide +kernel) rfl (by decide +kernel) (by decide) (by decide) (by decide +kernel) ?_
  rw [ig_row (by decide +kernel)]
  refine g_du (show aCod 129 359 = some (.dup, 360) by decide +kernel) rfl ?_
  refine g_pu (show aCod 129 360 = some (.sipush 0, 361) by decide +kernel) ?_
  refine g_pu (show aCod 129 361 = some (.sipush 119, 363) by decide +kernel) ?_
  refine g_cs (k2 := 0) (x2 := iI 119) (show aCod 129 363 = some (.castore, 364) by decide +kernel) rfl (by decide) (by decide) (by decide) ?_
  rw [ig_up]
  refine g_du (show aCod 129 364 = some (.dup, 365) by decide +kernel) rfl ?_
  refine g_pu (show aCod 129 365 = some (.sipush 1, 366) by decide +kernel) ?_
  refine g_pu (show aCod 129 366 = some (.sipush 111, 368) by decide +kernel) ?_
  refine g_cs (k2 := 1) (x2 := iI 111) (show aCod 129 368 = some (.castore, 369) by decide +kernel) rfl (by decide) (by decide) (by decide) ?_
  rw [ig_up]
  refine g_du (show aCod 129 369 = some (.dup, 370) by decide +kernel) rfl ?_
  refine g_pu (show aCod 129 370 = some (.sipush 2, 371) by decide +kernel) ?_
  refine g_pu (show aCod 129 371 = some (.sipush 114, 373) by decide +kernel) ?_
  refine g_cs (k2 := 2) (x2 := iI 114) (show aCod 129 373 = some (.castore, 374) by decide +kernel) rfl (by decide) (by decide) (by decide) ?_
  rw [ig_up]
  refine g_du (show aCod 129 374 = some (.dup, 375) by decide +kernel) rfl ?_
  refine g_pu (show aCod 129 375 = some (.sipush 3, 376) by decide +kernel) ?_
  refine g_pu (show aCod 129 376 = some (.sipush 116, 378) by decide +kernel) ?_
  refine g_cs (k2 := 3) (x2 := iI 116) (show aCod 129 378 = some (.castore, 379) by decide +kernel) rfl (by decide) (by decide) (by decide) ?_
  rw [ig_up]
  refine g_du (show aCod 129 379 = some (.dup, 380) by decide +kernel) rfl ?_
  refine g_pu (show aCod 129 380 = some (.sipush 4, 381) by decide +kernel) ?_
  refine g_pu (show aCod 129 381 = some (.sipush 104, 383) by decide +kernel) ?_
  refine g_cs (k2 := 4) (x2 := iI 104) (show aCod 129 383 = some (.castore, 384) by decide +kernel) rfl (by decide) (by decide) (by decide) ?_
  rw [ig_up]
  refine g_pr (show aCod 129 384 = some (.putfield 2326, 387) by decide +kernel) ⟨rfl, by decide, rfl⟩ ?_
  rw [rgm_up]
  exact k
def icP14 : List (Nat × Nat × Int32) := (172, 1, iI (121)) :: (172, 0, iI (98)) :: icP13
def icR15 : List (Nat × Nat × Option Nat) := (157, 23, some 172) :: icR14
def icZ15 : List Nat := 172 :: icZ14
theorem ic_16 {Q : Option Value → List aSh → aFI → aFL → aFR → Prop} {B : aFI} {L : aFL} {R : aFR} (k : gWp 150 129 404 [.ref 157] [] (S0.take 173) (ig B icP14 icZ15) L (rgm R icR15) Q) : gWp 150 129 387 [.ref 157] [] (S0.take 172) (ig B icP13 icZ14) L (rgm R icR14) Q := by
  refine g_al (show aCod 129 387 = some (.aload 0, 388) by decide +kernel) rfl ?_
  refine g_pu (show aCod 129 388 = some (.sipush 2, 389) by decide +kernel) ?_
  refine g_nc (p := 172) (m := 2) (S2 := (S0.take 173)) (show aCod 129 389 = some (.newarray .char, 391) by decide +kernel) rfl (by decide +kernel) (by decide) (by decide) (by decide +kernel) ?_
  rw [ig_row (by decide +kernel)]
  refine g_du (show aCod 129 391 = some (.dup, 392) by decide +kernel) rfl ?_
  refine g_pu (show aCod 129 392 = some (.sipush 0, 393) by decide +kernel) ?_
  refine g_pu (show aCod 129 393 = some (.sipush 98, 395) by decide +kernel) ?_
  refine g_cs (k2 := 0) (x2 := iI 98) (show aCod 129 395 = some (.castore, 396) by decide +kernel) rfl (by decide) (by decide) (by decide) ?_
  rw [ig_up]
  refine g_du (show aCod 129 396 = some (.dup, 397) by decide +kernel) rfl ?_
  refine g_pu (show aCod 129 397 = some (.sipush 1, 398) by decide +kernel) ?_
  refine g_pu (show aCod 129 398 = some (.sipush 121, 400) by decide +kernel) ?_
  refine g_cs (k2 := 1) (x2 := iI 121) (show aCod 129 400 = some (.castore, 401) by decide +kernel) rfl (by decide) (by decide) (by decide) ?_
  rw [ig_up]
  refine g_pr (show aCod 129 401 = some (.putfield 2327, 404) by decide +kernel) ⟨rfl, by decide, rfl⟩ ?_
  rw [rgm_up]
  exact k
def icP15 : List (Nat × Nat × Int32) := (173, 4, iI (115)) :: (173, 3, iI (119)) :: (173, 2, iI (97)) :: (173, 1, iI (114)) :: (173, 0, iI (100)) :: icP14
def icR16 : List (Nat × Nat × Option Nat) := (157, 24, some 173) :: icR15
def icZ16 : List Nat := 173 :: icZ15
theorem ic_17 {Q : Option Value → List aSh → aFI → aFL → aFR → Prop} {B : aFI} {L : aFL} {R : aFR} (k : gWp 150 129 436 [.ref 157] [] (S0.take 174) (ig B icP15 icZ16) L (rgm R icR16) Q) : gWp 150 129 404 [.ref 157] [] (S0.take 173) (ig B icP14 icZ15) L (rgm R icR15) Q := by
  refine g_al (show aCod 129 404 = some (.aload 0, 405) by decide +kernel) rfl ?_
  refine g_pu (show aCod 129 405 = some (.sipush 5, 406) by decide +kernel) ?_
  refine g_nc (p := 173) (m := 5) (S2 := (S0.take 174)) (show aCod 129 406 = some (.newarray .char, 408) by decide +kernel) rfl (by decide +kernel) (by decide) (by decide) (by decide +kernel) ?_
  rw [ig_row (by decide +kernel)]
  refine g_du (show aCod 129 408 = some (.dup, 409) by decide +kernel) rfl ?_
  refine g_pu (show aCod 129 409 = some (.sipush 0, 410) by decide +kernel) ?_
  refine g_pu (show aCod 129 410 = some (.sipush 100, 412) by decide +kernel) ?_
  refine g_cs (k2 := 0) (x2 := iI 100) (show aCod 129 412 = some (.castore, 413) by decide +kernel) rfl (by decide) (by decide) (by decide) ?_
  rw [ig_up]
  refine g_du (show aCod 129 413 = some (.dup, 414) by decide +kernel) rfl ?_
  refine g_pu (show aCod 129 414 = some (.sipush 1, 415) by decide +kernel) ?_
  refine g_pu (show aCod 129 415 = some (.sipush 114, 417) by decide +kernel) ?_
  refine g_cs (k2 := 1) (x2 := iI 114) (show aCod 129 417 = some (.castore, 418) by decide +kernel) rfl (by decide) (by decide) (by decide) ?_
  rw [ig_up]
  refine g_du (show aCod 129 418 = some (.dup, 419) by decide +kernel) rfl ?_
  refine g_pu (show aCod 129 419 = some (.sipush 2, 420) by decide +kernel) ?_
  refine g_pu (show aCod 129 420 = some (.sipush 97, 422) by decide +kernel) ?_
  refine g_cs (k2 := 2) (x2 := iI 97) (show aCod 129 422 = some (.castore, 423) by decide +kernel) rfl (by decide) (by decide) (by decide) ?_
  rw [ig_up]
  refine g_du (show aCod 129 423 = some (.dup, 424) by decide +kernel) rfl ?_
  refine g_pu (show aCod 129 424 = some (.sipush 3, 425) by decide +kernel) ?_
  refine g_pu (show aCod 129 425 = some (.sipush 119, 427) by decide +kernel) ?_
  refine g_cs (k2 := 3) (x2 := iI 119) (show aCod 129 427 = some (.castore, 428) by decide +kernel) rfl (by decide) (by decide) (by decide) ?_
  rw [ig_up]
  refine g_du (show aCod 129 428 = some (.dup, 429) by decide +kernel) rfl ?_
  refine g_pu (show aCod 129 429 = some (.sipush 4, 430) by decide +kernel) ?_
  refine g_pu (show aCod 129 430 = some (.sipush 115, 432) by decide +kernel) ?_
  refine g_cs (k2 := 4) (x2 := iI 115) (show aCod 129 432 = some (.castore, 433) by decide +kernel) rfl (by decide) (by decide) (by decide) ?_
  rw [ig_up]
  refine g_pr (show aCod 129 433 = some (.putfield 2328, 436) by decide +kernel) ⟨rfl, by decide, rfl⟩ ?_
  rw [rgm_up]
  exact k
def icP16 : List (Nat × Nat × Int32) := (174, 4, iI (115)) :: (174, 3, iI (101)) :: (174, 2, iI (100)) :: (174, 1, iI (97)) :: (174, 0, iI (102)) :: icP15
def icR17 : List (Nat × Nat × Option Nat) := (157, 25, some 174) :: icR16
def icZ17 : List Nat := 174 :: icZ16
theorem ic_18 {Q : Option Value → List aSh → aFI → aFL → aFR → Prop} {B : aFI} {L : aFL} {R : aFR} (k : gWp 150 129 468 [.ref 157] [] (S0.take 175) (ig B icP16 icZ17) L (rgm R icR17) Q) : gWp 150 129 436 [.ref 157] [] (S0.take 174) (ig B icP15 icZ16) L (rgm R icR16) Q := by
  refine g_al (show aCod 129 436 = some (.aload 0, 437) by decide +kernel) rfl ?_
  refine g_pu (show aCod 129 437 = some (.sipush 5, 438) by decide +kernel) ?_
  refine g_nc (p := 174) (m := 5) (S2 := (S0.take 175)) (show aCod 129 438 = some (.newarray .char, 440) by decide +kernel) rfl (by decide +kernel) (by decide) (by decide) (by decide +kernel) ?_
  rw [ig_row (by decide +kernel)]
  refine g_du (show aCod 129 440 = some (.dup, 441) by decide +kernel) rfl ?_
  refine g_pu (show aCod 129 441 = some (.sipush 0, 442) by decide +kernel) ?_
  refine g_pu (show aCod 129 442 = some (.sipush 102, 444) by decide +kernel) ?_
  refine g_cs (k2 := 0) (x2 := iI 102) (show aCod 129 444 = some (.castore, 445) by decide +kernel) rfl (by decide) (by decide) (by decide) ?_
  rw [ig_up]
  refine g_du (show aCod 129 445 = some (.dup, 446) by decide +kernel) rfl ?_
  refine g_pu (show aCod 129 446 = some (.sipush 1, 447) by decide +kernel) ?_
  refine g_pu (show aCod 129 447 = some (.sipush 97, 449) by decide +kernel) ?_
  refine g_cs (k2 := 1) (x2 := iI 97) (show aCod 129 449 = some (.castore, 450) by decide +kernel) rfl (by decide) (by decide) (by decide) ?_
  rw [ig_up]
  refine g_du (show aCod 129 450 = some (.dup, 451) by decide +kernel) rfl ?_
  refine g_pu (show aCod 129 451 = some (.sipush 2, 452) by decide +kernel) ?_
  refine g_pu (show aCod 129 452 = some (.sipush 100, 454) by decide +kernel) ?_
  refine g_cs (k2 := 2) (x2 := iI 100) (show aCod 129 454 = some (.castore, 455) by decide +kernel) rfl (by decide) (by decide) (by decide) ?_
  rw [ig_up]
  refine g_du (show aCod 129 455 = some (.dup, 456) by decide +kernel) rfl ?_
  refine g_pu (show aCod 129 456 = some (.sipush 3, 457) by decide +kernel) ?_
  refine g_pu (show aCod 129 457 = some (.sipush 101, 459) by decide +kernel) ?_
  refine g_cs (k2 := 3) (x2 := iI 101) (show aCod 129 459 = some (.castore, 460) by decide +kernel) rfl (by decide) (by decide) (by decide) ?_
  rw [ig_up]
  refine g_du (show aCod 129 460 = some (.dup, 461) by decide +kernel) rfl ?_
  refine g_pu (show aCod 129 461 = some (.sipush 4, 462) by decide +kernel) ?_
  refine g_pu (show aCod 129 462 = some (.sipush 115, 464) by decide +kernel) ?_
  refine g_cs (k2 := 4) (x2 := iI 115) (show aCod 129 464 = some (.castore, 465) by decide +kernel) rfl (by decide) (by decide) (by decide) ?_
  rw [ig_up]
  refine g_pr (show aCod 129 465 = some (.putfield 2329, 468) by decide +kernel) ⟨rfl, by decide, rfl⟩ ?_
  rw [rgm_up]
  exact k
def icP17 : List (Nat × Nat × Int32) := (175, 2, iI (121)) :: (175, 1, iI (97)) :: (175, 0, iI (109)) :: icP16
def icR18 : List (Nat × Nat × Option Nat) := (157, 26, some 175) :: icR17
def icZ18 : List Nat := 175 :: icZ17
theorem ic_19 {Q : Option Value → List aSh → aFI → aFL → aFR → Prop} {B : aFI} {L : aFL} {R : aFR} (k : gWp 150 129 490 [.ref 157] [] (S0.take 176) (ig B icP17 icZ18) L (rgm R icR18) Q) : gWp 150 129 468 [.ref 157] [] (S0.take 175) (ig B icP16 icZ17) L (rgm R icR17) Q := by
  refine g_al (show aCod 129 468 = some (.aload 0, 469) by decide +kernel) rfl ?_
  refine g_pu (show aCod 129 469 = some (.sipush 3, 470) by decide +kernel) ?_
  refine g_nc (p := 175) (m := 3) (S2 := (S0.take 176)) (show aCod 129 470 = some (.newarray .char, 472) by decide +kernel) rfl (by decide +kernel) (by decide) (by decide) (by decide +kernel) ?_
  rw [ig_row (by decide +kernel)]
  refine g_du (show aCod 129 472 = some (.dup, 473) by decide +kernel) rfl ?_
  refine g_pu (show aCod 129 473 = some (.sipush 0, 474) by decide +kernel) ?_
  refine g_pu (show aCod 129 474 = some (.sipush 109, 476) by decide +kernel) ?_
  refine g_cs (k2 := 0) (x2 := iI 109) (show aCod 129 476 = some (.castore, 477) by decide +kernel) rfl (by decide) (by decide) (by decide) ?_
  rw [ig_up]
  refine g_du (show aCod 129 477 = some (.dup, 478) by decide +kernel) rfl ?_
  refine g_pu (show aCod 129 478 = some (.sipush 1, 479) by decide +kernel) ?_
  refine g_pu (show aCod 129 479 = some (.sipush 97, 481) by decide +kernel) ?_
  refine g_cs (k2 := 1) (x2 := iI 97) (show aCod 129 481 = some (.castore, 482) by decide +kernel) rfl (by decide) (by decide) (by decide) ?_
  rw [ig_up]
  refine g_du (show aCod 129 482 = some (.dup, 483) by decide +kernel) rfl ?_
  refine g_pu (show aCod 129 483 = some (.sipush 2, 484) by decide +kernel) ?_
  refine g_pu (show aCod 129 484 = some (.sipush 121, 486) by decide +kernel) ?_
  refine g_cs (k2 := 2) (x2 := iI 121) (show aCod 129 486 = some (.castore, 487) by decide +kernel) rfl (by decide) (by decide) (by decide) ?_
  rw [ig_up]
  refine g_pr (show aCod 129 487 = some (.putfield 2330, 490) by decide +kernel) ⟨rfl, by decide, rfl⟩ ?_
  rw [rgm_up]
  exact k
def icP18 : List (Nat × Nat × Int32) := (176, 4, iI (115)) :: (176, 3, iI (101)) :: (176, 2, iI (105)) :: (176, 1, iI (114)) :: (176, 0, iI (100)) :: icP17
def icR19 : List (Nat × Nat × Option Nat) := (157, 27, some 176) :: icR18
def icZ19 : List Nat := 176 :: icZ18
theorem ic_20 {Q : Option Value → List aSh → aFI → aFL → aFR → Prop} {B : aFI} {L : aFL} {R : aFR} (k : gWp 150 129 522 [.ref 157] [] (S0.take 177) (ig B icP18 icZ19) L (rgm R icR19) Q) : gWp 150 129 490 [.ref 157] [] (S0.take 176) (ig B icP17 icZ18) L (rgm R icR18) Q := by
  refine g_al (show aCod 129 490 = some (.aload 0, 491) by decide +kernel) rfl ?_
  refine g_pu (show aCod 129 491 = some (.sipush 5, 492) by decide +kernel) ?_
  refine g_nc (p := 176) (m := 5) (S2 := (S0.take 177)) (show aCod 129 492 = some (.newarray .char, 494) by decide +kernel) rfl (by decide +kernel) (by decide) (by decide) (by decide +kernel) ?_
  rw [ig_row (by decide +kernel)]
  refine g_du (show aCod 129 494 = some (.dup, 495) by decide +kernel) rfl ?_
  refine g_pu (show aCod 129 495 = some (.sipush 0, 496) by decide +kernel) ?_
  refine g_pu (show aCod 129 496 = some (.sipush 100, 498) by decide +kernel) ?_
  refine g_cs (k2 := 0) (x2 := iI 100) (show aCod 129 498 = some (.castore, 499) by decide +kernel) rfl (by decide) (by decide) (by decide) ?_
  rw [ig_up]
  refine g_du (show aCod 129 499 = some (.dup, 500) by decide +kernel) rfl ?_
  refine g_pu (show aCod 129 500 = some (.sipush 1, 501) by decide +kernel) ?_
  refine g_pu (show aCod 129 501 = some (.sipush 114, 503) by decide +kernel) ?_
  refine g_cs (k2 := 1) (x2 := iI 114) (show aCod 129 503 = some (.castore, 504) by decide +kernel) rfl (by decide) (by decide) (by decide) ?_
  rw [ig_up]
  refine g_du (show aCod 129 504 = some (.dup, 505) by decide +kernel) rfl ?_
  refine g_pu (show aCod 129 505 = some (.sipush 2, 506) by decide +kernel) ?_
  refine g_pu (show aCod 129 506 = some (.sipush 105, 508) by decide +kernel) ?_
  refine g_cs (k2 := 2) (x2 := iI 105) (show aCod 129 508 = some (.castore, 509) by decide +kernel) rfl (by decide) (by decide) (by decide) ?_
  rw [ig_up]
  refine g_du (show aCod 129 509 = some (.dup, 510) by decide +kernel) rfl ?_
  refine g_pu (show aCod 129 510 = some (.sipush 3, 511) by decide +kernel) ?_
  refine g_pu (show aCod 129 511 = some (.sipush 101, 513) by decide +kernel) ?_
  refine g_cs (k2 := 3) (x2 := iI 101) (show aCod 129 513 = some (.castore, 514) by decide +kernel) rfl (by decide) (by decide) (by decide) ?_
  rw [ig_up]
  refine g_du (show aCod 129 514 = some (.dup, 515) by decide +kernel) rfl ?_
  refine g_pu (show aCod 129 515 = some (.sipush 4, 516) by decide +kernel) ?_
  refine g_pu (show aCod 129 516 = some (.sipush 115, 518) by decide +kernel) ?_
  refine g_cs (k2 := 4) (x2 := iI 115) (show aCod 129 518 = some (.castore, 519) by decide +kernel) rfl (by decide) (by decide) (by decide) ?_
  rw [ig_up]
  refine g_pr (show aCod 129 519 = some (.putfield 2331, 522) by decide +kernel) ⟨rfl, by decide, rfl⟩ ?_
  rw [rgm_up]
  exact k
def icP19 : List (Nat × Nat × Int32) := (177, 4, iI (115)) :: (177, 3, iI (100)) :: (177, 2, iI (97)) :: (177, 1, iI (101)) :: (177, 0, iI (114)) :: icP18
def icR20 : List (Nat × Nat × Option Nat) := (157, 28, some 177) :: icR19
def icZ20 : List Nat := 177 :: icZ19
theorem ic_21 {Q : Option Value → List aSh → aFI → aFL → aFR → Prop} {B : aFI} {L : aFL} {R : aFR} (k : gWp 150 129 554 [.ref 157] [] (S0.take 178) (ig B icP19 icZ20) L (rgm R icR20) Q) : gWp 150 129 522 [.ref 157] [] (S0.take 177) (ig B icP18 icZ19) L (rgm R icR19) Q := by
  refine g_al (show aCod 129 522 = some (.aload 0, 523) by decide +kernel) rfl ?_
  refine g_pu (show aCod 129 523 = some (.sipush 5, 524) by decide +kernel) ?_
  refine g_nc (p := 177) (m := 5) (S2 := (S0.take 178)) (show aCod 129 524 = some (.newarray .char, 526) by decide +kernel) rfl (by decide +kernel) (by decide) (by decide) (by decide +kernel) ?_
  rw [ig_row (by decide +kernel)]
  refine g_du (show aCod 129 526 = some (.dup, 527) by decide +kernel) rfl ?_
  refine g_pu (show aCod 129 527 = some (.sipush 0, 528) by decide +kernel) ?_
  refine g_pu (show aCod 129 528 = some (.sipush 114, 530) by decide +kernel) ?_
  refine g_cs (k2 := 0) (x2 := iI 114) (show aCod 129 530 = some (.castore, 531) by decide +kernel) rfl (by decide) (by decide) (by decide) ?_
  rw [ig_up]
  refine g_du (show aCod 129 531 = some (.dup, 532) by decide +kernel) rfl ?_
  refine g_pu (show aCod 129 532 = some (.sipush 1, 533) by decide +kernel) ?_
  refine g_pu (show aCod 129 533 = some (.sipush 101, 535) by decide +kernel) ?_
  refine g_cs (k2 := 1) (x2 := iI 101) (show aCod 129 535 = some (.castore, 536) by decide +kernel) rfl (by decide) (by decide) (by decide) ?_
  rw [ig_up]
  refine g_du (show aCod 129 536 = some (.dup, 537) by decide +kernel) rfl ?_
  refine g_pu (show aCod 129 537 = some (.sipush 2, 538) by decide +kernel) ?_
  refine g_pu (show aCod 129 538 = some (.sipush 97, 540) by decide +kernel) ?_
  refine g_cs (k2 := 2) (x2 := iI 97) (show aCod 129 540 = some (.castore, 541) by decide +kernel) rfl (by decide) (by decide) (by decide) ?_
  rw [ig_up]
  refine g_du (show aCod 129 541 = some (.dup, 542) by decide +kernel) rfl ?_
  refine g_pu (show aCod 129 542 = some (.sipush 3, 543) by decide +kernel) ?_
  refine g_pu (show aCod 129 543 = some (.sipush 100, 545) by decide +kernel) ?_
  refine g_cs (k2 := 3) (x2 := iI 100) (show aCod 129 545 = some (.castore, 546) by decide +kernel) rfl (by decide) (by decide) (by decide) ?_
  rw [ig_up]
  refine g_du (show aCod 129 546 = some (.dup, 547) by decide +kernel) rfl ?_
  refine g_pu (show aCod 129 547 = some (.sipush 4, 548) by decide +kernel) ?_
  refine g_pu (show aCod 129 548 = some (.sipush 115, 550) by decide +kernel) ?_
  refine g_cs (k2 := 4) (x2 := iI 115) (show aCod 129 550 = some (.castore, 551) by decide +kernel) rfl (by decide) (by decide) (by decide) ?_
  rw [ig_up]
  refine g_pr (show aCod 129 551 = some (.putfield 2332, 554) by decide +kernel) ⟨rfl, by decide, rfl⟩ ?_
  rw [rgm_up]
  exact k
def icP20 : List (Nat × Nat × Int32) := (178, 6, iI (116)) :: (178, 5, iI (104)) :: (178, 4, iI (103)) :: (178, 3, iI (117)) :: (178, 2, iI (111)) :: (178, 1, iI (114)) :: (178, 0, iI (100)) :: icP19
def icR21 : List (Nat × Nat × Option Nat) := (157, 29, some 178) :: icR20
def icZ21 : List Nat := 178 :: icZ20
theorem ic_22 {Q : Option Value → List aSh → aFI → aFL → aFR → Prop} {B : aFI} {L : aFL} {R : aFR} (k : gWp 150 129 598 [.ref 157] [] (S0.take 179) (ig B icP20 icZ21) L (rgm R icR21) Q) : gWp 150 129 554 [.ref 157] [] (S0.take 178) (ig B icP19 icZ20) L (rgm R icR20) Q := by
  refine g_al (show aCod 129 554 = some (.aload 0, 555) by decide +kernel) rfl ?_
  refine g_pu (show aCod 129 555 = some (.sipush 7, 557) by decide +kernel) ?_
  refine g_nc (p := 178) (m := 7) (S2 := (S0.take 179)) (show aCod 129 557 = some (.newarray .char, 559) by decide +kernel) rfl (by decide +kernel) (by decide) (by decide) (by decide +kernel) ?_
  rw [ig_row (by decide +kernel)]
  refine g_du (show aCod 129 559 = some (.dup, 560) by decide +kernel) rfl ?_
  refine g_pu (show aCod 129 560 = some (.sipush 0, 561) by decide +kernel) ?_
  refine g_pu (show aCod 129 561 = some (.sipush 100, 563) by decide +kernel) ?_
  refine g_cs (k2 := 0) (x2 := iI 100) (show aCod 129 563 = some (.castore, 564) by decide +kernel) rfl (by decide) (by decide) (by decide) ?_
  rw [ig_up]
  refine g_du (show aCod 129 564 = some (.dup, 565) by decide +kernel) rfl ?_
  refine g_pu (show aCod 129 565 = some (.sipush 1, 566) by decide +kernel) ?_
  refine g_pu (show aCod 129 566 = some (.sipush 114, 568) by decide +kernel) ?_
  refine g_cs (k2 := 1) (x2 := iI 114) (show aCod 129 568 = some (.castore, 569) by decide +kernel) rfl (by decide) (by decide) (by decide) ?_
  rw [ig_up]
  refine g_du (show aCod 129 569 = some (.dup, 570) by decide +kernel) rfl ?_
  refine g_pu (show aCod 129 570 = some (.sipush 2, 571) by decide +kernel) ?_
  refine g_pu (show aCod 129 571 = some (.sipush 111, 573) by decide +kernel) ?_
  refine g_cs (k2 := 2) (x2 := iI 111) (show aCod 129 573 = some (.castore, 574) by decide +kernel) rfl (by decide) (by decide) (by decide) ?_
  rw [ig_up]
  refine g_du (show aCod 129 574 = some (.dup, 575) by decide +kernel) rfl ?_
  refine g_pu (show aCod 129 575 = some (.sipush 3, 576) by decide +kernel) ?_
  refine g_pu (show aCod 129 576 = some (.sipush 117, 578) by decide +kernel) ?_
  refine g_cs (k2 := 3) (x2 := iI 117) (show aCod 129 578 = some (.castore, 579) by decide +kernel) rfl (by decide) (by decide) (by decide) ?_
  rw [ig_up]
  refine g_du (show aCod 129 579 = some (.dup, 580) by decide +kernel) rfl ?_
  refine g_pu (show aCod 129 580 = some (.sipush 4, 581) by decide +kernel) ?_
  refine g_pu (show aCod 129 581 = some (.sipush 103, 583) by decide +kernel) ?_
  refine g_cs (k2 := 4) (x2 := iI 103) (show aCod 129 583 = some (.castore, 584) by decide +kernel) rfl (by decide) (by decide) (by decide) ?_
  rw [ig_up]
  refine g_du (show aCod 129 584 = some (.dup, 585) by decide +kernel) rfl ?_
  refine g_pu (show aCod 129 585 = some (.sipush 5, 586) by decide +kernel) ?_
  refine g_pu (show aCod 129 586 = some (.sipush 104, 588) by decide +kernel) ?_
  refine g_cs (k2 := 5) (x2 := iI 104) (show aCod 129 588 = some (.castore, 589) by decide +kernel) rfl (by decide) (by decide) (by decide) ?_
  rw [ig_up]
  refine g_du (show aCod 129 589 = some (.dup, 590) by decide +kernel) rfl ?_
  refine g_pu (show aCod 129 590 = some (.sipush 6, 592) by decide +kernel) ?_
  refine g_pu (show aCod 129 592 = some (.sipush 116, 594) by decide +kernel) ?_
  refine g_cs (k2 := 6) (x2 := iI 116) (show aCod 129 594 = some (.castore, 595) by decide +kernel) rfl (by decide) (by decide) (by decide) ?_
  rw [ig_up]
  refine g_pr (show aCod 129 595 = some (.putfield 2333, 598) by decide +kernel) ⟨rfl, by decide, rfl⟩ ?_
  rw [rgm_up]
  exact k
def icP21 : List (Nat × Nat × Int32) := (179, 5, iI (110)) :: (179, 4, iI (111)) :: (179, 3, iI (115)) :: (179, 2, iI (97)) :: (179, 1, iI (101)) :: (179, 0, iI (115)) :: icP20
def icR22 : List (Nat × Nat × Option Nat) := (157, 30, some 179) :: icR21
def icZ22 : List Nat := 179 :: icZ21
theorem ic_23 {Q : Option Value → List aSh → aFI → aFL → aFR → Prop} {B : aFI} {L : aFL} {R : aFR} (k : gWp 150 129 636 [.ref 157] [] (S0.take 180) (ig B icP21 icZ22) L (rgm R icR22) Q) : gWp 150 129 598 [.ref 157] [] (S0.take 179) (ig B icP20 icZ21) L (rgm R icR21) Q := by
  refine g_al (show aCod 129 598 = some (.aload 0, 599) by decide +kernel) rfl ?_
  refine g_pu (show aCod 129 599 = some (.sipush 6, 601) by decide +kernel) ?_
  refine g_nc (p := 179) (m := 6) (S2 := (S0.take 180)) (show aCod 129 601 = some (.newarray .char, 603) by decide +kernel) rfl (by decide +kernel) (by decide) (by decide) (by decide +kernel) ?_
  rw [ig_row (by decide +kernel)]
  refine g_du (show aCod 129 603 = some (.dup, 604) by decide +kernel) rfl ?_
  refine g_pu (show aCod 129 604 = some (.sipush 0, 605) by decide +kernel) ?_
  refine g_pu (show aCod 129 605 = some (.sipush 115, 607) by decide +kernel) ?_
  refine g_cs (k2 := 0) (x2 := iI 115) (show aCod 129 607 = some (.castore, 608) by decide +kernel) rfl (by decide) (by decide) (by decide) ?_
  rw [ig_up]
  refine g_du (show aCod 129 608 = some (.dup, 609) by decide +kernel) rfl ?_
  refine g_pu (show aCod 129 609 = some (.sipush 1, 610) by decide +kernel) ?_
  refine g_pu (show aCod 129 610 = some (.sipush 101, 612) by decide +kernel) ?_
  refine g_cs (k2 := 1) (x2 := iI 101) (show aCod 129 612 = some (.castore, 613) by decide +kernel) rfl (by decide) (by decide) (by decide) ?_
  rw [ig_up]
  refine g_du (show aCod 129 613 = some (.dup, 614) by decide +kernel) rfl ?_
  refine g_pu (show aCod 129 614 = some (.sipush 2, 615) by decide +kernel) ?_
  refine g_pu (show aCod 129 615 = some (.sipush 97, 617) by decide +kernel) ?_
  refine g_cs (k2 := 2) (x2 := iI 97) (show aCod 129 617 = some (.castore, 618) by decide +kernel) rfl (by decide) (by decide) (by decide) ?_
  rw [ig_up]
  refine g_du (show aCod 129 618 = some (.dup, 619) by decide +kernel) rfl ?_
  refine g_pu (show aCod 129 619 = some (.sipush 3, 620) by decide +kernel) ?_
  refine g_pu (show aCod 129 620 = some (.sipush 115, 622) by decide +kernel) ?_
  refine g_cs (k2 := 3) (x2 := iI 115) (show aCod 129 622 = some (.castore, 623) by decide +kernel) rfl (by decide) (by decide) (by decide) ?_
  rw [ig_up]
  refine g_du (show aCod 129 623 = some (.dup, 624) by decide +kernel) rfl ?_
  refine g_pu (show aCod 129 624 = some (.sipush 4, 625) by decide +kernel) ?_
  refine g_pu (show aCod 129 625 = some (.sipush 111, 627) by decide +kernel) ?_
  refine g_cs (k2 := 4) (x2 := iI 111) (show aCod 129 627 = some (.castore, 628) by decide +kernel) rfl (by decide) (by decide) (by decide) ?_
  rw [ig_up]
  refine g_du (show aCod 129 628 = some (.dup, 629) by decide +kernel) rfl ?_
  refine g_pu (show aCod 129 629 = some (.sipush 5, 630) by decide +kernel) ?_
  refine g_pu (show aCod 129 630 = some (.sipush 110, 632) by decide +kernel) ?_
  refine g_cs (k2 := 5) (x2 := iI 110) (show aCod 129 632 = some (.castore, 633) by decide +kernel) rfl (by decide) (by decide) (by decide) ?_
  rw [ig_up]
  refine g_pr (show aCod 129 633 = some (.putfield 2334, 636) by decide +kernel) ⟨rfl, by decide, rfl⟩ ?_
  rw [rgm_up]
  exact k
def icP22 : List (Nat × Nat × Int32) := (180, 4, iI (108)) :: (180, 3, iI (101)) :: (180, 2, iI (118)) :: (180, 1, iI (101)) :: (180, 0, iI (108)) :: icP21
def icR23 : List (Nat × Nat × Option Nat) := (157, 31, some 180) :: icR22
def icZ23 : List Nat := 180 :: icZ22
theorem ic_24 {Q : Option Value → List aSh → aFI → aFL → aFR → Prop} {B : aFI} {L : aFL} {R : aFR} (k : gWp 150 129 668 [.ref 157] [] (S0.take 181) (ig B icP22 icZ23) L (rgm R icR23) Q) : gWp 150 129 636 [.ref 157] [] (S0.take 180) (ig B icP21 icZ22) L (rgm R icR22) Q := by
  refine g_al (show aCod 129 636 = some (.aload 0, 637) by decide +kernel) rfl ?_
  refine g_pu (show aCod 129 637 = some (.sipush 5, 638) by decide +kernel) ?_
  refine g_nc (p := 180) (m := 5) (S2 := (S0.take 181)) (show aCod 129 638 = some (.newarray .char, 640) by decide +kernel) rfl (by decide +kernel) (by decide) (by decide) (by decide +kernel) ?_
  rw [ig_row (by decide +kernel)]
  refine g_du (show aCod 129 640 = some (.dup, 641) by decide +kernel) rfl ?_
  refine g_pu (show aCod 129 641 = some (.sipush 0, 642) by decide +kernel) ?_
  refine g_pu (show aCod 129 642 = some (.sipush 108, 644) by decide +kernel) ?_
  refine g_cs (k2 := 0) (x2 := iI 108) (show aCod 129 644 = some (.castore, 645) by decide +kernel) rfl (by decide) (by decide) (by decide) ?_
  rw [ig_up]
  refine g_du (show aCod 129 645 = some (.dup, 646) by decide +kernel) rfl ?_
  refine g_pu (show aCod 129 646 = some (.sipush 1, 647) by decide +kernel) ?_
  refine g_pu (show aCod 129 647 = some (.sipush 101, 649) by decide +kernel) ?_
  refine g_cs (k2 := 1) (x2 := iI 101) (show aCod 129 649 = some (.castore, 650) by decide +kernel) rfl (by decide) (by decide) (by decide) ?_
  rw [ig_up]
  refine g_du (show aCod 129 650 = some (.dup, 651) by decide +kernel) rfl ?_
  refine g_pu (show aCod 129 651 = some (.sipush 2, 652) by decide +kernel) ?_
  refine g_pu (show aCod 129 652 = some (.sipush 118, 654) by decide +kernel) ?_
  refine g_cs (k2 := 2) (x2 := iI 118) (show aCod 129 654 = some (.castore, 655) by decide +kernel) rfl (by decide) (by decide) (by decide) ?_
  rw [ig_up]
  refine g_du (show aCod 129 655 = some (.dup, 656) by decide +kernel) rfl ?_
  refine g_pu (show aCod 129 656 = some (.sipush 3, 657) by decide +kernel) ?_
  refine g_pu (show aCod 129 657 = some (.sipush 101, 659) by decide +kernel) ?_
  refine g_cs (k2 := 3) (x2 := iI 101) (show aCod 129 659 = some (.castore, 660) by decide +kernel) rfl (by decide) (by decide) (by decide) ?_
  rw [ig_up]
  refine g_du (show aCod 129 660 = some (.dup, 661) by decide +kernel) rfl ?_
  refine g_pu (show aCod 129 661 = some (.sipush 4, 662) by decide +kernel) ?_
  refine g_pu (show aCod 129 662 = some (.sipush 108, 664) by decide +kernel) ?_
  refine g_cs (k2 := 4) (x2 := iI 108) (show aCod 129 664 = some (.castore, 665) by decide +kernel) rfl (by decide) (by decide) (by decide) ?_
  rw [ig_up]
  refine g_pr (show aCod 129 665 = some (.putfield 2335, 668) by decide +kernel) ⟨rfl, by decide, rfl⟩ ?_
  rw [rgm_up]
  exact k
def icP23 : List (Nat × Nat × Int32) := (181, 3, iI (107)) :: (181, 2, iI (114)) :: (181, 1, iI (97)) :: (181, 0, iI (100)) :: icP22
def icR24 : List (Nat × Nat × Option Nat) := (157, 32, some 181) :: icR23
def icZ24 : List Nat := 181 :: icZ23
theorem ic_25 {Q : Option Value → List aSh → aFI → aFL → aFR → Prop} {B : aFI} {L : aFL} {R : aFR} (k : gWp 150 129 695 [.ref 157] [] (S0.take 182) (ig B icP23 icZ24) L (rgm R icR24) Q) : gWp 150 129 668 [.ref 157] [] (S0.take 181) (ig B icP22 icZ23) L (rgm R icR23) Q := by
  refine g_al (show aCod 129 668 = some (.aload 0, 669) by decide +kernel) rfl ?_
  refine g_pu (show aCod 129 669 = some (.sipush 4, 670) by decide +kernel) ?_
  refine g_nc (p := 181) (m := 4) (S2 := (S0.take 182)) (show aCod 129 670 = some (.newarray .char, 672) by decide +kernel) rfl (by decide +kernel) (by decide) (by decide) (by decide +kernel) ?_
  rw [ig_row (by decide +kernel)]
  refine g_du (show aCod 129 672 = some (.dup, 673) by decide +kernel) rfl ?_
  refine g_pu (show aCod 129 673 = some (.sipush 0, 674) by decide +kernel) ?_
  refine g_pu (show aCod 129 674 = some (.sipush 100, 676) by decide +kernel) ?_
  refine g_cs (k2 := 0) (x2 := iI 100) (show aCod 129 676 = some (.castore, 677) by decide +kernel) rfl (by decide) (by decide) (by decide) ?_
  rw [ig_up]
  refine g_du (show aCod 129 677 = some (.dup, 678) by decide +kernel) rfl ?_
  refine g_pu (show aCod 129 678 = some (.sipush 1, 679) by decide +kernel) ?_
  refine g_pu (show aCod 129 679 = some (.sipush 97, 681) by decide +kernel) ?_
  refine g_cs (k2 := 1) (x2 := iI 97) (show aCod 129 681 = some (.castore, 682) by decide +kernel) rfl (by decide) (by decide) (by decide) ?_
  rw [ig_up]
  refine g_du (show aCod 129 682 = some (.dup, 683) by decide +kernel) rfl ?_
  refine g_pu (show aCod 129 683 = some (.sipush 2, 684) by decide +kernel) ?_
  refine g_pu (show aCod 129 684 = some (.sipush 114, 686) by decide +kernel) ?_
  refine g_cs (k2 := 2) (x2 := iI 114) (show aCod 129 686 = some (.castore, 687) by decide +kernel) rfl (by decide) (by decide) (by decide) ?_
  rw [ig_up]
  refine g_du (show aCod 129 687 = some (.dup, 688) by decide +kernel) rfl ?_
  refine g_pu (show aCod 129 688 = some (.sipush 3, 689) by decide +kernel) ?_
  refine g_pu (show aCod 129 689 = some (.sipush 107, 691) by decide +kernel) ?_
  refine g_cs (k2 := 3) (x2 := iI 107) (show aCod 129 691 = some (.castore, 692) by decide +kernel) rfl (by decide) (by decide) (by decide) ?_
  rw [ig_up]
  refine g_pr (show aCod 129 692 = some (.putfield 2336, 695) by decide +kernel) ⟨rfl, by decide, rfl⟩ ?_
  rw [rgm_up]
  exact k
def icP24 : List (Nat × Nat × Int32) := (182, 2, iI (107)) :: (182, 1, iI (110)) :: (182, 0, iI (105)) :: icP23
def icR25 : List (Nat × Nat × Option Nat) := (157, 33, some 182) :: icR24
def icZ25 : List Nat := 182 :: icZ24
theorem ic_26 {Q : Option Value → List aSh → aFI → aFL → aFR → Prop} {B : aFI} {L : aFL} {R : aFR} (k : gWp 150 129 717 [.ref 157] [] (S0.take 183) (ig B icP24 icZ25) L (rgm R icR25) Q) : gWp 150 129 695 [.ref 157] [] (S0.take 182) (ig B icP23 icZ24) L (rgm R icR24) Q := by
  refine g_al (show aCod 129 695 = some (.aload 0, 696) by decide +kernel) rfl ?_
  refine g_pu (show aCod 129 696 = some (.sipush 3, 697) by decide +kernel) ?_
  refine g_nc (p := 182) (m := 3) (S2 := (S0.take 183)) (show aCod 129 697 = some (.newarray .char, 699) by decide +kernel) rfl (by decide +kernel) (by decide) (by decide) (by decide +kernel) ?_
  rw [ig_row (by decide +kernel)]
  refine g_du (show aCod 129 699 = some (.dup, 700) by decide +kernel) rfl ?_
  refine g_pu (show aCod 129 700 = some (.sipush 0, 701) by decide +kernel) ?_
  refine g_pu (show aCod 129 701 = some (.sipush 105, 703) by decide +kernel) ?_
  refine g_cs (k2 := 0) (x2 := iI 105) (show aCod 129 703 = some (.castore, 704) by decide +kernel) rfl (by decide) (by decide) (by decide) ?_
  rw [ig_up]
  refine g_du (show aCod 129 704 = some (.dup, 705) by decide +kernel) rfl ?_
  refine g_pu (show aCod 129 705 = some (.sipush 1, 706) by decide +kernel) ?_
  refine g_pu (show aCod 129 706 = some (.sipush 110, 708) by decide +kernel) ?_
  refine g_cs (k2 := 1) (x2 := iI 110) (show aCod 129 708 = some (.castore, 709) by decide +kernel) rfl (by decide) (by decide) (by decide) ?_
  rw [ig_up]
  refine g_du (show aCod 129 709 = some (.dup, 710) by decide +kernel) rfl ?_
  refine g_pu (show aCod 129 710 = some (.sipush 2, 711) by decide +kernel) ?_
  refine g_pu (show aCod 129 711 = some (.sipush 107, 713) by decide +kernel) ?_
  refine g_cs (k2 := 2) (x2 := iI 107) (show aCod 129 713 = some (.castore, 714) by decide +kernel) rfl (by decide) (by decide) (by decide) ?_
  rw [ig_up]
  refine g_pr (show aCod 129 714 = some (.putfield 2337, 717) by decide +kernel) ⟨rfl, by decide, rfl⟩ ?_
  rw [rgm_up]
  exact k
def icP25 : List (Nat × Nat × Int32) := (183, 2, iI (101)) :: (183, 1, iI (103)) :: (183, 0, iI (97)) :: icP24
def icR26 : List (Nat × Nat × Option Nat) := (157, 34, some 183) :: icR25
def icZ26 : List Nat := 183 :: icZ25
theorem ic_27 {Q : Option Value → List aSh → aFI → aFL → aFR → Prop} {B : aFI} {L : aFL} {R : aFR} (k : gWp 150 129 739 [.ref 157] [] (S0.take 184) (ig B icP25 icZ26) L (rgm R icR26) Q) : gWp 150 129 717 [.ref 157] [] (S0.take 183) (ig B icP24 icZ25) L (rgm R icR25) Q := by
  refine g_al (show aCod 129 717 = some (.aload 0, 718) by decide +kernel) rfl ?_
  refine g_pu (show aCod 129 718 = some (.sipush 3, 719) by decide +kernel) ?_
  refine g_nc (p := 183) (m := 3) (S2 := (S0.take 184)) (show aCod 129 719 = some (.newarray .char, 721) by decide +kernel) rfl (by decide +kernel) (by decide) (by decide) (by decide +kernel) ?_
  rw [ig_row (by decide +kernel)]
  refine g_du (show aCod 129 721 = some (.dup, 722) by decide +kernel) rfl ?_
  refine g_pu (show aCod 129 722 = some (.sipush 0, 723) by decide +kernel) ?_
  refine g_pu (show aCod 129 723 = some (.sipush 97, 725) by decide +kernel) ?_
  refine g_cs (k2 := 0) (x2 := iI 97) (show aCod 129 725 = some (.castore, 726) by decide +kernel) rfl (by decide) (by decide) (by decide) ?_
  rw [ig_up]
  refine g_du (show aCod 129 726 = some (.dup, 727) by decide +kernel) rfl ?_
  refine g_pu (show aCod 129 727 = some (.sipush 1, 728) by decide +kernel) ?_
  refine g_pu (show aCod 129 728 = some (.sipush 103, 730) by decide +kernel) ?_
  refine g_cs (k2 := 1) (x2 := iI 103) (show aCod 129 730 = some (.castore, 731) by decide +kernel) rfl (by decide) (by decide) (by decide) ?_
  rw [ig_up]
  refine g_du (show aCod 129 731 = some (.dup, 732) by decide +kernel) rfl ?_
  refine g_pu (show aCod 129 732 = some (.sipush 2, 733) by decide +kernel) ?_
  refine g_pu (show aCod 129 733 = some (.sipush 101, 735) by decide +kernel) ?_
  refine g_cs (k2 := 2) (x2 := iI 101) (show aCod 129 735 = some (.castore, 736) by decide +kernel) rfl (by decide) (by decide) (by decide) ?_
  rw [ig_up]
  refine g_pr (show aCod 129 736 = some (.putfield 2338, 739) by decide +kernel) ⟨rfl, by decide, rfl⟩ ?_
  rw [rgm_up]
  exact k
def icP26 : List (Nat × Nat × Int32) := (184, 5, iI (114)) :: (184, 4, iI (101)) :: (184, 3, iI (98)) :: (184, 2, iI (109)) :: (184, 1, iI (117)) :: (184, 0, iI (110)) :: icP25
def icR27 : List (Nat × Nat × Option Nat) := (157, 35, some 184) :: icR26
def icZ27 : List Nat := 184 :: icZ26
theorem ic_28 {Q : Option Value → List aSh → aFI → aFL → aFR → Prop} {B : aFI} {L : aFL} {R : aFR} (k : gWp 150 129 777 [.ref 157] [] (S0.take 185) (ig B icP26 icZ27) L (rgm R icR27) Q) : gWp 150 129 739 [.ref 157] [] (S0.take 184) (ig B icP25 icZ26) L (rgm R icR26) Q := by
  refine g_al (show aCod 129 739 = some (.aload 0, 740) by decide +kernel) rfl ?_
  refine g_pu (show aCod 129 740 = some (.sipush 6, 742) by decide +kernel) ?_
  refine g_nc (p := 184) (m := 6) (S2 := (S0.take 185)) (show aCod 129 742 = some (.newarray .char, 744) by decide +kernel) rfl (by decide +kernel) (by decide) (by decide) (by decide +kernel) ?_
  rw [ig_row (by decide +kernel)]
  refine g_du (show aCod 129 744 = some (.dup, 745) by decide +kernel) rfl ?_
  refine g_pu (show aCod 129 745 = some (.sipush 0, 746) by decide +kernel) ?_
  refine g_pu (show aCod 129 746 = some (.sipush 110, 748) by decide +kernel) ?_
  refine g_cs (k2 := 0) (x2 := iI 110) (show aCod 129 748 = some (.castore, 749) by decide +kernel) rfl (by decide) (by decide) (by decide) ?_
  rw [ig_up]
  refine g_du (show aCod 129 749 = some (.dup, 750) by decide +kernel) rfl ?_
  refine g_pu (show aCod 129 750 = some (.sipush 1, 751) by decide +kernel) ?_
  refine g_pu (show aCod 129 751 = some (.sipush 117, 753) by decide +kernel) ?_
  refine g_cs (k2 := 1) (x2 := iI 117) (show aCod 129 753 = some (.castore, 754) by decide +kernel) rfl (by decide) (by decide) (by decide) ?_
  rw [ig_up]
  refine g_du (show aCod 129 754 = some (.dup, 755) by decide +kernel) rfl ?_
  refine g_pu (show aCod 129 755 = some (.sipush 2, 756) by decide +kernel) ?_
  refine g_pu (show aCod 129 756 = some (.sipush 109, 758) by decide +kernel) ?_
  refine g_cs (k2 := 2) (x2 := iI 109) (show aCod 129 758 = some (.castore, 759) by decide +kernel) rfl (by decide) (by decide) (by decide) ?_
  rw [ig_up]
  refine g_du (show aCod 129 759 = some (.dup, 760) by decide +kernel) rfl ?_
  refine g_pu (show aCod 129 760 = some (.sipush 3, 761) by decide +kernel) ?_
  refine g_pu (show aCod 129 761 = some (.sipush 98, 763) by decide +kernel) ?_
  refine g_cs (k2 := 3) (x2 := iI 98) (show aCod 129 763 = some (.castore, 764) by decide +kernel) rfl (by decide) (by decide) (by decide) ?_
  rw [ig_up]
  refine g_du (show aCod 129 764 = some (.dup, 765) by decide +kernel) rfl ?_
  refine g_pu (show aCod 129 765 = some (.sipush 4, 766) by decide +kernel) ?_
  refine g_pu (show aCod 129 766 = some (.sipush 101, 768) by decide +kernel) ?_
  refine g_cs (k2 := 4) (x2 := iI 101) (show aCod 129 768 = some (.castore, 769) by decide +kernel) rfl (by decide) (by decide) (by decide) ?_
  rw [ig_up]
  refine g_du (show aCod 129 769 = some (.dup, 770) by decide +kernel) rfl ?_
  refine g_pu (show aCod 129 770 = some (.sipush 5, 771) by decide +kernel) ?_
  refine g_pu (show aCod 129 771 = some (.sipush 114, 773) by decide +kernel) ?_
  refine g_cs (k2 := 5) (x2 := iI 114) (show aCod 129 773 = some (.castore, 774) by decide +kernel) rfl (by decide) (by decide) (by decide) ?_
  rw [ig_up]
  refine g_pr (show aCod 129 774 = some (.putfield 2339, 777) by decide +kernel) ⟨rfl, by decide, rfl⟩ ?_
  rw [rgm_up]
  exact k
def icP27 : List (Nat × Nat × Int32) := (185, 3, iI (109)) :: (185, 2, iI (114)) :: (185, 1, iI (101)) :: (185, 0, iI (116)) :: icP26
def icR28 : List (Nat × Nat × Option Nat) := (157, 36, some 185) :: icR27
def icZ28 : List Nat := 185 :: icZ27
theorem ic_29 {Q : Option Value → List aSh → aFI → aFL → aFR → Prop} {B : aFI} {L : aFL} {R : aFR} (k : gWp 150 129 804 [.ref 157] [] (S0.take 186) (ig B icP27 icZ28) L (rgm R icR28) Q) : gWp 150 129 777 [.ref 157] [] (S0.take 185) (ig B icP26 icZ27) L (rgm R icR27) Q := by
  refine g_al (show aCod 129 777 = some (.aload 0, 778) by decide +kernel) rfl ?_
  refine g_pu (show aCod 129 778 = some (.sipush 4, 779) by decide +kernel) ?_
  refine g_nc (p := 185) (m := 4) (S2 := (S0.take 186)) (show aCod 129 779 = some (.newarray .char, 781) by decide +kernel) rfl (by decide +kernel) (by decide) (by decide) (by decide +kernel) ?_
  rw [ig_row (by decide +kernel)]
  refine g_du (show aCod 129 781 = some (.dup, 782) by decide +kernel) rfl ?_
  refine g_pu (show aCod 129 782 = some (.sipush 0, 783) by decide +kernel) ?_
  refine g_pu (show aCod 129 783 = some (.sipush 116, 785) by decide +kernel) ?_
  refine g_cs (k2 := 0) (x2 := iI 116) (show aCod 129 785 = some (.castore, 786) by decide +kernel) rfl (by decide) (by decide) (by decide) ?_
  rw [ig_up]
  refine g_du (show aCod 129 786 = some (.dup, 787) by decide +kernel) rfl ?_
  refine g_pu (show aCod 129 787 = some (.sipush 1, 788) by decide +kernel) ?_
  refine g_pu (show aCod 129 788 = some (.sipush 101, 790) by decide +kernel) ?_
  refine g_cs (k2 := 1) (x2 := iI 101) (show aCod 129 790 = some (.castore, 791) by decide +kernel) rfl (by decide) (by decide) (by decide) ?_
  rw [ig_up]
  refine g_du (show aCod 129 791 = some (.dup, 792) by decide +kernel) rfl ?_
  refine g_pu (show aCod 129 792 = some (.sipush 2, 793) by decide +kernel) ?_
  refine g_pu (show aCod 129 793 = some (.sipush 114, 795) by decide +kernel) ?_
  refine g_cs (k2 := 2) (x2 := iI 114) (show aCod 129 795 = some (.castore, 796) by decide +kernel) rfl (by decide) (by decide) (by decide) ?_
  rw [ig_up]
  refine g_du (show aCod 129 796 = some (.dup, 797) by decide +kernel) rfl ?_
  refine g_pu (show aCod 129 797 = some (.sipush 3, 798) by decide +kernel) ?_
  refine g_pu (show aCod 129 798 = some (.sipush 109, 800) by decide +kernel) ?_
  refine g_cs (k2 := 3) (x2 := iI 109) (show aCod 129 800 = some (.castore, 801) by decide +kernel) rfl (by decide) (by decide) (by decide) ?_
  rw [ig_up]
  refine g_pr (show aCod 129 801 = some (.putfield 2340, 804) by decide +kernel) ⟨rfl, by decide, rfl⟩ ?_
  rw [rgm_up]
  exact k
def icP28 : List (Nat × Nat × Int32) := (186, 1, iI (114)) :: (186, 0, iI (111)) :: icP27
def icR29 : List (Nat × Nat × Option Nat) := (157, 37, some 186) :: icR28
def icZ29 : List Nat := 186 :: icZ28
theorem ic_30 {Q : Option Value → List aSh → aFI → aFL → aFR → Prop} {B : aFI} {L : aFL} {R : aFR} (k : gWp 150 129 821 [.ref 157] [] (S0.take 187) (ig B icP28 icZ29) L (rgm R icR29) Q) : gWp 150 129 804 [.ref 157] [] (S0.take 186) (ig B icP27 icZ28) L (rgm R icR28) Q := by
  refine g_al (show aCod 129 804 = some (.aload 0, 805) by decide +kernel) rfl ?_
  refine g_pu (show aCod 129 805 = some (.sipush 2, 806) by decide +kernel) ?_
  refine g_nc (p := 186) (m := 2) (S2 := (S0.take 187)) (show aCod 129 806 = some (.newarray .char, 808) by decide +kernel) rfl (by decide +kernel) (by decide) (by decide) (by decide +kernel) ?_
  rw [ig_row (by decide +kernel)]
  refine g_du (show aCod 129 808 = some (.dup, 809) by decide +kernel) rfl ?_
  refine g_pu (show aCod 129 809 = some (.sipush 0, 810) by decide +kernel) ?_
  refine g_pu (show aCod 129 810 = some (.sipush 111, 812) by decide +kernel) ?_
  refine g_cs (k2 := 0) (x2 := iI 111) (show aCod 129 812 = some (.castore, 813) by decide +kernel) rfl (by decide) (by decide) (by decide) ?_
  rw [ig_up]
  refine g_du (show aCod 129 813 = some (.dup, 814) by decide +kernel) rfl ?_
  refine g_pu (show aCod 129 814 = some (.sipush 1, 815) by decide +kernel) ?_
  refine g_pu (show aCod 129 815 = some (.sipush 114, 817) by decide +kernel) ?_
  refine g_cs (k2 := 1) (x2 := iI 114) (show aCod 129 817 = some (.castore, 818) by decide +kernel) rfl (by decide) (by decide) (by decide) ?_
  rw [ig_up]
  refine g_pr (show aCod 129 818 = some (.putfield 2341, 821) by decide +kernel) ⟨rfl, by decide, rfl⟩ ?_
  rw [rgm_up]
  exact k
def icP29 : List (Nat × Nat × Int32) := (187, 2, iI (100)) :: (187, 1, iI (110)) :: (187, 0, iI (97)) :: icP28
def icR30 : List (Nat × Nat × Option Nat) := (157, 38, some 187) :: icR29
def icZ30 : List Nat := 187 :: icZ29
theorem ic_31 {Q : Option Value → List aSh → aFI → aFL → aFR → Prop} {B : aFI} {L : aFL} {R : aFR} (k : gWp 150 129 843 [.ref 157] [] (S0.take 188) (ig B icP29 icZ30) L (rgm R icR30) Q) : gWp 150 129 821 [.ref 157] [] (S0.take 187) (ig B icP28 icZ29) L (rgm R icR29) Q := by
  refine g_al (show aCod 129 821 = some (.aload 0, 822) by decide +kernel) rfl ?_
  refine g_pu (show aCod 129 822 = some (.sipush 3, 823) by decide +kernel) ?_
  refine g_nc (p := 187) (m := 3) (S2 := (S0.take 188)) (show aCod 129 823 = some (.newarray .char, 825) by decide +kernel) rfl (by decide +kernel) (by decide) (by decide) (by decide +kernel) ?_
  rw [ig_row (by decide +kernel)]
  refine g_du (show aCod 129 825 = some (.dup, 826) by decide +kernel) rfl ?_
  refine g_pu (show aCod 129 826 = some (.sipush 0, 827) by decide +kernel) ?_
  refine g_pu (show aCod 129 827 = some (.sipush 97, 829) by decide +kernel) ?_
  refine g_cs (k2 := 0) (x2 := iI 97) (show aCod 129 829 = some (.castore, 830) by decide +kernel) rfl (by decide) (by decide) (by decide) ?_
  rw [ig_up]
  refine g_du (show aCod 129 830 = some (.dup, 831) by decide +kernel) rfl ?_
  refine g_pu (show aCod 129 831 = some (.sipush 1, 832) by decide +kernel) ?_
  refine g_pu (show aCod 129 832 = some (.sipush 110, 834) by decide +kernel) ?_
  refine g_cs (k2 := 1) (x2 := iI 110) (show aCod 129 834 = some (.castore, 835) by decide +kernel) rfl (by decide) (by decide) (by decide) ?_
  rw [ig_up]
  refine g_du (show aCod 129 835 = some (.dup, 836) by decide +kernel) rfl ?_
  refine g_pu (show aCod 129 836 = some (.sipush 2, 837) by decide +kernel) ?_
  refine g_pu (show aCod 129 837 = some (.sipush 100, 839) by decide +kernel) ?_
  refine g_cs (k2 := 2) (x2 := iI 100) (show aCod 129 839 = some (.castore, 840) by decide +kernel) rfl (by decide) (by decide) (by decide) ?_
  rw [ig_up]
  refine g_pr (show aCod 129 840 = some (.putfield 2342, 843) by decide +kernel) ⟨rfl, by decide, rfl⟩ ?_
  rw [rgm_up]
  exact k
def icP30 : List (Nat × Nat × Int32) := (188, 2, iI (116)) :: (188, 1, iI (111)) :: (188, 0, iI (110)) :: icP29
def icR31 : List (Nat × Nat × Option Nat) := (157, 39, some 188) :: icR30
def icZ31 : List Nat := 188 :: icZ30
theorem ic_32 {Q : Option Value → List aSh → aFI → aFL → aFR → Prop} {B : aFI} {L : aFL} {R : aFR} (k : gWp 150 129 865 [.ref 157] [] (S0.take 189) (ig B icP30 icZ31) L (rgm R icR31) Q) : gWp 150 129 843 [.ref 157] [] (S0.take 188) (ig B icP29 icZ30) L (rgm R icR30) Q := by
  refine g_al (show aCod 129 843 = some (.aload 0, 844) by decide +kernel) rfl ?_
  refine g_pu (show aCod 129 844 = some (.sipush 3, 845) by decide +kernel) ?_
  refine g_nc (p := 188) (m := 3) (S2 := (S0.take 189)) (show aCod 129 845 = some (.newarray .char, 847) by decide +kernel) rfl (by decide +kernel) (by decide) (by decide) (by decide +kernel) ?_
  rw [ig_row (by decide +kernel)]
  refine g_du (show aCod 129 847 = some (.dup, 848) by decide +kernel) rfl ?_
  refine g_pu (show aCod 129 848 = some (.sipush 0, 849) by decide +kernel) ?_
  refine g_pu (show aCod 129 849 = some (.sipush 110, 851) by decide +kernel) ?_
  refine g_cs (k2 := 0) (x2 := iI 110) (show aCod 129 851 = some (.castore, 852) by decide +kernel) rfl (by decide) (by decide) (by decide) ?_
  rw [ig_up]
  refine g_du (show aCod 129 852 = some (.dup, 853) by decide +kernel) rfl ?_
  refine g_pu (show aCod 129 853 = some (.sipush 1, 854) by decide +kernel) ?_
  refine g_pu (show aCod 129 854 = some (.sipush 111, 856) by decide +kernel) ?_
  refine g_cs (k2 := 1) (x2 := iI 111) (show aCod 129 856 = some (.castore, 857) by decide +kernel) rfl (by decide) (by decide) (by decide) ?_
  rw [ig_up]
  refine g_du (show aCod 129 857 = some (.dup, 858) by decide +kernel) rfl ?_
  refine g_pu (show aCod 129 858 = some (.sipush 2, 859) by decide +kernel) ?_
  refine g_pu (show aCod 129 859 = some (.sipush 116, 861) by decide +kernel) ?_
  refine g_cs (k2 := 2) (x2 := iI 116) (show aCod 129 861 = some (.castore, 862) by decide +kernel) rfl (by decide) (by decide) (by decide) ?_
  rw [ig_up]
  refine g_pr (show aCod 129 862 = some (.putfield 2343, 865) by decide +kernel) ⟨rfl, by decide, rfl⟩ ?_
  rw [rgm_up]
  exact k
def icP31 : List (Nat × Nat × Int32) := (189, 2, iI (108)) :: (189, 1, iI (108)) :: (189, 0, iI (97)) :: icP30
def icR32 : List (Nat × Nat × Option Nat) := (157, 40, some 189) :: icR31
def icZ32 : List Nat := 189 :: icZ31
theorem ic_33 {Q : Option Value → List aSh → aFI → aFL → aFR → Prop} {B : aFI} {L : aFL} {R : aFR} (k : gWp 150 129 887 [.ref 157] [] (S0.take 190) (ig B icP31 icZ32) L (rgm R icR32) Q) : gWp 150 129 865 [.ref 157] [] (S0.take 189) (ig B icP30 icZ31) L (rgm R icR31) Q := by
  refine g_al (show aCod 129 865 = some (.aload 0, 866) by decide +kernel) rfl ?_
  refine g_pu (show aCod 129 866 = some (.sipush 3, 867) by decide +kernel) ?_
  refine g_nc (p := 189) (m := 3) (S2 := (S0.take 190)) (show aCod 129 867 = some (.newarray .char, 869) by decide +kernel) rfl (by decide +kernel) (by decide) (by decide) (by decide +kernel) ?_
  rw [ig_row (by decide +kernel)]
  refine g_du (show aCod 129 869 = some (.dup, 870) by decide +kernel) rfl ?_
  refine g_pu (show aCod 129 870 = some (.sipush 0, 871) by decide +kernel) ?_
  refine g_pu (show aCod 129 871 = some (.sipush 97, 873) by decide +kernel) ?_
  refine g_cs (k2 := 0) (x2 := iI 97) (show aCod 129 873 = some (.castore, 874) by decide +kernel) rfl (by decide) (by decide) (by decide) ?_
  rw [ig_up]
  refine g_du (show aCod 129 874 = some (.dup, 875) by decide +kernel) rfl ?_
  refine g_pu (show aCod 129 875 = some (.sipush 1, 876) by decide +kernel) ?_
  refine g_pu (show aCod 129 876 = some (.sipush 108, 878) by decide +kernel) ?_
  refine g_cs (k2 := 1) (x2 := iI 108) (show aCod 129 878 = some (.castore, 879) by decide +kernel) rfl (by decide) (by decide) (by decide) ?_
  rw [ig_up]
  refine g_du (show aCod 129 879 = some (.dup, 880) by decide +kernel) rfl ?_
  refine g_pu (show aCod 129 880 = some (.sipush 2, 881) by decide +kernel) ?_
  refine g_pu (show aCod 129 881 = some (.sipush 108, 883) by decide +kernel) ?_
  refine g_cs (k2 := 2) (x2 := iI 108) (show aCod 129 883 = some (.castore, 884) by decide +kernel) rfl (by decide) (by decide) (by decide) ?_
  rw [ig_up]
  refine g_pr (show aCod 129 884 = some (.putfield 2344, 887) by decide +kernel) ⟨rfl, by decide, rfl⟩ ?_
  rw [rgm_up]
  exact k
def icP32 : List (Nat × Nat × Int32) := (190, 2, iI (110)) :: (190, 1, iI (105)) :: (190, 0, iI (109)) :: icP31
def icR33 : List (Nat × Nat × Option Nat) := (157, 41, some 190) :: icR32
def icZ33 : List Nat := 190 :: icZ32
theorem ic_34 {Q : Option Value → List aSh → aFI → aFL → aFR → Prop} {B : aFI} {L : aFL} {R : aFR} (k : gWp 150 129 909 [.ref 157] [] (S0.take 191) (ig B icP32 icZ33) L (rgm R icR33) Q) : gWp 150 129 887 [.ref 157] [] (S0.take 190) (ig B icP31 icZ32) L (rgm R icR32) Q := by
  refine g_al (show aCod 129 887 = some (.aload 0, 888) by decide +kernel) rfl ?_
  refine g_pu (show aCod 129 888 = some (.sipush 3, 889) by decide +kernel) ?_
  refine g_nc (p := 190) (m := 3) (S2 := (S0.take 191)) (show aCod 129 889 = some (.newarray .char, 891) by decide +kernel) rfl (by decide +kernel) (by decide) (by decide) (by decide +kernel) ?_
  rw [ig_row (by decide +kernel)]
  refine g_du (show aCod 129 891 = some (.dup, 892) by decide +kernel) rfl ?_
  refine g_pu (show aCod 129 892 = some (.sipush 0, 893) by decide +kernel) ?_
  refine g_pu (show aCod 129 893 = some (.sipush 109, 895) by decide +kernel) ?_
  refine g_cs (k2 := 0) (x2 := iI 109) (show aCod 129 895 = some (.castore, 896) by decide +kernel) rfl (by decide) (by decide) (by decide) ?_
  rw [ig_up]
  refine g_du (show aCod 129 896 = some (.dup, 897) by decide +kernel) rfl ?_
  refine g_pu (show aCod 129 897 = some (.sipush 1, 898) by decide +kernel) ?_
  refine g_pu (show aCod 129 898 = some (.sipush 105, 900) by decide +kernel) ?_
  refine g_cs (k2 := 1) (x2 := iI 105) (show aCod 129 900 = some (.castore, 901) by decide +kernel) rfl (by decide) (by decide) (by decide) ?_
  rw [ig_up]
  refine g_du (show aCod 129 901 = some (.dup, 902) by decide +kernel) rfl ?_
  refine g_pu (show aCod 129 902 = some (.sipush 2, 903) by decide +kernel) ?_
  refine g_pu (show aCod 129 903 = some (.sipush 110, 905) by decide +kernel) ?_
  refine g_cs (k2 := 2) (x2 := iI 110) (show aCod 129 905 = some (.castore, 906) by decide +kernel) rfl (by decide) (by decide) (by decide) ?_
  rw [ig_up]
  refine g_pr (show aCod 129 906 = some (.putfield 2345, 909) by decide +kernel) ⟨rfl, by decide, rfl⟩ ?_
  rw [rgm_up]
  exact k
def icP33 : List (Nat × Nat × Int32) := (191, 2, iI (120)) :: (191, 1, iI (97)) :: (191, 0, iI (109)) :: icP32
def icR34 : List (Nat × Nat × Option Nat) := (157, 42, some 191) :: icR33
def icZ34 : List Nat := 191 :: icZ33
theorem ic_35 {Q : Option Value → List aSh → aFI → aFL → aFR → Prop} {B : aFI} {L : aFL} {R : aFR} (k : gWp 150 129 931 [.ref 157] [] (S0.take 192) (ig B icP33 icZ34) L (rgm R icR34) Q) : gWp 150 129 909 [.ref 157] [] (S0.take 191) (ig B icP32 icZ33) L (rgm R icR33) Q := by
  refine g_al (show aCod 129 909 = some (.aload 0, 910) by decide +kernel) rfl ?_
  refine g_pu (show aCod 129 910 = some (.sipush 3, 911) by decide +kernel) ?_
  refine g_nc (p := 191) (m := 3) (S2 := (S0.take 192)) (show aCod 129 911 = some (.newarray .char, 913) by decide +kernel) rfl (by decide +kernel) (by decide) (by decide) (by decide +kernel) ?_
  rw [ig_row (by decide +kernel)]
  refine g_du (show aCod 129 913 = some (.dup, 914) by decide +kernel) rfl ?_
  refine g_pu (show aCod 129 914 = some (.sipush 0, 915) by decide +kernel) ?_
  refine g_pu (show aCod 129 915 = some (.sipush 109, 917) by decide +kernel) ?_
  refine g_cs (k2 := 0) (x2 := iI 109) (show aCod 129 917 = some (.castore, 918) by decide +kernel) rfl (by decide) (by decide) (by decide) ?_
  rw [ig_up]
  refine g_du (show aCod 129 918 = some (.dup, 919) by decide +kernel) rfl ?_
  refine g_pu (show aCod 129 919 = some (.sipush 1, 920) by decide +kernel) ?_
  refine g_pu (show aCod 129 920 = some (.sipush 97, 922) by decide +kernel) ?_
  refine g_cs (k2 := 1) (x2 := iI 97) (show aCod 129 922 = some (.castore, 923) by decide +kernel) rfl (by decide) (by decide) (by decide) ?_
  rw [ig_up]
  refine g_du (show aCod 129 923 = some (.dup, 924) by decide +kernel) rfl ?_
  refine g_pu (show aCod 129 924 = some (.sipush 2, 925) by decide +kernel) ?_
  refine g_pu (show aCod 129 925 = some (.sipush 120, 927) by decide +kernel) ?_
  refine g_cs (k2 := 2) (x2 := iI 120) (show aCod 129 927 = some (.castore, 928) by decide +kernel) rfl (by decide) (by decide) (by decide) ?_
  rw [ig_up]
  refine g_pr (show aCod 129 928 = some (.putfield 2346, 931) by decide +kernel) ⟨rfl, by decide, rfl⟩ ?_
  rw [rgm_up]
  exact k
def icR35 : List (Nat × Nat × Option Nat) := (157, 44, some 192) :: icR34
def icZ35 : List Nat := 192 :: icZ34
theorem ic_36 {Q : Option Value → List aSh → aFI → aFL → aFR → Prop} {B : aFI} {L : aFL} {R : aFR} (k : gWp 150 129 939 [.ref 157] [] (S0.take 193) (ig B icP33 icZ35) L (rgm R icR35) Q) : gWp 150 129 931 [.ref 157] [] (S0.take 192) (ig B icP33 icZ34) L (rgm R icR34) Q := by
  refine g_al (show aCod 129 931 = some (.aload 0, 932) by decide +kernel) rfl ?_
  refine g_pu (show aCod 129 932 = some (.sipush 6, 934) by decide +kernel) ?_
  refine g_ni (p := 192) (m := 6) (S2 := (S0.take 193)) (show aCod 129 934 = some (.newarray .int, 936) by decide +kernel) rfl (by decide +kernel) (by decide) (by decide) (by decide +kernel) ?_
  rw [ig_row (by decide +kernel)]
  refine g_pr (show aCod 129 936 = some (.putfield 2348, 939) by decide +kernel) ⟨rfl, by decide, rfl⟩ ?_
  rw [rgm_up]
  exact k
def icR36 : List (Nat × Nat × Option Nat) := (157, 45, some 193) :: icR35
theorem ic_37 {Q : Option Value → List aSh → aFI → aFL → aFR → Prop} {B : aFI} {L : aFL} {R : aFR} (k : gWp 150 129 947 [.ref 157] [] (S0.take 194) (ig B icP33 icZ35) (aRow L 193 (fun _ => 0)) (rgm R icR36) Q) : gWp 150 129 939 [.ref 157] [] (S0.take 193) (ig B icP33 icZ35) L (rgm R icR35) Q := by
  refine g_al (show aCod 129 939 = some (.aload 0, 940) by decide +kernel) rfl ?_
  refine g_pu (show aCod 129 940 = some (.sipush 48, 942) by decide +kernel) ?_
  refine g_nl (p := 193) (m := 48) (S2 := (S0.take 194)) (show aCod 129 942 = some (.newarray .long, 944) by decide +kernel) rfl (by decide +kernel) (by decide) (by decide) (by decide +kernel) ?_
  refine g_pr (show aCod 129 944 = some (.putfield 2349, 947) by decide +kernel) ⟨rfl, by decide, rfl⟩ ?_
  rw [rgm_up]
  exact k
def icR37 : List (Nat × Nat × Option Nat) := (157, 46, some 194) :: icR36
def icZ36 : List Nat := 194 :: icZ35
theorem ic_38 {Q : Option Value → List aSh → aFI → aFL → aFR → Prop} {B : aFI} {L : aFL} {R : aFR} (k : gWp 150 129 955 [.ref 157] [] (S0.take 195) (ig B icP33 icZ36) L (rgm R icR37) Q) : gWp 150 129 947 [.ref 157] [] (S0.take 194) (ig B icP33 icZ35) L (rgm R icR36) Q := by
  refine g_al (show aCod 129 947 = some (.aload 0, 948) by decide +kernel) rfl ?_
  refine g_pu (show aCod 129 948 = some (.sipush 6, 950) by decide +kernel) ?_
  refine g_ni (p := 194) (m := 6) (S2 := (S0.take 195)) (show aCod 129 950 = some (.newarray .int, 952) by decide +kernel) rfl (by decide +kernel) (by decide) (by decide) (by decide +kernel) ?_
  rw [ig_row (by decide +kernel)]
  refine g_pr (show aCod 129 952 = some (.putfield 2350, 955) by decide +kernel) ⟨rfl, by decide, rfl⟩ ?_
  rw [rgm_up]
  exact k
def icR38 : List (Nat × Nat × Option Nat) := (157, 47, some 195) :: icR37
def icZ37 : List Nat := 195 :: icZ36
theorem ic_39 {Q : Option Value → List aSh → aFI → aFL → aFR → Prop} {B : aFI} {L : aFL} {R : aFR} (k : gWp 150 129 963 [.ref 157] [] (S0.take 196) (ig B icP33 icZ37) L (rgm R icR38) Q) : gWp 150 129 955 [.ref 157] [] (S0.take 195) (ig B icP33 icZ36) L (rgm R icR37) Q := by
  refine g_al (show aCod 129 955 = some (.aload 0, 956) by decide +kernel) rfl ?_
  refine g_pu (show aCod 129 956 = some (.sipush 24, 958) by decide +kernel) ?_
  refine g_ni (p := 195) (m := 24) (S2 := (S0.take 196)) (show aCod 129 958 = some (.newarray .int, 960) by decide +kernel) rfl (by decide +kernel) (by decide) (by decide) (by decide +kernel) ?_
  rw [ig_row (by decide +kernel)]
  refine g_pr (show aCod 129 960 = some (.putfield 2351, 963) by decide +kernel) ⟨rfl, by decide, rfl⟩ ?_
  rw [rgm_up]
  exact k
def icR39 : List (Nat × Nat × Option Nat) := (157, 48, some 196) :: icR38
def icZ38 : List Nat := 196 :: icZ37
theorem ic_40 {Q : Option Value → List aSh → aFI → aFL → aFR → Prop} {B : aFI} {L : aFL} {R : aFR} (k : gWp 150 129 971 [.ref 157] [] (S0.take 197) (ig B icP33 icZ38) L (rgm R icR39) Q) : gWp 150 129 963 [.ref 157] [] (S0.take 196) (ig B icP33 icZ37) L (rgm R icR38) Q := by
  refine g_al (show aCod 129 963 = some (.aload 0, 964) by decide +kernel) rfl ?_
  refine g_pu (show aCod 129 964 = some (.sipush 12, 966) by decide +kernel) ?_
  refine g_ni (p := 196) (m := 12) (S2 := (S0.take 197)) (show aCod 129 966 = some (.newarray .int, 968) by decide +kernel) rfl (by decide +kernel) (by decide) (by decide) (by decide +kernel) ?_
  rw [ig_row (by decide +kernel)]
  refine g_pr (show aCod 129 968 = some (.putfield 2352, 971) by decide +kernel) ⟨rfl, by decide, rfl⟩ ?_
  rw [rgm_up]
  exact k
def icR40 : List (Nat × Nat × Option Nat) := (157, 49, some 197) :: icR39
def icZ39 : List Nat := 197 :: icZ38
theorem ic_41 {Q : Option Value → List aSh → aFI → aFL → aFR → Prop} {B : aFI} {L : aFL} {R : aFR} (k : gWp 150 129 979 [.ref 157] [] (S0.take 198) (ig B icP33 icZ39) L (rgm R icR40) Q) : gWp 150 129 971 [.ref 157] [] (S0.take 197) (ig B icP33 icZ38) L (rgm R icR39) Q := by
  refine g_al (show aCod 129 971 = some (.aload 0, 972) by decide +kernel) rfl ?_
  refine g_pu (show aCod 129 972 = some (.sipush 64, 974) by decide +kernel) ?_
  refine g_ni (p := 197) (m := 64) (S2 := (S0.take 198)) (show aCod 129 974 = some (.newarray .int, 976) by decide +kernel) rfl (by decide +kernel) (by decide) (by decide) (by decide +kernel) ?_
  rw [ig_row (by decide +kernel)]
  refine g_pr (show aCod 129 976 = some (.putfield 2353, 979) by decide +kernel) ⟨rfl, by decide, rfl⟩ ?_
  rw [rgm_up]
  exact k
def icP34 : List (Nat × Nat × Int32) := (198, 5, iI (0)) :: (198, 4, iI (1)) :: (198, 3, iI (0)) :: (198, 2, iI (0)) :: (198, 1, iI (1)) :: (198, 0, iI (0)) :: icP33
def icR41 : List (Nat × Nat × Option Nat) := (157, 50, some 198) :: icR40
def icZ40 : List Nat := 198 :: icZ39
theorem ic_42 {Q : Option Value → List aSh → aFI → aFL → aFR → Prop} {B : aFI} {L : aFL} {R : aFR} (k : gWp 150 129 1011 [.ref 157] [] (S0.take 199) (ig B icP34 icZ40) L (rgm R icR41) Q) : gWp 150 129 979 [.ref 157] [] (S0.take 198) (ig B icP33 icZ39) L (rgm R icR40) Q := by
  refine g_al (show aCod 129 979 = some (.aload 0, 980) by decide +kernel) rfl ?_
  refine g_pu (show aCod 129 980 = some (.sipush 6, 982) by decide +kernel) ?_
  refine g_ni (p := 198) (m := 6) (S2 := (S0.take 199)) (show aCod 129 982 = some (.newarray .int, 984) by decide +kernel) rfl (by decide +kernel) (by decide) (by decide) (by decide +kernel) ?_
  rw [ig_row (by decide +kernel)]
  refine g_du (show aCod 129 984 = some (.dup, 985) by decide +kernel) rfl ?_
  refine g_pu (show aCod 129 985 = some (.sipush 0, 986) by decide +kernel) ?_
  refine g_pu (show aCod 129 986 = some (.sipush 0, 987) by decide +kernel) ?_
  refine g_is (k2 := 0) (show aCod 129 987 = some (.iastore, 988) by decide +kernel) rfl (by decide) (by decide) ?_
  rw [ig_up]
  refine g_du (show aCod 129 988 = some (.dup, 989) by decide +kernel) rfl ?_
  refine g_pu (show aCod 129 989 = some (.sipush 1, 990) by decide +kernel) ?_
  refine g_pu (show aCod 129 990 = some (.sipush 1, 991) by decide +kernel) ?_
  refine g_is (k2 := 1) (show aCod 129 991 = some (.iastore, 992) by decide +kernel) rfl (by decide) (by decide) ?_
  rw [ig_up]
  refine g_du (show aCod 129 992 = some (.dup, 993) by decide +kernel) rfl ?_
  refine g_pu (show aCod 129 993 = some (.sipush 2, 994) by decide +kernel) ?_
  refine g_pu (show aCod 129 994 = some (.sipush 0, 995) by decide +kernel) ?_
  refine g_is (k2 := 2) (show aCod 129 995 = some (.iastore, 996) by decide +kernel) rfl (by decide) (by decide) ?_
  rw [ig_up]
  refine g_du (show aCod 129 996 = some (.dup, 997) by decide +kernel) rfl ?_
  refine g_pu (show aCod 129 997 = some (.sipush 3, 998) by decide +kernel) ?_
  refine g_pu (show aCod 129 998 = some (.sipush 0, 999) by decide +kernel) ?_
  refine g_is (k2 := 3) (show aCod 129 999 = some (.iastore, 1000) by decide +kernel) rfl (by decide) (by decide) ?_
  rw [ig_up]
  refine g_du (show aCod 129 1000 = some (.dup, 1001) by decide +kernel) rfl ?_
  refine g_pu (show aCod 129 1001 = some (.sipush 4, 1002) by decide +kernel) ?_
  refine g_pu (show aCod 129 1002 = some (.sipush 1, 1003) by decide +kernel) ?_
  refine g_is (k2 := 4) (show aCod 129 1003 = some (.iastore, 1004) by decide +kernel) rfl (by decide) (by decide) ?_
  rw [ig_up]
  refine g_du (show aCod 129 1004 = some (.dup, 1005) by decide +kernel) rfl ?_
  refine g_pu (show aCod 129 1005 = some (.sipush 5, 1006) by decide +kernel) ?_
  refine g_pu (show aCod 129 1006 = some (.sipush 0, 1007) by decide +kernel) ?_
  refine g_is (k2 := 5) (show aCod 129 1007 = some (.iastore, 1008) by decide +kernel) rfl (by decide) (by decide) ?_
  rw [ig_up]
  refine g_pr (show aCod 129 1008 = some (.putfield 2354, 1011) by decide +kernel) ⟨rfl, by decide, rfl⟩ ?_
  rw [rgm_up]
  exact k
def icP35 : List (Nat × Nat × Int32) := (199, 5, iI (-1)) :: (199, 4, iI (-1)) :: (199, 3, iI (-1)) :: (199, 2, iI (-1)) :: (199, 1, iI (-1)) :: (199, 0, iI (-1)) :: icP34
def icR42 : List (Nat × Nat × Option Nat) := (157, 51, some 199) :: icR41
def icZ41 : List Nat := 199 :: icZ40
theorem ic_43 {Q : Option Value → List aSh → aFI → aFL → aFR → Prop} {B : aFI} {L : aFL} {R : aFR} (k : gWp 150 129 1043 [.ref 157] [] (S0.take 200) (ig B icP35 icZ41) L (rgm R icR42) Q) : gWp 150 129 1011 [.ref 157] [] (S0.take 199) (ig B icP34 icZ40) L (rgm R icR41) Q := by
  refine g_al (show aCod 129 1011 = some (.aload 0, 1012) by decide +kernel) rfl ?_
  refine g_pu (show aCod 129 1012 = some (.sipush 6, 1014) by decide +kernel) ?_
  refine g_ni (p := 199) (m := 6) (S2 := (S0.take 200)) (show aCod 129 1014 = some (.newarray .int, 1016) by decide +kernel) rfl (by decide +kernel) (by decide) (by decide) (by decide +kernel) ?_
  rw [ig_row (by decide +kernel)]
  refine g_du (show aCod 129 1016 = some (.dup, 1017) by decide +kernel) rfl ?_
  refine g_pu (show aCod 129 1017 = some (.sipush 0, 1018) by decide +kernel) ?_
  refine g_pu (show aCod 129 1018 = some (.sipush (-1), 1019) by decide +kernel) ?_
  refine g_is (k2 := 0) (show aCod 129 1019 = some (.iastore, 1020) by decide +kernel) rfl (by decide) (by decide) ?_
  rw [ig_up]
  refine g_du (show aCod 129 1020 = some (.dup, 1021) by decide +kernel) rfl ?_
  refine g_pu (show aCod 129 1021 = some (.sipush 1, 1022) by decide +kernel) ?_
  refine g_pu (show aCod 129 1022 = some (.sipush (-1), 1023) by decide +kernel) ?_
  refine g_is (k2 := 1) (show aCod 129 1023 = some (.iastore, 1024) by decide +kernel) rfl (by decide) (by decide) ?_
  rw [ig_up]
  refine g_du (show aCod 129 1024 = some (.dup, 1025) by decide +kernel) rfl ?_
  refine g_pu (show aCod 129 1025 = some (.sipush 2, 1026) by decide +kernel) ?_
  refine g_pu (show aCod 129 1026 = some (.sipush (-1), 1027) by decide +kernel) ?_
  refine g_is (k2 := 2) (show aCod 129 1027 = some (.iastore, 1028) by decide +kernel) rfl (by decide) (by decide) ?_
  rw [ig_up]
  refine g_du (show aCod 129 1028 = some (.dup, 1029) by decide +kernel) rfl ?_
  refine g_pu (show aCod 129 1029 = some (.sipush 3, 1030) by decide +kernel) ?_
  refine g_pu (show aCod 129 1030 = some (.sipush (-1), 1031) by decide +kernel) ?_
  refine g_is (k2 := 3) (show aCod 129 1031 = some (.iastore, 1032) by decide +kernel) rfl (by decide) (by decide) ?_
  rw [ig_up]
  refine g_du (show aCod 129 1032 = some (.dup, 1033) by decide +kernel) rfl ?_
  refine g_pu (show aCod 129 1033 = some (.sipush 4, 1034) by decide +kernel) ?_
  refine g_pu (show aCod 129 1034 = some (.sipush (-1), 1035) by decide +kernel) ?_
  refine g_is (k2 := 4) (show aCod 129 1035 = some (.iastore, 1036) by decide +kernel) rfl (by decide) (by decide) ?_
  rw [ig_up]
  refine g_du (show aCod 129 1036 = some (.dup, 1037) by decide +kernel) rfl ?_
  refine g_pu (show aCod 129 1037 = some (.sipush 5, 1038) by decide +kernel) ?_
  refine g_pu (show aCod 129 1038 = some (.sipush (-1), 1039) by decide +kernel) ?_
  refine g_is (k2 := 5) (show aCod 129 1039 = some (.iastore, 1040) by decide +kernel) rfl (by decide) (by decide) ?_
  rw [ig_up]
  refine g_pr (show aCod 129 1040 = some (.putfield 2355, 1043) by decide +kernel) ⟨rfl, by decide, rfl⟩ ?_
  rw [rgm_up]
  exact k
def icR43 : List (Nat × Nat × Option Nat) := (157, 52, some 200) :: icR42
def icZ42 : List Nat := 200 :: icZ41
theorem ic_44 {Q : Option Value → List aSh → aFI → aFL → aFR → Prop} {B : aFI} {L : aFL} {R : aFR} (k : gWp 150 129 1051 [.ref 157] [] (S0.take 201) (ig B icP35 icZ42) L (rgm R icR43) Q) : gWp 150 129 1043 [.ref 157] [] (S0.take 200) (ig B icP35 icZ41) L (rgm R icR42) Q := by
  refine g_al (show aCod 129 1043 = some (.aload 0, 1044) by decide +kernel) rfl ?_
  refine g_pu (show aCod 129 1044 = some (.sipush 6, 1046) by decide +kernel) ?_
  refine g_ni (p := 200) (m := 6) (S2 := (S0.take 201)) (show aCod 129 1046 = some (.newarray .int, 1048) by decide +kernel) rfl (by decide +kernel) (by decide) (by decide) (by decide +kernel) ?_
  rw [ig_row (by decide +kernel)]
  refine g_pr (show aCod 129 1048 = some (.putfield 2356, 1051) by decide +kernel) ⟨rfl, by decide, rfl⟩ ?_
  rw [rgm_up]
  exact k
def icR44 : List (Nat × Nat × Option Nat) := (157, 53, some 201) :: icR43
def icZ43 : List Nat := 201 :: icZ42
theorem ic_45 {Q : Option Value → List aSh → aFI → aFL → aFR → Prop} {B : aFI} {L : aFL} {R : aFR} (k : gWp 150 129 1060 [.ref 157] [] (S0.take 202) (ig B icP35 icZ43) L (rgm R icR44) Q) : gWp 150 129 1051 [.ref 157] [] (S0.take 201) (ig B icP35 icZ42) L (rgm R icR43) Q := by
  refine g_al (show aCod 129 1051 = some (.aload 0, 1052) by decide +kernel) rfl ?_
  refine g_pu (show aCod 129 1052 = some (.sipush 3200, 1055) by decide +kernel) ?_
  refine g_ni (p := 201) (m := 3200) (S2 := (S0.take 202)) (show aCod 129 1055 = some (.newarray .int, 1057) by decide +kernel) rfl (by decide +kernel) (by decide) (by decide) (by decide +kernel) ?_
  rw [ig_row (by decide +kernel)]
  refine g_pr (show aCod 129 1057 = some (.putfield 2357, 1060) by decide +kernel) ⟨rfl, by decide, rfl⟩ ?_
  rw [rgm_up]
  exact k
def icR45 : List (Nat × Nat × Option Nat) := (157, 58, some 202) :: icR44
def icZ44 : List Nat := 202 :: icZ43
theorem ic_46 {Q : Option Value → List aSh → aFI → aFL → aFR → Prop} {B : aFI} {L : aFL} {R : aFR} (k : gWp 150 129 1069 [.ref 157] [] (S0.take 203) (ig B icP35 icZ44) L (rgm R icR45) Q) : gWp 150 129 1060 [.ref 157] [] (S0.take 202) (ig B icP35 icZ43) L (rgm R icR44) Q := by
  refine g_al (show aCod 129 1060 = some (.aload 0, 1061) by decide +kernel) rfl ?_
  refine g_pu (show aCod 129 1061 = some (.sipush 188, 1064) by decide +kernel) ?_
  refine g_ni (p := 202) (m := 188) (S2 := (S0.take 203)) (show aCod 129 1064 = some (.newarray .int, 1066) by decide +kernel) rfl (by decide +kernel) (by decide) (by decide) (by decide +kernel) ?_
  rw [ig_row (by decide +kernel)]
  refine g_pr (show aCod 129 1066 = some (.putfield 2362, 1069) by decide +kernel) ⟨rfl, by decide, rfl⟩ ?_
  rw [rgm_up]
  exact k
def icR46 : List (Nat × Nat × Option Nat) := (157, 59, some 203) :: icR45
def icZ45 : List Nat := 203 :: icZ44
theorem ic_47 {Q : Option Value → List aSh → aFI → aFL → aFR → Prop} {B : aFI} {L : aFL} {R : aFR} (k : gWp 150 129 1078 [.ref 157] [] (S0.take 204) (ig B icP35 icZ45) L (rgm R icR46) Q) : gWp 150 129 1069 [.ref 157] [] (S0.take 203) (ig B icP35 icZ44) L (rgm R icR45) Q := by
  refine g_al (show aCod 129 1069 = some (.aload 0, 1070) by decide +kernel) rfl ?_
  refine g_pu (show aCod 129 1070 = some (.sipush 188, 1073) by decide +kernel) ?_
  refine g_ni (p := 203) (m := 188) (S2 := (S0.take 204)) (show aCod 129 1073 = some (.newarray .int, 1075) by decide +kernel) rfl (by decide +kernel) (by decide) (by decide) (by decide +kernel) ?_
  rw [ig_row (by decide +kernel)]
  refine g_pr (show aCod 129 1075 = some (.putfield 2363, 1078) by decide +kernel) ⟨rfl, by decide, rfl⟩ ?_
  rw [rgm_up]
  exact k
def icR47 : List (Nat × Nat × Option Nat) := (157, 60, some 204) :: icR46
theorem ic_48 {Q : Option Value → List aSh → aFI → aFL → aFR → Prop} {B : aFI} {L : aFL} {R : aFR} (k : gWp 150 129 1086 [.ref 157] [] (S0.take 205) (ig B icP35 icZ45) (aRow L 204 (fun _ => 0)) (rgm R icR47) Q) : gWp 150 129 1078 [.ref 157] [] (S0.take 204) (ig B icP35 icZ45) L (rgm R icR46) Q := by
  refine g_al (show aCod 129 1078 = some (.aload 0, 1079) by decide +kernel) rfl ?_
  refine g_pu (show aCod 129 1079 = some (.sipush 8, 1081) by decide +kernel) ?_
  refine g_nl (p := 204) (m := 8) (S2 := (S0.take 205)) (show aCod 129 1081 = some (.newarray .long, 1083) by decide +kernel) rfl (by decide +kernel) (by decide) (by decide) (by decide +kernel) ?_
  refine g_pr (show aCod 129 1083 = some (.putfield 2364, 1086) by decide +kernel) ⟨rfl, by decide, rfl⟩ ?_
  rw [rgm_up]
  exact k
def icR48 : List (Nat × Nat × Option Nat) := (157, 62, some 205) :: icR47
def icZ46 : List Nat := 205 :: icZ45
theorem ic_49 {Q : Option Value → List aSh → aFI → aFL → aFR → Prop} {B : aFI} {L : aFL} {R : aFR} (k : gWp 150 129 1094 [.ref 157] [] (S0.take 206) (ig B icP35 icZ46) L (rgm R icR48) Q) : gWp 150 129 1086 [.ref 157] [] (S0.take 205) (ig B icP35 icZ45) L (rgm R icR47) Q := by
  refine g_al (show aCod 129 1086 = some (.aload 0, 1087) by decide +kernel) rfl ?_
  refine g_pu (show aCod 129 1087 = some (.sipush 8, 1089) by decide +kernel) ?_
  refine g_ni (p := 205) (m := 8) (S2 := (S0.take 206)) (show aCod 129 1089 = some (.newarray .int, 1091) by decide +kernel) rfl (by decide +kernel) (by decide) (by decide) (by decide +kernel) ?_
  rw [ig_row (by decide +kernel)]
  refine g_pr (show aCod 129 1091 = some (.putfield 2366, 1094) by decide +kernel) ⟨rfl, by decide, rfl⟩ ?_
  rw [rgm_up]
  exact k
def icR49 : List (Nat × Nat × Option Nat) := (157, 66, some 206) :: icR48
def icZ47 : List Nat := 206 :: icZ46
theorem ic_50 {Q : Option Value → List aSh → aFI → aFL → aFR → Prop} {B : aFI} {L : aFL} {R : aFR} (k : gWp 150 129 1102 [.ref 157] [] (S0.take 207) (ig B icP35 icZ47) L (rgm R icR49) Q) : gWp 150 129 1094 [.ref 157] [] (S0.take 206) (ig B icP35 icZ46) L (rgm R icR48) Q := by
  refine g_al (show aCod 129 1094 = some (.aload 0, 1095) by decide +kernel) rfl ?_
  refine g_pu (show aCod 129 1095 = some (.sipush 10, 1097) by decide +kernel) ?_
  refine g_ni (p := 206) (m := 10) (S2 := (S0.take 207)) (show aCod 129 1097 = some (.newarray .int, 1099) by decide +kernel) rfl (by decide +kernel) (by decide) (by decide) (by decide +kernel) ?_
  rw [ig_row (by decide +kernel)]
  refine g_pr (show aCod 129 1099 = some (.putfield 2370, 1102) by decide +kernel) ⟨rfl, by decide, rfl⟩ ?_
  rw [rgm_up]
  exact k
def icP36 : List (Nat × Nat × Int32) := (157, 67, iI (-1)) :: icP35
theorem ic_51 {Q : Option Value → List aSh → aFI → aFL → aFR → Prop} {B : aFI} {L : aFL} {R : aFR} (k : gWp 150 129 1107 [.ref 157] [] (S0.take 207) (ig B icP36 icZ47) L (rgm R icR49) Q) : gWp 150 129 1102 [.ref 157] [] (S0.take 207) (ig B icP35 icZ47) L (rgm R icR49) Q := by
  refine g_al (show aCod 129 1102 = some (.aload 0, 1103) by decide +kernel) rfl ?_
  refine g_pu (show aCod 129 1103 = some (.sipush (-1), 1104) by decide +kernel) ?_
  refine g_pz (show aCod 129 1104 = some (.putfield 2371, 1107) by decide +kernel) ⟨rfl, by decide, rfl, by decide, rfl, rfl⟩ ?_
  rw [ig_up]
  exact k
def icP37 : List (Nat × Nat × Int32) := (157, 68, iI (-1)) :: icP36
theorem ic_52 {Q : Option Value → List aSh → aFI → aFL → aFR → Prop} {B : aFI} {L : aFL} {R : aFR} (k : gWp 150 129 1112 [.ref 157] [] (S0.take 207) (ig B icP37 icZ47) L (rgm R icR49) Q) : gWp 150 129 1107 [.ref 157] [] (S0.take 207) (ig B icP36 icZ47) L (rgm R icR49) Q := by
  refine g_al (show aCod 129 1107 = some (.aload 0, 1108) by decide +kernel) rfl ?_
  refine g_pu (show aCod 129 1108 = some (.sipush (-1), 1109) by decide +kernel) ?_
  refine g_pz (show aCod 129 1109 = some (.putfield 2372, 1112) by decide +kernel) ⟨rfl, by decide, rfl, by decide, rfl, rfl⟩ ?_
  rw [ig_up]
  exact k
def icR50 : List (Nat × Nat × Option Nat) := (157, 69, some 207) :: icR49
def icZ48 : List Nat := 207 :: icZ47
theorem ic_53 {Q : Option Value → List aSh → aFI → aFL → aFR → Prop} {B : aFI} {L : aFL} {R : aFR} (k : gWp 150 129 1121 [.ref 157] [] (S0.take 208) (ig B icP37 icZ48) L (rgm R icR50) Q) : gWp 150 129 1112 [.ref 157] [] (S0.take 207) (ig B icP37 icZ47) L (rgm R icR49) Q := by
  refine g_al (show aCod 129 1112 = some (.aload 0, 1113) by decide +kernel) rfl ?_
  refine g_pu (show aCod 129 1113 = some (.sipush 3760, 1116) by decide +kernel) ?_
  refine g_ni (p := 207) (m := 3760) (S2 := (S0.take 208)) (show aCod 129 1116 = some (.newarray .int, 1118) by decide +kernel) rfl (by decide +kernel) (by decide) (by decide) (by decide +kernel) ?_
  rw [ig_row (by decide +kernel)]
  refine g_pr (show aCod 129 1118 = some (.putfield 2373, 1121) by decide +kernel) ⟨rfl, by decide, rfl⟩ ?_
  rw [rgm_up]
  exact k
theorem ic_54 {Q : Option Value → List aSh → aFI → aFL → aFR → Prop} {B : aFI} {L : aFL} {R : aFR} (k : gWp 150 129 1126 [.ref 157] [] (S0.take 208) (ig B icP37 icZ48) (aUp L 157 72 (lI 1)) (rgm R icR50) Q) : gWp 150 129 1121 [.ref 157] [] (S0.take 208) (ig B icP37 icZ48) L (rgm R icR50) Q := by
  refine g_al (show aCod 129 1121 = some (.aload 0, 1122) by decide +kernel) rfl ?_
  refine g_pl (show aCod 129 1122 = some (.goto_w 1, 1123) by decide +kernel) ?_
  refine g_pj (show aCod 129 1123 = some (.putfield 2376, 1126) by decide +kernel) ⟨rfl, by decide, rfl⟩ ?_
  exact k
def icP38 : List (Nat × Nat × Int32) := (208, 4, iI (116)) :: (208, 3, iI (115)) :: (208, 2, iI (114)) :: (208, 1, iI (105)) :: (208, 0, iI (102)) :: icP37
def icR51 : List (Nat × Nat × Option Nat) := (157, 73, some 208) :: icR50
def icZ49 : List Nat := 208 :: icZ48
theorem ic_55 {Q : Option Value → List aSh → aFI → aFL → aFR → Prop} {B : aFI} {L : aFL} {R : aFR} (k : gWp 150 129 1158 [.ref 157] [] (S0.take 209) (ig B icP38 icZ49) L (rgm R icR51) Q) : gWp 150 129 1126 [.ref 157] [] (S0.take 208) (ig B icP37 icZ48) L (rgm R icR50) Q := by
  refine g_al (show aCod 129 1126 = some (.aload 0, 1127) by decide +kernel) rfl ?_
  refine g_pu (show aCod 129 1127 = some (.sipush 5, 1128) by decide +kernel) ?_
  refine g_nc (p := 208) (m := 5) (S2 := (S0.take 209)) (show aCod 129 1128 = some (.newarray .char, 1130) by decide +kernel) rfl (by decide +kernel) (by decide) (by decide) (by decide +kernel) ?_
  rw [ig_row (by decide +kernel)]
  refine g_du (show aCod 129 1130 = some (.dup, 1131) by decide +kernel) rfl ?_
  refine g_pu (show aCod 129 1131 = some (.sipush 0, 1132) by decide +kernel) ?_
  refine g_pu (show aCod 129 1132 = some (.sipush 102, 1134) by decide +kernel) ?_
  refine g_cs (k2 := 0) (x2 := iI 102) (show aCod 129 1134 = some (.castore, 1135) by decide +kernel) rfl (by decide) (by decide) (by decide) ?_
  rw [ig_up]
  refine g_du (show aCod 129 1135 = some (.dup, 1136) by decide +kernel) rfl ?_
  refine g_pu (show aCod 129 1136 = some (.sipush 1, 1137) by decide +kernel) ?_
  refine g_pu (show aCod 129 1137 = some (.sipush 105, 1139) by decide +kernel) ?_
  refine g_cs (k2 := 1) (x2 := iI 105) (show aCod 129 1139 = some (.castore, 1140) by decide +kernel) rfl (by decide) (by decide) (by decide) ?_
  rw [ig_up]
  refine g_du (show aCod 129 1140 = some (.dup, 1141) by decide +kernel) rfl ?_
  refine g_pu (show aCod 129 1141 = some (.sipush 2, 1142) by decide +kernel) ?_
  refine g_pu (show aCod 129 1142 = some (.sipush 114, 1144) by decide +kernel) ?_
  refine g_cs (k2 := 2) (x2 := iI 114) (show aCod 129 1144 = some (.castore, 1145) by decide +kernel) rfl (by decide) (by decide) (by decide) ?_
  rw [ig_up]
  refine g_du (show aCod 129 1145 = some (.dup, 1146) by decide +kernel) rfl ?_
  refine g_pu (show aCod 129 1146 = some (.sipush 3, 1147) by decide +kernel) ?_
  refine g_pu (show aCod 129 1147 = some (.sipush 115, 1149) by decide +kernel) ?_
  refine g_cs (k2 := 3) (x2 := iI 115) (show aCod 129 1149 = some (.castore, 1150) by decide +kernel) rfl (by decide) (by decide) (by decide) ?_
  rw [ig_up]
  refine g_du (show aCod 129 1150 = some (.dup, 1151) by decide +kernel) rfl ?_
  refine g_pu (show aCod 129 1151 = some (.sipush 4, 1152) by decide +kernel) ?_
  refine g_pu (show aCod 129 1152 = some (.sipush 116, 1154) by decide +kernel) ?_
  refine g_cs (k2 := 4) (x2 := iI 116) (show aCod 129 1154 = some (.castore, 1155) by decide +kernel) rfl (by decide) (by decide) (by decide) ?_
  rw [ig_up]
  refine g_pr (show aCod 129 1155 = some (.putfield 2377, 1158) by decide +kernel) ⟨rfl, by decide, rfl⟩ ?_
  rw [rgm_up]
  exact k
def icP39 : List (Nat × Nat × Int32) := (209, 3, iI (116)) :: (209, 2, iI (115)) :: (209, 1, iI (97)) :: (209, 0, iI (108)) :: icP38
def icR52 : List (Nat × Nat × Option Nat) := (157, 74, some 209) :: icR51
def icZ50 : List Nat := 209 :: icZ49
theorem ic_56 {Q : Option Value → List aSh → aFI → aFL → aFR → Prop} {B : aFI} {L : aFL} {R : aFR} (k : gWp 150 129 1185 [.ref 157] [] (S0.take 210) (ig B icP39 icZ50) L (rgm R icR52) Q) : gWp 150 129 1158 [.ref 157] [] (S0.take 209) (ig B icP38 icZ49) L (rgm R icR51) Q := by
  refine g_al (show aCod 129 1158 = some (.aload 0, 1159) by decide +kernel) rfl ?_
  refine g_pu (show aCod 129 1159 = some (.sipush 4, 1160) by decide +kernel) ?_
  refine g_nc (p := 209) (m := 4) (S2 := (S0.take 210)) (show aCod 129 1160 = some (.newarray .char, 1162) by decide +kernel) rfl (by decide +kernel) (by decide) (by decide) (by decide +kernel) ?_
  rw [ig_row (by decide +kernel)]
  refine g_du (show aCod 129 1162 = some (.dup, 1163) by decide +kernel) rfl ?_
  refine g_pu (show aCod 129 1163 = some (.sipush 0, 1164) by decide +kernel) ?_
  refine g_pu (show aCod 129 1164 = some (.sipush 108, 1166) by decide +kernel) ?_
  refine g_cs (k2 := 0) (x2 := iI 108) (show aCod 129 1166 = some (.castore, 1167) by decide +kernel) rfl (by decide) (by decide) (by decide) ?_
  rw [ig_up]
  refine g_du (show aCod 129 1167 = some (.dup, 1168) by decide +kernel) rfl ?_
  refine g_pu (show aCod 129 1168 = some (.sipush 1, 1169) by decide +kernel) ?_
  refine g_pu (show aCod 129 1169 = some (.sipush 97, 1171) by decide +kernel) ?_
  refine g_cs (k2 := 1) (x2 := iI 97) (show aCod 129 1171 = some (.castore, 1172) by decide +kernel) rfl (by decide) (by decide) (by decide) ?_
  rw [ig_up]
  refine g_du (show aCod 129 1172 = some (.dup, 1173) by decide +kernel) rfl ?_
  refine g_pu (show aCod 129 1173 = some (.sipush 2, 1174) by decide +kernel) ?_
  refine g_pu (show aCod 129 1174 = some (.sipush 115, 1176) by decide +kernel) ?_
  refine g_cs (k2 := 2) (x2 := iI 115) (show aCod 129 1176 = some (.castore, 1177) by decide +kernel) rfl (by decide) (by decide) (by decide) ?_
  rw [ig_up]
  refine g_du (show aCod 129 1177 = some (.dup, 1178) by decide +kernel) rfl ?_
  refine g_pu (show aCod 129 1178 = some (.sipush 3, 1179) by decide +kernel) ?_
  refine g_pu (show aCod 129 1179 = some (.sipush 116, 1181) by decide +kernel) ?_
  refine g_cs (k2 := 3) (x2 := iI 116) (show aCod 129 1181 = some (.castore, 1182) by decide +kernel) rfl (by decide) (by decide) (by decide) ?_
  rw [ig_up]
  refine g_pr (show aCod 129 1182 = some (.putfield 2378, 1185) by decide +kernel) ⟨rfl, by decide, rfl⟩ ?_
  rw [rgm_up]
  exact k
def icP40 : List (Nat × Nat × Int32) := (210, 4, iI (110)) :: (210, 3, iI (101)) :: (210, 2, iI (116)) :: (210, 1, iI (102)) :: (210, 0, iI (111)) :: icP39
def icR53 : List (Nat × Nat × Option Nat) := (157, 75, some 210) :: icR52
def icZ51 : List Nat := 210 :: icZ50
theorem ic_57 {Q : Option Value → List aSh → aFI → aFL → aFR → Prop} {B : aFI} {L : aFL} {R : aFR} (k : gWp 150 129 1217 [.ref 157] [] (S0.take 211) (ig B icP40 icZ51) L (rgm R icR53) Q) : gWp 150 129 1185 [.ref 157] [] (S0.take 210) (ig B icP39 icZ50) L (rgm R icR52) Q := by
  refine g_al (show aCod 129 1185 = some (.aload 0, 1186) by decide +kernel) rfl ?_
  refine g_pu (show aCod 129 1186 = some (.sipush 5, 1187) by decide +kernel) ?_
  refine g_nc (p := 210) (m := 5) (S2 := (S0.take 211)) (show aCod 129 1187 = some (.newarray .char, 1189) by decide +kernel) rfl (by decide +kernel) (by decide) (by decide) (by decide +kernel) ?_
  rw [ig_row (by decide +kernel)]
  refine g_du (show aCod 129 1189 = some (.dup, 1190) by decide +kernel) rfl ?_
  refine g_pu (show aCod 129 1190 = some (.sipush 0, 1191) by decide +kernel) ?_
  refine g_pu (show aCod 129 1191 = some (.sipush 111, 1193) by decide +kernel) ?_
  refine g_cs (k2 := 0) (x2 := iI 111) (show aCod 129 1193 = some (.castore, 1194) by decide +kernel) rfl (by decide) (by decide) (by decide) ?_
  rw [ig_up]
  refine g_du (show aCod 129 1194 = some (.dup, 1195) by decide +kernel) rfl ?_
  refine g_pu (show aCod 129 1195 = some (.sipush 1, 1196) by decide +kernel) ?_
  refine g_pu (show aCod 129 1196 = some (.sipush 102, 1198) by decide +kernel) ?_
  refine g_cs (k2 := 1) (x2 := iI 102) (show aCod 129 1198 = some (.castore, 1199) by decide +kernel) rfl (by decide) (by decide) (by decide) ?_
  rw [ig_up]
  refine g_du (show aCod 129 1199 = some (.dup, 1200) by decide +kernel) rfl ?_
  refine g_pu (show aCod 129 1200 = some (.sipush 2, 1201) by decide +kernel) ?_
  refine g_pu (show aCod 129 1201 = some (.sipush 116, 1203) by decide +kernel) ?_
  refine g_cs (k2 := 2) (x2 := iI 116) (show aCod 129 1203 = some (.castore, 1204) by decide +kernel) rfl (by decide) (by decide) (by decide) ?_
  rw [ig_up]
  refine g_du (show aCod 129 1204 = some (.dup, 1205) by decide +kernel) rfl ?_
  refine g_pu (show aCod 129 1205 = some (.sipush 3, 1206) by decide +kernel) ?_
  refine g_pu (show aCod 129 1206 = some (.sipush 101, 1208) by decide +kernel) ?_
  refine g_cs (k2 := 3) (x2 := iI 101) (show aCod 129 1208 = some (.castore, 1209) by decide +kernel) rfl (by decide) (by decide) (by decide) ?_
  rw [ig_up]
  refine g_du (show aCod 129 1209 = some (.dup, 1210) by decide +kernel) rfl ?_
  refine g_pu (show aCod 129 1210 = some (.sipush 4, 1211) by decide +kernel) ?_
  refine g_pu (show aCod 129 1211 = some (.sipush 110, 1213) by decide +kernel) ?_
  refine g_cs (k2 := 4) (x2 := iI 110) (show aCod 129 1213 = some (.castore, 1214) by decide +kernel) rfl (by decide) (by decide) (by decide) ?_
  rw [ig_up]
  refine g_pr (show aCod 129 1214 = some (.putfield 2379, 1217) by decide +kernel) ⟨rfl, by decide, rfl⟩ ?_
  rw [rgm_up]
  exact k
def icP41 : List (Nat × Nat × Int32) := (211, 4, iI (108)) :: (211, 3, iI (97)) :: (211, 2, iI (116)) :: (211, 1, iI (111)) :: (211, 0, iI (116)) :: icP40
def icR54 : List (Nat × Nat × Option Nat) := (157, 76, some 211) :: icR53
def icZ52 : List Nat := 211 :: icZ51
theorem ic_58 {Q : Option Value → List aSh → aFI → aFL → aFR → Prop} {B : aFI} {L : aFL} {R : aFR} (k : gWp 150 129 1249 [.ref 157] [] (S0.take 212) (ig B icP41 icZ52) L (rgm R icR54) Q) : gWp 150 129 1217 [.ref 157] [] (S0.take 211) (ig B icP40 icZ51) L (rgm R icR53) Q := by
  refine g_al (show aCod 129 1217 = some (.aload 0, 1218) by decide +kernel) rfl ?_
  refine g_pu (show aCod 129 1218 = some (.sipush 5, 1219) by decide +kernel) ?_
  refine g_nc (p := 211) (m := 5) (S2 := (S0.take 212)) (show aCod 129 1219 = some (.newarray .char, 1221) by decide +kernel) rfl (by decide +kernel) (by decide) (by decide) (by decide +kernel) ?_
  rw [ig_row (by decide +kernel)]
  refine g_du (show aCod 129 1221 = some (.dup, 1222) by decide +kernel) rfl ?_
  refine g_pu (show aCod 129 1222 = some (.sipush 0, 1223) by decide +kernel) ?_
  refine g_pu (show aCod 129 1223 = some (.sipush 116, 1225) by decide +kernel) ?_
  refine g_cs (k2 := 0) (x2 := iI 116) (show aCod 129 1225 = some (.castore, 1226) by decide +kernel) rfl (by decide) (by decide) (by decide) ?_
  rw [ig_up]
  refine g_du (show aCod 129 1226 = some (.dup, 1227) by decide +kernel) rfl ?_
  refine g_pu (show aCod 129 1227 = some (.sipush 1, 1228) by decide +kernel) ?_
  refine g_pu (show aCod 129 1228 = some (.sipush 111, 1230) by decide +kernel) ?_
  refine g_cs (k2 := 1) (x2 := iI 111) (show aCod 129 1230 = some (.castore, 1231) by decide +kernel) rfl (by decide) (by decide) (by decide) ?_
  rw [ig_up]
  refine g_du (show aCod 129 1231 = some (.dup, 1232) by decide +kernel) rfl ?_
  refine g_pu (show aCod 129 1232 = some (.sipush 2, 1233) by decide +kernel) ?_
  refine g_pu (show aCod 129 1233 = some (.sipush 116, 1235) by decide +kernel) ?_
  refine g_cs (k2 := 2) (x2 := iI 116) (show aCod 129 1235 = some (.castore, 1236) by decide +kernel) rfl (by decide) (by decide) (by decide) ?_
  rw [ig_up]
  refine g_du (show aCod 129 1236 = some (.dup, 1237) by decide +kernel) rfl ?_
  refine g_pu (show aCod 129 1237 = some (.sipush 3, 1238) by decide +kernel) ?_
  refine g_pu (show aCod 129 1238 = some (.sipush 97, 1240) by decide +kernel) ?_
  refine g_cs (k2 := 3) (x2 := iI 97) (show aCod 129 1240 = some (.castore, 1241) by decide +kernel) rfl (by decide) (by decide) (by decide) ?_
  rw [ig_up]
  refine g_du (show aCod 129 1241 = some (.dup, 1242) by decide +kernel) rfl ?_
  refine g_pu (show aCod 129 1242 = some (.sipush 4, 1243) by decide +kernel) ?_
  refine g_pu (show aCod 129 1243 = some (.sipush 108, 1245) by decide +kernel) ?_
  refine g_cs (k2 := 4) (x2 := iI 108) (show aCod 129 1245 = some (.castore, 1246) by decide +kernel) rfl (by decide) (by decide) (by decide) ?_
  rw [ig_up]
  refine g_pr (show aCod 129 1246 = some (.putfield 2380, 1249) by decide +kernel) ⟨rfl, by decide, rfl⟩ ?_
  rw [rgm_up]
  exact k
def icP42 : List (Nat × Nat × Int32) := (212, 3, iI (116)) :: (212, 2, iI (115)) :: (212, 1, iI (111)) :: (212, 0, iI (109)) :: icP41
def icR55 : List (Nat × Nat × Option Nat) := (157, 77, some 212) :: icR54
def icZ53 : List Nat := 212 :: icZ52
theorem ic_59 {Q : Option Value → List aSh → aFI → aFL → aFR → Prop} {B : aFI} {L : aFL} {R : aFR} (k : gWp 150 129 1276 [.ref 157] [] (S0.take 213) (ig B icP42 icZ53) L (rgm R icR55) Q) : gWp 150 129 1249 [.ref 157] [] (S0.take 212) (ig B icP41 icZ52) L (rgm R icR54) Q := by
  refine g_al (show aCod 129 1249 = some (.aload 0, 1250) by decide +kernel) rfl ?_
  refine g_pu (show aCod 129 1250 = some (.sipush 4, 1251) by decide +kernel) ?_
  refine g_nc (p := 212) (m := 4) (S2 := (S0.take 213)) (show aCod 129 1251 = some (.newarray .char, 1253) by decide +kernel) rfl (by decide +kernel) (by decide) (by decide) (by decide +kernel) ?_
  rw [ig_row (by decide +kernel)]
  refine g_du (show aCod 129 1253 = some (.dup, 1254) by decide +kernel) rfl ?_
  refine g_pu (show aCod 129 1254 = some (.sipush 0, 1255) by decide +kernel) ?_
  refine g_pu (show aCod 129 1255 = some (.sipush 109, 1257) by decide +kernel) ?_
  refine g_cs (k2 := 0) (x2 := iI 109) (show aCod 129 1257 = some (.castore, 1258) by decide +kernel) rfl (by decide) (by decide) (by decide) ?_
  rw [ig_up]
  refine g_du (show aCod 129 1258 = some (.dup, 1259) by decide +kernel) rfl ?_
  refine g_pu (show aCod 129 1259 = some (.sipush 1, 1260) by decide +kernel) ?_
  refine g_pu (show aCod 129 1260 = some (.sipush 111, 1262) by decide +kernel) ?_
  refine g_cs (k2 := 1) (x2 := iI 111) (show aCod 129 1262 = some (.castore, 1263) by decide +kernel) rfl (by decide) (by decide) (by decide) ?_
  rw [ig_up]
  refine g_du (show aCod 129 1263 = some (.dup, 1264) by decide +kernel) rfl ?_
  refine g_pu (show aCod 129 1264 = some (.sipush 2, 1265) by decide +kernel) ?_
  refine g_pu (show aCod 129 1265 = some (.sipush 115, 1267) by decide +kernel) ?_
  refine g_cs (k2 := 2) (x2 := iI 115) (show aCod 129 1267 = some (.castore, 1268) by decide +kernel) rfl (by decide) (by decide) (by decide) ?_
  rw [ig_up]
  refine g_du (show aCod 129 1268 = some (.dup, 1269) by decide +kernel) rfl ?_
  refine g_pu (show aCod 129 1269 = some (.sipush 3, 1270) by decide +kernel) ?_
  refine g_pu (show aCod 129 1270 = some (.sipush 116, 1272) by decide +kernel) ?_
  refine g_cs (k2 := 3) (x2 := iI 116) (show aCod 129 1272 = some (.castore, 1273) by decide +kernel) rfl (by decide) (by decide) (by decide) ?_
  rw [ig_up]
  refine g_pr (show aCod 129 1273 = some (.putfield 2381, 1276) by decide +kernel) ⟨rfl, by decide, rfl⟩ ?_
  rw [rgm_up]
  exact k
def icP43 : List (Nat × Nat × Int32) := (213, 4, iI (116)) :: (213, 3, iI (115)) :: (213, 2, iI (97)) :: (213, 1, iI (101)) :: (213, 0, iI (108)) :: icP42
def icR56 : List (Nat × Nat × Option Nat) := (157, 78, some 213) :: icR55
def icZ54 : List Nat := 213 :: icZ53
theorem ic_60 {Q : Option Value → List aSh → aFI → aFL → aFR → Prop} {B : aFI} {L : aFL} {R : aFR} (k : gWp 150 129 1308 [.ref 157] [] (S0.take 214) (ig B icP43 icZ54) L (rgm R icR56) Q) : gWp 150 129 1276 [.ref 157] [] (S0.take 213) (ig B icP42 icZ53) L (rgm R icR55) Q := by
  refine g_al (show aCod 129 1276 = some (.aload 0, 1277) by decide +kernel) rfl ?_
  refine g_pu (show aCod 129 1277 = some (.sipush 5, 1278) by decide +kernel) ?_
  refine g_nc (p := 213) (m := 5) (S2 := (S0.take 214)) (show aCod 129 1278 = some (.newarray .char, 1280) by decide +kernel) rfl (by decide +kernel) (by decide) (by decide) (by decide +kernel) ?_
  rw [ig_row (by decide +kernel)]
  refine g_du (show aCod 129 1280 = some (.dup, 1281) by decide +kernel) rfl ?_
  refine g_pu (show aCod 129 1281 = some (.sipush 0, 1282) by decide +kernel) ?_
  refine g_pu (show aCod 129 1282 = some (.sipush 108, 1284) by decide +kernel) ?_
  refine g_cs (k2 := 0) (x2 := iI 108) (show aCod 129 1284 = some (.castore, 1285) by decide +kernel) rfl (by decide) (by decide) (by decide) ?_
  rw [ig_up]
  refine g_du (show aCod 129 1285 = some (.dup, 1286) by decide +kernel) rfl ?_
  refine g_pu (show aCod 129 1286 = some (.sipush 1, 1287) by decide +kernel) ?_
  refine g_pu (show aCod 129 1287 = some (.sipush 101, 1289) by decide +kernel) ?_
  refine g_cs (k2 := 1) (x2 := iI 101) (show aCod 129 1289 = some (.castore, 1290) by decide +kernel) rfl (by decide) (by decide) (by decide) ?_
  rw [ig_up]
  refine g_du (show aCod 129 1290 = some (.dup, 1291) by decide +kernel) rfl ?_
  refine g_pu (show aCod 129 1291 = some (.sipush 2, 1292) by decide +kernel) ?_
  refine g_pu (show aCod 129 1292 = some (.sipush 97, 1294) by decide +kernel) ?_
  refine g_cs (k2 := 2) (x2 := iI 97) (show aCod 129 1294 = some (.castore, 1295) by decide +kernel) rfl (by decide) (by decide) (by decide) ?_
  rw [ig_up]
  refine g_du (show aCod 129 1295 = some (.dup, 1296) by decide +kernel) rfl ?_
  refine g_pu (show aCod 129 1296 = some (.sipush 3, 1297) by decide +kernel) ?_
  refine g_pu (show aCod 129 1297 = some (.sipush 115, 1299) by decide +kernel) ?_
  refine g_cs (k2 := 3) (x2 := iI 115) (show aCod 129 1299 = some (.castore, 1300) by decide +kernel) rfl (by decide) (by decide) (by decide) ?_
  rw [ig_up]
  refine g_du (show aCod 129 1300 = some (.dup, 1301) by decide +kernel) rfl ?_
  refine g_pu (show aCod 129 1301 = some (.sipush 4, 1302) by decide +kernel) ?_
  refine g_pu (show aCod 129 1302 = some (.sipush 116, 1304) by decide +kernel) ?_
  refine g_cs (k2 := 4) (x2 := iI 116) (show aCod 129 1304 = some (.castore, 1305) by decide +kernel) rfl (by decide) (by decide) (by decide) ?_
  rw [ig_up]
  refine g_pr (show aCod 129 1305 = some (.putfield 2382, 1308) by decide +kernel) ⟨rfl, by decide, rfl⟩ ?_
  rw [rgm_up]
  exact k
def icP44 : List (Nat × Nat × Int32) := (214, 2, iI (116)) :: (214, 1, iI (111)) :: (214, 0, iI (110)) :: icP43
def icR57 : List (Nat × Nat × Option Nat) := (157, 79, some 214) :: icR56
def icZ55 : List Nat := 214 :: icZ54
theorem ic_61 {Q : Option Value → List aSh → aFI → aFL → aFR → Prop} {B : aFI} {L : aFL} {R : aFR} (k : gWp 150 129 1330 [.ref 157] [] (S0.take 215) (ig B icP44 icZ55) L (rgm R icR57) Q) : gWp 150 129 1308 [.ref 157] [] (S0.take 214) (ig B icP43 icZ54) L (rgm R icR56) Q := by
  refine g_al (show aCod 129 1308 = some (.aload 0, 1309) by decide +kernel) rfl ?_
  refine g_pu (show aCod 129 1309 = some (.sipush 3, 1310) by decide +kernel) ?_
  refine g_nc (p := 214) (m := 3) (S2 := (S0.take 215)) (show aCod 129 1310 = some (.newarray .char, 1312) by decide +kernel) rfl (by decide +kernel) (by decide) (by decide) (by decide +kernel) ?_
  rw [ig_row (by decide +kernel)]
  refine g_du (show aCod 129 1312 = some (.dup, 1313) by decide +kernel) rfl ?_
  refine g_pu (show aCod 129 1313 = some (.sipush 0, 1314) by decide +kernel) ?_
  refine g_pu (show aCod 129 1314 = some (.sipush 110, 1316) by decide +kernel) ?_
  refine g_cs (k2 := 0) (x2 := iI 110) (show aCod 129 1316 = some (.castore, 1317) by decide +kernel) rfl (by decide) (by decide) (by decide) ?_
  rw [ig_up]
  refine g_du (show aCod 129 1317 = some (.dup, 1318) by decide +kernel) rfl ?_
  refine g_pu (show aCod 129 1318 = some (.sipush 1, 1319) by decide +kernel) ?_
  refine g_pu (show aCod 129 1319 = some (.sipush 111, 1321) by decide +kernel) ?_
  refine g_cs (k2 := 1) (x2 := iI 111) (show aCod 129 1321 = some (.castore, 1322) by decide +kernel) rfl (by decide) (by decide) (by decide) ?_
  rw [ig_up]
  refine g_du (show aCod 129 1322 = some (.dup, 1323) by decide +kernel) rfl ?_
  refine g_pu (show aCod 129 1323 = some (.sipush 2, 1324) by decide +kernel) ?_
  refine g_pu (show aCod 129 1324 = some (.sipush 116, 1326) by decide +kernel) ?_
  refine g_cs (k2 := 2) (x2 := iI 116) (show aCod 129 1326 = some (.castore, 1327) by decide +kernel) rfl (by decide) (by decide) (by decide) ?_
  rw [ig_up]
  refine g_pr (show aCod 129 1327 = some (.putfield 2383, 1330) by decide +kernel) ⟨rfl, by decide, rfl⟩ ?_
  rw [rgm_up]
  exact k
def icP45 : List (Nat × Nat × Int32) := (215, 2, iI (100)) :: (215, 1, iI (110)) :: (215, 0, iI (97)) :: icP44
def icR58 : List (Nat × Nat × Option Nat) := (157, 80, some 215) :: icR57
def icZ56 : List Nat := 215 :: icZ55
theorem ic_62 {Q : Option Value → List aSh → aFI → aFL → aFR → Prop} {B : aFI} {L : aFL} {R : aFR} (k : gWp 150 129 1352 [.ref 157] [] (S0.take 216) (ig B icP45 icZ56) L (rgm R icR58) Q) : gWp 150 129 1330 [.ref 157] [] (S0.take 215) (ig B icP44 icZ55) L (rgm R icR57) Q := by
  refine g_al (show aCod 129 1330 = some (.aload 0, 1331) by decide +kernel) rfl ?_
  refine g_pu (show aCod 129 1331 = some (.sipush 3, 1332) by decide +kernel) ?_
  refine g_nc (p := 215) (m := 3) (S2 := (S0.take 216)) (show aCod 129 1332 = some (.newarray .char, 1334) by decide +kernel) rfl (by decide +kernel) (by decide) (by decide) (by decide +kernel) ?_
  rw [ig_row (by decide +kernel)]
  refine g_du (show aCod 129 1334 = some (.dup, 1335) by decide +kernel) rfl ?_
  refine g_pu (show aCod 129 1335 = some (.sipush 0, 1336) by decide +kernel) ?_
  refine g_pu (show aCod 129 1336 = some (.sipush 97, 1338) by decide +kernel) ?_
  refine g_cs (k2 := 0) (x2 := iI 97) (show aCod 129 1338 = some (.castore, 1339) by decide +kernel) rfl (by decide) (by decide) (by decide) ?_
  rw [ig_up]
  refine g_du (show aCod 129 1339 = some (.dup, 1340) by decide +kernel) rfl ?_
  refine g_pu (show aCod 129 1340 = some (.sipush 1, 1341) by decide +kernel) ?_
  refine g_pu (show aCod 129 1341 = some (.sipush 110, 1343) by decide +kernel) ?_
  refine g_cs (k2 := 1) (x2 := iI 110) (show aCod 129 1343 = some (.castore, 1344) by decide +kernel) rfl (by decide) (by decide) (by decide) ?_
  rw [ig_up]
  refine g_du (show aCod 129 1344 = some (.dup, 1345) by decide +kernel) rfl ?_
  refine g_pu (show aCod 129 1345 = some (.sipush 2, 1346) by decide +kernel) ?_
  refine g_pu (show aCod 129 1346 = some (.sipush 100, 1348) by decide +kernel) ?_
  refine g_cs (k2 := 2) (x2 := iI 100) (show aCod 129 1348 = some (.castore, 1349) by decide +kernel) rfl (by decide) (by decide) (by decide) ?_
  rw [ig_up]
  refine g_pr (show aCod 129 1349 = some (.putfield 2384, 1352) by decide +kernel) ⟨rfl, by decide, rfl⟩ ?_
  rw [rgm_up]
  exact k
def icP46 : List (Nat × Nat × Int32) := (216, 1, iI (114)) :: (216, 0, iI (111)) :: icP45
def icR59 : List (Nat × Nat × Option Nat) := (157, 81, some 216) :: icR58
def icZ57 : List Nat := 216 :: icZ56
theorem ic_63 {Q : Option Value → List aSh → aFI → aFL → aFR → Prop} {B : aFI} {L : aFL} {R : aFR} (k : gWp 150 129 1369 [.ref 157] [] (S0.take 217) (ig B icP46 icZ57) L (rgm R icR59) Q) : gWp 150 129 1352 [.ref 157] [] (S0.take 216) (ig B icP45 icZ56) L (rgm R icR58) Q := by
  refine g_al (show aCod 129 1352 = some (.aload 0, 1353) by decide +kernel) rfl ?_
  refine g_pu (show aCod 129 1353 = some (.sipush 2, 1354) by decide +kernel) ?_
  refine g_nc (p := 216) (m := 2) (S2 := (S0.take 217)) (show aCod 129 1354 = some (.newarray .char, 1356) by decide +kernel) rfl (by decide +kernel) (by decide) (by decide) (by decide +kernel) ?_
  rw [ig_row (by decide +kernel)]
  refine g_du (show aCod 129 1356 = some (.dup, 1357) by decide +kernel) rfl ?_
  refine g_pu (show aCod 129 1357 = some (.sipush 0, 1358) by decide +kernel) ?_
  refine g_pu (show aCod 129 1358 = some (.sipush 111, 1360) by decide +kernel) ?_
  refine g_cs (k2 := 0) (x2 := iI 111) (show aCod 129 1360 = some (.castore, 1361) by decide +kernel) rfl (by decide) (by decide) (by decide) ?_
  rw [ig_up]
  refine g_du (show aCod 129 1361 = some (.dup, 1362) by decide +kernel) rfl ?_
  refine g_pu (show aCod 129 1362 = some (.sipush 1, 1363) by decide +kernel) ?_
  refine g_pu (show aCod 129 1363 = some (.sipush 114, 1365) by decide +kernel) ?_
  refine g_cs (k2 := 1) (x2 := iI 114) (show aCod 129 1365 = some (.castore, 1366) by decide +kernel) rfl (by decide) (by decide) (by decide) ?_
  rw [ig_up]
  refine g_pr (show aCod 129 1366 = some (.putfield 2385, 1369) by decide +kernel) ⟨rfl, by decide, rfl⟩ ?_
  rw [rgm_up]
  exact k
def icP47 : List (Nat × Nat × Int32) := (217, 2, iI (108)) :: (217, 1, iI (108)) :: (217, 0, iI (97)) :: icP46
def icR60 : List (Nat × Nat × Option Nat) := (157, 82, some 217) :: icR59
def icZ58 : List Nat := 217 :: icZ57
theorem ic_64 {Q : Option Value → List aSh → aFI → aFL → aFR → Prop} {B : aFI} {L : aFL} {R : aFR} (k : gWp 150 129 1391 [.ref 157] [] (S0.take 218) (ig B icP47 icZ58) L (rgm R icR60) Q) : gWp 150 129 1369 [.ref 157] [] (S0.take 217) (ig B icP46 icZ57) L (rgm R icR59) Q := by
  refine g_al (show aCod 129 1369 = some (.aload 0, 1370) by decide +kernel) rfl ?_
  refine g_pu (show aCod 129 1370 = some (.sipush 3, 1371) by decide +kernel) ?_
  refine g_nc (p := 217) (m := 3) (S2 := (S0.take 218)) (show aCod 129 1371 = some (.newarray .char, 1373) by decide +kernel) rfl (by decide +kernel) (by decide) (by decide) (by decide +kernel) ?_
  rw [ig_row (by decide +kernel)]
  refine g_du (show aCod 129 1373 = some (.dup, 1374) by decide +kernel) rfl ?_
  refine g_pu (show aCod 129 1374 = some (.sipush 0, 1375) by decide +kernel) ?_
  refine g_pu (show aCod 129 1375 = some (.sipush 97, 1377) by decide +kernel) ?_
  refine g_cs (k2 := 0) (x2 := iI 97) (show aCod 129 1377 = some (.castore, 1378) by decide +kernel) rfl (by decide) (by decide) (by decide) ?_
  rw [ig_up]
  refine g_du (show aCod 129 1378 = some (.dup, 1379) by decide +kernel) rfl ?_
  refine g_pu (show aCod 129 1379 = some (.sipush 1, 1380) by decide +kernel) ?_
  refine g_pu (show aCod 129 1380 = some (.sipush 108, 1382) by decide +kernel) ?_
  refine g_cs (k2 := 1) (x2 := iI 108) (show aCod 129 1382 = some (.castore, 1383) by decide +kernel) rfl (by decide) (by decide) (by decide) ?_
  rw [ig_up]
  refine g_du (show aCod 129 1383 = some (.dup, 1384) by decide +kernel) rfl ?_
  refine g_pu (show aCod 129 1384 = some (.sipush 2, 1385) by decide +kernel) ?_
  refine g_pu (show aCod 129 1385 = some (.sipush 108, 1387) by decide +kernel) ?_
  refine g_cs (k2 := 2) (x2 := iI 108) (show aCod 129 1387 = some (.castore, 1388) by decide +kernel) rfl (by decide) (by decide) (by decide) ?_
  rw [ig_up]
  refine g_pr (show aCod 129 1388 = some (.putfield 2386, 1391) by decide +kernel) ⟨rfl, by decide, rfl⟩ ?_
  rw [rgm_up]
  exact k
def icP48 : List (Nat × Nat × Int32) := (218, 2, iI (110)) :: (218, 1, iI (105)) :: (218, 0, iI (109)) :: icP47
def icR61 : List (Nat × Nat × Option Nat) := (157, 83, some 218) :: icR60
def icZ59 : List Nat := 218 :: icZ58
theorem ic_65 {Q : Option Value → List aSh → aFI → aFL → aFR → Prop} {B : aFI} {L : aFL} {R : aFR} (k : gWp 150 129 1413 [.ref 157] [] (S0.take 219) (ig B icP48 icZ59) L (rgm R icR61) Q) : gWp 150 129 1391 [.ref 157] [] (S0.take 218) (ig B icP47 icZ58) L (rgm R icR60) Q := by
  refine g_al (show aCod 129 1391 = some (.aload 0, 1392) by decide +kernel) rfl ?_
  refine g_pu (show aCod 129 1392 = some (.sipush 3, 1393) by decide +kernel) ?_
  refine g_nc (p := 218) (m := 3) (S2 := (S0.take 219)) (show aCod 129 1393 = some (.newarray .char, 1395) by decide +kernel) rfl (by decide +kernel) (by decide) (by decide) (by decide +kernel) ?_
  rw [ig_row (by decide +kernel)]
  refine g_du (show aCod 129 1395 = some (.dup, 1396) by decide +kernel) rfl ?_
  refine g_pu (show aCod 129 1396 = some (.sipush 0, 1397) by decide +kernel) ?_
  refine g_pu (show aCod 129 1397 = some (.sipush 109, 1399) by decide +kernel) ?_
  refine g_cs (k2 := 0) (x2 := iI 109) (show aCod 129 1399 = some (.castore, 1400) by decide +kernel) rfl (by decide) (by decide) (by decide) ?_
  rw [ig_up]
  refine g_du (show aCod 129 1400 = some (.dup, 1401) by decide +kernel) rfl ?_
  refine g_pu (show aCod 129 1401 = some (.sipush 1, 1402) by decide +kernel) ?_
  refine g_pu (show aCod 129 1402 = some (.sipush 105, 1404) by decide +kernel) ?_
  refine g_cs (k2 := 1) (x2 := iI 105) (show aCod 129 1404 = some (.castore, 1405) by decide +kernel) rfl (by decide) (by decide) (by decide) ?_
  rw [ig_up]
  refine g_du (show aCod 129 1405 = some (.dup, 1406) by decide +kernel) rfl ?_
  refine g_pu (show aCod 129 1406 = some (.sipush 2, 1407) by decide +kernel) ?_
  refine g_pu (show aCod 129 1407 = some (.sipush 110, 1409) by decide +kernel) ?_
  refine g_cs (k2 := 2) (x2 := iI 110) (show aCod 129 1409 = some (.castore, 1410) by decide +kernel) rfl (by decide) (by decide) (by decide) ?_
  rw [ig_up]
  refine g_pr (show aCod 129 1410 = some (.putfield 2387, 1413) by decide +kernel) ⟨rfl, by decide, rfl⟩ ?_
  rw [rgm_up]
  exact k
def icP49 : List (Nat × Nat × Int32) := (219, 2, iI (120)) :: (219, 1, iI (97)) :: (219, 0, iI (109)) :: icP48
def icR62 : List (Nat × Nat × Option Nat) := (157, 84, some 219) :: icR61
def icZ60 : List Nat := 219 :: icZ59
theorem ic_66 {Q : Option Value → List aSh → aFI → aFL → aFR → Prop} {B : aFI} {L : aFL} {R : aFR} (k : gWp 150 129 1435 [.ref 157] [] (S0.take 220) (ig B icP49 icZ60) L (rgm R icR62) Q) : gWp 150 129 1413 [.ref 157] [] (S0.take 219) (ig B icP48 icZ59) L (rgm R icR61) Q := by
  refine g_al (show aCod 129 1413 = some (.aload 0, 1414) by decide +kernel) rfl ?_
  refine g_pu (show aCod 129 1414 = some (.sipush 3, 1415) by decide +kernel) ?_
  refine g_nc (p := 219) (m := 3) (S2 := (S0.take 220)) (show aCod 129 1415 = some (.newarray .char, 1417) by decide +kernel) rfl (by decide +kernel) (by decide) (by decide) (by decide +kernel) ?_
  rw [ig_row (by decide +kernel)]
  refine g_du (show aCod 129 1417 = some (.dup, 1418) by decide +kernel) rfl ?_
  refine g_pu (show aCod 129 1418 = some (.sipush 0, 1419) by decide +kernel) ?_
  refine g_pu (show aCod 129 1419 = some (.sipush 109, 1421) by decide +kernel) ?_
  refine g_cs (k2 := 0) (x2 := iI 109) (show aCod 129 1421 = some (.castore, 1422) by decide +kernel) rfl (by decide) (by decide) (by decide) ?_
  rw [ig_up]
  refine g_du (show aCod 129 1422 = some (.dup, 1423) by decide +kernel) rfl ?_
  refine g_pu (show aCod 129 1423 = some (.sipush 1, 1424) by decide +kernel) ?_
  refine g_pu (show aCod 129 1424 = some (.sipush 97, 1426) by decide +kernel) ?_
  refine g_cs (k2 := 1) (x2 := iI 97) (show aCod 129 1426 = some (.castore, 1427) by decide +kernel) rfl (by decide) (by decide) (by decide) ?_
  rw [ig_up]
  refine g_du (show aCod 129 1427 = some (.dup, 1428) by decide +kernel) rfl ?_
  refine g_pu (show aCod 129 1428 = some (.sipush 2, 1429) by decide +kernel) ?_
  refine g_pu (show aCod 129 1429 = some (.sipush 120, 1431) by decide +kernel) ?_
  refine g_cs (k2 := 2) (x2 := iI 120) (show aCod 129 1431 = some (.castore, 1432) by decide +kernel) rfl (by decide) (by decide) (by decide) ?_
  rw [ig_up]
  refine g_pr (show aCod 129 1432 = some (.putfield 2388, 1435) by decide +kernel) ⟨rfl, by decide, rfl⟩ ?_
  rw [rgm_up]
  exact k
def icP50 : List (Nat × Nat × Int32) := (220, 4, iI (115)) :: (220, 3, iI (100)) :: (220, 2, iI (101)) :: (220, 1, iI (101)) :: (220, 0, iI (110)) :: icP49
def icR63 : List (Nat × Nat × Option Nat) := (157, 85, some 220) :: icR62
def icZ61 : List Nat := 220 :: icZ60
theorem ic_67 {Q : Option Value → List aSh → aFI → aFL → aFR → Prop} {B : aFI} {L : aFL} {R : aFR} (k : gWp 150 129 1467 [.ref 157] [] (S0.take 221) (ig B icP50 icZ61) L (rgm R icR63) Q) : gWp 150 129 1435 [.ref 157] [] (S0.take 220) (ig B icP49 icZ60) L (rgm R icR62) Q := by
  refine g_al (show aCod 129 1435 = some (.aload 0, 1436) by decide +kernel) rfl ?_
  refine g_pu (show aCod 129 1436 = some (.sipush 5, 1437) by decide +kernel) ?_
  refine g_nc (p := 220) (m := 5) (S2 := (S0.take 221)) (show aCod 129 1437 = some (.newarray .char, 1439) by decide +kernel) rfl (by decide +kernel) (by decide) (by decide) (by decide +kernel) ?_
  rw [ig_row (by decide +kernel)]
  refine g_du (show aCod 129 1439 = some (.dup, 1440) by decide +kernel) rfl ?_
  refine g_pu (show aCod 129 1440 = some (.sipush 0, 1441) by decide +kernel) ?_
  refine g_pu (show aCod 129 1441 = some (.sipush 110, 1443) by decide +kernel) ?_
  refine g_cs (k2 := 0) (x2 := iI 110) (show aCod 129 1443 = some (.castore, 1444) by decide +kernel) rfl (by decide) (by decide) (by decide) ?_
  rw [ig_up]
  refine g_du (show aCod 129 1444 = some (.dup, 1445) by decide +kernel) rfl ?_
  refine g_pu (show aCod 129 1445 = some (.sipush 1, 1446) by decide +kernel) ?_
  refine g_pu (show aCod 129 1446 = some (.sipush 101, 1448) by decide +kernel) ?_
  refine g_cs (k2 := 1) (x2 := iI 101) (show aCod 129 1448 = some (.castore, 1449) by decide +kernel) rfl (by decide) (by decide) (by decide) ?_
  rw [ig_up]
  refine g_du (show aCod 129 1449 = some (.dup, 1450) by decide +kernel) rfl ?_
  refine g_pu (show aCod 129 1450 = some (.sipush 2, 1451) by decide +kernel) ?_
  refine g_pu (show aCod 129 1451 = some (.sipush 101, 1453) by decide +kernel) ?_
  refine g_cs (k2 := 2) (x2 := iI 101) (show aCod 129 1453 = some (.castore, 1454) by decide +kernel) rfl (by decide) (by decide) (by decide) ?_
  rw [ig_up]
  refine g_du (show aCod 129 1454 = some (.dup, 1455) by decide +kernel) rfl ?_
  refine g_pu (show aCod 129 1455 = some (.sipush 3, 1456) by decide +kernel) ?_
  refine g_pu (show aCod 129 1456 = some (.sipush 100, 1458) by decide +kernel) ?_
  refine g_cs (k2 := 3) (x2 := iI 100) (show aCod 129 1458 = some (.castore, 1459) by decide +kernel) rfl (by decide) (by decide) (by decide) ?_
  rw [ig_up]
  refine g_du (show aCod 129 1459 = some (.dup, 1460) by decide +kernel) rfl ?_
  refine g_pu (show aCod 129 1460 = some (.sipush 4, 1461) by decide +kernel) ?_
  refine g_pu (show aCod 129 1461 = some (.sipush 115, 1463) by decide +kernel) ?_
  refine g_cs (k2 := 4) (x2 := iI 115) (show aCod 129 1463 = some (.castore, 1464) by decide +kernel) rfl (by decide) (by decide) (by decide) ?_
  rw [ig_up]
  refine g_pr (show aCod 129 1464 = some (.putfield 2389, 1467) by decide +kernel) ⟨rfl, by decide, rfl⟩ ?_
  rw [rgm_up]
  exact k
def icP51 : List (Nat × Nat × Int32) := (221, 4, iI (104)) :: (221, 3, iI (116)) :: (221, 2, iI (114)) :: (221, 1, iI (111)) :: (221, 0, iI (119)) :: icP50
def icR64 : List (Nat × Nat × Option Nat) := (157, 86, some 221) :: icR63
def icZ62 : List Nat := 221 :: icZ61
theorem ic_68 {Q : Option Value → List aSh → aFI → aFL → aFR → Prop} {B : aFI} {L : aFL} {R : aFR} (k : gWp 150 129 1499 [.ref 157] [] (S0.take 222) (ig B icP51 icZ62) L (rgm R icR64) Q) : gWp 150 129 1467 [.ref 157] [] (S0.take 221) (ig B icP50 icZ61) L (rgm R icR63) Q := by
  refine g_al (show aCod 129 1467 = some (.aload 0, 1468) by decide +kernel) rfl ?_
  refine g_pu (show aCod 129 1468 = some (.sipush 5, 1469) by decide +kernel) ?_
  refine g_nc (p := 221) (m := 5) (S2 := (S0.take 222)) (show aCod 129 1469 = some (.newarray .char, 1471) by decide +kernel) rfl (by decide +kernel) (by decide) (by decide) (by decide +kernel) ?_
  rw [ig_row (by decide +kernel)]
  refine g_du (show aCod 129 1471 = some (.dup, 1472) by decide +kernel) rfl ?_
  refine g_pu (show aCod 129 1472 = some (.sipush 0, 1473) by decide +kernel) ?_
  refine g_pu (show aCod 129 1473 = some (.sipush 119, 1475) by decide +kernel) ?_
  refine g_cs (k2 := 0) (x2 := iI 119) (show aCod 129 1475 = some (.castore, 1476) by decide +kernel) rfl (by decide) (by decide) (by decide) ?_
  rw [ig_up]
  refine g_du (show aCod 129 1476 = some (.dup, 1477) by decide +kernel) rfl ?_
  refine g_pu (show aCod 129 1477 = some (.sipush 1, 1478) by decide +kernel) ?_
  refine g_pu (show aCod 129 1478 = some (.sipush 111, 1480) by decide +kernel) ?_
  refine g_cs (k2 := 1) (x2 := iI 111) (show aCod 129 1480 = some (.castore, 1481) by decide +kernel) rfl (by decide) (by decide) (by decide) ?_
  rw [ig_up]
  refine g_du (show aCod 129 1481 = some (.dup, 1482) by decide +kernel) rfl ?_
  refine g_pu (show aCod 129 1482 = some (.sipush 2, 1483) by decide +kernel) ?_
  refine g_pu (show aCod 129 1483 = some (.sipush 114, 1485) by decide +kernel) ?_
  refine g_cs (k2 := 2) (x2 := iI 114) (show aCod 129 1485 = some (.castore, 1486) by decide +kernel) rfl (by decide) (by decide) (by decide) ?_
  rw [ig_up]
  refine g_du (show aCod 129 1486 = some (.dup, 1487) by decide +kernel) rfl ?_
  refine g_pu (show aCod 129 1487 = some (.sipush 3, 1488) by decide +kernel) ?_
  refine g_pu (show aCod 129 1488 = some (.sipush 116, 1490) by decide +kernel) ?_
  refine g_cs (k2 := 3) (x2 := iI 116) (show aCod 129 1490 = some (.castore, 1491) by decide +kernel) rfl (by decide) (by decide) (by decide) ?_
  rw [ig_up]
  refine g_du (show aCod 129 1491 = some (.dup, 1492) by decide +kernel) rfl ?_
  refine g_pu (show aCod 129 1492 = some (.sipush 4, 1493) by decide +kernel) ?_
  refine g_pu (show aCod 129 1493 = some (.sipush 104, 1495) by decide +kernel) ?_
  refine g_cs (k2 := 4) (x2 := iI 104) (show aCod 129 1495 = some (.castore, 1496) by decide +kernel) rfl (by decide) (by decide) (by decide) ?_
  rw [ig_up]
  refine g_pr (show aCod 129 1496 = some (.putfield 2390, 1499) by decide +kernel) ⟨rfl, by decide, rfl⟩ ?_
  rw [rgm_up]
  exact k
def icP52 : List (Nat × Nat × Int32) := (222, 4, iI (115)) :: (222, 3, iI (101)) :: (222, 2, iI (108)) :: (222, 1, iI (105)) :: (222, 0, iI (109)) :: icP51
def icR65 : List (Nat × Nat × Option Nat) := (157, 87, some 222) :: icR64
def icZ63 : List Nat := 222 :: icZ62
theorem ic_69 {Q : Option Value → List aSh → aFI → aFL → aFR → Prop} {B : aFI} {L : aFL} {R : aFR} (k : gWp 150 129 1531 [.ref 157] [] (S0.take 223) (ig B icP52 icZ63) L (rgm R icR65) Q) : gWp 150 129 1499 [.ref 157] [] (S0.take 222) (ig B icP51 icZ62) L (rgm R icR64) Q := by
  refine g_al (show aCod 129 1499 = some (.aload 0, 1500) by decide +kernel) rfl ?_
  refine g_pu (show aCod 129 1500 = some (.sipush 5, 1501) by decide +kernel) ?_
  refine g_nc (p := 222) (m := 5) (S2 := (S0.take 223)) (show aCod 129 1501 = some (.newarray .char, 1503) by decide +kernel) rfl (by decide +kernel) (by decide) (by decide) (by decide +kernel) ?_
  rw [ig_row (by decide +kernel)]
  refine g_du (show aCod 129 1503 = some (.dup, 1504) by decide +kernel) rfl ?_
  refine g_pu (show aCod 129 1504 = some (.sipush 0, 1505) by decide +kernel) ?_
  refine g_pu (show aCod 129 1505 = some (.sipush 109, 1507) by decide +kernel) ?_
  refine g_cs (k2 := 0) (x2 := iI 109) (show aCod 129 1507 = some (.castore, 1508) by decide +kernel) rfl (by decide) (by decide) (by decide) ?_
  rw [ig_up]
  refine g_du (show aCod 129 1508 = some (.dup, 1509) by decide +kernel) rfl ?_
  refine g_pu (show aCod 129 1509 = some (.sipush 1, 1510) by decide +kernel) ?_
  refine g_pu (show aCod 129 1510 = some (.sipush 105, 1512) by decide +kernel) ?_
  refine g_cs (k2 := 1) (x2 := iI 105) (show aCod 129 1512 = some (.castore, 1513) by decide +kernel) rfl (by decide) (by decide) (by decide) ?_
  rw [ig_up]
  refine g_du (show aCod 129 1513 = some (.dup, 1514) by decide +kernel) rfl ?_
  refine g_pu (show aCod 129 1514 = some (.sipush 2, 1515) by decide +kernel) ?_
  refine g_pu (show aCod 129 1515 = some (.sipush 108, 1517) by decide +kernel) ?_
  refine g_cs (k2 := 2) (x2 := iI 108) (show aCod 129 1517 = some (.castore, 1518) by decide +kernel) rfl (by decide) (by decide) (by decide) ?_
  rw [ig_up]
  refine g_du (show aCod 129 1518 = some (.dup, 1519) by decide +kernel) rfl ?_
  refine g_pu (show aCod 129 1519 = some (.sipush 3, 1520) by decide +kernel) ?_
  refine g_pu (show aCod 129 1520 = some (.sipush 101, 1522) by decide +kernel) ?_
  refine g_cs (k2 := 3) (x2 := iI 101) (show aCod 129 1522 = some (.castore, 1523) by decide +kernel) rfl (by decide) (by decide) (by decide) ?_
  rw [ig_up]
  refine g_du (show aCod 129 1523 = some (.dup, 1524) by decide +kernel) rfl ?_
  refine g_pu (show aCod 129 1524 = some (.sipush 4, 1525) by decide +kernel) ?_
  refine g_pu (show aCod 129 1525 = some (.sipush 115, 1527) by decide +kernel) ?_
  refine g_cs (k2 := 4) (x2 := iI 115) (show aCod 129 1527 = some (.castore, 1528) by decide +kernel) rfl (by decide) (by decide) (by decide) ?_
  rw [ig_up]
  refine g_pr (show aCod 129 1528 = some (.putfield 2391, 1531) by decide +kernel) ⟨rfl, by decide, rfl⟩ ?_
  rw [rgm_up]
  exact k
def icP53 : List (Nat × Nat × Int32) := (223, 5, iI (110)) :: (223, 4, iI (111)) :: (223, 3, iI (115)) :: (223, 2, iI (97)) :: (223, 1, iI (101)) :: (223, 0, iI (115)) :: icP52
def icR66 : List (Nat × Nat × Option Nat) := (157, 88, some 223) :: icR65
def icZ64 : List Nat := 223 :: icZ63
theorem ic_70 {Q : Option Value → List aSh → aFI → aFL → aFR → Prop} {B : aFI} {L : aFL} {R : aFR} (k : gWp 150 129 1569 [.ref 157] [] (S0.take 224) (ig B icP53 icZ64) L (rgm R icR66) Q) : gWp 150 129 1531 [.ref 157] [] (S0.take 223) (ig B icP52 icZ63) L (rgm R icR65) Q := by
  refine g_al (show aCod 129 1531 = some (.aload 0, 1532) by decide +kernel) rfl ?_
  refine g_pu (show aCod 129 1532 = some (.sipush 6, 1534) by decide +kernel) ?_
  refine g_nc (p := 223) (m := 6) (S2 := (S0.take 224)) (show aCod 129 1534 = some (.newarray .char, 1536) by decide +kernel) rfl (by decide +kernel) (by decide) (by decide) (by decide +kernel) ?_
  rw [ig_row (by decide +kernel)]
  refine g_du (show aCod 129 1536 = some (.dup, 1537) by decide +kernel) rfl ?_
  refine g_pu (show aCod 129 1537 = some (.sipush 0, 1538) by decide +kernel) ?_
  refine g_pu (show aCod 129 1538 = some (.sipush 115, 1540) by decide +kernel) ?_
  refine g_cs (k2 := 0) (x2 := iI 115) (show aCod 129 1540 = some (.castore, 1541) by decide +kernel) rfl (by decide) (by decide) (by decide) ?_
  rw [ig_up]
  refine g_du (show aCod 129 1541 = some (.dup, 1542) by decide +kernel) rfl ?_
  refine g_pu (show aCod 129 1542 = some (.sipush 1, 1543) by decide +kernel) ?_
  refine g_pu (show aCod 129 1543 = some (.sipush 101, 1545) by decide +kernel) ?_
  refine g_cs (k2 := 1) (x2 := iI 101) (show aCod 129 1545 = some (.castore, 1546) by decide +kernel) rfl (by decide) (by decide) (by decide) ?_
  rw [ig_up]
  refine g_du (show aCod 129 1546 = some (.dup, 1547) by decide +kernel) rfl ?_
  refine g_pu (show aCod 129 1547 = some (.sipush 2, 1548) by decide +kernel) ?_
  refine g_pu (show aCod 129 1548 = some (.sipush 97, 1550) by decide +kernel) ?_
  refine g_cs (k2 := 2) (x2 := iI 97) (show aCod 129 1550 = some (.castore, 1551) by decide +kernel) rfl (by decide) (by decide) (by decide) ?_
  rw [ig_up]
  refine g_du (show aCod 129 1551 = some (.dup, 1552) by decide +kernel) rfl ?_
  refine g_pu (show aCod 129 1552 = some (.sipush 3, 1553) by decide +kernel) ?_
  refine g_pu (show aCod 129 1553 = some (.sipush 115, 1555) by decide +kernel) ?_
  refine g_cs (k2 := 3) (x2 := iI 115) (show aCod 129 1555 = some (.castore, 1556) by decide +kernel) rfl (by decide) (by decide) (by decide) ?_
  rw [ig_up]
  refine g_du (show aCod 129 1556 = some (.dup, 1557) by decide +kernel) rfl ?_
  refine g_pu (show aCod 129 1557 = some (.sipush 4, 1558) by decide +kernel) ?_
  refine g_pu (show aCod 129 1558 = some (.sipush 111, 1560) by decide +kernel) ?_
  refine g_cs (k2 := 4) (x2 := iI 111) (show aCod 129 1560 = some (.castore, 1561) by decide +kernel) rfl (by decide) (by decide) (by decide) ?_
  rw [ig_up]
  refine g_du (show aCod 129 1561 = some (.dup, 1562) by decide +kernel) rfl ?_
  refine g_pu (show aCod 129 1562 = some (.sipush 5, 1563) by decide +kernel) ?_
  refine g_pu (show aCod 129 1563 = some (.sipush 110, 1565) by decide +kernel) ?_
  refine g_cs (k2 := 5) (x2 := iI 110) (show aCod 129 1565 = some (.castore, 1566) by decide +kernel) rfl (by decide) (by decide) (by decide) ?_
  rw [ig_up]
  refine g_pr (show aCod 129 1566 = some (.putfield 2392, 1569) by decide +kernel) ⟨rfl, by decide, rfl⟩ ?_
  rw [rgm_up]
  exact k
def icP54 : List (Nat × Nat × Int32) := (224, 4, iI (108)) :: (224, 3, iI (101)) :: (224, 2, iI (118)) :: (224, 1, iI (101)) :: (224, 0, iI (108)) :: icP53
def icR67 : List (Nat × Nat × Option Nat) := (157, 89, some 224) :: icR66
def icZ65 : List Nat := 224 :: icZ64
theorem ic_71 {Q : Option Value → List aSh → aFI → aFL → aFR → Prop} {B : aFI} {L : aFL} {R : aFR} (k : gWp 150 129 1601 [.ref 157] [] (S0.take 225) (ig B icP54 icZ65) L (rgm R icR67) Q) : gWp 150 129 1569 [.ref 157] [] (S0.take 224) (ig B icP53 icZ64) L (rgm R icR66) Q := by
  refine g_al (show aCod 129 1569 = some (.aload 0, 1570) by decide +kernel) rfl ?_
  refine g_pu (show aCod 129 1570 = some (.sipush 5, 1571) by decide +kernel) ?_
  refine g_nc (p := 224) (m := 5) (S2 := (S0.take 225)) (show aCod 129 1571 = some (.newarray .char, 1573) by decide +kernel) rfl (by decide +kernel) (by decide) (by decide) (by decide +kernel) ?_
  rw [ig_row (by decide +kernel)]
  refine g_du (show aCod 129 1573 = some (.dup, 1574) by decide +kernel) rfl ?_
  refine g_pu (show aCod 129 1574 = some (.sipush 0, 1575) by decide +kernel) ?_
  refine g_pu (show aCod 129 1575 = some (.sipush 108, 1577) by decide +kernel) ?_
  refine g_cs (k2 := 0) (x2 := iI 108) (show aCod 129 1577 = some (.castore, 1578) by decide +kernel) rfl (by decide) (by decide) (by decide) ?_
  rw [ig_up]
  refine g_du (show aCod 129 1578 = some (.dup, 1579) by decide +kernel) rfl ?_
  refine g_pu (show aCod 129 1579 = some (.sipush 1, 1580) by decide +kernel) ?_
  refine g_pu (show aCod 129 1580 = some (.sipush 101, 1582) by decide +kernel) ?_
  refine g_cs (k2 := 1) (x2 := iI 101) (show aCod 129 1582 = some (.castore, 1583) by decide +kernel) rfl (by decide) (by decide) (by decide) ?_
  rw [ig_up]
  refine g_du (show aCod 129 1583 = some (.dup, 1584) by decide +kernel) rfl ?_
  refine g_pu (show aCod 129 1584 = some (.sipush 2, 1585) by decide +kernel) ?_
  refine g_pu (show aCod 129 1585 = some (.sipush 118, 1587) by decide +kernel) ?_
  refine g_cs (k2 := 2) (x2 := iI 118) (show aCod 129 1587 = some (.castore, 1588) by decide +kernel) rfl (by decide) (by decide) (by decide) ?_
  rw [ig_up]
  refine g_du (show aCod 129 1588 = some (.dup, 1589) by decide +kernel) rfl ?_
  refine g_pu (show aCod 129 1589 = some (.sipush 3, 1590) by decide +kernel) ?_
  refine g_pu (show aCod 129 1590 = some (.sipush 101, 1592) by decide +kernel) ?_
  refine g_cs (k2 := 3) (x2 := iI 101) (show aCod 129 1592 = some (.castore, 1593) by decide +kernel) rfl (by decide) (by decide) (by decide) ?_
  rw [ig_up]
  refine g_du (show aCod 129 1593 = some (.dup, 1594) by decide +kernel) rfl ?_
  refine g_pu (show aCod 129 1594 = some (.sipush 4, 1595) by decide +kernel) ?_
  refine g_pu (show aCod 129 1595 = some (.sipush 108, 1597) by decide +kernel) ?_
  refine g_cs (k2 := 4) (x2 := iI 108) (show aCod 129 1597 = some (.castore, 1598) by decide +kernel) rfl (by decide) (by decide) (by decide) ?_
  rw [ig_up]
  refine g_pr (show aCod 129 1598 = some (.putfield 2393, 1601) by decide +kernel) ⟨rfl, by decide, rfl⟩ ?_
  rw [rgm_up]
  exact k
def icP55 : List (Nat × Nat × Int32) := (225, 3, iI (107)) :: (225, 2, iI (114)) :: (225, 1, iI (97)) :: (225, 0, iI (100)) :: icP54
def icR68 : List (Nat × Nat × Option Nat) := (157, 90, some 225) :: icR67
def icZ66 : List Nat := 225 :: icZ65
theorem ic_72 {Q : Option Value → List aSh → aFI → aFL → aFR → Prop} {B : aFI} {L : aFL} {R : aFR} (k : gWp 150 129 1628 [.ref 157] [] (S0.take 226) (ig B icP55 icZ66) L (rgm R icR68) Q) : gWp 150 129 1601 [.ref 157] [] (S0.take 225) (ig B icP54 icZ65) L (rgm R icR67) Q := by
  refine g_al (show aCod 129 1601 = some (.aload 0, 1602) by decide +kernel) rfl ?_
  refine g_pu (show aCod 129 1602 = some (.sipush 4, 1603) by decide +kernel) ?_
  refine g_nc (p := 225) (m := 4) (S2 := (S0.take 226)) (show aCod 129 1603 = some (.newarray .char, 1605) by decide +kernel) rfl (by decide +kernel) (by decide) (by decide) (by decide +kernel) ?_
  rw [ig_row (by decide +kernel)]
  refine g_du (show aCod 129 1605 = some (.dup, 1606) by decide +kernel) rfl ?_
  refine g_pu (show aCod 129 1606 = some (.sipush 0, 1607) by decide +kernel) ?_
  refine g_pu (show aCod 129 1607 = some (.sipush 100, 1609) by decide +kernel) ?_
  refine g_cs (k2 := 0) (x2 := iI 100) (show aCod 129 1609 = some (.castore, 1610) by decide +kernel) rfl (by decide) (by decide) (by decide) ?_
  rw [ig_up]
  refine g_du (show aCod 129 1610 = some (.dup, 1611) by decide +kernel) rfl ?_
  refine g_pu (show aCod 129 1611 = some (.sipush 1, 1612) by decide +kernel) ?_
  refine g_pu (show aCod 129 1612 = some (.sipush 97, 1614) by decide +kernel) ?_
  refine g_cs (k2 := 1) (x2 := iI 97) (show aCod 129 1614 = some (.castore, 1615) by decide +kernel) rfl (by decide) (by decide) (by decide) ?_
  rw [ig_up]
  refine g_du (show aCod 129 1615 = some (.dup, 1616) by decide +kernel) rfl ?_
  refine g_pu (show aCod 129 1616 = some (.sipush 2, 1617) by decide +kernel) ?_
  refine g_pu (show aCod 129 1617 = some (.sipush 114, 1619) by decide +kernel) ?_
  refine g_cs (k2 := 2) (x2 := iI 114) (show aCod 129 1619 = some (.castore, 1620) by decide +kernel) rfl (by decide) (by decide) (by decide) ?_
  rw [ig_up]
  refine g_du (show aCod 129 1620 = some (.dup, 1621) by decide +kernel) rfl ?_
  refine g_pu (show aCod 129 1621 = some (.sipush 3, 1622) by decide +kernel) ?_
  refine g_pu (show aCod 129 1622 = some (.sipush 107, 1624) by decide +kernel) ?_
  refine g_cs (k2 := 3) (x2 := iI 107) (show aCod 129 1624 = some (.castore, 1625) by decide +kernel) rfl (by decide) (by decide) (by decide) ?_
  rw [ig_up]
  refine g_pr (show aCod 129 1625 = some (.putfield 2394, 1628) by decide +kernel) ⟨rfl, by decide, rfl⟩ ?_
  rw [rgm_up]
  exact k
def icP56 : List (Nat × Nat × Int32) := (226, 2, iI (107)) :: (226, 1, iI (110)) :: (226, 0, iI (105)) :: icP55
def icR69 : List (Nat × Nat × Option Nat) := (157, 91, some 226) :: icR68
def icZ67 : List Nat := 226 :: icZ66
theorem ic_73 {Q : Option Value → List aSh → aFI → aFL → aFR → Prop} {B : aFI} {L : aFL} {R : aFR} (k : gWp 150 129 1650 [.ref 157] [] (S0.take 227) (ig B icP56 icZ67) L (rgm R icR69) Q) : gWp 150 129 1628 [.ref 157] [] (S0.take 226) (ig B icP55 icZ66) L (rgm R icR68) Q := by
  refine g_al (show aCod 129 1628 = some (.aload 0, 1629) by decide +kernel) rfl ?_
  refine g_pu (show aCod 129 1629 = some (.sipush 3, 1630) by decide +kernel) ?_
  refine g_nc (p := 226) (m := 3) (S2 := (S0.take 227)) (show aCod 129 1630 = some (.newarray .char, 1632) by decide +kernel) rfl (by decide +kernel) (by decide) (by decide) (by decide +kernel) ?_
  rw [ig_row (by decide +kernel)]
  refine g_du (show aCod 129 1632 = some (.dup, 1633) by decide +kernel) rfl ?_
  refine g_pu (show aCod 129 1633 = some (.sipush 0, 1634) by decide +kernel) ?_
  refine g_pu (show aCod 129 1634 = some (.sipush 105, 1636) by decide +kernel) ?_
  refine g_cs (k2 := 0) (x2 := iI 105) (show aCod 129 1636 = some (.castore, 1637) by decide +kernel) rfl (by decide) (by decide) (by decide) ?_
  rw [ig_up]
  refine g_du (show aCod 129 1637 = some (.dup, 1638) by decide +kernel) rfl ?_
  refine g_pu (show aCod 129 1638 = some (.sipush 1, 1639) by decide +kernel) ?_
  refine g_pu (show aCod 129 1639 = some (.sipush 110, 1641) by decide +kernel) ?_
  refine g_cs (k2 := 1) (x2 := iI 110) (show aCod 129 1641 = some (.castore, 1642) by decide +kernel) rfl (by decide) (by decide) (by decide) ?_
  rw [ig_up]
  refine g_du (show aCod 129 1642 = some (.dup, 1643) by decide +kernel) rfl ?_
  refine g_pu (show aCod 129 1643 = some (.sipush 2, 1644) by decide +kernel) ?_
  refine g_pu (show aCod 129 1644 = some (.sipush 107, 1646) by decide +kernel) ?_
  refine g_cs (k2 := 2) (x2 := iI 107) (show aCod 129 1646 = some (.castore, 1647) by decide +kernel) rfl (by decide) (by decide) (by decide) ?_
  rw [ig_up]
  refine g_pr (show aCod 129 1647 = some (.putfield 2395, 1650) by decide +kernel) ⟨rfl, by decide, rfl⟩ ?_
  rw [rgm_up]
  exact k
def icP57 : List (Nat × Nat × Int32) := (227, 2, iI (101)) :: (227, 1, iI (103)) :: (227, 0, iI (97)) :: icP56
def icR70 : List (Nat × Nat × Option Nat) := (157, 92, some 227) :: icR69
def icZ68 : List Nat := 227 :: icZ67
theorem ic_74 {Q : Option Value → List aSh → aFI → aFL → aFR → Prop} {B : aFI} {L : aFL} {R : aFR} (k : gWp 150 129 1672 [.ref 157] [] (S0.take 228) (ig B icP57 icZ68) L (rgm R icR70) Q) : gWp 150 129 1650 [.ref 157] [] (S0.take 227) (ig B icP56 icZ67) L (rgm R icR69) Q := by
  refine g_al (show aCod 129 1650 = some (.aload 0, 1651) by decide +kernel) rfl ?_
  refine g_pu (show aCod 129 1651 = some (.sipush 3, 1652) by decide +kernel) ?_
  refine g_nc (p := 227) (m := 3) (S2 := (S0.take 228)) (show aCod 129 1652 = some (.newarray .char, 1654) by decide +kernel) rfl (by decide +kernel) (by decide) (by decide) (by decide +kernel) ?_
  rw [ig_row (by decide +kernel)]
  refine g_du (show aCod 129 1654 = some (.dup, 1655) by decide +kernel) rfl ?_
  refine g_pu (show aCod 129 1655 = some (.sipush 0, 1656) by decide +kernel) ?_
  refine g_pu (show aCod 129 1656 = some (.sipush 97, 1658) by decide +kernel) ?_
  refine g_cs (k2 := 0) (x2 := iI 97) (show aCod 129 1658 = some (.castore, 1659) by decide +kernel) rfl (by decide) (by decide) (by decide) ?_
  rw [ig_up]
  refine g_du (show aCod 129 1659 = some (.dup, 1660) by decide +kernel) rfl ?_
  refine g_pu (show aCod 129 1660 = some (.sipush 1, 1661) by decide +kernel) ?_
  refine g_pu (show aCod 129 1661 = some (.sipush 103, 1663) by decide +kernel) ?_
  refine g_cs (k2 := 1) (x2 := iI 103) (show aCod 129 1663 = some (.castore, 1664) by decide +kernel) rfl (by decide) (by decide) (by decide) ?_
  rw [ig_up]
  refine g_du (show aCod 129 1664 = some (.dup, 1665) by decide +kernel) rfl ?_
  refine g_pu (show aCod 129 1665 = some (.sipush 2, 1666) by decide +kernel) ?_
  refine g_pu (show aCod 129 1666 = some (.sipush 101, 1668) by decide +kernel) ?_
  refine g_cs (k2 := 2) (x2 := iI 101) (show aCod 129 1668 = some (.castore, 1669) by decide +kernel) rfl (by decide) (by decide) (by decide) ?_
  rw [ig_up]
  refine g_pr (show aCod 129 1669 = some (.putfield 2396, 1672) by decide +kernel) ⟨rfl, by decide, rfl⟩ ?_
  rw [rgm_up]
  exact k
def icP58 : List (Nat × Nat × Int32) := (228, 5, iI (114)) :: (228, 4, iI (101)) :: (228, 3, iI (98)) :: (228, 2, iI (109)) :: (228, 1, iI (117)) :: (228, 0, iI (110)) :: icP57
def icR71 : List (Nat × Nat × Option Nat) := (157, 93, some 228) :: icR70
def icZ69 : List Nat := 228 :: icZ68
theorem ic_75 {Q : Option Value → List aSh → aFI → aFL → aFR → Prop} {B : aFI} {L : aFL} {R : aFR} (k : gWp 150 129 1710 [.ref 157] [] (S0.take 229) (ig B icP58 icZ69) L (rgm R icR71) Q) : gWp 150 129 1672 [.ref 157] [] (S0.take 228) (ig B icP57 icZ68) L (rgm R icR70) Q := by
  refine g_al (show aCod 129 1672 = some (.aload 0, 1673) by decide +kernel) rfl ?_
  refine g_pu (show aCod 129 1673 = some (.sipush 6, 1675) by decide +kernel) ?_
  refine g_nc (p := 228) (m := 6) (S2 := (S0.take 229)) (show aCod 129 1675 = some (.newarray .char, 1677) by decide +kernel) rfl (by decide +kernel) (by decide) (by decide) (by decide +kernel) ?_
  rw [ig_row (by decide +kernel)]
  refine g_du (show aCod 129 1677 = some (.dup, 1678) by decide +kernel) rfl ?_
  refine g_pu (show aCod 129 1678 = some (.sipush 0, 1679) by decide +kernel) ?_
  refine g_pu (show aCod 129 1679 = some (.sipush 110, 1681) by decide +kernel) ?_
  refine g_cs (k2 := 0) (x2 := iI 110) (show aCod 129 1681 = some (.castore, 1682) by decide +kernel) rfl (by decide) (by decide) (by decide) ?_
  rw [ig_up]
  refine g_du (show aCod 129 1682 = some (.dup, 1683) by decide +kernel) rfl ?_
  refine g_pu (show aCod 129 1683 = some (.sipush 1, 1684) by decide +kernel) ?_
  refine g_pu (show aCod 129 1684 = some (.sipush 117, 1686) by decide +kernel) ?_
  refine g_cs (k2 := 1) (x2 := iI 117) (show aCod 129 1686 = some (.castore, 1687) by decide +kernel) rfl (by decide) (by decide) (by decide) ?_
  rw [ig_up]
  refine g_du (show aCod 129 1687 = some (.dup, 1688) by decide +kernel) rfl ?_
  refine g_pu (show aCod 129 1688 = some (.sipush 2, 1689) by decide +kernel) ?_
  refine g_pu (show aCod 129 1689 = some (.sipush 109, 1691) by decide +kernel) ?_
  refine g_cs (k2 := 2) (x2 := iI 109) (show aCod 129 1691 = some (.castore, 1692) by decide +kernel) rfl (by decide) (by decide) (by decide) ?_
  rw [ig_up]
  refine g_du (show aCod 129 1692 = some (.dup, 1693) by decide +kernel) rfl ?_
  refine g_pu (show aCod 129 1693 = some (.sipush 3, 1694) by decide +kernel) ?_
  refine g_pu (show aCod 129 1694 = some (.sipush 98, 1696) by decide +kernel) ?_
  refine g_cs (k2 := 3) (x2 := iI 98) (show aCod 129 1696 = some (.castore, 1697) by decide +kernel) rfl (by decide) (by decide) (by decide) ?_
  rw [ig_up]
  refine g_du (show aCod 129 1697 = some (.dup, 1698) by decide +kernel) rfl ?_
  refine g_pu (show aCod 129 1698 = some (.sipush 4, 1699) by decide +kernel) ?_
  refine g_pu (show aCod 129 1699 = some (.sipush 101, 1701) by decide +kernel) ?_
  refine g_cs (k2 := 4) (x2 := iI 101) (show aCod 129 1701 = some (.castore, 1702) by decide +kernel) rfl (by decide) (by decide) (by decide) ?_
  rw [ig_up]
  refine g_du (show aCod 129 1702 = some (.dup, 1703) by decide +kernel) rfl ?_
  refine g_pu (show aCod 129 1703 = some (.sipush 5, 1704) by decide +kernel) ?_
  refine g_pu (show aCod 129 1704 = some (.sipush 114, 1706) by decide +kernel) ?_
  refine g_cs (k2 := 5) (x2 := iI 114) (show aCod 129 1706 = some (.castore, 1707) by decide +kernel) rfl (by decide) (by decide) (by decide) ?_
  rw [ig_up]
  refine g_pr (show aCod 129 1707 = some (.putfield 2397, 1710) by decide +kernel) ⟨rfl, by decide, rfl⟩ ?_
  rw [rgm_up]
  exact k
def icP59 : List (Nat × Nat × Int32) := (229, 3, iI (109)) :: (229, 2, iI (114)) :: (229, 1, iI (101)) :: (229, 0, iI (116)) :: icP58
def icR72 : List (Nat × Nat × Option Nat) := (157, 94, some 229) :: icR71
def icZ70 : List Nat := 229 :: icZ69
theorem ic_76 {Q : Option Value → List aSh → aFI → aFL → aFR → Prop} {B : aFI} {L : aFL} {R : aFR} (k : gWp 150 129 1737 [.ref 157] [] (S0.take 230) (ig B icP59 icZ70) L (rgm R icR72) Q) : gWp 150 129 1710 [.ref 157] [] (S0.take 229) (ig B icP58 icZ69) L (rgm R icR71) Q := by
  refine g_al (show aCod 129 1710 = some (.aload 0, 1711) by decide +kernel) rfl ?_
  refine g_pu (show aCod 129 1711 = some (.sipush 4, 1712) by decide +kernel) ?_
  refine g_nc (p := 229) (m := 4) (S2 := (S0.take 230)) (show aCod 129 1712 = some (.newarray .char, 1714) by decide +kernel) rfl (by decide +kernel) (by decide) (by decide) (by decide +kernel) ?_
  rw [ig_row (by decide +kernel)]
  refine g_du (show aCod 129 1714 = some (.dup, 1715) by decide +kernel) rfl ?_
  refine g_pu (show aCod 129 1715 = some (.sipush 0, 1716) by decide +kernel) ?_
  refine g_pu (show aCod 129 1716 = some (.sipush 116, 1718) by decide +kernel) ?_
  refine g_cs (k2 := 0) (x2 := iI 116) (show aCod 129 1718 = some (.castore, 1719) by decide +kernel) rfl (by decide) (by decide) (by decide) ?_
  rw [ig_up]
  refine g_du (show aCod 129 1719 = some (.dup, 1720) by decide +kernel) rfl ?_
  refine g_pu (show aCod 129 1720 = some (.sipush 1, 1721) by decide +kernel) ?_
  refine g_pu (show aCod 129 1721 = some (.sipush 101, 1723) by decide +kernel) ?_
  refine g_cs (k2 := 1) (x2 := iI 101) (show aCod 129 1723 = some (.castore, 1724) by decide +kernel) rfl (by decide) (by decide) (by decide) ?_
  rw [ig_up]
  refine g_du (show aCod 129 1724 = some (.dup, 1725) by decide +kernel) rfl ?_
  refine g_pu (show aCod 129 1725 = some (.sipush 2, 1726) by decide +kernel) ?_
  refine g_pu (show aCod 129 1726 = some (.sipush 114, 1728) by decide +kernel) ?_
  refine g_cs (k2 := 2) (x2 := iI 114) (show aCod 129 1728 = some (.castore, 1729) by decide +kernel) rfl (by decide) (by decide) (by decide) ?_
  rw [ig_up]
  refine g_du (show aCod 129 1729 = some (.dup, 1730) by decide +kernel) rfl ?_
  refine g_pu (show aCod 129 1730 = some (.sipush 3, 1731) by decide +kernel) ?_
  refine g_pu (show aCod 129 1731 = some (.sipush 109, 1733) by decide +kernel) ?_
  refine g_cs (k2 := 3) (x2 := iI 109) (show aCod 129 1733 = some (.castore, 1734) by decide +kernel) rfl (by decide) (by decide) (by decide) ?_
  rw [ig_up]
  refine g_pr (show aCod 129 1734 = some (.putfield 2398, 1737) by decide +kernel) ⟨rfl, by decide, rfl⟩ ?_
  rw [rgm_up]
  exact k
def icP60 : List (Nat × Nat × Int32) := (230, 4, iI (115)) :: (230, 3, iI (119)) :: (230, 2, iI (97)) :: (230, 1, iI (114)) :: (230, 0, iI (100)) :: icP59
def icR73 : List (Nat × Nat × Option Nat) := (157, 95, some 230) :: icR72
def icZ71 : List Nat := 230 :: icZ70
theorem ic_77 {Q : Option Value → List aSh → aFI → aFL → aFR → Prop} {B : aFI} {L : aFL} {R : aFR} (k : gWp 150 129 1769 [.ref 157] [] (S0.take 231) (ig B icP60 icZ71) L (rgm R icR73) Q) : gWp 150 129 1737 [.ref 157] [] (S0.take 230) (ig B icP59 icZ70) L (rgm R icR72) Q := by
  refine g_al (show aCod 129 1737 = some (.aload 0, 1738) by decide +kernel) rfl ?_
  refine g_pu (show aCod 129 1738 = some (.sipush 5, 1739) by decide +kernel) ?_
  refine g_nc (p := 230) (m := 5) (S2 := (S0.take 231)) (show aCod 129 1739 = some (.newarray .char, 1741) by decide +kernel) rfl (by decide +kernel) (by decide) (by decide) (by decide +kernel) ?_
  rw [ig_row (by decide +kernel)]
  refine g_du (show aCod 129 1741 = some (.dup, 1742) by decide +kernel) rfl ?_
  refine g_pu (show aCod 129 1742 = some (.sipush 0, 1743) by decide +kernel) ?_
  refine g_pu (show aCod 129 1743 = some (.sipush 100, 1745) by decide +kernel) ?_
  refine g_cs (k2 := 0) (x2 := iI 100) (show aCod 129 1745 = some (.castore, 1746) by decide +kernel) rfl (by decide) (by decide) (by decide) ?_
  rw [ig_up]
  refine g_du (show aCod 129 1746 = some (.dup, 1747) by decide +kernel) rfl ?_
  refine g_pu (show aCod 129 1747 = some (.sipush 1, 1748) by decide +kernel) ?_
  refine g_pu (show aCod 129 1748 = some (.sipush 114, 1750) by decide +kernel) ?_
  refine g_cs (k2 := 1) (x2 := iI 114) (show aCod 129 1750 = some (.castore, 1751) by decide +kernel) rfl (by decide) (by decide) (by decide) ?_
  rw [ig_up]
  refine g_du (show aCod 129 1751 = some (.dup, 1752) by decide +kernel) rfl ?_
  refine g_pu (show aCod 129 1752 = some (.sipush 2, 1753) by decide +kernel) ?_
  refine g_pu (show aCod 129 1753 = some (.sipush 97, 1755) by decide +kernel) ?_
  refine g_cs (k2 := 2) (x2 := iI 97) (show aCod 129 1755 = some (.castore, 1756) by decide +kernel) rfl (by decide) (by decide) (by decide) ?_
  rw [ig_up]
  refine g_du (show aCod 129 1756 = some (.dup, 1757) by decide +kernel) rfl ?_
  refine g_pu (show aCod 129 1757 = some (.sipush 3, 1758) by decide +kernel) ?_
  refine g_pu (show aCod 129 1758 = some (.sipush 119, 1760) by decide +kernel) ?_
  refine g_cs (k2 := 3) (x2 := iI 119) (show aCod 129 1760 = some (.castore, 1761) by decide +kernel) rfl (by decide) (by decide) (by decide) ?_
  rw [ig_up]
  refine g_du (show aCod 129 1761 = some (.dup, 1762) by decide +kernel) rfl ?_
  refine g_pu (show aCod 129 1762 = some (.sipush 4, 1763) by decide +kernel) ?_
  refine g_pu (show aCod 129 1763 = some (.sipush 115, 1765) by decide +kernel) ?_
  refine g_cs (k2 := 4) (x2 := iI 115) (show aCod 129 1765 = some (.castore, 1766) by decide +kernel) rfl (by decide) (by decide) (by decide) ?_
  rw [ig_up]
  refine g_pr (show aCod 129 1766 = some (.putfield 2399, 1769) by decide +kernel) ⟨rfl, by decide, rfl⟩ ?_
  rw [rgm_up]
  exact k
def icP61 : List (Nat × Nat × Int32) := (231, 1, iI (121)) :: (231, 0, iI (98)) :: icP60
def icR74 : List (Nat × Nat × Option Nat) := (157, 96, some 231) :: icR73
def icZ72 : List Nat := 231 :: icZ71
theorem ic_78 {Q : Option Value → List aSh → aFI → aFL → aFR → Prop} {B : aFI} {L : aFL} {R : aFR} (k : gWp 150 129 1786 [.ref 157] [] (S0.take 232) (ig B icP61 icZ72) L (rgm R icR74) Q) : gWp 150 129 1769 [.ref 157] [] (S0.take 231) (ig B icP60 icZ71) L (rgm R icR73) Q := by
  refine g_al (show aCod 129 1769 = some (.aload 0, 1770) by decide +kernel) rfl ?_
  refine g_pu (show aCod 129 1770 = some (.sipush 2, 1771) by decide +kernel) ?_
  refine g_nc (p := 231) (m := 2) (S2 := (S0.take 232)) (show aCod 129 1771 = some (.newarray .char, 1773) by decide +kernel) rfl (by decide +kernel) (by decide) (by decide) (by decide +kernel) ?_
  rw [ig_row (by decide +kernel)]
  refine g_du (show aCod 129 1773 = some (.dup, 1774) by decide +kernel) rfl ?_
  refine g_pu (show aCod 129 1774 = some (.sipush 0, 1775) by decide +kernel) ?_
  refine g_pu (show aCod 129 1775 = some (.sipush 98, 1777) by decide +kernel) ?_
  refine g_cs (k2 := 0) (x2 := iI 98) (show aCod 129 1777 = some (.castore, 1778) by decide +kernel) rfl (by decide) (by decide) (by decide) ?_
  rw [ig_up]
  refine g_du (show aCod 129 1778 = some (.dup, 1779) by decide +kernel) rfl ?_
  refine g_pu (show aCod 129 1779 = some (.sipush 1, 1780) by decide +kernel) ?_
  refine g_pu (show aCod 129 1780 = some (.sipush 121, 1782) by decide +kernel) ?_
  refine g_cs (k2 := 1) (x2 := iI 121) (show aCod 129 1782 = some (.castore, 1783) by decide +kernel) rfl (by decide) (by decide) (by decide) ?_
  rw [ig_up]
  refine g_pr (show aCod 129 1783 = some (.putfield 2400, 1786) by decide +kernel) ⟨rfl, by decide, rfl⟩ ?_
  rw [rgm_up]
  exact k
def icR75 : List (Nat × Nat × Option Nat) := (157, 97, some 232) :: icR74
def icZ73 : List Nat := 232 :: icZ72
theorem ic_79 {Q : Option Value → List aSh → aFI → aFL → aFR → Prop} {B : aFI} {L : aFL} {R : aFR} (k : gWp 150 129 1795 [.ref 157] [] (S0.take 233) (ig B icP61 icZ73) L (rgm R icR75) Q) : gWp 150 129 1786 [.ref 157] [] (S0.take 232) (ig B icP61 icZ72) L (rgm R icR74) Q := by
  refine g_al (show aCod 129 1786 = some (.aload 0, 1787) by decide +kernel) rfl ?_
  refine g_pu (show aCod 129 1787 = some (.sipush 1700, 1790) by decide +kernel) ?_
  refine g_ni (p := 232) (m := 1700) (S2 := (S0.take 233)) (show aCod 129 1790 = some (.newarray .int, 1792) by decide +kernel) rfl (by decide +kernel) (by decide) (by decide) (by decide +kernel) ?_
  rw [ig_row (by decide +kernel)]
  refine g_pr (show aCod 129 1792 = some (.putfield 2401, 1795) by decide +kernel) ⟨rfl, by decide, rfl⟩ ?_
  rw [rgm_up]
  exact k
def icR76 : List (Nat × Nat × Option Nat) := (157, 99, some 233) :: icR75
def icZ74 : List Nat := 233 :: icZ73
theorem ic_80 {Q : Option Value → List aSh → aFI → aFL → aFR → Prop} {B : aFI} {L : aFL} {R : aFR} (k : gWp 150 129 1804 [.ref 157] [] (S0.take 234) (ig B icP61 icZ74) L (rgm R icR76) Q) : gWp 150 129 1795 [.ref 157] [] (S0.take 233) (ig B icP61 icZ73) L (rgm R icR75) Q := by
  refine g_al (show aCod 129 1795 = some (.aload 0, 1796) by decide +kernel) rfl ?_
  refine g_pu (show aCod 129 1796 = some (.sipush 1700, 1799) by decide +kernel) ?_
  refine g_ni (p := 233) (m := 1700) (S2 := (S0.take 234)) (show aCod 129 1799 = some (.newarray .int, 1801) by decide +kernel) rfl (by decide +kernel) (by decide) (by decide) (by decide +kernel) ?_
  rw [ig_row (by decide +kernel)]
  refine g_pr (show aCod 129 1801 = some (.putfield 2403, 1804) by decide +kernel) ⟨rfl, by decide, rfl⟩ ?_
  rw [rgm_up]
  exact k
def icR77 : List (Nat × Nat × Option Nat) := (157, 103, some 234) :: icR76
theorem ic_81 {Q : Option Value → List aSh → aFI → aFL → aFR → Prop} {B : aFI} {L : aFL} {R : aFR} (k : gWp 150 129 1813 [.ref 157] [] (S0.take 235) (ig B icP61 icZ74) (aRow L 234 (fun _ => 0)) (rgm R icR77) Q) : gWp 150 129 1804 [.ref 157] [] (S0.take 234) (ig B icP61 icZ74) L (rgm R icR76) Q := by
  refine g_al (show aCod 129 1804 = some (.aload 0, 1805) by decide +kernel) rfl ?_
  refine g_pu (show aCod 129 1805 = some (.sipush 1700, 1808) by decide +kernel) ?_
  refine g_nl (p := 234) (m := 1700) (S2 := (S0.take 235)) (show aCod 129 1808 = some (.newarray .long, 1810) by decide +kernel) rfl (by decide +kernel) (by decide) (by decide) (by decide +kernel) ?_
  refine g_pr (show aCod 129 1810 = some (.putfield 2407, 1813) by decide +kernel) ⟨rfl, by decide, rfl⟩ ?_
  rw [rgm_up]
  exact k
def icR78 : List (Nat × Nat × Option Nat) := (157, 107, some 235) :: icR77
def icZ75 : List Nat := 235 :: icZ74
theorem ic_82 {Q : Option Value → List aSh → aFI → aFL → aFR → Prop} {B : aFI} {L : aFL} {R : aFR} (k : gWp 150 129 1821 [.ref 157] [] (S0.take 236) (ig B icP61 icZ75) L (rgm R icR78) Q) : gWp 150 129 1813 [.ref 157] [] (S0.take 235) (ig B icP61 icZ74) L (rgm R icR77) Q := by
  refine g_al (show aCod 129 1813 = some (.aload 0, 1814) by decide +kernel) rfl ?_
  refine g_pu (show aCod 129 1814 = some (.sipush 39, 1816) by decide +kernel) ?_
  refine g_ni (p := 235) (m := 39) (S2 := (S0.take 236)) (show aCod 129 1816 = some (.newarray .int, 1818) by decide +kernel) rfl (by decide +kernel) (by decide) (by decide) (by decide +kernel) ?_
  rw [ig_row (by decide +kernel)]
  refine g_pr (show aCod 129 1818 = some (.putfield 2411, 1821) by decide +kernel) ⟨rfl, by decide, rfl⟩ ?_
  rw [rgm_up]
  exact k
-- end at pc 1821, cells 236, statements 83, P 61 R 78 Z 75
