/-! WEAKEST PRECONDITIONS over the abstract machine, once all cells are made -/
def iI (z : Int) : Int32 := Int32.ofInt z
def lI (z : Int) : Int64 := Int64.ofInt z
def aBo (b : Bool) : Int32 := if b = true then 1 else 0
abbrev aFI : Type := Nat → Nat → Int32
abbrev aFL : Type := Nat → Nat → Int64
abbrev aFR : Type := Nat → Nat → Option Nat
abbrev aPo : Type := Option Value → aFI → aFL → aFR → Prop
abbrev aSc : Type := Option (Nat × (Nat → Int32))
def aWp (sc : aSc) (d y pc : Nat) (ls st : List Value) (I : aFI) (L : aFL) (R : aFR) (Q : aPo) : Prop := ∃ (n : Nat) (v : Option Value) (I2 : aFI) (L2 : aFL) (R2 : aFR), aEv WD sc n d y pc ls st (S0, I, L, R) = some (v, (S0, I2, L2, R2)) ∧ Q v I2 L2 R2
/-- more fuel, the same answer -/
theorem aEv_more {wd : List Int32} : ∀ (n k : Nat) (sc : aSc) (d y pc : Nat) (ls st : List Value) (M M9 : aM) (v : Option Value), aEv wd sc n d y pc ls st M = some (v, M9) → aEv wd sc (n + k) d y pc ls st M = some (v, M9)
  | 0, _, _, _, _, _, _, _, _, _, _, h => by cases h
  | n + 1, k, sc, d, y, pc, ls, st, M, M9, v, h => by
    rw [show n + 1 + k = (n + k) + 1 by omega]
    rw [aEv_succ] at h ⊢
    split at h
    · cases h
    · split at h
      · exact h
      · split at h
        · split at h
          · cases h
          · split at h
            · rename_i he
              rw [aEv_more n k _ _ _ _ _ _ _ _ _ he]
              exact aEv_more n k _ _ _ _ _ _ _ _ _ h
            · cases h
        · split at h
          · exact aEv_more n k _ _ _ _ _ _ _ _ _ h
          · split at h
            · exact aEv_more n k _ _ _ _ _ _ _ _ _ h
            · cases h
section WP
variable {sc : aSc} {d y pc nx : Nat} {ls st : List Value} {I : aFI} {L : aFL} {R : aFR} {Q : aPo}
theorem w_ret {v : Option Value} {i : Instr} (hc : aCod y pc = some (i, nx)) (h : aRet y i st = some v) (k : Q v I L R) : aWp sc d y pc ls st I L R Q := ⟨1, v, I, L, R, by rw [aEv_succ, hc]; simp only [h], k⟩
theorem w_st {i : Instr} {ls2 st2 : List Value} {I2 : aFI} {L2 : aFL} {R2 : aFR} (hc : aCod y pc = some (i, nx)) (h1 : aRet y i st = none) (h2 : aCal i st (S0, I, L, R) = none) (h3 : aBr i nx st = none) (h : aSt sc WD d i ls st (S0, I, L, R) = some (ls2, st2, (S0, I2, L2, R2))) (k : aWp sc d y nx ls2 st2 I2 L2 R2 Q) : aWp sc d y pc ls st I L R Q := by
  obtain ⟨n, v, I3, L3, R3, h4, h5⟩ := k
  exact ⟨n + 1, v, I3, L3, R3, by rw [aEv_succ, hc]; simp only [h1, h2, h3, h]; exact h4, h5⟩
theorem w_br {i : Instr} {st2 : List Value} {pc2 : Nat} (hc : aCod y pc = some (i, nx)) (h1 : aRet y i st = none) (h2 : aCal i st (S0, I, L, R) = none) (h : aBr i nx st = some (st2, pc2)) (k : aWp sc d y pc2 ls st2 I L R Q) : aWp sc d y pc ls st I L R Q := by
  obtain ⟨n, v, I3, L3, R3, h4, h5⟩ := k
  exact ⟨n + 1, v, I3, L3, R3, by rw [aEv_succ, hc]; simp only [h1, h2, h]; exact h4, h5⟩
theorem w_call {i : Instr} {z : Nat} {as rest ls0 : List Value} (hc : aCod y pc = some (i, nx)) (h1 : aRet y i st = none) (h2 : aCal i st (S0, I, L, R) = some (z, as, rest)) (h3 : aEnt0 z as = ls0) (hd : 1 ≤ d) (k : aWp none (d - 1) z 0 ls0 [] I L R (fun v I L R => aWp sc d y nx ls (v.toList ++ rest) I L R Q)) : aWp sc d y pc ls st I L R Q := by
  obtain ⟨n, v, I3, L3, R3, h4, n2, v2, I4, L4, R4, h5, h6⟩ := k
  obtain ⟨d2, rfl⟩ : ∃ d2, d = d2 + 1 := ⟨d - 1, by omega⟩
  have h4 : aEv WD none n d2 z 0 ls0 [] (S0, I, L, R) = some (v, S0, I3, L3, R3) := h4
  refine ⟨n + n2 + 1, v2, I4, L4, R4, ?_, h6⟩
  rw [aEv_succ, hc]
  simp only [h1, h2]
  rw [h3, aEv_more n n2 _ _ _ _ _ _ _ _ _ h4]
  simp only
  rw [show n + n2 = n2 + n by omega]
  exact aEv_more n2 n _ _ _ _ _ _ _ _ _ h5
theorem w_mono {Q2 : aPo} (h : ∀ v I L R, Q v I L R → Q2 v I L R) (k : aWp sc d y pc ls st I L R Q) : aWp sc d y pc ls st I L R Q2 := by
  obtain ⟨n, v, I3, L3, R3, h4, h5⟩ := k
  exact ⟨n, v, I3, L3, R3, h4, h _ _ _ _ h5⟩
-- plain steps
theorem w_push {v : Int} {x : Int32} (hc : aCod y pc = some (.sipush v, nx)) (hx : Int32.ofInt v = x) (k : aWp sc d y nx ls (.int x :: st) I L R Q) : aWp sc d y pc ls st I L R Q := w_st hc (by cases st <;> rfl) rfl rfl (by subst hx; rfl) k
theorem w_pushl {v : Int} {x : Int64} (hc : aCod y pc = some (.goto_w v, nx)) (hx : Int64.ofInt v = x) (k : aWp sc d y nx ls (.long x :: st) I L R Q) : aWp sc d y pc ls st I L R Q := w_st hc (by cases st <;> rfl) rfl rfl (by subst hx; rfl) k
theorem w_iload {j : Nat} {x : Int32} (hc : aCod y pc = some (.iload j, nx)) (hl : ls[j]? = some (.int x)) (k : aWp sc d y nx ls (.int x :: st) I L R Q) : aWp sc d y pc ls st I L R Q := w_st hc (by cases st <;> rfl) rfl rfl (by simp only [aSt, hl]) k
theorem w_lload {j : Nat} {x : Int64} (hc : aCod y pc = some (.lload j, nx)) (hl : ls[j]? = some (.long x)) (k : aWp sc d y nx ls (.long x :: st) I L R Q) : aWp sc d y pc ls st I L R Q := w_st hc (by cases st <;> rfl) rfl rfl (by simp only [aSt, hl]) k
theorem w_aload {j x : Nat} (hc : aCod y pc = some (.aload j, nx)) (hl : ls[j]? = some (.ref x)) (k : aWp sc d y nx ls (.ref x :: st) I L R Q) : aWp sc d y pc ls st I L R Q := w_st hc (by cases st <;> rfl) rfl rfl (by simp only [aSt, hl]) k
theorem w_istore {j : Nat} {x : Int32} {ls2 : List Value} (hc : aCod y pc = some (.istore j, nx)) (hj : j < ls.length) (hl : aSto ls j (.int x) = ls2) (k : aWp sc d y nx ls2 st I L R Q) : aWp sc d y pc ls (.int x :: st) I L R Q := w_st hc (by cases st <;> rfl) rfl rfl (by subst hl; simp only [aSt, if_pos hj]) k
theorem w_astore {j x : Nat} {ls2 : List Value} (hc : aCod y pc = some (.astore j, nx)) (hj : j < ls.length) (hl : aSto ls j (.ref x) = ls2) (k : aWp sc d y nx ls2 st I L R Q) : aWp sc d y pc ls (.ref x :: st) I L R Q := w_st hc (by cases st <;> rfl) rfl rfl (by subst hl; simp only [aSt, if_pos hj]) k
theorem w_lstore {j : Nat} {x : Int64} {ls2 : List Value} (hc : aCod y pc = some (.lstore j, nx)) (hj : j + 1 < ls.length) (hl : aStoL ls j (.long x) = ls2) (k : aWp sc d y nx ls2 st I L R Q) : aWp sc d y pc ls (.long x :: st) I L R Q := w_st hc (by cases st <;> rfl) rfl rfl (by subst hl; simp only [aSt, if_pos hj]) k
theorem w_iinc {j : Nat} {c : Int} {x x2 : Int32} {ls2 : List Value} (hc : aCod y pc = some (.iinc j c, nx)) (hl : ls[j]? = some (.int x)) (hx : x + Int32.ofInt c = x2) (h2 : ls.set j (.int x2) = ls2) (k : aWp sc d y nx ls2 st I L R Q) : aWp sc d y pc ls st I L R Q := w_st hc (by cases st <;> rfl) rfl rfl (by subst h2; subst hx; simp only [aSt, hl]) k
theorem w_dup {v : Value} (hc : aCod y pc = some (.dup, nx)) (hv : v.category = 1) (k : aWp sc d y nx ls (v :: v :: st) I L R Q) : aWp sc d y pc ls (v :: st) I L R Q := w_st hc rfl rfl rfl (by simp only [aSt, if_pos hv]) k
theorem w_pop {v : Value} (hc : aCod y pc = some (.pop, nx)) (hv : v.category = 1) (k : aWp sc d y nx ls st I L R Q) : aWp sc d y pc ls (v :: st) I L R Q := w_st hc rfl rfl rfl (by simp only [aSt, if_pos hv]) k
theorem w_dup2 {v w : Value} (hc : aCod y pc = some (.dup2, nx)) (hv : v.category = 1) (hw : w.category = 1) (k : aWp sc d y nx ls (v :: w :: v :: w :: st) I L R Q) : aWp sc d y pc ls (v :: w :: st) I L R Q := w_st hc rfl rfl rfl (by simp only [aSt, if_pos (And.intro hv hw)]) k
theorem w_iadd {a b : Int32} {x : Int32} (hc : aCod y pc = some (.iadd, nx)) (hx : a + b = x) (k : aWp sc d y nx ls (.int x :: st) I L R Q) : aWp sc d y pc ls (.int b :: .int a :: st) I L R Q := w_st hc (by cases st <;> rfl) rfl rfl (by subst hx; rfl) k
theorem w_isub {a b : Int32} {x : Int32} (hc : aCod y pc = some (.isub, nx)) (hx : a - b = x) (k : aWp sc d y nx ls (.int x :: st) I L R Q) : aWp sc d y pc ls (.int b :: .int a :: st) I L R Q := w_st hc (by cases st <;> rfl) rfl rfl (by subst hx; rfl) k
theorem w_imul {a b : Int32} {x : Int32} (hc : aCod y pc = some (.imul, nx)) (hx : a * b = x) (k : aWp sc d y nx ls (.int x :: st) I L R Q) : aWp sc d y pc ls (.int b :: .int a :: st) I L R Q := w_st hc (by cases st <;> rfl) rfl rfl (by subst hx; rfl) k
theorem w_iand {a b : Int32} {x : Int32} (hc : aCod y pc = some (.iand, nx)) (hx : a &&& b = x) (k : aWp sc d y nx ls (.int x :: st) I L R Q) : aWp sc d y pc ls (.int b :: .int a :: st) I L R Q := w_st hc (by cases st <;> rfl) rfl rfl (by subst hx; rfl) k
theorem w_ior {a b : Int32} {x : Int32} (hc : aCod y pc = some (.ior, nx)) (hx : a ||| b = x) (k : aWp sc d y nx ls (.int x :: st) I L R Q) : aWp sc d y pc ls (.int b :: .int a :: st) I L R Q := w_st hc (by cases st <;> rfl) rfl rfl (by subst hx; rfl) k
theorem w_ixor {a b : Int32} {x : Int32} (hc : aCod y pc = some (.ixor, nx)) (hx : a ^^^ b = x) (k : aWp sc d y nx ls (.int x :: st) I L R Q) : aWp sc d y pc ls (.int b :: .int a :: st) I L R Q := w_st hc (by cases st <;> rfl) rfl rfl (by subst hx; rfl) k
theorem w_ishl {a b : Int32} {x : Int32} (hc : aCod y pc = some (.ishl, nx)) (hx : a <<< (b &&& 31) = x) (k : aWp sc d y nx ls (.int x :: st) I L R Q) : aWp sc d y pc ls (.int b :: .int a :: st) I L R Q := w_st hc (by cases st <;> rfl) rfl rfl (by subst hx; rfl) k
theorem w_ishr {a b : Int32} {x : Int32} (hc : aCod y pc = some (.ishr, nx)) (hx : a >>> (b &&& 31) = x) (k : aWp sc d y nx ls (.int x :: st) I L R Q) : aWp sc d y pc ls (.int b :: .int a :: st) I L R Q := w_st hc (by cases st <;> rfl) rfl rfl (by subst hx; rfl) k
theorem w_iushr {a b : Int32} {x : Int32} (hc : aCod y pc = some (.iushr, nx)) (hx : (a.toUInt32 >>> (b.toUInt32 &&& Int32.toUInt32 31)).toInt32 = x) (k : aWp sc d y nx ls (.int x :: st) I L R Q) : aWp sc d y pc ls (.int b :: .int a :: st) I L R Q := w_st hc (by cases st <;> rfl) rfl rfl (by subst hx; rfl) k
theorem w_idiv {a b : Int32} {x : Int32} (hc : aCod y pc = some (.idiv, nx)) (hn : ¬ b = 0) (hx : a / b = x) (k : aWp sc d y nx ls (.int x :: st) I L R Q) : aWp sc d y pc ls (.int b :: .int a :: st) I L R Q := w_st hc (by cases st <;> rfl) rfl rfl (by subst hx; simp only [aSt, if_neg hn]) k
theorem w_irem {a b : Int32} {x : Int32} (hc : aCod y pc = some (.irem, nx)) (hn : ¬ b = 0) (hx : a - a / b * b = x) (k : aWp sc d y nx ls (.int x :: st) I L R Q) : aWp sc d y pc ls (.int b :: .int a :: st) I L R Q := w_st hc (by cases st <;> rfl) rfl rfl (by subst hx; simp only [aSt, if_neg hn]) k
theorem w_ladd {a b : Int64} {x : Int64} (hc : aCod y pc = some (.ladd, nx)) (hx : a + b = x) (k : aWp sc d y nx ls (.long x :: st) I L R Q) : aWp sc d y pc ls (.long b :: .long a :: st) I L R Q := w_st hc (by cases st <;> rfl) rfl rfl (by subst hx; rfl) k
theorem w_lsub {a b : Int64} {x : Int64} (hc : aCod y pc = some (.lsub, nx)) (hx : a - b = x) (k : aWp sc d y nx ls (.long x :: st) I L R Q) : aWp sc d y pc ls (.long b :: .long a :: st) I L R Q := w_st hc (by cases st <;> rfl) rfl rfl (by subst hx; rfl) k
theorem w_lmul {a b : Int64} {x : Int64} (hc : aCod y pc = some (.lmul, nx)) (hx : a * b = x) (k : aWp sc d y nx ls (.long x :: st) I L R Q) : aWp sc d y pc ls (.long b :: .long a :: st) I L R Q := w_st hc (by cases st <;> rfl) rfl rfl (by subst hx; rfl) k
theorem w_ldiv {a b : Int64} {x : Int64} (hc : aCod y pc = some (.ldiv, nx)) (hn : ¬ b = 0) (hx : a / b = x) (k : aWp sc d y nx ls (.long x :: st) I L R Q) : aWp sc d y pc ls (.long b :: .long a :: st) I L R Q := w_st hc (by cases st <;> rfl) rfl rfl (by subst hx; simp only [aSt, if_neg hn]) k
theorem w_lrem {a b : Int64} {x : Int64} (hc : aCod y pc = some (.lrem, nx)) (hn : ¬ b = 0) (hx : a - a / b * b = x) (k : aWp sc d y nx ls (.long x :: st) I L R Q) : aWp sc d y pc ls (.long b :: .long a :: st) I L R Q := w_st hc (by cases st <;> rfl) rfl rfl (by subst hx; simp only [aSt, if_neg hn]) k
theorem w_lcmp {a b : Int64} {x : Int32} (hc : aCod y pc = some (.lcmp, nx)) (hx : lg_cmp a b = x) (k : aWp sc d y nx ls (.int x :: st) I L R Q) : aWp sc d y pc ls (.long b :: .long a :: st) I L R Q := w_st hc (by cases st <;> rfl) rfl rfl (by subst hx; rfl) k
theorem w_i2l {a : Int32} {x : Int64} (hc : aCod y pc = some (.i2l, nx)) (hx : a.toInt64 = x) (k : aWp sc d y nx ls (.long x :: st) I L R Q) : aWp sc d y pc ls (.int a :: st) I L R Q := w_st hc (by cases st <;> rfl) rfl rfl (by subst hx; rfl) k
theorem w_l2i {a : Int64} {x : Int32} (hc : aCod y pc = some (.l2i, nx)) (hx : a.toInt32 = x) (k : aWp sc d y nx ls (.int x :: st) I L R Q) : aWp sc d y pc ls (.long a :: st) I L R Q := w_st hc (by cases st <;> rfl) rfl rfl (by subst hx; rfl) k
theorem w_getI {f q : Nat} {x : Int32} (hc : aCod y pc = some (.getfield f, nx)) (hs : S0[q]? = some (none, f / 256)) (hf : f % 256 < aNF (f / 256)) (ht : aIsRef (aTy (f / 256) (f % 256)) = false ∧ aTy (f / 256) (f % 256) ≠ .long) (hx : I q (f % 256) = x) (k : aWp sc d y nx ls (.int x :: st) I L R Q) : aWp sc d y pc ls (.ref q :: st) I L R Q := by
  subst hx
  refine w_st hc (by cases st <;> rfl) rfl rfl ?_ k
  have e : aFld (S0, I, L, R) q (f / 256) (f % 256) = .int (I q (f % 256)) := by
    unfold aFld
    split
    · rename_i e; exact absurd e ht.2
    · rename_i e; rw [e] at ht; exact absurd ht.1 (fun z => by cases z)
    · rename_i e; rw [e] at ht; exact absurd ht.1 (fun z => by cases z)
    · rfl
  simp only [aSt, if_pos (And.intro hs hf), e]
theorem w_getL {f q : Nat} {x : Int64} (hc : aCod y pc = some (.getfield f, nx)) (hs : S0[q]? = some (none, f / 256)) (hf : f % 256 < aNF (f / 256)) (ht : aTy (f / 256) (f % 256) = .long) (hx : L q (f % 256) = x) (k : aWp sc d y nx ls (.long x :: st) I L R Q) : aWp sc d y pc ls (.ref q :: st) I L R Q := by
  subst hx
  refine w_st hc (by cases st <;> rfl) rfl rfl ?_ k
  have e : aFld (S0, I, L, R) q (f / 256) (f % 256) = .long (L q (f % 256)) := by
    unfold aFld
    rw [ht]
  simp only [aSt, if_pos (And.intro hs hf), e]
theorem w_getR {f q a : Nat} (hc : aCod y pc = some (.getfield f, nx)) (hs : S0[q]? = some (none, f / 256)) (hf : f % 256 < aNF (f / 256)) (ht : aIsRef (aTy (f / 256) (f % 256)) = true) (hx : R q (f % 256) = some a) (k : aWp sc d y nx ls (.ref a :: st) I L R Q) : aWp sc d y pc ls (.ref q :: st) I L R Q := by
  refine w_st hc (by cases st <;> rfl) rfl rfl ?_ k
  have e : aFld (S0, I, L, R) q (f / 256) (f % 256) = .ref a := by
    unfold aFld
    split
    · rename_i e; rw [e] at ht; cases ht
    · simp only [hx]; rfl
    · simp only [hx]; rfl
    · rename_i e1 e2 e3
      cases e : aTy (f / 256) (f % 256) with
      | object z => exact absurd e (e2 z)
      | array z => exact absurd e (e3 z)
      | _ => rw [e] at ht; cases ht
  simp only [aSt, if_pos (And.intro hs hf), e]
theorem w_putI {f q : Nat} {x : Int32} (hc : aCod y pc = some (.putfield f, nx)) (hs : S0[q]? = some (none, f / 256)) (hf : f % 256 < aNF (f / 256)) (ht : aIsRef (aTy (f / 256) (f % 256)) = false ∧ aTy (f / 256) (f % 256) ≠ .long) (hn : narrow (aTy (f / 256) (f % 256)) (.int x) = .int x ∧ fits (aTy (f / 256) (f % 256)) (.int x) = true) (k : aWp sc d y nx ls st (aUp I q (f % 256) x) L R Q) : aWp sc d y pc ls (.int x :: .ref q :: st) I L R Q := w_st hc rfl rfl rfl (by simp only [aSt]; rw [if_pos ⟨hs, hf, ht.1, ht.2, hn.1, hn.2⟩]) k
theorem w_putL {f q : Nat} {x : Int64} (hc : aCod y pc = some (.putfield f, nx)) (hs : S0[q]? = some (none, f / 256)) (hf : f % 256 < aNF (f / 256)) (ht : aTy (f / 256) (f % 256) = .long) (k : aWp sc d y nx ls st I (aUp L q (f % 256) x) R Q) : aWp sc d y pc ls (.long x :: .ref q :: st) I L R Q := w_st hc rfl rfl rfl (by simp only [aSt]; rw [if_pos ⟨hs, hf, ht⟩]) k
theorem w_putR {f q a : Nat} (hc : aCod y pc = some (.putfield f, nx)) (hs : S0[q]? = some (none, f / 256)) (hf : f % 256 < aNF (f / 256)) (ht : aIsRef (aTy (f / 256) (f % 256)) = true) (k : aWp sc d y nx ls st I L (aUp R q (f % 256) (some a)) Q) : aWp sc d y pc ls (.ref a :: .ref q :: st) I L R Q := w_st hc rfl rfl rfl (by simp only [aSt]; rw [if_pos ⟨hs, hf, ht⟩]) k
theorem w_iaload {q n : Nat} {j : Int32} {x : Int32} (hc : aCod y pc = some (.iaload, nx)) (hs : S0[q]? = some (some .int, n)) (hj : ¬ (j < 0 ∨ n ≤ j.toNatClampNeg)) (hx : I q j.toNatClampNeg = x) (k : aWp sc d y nx ls (.int x :: st) I L R Q) : aWp sc d y pc ls (.int j :: .ref q :: st) I L R Q := w_st hc rfl rfl rfl (by subst hx; simp only [aSt, hs, if_neg hj]) k
theorem w_caload {q n : Nat} {j : Int32} {x : Int32} (hc : aCod y pc = some (.caload, nx)) (hs : S0[q]? = some (some .char, n)) (hj : ¬ (j < 0 ∨ n ≤ j.toNatClampNeg)) (hx : I q j.toNatClampNeg = x) (k : aWp sc d y nx ls (.int x :: st) I L R Q) : aWp sc d y pc ls (.int j :: .ref q :: st) I L R Q := w_st hc rfl rfl rfl (by subst hx; simp only [aSt, hs, if_neg hj]) k
theorem w_laload {q n : Nat} {j : Int32} {x : Int64} (hc : aCod y pc = some (.laload, nx)) (hs : S0[q]? = some (some .long, n)) (hj : ¬ (j < 0 ∨ n ≤ j.toNatClampNeg)) (hx : L q j.toNatClampNeg = x) (k : aWp sc d y nx ls (.long x :: st) I L R Q) : aWp sc d y pc ls (.int j :: .ref q :: st) I L R Q := w_st hc rfl rfl rfl (by subst hx; simp only [aSt, hs, if_neg hj]) k
theorem w_aaload_o {q n a : Nat} {j : Int32} (hc : aCod y pc = some (.aaload, nx)) (hs : S0[q]? = some (some (.object RX1), n)) (hj : ¬ (j < 0 ∨ n ≤ j.toNatClampNeg)) (hx : R q j.toNatClampNeg = some a) (k : aWp sc d y nx ls (.ref a :: st) I L R Q) : aWp sc d y pc ls (.int j :: .ref q :: st) I L R Q := w_st hc rfl rfl rfl (by simp only [aSt, hs]; rw [if_neg (fun z => z.elim (fun e => e trivial) hj)]; simp only [hx, aRf]) k
theorem w_aaload_i {q n a : Nat} {j : Int32} (hc : aCod y pc = some (.aaload, nx)) (hs : S0[q]? = some (some (.array .int), n)) (hj : ¬ (j < 0 ∨ n ≤ j.toNatClampNeg)) (hx : R q j.toNatClampNeg = some a) (k : aWp sc d y nx ls (.ref a :: st) I L R Q) : aWp sc d y pc ls (.int j :: .ref q :: st) I L R Q := w_st hc rfl rfl rfl (by simp only [aSt, hs]; rw [if_neg hj]; simp only [hx, aRf]) k
theorem w_iastore {q n : Nat} {j x : Int32} (hc : aCod y pc = some (.iastore, nx)) (hs : S0[q]? = some (some .int, n)) (hj : ¬ (j < 0 ∨ n ≤ j.toNatClampNeg)) (k : aWp sc d y nx ls st (aUp I q j.toNatClampNeg x) L R Q) : aWp sc d y pc ls (.int x :: .int j :: .ref q :: st) I L R Q := w_st hc rfl rfl rfl (by simp only [aSt, hs, if_neg hj]) k
theorem w_lastore {q n : Nat} {j : Int32} {x : Int64} (hc : aCod y pc = some (.lastore, nx)) (hs : S0[q]? = some (some .long, n)) (hj : ¬ (j < 0 ∨ n ≤ j.toNatClampNeg)) (k : aWp sc d y nx ls st I (aUp L q j.toNatClampNeg x) R Q) : aWp sc d y pc ls (.long x :: .int j :: .ref q :: st) I L R Q := w_st hc rfl rfl rfl (by simp only [aSt, hs, if_neg hj]) k
theorem w_alen_i {q n : Nat} {x : Int32} (hc : aCod y pc = some (.arraylength, nx)) (hs : S0[q]? = some (some .int, n)) (hx : Int32.ofNat n = x) (k : aWp sc d y nx ls (.int x :: st) I L R Q) : aWp sc d y pc ls (.ref q :: st) I L R Q := w_st hc (by cases st <;> rfl) rfl rfl (by subst hx; simp only [aSt, hs]) k
theorem w_alen_c {q n : Nat} {x : Int32} (hc : aCod y pc = some (.arraylength, nx)) (hs : S0[q]? = some (some .char, n)) (hx : Int32.ofNat n = x) (k : aWp sc d y nx ls (.int x :: st) I L R Q) : aWp sc d y pc ls (.ref q :: st) I L R Q := w_st hc (by cases st <;> rfl) rfl rfl (by subst hx; simp only [aSt, hs]) k
theorem w_goto {t : Int} (hc : aCod y pc = some (.goto t, nx)) (k : aWp sc d y t.toNat ls st I L R Q) : aWp sc d y pc ls st I L R Q := w_br hc (by cases st <;> rfl) rfl rfl k
theorem w_if_eq {t : Int} {a : Int32} (hc : aCod y pc = some (.ifCond .eq t, nx)) (k1 : a = 0 → aWp sc d y t.toNat ls st I L R Q) (k2 : ¬ (a = 0) → aWp sc d y nx ls st I L R Q) : aWp sc d y pc ls (.int a :: st) I L R Q := by
  by_cases h : a = 0
  · exact w_br hc (by cases st <;> rfl) rfl (by simp only [aBr, if_pos (decide_eq_true h)]) (k1 h)
  · exact w_br hc (by cases st <;> rfl) rfl (by simp only [aBr, if_neg (fun z => h (of_decide_eq_true z))]) (k2 h)
theorem w_if_ne {t : Int} {a : Int32} (hc : aCod y pc = some (.ifCond .ne t, nx)) (k1 : ¬ a = 0 → aWp sc d y t.toNat ls st I L R Q) (k2 : ¬ (¬ a = 0) → aWp sc d y nx ls st I L R Q) : aWp sc d y pc ls (.int a :: st) I L R Q := by
  by_cases h : ¬ a = 0
  · exact w_br hc (by cases st <;> rfl) rfl (by simp only [aBr, if_pos (decide_eq_true h)]) (k1 h)
  · exact w_br hc (by cases st <;> rfl) rfl (by simp only [aBr, if_neg (fun z => h (of_decide_eq_true z))]) (k2 h)
theorem w_if_lt {t : Int} {a : Int32} (hc : aCod y pc = some (.ifCond .lt t, nx)) (k1 : a < 0 → aWp sc d y t.toNat ls st I L R Q) (k2 : ¬ (a < 0) → aWp sc d y nx ls st I L R Q) : aWp sc d y pc ls (.int a :: st) I L R Q := by
  by_cases h : a < 0
  · exact w_br hc (by cases st <;> rfl) rfl (by simp only [aBr, if_pos (decide_eq_true h)]) (k1 h)
  · exact w_br hc (by cases st <;> rfl) rfl (by simp only [aBr, if_neg (fun z => h (of_decide_eq_true z))]) (k2 h)
theorem w_if_ge {t : Int} {a : Int32} (hc : aCod y pc = some (.ifCond .ge t, nx)) (k1 : 0 ≤ a → aWp sc d y t.toNat ls st I L R Q) (k2 : ¬ (0 ≤ a) → aWp sc d y nx ls st I L R Q) : aWp sc d y pc ls (.int a :: st) I L R Q := by
  by_cases h : 0 ≤ a
  · exact w_br hc (by cases st <;> rfl) rfl (by simp only [aBr, if_pos (decide_eq_true h)]) (k1 h)
  · exact w_br hc (by cases st <;> rfl) rfl (by simp only [aBr, if_neg (fun z => h (of_decide_eq_true z))]) (k2 h)
theorem w_if_gt {t : Int} {a : Int32} (hc : aCod y pc = some (.ifCond .gt t, nx)) (k1 : 0 < a → aWp sc d y t.toNat ls st I L R Q) (k2 : ¬ (0 < a) → aWp sc d y nx ls st I L R Q) : aWp sc d y pc ls (.int a :: st) I L R Q := by
  by_cases h : 0 < a
  · exact w_br hc (by cases st <;> rfl) rfl (by simp only [aBr, if_pos (decide_eq_true h)]) (k1 h)
  · exact w_br hc (by cases st <;> rfl) rfl (by simp only [aBr, if_neg (fun z => h (of_decide_eq_true z))]) (k2 h)
theorem w_if_le {t : Int} {a : Int32} (hc : aCod y pc = some (.ifCond .le t, nx)) (k1 : a ≤ 0 → aWp sc d y t.toNat ls st I L R Q) (k2 : ¬ (a ≤ 0) → aWp sc d y nx ls st I L R Q) : aWp sc d y pc ls (.int a :: st) I L R Q := by
  by_cases h : a ≤ 0
  · exact w_br hc (by cases st <;> rfl) rfl (by simp only [aBr, if_pos (decide_eq_true h)]) (k1 h)
  · exact w_br hc (by cases st <;> rfl) rfl (by simp only [aBr, if_neg (fun z => h (of_decide_eq_true z))]) (k2 h)
theorem w_ic_eq {t : Int} {a b : Int32} (hc : aCod y pc = some (.if_icmp .eq t, nx)) (k1 : a = b → aWp sc d y t.toNat ls st I L R Q) (k2 : ¬ (a = b) → aWp sc d y nx ls st I L R Q) : aWp sc d y pc ls (.int b :: .int a :: st) I L R Q := by
  by_cases h : a = b
  · exact w_br hc (by cases st <;> rfl) rfl (by simp only [aBr, if_pos (decide_eq_true h)]) (k1 h)
  · exact w_br hc (by cases st <;> rfl) rfl (by simp only [aBr, if_neg (fun z => h (of_decide_eq_true z))]) (k2 h)
theorem w_ic_ne {t : Int} {a b : Int32} (hc : aCod y pc = some (.if_icmp .ne t, nx)) (k1 : ¬ a = b → aWp sc d y t.toNat ls st I L R Q) (k2 : ¬ (¬ a = b) → aWp sc d y nx ls st I L R Q) : aWp sc d y pc ls (.int b :: .int a :: st) I L R Q := by
  by_cases h : ¬ a = b
  · exact w_br hc (by cases st <;> rfl) rfl (by simp only [aBr, if_pos (decide_eq_true h)]) (k1 h)
  · exact w_br hc (by cases st <;> rfl) rfl (by simp only [aBr, if_neg (fun z => h (of_decide_eq_true z))]) (k2 h)
theorem w_ic_lt {t : Int} {a b : Int32} (hc : aCod y pc = some (.if_icmp .lt t, nx)) (k1 : a < b → aWp sc d y t.toNat ls st I L R Q) (k2 : ¬ (a < b) → aWp sc d y nx ls st I L R Q) : aWp sc d y pc ls (.int b :: .int a :: st) I L R Q := by
  by_cases h : a < b
  · exact w_br hc (by cases st <;> rfl) rfl (by simp only [aBr, if_pos (decide_eq_true h)]) (k1 h)
  · exact w_br hc (by cases st <;> rfl) rfl (by simp only [aBr, if_neg (fun z => h (of_decide_eq_true z))]) (k2 h)
theorem w_ic_ge {t : Int} {a b : Int32} (hc : aCod y pc = some (.if_icmp .ge t, nx)) (k1 : b ≤ a → aWp sc d y t.toNat ls st I L R Q) (k2 : ¬ (b ≤ a) → aWp sc d y nx ls st I L R Q) : aWp sc d y pc ls (.int b :: .int a :: st) I L R Q := by
  by_cases h : b ≤ a
  · exact w_br hc (by cases st <;> rfl) rfl (by simp only [aBr, if_pos (decide_eq_true h)]) (k1 h)
  · exact w_br hc (by cases st <;> rfl) rfl (by simp only [aBr, if_neg (fun z => h (of_decide_eq_true z))]) (k2 h)
theorem w_ic_gt {t : Int} {a b : Int32} (hc : aCod y pc = some (.if_icmp .gt t, nx)) (k1 : b < a → aWp sc d y t.toNat ls st I L R Q) (k2 : ¬ (b < a) → aWp sc d y nx ls st I L R Q) : aWp sc d y pc ls (.int b :: .int a :: st) I L R Q := by
  by_cases h : b < a
  · exact w_br hc (by cases st <;> rfl) rfl (by simp only [aBr, if_pos (decide_eq_true h)]) (k1 h)
  · exact w_br hc (by cases st <;> rfl) rfl (by simp only [aBr, if_neg (fun z => h (of_decide_eq_true z))]) (k2 h)
theorem w_ic_le {t : Int} {a b : Int32} (hc : aCod y pc = some (.if_icmp .le t, nx)) (k1 : a ≤ b → aWp sc d y t.toNat ls st I L R Q) (k2 : ¬ (a ≤ b) → aWp sc d y nx ls st I L R Q) : aWp sc d y pc ls (.int b :: .int a :: st) I L R Q := by
  by_cases h : a ≤ b
  · exact w_br hc (by cases st <;> rfl) rfl (by simp only [aBr, if_pos (decide_eq_true h)]) (k1 h)
  · exact w_br hc (by cases st <;> rfl) rfl (by simp only [aBr, if_neg (fun z => h (of_decide_eq_true z))]) (k2 h)
theorem w_tsw {df lo hi : Int} {ts : Array Int} {a : Int32} {pc2 : Nat} (hc : aCod y pc = some (.tableswitch df lo hi ts, nx)) (h : (if a.toInt < lo ∨ hi < a.toInt then some df else ts[(a.toInt - lo).toNat]?).map Int.toNat = some pc2) (k : aWp sc d y pc2 ls st I L R Q) : aWp sc d y pc ls (.int a :: st) I L R Q := by
  refine w_br hc (by cases st <;> rfl) rfl ?_ k
  simp only [aBr]
  by_cases hq : a.toInt < lo ∨ hi < a.toInt
  · rw [if_pos hq] at h ⊢
    cases h; rfl
  · rw [if_neg hq] at h ⊢
    cases ht : ts[(a.toInt - lo).toNat]? with
    | none => rw [ht] at h; cases h
    | some t => rw [ht] at h; cases h; rfl
theorem w_lsw {df : Int} {ps : Array (Int × Int)} {a : Int32} {pc2 : Nat} (hc : aCod y pc = some (.lookupswitch df ps, nx)) (h : (aLks ps.toList df a.toInt).toNat = pc2) (k : aWp sc d y pc2 ls st I L R Q) : aWp sc d y pc ls (.int a :: st) I L R Q := w_br hc (by cases st <;> rfl) rfl (by simp only [aBr, h]) k
theorem w_mmax {i0 : Nat} {a b x : Int32} (hc : aCod y pc = some (.invokeinterface 1 i0, nx)) (hd : ¬ (d = 0 ∨ 8 < aCat st)) (hx : (if a < b then b else a) = x) (k : aWp sc d y nx ls (.int x :: st) I L R Q) : aWp sc d y pc ls (.int b :: .int a :: st) I L R Q := w_st hc rfl rfl rfl (by subst hx; simp only [aSt, if_neg hd]) k
theorem w_mmin {i0 : Nat} {a b x : Int32} (hc : aCod y pc = some (.invokeinterface 2 i0, nx)) (hd : ¬ (d = 0 ∨ 8 < aCat st)) (hx : (if b < a then b else a) = x) (k : aWp sc d y nx ls (.int x :: st) I L R Q) : aWp sc d y pc ls (.int b :: .int a :: st) I L R Q := w_st hc rfl rfl rfl (by subst hx; simp only [aSt, if_neg hd]) k
theorem w_acopy {i0 a b n0 n1 : Nat} {n dp sp : Int32} (hc : aCod y pc = some (.invokeinterface 3 i0, nx)) (hd : ¬ (d = 0 ∨ 8 < aCat st ∨ n < 0 ∨ dp < 0 ∨ sp < 0)) (h0 : S0[b]? = some (some .int, n0)) (h1 : S0[a]? = some (some .int, n1)) (h2 : sp.toNatClampNeg + n.toNatClampNeg ≤ n0 ∧ dp.toNatClampNeg + n.toNatClampNeg ≤ n1) (k : aWp sc d y nx ls st (aRow I a (va_cpy (I b) (I a) sp.toNatClampNeg dp.toNatClampNeg n.toNatClampNeg)) L R Q) : aWp sc d y pc ls (.int n :: .int dp :: .ref a :: .int sp :: .ref b :: st) I L R Q := w_st hc rfl rfl rfl (by simp only [aSt, if_neg hd, h0, h1, if_pos h2]) k
theorem w_ldcS {i0 : Nat} (hc : aCod y pc = some (.ldc i0, nx)) (k : aWp sc d y nx ls (.ref aSTR :: st) I L R Q) : aWp sc d y pc ls st I L R Q := w_st hc (by cases st <;> rfl) rfl rfl rfl k
theorem w_strlen {i0 : Nat} {x : Int32} (hc : aCod y pc = some (.invokeinterface 4 i0, nx)) (hd : ¬ (d < 3 ∨ 8 < aCat st)) (hx : Int32.ofNat WD.length = x) (k : aWp sc d y nx ls (.int x :: st) I L R Q) : aWp sc d y pc ls (.ref aSTR :: st) I L R Q := w_st hc (by cases st <;> rfl) rfl rfl (by subst hx; simp only [aSt]; rw [if_neg (fun z => z.elim (fun a => hd (Or.inl a)) (fun z => z.elim (fun a => hd (Or.inr a)) (fun a => a trivial)))]) k
theorem w_strchar {i0 : Nat} {j x : Int32} (hc : aCod y pc = some (.invokeinterface 5 i0, nx)) (hd : ¬ (d < 3 ∨ 8 < aCat st)) (hj : ¬ j < 0) (hx : WD[j.toNatClampNeg]? = some x) (k : aWp sc d y nx ls (.int x :: st) I L R Q) : aWp sc d y pc ls (.int j :: .ref aSTR :: st) I L R Q := w_st hc rfl rfl rfl (by simp only [aSt]; rw [if_neg (fun z => z.elim (fun a => hd (Or.inl a)) (fun z => z.elim (fun a => hd (Or.inr a)) (fun z => z.elim (fun a => a trivial) hj)))]; simp only [hx]) k
theorem w_sald {n : Nat} {xs : Nat → Int32} {j : Int32} {x : Int32} (hc : aCod y pc = some (.saload, nx)) (hsc : sc = some (n, xs)) (hj : ¬ (j < 0 ∨ n ≤ j.toNatClampNeg)) (hx : xs j.toNatClampNeg = x) (k : aWp sc d y nx ls (.int x :: st) I L R Q) : aWp sc d y pc ls (.int j :: .ref aSCR :: st) I L R Q := w_st hc rfl rfl rfl (by subst hx; subst hsc; simp only [aSt]; rw [if_neg (fun z => z.elim (fun a => a trivial) hj)]) k
theorem w_slen {i0 n : Nat} {xs : Nat → Int32} {x : Int32} (hc : aCod y pc = some (.invokeinterface 6 i0, nx)) (hsc : sc = some (n, xs)) (hx : Int32.ofNat n = x) (k : aWp sc d y nx ls (.int x :: st) I L R Q) : aWp sc d y pc ls (.ref aSCR :: st) I L R Q := w_st hc (by cases st <;> rfl) rfl rfl (by subst hx; subst hsc; simp only [aSt]; rw [if_neg (fun z => z trivial)]) k
end WP
