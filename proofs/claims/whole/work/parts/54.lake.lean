/-! PURE: bits; a lake and its deeds (p54.py) -/
theorem iI_or (x y : Nat) : iI (x : Int) ||| iI (y : Int) = iI ((x ||| y : Nat) : Int) := by
  unfold iI
  rw [Int32.ofInt_eq_ofNat, Int32.ofInt_eq_ofNat, Int32.ofInt_eq_ofNat]
  apply Int32.toBitVec_inj.mp
  simp [BitVec.ofNat_or]
theorem iI_and (x y : Nat) : iI (x : Int) &&& iI (y : Int) = iI ((x &&& y : Nat) : Int) := by
  unfold iI
  rw [Int32.ofInt_eq_ofNat, Int32.ofInt_eq_ofNat, Int32.ofInt_eq_ofNat]
  apply Int32.toBitVec_inj.mp
  simp [BitVec.ofNat_and]
theorem shl1_ok : (List.range 31).all (fun d => decide (iI 1 <<< (iI (d : Nat) &&& 31) = iI ((2 ^ d : Nat) : Int))) = true := by decide +kernel
theorem shl1 {de : Int} (h : 0 ≤ de ∧ de < 31) : iI 1 <<< (iI de &&& 31) = iI ((2 ^ de.toNat : Nat) : Int) := by
  obtain ⟨d, rfl⟩ : ∃ d : Nat, de = d := ⟨de.toNat, (Int.toNat_of_nonneg h.1).symm⟩
  have := List.all_eq_true.mp shl1_ok d (List.mem_range.mpr (by omega))
  exact of_decide_eq_true this
theorem shr1_ok : (List.range 256).all (fun w => (List.range 8).all (fun d => decide (iI (w : Nat) >>> (iI (d : Nat) &&& 31) = iI ((w >>> d : Nat) : Int)))) = true := by decide +kernel
theorem shr1 {w : Nat} {de : Int} (hw : w < 256) (h : 0 ≤ de ∧ de < 8) : iI (w : Int) >>> (iI de &&& 31) = iI ((w >>> de.toNat : Nat) : Int) := by
  obtain ⟨d, rfl⟩ : ∃ d : Nat, de = d := ⟨de.toNat, (Int.toNat_of_nonneg h.1).symm⟩
  have := List.all_eq_true.mp (List.all_eq_true.mp shr1_ok w (List.mem_range.mpr hw)) d (List.mem_range.mpr (by omega))
  exact of_decide_eq_true this
/-- bit de of w, as a number -/
def tb (w : Nat) (de : Int) : Bool := w.testBit de.toNat
theorem tb_and {w : Nat} {de : Int} : iI ((w >>> de.toNat : Nat) : Int) &&& iI 1 = iI (if tb w de = true then 1 else 0) := by
  rw [show iI 1 = iI ((1 : Nat) : Int) from rfl, iI_and]
  unfold tb Nat.testBit
  have h : 1 &&& w >>> de.toNat = w >>> de.toNat &&& 1 := Nat.and_comm _ _
  rw [h]
  have h2 : w >>> de.toNat &&& 1 = (w >>> de.toNat) % 2 := Nat.and_one_is_mod _
  rw [h2]
  rcases Nat.mod_two_eq_zero_or_one (w >>> de.toNat) with q | q <;> rw [q] <;> rfl
theorem tb_one {w : Nat} {de : Int} : (if tb w de = true then (1 : Int) else 0) = 0 ∧ tb w de = false ∨ (if tb w de = true then (1 : Int) else 0) = 1 ∧ tb w de = true := by
  cases h : tb w de
  · exact Or.inl ⟨rfl, rfl⟩
  · exact Or.inr ⟨rfl, rfl⟩
theorem or_lt {x y n : Nat} (hx : x < 2 ^ n) (hy : y < 2 ^ n) : x ||| y < 2 ^ n := Nat.or_lt_two_pow hx hy
/-- what bits a row of questions gives -/
def bb (p : Nat → Bool) : Nat → Nat
  | 0 => 0
  | n + 1 => if p n = true then bb p n ||| 2 ^ n else bb p n
theorem bb_lt (p : Nat → Bool) : ∀ n : Nat, bb p n < 2 ^ n
  | 0 => by simp [bb]
  | n + 1 => by
    have h := bb_lt p n
    have h2 : 2 ^ n < 2 ^ (n + 1) := Nat.pow_lt_pow_right (by omega) (by omega)
    unfold bb; split
    · exact or_lt (by omega) h2
    · omega
theorem bb_lt8 (p : Nat → Bool) {n : Nat} (h : n ≤ 8) : bb p n < 256 := Nat.lt_of_lt_of_le (bb_lt p n) (Nat.pow_le_pow_right (n := 2) (by omega) h)
theorem bb_tb (p : Nat → Bool) : ∀ (n j : Nat), (bb p n).testBit j = (decide (j < n) && p j)
  | 0, j => by simp [bb]
  | n + 1, j => by
    have h := bb_tb p n j
    by_cases hj : j = n
    · subst hj
      have h0 : (bb p j).testBit j = false := Nat.testBit_lt_two_pow (bb_lt p j)
      unfold bb
      cases hp : p j
      · simp [h0]
      · simp [Nat.testBit_or, h0, Nat.testBit_two_pow_self]
    · have h3 : decide (j < n + 1) = decide (j < n) := by simp; omega
      unfold bb
      split
      · rw [Nat.testBit_or, h, h3, Nat.testBit_two_pow_of_ne (by omega)]; simp
      · rw [h, h3]
/-- a lake's state: season, buckets, grains, written, inks, ages -/
abbrev Lk := Int × Int × Int × Nat × (Int → Int) × (Int → Int)
def lkOK (X : Lk) : Prop := (0 ≤ X.1 ∧ X.1 ≤ 1000) ∧ (0 ≤ X.2.1 ∧ X.2.1 ≤ 30000) ∧ (0 ≤ X.2.2.1 ∧ X.2.2.1 ≤ 30000) ∧ X.2.2.2.1 < 256 ∧ ∀ j : Int, 0 ≤ j → j < 8 → (0 ≤ X.2.2.2.2.1 j ∧ X.2.2.2.2.1 j ≤ 9999) ∧ (0 ≤ X.2.2.2.2.2 j ∧ X.2.2.2.2.2 j ≤ 99)
/-- which marks a rule's code may have -/
def okR (r : Nat) (m : Int) : Prop := ¬ m = 312 ∧ ¬ m = 324 ∧ ¬ m = 325 ∧ ¬ m = 313 ∧ (r = 1 → ¬ m = 320 ∧ ¬ m = 321) ∧ (¬ r = 1 → ¬ m = 322 ∧ ¬ m = 323)
/-- a shore's numbers and codes -/
def wfS (D : Nat → Int → Int) (cd : Nat → Option (List Int)) : Prop :=
  ((0 ≤ D 1 0 ∧ D 1 0 ≤ 6) ∧ (0 ≤ D 1 1 ∧ D 1 1 ≤ 6) ∧ (0 ≤ D 1 2 ∧ D 1 2 ≤ 8)) ∧ ((0 ≤ D 0 1 ∧ D 0 1 ≤ 9999) ∧ (0 ≤ D 0 14 ∧ D 0 14 ≤ 100) ∧ (0 ≤ D 0 15 ∧ D 0 15 ≤ 9999) ∧ (0 ≤ D 0 16 ∧ D 0 16 ≤ 100)) ∧
  (∀ j : Int, 0 ≤ j → j < D 1 0 → (0 ≤ D 3 j ∧ D 3 j ≤ 999) ∧ (0 ≤ D 4 j ∧ D 4 j ≤ 999)) ∧ (∀ j : Int, 0 ≤ j → j < D 1 1 → 0 ≤ D 5 j ∧ D 5 j ≤ 99) ∧
  (∀ j : Int, 0 ≤ j → j < D 1 2 → (0 ≤ D 6 j ∧ D 6 j < D 1 1) ∧ (1 ≤ D 7 j ∧ D 7 j ≤ 999) ∧ (0 ≤ D 8 j ∧ D 8 j ≤ 99) ∧ (0 ≤ D 9 j ∧ D 9 j ≤ 99)) ∧
  (∀ r : Nat, r < 3 → ∀ l, cd r = some l → tyC l [] [decide (r = 2)] ∧ ∀ m ∈ l, okR r m)
theorem wfS.n {D : Nat → Int → Int} {cd : Nat → Option (List Int)} (h : wfS D cd) : (0 ≤ D 1 0 ∧ D 1 0 ≤ 6) ∧ (0 ≤ D 1 1 ∧ D 1 1 ≤ 6) ∧ (0 ≤ D 1 2 ∧ D 1 2 ≤ 8) := h.1
theorem wfS.h {D : Nat → Int → Int} {cd : Nat → Option (List Int)} (h : wfS D cd) : (0 ≤ D 0 1 ∧ D 0 1 ≤ 9999) ∧ (0 ≤ D 0 14 ∧ D 0 14 ≤ 100) ∧ (0 ≤ D 0 15 ∧ D 0 15 ≤ 9999) ∧ (0 ≤ D 0 16 ∧ D 0 16 ≤ 100) := h.2.1
theorem wfS.br {D : Nat → Int → Int} {cd : Nat → Option (List Int)} (h : wfS D cd) {j : Int} (h0 : 0 ≤ j) (h1 : j < D 1 0) : (0 ≤ D 3 j ∧ D 3 j ≤ 999) ∧ (0 ≤ D 4 j ∧ D 4 j ≤ 999) := h.2.2.1 j h0 h1
theorem wfS.de {D : Nat → Int → Int} {cd : Nat → Option (List Int)} (h : wfS D cd) {j : Int} (h0 : 0 ≤ j) (h1 : j < D 1 2) : (0 ≤ D 6 j ∧ D 6 j < D 1 1) ∧ (1 ≤ D 7 j ∧ D 7 j ≤ 999) ∧ (0 ≤ D 8 j ∧ D 8 j ≤ 99) ∧ (0 ≤ D 9 j ∧ D 9 j ≤ 99) := h.2.2.2.2.1 j h0 h1
theorem wfS.c {D : Nat → Int → Int} {cd : Nat → Option (List Int)} (h : wfS D cd) {r : Nat} (hr : r < 3) {l : List Int} (hl : cd r = some l) : tyC l [] [decide (r = 2)] ∧ ∀ m ∈ l, okR r m := h.2.2.2.2.2 r hr l hl
theorem dk_9 {b g : Int} : -1000000 ≤ dk b g ∧ dk b g ≤ 1000000 := by have := dk_rg (b := b) (g := g); omega
theorem envZ_ok {D : Nat → Int → Int} {cd : Nat → Option (List Int)} {s b g : Int} {ink age : Int → Int} {de dr : Int} (h : wfS D cd) (h0 : 0 ≤ de) (h1 : de < D 1 2) (hs : 0 ≤ s ∧ s ≤ 1000) (hb : 0 ≤ b ∧ b ≤ 30000) (hi : 0 ≤ ink de ∧ ink de ≤ 9999) (ha : 0 ≤ age de ∧ age de ≤ 99) (hdr : 0 ≤ dr ∧ dr ≤ 9999) : eOK (envZ D s b g ink age de dr) := by
  have hd := h.de h0 h1
  have hm := h.2.2.2.1 (D 6 de) hd.1.1 hd.1.2
  have hn := h.n
  have hk := dk_9 (b := b) (g := g)
  refine ⟨fun m _ => ?_, rfl⟩
  unfold envZ
  repeat' split
  all_goals omega
/-- the marks that a code has not don't matter -/
theorem evC_same {E E2 : Int → Int} {v v2 : Int} : ∀ (l : List Int) (st : List Int), (∀ m ∈ l, ¬ m = 312 ∧ (m < 1000 → E m = E2 m)) → evC E v l st = evC E2 v2 l st
  | [], _, _ => rfl
  | m :: l, st, h => by
    have h1 := h m List.mem_cons_self
    have e : evM E v m st = evM E2 v2 m st := by
      unfold evM pvZ
      split
      · rfl
      split
      · exact absurd ‹m = 312› h1.1
      split
      · rfl
      split
      · rfl
      · rw [h1.2 (by omega)]
    show evC E v l (evM E v m st) = evC E2 v2 l (evM E2 v2 m st)
    rw [e]
    exact evC_same l _ (fun m2 hm => h m2 (List.mem_cons_of_mem _ hm))
theorem valC_same {E E2 : Int → Int} {v v2 : Int} {l : List Int} (h : ∀ m ∈ l, ¬ m = 312 ∧ (m < 1000 → E m = E2 m)) : valC E v l = valC E2 v2 l := by
  unfold valC; rw [evC_same l [] h]
section SP
variable (D : Nat → Int → Int) (cd : Nat → Option (List Int))
/-- what a deed draws, whether it can be, what fades -/
def drwZ (X : Lk) (de : Int) : Int := match cd 0 with
  | none => D 7 de
  | some l => cutz (valC (envZ D X.1 X.2.1 X.2.2.1 (fun _ => 0) (fun _ => 0) de 0) 0 l) 9999
def mayZ (X : Lk) (de : Int) : Bool := match cd 2 with
  | none => true
  | some l => decide (valC (envZ D X.1 X.2.1 X.2.2.1 (fun _ => 0) (fun _ => 0) de 0) 0 l = 1)
def cbZ (X : Lk) (de : Int) : Bool := !(tb X.2.2.2.1 de) && (decide (X.1 ≤ D 9 de) && (decide (drwZ D cd X de ≤ X.2.1) && mayZ D cd X de))
def fdZ (s : Int) (ink age : Int → Int) (de : Int) : Int := match cd 1 with
  | none => 0
  | some l => cutz (valC (envZ D s 0 0 ink age de 0) 0 l) (ink de)
def rdZ (X : Lk) : Nat := bb (fun j => X.2.2.2.1.testBit j && decide (D 0 15 ≤ X.2.2.2.2.1 j)) (D 1 2).toNat
/-- brooks that give: the sum of f over those not in dry -/
def sumB (f : Int → Int) (dry : Nat) : Nat → Int
  | 0 => 0
  | n + 1 => sumB f dry n + (if dry.testBit n = true then 0 else f n)
def flB (b : Int) : Int := (if D 0 1 < b then D 0 1 else b) - (if D 0 1 < b then D 0 1 else b) * D 0 14 / 100
def flG (b g : Int) : Int := min 9999 (if D 0 1 < b then g * D 0 1 / b else g)
def flO (b : Int) : Int := max 0 (b - D 0 1)
def fadI (s : Int) (w : Nat) (ink age : Int → Int) (n : Int) : Int → Int := fun j => if (0 ≤ j ∧ j < n) ∧ tb w j = true then ink j - fdZ D cd s ink age j else ink j
def fadA (w : Nat) (age : Int → Int) (n : Int) : Int → Int := fun j => if (0 ≤ j ∧ j < n) ∧ tb w j = true then min 99 (age j + 1) else age j
/-- a season -/
def seaX (dry : Nat) (X : Lk) : Lk := (X.1 + 1, flB D (X.2.1 + sumB (D 3) dry (D 1 0).toNat), flG D (X.2.1 + sumB (D 3) dry (D 1 0).toNat) (X.2.2.1 + sumB (D 4) dry (D 1 0).toNat), X.2.2.2.1, fadI D cd X.1 X.2.2.2.1 X.2.2.2.2.1 X.2.2.2.2.2 (D 1 2), fadA X.2.2.2.1 X.2.2.2.2.2 (D 1 2))
def seaO (dry : Nat) (X : Lk) : Int := flO D (X.2.1 + sumB (D 3) dry (D 1 0).toNat)
/-- a deed drawn -/
def drawX (X : Lk) (de dr : Int) : Lk := (X.1, X.2.1 - dr, (if 0 < X.2.1 then X.2.2.1 - X.2.2.1 * dr / X.2.1 else X.2.2.1), X.2.2.2.1 ||| 2 ^ de.toNat, cU X.2.2.2.2.1 de (dk X.2.1 X.2.2.1), cU X.2.2.2.2.2 de 0)
end SP
theorem cutz_btw {v m : Int} : btw 0 v m = cutz v m := rfl
theorem cutz_in {v m : Int} (hm : 0 ≤ m) : 0 ≤ cutz v m ∧ cutz v m ≤ m := cutz_rg hm
