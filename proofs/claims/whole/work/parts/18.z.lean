/-! RULES FOR NUMBERS: every int is iI z, every long lI z, z an Int -/
theorem iI_add (a b : Int) : iI a + iI b = iI (a + b) := (Int32.ofInt_add a b).symm
theorem iI_sub (a b : Int) : iI a - iI b = iI (a - b) := (Int32.ofInt_sub a b).symm
theorem iI_mul (a b : Int) : iI a * iI b = iI (a * b) := (Int32.ofInt_mul a b).symm
theorem lI_add (a b : Int) : lI a + lI b = lI (a + b) := (Int64.ofInt_add a b).symm
theorem lI_sub (a b : Int) : lI a - lI b = lI (a - b) := (Int64.ofInt_sub a b).symm
theorem lI_mul (a b : Int) : lI a * lI b = lI (a * b) := (Int64.ofInt_mul a b).symm
def aRg (z : Int) : Prop := -2147483648 ≤ z ∧ z < 2147483648
def aRl (z : Int) : Prop := -9223372036854775808 ≤ z ∧ z < 9223372036854775808
theorem iI_toInt {z : Int} (h : aRg z) : (iI z).toInt = z := Int32.toInt_ofInt_of_le h.1 h.2
theorem lI_toInt {z : Int} (h : aRl z) : (lI z).toInt = z := Int64.toInt_ofInt_of_le h.1 h.2
theorem iI_of (x : Int32) : x = iI x.toInt := (Int32.ofInt_toInt x).symm
theorem lI_of (x : Int64) : x = lI x.toInt := (Int64.ofInt_toInt x).symm
theorem aRg_of (x : Int32) : aRg x.toInt := ⟨Int32.le_toInt x, Int32.toInt_lt x⟩
theorem aRl_of (x : Int64) : aRl x.toInt := ⟨Int64.le_toInt x, Int64.toInt_lt x⟩
theorem iI_inj {a b : Int} (ha : aRg a) (hb : aRg b) : iI a = iI b ↔ a = b := by rw [← Int32.toInt_inj, iI_toInt ha, iI_toInt hb]
theorem lI_inj {a b : Int} (ha : aRl a) (hb : aRl b) : lI a = lI b ↔ a = b := by rw [← Int64.toInt_inj, lI_toInt ha, lI_toInt hb]
theorem iI_lt {a b : Int} (ha : aRg a) (hb : aRg b) : iI a < iI b ↔ a < b := by rw [Int32.lt_iff_toInt_lt, iI_toInt ha, iI_toInt hb]
theorem iI_le {a b : Int} (ha : aRg a) (hb : aRg b) : iI a ≤ iI b ↔ a ≤ b := by rw [Int32.le_iff_toInt_le, iI_toInt ha, iI_toInt hb]
theorem lI_lt {a b : Int} (ha : aRl a) (hb : aRl b) : lI a < lI b ↔ a < b := by rw [Int64.lt_iff_toInt_lt, lI_toInt ha, lI_toInt hb]
theorem iI_clamp {z : Int} (h : 0 ≤ z ∧ z < 2147483648) : (iI z).toNatClampNeg = z.toNat := by
  have h1 : (iI z).toInt = z := iI_toInt ⟨by omega, h.2⟩
  show (iI z).toInt.toNat = _
  rw [h1]
theorem iI_in {z : Int} {n : Nat} (h : 0 ≤ z ∧ z < n) (hn : n < 2147483648) : ¬ (iI z < 0 ∨ n ≤ (iI z).toNatClampNeg) := by
  rw [iI_clamp ⟨h.1, by omega⟩]
  intro z1
  rcases z1 with h1 | h1
  · have h2 : (iI z).toInt < (0 : Int32).toInt := Int32.lt_iff_toInt_lt.mp h1
    rw [iI_toInt ⟨by omega, by omega⟩] at h2
    have : (0 : Int32).toInt = 0 := rfl
    omega
  · omega
theorem aRg_0 : aRg 0 := ⟨by decide, by decide⟩
theorem iI_div {a b : Int} (ha : 0 ≤ a ∧ a < 2147483648) (hb : 0 < b ∧ b < 2147483648) : iI a / iI b = iI (a / b) := by
  have h1 : (iI a).toInt = a := iI_toInt ⟨by omega, ha.2⟩
  have h2 : (iI b).toInt = b := iI_toInt ⟨by omega, hb.2⟩
  have h3 : 0 ≤ a / b := Int.ediv_nonneg ha.1 (by omega)
  have h4 : a / b ≤ a := Int.ediv_le_self _ ha.1
  apply Int32.toInt_inj.mp
  rw [Int32.toInt_div, h1, h2, iI_toInt ⟨by omega, by omega⟩, Int.tdiv_eq_ediv_of_nonneg ha.1]
  rw [Int.bmod_eq_of_le] <;> omega
theorem lI_div {a b : Int} (ha : 0 ≤ a ∧ a < 9223372036854775808) (hb : 0 < b ∧ b < 9223372036854775808) : lI a / lI b = lI (a / b) := by
  have h1 : (lI a).toInt = a := lI_toInt ⟨by omega, ha.2⟩
  have h2 : (lI b).toInt = b := lI_toInt ⟨by omega, hb.2⟩
  have h3 : 0 ≤ a / b := Int.ediv_nonneg ha.1 (by omega)
  have h4 : a / b ≤ a := Int.ediv_le_self _ ha.1
  apply Int64.toInt_inj.mp
  rw [Int64.toInt_div, h1, h2, lI_toInt ⟨by omega, by omega⟩, Int.tdiv_eq_ediv_of_nonneg ha.1]
  rw [Int.bmod_eq_of_le] <;> omega
theorem iI_ne0 {b : Int} (hb : aRg b) (h : b ≠ 0) : ¬ iI b = 0 := fun z => h ((iI_inj hb aRg_0).mp z)
theorem lI_ne0 {b : Int} (hb : aRl b) (h : b ≠ 0) : ¬ lI b = 0 := fun z => h ((lI_inj hb ⟨by decide, by decide⟩).mp z)
theorem iI_long {a : Int} (ha : aRg a) : (iI a).toInt64 = lI a := by
  apply Int64.toInt_inj.mp
  rw [Int32.toInt_toInt64, iI_toInt ha, lI_toInt ⟨by have := ha.1; omega, by have := ha.2; omega⟩]
theorem lI_int (a : Int) : (lI a).toInt32 = iI a := by
  show (Int64.ofInt a).toInt32 = Int32.ofInt a
  exact Int64.toInt32_ofInt
theorem lI_cmp {a b : Int} (ha : aRl a) (hb : aRl b) : lg_cmp (lI a) (lI b) = iI (if a < b then -1 else if a = b then 0 else 1) := by
  unfold lg_cmp
  by_cases h1 : b < a
  · have h2 := (lI_lt hb ha).mpr h1
    rw [if_pos h2, if_neg (by omega), if_neg (by omega)]; rfl
  · have h2 : ¬ lI b < lI a := fun z => h1 ((lI_lt hb ha).mp z)
    rw [if_neg h2]
    by_cases h3 : a = b
    · rw [if_pos (by rw [h3]), if_neg (by omega), if_pos h3]; rfl
    · rw [if_neg (fun z => h3 ((lI_inj ha hb).mp z)), if_pos (by omega)]; rfl
section WZ
variable {sc : aSc} {d y pc nx : Nat} {ls st : List Value} {I : aFI} {L : aFL} {R : aFR} {Q : aPo}
theorem z_ret {z : Int} (hc : aCod y pc = some (.ireturn, nx)) (hm : mR y = some .int) (k : Q (some (.int (iI z))) I L R) : aWp sc d y pc ls [.int (iI z)] I L R Q := w_ret hc (by simp only [aRet, hm]; exact if_pos rfl) k
theorem z_retb {b : Bool} (hc : aCod y pc = some (.ireturn, nx)) (hm : mR y = some .boolean) (k : Q (some (.int (aBo b))) I L R) : aWp sc d y pc ls [.int (aBo b)] I L R Q := w_ret hc (by simp only [aRet, hm]; cases b <;> rfl) k
theorem z_ret0 (hc : aCod y pc = some (.ireturn, nx)) (hm : mR y = some .boolean) (k : Q (some (.int (aBo false))) I L R) : aWp sc d y pc ls [.int (iI 0)] I L R Q := z_retb (b := false) hc hm k
theorem z_ret1 (hc : aCod y pc = some (.ireturn, nx)) (hm : mR y = some .boolean) (k : Q (some (.int (aBo true))) I L R) : aWp sc d y pc ls [.int (iI 1)] I L R Q := z_retb (b := true) hc hm k
theorem z_retl {z : Int} (hc : aCod y pc = some (.lreturn, nx)) (k : Q (some (.long (lI z))) I L R) : aWp sc d y pc ls [.long (lI z)] I L R Q := w_ret hc rfl k
theorem z_retv (hc : aCod y pc = some (.return_, nx)) (k : Q none I L R) : aWp sc d y pc ls [] I L R Q := w_ret hc rfl k
theorem r_i {x : Int32} (k : aWp sc d y pc ls (.int x :: st) I L R Q) : aWp sc d y pc ls ((some (.int x) : Option Value).toList ++ st) I L R Q := k
theorem r_l {x : Int64} (k : aWp sc d y pc ls (.long x :: st) I L R Q) : aWp sc d y pc ls ((some (.long x) : Option Value).toList ++ st) I L R Q := k
theorem r_v (k : aWp sc d y pc ls st I L R Q) : aWp sc d y pc ls ((none : Option Value).toList ++ st) I L R Q := k
theorem z_push {v : Int} (hc : aCod y pc = some (.sipush v, nx)) (k : aWp sc d y nx ls (.int (iI v) :: st) I L R Q) : aWp sc d y pc ls st I L R Q := w_push hc rfl k
theorem z_pushl {v : Int} (hc : aCod y pc = some (.goto_w v, nx)) (k : aWp sc d y nx ls (.long (lI v) :: st) I L R Q) : aWp sc d y pc ls st I L R Q := w_pushl hc rfl k
theorem z_iadd {a b : Int} (hc : aCod y pc = some (.iadd, nx)) (k : aWp sc d y nx ls (.int (iI (a + b)) :: st) I L R Q) : aWp sc d y pc ls (.int (iI b) :: .int (iI a) :: st) I L R Q := w_iadd hc (iI_add a b) k
theorem z_isub {a b : Int} (hc : aCod y pc = some (.isub, nx)) (k : aWp sc d y nx ls (.int (iI (a - b)) :: st) I L R Q) : aWp sc d y pc ls (.int (iI b) :: .int (iI a) :: st) I L R Q := w_isub hc (iI_sub a b) k
theorem z_imul {a b : Int} (hc : aCod y pc = some (.imul, nx)) (k : aWp sc d y nx ls (.int (iI (a * b)) :: st) I L R Q) : aWp sc d y pc ls (.int (iI b) :: .int (iI a) :: st) I L R Q := w_imul hc (iI_mul a b) k
theorem z_ladd {a b : Int} (hc : aCod y pc = some (.ladd, nx)) (k : aWp sc d y nx ls (.long (lI (a + b)) :: st) I L R Q) : aWp sc d y pc ls (.long (lI b) :: .long (lI a) :: st) I L R Q := w_ladd hc (lI_add a b) k
theorem z_lsub {a b : Int} (hc : aCod y pc = some (.lsub, nx)) (k : aWp sc d y nx ls (.long (lI (a - b)) :: st) I L R Q) : aWp sc d y pc ls (.long (lI b) :: .long (lI a) :: st) I L R Q := w_lsub hc (lI_sub a b) k
theorem z_lmul {a b : Int} (hc : aCod y pc = some (.lmul, nx)) (k : aWp sc d y nx ls (.long (lI (a * b)) :: st) I L R Q) : aWp sc d y pc ls (.long (lI b) :: .long (lI a) :: st) I L R Q := w_lmul hc (lI_mul a b) k
theorem z_idiv {a b : Int} (hc : aCod y pc = some (.idiv, nx)) (ha : 0 ≤ a ∧ a < 2147483648) (hb : 0 < b ∧ b < 2147483648) (k : aWp sc d y nx ls (.int (iI (a / b)) :: st) I L R Q) : aWp sc d y pc ls (.int (iI b) :: .int (iI a) :: st) I L R Q := w_idiv hc (iI_ne0 ⟨by omega, hb.2⟩ (by omega)) (iI_div ha hb) k
theorem z_irem {a b : Int} (hc : aCod y pc = some (.irem, nx)) (ha : 0 ≤ a ∧ a < 2147483648) (hb : 0 < b ∧ b < 2147483648) (k : aWp sc d y nx ls (.int (iI (a % b)) :: st) I L R Q) : aWp sc d y pc ls (.int (iI b) :: .int (iI a) :: st) I L R Q := w_irem hc (iI_ne0 ⟨by omega, hb.2⟩ (by omega)) (by rw [iI_div ha hb, iI_mul, iI_sub]; congr 1; have := Int.emod_def a b; rw [this, Int.mul_comm b]) k
theorem z_ldiv {a b : Int} (hc : aCod y pc = some (.ldiv, nx)) (ha : 0 ≤ a ∧ a < 9223372036854775808) (hb : 0 < b ∧ b < 9223372036854775808) (k : aWp sc d y nx ls (.long (lI (a / b)) :: st) I L R Q) : aWp sc d y pc ls (.long (lI b) :: .long (lI a) :: st) I L R Q := w_ldiv hc (lI_ne0 ⟨by omega, hb.2⟩ (by omega)) (lI_div ha hb) k
theorem z_lrem {a b : Int} (hc : aCod y pc = some (.lrem, nx)) (ha : 0 ≤ a ∧ a < 9223372036854775808) (hb : 0 < b ∧ b < 9223372036854775808) (k : aWp sc d y nx ls (.long (lI (a % b)) :: st) I L R Q) : aWp sc d y pc ls (.long (lI b) :: .long (lI a) :: st) I L R Q := w_lrem hc (lI_ne0 ⟨by omega, hb.2⟩ (by omega)) (by rw [lI_div ha hb, lI_mul, lI_sub]; congr 1; have := Int.emod_def a b; rw [this, Int.mul_comm b]) k
theorem z_lcmp {a b : Int} (hc : aCod y pc = some (.lcmp, nx)) (ha : aRl a) (hb : aRl b) (k : aWp sc d y nx ls (.int (iI (if a < b then -1 else if a = b then 0 else 1)) :: st) I L R Q) : aWp sc d y pc ls (.long (lI b) :: .long (lI a) :: st) I L R Q := w_lcmp hc (lI_cmp ha hb) k
theorem z_i2l {a : Int} (hc : aCod y pc = some (.i2l, nx)) (ha : aRg a) (k : aWp sc d y nx ls (.long (lI a) :: st) I L R Q) : aWp sc d y pc ls (.int (iI a) :: st) I L R Q := w_i2l hc (iI_long ha) k
theorem z_l2i {a : Int} (hc : aCod y pc = some (.l2i, nx)) (k : aWp sc d y nx ls (.int (iI a) :: st) I L R Q) : aWp sc d y pc ls (.long (lI a) :: st) I L R Q := w_l2i hc (lI_int a) k
theorem z_iinc {j : Nat} {c x : Int} {ls2 : List Value} (hc : aCod y pc = some (.iinc j c, nx)) (hl : ls[j]? = some (.int (iI x))) (h2 : ls.set j (.int (iI (x + c))) = ls2) (k : aWp sc d y nx ls2 st I L R Q) : aWp sc d y pc ls st I L R Q := w_iinc hc hl (iI_add x c) h2 k
theorem z_iaload {q n : Nat} {j x : Int} (hc : aCod y pc = some (.iaload, nx)) (hs : S0[q]? = some (some .int, n)) (hj : 0 ≤ j ∧ j < n) (hn : n < 2147483648) (hx : I q j.toNat = iI x) (k : aWp sc d y nx ls (.int (iI x) :: st) I L R Q) : aWp sc d y pc ls (.int (iI j) :: .ref q :: st) I L R Q := w_iaload hc hs (iI_in hj hn) (by rw [iI_clamp ⟨hj.1, by omega⟩]; exact hx) k
theorem z_caload {q n : Nat} {j x : Int} (hc : aCod y pc = some (.caload, nx)) (hs : S0[q]? = some (some .char, n)) (hj : 0 ≤ j ∧ j < n) (hn : n < 2147483648) (hx : I q j.toNat = iI x) (k : aWp sc d y nx ls (.int (iI x) :: st) I L R Q) : aWp sc d y pc ls (.int (iI j) :: .ref q :: st) I L R Q := w_caload hc hs (iI_in hj hn) (by rw [iI_clamp ⟨hj.1, by omega⟩]; exact hx) k
theorem z_laload {q n : Nat} {j x : Int} (hc : aCod y pc = some (.laload, nx)) (hs : S0[q]? = some (some .long, n)) (hj : 0 ≤ j ∧ j < n) (hn : n < 2147483648) (hx : L q j.toNat = lI x) (k : aWp sc d y nx ls (.long (lI x) :: st) I L R Q) : aWp sc d y pc ls (.int (iI j) :: .ref q :: st) I L R Q := w_laload hc hs (iI_in hj hn) (by rw [iI_clamp ⟨hj.1, by omega⟩]; exact hx) k
theorem z_aaload_o {q n a : Nat} {j : Int} (hc : aCod y pc = some (.aaload, nx)) (hs : S0[q]? = some (some (.object RX1), n)) (hj : 0 ≤ j ∧ j < n) (hn : n < 2147483648) (hx : R q j.toNat = some a) (k : aWp sc d y nx ls (.ref a :: st) I L R Q) : aWp sc d y pc ls (.int (iI j) :: .ref q :: st) I L R Q := w_aaload_o hc hs (iI_in hj hn) (by rw [iI_clamp ⟨hj.1, by omega⟩]; exact hx) k
theorem z_aaload_i {q n a : Nat} {j : Int} (hc : aCod y pc = some (.aaload, nx)) (hs : S0[q]? = some (some (.array .int), n)) (hj : 0 ≤ j ∧ j < n) (hn : n < 2147483648) (hx : R q j.toNat = some a) (k : aWp sc d y nx ls (.ref a :: st) I L R Q) : aWp sc d y pc ls (.int (iI j) :: .ref q :: st) I L R Q := w_aaload_i hc hs (iI_in hj hn) (by rw [iI_clamp ⟨hj.1, by omega⟩]; exact hx) k
theorem z_iastore {q n : Nat} {j : Int} {x : Int32} (hc : aCod y pc = some (.iastore, nx)) (hs : S0[q]? = some (some .int, n)) (hj : 0 ≤ j ∧ j < n) (hn : n < 2147483648) (k : aWp sc d y nx ls st (aUp I q j.toNat x) L R Q) : aWp sc d y pc ls (.int x :: .int (iI j) :: .ref q :: st) I L R Q := w_iastore hc hs (iI_in hj hn) (by rw [iI_clamp ⟨hj.1, by omega⟩]; exact k)
theorem z_lastore {q n : Nat} {j : Int} {x : Int64} (hc : aCod y pc = some (.lastore, nx)) (hs : S0[q]? = some (some .long, n)) (hj : 0 ≤ j ∧ j < n) (hn : n < 2147483648) (k : aWp sc d y nx ls st I (aUp L q j.toNat x) R Q) : aWp sc d y pc ls (.long x :: .int (iI j) :: .ref q :: st) I L R Q := w_lastore hc hs (iI_in hj hn) (by rw [iI_clamp ⟨hj.1, by omega⟩]; exact k)
theorem z_putZ {f q : Nat} {z : Int} (hc : aCod y pc = some (.putfield f, nx)) (hs : S0[q]? = some (none, f / 256)) (hf : f % 256 < aNF (f / 256)) (ht : aTy (f / 256) (f % 256) = .int) (k : aWp sc d y nx ls st (aUp I q (f % 256) (iI z)) L R Q) : aWp sc d y pc ls (.int (iI z) :: .ref q :: st) I L R Q := w_putI hc hs hf (by rw [ht]; exact ⟨rfl, fun z => by cases z⟩) (by rw [ht]; exact ⟨rfl, rfl⟩) k
theorem z_putB {f q : Nat} {b : Bool} (hc : aCod y pc = some (.putfield f, nx)) (hs : S0[q]? = some (none, f / 256)) (hf : f % 256 < aNF (f / 256)) (ht : aTy (f / 256) (f % 256) = .boolean) (k : aWp sc d y nx ls st (aUp I q (f % 256) (aBo b)) L R Q) : aWp sc d y pc ls (.int (aBo b) :: .ref q :: st) I L R Q := w_putI hc hs hf (by rw [ht]; exact ⟨rfl, fun z => by cases z⟩) (by rw [ht]; cases b <;> exact ⟨rfl, rfl⟩) k
theorem z_getZ {f q : Nat} {x : Int} (hc : aCod y pc = some (.getfield f, nx)) (hs : S0[q]? = some (none, f / 256)) (hf : f % 256 < aNF (f / 256)) (ht : aTy (f / 256) (f % 256) = .int) (hx : I q (f % 256) = iI x) (k : aWp sc d y nx ls (.int (iI x) :: st) I L R Q) : aWp sc d y pc ls (.ref q :: st) I L R Q := w_getI hc hs hf (by rw [ht]; exact ⟨rfl, fun z => by cases z⟩) hx k
theorem z_getB {f q : Nat} {b : Bool} (hc : aCod y pc = some (.getfield f, nx)) (hs : S0[q]? = some (none, f / 256)) (hf : f % 256 < aNF (f / 256)) (ht : aTy (f / 256) (f % 256) = .boolean) (hx : I q (f % 256) = aBo b) (k : aWp sc d y nx ls (.int (aBo b) :: st) I L R Q) : aWp sc d y pc ls (.ref q :: st) I L R Q := w_getI hc hs hf (by rw [ht]; exact ⟨rfl, fun z => by cases z⟩) hx k
theorem z_getL {f q : Nat} {x : Int} (hc : aCod y pc = some (.getfield f, nx)) (hs : S0[q]? = some (none, f / 256)) (hf : f % 256 < aNF (f / 256)) (ht : aTy (f / 256) (f % 256) = .long) (hx : L q (f % 256) = lI x) (k : aWp sc d y nx ls (.long (lI x) :: st) I L R Q) : aWp sc d y pc ls (.ref q :: st) I L R Q := w_getL hc hs hf ht hx k
theorem aBo_0 {b : Bool} : aBo b = 0 ↔ b = false := by cases b <;> decide
theorem b_if_eq {t : Int} {b : Bool} (hc : aCod y pc = some (.ifCond .eq t, nx)) (k1 : b = false → aWp sc d y t.toNat ls st I L R Q) (k2 : b = true → aWp sc d y nx ls st I L R Q) : aWp sc d y pc ls (.int (aBo b) :: st) I L R Q := w_if_eq hc (fun h => k1 (aBo_0.mp h)) (fun h => k2 (by cases b with | false => exact absurd rfl h | true => rfl))
theorem b_if_ne {t : Int} {b : Bool} (hc : aCod y pc = some (.ifCond .ne t, nx)) (k1 : b = true → aWp sc d y t.toNat ls st I L R Q) (k2 : b = false → aWp sc d y nx ls st I L R Q) : aWp sc d y pc ls (.int (aBo b) :: st) I L R Q := w_if_ne hc (fun h => k1 (by cases b with | false => exact absurd rfl h | true => rfl)) (fun h => k2 (by cases b with | false => rfl | true => exact absurd (fun z => by cases z) h))
theorem z_if_eq {t : Int} {a : Int} (hc : aCod y pc = some (.ifCond .eq t, nx)) (ha : aRg a) (k1 : a = 0 → aWp sc d y t.toNat ls st I L R Q) (k2 : ¬ (a = 0) → aWp sc d y nx ls st I L R Q) : aWp sc d y pc ls (.int (iI a) :: st) I L R Q := w_if_eq hc (fun h => k1 ((iI_inj ha aRg_0).mp h)) (fun h => k2 (fun z => h ((iI_inj ha aRg_0).mpr z)))
theorem z_if_ne {t : Int} {a : Int} (hc : aCod y pc = some (.ifCond .ne t, nx)) (ha : aRg a) (k1 : ¬ a = 0 → aWp sc d y t.toNat ls st I L R Q) (k2 : ¬ (¬ a = 0) → aWp sc d y nx ls st I L R Q) : aWp sc d y pc ls (.int (iI a) :: st) I L R Q := w_if_ne hc (fun h => k1 ((not_congr (iI_inj ha aRg_0)).mp h)) (fun h => k2 (fun z => h ((not_congr (iI_inj ha aRg_0)).mpr z)))
theorem z_if_lt {t : Int} {a : Int} (hc : aCod y pc = some (.ifCond .lt t, nx)) (ha : aRg a) (k1 : a < 0 → aWp sc d y t.toNat ls st I L R Q) (k2 : ¬ (a < 0) → aWp sc d y nx ls st I L R Q) : aWp sc d y pc ls (.int (iI a) :: st) I L R Q := w_if_lt hc (fun h => k1 ((iI_lt ha aRg_0).mp h)) (fun h => k2 (fun z => h ((iI_lt ha aRg_0).mpr z)))
theorem z_if_ge {t : Int} {a : Int} (hc : aCod y pc = some (.ifCond .ge t, nx)) (ha : aRg a) (k1 : 0 ≤ a → aWp sc d y t.toNat ls st I L R Q) (k2 : ¬ (0 ≤ a) → aWp sc d y nx ls st I L R Q) : aWp sc d y pc ls (.int (iI a) :: st) I L R Q := w_if_ge hc (fun h => k1 ((iI_le aRg_0 ha).mp h)) (fun h => k2 (fun z => h ((iI_le aRg_0 ha).mpr z)))
theorem z_if_gt {t : Int} {a : Int} (hc : aCod y pc = some (.ifCond .gt t, nx)) (ha : aRg a) (k1 : 0 < a → aWp sc d y t.toNat ls st I L R Q) (k2 : ¬ (0 < a) → aWp sc d y nx ls st I L R Q) : aWp sc d y pc ls (.int (iI a) :: st) I L R Q := w_if_gt hc (fun h => k1 ((iI_lt aRg_0 ha).mp h)) (fun h => k2 (fun z => h ((iI_lt aRg_0 ha).mpr z)))
theorem z_if_le {t : Int} {a : Int} (hc : aCod y pc = some (.ifCond .le t, nx)) (ha : aRg a) (k1 : a ≤ 0 → aWp sc d y t.toNat ls st I L R Q) (k2 : ¬ (a ≤ 0) → aWp sc d y nx ls st I L R Q) : aWp sc d y pc ls (.int (iI a) :: st) I L R Q := w_if_le hc (fun h => k1 ((iI_le ha aRg_0).mp h)) (fun h => k2 (fun z => h ((iI_le ha aRg_0).mpr z)))
theorem z_ic_eq {t : Int} {a b : Int} (hc : aCod y pc = some (.if_icmp .eq t, nx)) (ha : aRg a) (hb : aRg b) (k1 : a = b → aWp sc d y t.toNat ls st I L R Q) (k2 : ¬ (a = b) → aWp sc d y nx ls st I L R Q) : aWp sc d y pc ls (.int (iI b) :: .int (iI a) :: st) I L R Q := w_ic_eq hc (fun h => k1 ((iI_inj ha hb).mp h)) (fun h => k2 (fun z => h ((iI_inj ha hb).mpr z)))
theorem z_ic_ne {t : Int} {a b : Int} (hc : aCod y pc = some (.if_icmp .ne t, nx)) (ha : aRg a) (hb : aRg b) (k1 : ¬ a = b → aWp sc d y t.toNat ls st I L R Q) (k2 : ¬ (¬ a = b) → aWp sc d y nx ls st I L R Q) : aWp sc d y pc ls (.int (iI b) :: .int (iI a) :: st) I L R Q := w_ic_ne hc (fun h => k1 ((not_congr (iI_inj ha hb)).mp h)) (fun h => k2 (fun z => h ((not_congr (iI_inj ha hb)).mpr z)))
theorem z_ic_lt {t : Int} {a b : Int} (hc : aCod y pc = some (.if_icmp .lt t, nx)) (ha : aRg a) (hb : aRg b) (k1 : a < b → aWp sc d y t.toNat ls st I L R Q) (k2 : ¬ (a < b) → aWp sc d y nx ls st I L R Q) : aWp sc d y pc ls (.int (iI b) :: .int (iI a) :: st) I L R Q := w_ic_lt hc (fun h => k1 ((iI_lt ha hb).mp h)) (fun h => k2 (fun z => h ((iI_lt ha hb).mpr z)))
theorem z_ic_ge {t : Int} {a b : Int} (hc : aCod y pc = some (.if_icmp .ge t, nx)) (ha : aRg a) (hb : aRg b) (k1 : b ≤ a → aWp sc d y t.toNat ls st I L R Q) (k2 : ¬ (b ≤ a) → aWp sc d y nx ls st I L R Q) : aWp sc d y pc ls (.int (iI b) :: .int (iI a) :: st) I L R Q := w_ic_ge hc (fun h => k1 ((iI_le hb ha).mp h)) (fun h => k2 (fun z => h ((iI_le hb ha).mpr z)))
theorem z_ic_gt {t : Int} {a b : Int} (hc : aCod y pc = some (.if_icmp .gt t, nx)) (ha : aRg a) (hb : aRg b) (k1 : b < a → aWp sc d y t.toNat ls st I L R Q) (k2 : ¬ (b < a) → aWp sc d y nx ls st I L R Q) : aWp sc d y pc ls (.int (iI b) :: .int (iI a) :: st) I L R Q := w_ic_gt hc (fun h => k1 ((iI_lt hb ha).mp h)) (fun h => k2 (fun z => h ((iI_lt hb ha).mpr z)))
theorem z_ic_le {t : Int} {a b : Int} (hc : aCod y pc = some (.if_icmp .le t, nx)) (ha : aRg a) (hb : aRg b) (k1 : a ≤ b → aWp sc d y t.toNat ls st I L R Q) (k2 : ¬ (a ≤ b) → aWp sc d y nx ls st I L R Q) : aWp sc d y pc ls (.int (iI b) :: .int (iI a) :: st) I L R Q := w_ic_le hc (fun h => k1 ((iI_le ha hb).mp h)) (fun h => k2 (fun z => h ((iI_le ha hb).mpr z)))
theorem z_mmax {i0 : Nat} {a b : Int} (hc : aCod y pc = some (.invokeinterface 1 i0, nx)) (hd : 1 ≤ d) (hs : aCat st ≤ 8) (ha : aRg a) (hb : aRg b) (k : aWp sc d y nx ls (.int (iI (max a b)) :: st) I L R Q) : aWp sc d y pc ls (.int (iI b) :: .int (iI a) :: st) I L R Q := w_mmax hc (by omega) (by
  by_cases h : a < b
  · rw [if_pos ((iI_lt ha hb).mpr h)]; congr 1; omega
  · rw [if_neg (fun z => h ((iI_lt ha hb).mp z))]; congr 1; omega) k
theorem z_mmin {i0 : Nat} {a b : Int} (hc : aCod y pc = some (.invokeinterface 2 i0, nx)) (hd : 1 ≤ d) (hs : aCat st ≤ 8) (ha : aRg a) (hb : aRg b) (k : aWp sc d y nx ls (.int (iI (min a b)) :: st) I L R Q) : aWp sc d y pc ls (.int (iI b) :: .int (iI a) :: st) I L R Q := w_mmin hc (by omega) (by
  by_cases h : b < a
  · rw [if_pos ((iI_lt hb ha).mpr h)]; congr 1; omega
  · rw [if_neg (fun z => h ((iI_lt hb ha).mp z))]; congr 1; omega) k
end WZ
