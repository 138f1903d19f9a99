/-! PURE: bits that another has not (p72.py) -/
/-- the bits of a that b has not -/
def ld (a b : Nat) : Nat := a ^^^ (a &&& b)
theorem ld_tb {a b i : Nat} : (ld a b).testBit i = (a.testBit i && !b.testBit i) := by
  unfold ld; rw [Nat.testBit_xor, Nat.testBit_and]
  cases a.testBit i <;> cases b.testBit i <;> rfl
theorem ld_lt {a b : Nat} (h : a < 256) : ld a b < 256 := by
  unfold ld
  exact Nat.xor_lt_two_pow (n := 8) h (Nat.lt_of_le_of_lt Nat.and_le_left h)
theorem ld_or {a b c : Nat} : ld (ld a b) c = ld a (b ||| c) := by
  apply Nat.eq_of_testBit_eq; intro i
  rw [ld_tb, ld_tb, ld_tb, Nat.testBit_or]
  cases a.testBit i <;> cases b.testBit i <;> cases c.testBit i <;> rfl
theorem ld_id {a b : Nat} (h : a &&& b = 0) : ld a b = a := by unfold ld; rw [h]; exact Nat.xor_zero a
theorem andn_ok : (List.range 256).all (fun a => (List.range 256).all (fun b => decide (iI (a : Nat) &&& (iI (b : Nat) ^^^ iI (-1)) = iI ((ld a b : Nat) : Int)))) = true := by decide +kernel
theorem andn {a b : Nat} (ha : a < 256) (hb : b < 256) : iI (a : Int) &&& (iI (b : Int) ^^^ iI (-1)) = iI ((ld a b : Nat) : Int) := by
  have h := List.all_eq_true.mp andn_ok a (List.mem_range.mpr ha)
  have h2 := List.all_eq_true.mp h b (List.mem_range.mpr hb)
  exact of_decide_eq_true h2
