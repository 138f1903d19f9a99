/-! the start keeps the invariant (by hand) -/
def LF (L : aFL) : aFL := (aRow (aUp (aRow (aRow L 193 (fun _ => 0)) 204 (fun _ => 0)) 157 72 (lI 1)) 234 (fun _ => 0))
def J0 (I1 : aFI) : aFI := ig (aRow I1 157 (fun _ => 0)) icP61 icZ75
theorem icP_ge : icP61.all (fun e => decide (157 ≤ e.1)) = true := by decide +kernel
theorem icZ_ge : icZ75.all (fun e => decide (158 ≤ e)) = true := by decide +kernel
theorem lk3_lt {α : Type} {q : Nat} : ∀ {P : List (Nat × Nat × α)}, P.all (fun e => decide (157 ≤ e.1)) = true → q < 157 → ∀ k : Nat, lk3 P q k = none
  | [], _, _, _ => rfl
  | e :: r, h, hq, k => by
    simp only [List.all_cons, Bool.and_eq_true, decide_eq_true_eq] at h
    unfold lk3
    rw [if_neg (fun z => by omega)]
    exact lk3_lt h.2 hq k
theorem icZ_no {q : Nat} (h : q < 158) : icZ75.contains q = false := by
  cases hc : icZ75.contains q with
  | false => rfl
  | true =>
    have h1 := List.all_eq_true.mp icZ_ge q (List.contains_iff_mem.mp hc)
    have h2 := of_decide_eq_true h1
    omega
section J
variable {I1 : aFI} {q k : Nat}
theorem J_c (h : q < 157) : J0 I1 q k = I1 q k := by
  unfold J0 ig
  rw [lk3_lt icP_ge h k]
  show (if icZ75.contains q = true then 0 else aRow I1 157 (fun _ => 0) q k) = _
  rw [if_neg (by rw [icZ_no (by omega)]; decide)]
  unfold aRow; rw [if_neg (by omega)]
theorem J_157 (h : lk3 icP61 157 k = none) : J0 I1 157 k = 0 := by
  unfold J0 ig
  rw [h]
  show (if icZ75.contains 157 = true then 0 else aRow I1 157 (fun _ => 0) 157 k) = _
  rw [if_neg (by rw [icZ_no (by decide)]; decide)]
  unfold aRow; rw [if_pos rfl]
theorem J_z (h : lk3 icP61 q k = none) (hz : icZ75.contains q = true) : J0 I1 q k = 0 := by
  unfold J0 ig
  rw [h]
  show (if icZ75.contains q = true then 0 else aRow I1 157 (fun _ => 0) q k) = _
  rw [if_pos hz]
theorem J_v {v : Int32} (h : lk3 icP61 q k = some v) : J0 I1 q k = v := by
  unfold J0 ig
  rw [h]
end J
theorem icW : (List.range 240).all (fun q => decide (¬ ((160 ≤ q ∧ q ≤ 191) ∨ (208 ≤ q ∧ q ≤ 231))) || (List.range (WL q).length).all (fun j => decide (lk3 icP61 q j = some (iI (Wf q j))))) = true := by decide +kernel
theorem ic_158 : icP61.all (fun e => decide (¬ e.1 = 158)) = true ∧ icP61.all (fun e => decide (¬ e.1 = 159)) = true ∧ icP61.all (fun e => decide (¬ e.1 = 202)) = true := by decide +kernel
theorem ic_z : [158, 159, 192, 194, 198, 202].all (fun q => icZ75.contains q) = true := by decide +kernel
theorem ic_n : [(157, 1), (157, 7), (157, 56), (157, 61), (157, 70), (157, 71), (157, 108), (192, 3), (192, 4), (192, 5), (194, 5)].all (fun p => decide (lk3 icP61 p.1 p.2 = none)) = true := by decide +kernel
theorem ic_m : [(157, 8), (157, 67), (157, 68)].all (fun p => decide (lk3 icP61 p.1 p.2 = some (iI (-1)))) = true := by decide +kernel
theorem icn_8 : lk3 icP61 198 3 = some (iI 0) ∧ lk3 icP61 198 4 = some (iI 1) ∧ lk3 icP61 198 5 = some (iI 0) := by decide +kernel
theorem zr_at {I : aFI} {l : List (Nat × Nat)} (h : zr I l = true) {q k : Nat} (hm : (q, k) ∈ l) : I q k = 0 := of_decide_eq_true (List.all_eq_true.mp h (q, k) hm)
theorem rw0_at {I : aFI} {q n k : Nat} (h : rw0 I q n = true) (hk : k < n) : I q k = 0 := of_decide_eq_true (List.all_eq_true.mp h k (List.mem_range.mpr hk))
