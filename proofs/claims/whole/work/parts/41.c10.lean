/-! the class: the rows from and to of the sums; clear (c10.py) -/
/-- a sums' rows from and to over the rest -/
def oF (I : aFI) (s : Nat) (FR TO : Int → Int) : aFI := fun q k => if q = s + 2 then iI (FR k) else if q = s + 3 then iI (TO k) else I q k
section OFF
variable {I : aFI} {s : Nat} {S : Rs} {NM FR TO : Int → Int} {j x : Int}
theorem oF_f (hj : 0 ≤ j) : aUp (oF I s FR TO) (s + 2) j.toNat (iI x) = oF I s (cU FR j x) TO := by
  funext q k; unfold aUp oF cU
  by_cases h1 : q = s + 2
  · subst h1
    rw [if_pos rfl, if_pos rfl]
    by_cases h2 : k = j.toNat
    · rw [if_pos ⟨rfl, h2⟩, if_pos (by omega)]
    · rw [if_neg (fun z => h2 z.2), if_neg (by omega)]
  · rw [if_neg (fun z => h1 z.1), if_neg h1, if_neg h1]
theorem oF_t (hj : 0 ≤ j) : aUp (oF I s FR TO) (s + 3) j.toNat (iI x) = oF I s FR (cU TO j x) := by
  funext q k; unfold aUp oF cU
  by_cases h1 : q = s + 3
  · subst h1
    have e1 : ¬ s + 3 = s + 2 := by omega
    rw [if_neg e1, if_neg e1, if_pos rfl, if_pos rfl]
    by_cases h2 : k = j.toNat
    · rw [if_pos ⟨rfl, h2⟩, if_pos (by omega)]
    · rw [if_neg (fun z => h2 z.2), if_neg (by omega)]
  · rw [if_neg (fun z => h1 z.1)]
    by_cases h3 : q = s + 2
    · rw [if_pos h3, if_pos h3]
    · rw [if_neg h3, if_neg h3, if_neg h1, if_neg h1]
theorem oN_out {q k : Nat} {v : Int32} (h : ¬ q = 7) : aUp (oN I NM) q k v = oN (aUp I q k v) NM := by
  funext q2 k2
  unfold aUp oN
  by_cases h3 : q2 = q ∧ k2 = k
  · obtain ⟨rfl, rfl⟩ := h3
    rw [if_pos ⟨rfl, rfl⟩, if_neg h]
    show _ = (if q2 = q2 ∧ k2 = k2 then v else I q2 k2)
    rw [if_pos ⟨rfl, rfl⟩]
  · simp only [h3, if_false]
theorem oS_out {q k : Nat} {v : Int32} (h1 : ¬ q = 2) (h2 : ¬ q = s) (h3 : ¬ q = s + 1) : aUp (oS I s S) q k v = oS (aUp I q k v) s S := by
  show aUp (oR _ _ _ _ _) _ _ _ = _
  rw [oR_out (fun z => h1 z.1), oU_out h2 h3]; rfl
theorem oS_f (hs : aSm s) (hj : 0 ≤ j) : aUp (oS (oN (oF I s FR TO) NM) s S) (s + 2) j.toNat (iI x) = oS (oN (oF I s (cU FR j x) TO) NM) s S := by
  rw [oS_out (by rcases hs with rfl | rfl | rfl <;> omega) (by omega) (by omega), oN_out (by rcases hs with rfl | rfl | rfl <;> omega), oF_f hj]
theorem oS_t (hs : aSm s) (hj : 0 ≤ j) : aUp (oS (oN (oF I s FR TO) NM) s S) (s + 3) j.toNat (iI x) = oS (oN (oF I s FR (cU TO j x)) NM) s S := by
  rw [oS_out (by rcases hs with rfl | rfl | rfl <;> omega) (by omega) (by omega), oN_out (by rcases hs with rfl | rfl | rfl <;> omega), oF_t hj]
theorem rS_f (hs : aSm s) (hj : 0 ≤ j) : oS (oN (oF I s FR TO) NM) s S (s + 2) j.toNat = iI (FR j) := by
  have e : oS (oN (oF I s FR TO) NM) s S (s + 2) j.toNat = iI (FR ((j.toNat : Nat) : Int)) := by rcases hs with rfl | rfl | rfl <;> rfl
  rw [e, Int.toNat_of_nonneg hj]
theorem rS_t (hs : aSm s) (hj : 0 ≤ j) : oS (oN (oF I s FR TO) NM) s S (s + 3) j.toNat = iI (TO j) := by
  have e : oS (oN (oF I s FR TO) NM) s S (s + 3) j.toNat = iI (TO ((j.toNat : Nat) : Int)) := by rcases hs with rfl | rfl | rfl <;> rfl
  rw [e, Int.toNat_of_nonneg hj]
/-- the length alone, put to nought -/
def rL0 (S : Rs) : Rs := Rs.mk S.a S.op S.f S.pl 0 S.C
theorem oS_l0 (hs : aSm s) : aUp (oS I s S) s 3 (iI 0) = oS I s (rL0 S) := oQ_ln hs
end OFF
set_option maxHeartbeats 2000000 in
theorem ts_sclear_1 {d s : Nat} {I : aFI} {L : aFL} {Q : aPo} {S : Rs} {NM : Int → Int} {sh : Nat} {su : Option Nat} (hs : aSm s) : ∀ (n : Nat) (r : Int) (FR TO : Int → Int), (4 - r).toNat < n → (0 ≤ r ∧ r ≤ 4) → (∀ j : Int, 0 ≤ j → j < r → FR j = -1 ∧ TO j = -1) → (∀ FR TO : Int → Int, (∀ j : Int, 0 ≤ j → j < 4 → FR j = -1 ∧ TO j = -1) → Q none (oS (oN (oF I s FR TO) NM) s S) L (aR sh su)) → aWp none d 72 7 [.ref s, .int (iI r)] [] (oS (oN (oF I s FR TO) NM) s S) L (aR sh su) Q := by
  intro n
  induction n with
  | zero => intro r FR TO h; omega
  | succ n ih =>
    intro r FR TO hn hr hb q
    refine w_iload c_72_7 rfl ?_
    refine z_push c_72_8 ?_
    refine z_ic_ge c_72_9 (by unfold aRg; omega) (by unfold aRg; omega) (fun h1_ => ?_) (fun h1_ => ?_)
    · refine z_retv c_72_32 ?_
      exact q FR TO (fun j h1 h2 => hb j h1 (by omega))
    · refine w_aload c_72_12 rfl ?_
      refine w_getR c_72_13 (sm_0 hs) (by decide) rfl (pm_1 hs) ?_
      refine w_iload c_72_16 rfl ?_
      refine z_push c_72_17 ?_
      refine z_iastore c_72_18 (sm_2 hs) (by omega) (by decide) ?_
      rw [oS_f hs (by omega)]
      refine w_aload c_72_19 rfl ?_
      refine w_getR c_72_20 (sm_0 hs) (by decide) rfl (pm_2 hs) ?_
      refine w_iload c_72_23 rfl ?_
      refine z_push c_72_24 ?_
      refine z_iastore c_72_25 (sm_3 hs) (by omega) (by decide) ?_
      rw [oS_t hs (by omega)]
      refine z_iinc c_72_26 rfl rfl ?_
      refine w_goto c_72_29 ?_
      refine ih (r + 1) _ _ (by omega) (by omega) (fun j h1 h2 => ?_) q
      unfold cU
      by_cases hj : j = r
      · rw [if_pos hj, if_pos hj]; exact ⟨rfl, rfl⟩
      · rw [if_neg hj, if_neg hj]; exact hb j h1 (by omega)

set_option maxHeartbeats 1000000 in
theorem ts_sclear {d s : Nat} {I : aFI} {L : aFL} {Q : aPo} {S : Rs} {NM : Int → Int} {sh : Nat} {su : Option Nat} (hs : aSm s) {FR TO : Int → Int} (q : ∀ FR TO : Int → Int, (∀ j : Int, 0 ≤ j → j < 4 → FR j = -1 ∧ TO j = -1) → Q none (oS (oN (oF I s FR TO) NM) s (rL0 S)) L (aR sh su)) : aWp none d 72 0 [.ref s, .null] [] (oS (oN (oF I s FR TO) NM) s S) L (aR sh su) Q := by
  refine w_aload c_72_0 rfl ?_
  refine z_push c_72_1 ?_
  refine z_putZ c_72_2 (sm_0 hs) (by decide) rfl ?_
  rw [oS_l0 hs]
  refine z_push c_72_5 ?_
  refine w_istore c_72_6 (Nat.le_of_ble_eq_true rfl) rfl ?_
  exact ts_sclear_1 hs _ 0 _ _ (Nat.lt_succ_self _) (by omega) (fun j h1 h2 => absurd h1 (by omega)) q

