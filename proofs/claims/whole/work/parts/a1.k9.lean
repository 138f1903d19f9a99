/-! names' letters, short names: both sides (pa1.py) -/
def zlf (f : Int → Int) : Nat := if f 0 = 0 then 0 else if f 1 = 0 then 1 else if f 2 = 0 then 2 else if f 3 = 0 then 3 else if f 4 = 0 then 4 else if f 5 = 0 then 5 else 6
theorem zlf_z {f : Int → Int} {z : Nat} (h1 : 1 ≤ z ∧ z ≤ 6) (h2 : lts f z) (h3 : ∀ k : Int, (z : Int) ≤ k → k < 6 → f k = 0) : zlf f = z := by
  have a : ∀ k : Int, 0 ≤ k → k < z → ¬ f k = 0 := fun k x y => by have := h2 k x y; omega
  unfold zlf
  rcases (show z = 1 ∨ z = 2 ∨ z = 3 ∨ z = 4 ∨ z = 5 ∨ z = 6 by omega) with rfl | rfl | rfl | rfl | rfl | rfl
  · rw [if_neg (a 0 (by decide) (by decide)), if_pos (h3 1 (by decide) (by decide))]
  · rw [if_neg (a 0 (by decide) (by decide)), if_neg (a 1 (by decide) (by decide)), if_pos (h3 2 (by decide) (by decide))]
  · rw [if_neg (a 0 (by decide) (by decide)), if_neg (a 1 (by decide) (by decide)), if_neg (a 2 (by decide) (by decide)), if_pos (h3 3 (by decide) (by decide))]
  · rw [if_neg (a 0 (by decide) (by decide)), if_neg (a 1 (by decide) (by decide)), if_neg (a 2 (by decide) (by decide)), if_neg (a 3 (by decide) (by decide)), if_pos (h3 4 (by decide) (by decide))]
  · rw [if_neg (a 0 (by decide) (by decide)), if_neg (a 1 (by decide) (by decide)), if_neg (a 2 (by decide) (by decide)), if_neg (a 3 (by decide) (by decide)), if_neg (a 4 (by decide) (by decide)), if_pos (h3 5 (by decide) (by decide))]
  · rw [if_neg (a 0 (by decide) (by decide)), if_neg (a 1 (by decide) (by decide)), if_neg (a 2 (by decide) (by decide)), if_neg (a 3 (by decide) (by decide)), if_neg (a 4 (by decide) (by decide)), if_neg (a 5 (by decide) (by decide))]
theorem wfN.z {f : Int → Int} (h : wfN f) : (1 ≤ zlf f ∧ zlf f ≤ 6) ∧ lts f (zlf f) ∧ (∀ k : Int, (zlf f : Int) ≤ k → k < 6 → f k = 0) ∧ nmc f 6 = nmc f (zlf f) := by
  obtain ⟨z, h1, h2, h3⟩ := h
  have e := zlf_z h1 h2 h3
  rw [e]; exact ⟨h1, h2, h3, nmc_6 h1.2 h3⟩
theorem nmc_div {f : Int → Int} {k : Nat} (h : lts f (k + 1)) : nmc f (k + 1) / 27 = nmc f k ∧ nmc f (k + 1) % 27 = f k := by
  rw [nmc_s h]
  have := h k (by omega) (by omega)
  have := (nmc_pos (f := f) (z := k) (fun j a b => h j a (by omega))).1
  omega
theorem nmc_b {f : Int → Int} {z : Nat} (hz : z ≤ 6) (h : lts f z) : 0 ≤ nmc f z ∧ nmc f z < 400000000 := ⟨(nmc_lt hz h).1, (nmc_lt hz h).2.1⟩
/-- a name's row -/
abbrev nrw (D : Nat → Int → Int) (r : Int) : Int → Int := fun j => D 2 (r * 6 + j)
def ltZ (D : Nat → Int → Int) (k v i : Int) : Int := if (0 ≤ k ∧ k < 3) ∧ (0 ≤ v ∧ v < D 1 k) ∧ (0 ≤ i ∧ i < 6) then D 2 ((rowB k + v) * 6 + i) else -1
def bgS (D : Nat → Int → Int) (e : Int) (m : Int) (k : Int) : Prop := ¬ k = e ∧ ∀ i : Int, 0 ≤ i → i < m → nrw D (12 + e) i = nrw D (12 + k) i
def bgZ (D : Nat → Int → Int) (e m : Int) : Prop := ∃ k : Int, (0 ≤ k ∧ k < D 1 2) ∧ bgS D e m k
noncomputable def brL (D : Nat → Int → Int) (e : Int) : Nat → Int → Int
  | 0, m => m
  | f + 1, m => @ite Int (m < zlf (nrw D (12 + e)) ∧ bgZ D e m) (Classical.propDecidable _) (brL D e f (m + 1)) m
noncomputable def brZ (D : Nat → Int → Int) (e : Int) : Int := if 0 ≤ e ∧ e < D 1 2 then brL D e 7 1 else -1
theorem brL_t {D : Nat → Int → Int} {e m : Int} {f : Nat} (h : m < zlf (nrw D (12 + e)) ∧ bgZ D e m) : brL D e (f + 1) m = brL D e f (m + 1) := if_pos h
theorem brL_f {D : Nat → Int → Int} {e m : Int} {f : Nat} (h : ¬ (m < zlf (nrw D (12 + e)) ∧ bgZ D e m)) : brL D e f m = m := by
  cases f with
  | zero => rfl
  | succ f => exact if_neg h
/-- a shore's numbers and names: also of the shore that stands before any was told -/
def wfQ (D : Nat → Int → Int) (cd : Nat → Option (List Int)) : Prop := wfS D cd ∧ (∀ k : Nat, k < 3 → ∀ i : Int, 0 ≤ i → i < D 1 k → wfN (fun j => D 2 ((rowB k + i) * 6 + j))) ∧ True
theorem wfP.q {D : Nat → Int → Int} {cd : Nat → Option (List Int)} (h : wfP D cd) : wfQ D cd := ⟨h.1, h.2.1, trivial⟩
theorem wfQ.row {D : Nat → Int → Int} {cd : Nat → Option (List Int)} (h : wfQ D cd) {e : Int} (h0 : 0 ≤ e) (h1 : e < D 1 2) : wfN (nrw D (12 + e)) := by
  have := h.2.1 2 (by decide) e h0 h1
  rw [rowB_n.2.2] at this; exact this
theorem nm_eq {f g : Int → Int} {m : Nat} (hf : lts f m) (hg : lts g m) : nmc g m = nmc f m ↔ ∀ i : Int, 0 ≤ i → i < m → f i = g i := by
  constructor
  · intro h; exact fun i a b => ((nmc_inj m m hg hf h).2 i a b).symm
  · intro h; exact nmc_same m (fun k a b => (h k a b).symm)
/-- the reference's test: so many letters, and like ones -/
theorem bg_ref {D : Nat → Int → Int} {cd : Nat → Option (List Int)} (h : wfQ D cd) {e k : Int} {m : Nat} (he : 0 ≤ e ∧ e < D 1 2) (hk : 0 ≤ k ∧ k < D 1 2) (hm : m ≤ zlf (nrw D (12 + e))) : (m ≤ zlf (nrw D (12 + k)) ∧ nmc (nrw D (12 + k)) m = nmc (nrw D (12 + e)) m) ↔ ∀ i : Int, 0 ≤ i → i < m → nrw D (12 + e) i = nrw D (12 + k) i := by
  have he2 := (h.row he.1 he.2).z
  have hk2 := (h.row hk.1 hk.2).z
  have hf : lts (nrw D (12 + e)) m := fun i a b => he2.2.1 i a (by omega)
  constructor
  · rintro ⟨a, b⟩
    exact (nm_eq hf (fun i x y => hk2.2.1 i x (by omega))).mp b
  · intro h2
    have hz : m ≤ zlf (nrw D (12 + k)) := by
      by_cases z : m ≤ zlf (nrw D (12 + k))
      · exact z
      · exfalso
        have h3 := h2 (zlf (nrw D (12 + k))) (by omega) (by omega)
        have h4 := hk2.2.2.1 (zlf (nrw D (12 + k))) (Int.le_refl _) (by omega)
        have h5 := hf (zlf (nrw D (12 + k))) (by omega) (by omega)
        omega
    exact ⟨hz, (nm_eq hf (fun i x y => hk2.2.1 i x (by omega))).mpr h2⟩
set_option maxHeartbeats 1000000 in
theorem t_lettersOf_4 {d : Nat} {I : aFI} {L : aFL} {Q : aPo} {sh : Nat} {su : Option Nat} {f : Int → Int} {z : Nat} (hz : z ≤ 6) (hf : lts f z) (kk : Q (some (.int (iI (z : Int)))) I L (aR sh su)) : ∀ k : Nat, k ≤ z → aWp none d 186 4 [.long (lI (nmc f z)), .null, .int (iI ((z : Int) - k)), .long (lI (nmc f k)), .null] [] I L (aR sh su) Q := by
  intro k
  induction k with
  | zero =>
    intro hk
    have h00 : nmc f 0 = 0 := rfl
    refine w_lload c_186_4 rfl ?_
    refine z_pushl c_186_5 ?_
    refine z_lc_le c_186_6 c_186_7 (by first | exact aRl_of _ | (unfold aRl; omega)) (by first | exact aRl_of _ | (unfold aRl; omega)) (fun h1_ => ?_) (fun h1_ => ?_)
    rotate_left
    · exfalso; have h9 : ¬ nmc f 0 ≤ 0 := h1_; exact h9 (Int.le_refl 0)
    refine w_iload c_186_22 rfl ?_
    refine z_ret c_186_23 rfl ?_
    exact q_i kk (by omega)
  | succ k ih =>
    intro hk
    have hp := nmc_pos (f := f) (z := k + 1) (fun i a b => hf i a (by omega))
    have hl := nmc_b (f := f) (z := k + 1) (by omega) (fun i a b => hf i a (by omega))
    have hp2 := hp.2 (by omega)
    refine w_lload c_186_4 rfl ?_
    refine z_pushl c_186_5 ?_
    refine z_lc_le c_186_6 c_186_7 (by first | exact aRl_of _ | (unfold aRl; omega)) (by first | exact aRl_of _ | (unfold aRl; omega)) (fun h1_ => ?_) (fun h1_ => ?_)
    · exfalso; omega
    refine z_iinc c_186_10 rfl rfl ?_
    refine w_lload c_186_13 rfl ?_
    refine z_pushl c_186_14 ?_
    refine z_ldiv c_186_17 (by omega) (by omega) ?_
    refine w_lstore c_186_18 (Nat.le_of_ble_eq_true rfl) rfl ?_
    refine w_goto c_186_19 ?_
    rw [(nmc_div (k := k) (fun i a b => hf i a (by omega))).1, show (z : Int) - ((k + 1 : Nat) : Int) + 1 = (z : Int) - (k : Int) by omega]
    exact ih (by omega)

set_option maxHeartbeats 1000000 in
theorem t_lettersOf {d : Nat} {I : aFI} {L : aFL} {Q : aPo} {sh : Nat} {su : Option Nat} {f : Int → Int} {z : Nat} {x : Int} (hx : x = nmc f z) (hz : z ≤ 6) (hf : lts f z) (kk : Q (some (.int (iI (z : Int)))) I L (aR sh su)) : aWp none d 186 0 [.long (lI x), .null, .null, .null, .null] [] I L (aR sh su) Q := by
  subst hx
  refine z_push c_186_0 ?_
  refine w_istore c_186_1 (Nat.le_of_ble_eq_true rfl) rfl ?_
  refine w_lload c_186_2 rfl ?_
  refine w_lstore c_186_3 (Nat.le_of_ble_eq_true rfl) rfl ?_
  have h9 := t_lettersOf_4 (d := d) (I := I) (L := L) hz hf kk z (Nat.le_refl z)
  rw [Int.sub_self] at h9
  exact h9

set_option maxHeartbeats 1000000 in
theorem t_firstOf_8 {d : Nat} {I : aFI} {L : aFL} {Q : aPo} {sh : Nat} {su : Option Nat} {f : Int → Int} {z m : Nat} (hz : z ≤ 6) (hf : lts f z) (kk : Q (some (.long (lI (nmc f m)))) I L (aR sh su)) : ∀ k : Nat, m + k ≤ z → aWp none d 187 8 [.long (lI (nmc f z)), .null, .int (iI (m : Int)), .long (lI (nmc f (m + k))), .null, .int (iI ((m + k : Nat) : Int))] [] I L (aR sh su) Q := by
  intro k
  induction k with
  | zero =>
    intro hk
    refine w_iload c_187_8 rfl ?_
    refine w_iload c_187_10 rfl ?_
    refine z_ic_le c_187_11 (by first | exact aRg_of _ | (unfold aRg; omega)) (by first | exact aRg_of _ | (unfold aRg; omega)) (fun h1_ => ?_) (fun h1_ => ?_)
    rotate_left
    · exfalso; omega
    refine w_lload c_187_26 rfl ?_
    refine z_retl c_187_27 ?_
    exact kk
  | succ k ih =>
    intro hk
    have hp := nmc_pos (f := f) (z := m + (k + 1)) (fun i a b => hf i a (by omega))
    have hl := nmc_b (f := f) (z := m + (k + 1)) (by omega) (fun i a b => hf i a (by omega))
    refine w_iload c_187_8 rfl ?_
    refine w_iload c_187_10 rfl ?_
    refine z_ic_le c_187_11 (by first | exact aRg_of _ | (unfold aRg; omega)) (by first | exact aRg_of _ | (unfold aRg; omega)) (fun h1_ => ?_) (fun h1_ => ?_)
    · exfalso; omega
    refine w_lload c_187_14 rfl ?_
    refine z_pushl c_187_15 ?_
    refine z_ldiv c_187_18 (by omega) (by omega) ?_
    refine w_lstore c_187_19 (Nat.le_of_ble_eq_true rfl) rfl ?_
    refine z_iinc c_187_20 rfl rfl ?_
    refine w_goto c_187_23 ?_
    rw [show m + (k + 1) = (m + k) + 1 by omega, (nmc_div (k := m + k) (fun i a b => hf i a (by omega))).1, show (((m + k) + 1 : Nat) : Int) + -1 = ((m + k : Nat) : Int) by omega]
    exact ih (by omega)

set_option maxHeartbeats 1000000 in
theorem t_firstOf {d : Nat} {I : aFI} {L : aFL} {Q : aPo} {sh : Nat} {su : Option Nat} {f : Int → Int} {z m : Nat} {x mz : Int} (hx : x = nmc f z) (hmz : mz = m) (hz : z ≤ 6) (hm : m ≤ z) (hf : lts f z) (hd : 1 ≤ d) (kk : Q (some (.long (lI (nmc f m)))) I L (aR sh su)) : aWp none d 187 0 [.long (lI x), .null, .int (iI mz), .null, .null, .null] [] I L (aR sh su) Q := by
  subst hx
  subst hmz
  refine w_lload c_187_0 rfl ?_
  refine w_lstore c_187_1 (Nat.le_of_ble_eq_true rfl) rfl ?_
  refine w_lload c_187_2 rfl ?_
  refine wc_186 c_187_3 (Nat.le_of_ble_eq_true rfl) (by omega) ?_
  refine t_lettersOf rfl hz hf ?_
  refine r_i ?_
  refine w_istore c_187_6 (Nat.le_of_ble_eq_true rfl) rfl ?_
  have h9 := t_firstOf_8 (d := d) (I := I) (L := L) (m := m) hz hf kk (z - m) (by omega)
  rw [show m + (z - m) = z by omega] at h9
  exact h9

set_option maxHeartbeats 1000000 in
theorem t_letter {d : Nat} {I : aFI} {L : aFL} {Q : aPo} {sh : Nat} {su : Option Nat} {D : Nat → Int → Int} {cd : Nat → Option (List Int)} {k v i : Int} (hwf : wfQ D cd) (hD : rD I D) (hN : rNms L D) (rk : -2147483648 ≤ k ∧ k < 2147483648) (rv : -2147483648 ≤ v ∧ v < 2147483648) (ri : -2147483648 ≤ i ∧ i < 2147483648) (hd : 3 ≤ d) (kk : Q (some (.int (iI (ltZ D k v i)))) I L (aR sh su)) : aWp none d 188 0 [.ref 157, .int (iI k), .int (iI v), .int (iI i), .null, .null] [] I L (aR sh su) Q := by
  have hcn0 := hwf.1.n
  refine w_iload c_188_0 rfl ?_
  refine z_i2l c_188_1 (by first | exact aRg_of _ | (unfold aRg; omega)) ?_
  refine z_pushl c_188_2 ?_
  refine z_pushl c_188_3 ?_
  refine wc_130 c_188_6 (Nat.le_of_ble_eq_true rfl) (by omega) ?_
  refine t_isIn (by unfold aRl; omega) (by unfold aRl; omega) (by unfold aRl; omega) ?_
  refine r_i ?_
  refine b_if_eq c_188_9 (fun h1_ => ?_) (fun h1_ => ?_)
  · refine z_push c_188_44 ?_
    refine z_ret c_188_45 rfl ?_
    refine q_i kk ?_
    unfold ltZ; rw [if_neg]; simp only [decide_eq_true_eq, decide_eq_false_iff_not] at *; omega
  · have hc0 : -1 ≤ D 1 k ∧ D 1 k ≤ 8 := by
      simp only [decide_eq_true_eq] at *
      rcases (show k = 0 ∨ k = 1 ∨ k = 2 by omega) with rfl | rfl | rfl <;> omega
    refine w_iload c_188_12 rfl ?_
    refine z_i2l c_188_13 (by first | exact aRg_of _ | (unfold aRg; omega)) ?_
    refine z_pushl c_188_14 ?_
    refine w_aload c_188_15 rfl ?_
    refine w_getR c_188_16 sp_157 (by decide) rfl pr_157_44 ?_
    refine z_push c_188_19 ?_
    refine w_iload c_188_20 rfl ?_
    refine z_iadd c_188_21 ?_
    refine z_iaload c_188_22 sp_192 (by first | omega | (simp only [decide_eq_true_eq] at *; omega)) (by first | decide | omega) (hD.cnt (j := k) (by simp only [decide_eq_true_eq] at *; omega) (by simp only [decide_eq_true_eq] at *; omega) rfl) ?_
    refine z_push c_188_23 ?_
    refine z_isub c_188_24 ?_
    refine z_i2l c_188_25 (by first | exact aRg_of _ | (unfold aRg; omega)) ?_
    refine wc_130 c_188_26 (Nat.le_of_ble_eq_true rfl) (by omega) ?_
    refine t_isIn (by unfold aRl; omega) (by unfold aRl; omega) (by unfold aRl; omega) ?_
    refine r_i ?_
    refine b_if_eq c_188_29 (fun h2_ => ?_) (fun h2_ => ?_)
    · refine z_push c_188_44 ?_
      refine z_ret c_188_45 rfl ?_
      refine q_i kk ?_
      unfold ltZ; rw [if_neg]; simp only [decide_eq_true_eq, decide_eq_false_iff_not] at *; omega
    · refine w_iload c_188_32 rfl ?_
      refine z_i2l c_188_33 (by first | exact aRg_of _ | (unfold aRg; omega)) ?_
      refine z_pushl c_188_34 ?_
      refine z_pushl c_188_35 ?_
      refine wc_130 c_188_38 (Nat.le_of_ble_eq_true rfl) (by omega) ?_
      refine t_isIn (by unfold aRl; omega) (by unfold aRl; omega) (by unfold aRl; omega) ?_
      refine r_i ?_
      refine b_if_ne c_188_41 (fun h3_ => ?_) (fun h3_ => ?_)
      · simp only [decide_eq_true_eq, decide_eq_false_iff_not] at *
        have hcn := hwf.1.n
        have hv8 : v < 8 := by
          rcases (show k = 0 ∨ k = 1 ∨ k = 2 by omega) with rfl | rfl | rfl <;> omega
        have hkn : ((k.toNat : Nat) : Int) = k := by omega
        have hw := hwf.2.1 k.toNat (by omega) v (by omega) (by rw [hkn]; omega)
        rw [hkn] at hw
        have hwz := hw.z
        have hnm := hN k.toNat (by omega) v (by omega) (by rw [hkn]; omega)
        have hnv : nmR D k.toNat v = nmc (fun j => D 2 ((rowB k + v) * 6 + j)) (zlf (fun j => D 2 ((rowB k + v) * 6 + j))) := by unfold nmR; rw [hkn]; exact hwz.2.2.2
        rw [hnv] at hnm
        have hl := nmc_b (f := fun j => D 2 ((rowB k + v) * 6 + j)) hwz.1.2 hwz.2.1
        have hlt : ltZ D k v i = D 2 ((rowB k + v) * 6 + i) := if_pos (by omega)
        refine w_aload c_188_46 rfl ?_
        refine w_getR c_188_47 sp_157 (by decide) rfl pr_157_45 ?_
        refine z_push c_188_50 ?_
        refine z_push c_188_52 ?_
        refine w_iload c_188_54 rfl ?_
        refine z_imul c_188_55 ?_
        refine z_iadd c_188_56 ?_
        refine w_iload c_188_57 rfl ?_
        refine z_iadd c_188_58 ?_
        refine z_laload c_188_59 sp_193 (by first | omega | (simp only [decide_eq_true_eq] at *; omega)) (by first | decide | omega) (show L 193 _ = _ by rw [show (24 + 8 * k + v).toNat = (24 + 8 * ((k.toNat : Nat) : Int) + v).toNat by omega]; exact hnm) ?_
        refine w_lstore c_188_60 (Nat.le_of_ble_eq_true rfl) rfl ?_
        refine w_iload c_188_62 rfl ?_
        refine w_lload c_188_63 rfl ?_
        refine wc_186 c_188_65 (Nat.le_of_ble_eq_true rfl) (by omega) ?_
        refine t_lettersOf (f := fun j => D 2 ((rowB k + v) * 6 + j)) rfl hwz.1.2 hwz.2.1 ?_
        refine r_i ?_
        refine z_ic_lt c_188_68 (by first | exact aRg_of _ | (unfold aRg; omega)) (by first | exact aRg_of _ | (unfold aRg; omega)) (fun h4_ => ?_) (fun h4_ => ?_)
        · refine w_lload c_188_75 rfl ?_
          refine w_iload c_188_77 rfl ?_
          refine z_push c_188_78 ?_
          refine z_iadd c_188_79 ?_
          refine wc_187 c_188_80 (Nat.le_of_ble_eq_true rfl) (by omega) ?_
          refine t_firstOf (f := fun j => D 2 ((rowB k + v) * 6 + j)) (m := i.toNat + 1) rfl (by omega) hwz.1.2 (by omega) hwz.2.1 (by omega) ?_
          have hl2 := nmc_b (f := fun j => D 2 ((rowB k + v) * 6 + j)) (z := i.toNat + 1) (by omega) (fun j a b => hwz.2.1 j a (by omega))
          have hdv := nmc_div (f := fun j => D 2 ((rowB k + v) * 6 + j)) (k := i.toNat) (fun j a b => hwz.2.1 j a (by omega))
          refine r_l ?_
          refine z_pushl c_188_83 ?_
          refine z_lrem c_188_86 (by omega) (by omega) ?_
          refine z_l2i c_188_87 ?_
          refine z_ret c_188_88 rfl ?_
          refine q_i kk ?_
          rw [hlt, hdv.2, Int.toNat_of_nonneg (by omega)]
        · refine z_push c_188_71 ?_
          refine w_goto c_188_72 ?_
          refine z_ret c_188_88 rfl ?_
          refine q_i kk ?_
          rw [hlt]
          exact hwz.2.2.1 i (by omega) (by omega)
      · refine z_push c_188_44 ?_
        refine z_ret c_188_45 rfl ?_
        refine q_i kk ?_
        unfold ltZ; rw [if_neg]; simp only [decide_eq_true_eq, decide_eq_false_iff_not] at *; omega

set_option maxHeartbeats 1000000 in
theorem tc_letter {d : Nat} {I : aFI} {L : aFL} {Q : aPo} {sh : Nat} {su : Option Nat} {D : Nat → Int → Int} {cd : Nat → Option (List Int)} {k v i : Int} (hwf : wfQ D cd) (hsh : sh = 8 ∨ sh = 22) (hW : cW I sh D cd) (rk : -2147483648 ≤ k ∧ k < 2147483648) (rv : -2147483648 ≤ v ∧ v < 2147483648) (ri : -2147483648 ≤ i ∧ i < 2147483648) (hd : 2 ≤ d) (kk : Q (some (.int (iI (ltZ D k v i)))) I L (aR sh su)) : aWp none d 81 0 [.ref 0, .int (iI k), .int (iI v), .int (iI i)] [] I L (aR sh su) Q := by
  have hcn0 := hwf.1.n
  refine w_iload c_81_0 rfl ?_
  refine z_if_lt c_81_1 (by first | exact aRg_of _ | (unfold aRg; omega)) (fun h1_ => ?_) (fun h1_ => ?_)
  · refine z_push c_81_36 ?_
    refine z_ret c_81_37 rfl ?_
    refine q_i kk ?_
    unfold ltZ; rw [if_neg]; omega
  · refine w_iload c_81_4 rfl ?_
    refine z_push c_81_5 ?_
    refine z_ic_ge c_81_6 (by first | exact aRg_of _ | (unfold aRg; omega)) (by first | exact aRg_of _ | (unfold aRg; omega)) (fun h2_ => ?_) (fun h2_ => ?_)
    · refine z_push c_81_36 ?_
      refine z_ret c_81_37 rfl ?_
      refine q_i kk ?_
      unfold ltZ; rw [if_neg]; omega
    · refine w_iload c_81_9 rfl ?_
      refine z_if_lt c_81_10 (by first | exact aRg_of _ | (unfold aRg; omega)) (fun h3_ => ?_) (fun h3_ => ?_)
      · refine z_push c_81_36 ?_
        refine z_ret c_81_37 rfl ?_
        refine q_i kk ?_
        unfold ltZ; rw [if_neg]; omega
      · refine w_iload c_81_13 rfl ?_
        refine w_aload c_81_14 rfl ?_
        refine w_getR c_81_15 sp_0 (by decide) rfl pr_0_3 ?_
        refine w_getR c_81_18 (sps_0 hsh) (by decide) rfl (prs_4 hsh) ?_
        refine w_iload c_81_21 rfl ?_
        refine z_iaload c_81_22 (sps_1 hsh) (by omega) (by first | decide | omega) (hW.1.a 1 (by decide) (by omega)) ?_
        have hc0 : 0 ≤ D 1 k ∧ D 1 k ≤ 8 := by
          rcases (show k = 0 ∨ k = 1 ∨ k = 2 by omega) with rfl | rfl | rfl <;> omega
        refine z_ic_ge c_81_23 (by first | exact aRg_of _ | (unfold aRg; omega)) (by first | exact aRg_of _ | (unfold aRg; omega)) (fun h4_ => ?_) (fun h4_ => ?_)
        · refine z_push c_81_36 ?_
          refine z_ret c_81_37 rfl ?_
          refine q_i kk ?_
          unfold ltZ; rw [if_neg]; omega
        · refine w_iload c_81_26 rfl ?_
          refine z_if_lt c_81_27 (by first | exact aRg_of _ | (unfold aRg; omega)) (fun h5_ => ?_) (fun h5_ => ?_)
          · refine z_push c_81_36 ?_
            refine z_ret c_81_37 rfl ?_
            refine q_i kk ?_
            unfold ltZ; rw [if_neg]; omega
          · refine w_iload c_81_30 rfl ?_
            refine z_push c_81_31 ?_
            refine z_ic_lt c_81_33 (by first | exact aRg_of _ | (unfold aRg; omega)) (by first | exact aRg_of _ | (unfold aRg; omega)) (fun h6_ => ?_) (fun h6_ => ?_)
            · refine w_aload c_81_38 rfl ?_
              refine w_getR c_81_39 sp_0 (by decide) rfl pr_0_3 ?_
              refine w_getR c_81_42 (sps_0 hsh) (by decide) rfl (prs_5 hsh) ?_
              refine w_iload c_81_45 rfl ?_
              refine w_iload c_81_46 rfl ?_
              refine wc_65 c_81_47 (Nat.le_of_ble_eq_true rfl) (by omega) ?_
              refine tc_rowOf (by omega) (by rcases (show k = 0 ∨ k = 1 ∨ k = 2 by omega) with rfl | rfl | rfl <;> omega) ?_
              have hrb := rowB_rg (c := k) (by omega)
              have hlt : ltZ D k v i = D 2 ((rowB k + v) * 6 + i) := if_pos (by omega)
              have hrv : rowB k + v < 20 := by rcases (show k = 0 ∨ k = 1 ∨ k = 2 by omega) with rfl | rfl | rfl <;> simp only [rowB_0, rowB_1, rowB_2] <;> omega
              refine r_i ?_
              refine z_push c_81_50 ?_
              refine z_imul c_81_52 ?_
              refine w_iload c_81_53 rfl ?_
              refine z_iadd c_81_54 ?_
              refine z_iaload c_81_55 (sps_2 hsh) (by omega) (by first | decide | omega) (hW.1.a 2 (by decide) (by omega)) ?_
              refine z_ret c_81_56 rfl ?_
              exact q_i kk hlt
            · refine z_push c_81_36 ?_
              refine z_ret c_81_37 rfl ?_
              refine q_i kk ?_
              unfold ltZ; rw [if_neg]; omega

set_option maxHeartbeats 2000000 in
theorem tc_len_12 {d : Nat} {I : aFI} {L : aFL} {Q : aPo} {sh : Nat} {su : Option Nat} {D : Nat → Int → Int} {cd : Nat → Option (List Int)} {e : Int} (hwf : wfQ D cd) (hsh : sh = 8 ∨ sh = 22) (hW : cW I sh D cd) (hDr : rgD D) (he : 0 ≤ e ∧ e < D 1 2) (kk : Q (some (.int (iI (zlf (nrw D (12 + e)) : Int)))) I L (aR sh su)) : ∀ (fz : Nat) (i : Int), (6 - i).toNat < fz → (0 ≤ i) → (i ≤ zlf (nrw D (12 + e))) → aWp none d 69 12 [.ref sh, .int (iI 2), .int (iI e), .int (iI ((12 + e) * 6)), .int (iI i)] [] I L (aR sh su) Q := by
  intro fz
  induction fz with
  | zero => intro i h; omega
  | succ fz ih =>
    intro i hn2 h0 h1
    have hwz := (hwf.row he.1 he.2).z
    have hcn := hwf.1.n
    refine w_iload c_69_12 rfl ?_
    refine z_push c_69_14 ?_
    refine z_ic_ge c_69_16 (by first | exact aRg_of _ | (unfold aRg; omega)) (by first | exact aRg_of _ | (unfold aRg; omega)) (fun h1_ => ?_) (fun h1_ => ?_)
    · refine w_iload c_69_37 rfl ?_
      refine z_ret c_69_39 rfl ?_
      have hi : i = zlf (nrw D (12 + e)) := by
        first
        | omega
        | (by_cases hi : i = zlf (nrw D (12 + e))
           · exact hi
           · exfalso
             have := hwz.2.1 i h0 (by omega)
             have h9 : nrw D (12 + e) i = D 2 ((12 + e) * 6 + i) := rfl
             omega)
      rw [hi]; exact kk
    · refine w_aload c_69_19 rfl ?_
      refine w_getR c_69_20 (sps_0 hsh) (by decide) rfl (prs_5 hsh) ?_
      refine w_iload c_69_23 rfl ?_
      refine w_iload c_69_24 rfl ?_
      refine z_iadd c_69_26 ?_
      refine z_iaload c_69_27 (sps_2 hsh) (by omega) (by first | decide | omega) (hW.1.a 2 (by decide) (by omega)) ?_
      have hdr := hDr ((12 + e) * 6 + i)
      unfold aRg at hdr
      refine z_if_eq c_69_28 (by first | exact aRg_of _ | (unfold aRg; omega)) (fun h2_ => ?_) (fun h2_ => ?_)
      · refine w_iload c_69_37 rfl ?_
        refine z_ret c_69_39 rfl ?_
        have hi : i = zlf (nrw D (12 + e)) := by
          first
          | omega
          | (by_cases hi : i = zlf (nrw D (12 + e))
             · exact hi
             · exfalso
               have := hwz.2.1 i h0 (by omega)
               have h9 : nrw D (12 + e) i = D 2 ((12 + e) * 6 + i) := rfl
               omega)
        rw [hi]; exact kk
      · refine z_iinc c_69_31 rfl rfl ?_
        refine w_goto c_69_34 ?_
        refine ih (i + 1) (by omega) (by omega) ?_
        have hi : ¬ i = zlf (nrw D (12 + e)) := fun z => by
          have := hwz.2.2.1 i (by omega) (by omega)
          have h9 : nrw D (12 + e) i = D 2 ((12 + e) * 6 + i) := rfl
          omega
        omega

set_option maxHeartbeats 1000000 in
theorem tc_lengthOf {d : Nat} {I : aFI} {L : aFL} {Q : aPo} {sh : Nat} {su : Option Nat} {D : Nat → Int → Int} {cd : Nat → Option (List Int)} {e : Int} (hwf : wfQ D cd) (hsh : sh = 8 ∨ sh = 22) (hW : cW I sh D cd) (hDr : rgD D) (he : 0 ≤ e ∧ e < D 1 2) (hd : 1 ≤ d) (kk : Q (some (.int (iI (zlf (nrw D (12 + e)) : Int)))) I L (aR sh su)) : aWp none d 69 0 [.ref sh, .int (iI 2), .int (iI e), .null, .null] [] I L (aR sh su) Q := by
  have hcn := hwf.1.n
  refine w_iload c_69_0 rfl ?_
  refine w_iload c_69_1 rfl ?_
  refine wc_65 c_69_2 (Nat.le_of_ble_eq_true rfl) (by omega) ?_
  refine tc_rowOf (c := 2) (by decide) (by omega) ?_
  rw [show rowB 2 + e = 12 + e by rw [rowB_2]]
  refine r_i ?_
  refine z_push c_69_5 ?_
  refine z_imul c_69_7 ?_
  refine w_istore c_69_8 (Nat.le_of_ble_eq_true rfl) rfl ?_
  refine z_push c_69_9 ?_
  refine w_istore c_69_10 (Nat.le_of_ble_eq_true rfl) rfl ?_
  exact tc_len_12 hwf hsh hW hDr he kk _ 0 (Nat.lt_succ_self _) (by decide) (by omega)

set_option maxHeartbeats 2000000 in
theorem tc_al_37 {d : Nat} {I : aFI} {L : aFL} {Q : aPo} {sh : Nat} {su : Option Nat} {D : Nat → Int → Int} {cd : Nat → Option (List Int)} {e m o w6 o6 : Int} (hwf : wfQ D cd) (hsh : sh = 8 ∨ sh = 22) (hW : cW I sh D cd) (hDr : rgD D) (he : 0 ≤ e ∧ e < D 1 2) (hm : 1 ≤ m ∧ m ≤ 6) (hw6 : w6 = (12 + e) * 6) (ho6 : o6 = (12 + o) * 6) (ho : 0 ≤ o ∧ o < D 1 2) (kk : ∀ i : Int, 0 ≤ i ∧ i ≤ m → (i = m ↔ ∀ q : Int, 0 ≤ q → q < m → nrw D (12 + e) q = nrw D (12 + o) q) → aWp none d 70 71 [.ref sh, .int (iI e), .int (iI m), .int (iI w6), .int (iI o), .int (iI o6), .int (iI i)] [] I L (aR sh su) Q) : ∀ (fz : Nat) (i : Int), (m - i).toNat < fz → (0 ≤ i) → (i ≤ m) → (∀ q : Int, 0 ≤ q → q < i → nrw D (12 + e) q = nrw D (12 + o) q) → aWp none d 70 37 [.ref sh, .int (iI e), .int (iI m), .int (iI w6), .int (iI o), .int (iI o6), .int (iI i)] [] I L (aR sh su) Q := by
  intro fz
  induction fz with
  | zero => intro i h; omega
  | succ fz ih =>
    intro i hn2 h0 h1 hp
    have hcn := hwf.1.n
    refine w_iload c_70_37 rfl ?_
    refine w_iload c_70_39 rfl ?_
    refine z_ic_ge c_70_40 (by first | exact aRg_of _ | (unfold aRg; omega)) (by first | exact aRg_of _ | (unfold aRg; omega)) (fun h1_ => ?_) (fun h1_ => ?_)
    · refine kk i ⟨h0, h1⟩ ⟨fun z q a b => hp q a (by omega), fun _ => by omega⟩
    · refine w_aload c_70_43 rfl ?_
      refine w_getR c_70_44 (sps_0 hsh) (by decide) rfl (prs_5 hsh) ?_
      refine w_iload c_70_47 rfl ?_
      refine w_iload c_70_48 rfl ?_
      refine z_iadd c_70_50 ?_
      refine z_iaload c_70_51 (sps_2 hsh) (by omega) (by first | decide | omega) (hW.1.a 2 (by decide) (by omega)) ?_
      refine w_aload c_70_52 rfl ?_
      refine w_getR c_70_53 (sps_0 hsh) (by decide) rfl (prs_5 hsh) ?_
      refine w_iload c_70_56 rfl ?_
      refine w_iload c_70_58 rfl ?_
      refine z_iadd c_70_60 ?_
      refine z_iaload c_70_61 (sps_2 hsh) (by omega) (by first | decide | omega) (hW.1.a 2 (by decide) (by omega)) ?_
      have hda := hDr (w6 + i)
      have hdb := hDr (o6 + i)
      unfold aRg at hda hdb
      have e1 : nrw D (12 + e) i = D 2 (w6 + i) := by rw [hw6]
      have e2 : nrw D (12 + o) i = D 2 (o6 + i) := by rw [ho6]
      refine z_ic_ne c_70_62 (by first | exact aRg_of _ | (unfold aRg; omega)) (by first | exact aRg_of _ | (unfold aRg; omega)) (fun h2_ => ?_) (fun h2_ => ?_)
      · refine kk i ⟨h0, h1⟩ ⟨fun z => by omega, fun z => ?_⟩
        exfalso
        have := z i h0 (by omega)
        omega
      · refine z_iinc c_70_65 rfl rfl ?_
        refine w_goto c_70_68 ?_
        refine ih (i + 1) (by omega) (by omega) (by omega) (fun q a b => ?_)
        by_cases z : q = i
        · rw [z]; omega
        · exact hp q a (by omega)

set_option maxHeartbeats 2000000 in
theorem tc_al_12 {d : Nat} {I : aFI} {L : aFL} {Q : aPo} {sh : Nat} {su : Option Nat} {D : Nat → Int → Int} {cd : Nat → Option (List Int)} {e m w6 : Int} (hwf : wfQ D cd) (hsh : sh = 8 ∨ sh = 22) (hW : cW I sh D cd) (hDr : rgD D) (he : 0 ≤ e ∧ e < D 1 2) (hm : 1 ≤ m ∧ m ≤ 6) (hw6 : w6 = (12 + e) * 6) (hd : 1 ≤ d) (k1 : bgZ D e m → Q (some (.int (aBo false))) I L (aR sh su)) (k2 : ¬ bgZ D e m → Q (some (.int (aBo true))) I L (aR sh su)) : ∀ (fz : Nat) (o : Int) (v5 v6 : Value), (D 1 2 - o).toNat < fz → (0 ≤ o) → (o ≤ D 1 2) → (∀ q : Int, 0 ≤ q → q < o → ¬ bgS D e m q) → aWp none d 70 12 [.ref sh, .int (iI e), .int (iI m), .int (iI w6), .int (iI o), v5, v6] [] I L (aR sh su) Q := by
  intro fz
  induction fz with
  | zero => intro o v5 v6 h; omega
  | succ fz ih =>
    intro o v5 v6 hn2 h0 h1 hp
    have hcn := hwf.1.n
    refine w_iload c_70_12 rfl ?_
    refine w_aload c_70_14 rfl ?_
    refine w_getR c_70_15 (sps_0 hsh) (by decide) rfl (prs_4 hsh) ?_
    refine z_push c_70_18 ?_
    refine z_iaload c_70_19 (sps_1 hsh) (by omega) (by first | decide | omega) (hW.1.a 1 (j := 2) (by decide) (by decide)) ?_
    refine z_ic_ge c_70_20 (by first | exact aRg_of _ | (unfold aRg; omega)) (by first | exact aRg_of _ | (unfold aRg; omega)) (fun h1_ => ?_) (fun h1_ => ?_)
    · refine z_push c_70_91 ?_
      refine z_ret1 c_70_92 rfl ?_
      refine k2 (fun z => ?_)
      obtain ⟨q, a, b⟩ := z
      exact hp q a.1 (by omega) b
    · refine z_push c_70_23 ?_
      refine w_iload c_70_24 rfl ?_
      refine wc_65 c_70_26 (Nat.le_of_ble_eq_true rfl) (by omega) ?_
      refine tc_rowOf (c := 2) (by decide) (by omega) ?_
      rw [show rowB 2 + o = 12 + o by rw [rowB_2]]
      refine r_i ?_
      refine z_push c_70_29 ?_
      refine z_imul c_70_31 ?_
      refine w_istore c_70_32 (Nat.le_of_ble_eq_true rfl) rfl ?_
      refine z_push c_70_34 ?_
      refine w_istore c_70_35 (Nat.le_of_ble_eq_true rfl) rfl ?_
      refine tc_al_37 (o := o) hwf hsh hW hDr he hm hw6 rfl ⟨h0, by omega⟩ ?_ _ 0 (Nat.lt_succ_self _) (by decide) (by omega) (fun q a b => by omega)
      intro i hi hq
      refine w_iload c_70_71 rfl ?_
      refine w_iload c_70_73 rfl ?_
      refine z_ic_ne c_70_74 (by first | exact aRg_of _ | (unfold aRg; omega)) (by first | exact aRg_of _ | (unfold aRg; omega)) (fun h21_ => ?_) (fun h21_ => ?_)
      · refine z_iinc c_70_85 rfl rfl ?_
        refine w_goto c_70_88 ?_
        refine ih (o + 1) _ _ (by omega) (by omega) (by omega) (fun q a b => ?_)
        by_cases z : q = o
        · subst z; exact fun y => absurd (hq.mpr y.2) (by omega)
        · exact hp q a (by omega)
      · refine w_iload c_70_77 rfl ?_
        refine w_iload c_70_79 rfl ?_
        refine z_ic_eq c_70_80 (by first | exact aRg_of _ | (unfold aRg; omega)) (by first | exact aRg_of _ | (unfold aRg; omega)) (fun h22_ => ?_) (fun h22_ => ?_)
        · refine z_iinc c_70_85 rfl rfl ?_
          refine w_goto c_70_88 ?_
          refine ih (o + 1) _ _ (by omega) (by omega) (by omega) (fun q a b => ?_)
          by_cases z : q = o
          · subst z; exact fun y => absurd (show _ from y.1) (by omega)
          · exact hp q a (by omega)
        · refine z_push c_70_83 ?_
          refine z_ret0 c_70_84 rfl ?_
          exact k1 ⟨o, ⟨h0, by omega⟩, by omega, hq.mp (by omega)⟩

set_option maxHeartbeats 1000000 in
theorem tc_isAlone {d : Nat} {I : aFI} {L : aFL} {Q : aPo} {sh : Nat} {su : Option Nat} {D : Nat → Int → Int} {cd : Nat → Option (List Int)} {e m : Int} (hwf : wfQ D cd) (hsh : sh = 8 ∨ sh = 22) (hW : cW I sh D cd) (hDr : rgD D) (he : 0 ≤ e ∧ e < D 1 2) (hm : 1 ≤ m ∧ m ≤ 6) (hd : 1 ≤ d) (k1 : bgZ D e m → Q (some (.int (aBo false))) I L (aR sh su)) (k2 : ¬ bgZ D e m → Q (some (.int (aBo true))) I L (aR sh su)) : aWp none d 70 0 [.ref sh, .int (iI e), .int (iI m), .null, .null, .null, .null] [] I L (aR sh su) Q := by
  have hcn := hwf.1.n
  refine z_push c_70_0 ?_
  refine w_iload c_70_1 rfl ?_
  refine wc_65 c_70_2 (Nat.le_of_ble_eq_true rfl) (by omega) ?_
  refine tc_rowOf (c := 2) (by decide) (by omega) ?_
  rw [show rowB 2 + e = 12 + e by rw [rowB_2]]
  refine r_i ?_
  refine z_push c_70_5 ?_
  refine z_imul c_70_7 ?_
  refine w_istore c_70_8 (Nat.le_of_ble_eq_true rfl) rfl ?_
  refine z_push c_70_9 ?_
  refine w_istore c_70_10 (Nat.le_of_ble_eq_true rfl) rfl ?_
  exact tc_al_12 hwf hsh hW hDr he hm rfl hd k1 k2 _ 0 _ _ (Nat.lt_succ_self _) (by decide) (by omega) (fun q a b => by omega)

set_option maxHeartbeats 2000000 in
theorem tc_br_22 {d : Nat} {I : aFI} {L : aFL} {Q : aPo} {sh : Nat} {su : Option Nat} {D : Nat → Int → Int} {cd : Nat → Option (List Int)} {e : Int} (hwf : wfQ D cd) (hsh : sh = 8 ∨ sh = 22) (hW : cW I sh D cd) (hDr : rgD D) (he : 0 ≤ e ∧ e < D 1 2) (hd : 2 ≤ d) : ∀ (fz : Nat) (m : Int), (6 - m).toNat + 1 < fz → (1 ≤ m) → (m ≤ zlf (nrw D (12 + e))) → (Q (some (.int (iI (brL D e (8 - m.toNat) m)))) I L (aR sh su)) → aWp none d 96 22 [.ref 0, .int (iI e), .int (iI (zlf (nrw D (12 + e)) : Int)), .int (iI m)] [] I L (aR sh su) Q := by
  intro fz
  induction fz with
  | zero => intro m h; omega
  | succ fz ih =>
    intro m hn2 h0 h1 kk
    have hwz := (hwf.row he.1 he.2).z
    refine w_iload c_96_22 rfl ?_
    refine w_iload c_96_23 rfl ?_
    refine z_ic_ge c_96_24 (by first | exact aRg_of _ | (unfold aRg; omega)) (by first | exact aRg_of _ | (unfold aRg; omega)) (fun h1_ => ?_) (fun h1_ => ?_)
    · refine w_iload c_96_47 rfl ?_
      refine z_ret c_96_48 rfl ?_
      first
      | (rw [brL_f (fun y => z y.2)] at kk; exact kk)
      | (rw [brL_f (fun y => by omega)] at kk; exact q_i kk (by omega))
    · refine w_aload c_96_27 rfl ?_
      refine w_getR c_96_28 sp_0 (by decide) rfl pr_0_3 ?_
      refine w_iload c_96_31 rfl ?_
      refine w_iload c_96_32 rfl ?_
      refine wc_70 c_96_33 (sps_0 hsh) (Nat.le_of_ble_eq_true rfl) (by omega) ?_
      refine tc_isAlone hwf hsh hW hDr he (by omega) (by omega) (fun z => ?_) (fun z => ?_)
      · refine r_i ?_
        refine b_if_eq c_96_36 (fun _ => ?_) (fun h => Bool.noConfusion h)
        refine z_iinc c_96_41 rfl rfl ?_
        refine w_goto c_96_44 ?_
        rw [show 8 - m.toNat = (8 - (m + 1).toNat) + 1 by omega, brL_t ⟨by omega, z⟩] at kk
        exact ih (m + 1) (by omega) (by omega) (by omega) kk
      · refine r_i ?_
        refine b_if_eq c_96_36 (fun h => Bool.noConfusion h) (fun _ => ?_)
        refine w_iload c_96_39 rfl ?_
        refine z_ret c_96_40 rfl ?_
        first
        | (rw [brL_f (fun y => z y.2)] at kk; exact kk)
        | (rw [brL_f (fun y => by omega)] at kk; exact q_i kk (by omega))

set_option maxHeartbeats 1000000 in
theorem tc_brief {d : Nat} {I : aFI} {L : aFL} {Q : aPo} {sh : Nat} {su : Option Nat} {D : Nat → Int → Int} {cd : Nat → Option (List Int)} {e : Int} (hwf : wfQ D cd) (hsh : sh = 8 ∨ sh = 22) (hW : cW I sh D cd) (hDr : rgD D) (re : -2147483648 ≤ e ∧ e < 2147483648) (hd : 3 ≤ d) (kk : Q (some (.int (iI (brZ D e)))) I L (aR sh su)) : aWp none d 96 0 [.ref 0, .int (iI e), .null, .null] [] I L (aR sh su) Q := by
  refine w_aload c_96_0 rfl ?_
  refine w_iload c_96_1 rfl ?_
  refine wc_112 c_96_2 sp_0 (Nat.le_of_ble_eq_true rfl) (by omega) ?_
  refine tc_isDeed hsh hwf.1 hW (by omega) ?_
  refine r_i ?_
  refine b_if_ne c_96_5 (fun h1_ => ?_) (fun h1_ => ?_)
  · refine w_aload c_96_10 rfl ?_
    refine w_getR c_96_11 sp_0 (by decide) rfl pr_0_3 ?_
    refine z_push c_96_14 ?_
    refine w_iload c_96_15 rfl ?_
    refine wc_69 c_96_16 (sps_0 hsh) (Nat.le_of_ble_eq_true rfl) (by omega) ?_
    have he := of_decide_eq_true h1_
    refine tc_lengthOf hwf hsh hW hDr he (by omega) ?_
    refine r_i ?_
    refine w_istore c_96_19 (Nat.le_of_ble_eq_true rfl) rfl ?_
    refine z_push c_96_20 ?_
    refine w_istore c_96_21 (Nat.le_of_ble_eq_true rfl) rfl ?_
    unfold brZ at kk; rw [if_pos he] at kk
    exact tc_br_22 hwf hsh hW hDr he (by omega) _ 1 (Nat.lt_succ_self _) (by decide) (by have := (hwf.row he.1 he.2).z.1; omega) kk
  · refine z_push c_96_8 ?_
    refine z_ret c_96_9 rfl ?_
    have he := of_decide_eq_false h1_
    unfold brZ at kk; rw [if_neg he] at kk
    exact kk

