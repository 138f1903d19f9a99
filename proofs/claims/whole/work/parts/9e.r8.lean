/-! the reference: the names being told (p9e.py) -/
/-- the first of a row that is x, from i on; or -1 -/
def nxI (N : Int → Int) (x : Int) (i : Int) : Nat → Int
  | 0 => -1
  | k + 1 => if N i = x then i else nxI N x (i + 1) k
/-- the names being told: how many of each sort, and which -/
def tN (I : aFI) (L : aFL) (c : Nat → Int) (N : Nat → Int → Int) : Prop := ∀ k : Nat, k < 3 → I 192 k = iI (c k) ∧ (0 ≤ c k ∧ c k ≤ 8) ∧ ∀ i : Int, 0 ≤ i → i < c k → L 193 (8 * k + i).toNat = lI (N k i) ∧ (0 ≤ N k i ∧ N k i < 1000000000)
section TN
variable {I : aFI} {L : aFL} {c : Nat → Int} {N : Nat → Int → Int} {k : Nat} {e i : Int}
theorem tN.n (h : tN I L c N) (hk : k < 3) (he : e = k) : I 192 e.toNat = iI (c k) := by subst he; exact (h k hk).1
theorem tN.nm (h : tN I L c N) (hk : k < 3) (h0 : 0 ≤ i) (h1 : i < c k) (he : e = 8 * k + i) : L 193 e.toNat = lI (N k i) := by subst he; exact ((h k hk).2.2 i h0 h1).1
end TN
set_option maxHeartbeats 2000000 in
theorem t_nameOf_1 {d : Nat} {I : aFI} {L : aFL} {Q : aPo} {sh : Nat} {su : Option Nat} {c : Nat → Int} {N : Nat → Int → Int} {k : Nat} {x : Int} (hN : tN I L c N) (hk : k < 3) (hx : 0 ≤ x ∧ x < 1000000000) : ∀ (fz : Nat) (i : Int), (c k - i).toNat < fz → (0 ≤ i) → (i ≤ c k) → (Q (some (.int (iI (nxI (N k) x i (c k - i).toNat)))) I L (aR sh su)) → aWp none d 147 3 [.ref 157, .int (iI (k : Int)), .long (lI x), .null, .int (iI i)] [] I L (aR sh su) Q := by
  intro fz
  induction fz with
  | zero => intro i h; omega
  | succ fz ih =>
    intro i hn2 h0 h1 kk
    have hc := (hN k hk).2.1
    refine w_iload c_147_3 rfl ?_
    refine w_aload c_147_5 rfl ?_
    refine w_getR c_147_6 sp_157 (by decide) rfl pr_157_44 ?_
    refine w_iload c_147_9 rfl ?_
    refine z_iaload c_147_10 sp_192 (by omega) (by first | decide | omega) (hN.n hk rfl) ?_
    refine z_ic_ge c_147_11 (by first | exact aRg_of _ | (unfold aRg; omega)) (by first | exact aRg_of _ | (unfold aRg; omega)) (fun h1_ => ?_) (fun h1_ => ?_)
    · refine z_push c_147_40 ?_
      refine z_ret c_147_41 rfl ?_
      rw [show (c k - i).toNat = 0 by omega] at kk
      exact kk
    · have hni := ((hN k hk).2.2 i h0 (by omega)).2
      have hst : nxI (N k) x i (c k - i).toNat = if N k i = x then i else nxI (N k) x (i + 1) (c k - (i + 1)).toNat := by
        rw [show (c k - i).toNat = (c k - (i + 1)).toNat + 1 by omega]; rfl
      refine w_aload c_147_14 rfl ?_
      refine w_getR c_147_15 sp_157 (by decide) rfl pr_157_45 ?_
      refine z_push c_147_18 ?_
      refine w_iload c_147_20 rfl ?_
      refine z_imul c_147_21 ?_
      refine w_iload c_147_22 rfl ?_
      refine z_iadd c_147_24 ?_
      refine z_laload c_147_25 sp_193 (by omega) (by first | decide | omega) (hN.nm hk h0 (by omega) rfl) ?_
      refine w_lload c_147_26 rfl ?_
      refine z_lc_ne c_147_27 c_147_28 (by first | exact aRl_of _ | (unfold aRl; omega)) (by first | exact aRl_of _ | (unfold aRl; omega)) (fun h2_ => ?_) (fun h2_ => ?_)
      · refine z_iinc c_147_34 rfl rfl ?_
        refine w_goto c_147_37 ?_
        rw [hst, if_neg (by omega)] at kk
        exact ih (i + 1) (by omega) (by omega) (by omega) kk
      · refine w_iload c_147_31 rfl ?_
        refine z_ret c_147_33 rfl ?_
        rw [hst, if_pos (by omega)] at kk
        exact kk

set_option maxHeartbeats 1000000 in
theorem t_nameOf {d : Nat} {I : aFI} {L : aFL} {Q : aPo} {sh : Nat} {su : Option Nat} {c : Nat → Int} {N : Nat → Int → Int} {k : Nat} {x : Int} (hN : tN I L c N) (hk : k < 3) (hx : 0 ≤ x ∧ x < 1000000000) (kk : Q (some (.int (iI (nxI (N k) x 0 (c k).toNat)))) I L (aR sh su)) : aWp none d 147 0 [.ref 157, .int (iI (k : Int)), .long (lI x), .null, .null] [] I L (aR sh su) Q := by
  refine z_push c_147_0 ?_
  refine w_istore c_147_1 (Nat.le_of_ble_eq_true rfl) rfl ?_
  have hc := (hN k hk).2.1
  exact t_nameOf_1 hN hk hx _ 0 (Nat.lt_succ_self _) (by omega) (by omega) (by rw [show c k - 0 = c k by omega]; exact kk)

set_option maxHeartbeats 2000000 in
theorem tf_newName_7 {d : Nat} {I : aFI} {L : aFL} {Q : aPo} {sh : Nat} {su : Option Nat} {a en b bp np nm : Int} {x : Int} (hb : 0 < b ∧ b < 10) (kk : Q (some (.long (lI x))) (oP I a en b bp np nm) L (aR sh su)) : ∀ (fz : Nat) (i : Int), (3 - i).toNat < fz → (0 ≤ i) → (i ≤ 3) → aWp none d 148 7 [.ref 157, .long (lI x), .null, .int (iI i)] [] (oP I a en b bp np nm) L (aR sh su) Q := by
  intro fz
  induction fz with
  | zero => intro i h; omega
  | succ fz ih =>
    intro i hn2 h0 h1
    refine w_iload c_148_7 rfl ?_
    refine z_push c_148_8 ?_
    refine z_ic_ge c_148_9 (by first | exact aRg_of _ | (unfold aRg; omega)) (by first | exact aRg_of _ | (unfold aRg; omega)) (fun h1_ => ?_) (fun h1_ => ?_)
    · refine w_lload c_148_44 rfl ?_
      refine z_retl c_148_45 ?_
      exact kk
    · refine w_aload c_148_12 rfl ?_
      refine z_getZ c_148_13 sp_157 (by decide) rfl rfl ?_
      refine z_if_ne c_148_16 (by first | exact aRg_of _ | (unfold aRg; omega)) (fun h2_ => ?_) (fun h2_ => ?_)
      rotate_left
      · exfalso; omega
      refine z_iinc c_148_38 rfl rfl ?_
      refine w_goto c_148_41 ?_
      exact ih (i + 1) (by omega) (by omega) (by omega)

/-- the name x is told already, among sorts i .. -/
def dupN (c : Nat → Int) (N : Nat → Int → Int) (x : Int) (i : Nat) : Prop := ∃ k : Nat, i ≤ k ∧ k < 3 ∧ ¬ nxI (N k) x 0 (c k).toNat = -1
theorem tN.oP {I : aFI} {L : aFL} {c : Nat → Int} {N : Nat → Int → Int} {a en b bp np nm : Int} (h : tN I L c N) : tN (oP I a en b bp np nm) L c N := fun k hk => ⟨(h k hk).1, (h k hk).2⟩
theorem nxI_rg {N : Int → Int} {x : Int} : ∀ (m : Nat) (i : Int), 0 ≤ i → -1 ≤ nxI N x i m ∧ nxI N x i m ≤ i + m
  | 0, i, h => by unfold nxI; omega
  | m + 1, i, h => by
    have := nxI_rg (N := N) (x := x) m (i + 1) (by omega)
    unfold nxI; split <;> omega
set_option maxHeartbeats 2000000 in
theorem t_newName_7 {d : Nat} {I : aFI} {L : aFL} {Q : aPo} {sh : Nat} {su : Option Nat} {a en bp np nm : Int} {c : Nat → Int} {N : Nat → Int → Int} {x : Int} (hN : tN I L c N) (hx : 0 ≤ x ∧ x < 1000000000) (hnm : aRg nm) (hd : 1 ≤ d) : ∀ (fz : Nat) (i : Int), (3 - i).toNat < fz → (0 ≤ i) → (i ≤ 3) → (dupN c N x i.toNat → Q (some (.long (lI x))) (oP I a en 3 nm np nm) L (aR sh su)) → (¬ dupN c N x i.toNat → Q (some (.long (lI x))) (oP I a en 0 bp np nm) L (aR sh su)) → aWp none d 148 7 [.ref 157, .long (lI x), .null, .int (iI i)] [] (oP I a en 0 bp np nm) L (aR sh su) Q := by
  intro fz
  induction fz with
  | zero => intro i h; omega
  | succ fz ih =>
    intro i hn2 h0 h1 k1 k2
    have hst : ∀ _ : i < 3, dupN c N x i.toNat ↔ (¬ nxI (N i.toNat) x 0 (c i.toNat).toNat = -1 ∨ dupN c N x (i + 1).toNat) := fun h3 => by
      constructor
      · rintro ⟨k, z1, z2, z3⟩
        by_cases z : k = i.toNat
        · exact Or.inl (z ▸ z3)
        · exact Or.inr ⟨k, by omega, z2, z3⟩
      · rintro (z | ⟨k, z1, z2, z3⟩)
        · exact ⟨i.toNat, Nat.le_refl _, by omega, z⟩
        · exact ⟨k, by omega, z2, z3⟩
    refine w_iload c_148_7 rfl ?_
    refine z_push c_148_8 ?_
    refine z_ic_ge c_148_9 (by first | exact aRg_of _ | (unfold aRg; omega)) (by first | exact aRg_of _ | (unfold aRg; omega)) (fun h1_ => ?_) (fun h1_ => ?_)
    · refine w_lload c_148_44 rfl ?_
      refine z_retl c_148_45 ?_
      exact k2 (fun z => by obtain ⟨k, z1, z2, z3⟩ := z; omega)
    · refine w_aload c_148_12 rfl ?_
      refine z_getZ c_148_13 sp_157 (by decide) rfl rfl ?_
      refine z_if_ne c_148_16 (by first | exact aRg_of _ | (unfold aRg; omega)) (fun h2_ => ?_) (fun h2_ => ?_)
      · exact absurd rfl h2_
      refine w_aload c_148_19 rfl ?_
      refine w_iload c_148_20 rfl ?_
      refine w_lload c_148_21 rfl ?_
      refine wc_147 c_148_22 sp_157 (Nat.le_of_ble_eq_true rfl) (by omega) ?_
      have hi3 : i.toNat < 3 := by omega
      have hc := (hN i.toNat hi3).2.1
      have hrg := nxI_rg (N := N i.toNat) (x := x) (c i.toNat).toNat 0 (by omega)
      have hii : i = ((i.toNat : Nat) : Int) := by omega
      rw [show iI i = iI ((i.toNat : Nat) : Int) from congrArg iI hii]
      refine t_nameOf (k := i.toNat) hN.oP hi3 hx ?_
      refine r_i ?_
      refine z_push c_148_25 ?_
      refine z_ic_eq c_148_26 (by first | exact aRg_of _ | (unfold aRg; omega)) (by first | exact aRg_of _ | (unfold aRg; omega)) (fun h3_ => ?_) (fun h3_ => ?_)
      · refine z_iinc c_148_38 rfl rfl ?_
        refine w_goto c_148_41 ?_
        rw [show ((i.toNat : Nat) : Int) = i by omega]
        have hno : ¬ ¬ nxI (N i.toNat) x 0 (c i.toNat).toNat = -1 := by omega
        exact ih (i + 1) (by omega) (by omega) (by omega) (fun z => k1 ((hst (by omega)).mpr (Or.inr z))) (fun z => k2 (fun y => ((hst (by omega)).mp y).elim (fun y => hno y) z))
      · refine w_aload c_148_29 rfl ?_
        refine z_push c_148_30 ?_
        refine w_aload c_148_31 rfl ?_
        refine z_getZ c_148_32 sp_157 (by decide) rfl rfl ?_
        refine wc_133 c_148_35 sp_157 (Nat.le_of_ble_eq_true rfl) (by omega) ?_
        refine t_fail (by unfold aRg; omega) (fun z => absurd rfl z) (fun _ => ?_)
        refine r_v ?_
        refine z_iinc c_148_38 rfl rfl ?_
        refine w_goto c_148_41 ?_
        rw [show ((i.toNat : Nat) : Int) = i by omega]
        exact tf_newName_7 (b := 3) (by decide) (k1 ((hst (by omega)).mpr (Or.inl (by omega)))) _ (i + 1) (Nat.lt_succ_self _) (by omega) (by omega)

set_option maxHeartbeats 1000000 in
theorem t_newName {d : Nat} {I : aFI} {L : aFL} {Q : aPo} {T : Int → Int} {n : Int} {sh : Nat} {su : Option Nat} {j : Nat} {a bp np nm : Int} {c : Nat → Int} {N : Nat → Int → Int} (hB : oB I T n) (hO : oW I) (hA : rA T n j a) (hN : tN I L c N) (hd : 5 ≤ d) (k1 : ¬ (332 ≤ tkK T n j ∧ tkK T n j ≤ 338) → Q (some (.long (lI 0))) (oP I (tkP T n j) (tkS T n j).2 1 (tkP T n j) np nm) L (aR sh su)) (k2 : (332 ≤ tkK T n j ∧ tkK T n j ≤ 338) → 6 < tkZ T n j → ∀ a2 en2 : Int, aF n a2 en2 → Q (some (.long (lI 0))) (oP I a2 en2 1 (tkP T n j + 6) np (tkP T n j)) L (aR sh su)) (k3 : (332 ≤ tkK T n j ∧ tkK T n j ≤ 338) → (1 ≤ tkZ T n j ∧ tkZ T n j ≤ 6) → dupN c N (nc T (tkP T n j) (tkZ T n j).toNat) 0 → ∀ a2 : Int, rA T n (j + 1) a2 → Q (some (.long (lI (nc T (tkP T n j) (tkZ T n j).toNat)))) (oP I a2 (tkS T n (j + 1)).2 3 (tkP T n j) np (tkP T n j)) L (aR sh su)) (k4 : (332 ≤ tkK T n j ∧ tkK T n j ≤ 338) → (1 ≤ tkZ T n j ∧ tkZ T n j ≤ 6) → ¬ dupN c N (nc T (tkP T n j) (tkZ T n j).toNat) 0 → ∀ a2 : Int, rA T n (j + 1) a2 → Q (some (.long (lI (nc T (tkP T n j) (tkZ T n j).toNat)))) (oT I T n (j + 1) a2 0 bp np (tkP T n j)) L (aR sh su)) : aWp none d 148 0 [.ref 157, .null, .null, .null] [] (oT I T n j a 0 bp np nm) L (aR sh su) Q := by
  have hn := hB.2.2.1
  have hpr := tkP_rg (T := T) (n := n) (j := j) hn.1
  refine w_aload c_148_0 rfl ?_
  refine wc_144 c_148_1 sp_157 (Nat.le_of_ble_eq_true rfl) (by omega) ?_
  refine tt_name hB hO (by omega) hA (fun z1 => ?_) (fun z1 z2 a2 en2 hA2 => ?_) (fun z1 z2 z3 a2 hA2 => ?_)
  · refine r_l ?_
    refine w_lstore c_148_4 (Nat.le_of_ble_eq_true rfl) rfl ?_
    refine z_push c_148_5 ?_
    refine w_istore c_148_6 (Nat.le_of_ble_eq_true rfl) rfl ?_
    exact tf_newName_7 (b := 1) (by decide) (k1 z1) _ 0 (Nat.lt_succ_self _) (by decide) (by decide)
  · refine r_l ?_
    refine w_lstore c_148_4 (Nat.le_of_ble_eq_true rfl) rfl ?_
    refine z_push c_148_5 ?_
    refine w_istore c_148_6 (Nat.le_of_ble_eq_true rfl) rfl ?_
    exact tf_newName_7 (b := 1) (by decide) (k2 z1 z2 a2 en2 hA2) _ 0 (Nat.lt_succ_self _) (by decide) (by decide)
  · refine r_l ?_
    refine w_lstore c_148_4 (Nat.le_of_ble_eq_true rfl) rfl ?_
    refine z_push c_148_5 ?_
    refine w_istore c_148_6 (Nat.le_of_ble_eq_true rfl) rfl ?_
    have hz6 : (tkZ T n j).toNat ≤ 6 := by omega
    have hx := nc_rg (T := T) (p := tkP T n j) (tkZ T n j).toNat hz6 (fun i h0 h1 => z3 i h0 (by omega))
    exact t_newName_7 hN ⟨hx.1, by omega⟩ (by unfold aRg; omega) (by omega) _ 0 (Nat.lt_succ_self _) (by decide) (by decide) (fun y => k3 z1 z2 y a2 hA2) (fun y => k4 z1 z2 y a2 hA2)

