/-! the reference: waiting signs of a test (p93.py) -/
/-- the nots on top closed: each is a code, and is open no more -/
def eN : List Int → List Int → Int → List Int × List Int × Int
  | [], O, op => ([], O, op)
  | u :: U, O, op => if u = 12 then eN U (u :: O) (op - 1) else (u :: U, O, op)
abbrev n25 (v : Int) : Bool := !decide (v = 25)
abbrev i10 (v : Int) : Bool := decide (v = 10)
abbrev iAO (v : Int) : Bool := decide (v = 10 ∨ v = 11)
abbrev wT (W : List Int) : Prop := ∀ v ∈ W, v = 10 ∨ v = 11 ∨ v = 12 ∨ v = 25
theorem eN_len : ∀ (U O : List Int) (op : Int), (eN U O op).1.length + (eN U O op).2.1.length = U.length + O.length ∧ (eN U O op).1.length ≤ U.length ∧ (eN U O op).2.2 = op - (U.length - (eN U O op).1.length)
  | [], O, op => ⟨rfl, Nat.le_refl _, by show op = _; simp [eN]⟩
  | u :: U, O, op => by
    have h := eN_len U (u :: O) (op - 1)
    unfold eN
    split
    · simp only [List.length_cons] at h ⊢; omega
    · refine ⟨rfl, Nat.le_refl _, ?_⟩; show op = op - (((u :: U).length : Int) - ((u :: U).length : Nat)); omega
theorem eN_mem : ∀ (U O : List Int) (op : Int) (v : Int), v ∈ (eN U O op).1 → v ∈ U
  | [], O, op, v, h => h
  | u :: U, O, op, v, h => by
    unfold eN at h
    split at h
    · exact List.mem_cons_of_mem _ (eN_mem U _ _ v h)
    · exact h
theorem wT.ok {W : List Int} (h : wT W) : wOK W := fun v hv => by have := h v hv; omega
theorem wT.su {W : List Int} (h : wT W) : ∀ v : Int, W.head? = some v → ¬ isSu v = true := fun v hv => by
  cases W with
  | nil => cases hv
  | cons u U =>
    have h1 := h u List.mem_cons_self
    have h2 : u = v := Option.some.inj hv
    subst h2
    intro z
    have := of_decide_eq_true z
    omega
theorem n25_top : ∀ (W O : List Int), (25 : Int) ∈ W → ∃ W2, (dW n25 W O).1 = 25 :: W2
  | [], O, h => absurd h List.not_mem_nil
  | u :: U, O, h => by
    unfold dW
    by_cases hu : u = 25
    · subst hu; exact ⟨U, rfl⟩
    · rw [if_pos (show n25 u = true by unfold n25; rw [decide_eq_false hu]; rfl)]
      exact n25_top U _ ((List.mem_cons.mp h).resolve_left (fun z => hu z.symm))
theorem stk.tail {I : aFI} {c : Nat} : ∀ (U V : List Int), stk I c (U ++ V) → stk I c V
  | [], V, h => h
  | _ :: U, V, h => stk.tail U V h.2
set_option maxHeartbeats 2000000 in
theorem t_qDropsNots_1 {d : Nat} {L : aFL} {Q : aPo} {sh : Nat} {su : Option Nat} {a en bp np nm : Int} {b0 : Int} (hd : 2 ≤ d) : ∀ (n : Nat) (U O : List Int) (op : Int) (I : aFI), U.length < n → (qS I U O op b0) → (wT U) → (U.length + O.length < 1650) → (∀ I2 : aFI, qS I2 (eN U O op).1 (eN U O op).2.1 (eN U O op).2.2 b0 → frG PQn I I2 → Q none (oP I2 a en 0 bp np nm) L (aR sh su)) → aWp none d 234 0 [.ref 157] [] (oP I a en 0 bp np nm) L (aR sh su) Q := by
  intro n
  induction n with
  | zero => intro U O op I h; omega
  | succ n ih =>
    intro U O op I hn2 hq hw hl k
    rcases U with _ | ⟨u, U⟩
    · refine w_aload c_234_0 rfl ?_
      refine z_getZ c_234_1 sp_157 (by decide) rfl rfl ?_
      refine z_if_ne c_234_4 (by first | exact aRg_of _ | (unfold aRg; omega)) (fun h1_ => ?_) (fun h1_ => ?_)
      · exact absurd rfl h1_
      refine w_aload c_234_7 rfl ?_
      refine z_push c_234_8 ?_
      refine wc_220 c_234_10 sp_157 (Nat.le_of_ble_eq_true rfl) (by omega) ?_
      refine t_qIsOn hq (wT.ok hw) (by decide) (by decide) ?_
      refine r_i ?_
      refine b_if_eq c_234_13 (fun h2_ => ?_) (fun h2_ => ?_)
      rotate_left
      · cases of_decide_eq_true h2_
      refine z_retv c_234_33 ?_
      exact k I hq frG.rf
    · have hll : ((u :: U).length : Nat) = U.length + 1 := rfl
      have hwu := hw u List.mem_cons_self
      have hwU : wT U := fun v hv => hw v (List.mem_cons_of_mem _ hv)
      refine w_aload c_234_0 rfl ?_
      refine z_getZ c_234_1 sp_157 (by decide) rfl rfl ?_
      refine z_if_ne c_234_4 (by first | exact aRg_of _ | (unfold aRg; omega)) (fun h1_ => ?_) (fun h1_ => ?_)
      · exact absurd rfl h1_
      refine w_aload c_234_7 rfl ?_
      refine z_push c_234_8 ?_
      refine wc_220 c_234_10 sp_157 (Nat.le_of_ble_eq_true rfl) (by omega) ?_
      refine t_qIsOn hq (wT.ok hw) (by omega) (by decide) ?_
      refine r_i ?_
      refine b_if_eq c_234_13 (fun h2_ => ?_) (fun h2_ => ?_)
      · refine z_retv c_234_33 ?_
        have hk := k
        unfold eN at hk
        rw [if_neg (fun z => of_decide_eq_false h2_ (congrArg some z))] at hk
        exact hk I hq frG.rf
      · refine w_aload c_234_16 rfl ?_
        refine w_dup c_234_17 rfl ?_
        refine z_getZ c_234_18 sp_157 (by decide) rfl hq.2.2.2.2.1 ?_
        refine z_push c_234_21 ?_
        refine z_isub c_234_22 ?_
        refine z_putZ c_234_23 sp_157 (by decide) rfl ?_
        have hu : u = 12 := Option.some.inj (of_decide_eq_true h2_)
        refine oq_k (frG.rf (P := PQn) (I := I)) (Or.inl ⟨rfl, Or.inr (Or.inr (Or.inl rfl))⟩) (by decide) (fun I0 h0 hF0 => ?_)
        have hq0 := hq.opn h0
        refine w_aload c_234_26 rfl ?_
        refine wc_221 c_234_27 sp_157 (Nat.le_of_ble_eq_true rfl) (by omega) ?_
        refine t_qDrops hq0 (by omega) (by omega) (by omega) (fun I1 hq1 hF1 => ?_)
        refine r_v ?_
        refine w_goto c_234_30 ?_
        exact ih U (u :: O) (op - 1) I1 (by omega) hq1 hwU (by simp only [List.length_cons] at hl ⊢; omega) (fun I2 h2 h3 => by
          have hk := k
          unfold eN at hk
          rw [if_pos hu] at hk
          exact hk I2 h2 ((hF0.tr hF1).tr h3))

set_option maxHeartbeats 1000000 in
theorem t_qDropsNots {d : Nat} {I : aFI} {L : aFL} {Q : aPo} {sh : Nat} {su : Option Nat} {a en bp np nm : Int} {U O : List Int} {op b0 : Int} (hq : qS I U O op b0) (hw : wT U) (hl : U.length + O.length < 1650) (hd : 2 ≤ d) (k : ∀ I2 : aFI, qS I2 (eN U O op).1 (eN U O op).2.1 (eN U O op).2.2 b0 → frG PQn I I2 → Q none (oP I2 a en 0 bp np nm) L (aR sh su)) : aWp none d 234 0 [.ref 157] [] (oP I a en 0 bp np nm) L (aR sh su) Q := by
  exact t_qDropsNots_1 hd _ U O op I (Nat.lt_succ_self _) hq hw hl k

set_option maxHeartbeats 1000000 in
theorem tf_qDropsNots {d : Nat} {I : aFI} {L : aFL} {Q : aPo} {sh : Nat} {su : Option Nat} {a en b bp np nm : Int} (hb : 0 < b ∧ b < 10) (k : Q none (oP I a en b bp np nm) L (aR sh su)) : aWp none d 234 0 [.ref 157] [] (oP I a en b bp np nm) L (aR sh su) Q := by
  refine w_aload c_234_0 rfl ?_
  refine z_getZ c_234_1 sp_157 (by decide) rfl rfl ?_
  refine z_if_ne c_234_4 (by first | exact aRg_of _ | (unfold aRg; omega)) (fun h1_ => ?_) (fun h1_ => ?_)
  rotate_left
  · exfalso; omega
  refine z_retv c_234_33 ?_
  exact k

theorem lx : ∀ (U : List Int), 0 < U.length → ∃ U1 u, U = U1 ++ [u]
  | [], h => absurd h (by decide)
  | [u], _ => ⟨[], u, rfl⟩
  | u :: v :: U, _ => by
    obtain ⟨U1, x, h⟩ := lx (v :: U) (by rw [List.length_cons]; omega)
    exact ⟨u :: U1, x, by rw [h]; rfl⟩
set_option maxHeartbeats 2000000 in
theorem t_qHasSquare_1 {d : Nat} {L : aFL} {Q : aPo} {sh : Nat} {su : Option Nat} {a en bp np nm : Int} {I : aFI} {b : Int} {W O : List Int} {op b0 : Int} (hq : qS I W O op b0) (hw : wT W) (hl : W.length < 1700) (k : Q (some (.int (aBo (decide ((25 : Int) ∈ W))))) (oP I a en b bp np nm) L (aR sh su)) : ∀ (n : Nat) (U V : List Int) (i : Int), U.length < n → (i = V.length) → (W = U ++ V) → (¬ (25 : Int) ∈ V) → aWp none d 233 2 [.ref 157, .int (iI i)] [] (oP I a en b bp np nm) L (aR sh su) Q := by
  intro n
  induction n with
  | zero => intro U V i h; omega
  | succ n ih =>
    intro U V i hn2 hi hW hV
    have hll : W.length = U.length + V.length := by rw [hW, List.length_append]
    refine w_iload c_233_2 rfl ?_
    refine w_aload c_233_3 rfl ?_
    refine z_getZ c_233_4 sp_157 (by decide) rfl hq.2.1 ?_
    refine z_ic_ge c_233_7 (by first | exact aRg_of _ | (unfold aRg; omega)) (by first | exact aRg_of _ | (unfold aRg; omega)) (fun h1_ => ?_) (fun h1_ => ?_)
    · refine z_push c_233_29 ?_
      refine z_ret0 c_233_30 rfl ?_
      exact q_b k (decide_eq_false (by
        have hU0 : U = [] := List.eq_nil_of_length_eq_zero (by omega)
        rw [hW, hU0]; exact hV))
    · obtain ⟨U1, u, rfl⟩ := lx U (by omega)
      have hs : stk I 233 (u :: V) := stk.tail U1 _ (by have := hq.1; rw [hW, List.append_assoc] at this; exact this)
      have hu0 := hw u (by rw [hW]; simp)
      have hU1 : (U1 ++ [u]).length = U1.length + 1 := by simp
      refine w_aload c_233_10 rfl ?_
      refine w_getR c_233_11 sp_157 (by decide) rfl pr_157_99 ?_
      refine w_iload c_233_14 rfl ?_
      refine z_iaload c_233_15 sp_233 (by omega) (by first | decide | omega) (hs.top hi) ?_
      refine z_push c_233_16 ?_
      refine z_ic_ne c_233_18 (by first | exact aRg_of _ | (unfold aRg; omega)) (by first | exact aRg_of _ | (unfold aRg; omega)) (fun h2_ => ?_) (fun h2_ => ?_)
      · refine z_iinc c_233_23 rfl rfl ?_
        refine w_goto c_233_26 ?_
        exact ih U1 (u :: V) (i + 1) (by omega) (by rw [List.length_cons]; omega) (by rw [hW]; simp) (fun z => (List.mem_cons.mp z).elim (fun z => by omega) hV)
      · refine z_push c_233_21 ?_
        refine z_ret1 c_233_22 rfl ?_
        have hu : u = 25 := by omega
        subst hu
        exact q_b k (decide_eq_true (by rw [hW]; simp))

set_option maxHeartbeats 1000000 in
theorem t_qHasSquare {d : Nat} {I : aFI} {L : aFL} {Q : aPo} {sh : Nat} {su : Option Nat} {a en b bp np nm : Int} {W O : List Int} {op b0 : Int} (hq : qS I W O op b0) (hw : wT W) (hl : W.length < 1700) (k : Q (some (.int (aBo (decide ((25 : Int) ∈ W))))) (oP I a en b bp np nm) L (aR sh su)) : aWp none d 233 0 [.ref 157, .null] [] (oP I a en b bp np nm) L (aR sh su) Q := by
  refine z_push c_233_0 ?_
  refine w_istore c_233_1 (Nat.le_of_ble_eq_true rfl) rfl ?_
  exact t_qHasSquare_1 hq hw hl k _ W [] 0 (Nat.lt_succ_self _) rfl (List.append_nil W).symm List.not_mem_nil

set_option maxHeartbeats 2000000 in
theorem t_qGoesOnTest_33 {d : Nat} {L : aFL} {Q : aPo} {sh : Nat} {su : Option Nat} {a en bp np nm : Int} {b0 op : Int} (hd : 2 ≤ d) : ∀ (n : Nat) (U O : List Int) (I : aFI), U.length < n → (qS I U O op b0) → (wT U) → (U.length + O.length < 1650) → ((25 : Int) ∈ U) → (∀ I2 : aFI, qS I2 (dW n25 U O).1 (dW n25 U O).2 op b0 → frG PQn I I2 → aWp none d 236 49 [.ref 157] [] (oP I2 a en 0 bp np nm) L (aR sh su) Q) → aWp none d 236 33 [.ref 157] [] (oP I a en 0 bp np nm) L (aR sh su) Q := by
  intro n
  induction n with
  | zero => intro U O I h; omega
  | succ n ih =>
    intro U O I hn2 hq hw hl h25 k
    rcases U with _ | ⟨u, U⟩
    · exact absurd h25 List.not_mem_nil
    · have hll : ((u :: U).length : Nat) = U.length + 1 := rfl
      have hwU : wT U := fun v hv => hw v (List.mem_cons_of_mem _ hv)
      refine w_aload c_236_33 rfl ?_
      refine z_push c_236_34 ?_
      refine wc_220 c_236_36 sp_157 (Nat.le_of_ble_eq_true rfl) (by omega) ?_
      refine t_qIsOn hq (wT.ok hw) (by omega) (by decide) ?_
      refine r_i ?_
      refine b_if_ne c_236_39 (fun h1_ => ?_) (fun h1_ => ?_)
      · have hk := k
        unfold dW at hk
        rw [if_neg (show ¬ n25 u = true by unfold n25; rw [decide_eq_true (Option.some.inj (of_decide_eq_true h1_))]; decide)] at hk
        exact hk I hq frG.rf
      · refine w_aload c_236_42 rfl ?_
        refine wc_221 c_236_43 sp_157 (Nat.le_of_ble_eq_true rfl) (by omega) ?_
        refine t_qDrops hq (by omega) (by omega) (by omega) (fun I1 hq1 hF1 => ?_)
        refine r_v ?_
        refine w_goto c_236_46 ?_
        have hk := k
        unfold dW at hk
        rw [if_pos (show n25 u = true by unfold n25; rw [decide_eq_false (fun z => of_decide_eq_false h1_ (congrArg some z))]; rfl)] at hk
        exact ih U (u :: O) I1 (by omega) hq1 hwU (by simp only [List.length_cons] at hl ⊢; omega) ((List.mem_cons.mp h25).resolve_left (fun z => of_decide_eq_false h1_ (congrArg some z.symm))) (fun I2 h2 h3 => hk I2 h2 (hF1.tr h3))

set_option maxHeartbeats 2000000 in
theorem t_qGoesOnTest_87 {d : Nat} {L : aFL} {Q : aPo} {sh : Nat} {su : Option Nat} {a en bp np nm : Int} {b0 op : Int} (hd : 2 ≤ d) : ∀ (n : Nat) (U O : List Int) (I : aFI), U.length < n → (qS I U O op b0) → (wT U) → (U.length + O.length < 1650) → (∀ I2 : aFI, qS I2 (dW i10 U O).1 (dW i10 U O).2 op b0 → frG PQn I I2 → aWp none d 236 103 [.ref 157] [] (oP I2 a en 0 bp np nm) L (aR sh su) Q) → aWp none d 236 87 [.ref 157] [] (oP I a en 0 bp np nm) L (aR sh su) Q := by
  intro n
  induction n with
  | zero => intro U O I h; omega
  | succ n ih =>
    intro U O I hn2 hq hw hl k
    rcases U with _ | ⟨u, U⟩
    · refine w_aload c_236_87 rfl ?_
      refine z_push c_236_88 ?_
      refine wc_220 c_236_90 sp_157 (Nat.le_of_ble_eq_true rfl) (by omega) ?_
      refine t_qIsOn hq (wT.ok hw) (by decide) (by decide) ?_
      refine r_i ?_
      refine b_if_eq c_236_93 (fun h1_ => ?_) (fun h1_ => ?_)
      rotate_left
      · cases of_decide_eq_true h1_
      exact k I hq frG.rf
    · have hll : ((u :: U).length : Nat) = U.length + 1 := rfl
      have hwU : wT U := fun v hv => hw v (List.mem_cons_of_mem _ hv)
      refine w_aload c_236_87 rfl ?_
      refine z_push c_236_88 ?_
      refine wc_220 c_236_90 sp_157 (Nat.le_of_ble_eq_true rfl) (by omega) ?_
      refine t_qIsOn hq (wT.ok hw) (by omega) (by decide) ?_
      refine r_i ?_
      refine b_if_eq c_236_93 (fun h1_ => ?_) (fun h1_ => ?_)
      · have hk := k
        unfold dW at hk
        rw [if_neg (fun z => (fun z : u = 10 => of_decide_eq_false h1_ (congrArg some z)) (of_decide_eq_true z))] at hk
        exact hk I hq frG.rf
      · refine w_aload c_236_96 rfl ?_
        refine wc_221 c_236_97 sp_157 (Nat.le_of_ble_eq_true rfl) (by omega) ?_
        refine t_qDrops hq (by omega) (by omega) (by omega) (fun I1 hq1 hF1 => ?_)
        refine r_v ?_
        refine w_goto c_236_100 ?_
        have hpos : u = 10 := Option.some.inj (of_decide_eq_true h1_)
        have hk := k
        unfold dW at hk
        rw [if_pos (decide_eq_true hpos)] at hk
        exact ih U (u :: O) I1 (by omega) hq1 hwU (by simp only [List.length_cons] at hl ⊢; omega) (fun I2 h2 h3 => hk I2 h2 (hF1.tr h3))

set_option maxHeartbeats 2000000 in
theorem t_qGoesOnTest_137 {d : Nat} {L : aFL} {Q : aPo} {sh : Nat} {su : Option Nat} {a en bp np nm : Int} {b0 op : Int} (hd : 2 ≤ d) : ∀ (n : Nat) (U O : List Int) (I : aFI), U.length < n → (qS I U O op b0) → (wT U) → (U.length + O.length < 1650) → (∀ I2 : aFI, qS I2 (dW iAO U O).1 (dW iAO U O).2 op b0 → frG PQn I I2 → aWp none d 236 162 [.ref 157] [] (oP I2 a en 0 bp np nm) L (aR sh su) Q) → aWp none d 236 137 [.ref 157] [] (oP I a en 0 bp np nm) L (aR sh su) Q := by
  intro n
  induction n with
  | zero => intro U O I h; omega
  | succ n ih =>
    intro U O I hn2 hq hw hl k
    rcases U with _ | ⟨u, U⟩
    · refine w_aload c_236_137 rfl ?_
      refine z_push c_236_138 ?_
      refine wc_220 c_236_140 sp_157 (Nat.le_of_ble_eq_true rfl) (by omega) ?_
      refine t_qIsOn hq (wT.ok hw) (by decide) (by decide) ?_
      refine r_i ?_
      refine b_if_ne c_236_143 (fun h1_ => ?_) (fun h1_ => ?_)
      · cases of_decide_eq_true h1_
      refine w_aload c_236_146 rfl ?_
      refine z_push c_236_147 ?_
      refine wc_220 c_236_149 sp_157 (Nat.le_of_ble_eq_true rfl) (by omega) ?_
      refine t_qIsOn hq (wT.ok hw) (by decide) (by decide) ?_
      refine r_i ?_
      refine b_if_eq c_236_152 (fun h2_ => ?_) (fun h2_ => ?_)
      rotate_left
      · cases of_decide_eq_true h2_
      exact k I hq frG.rf
    · have hll : ((u :: U).length : Nat) = U.length + 1 := rfl
      have hwU : wT U := fun v hv => hw v (List.mem_cons_of_mem _ hv)
      refine w_aload c_236_137 rfl ?_
      refine z_push c_236_138 ?_
      refine wc_220 c_236_140 sp_157 (Nat.le_of_ble_eq_true rfl) (by omega) ?_
      refine t_qIsOn hq (wT.ok hw) (by omega) (by decide) ?_
      refine r_i ?_
      refine b_if_ne c_236_143 (fun h1_ => ?_) (fun h1_ => ?_)
      · refine w_aload c_236_155 rfl ?_
        refine wc_221 c_236_156 sp_157 (Nat.le_of_ble_eq_true rfl) (by omega) ?_
        refine t_qDrops hq (by omega) (by omega) (by omega) (fun I1 hq1 hF1 => ?_)
        refine r_v ?_
        refine w_goto c_236_159 ?_
        have hpos : u = 10 ∨ u = 11 := by first | exact Or.inl (Option.some.inj (of_decide_eq_true h1_)) | exact Or.inr (Option.some.inj (of_decide_eq_true h2_))
        have hk := k
        unfold dW at hk
        rw [if_pos (decide_eq_true hpos)] at hk
        exact ih U (u :: O) I1 (by omega) hq1 hwU (by simp only [List.length_cons] at hl ⊢; omega) (fun I2 h2 h3 => hk I2 h2 (hF1.tr h3))
      · refine w_aload c_236_146 rfl ?_
        refine z_push c_236_147 ?_
        refine wc_220 c_236_149 sp_157 (Nat.le_of_ble_eq_true rfl) (by omega) ?_
        refine t_qIsOn hq (wT.ok hw) (by omega) (by decide) ?_
        refine r_i ?_
        refine b_if_eq c_236_152 (fun h2_ => ?_) (fun h2_ => ?_)
        · have hk := k
          unfold dW at hk
          rw [if_neg (fun z => (fun z : u = 10 ∨ u = 11 => z.elim (fun z => of_decide_eq_false h1_ (congrArg some z)) (fun z => of_decide_eq_false h2_ (congrArg some z))) (of_decide_eq_true z))] at hk
          exact hk I hq frG.rf
        · refine w_aload c_236_155 rfl ?_
          refine wc_221 c_236_156 sp_157 (Nat.le_of_ble_eq_true rfl) (by omega) ?_
          refine t_qDrops hq (by omega) (by omega) (by omega) (fun I1 hq1 hF1 => ?_)
          refine r_v ?_
          refine w_goto c_236_159 ?_
          have hpos : u = 10 ∨ u = 11 := by first | exact Or.inl (Option.some.inj (of_decide_eq_true h1_)) | exact Or.inr (Option.some.inj (of_decide_eq_true h2_))
          have hk := k
          unfold dW at hk
          rw [if_pos (decide_eq_true hpos)] at hk
          exact ih U (u :: O) I1 (by omega) hq1 hwU (by simp only [List.length_cons] at hl ⊢; omega) (fun I2 h2 h3 => hk I2 h2 (hF1.tr h3))

set_option maxHeartbeats 2000000 in
theorem t_qTest_110 {d : Nat} {L : aFL} {Q : aPo} {sh : Nat} {su : Option Nat} {a en bp np nm : Int} {b0 op : Int} {v1 v2 : Value} (hd : 2 ≤ d) : ∀ (n : Nat) (U O : List Int) (I : aFI), U.length < n → (qS I U O op b0) → (wT U) → (U.length + O.length < 1650) → (∀ I2 : aFI, qS I2 [] (dW (fun _ => true) U O).2 op b0 → frG PQn I I2 → Q none (oP I2 a en 0 bp np nm) L (aR sh su)) → aWp none d 235 110 [.ref 157, v1, v2] [] (oP I a en 0 bp np nm) L (aR sh su) Q := by
  intro n
  induction n with
  | zero => intro U O I h; omega
  | succ n ih =>
    intro U O I hn2 hq hw hl k
    rcases U with _ | ⟨u, U⟩
    · refine w_aload c_235_110 rfl ?_
      refine z_getZ c_235_111 sp_157 (by decide) rfl rfl ?_
      refine z_if_ne c_235_114 (by first | exact aRg_of _ | (unfold aRg; omega)) (fun h1_ => ?_) (fun h1_ => ?_)
      · exact absurd rfl h1_
      refine w_aload c_235_117 rfl ?_
      refine z_getZ c_235_118 sp_157 (by decide) rfl hq.2.1 ?_
      refine z_if_le c_235_121 (by first | exact aRg_of _ | (unfold aRg; omega)) (fun h2_ => ?_) (fun h2_ => ?_)
      rotate_left
      · exfalso; exact absurd h2_ (by decide)
      refine z_retv c_235_131 ?_
      exact k I hq frG.rf
    · have hll : ((u :: U).length : Nat) = U.length + 1 := rfl
      have hwU : wT U := fun v hv => hw v (List.mem_cons_of_mem _ hv)
      refine w_aload c_235_110 rfl ?_
      refine z_getZ c_235_111 sp_157 (by decide) rfl rfl ?_
      refine z_if_ne c_235_114 (by first | exact aRg_of _ | (unfold aRg; omega)) (fun h1_ => ?_) (fun h1_ => ?_)
      · exact absurd rfl h1_
      refine w_aload c_235_117 rfl ?_
      refine z_getZ c_235_118 sp_157 (by decide) rfl hq.2.1 ?_
      refine z_if_le c_235_121 (by first | exact aRg_of _ | (unfold aRg; omega)) (fun h2_ => ?_) (fun h2_ => ?_)
      · exfalso; omega
      refine w_aload c_235_124 rfl ?_
      refine wc_221 c_235_125 sp_157 (Nat.le_of_ble_eq_true rfl) (by omega) ?_
      refine t_qDrops hq (by omega) (by omega) (by omega) (fun I1 hq1 hF1 => ?_)
      refine r_v ?_
      refine w_goto c_235_128 ?_
      have hk := k
      unfold dW at hk
      rw [if_pos rfl] at hk
      exact ih U (u :: O) I1 (by omega) hq1 hwU (by simp only [List.length_cons] at hl ⊢; omega) (fun I2 h2 h3 => hk I2 h2 (hF1.tr h3))

