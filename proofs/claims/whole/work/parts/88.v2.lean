/-! the reference: waiting signs dropped; the words of parts (p88.py) -/
set_option maxHeartbeats 2000000 in
theorem t_qDropsToBracket_1 {d : Nat} {L : aFL} {Q : aPo} {sh : Nat} {su : Option Nat} {a en b bp np nm : Int} {B : List Int} {op : Int} (hd : 2 ≤ d) : ∀ (n : Nat) (U O : List Int) (I : aFI), U.length < n → (qS I (U ++ B) O op B.length) → (wOK (U ++ B)) → ((U ++ B).length + O.length < 1650) → (∀ I2 : aFI, qS I2 ((dW nBr U O).1 ++ B) (dW nBr U O).2 op B.length → frG PQn I I2 → Q none (oP I2 a en b bp np nm) L (aR sh su)) → aWp none d 224 0 [.ref 157] [] (oP I a en b bp np nm) L (aR sh su) Q := by
  intro n
  induction n with
  | zero => intro U O I h; omega
  | succ n ih =>
    intro U O I hn2 hq hw hl k
    rcases U with _ | ⟨u, U⟩
    · have hll : ((([] : List Int) ++ B).length : Int) = B.length := rfl
      refine w_aload c_224_0 rfl ?_
      refine z_getZ c_224_1 sp_157 (by decide) rfl hq.2.1 ?_
      refine w_aload c_224_4 rfl ?_
      refine z_getZ c_224_5 sp_157 (by decide) rfl hq.2.2.2.2.2 ?_
      refine z_ic_le c_224_8 (by first | exact aRg_of _ | (unfold aRg; omega)) (by first | exact aRg_of _ | (unfold aRg; omega)) (fun h1_ => ?_) (fun h1_ => ?_)
      rotate_left
      · exfalso; omega
      refine z_retv c_224_35 ?_
      exact k I hq frG.rf
    · have hs2 : qS I (u :: (U ++ B)) O op B.length := hq
      have hll : (((u :: U) ++ B).length : Int) = U.length + B.length + 1 := by simp only [List.length_append, List.length_cons]; omega
      simp only [List.length_cons] at hn2
      have hl2 : U.length + B.length + 1 + O.length < 1650 := by simp only [List.length_append, List.length_cons] at hl; omega
      have hu := hw u List.mem_cons_self
      refine w_aload c_224_0 rfl ?_
      refine z_getZ c_224_1 sp_157 (by decide) rfl hq.2.1 ?_
      refine w_aload c_224_4 rfl ?_
      refine z_getZ c_224_5 sp_157 (by decide) rfl hq.2.2.2.2.2 ?_
      refine z_ic_le c_224_8 (by first | exact aRg_of _ | (unfold aRg; omega)) (by first | exact aRg_of _ | (unfold aRg; omega)) (fun h1_ => ?_) (fun h1_ => ?_)
      · exfalso; omega
      refine w_aload c_224_11 rfl ?_
      refine w_getR c_224_12 sp_157 (by decide) rfl pr_157_99 ?_
      refine w_aload c_224_15 rfl ?_
      refine z_getZ c_224_16 sp_157 (by decide) rfl hq.2.1 ?_
      refine z_push c_224_19 ?_
      refine z_isub c_224_20 ?_
      refine z_iaload c_224_21 sp_233 (by omega) (by first | decide | omega) (hs2.1.top (by simp only [List.length_append, List.length_cons]; omega)) ?_
      refine wc_222 c_224_22 (Nat.le_of_ble_eq_true rfl) (by omega) ?_
      refine t_qIsBracket hu ?_
      refine r_i ?_
      refine b_if_ne c_224_25 (fun h2_ => ?_) (fun h2_ => ?_)
      · refine z_retv c_224_35 ?_
        have hk := k
        unfold dW at hk
        rw [if_neg (show ¬ nBr u = true by unfold nBr; rw [show isBr u = true by assumption]; decide)] at hk
        exact hk I hq frG.rf
      · refine w_aload c_224_28 rfl ?_
        refine wc_221 c_224_29 sp_157 (Nat.le_of_ble_eq_true rfl) (by omega) ?_
        refine t_qDrops hs2 (by rw [List.length_append]; omega) (by omega) (by omega) (fun I1 hq1 hF1 => ?_)
        refine r_v ?_
        refine w_goto c_224_32 ?_
        have hk := k
        unfold dW at hk
        rw [if_pos (show nBr u = true by unfold nBr; rw [show isBr u = false by assumption]; rfl)] at hk
        exact ih U (u :: O) I1 (by omega) hq1 (fun v hv => hw v (List.mem_cons_of_mem _ hv)) (by simp only [List.length_append, List.length_cons] at hl ⊢; omega) (fun I2 h2 h3 => hk I2 h2 (hF1.tr h3))

set_option maxHeartbeats 1000000 in
theorem t_qDropsToBracket {d : Nat} {I : aFI} {L : aFL} {Q : aPo} {sh : Nat} {su : Option Nat} {a en b bp np nm : Int} {U B O : List Int} {op : Int} (hq : qS I (U ++ B) O op B.length) (hw : wOK (U ++ B)) (hl : (U ++ B).length + O.length < 1650) (hd : 2 ≤ d) (k : ∀ I2 : aFI, qS I2 ((dW nBr U O).1 ++ B) (dW nBr U O).2 op B.length → frG PQn I I2 → Q none (oP I2 a en b bp np nm) L (aR sh su)) : aWp none d 224 0 [.ref 157] [] (oP I a en b bp np nm) L (aR sh su) Q := by
  exact t_qDropsToBracket_1 hd _ U O I (Nat.lt_succ_self _) hq hw hl k

set_option maxHeartbeats 2000000 in
theorem t_qEndsPart_1 {d : Nat} {L : aFL} {Q : aPo} {sh : Nat} {su : Option Nat} {a en bp np nm : Int} {B : List Int} (hd : 2 ≤ d) : ∀ (n : Nat) (U O : List Int) (op : Int) (I : aFI), U.length < n → (qS I (U ++ B) O op B.length) → (wOK (U ++ B)) → ((U ++ B).length + O.length < 1650) → (∀ I2 : aFI, qS I2 ((eP U O op).1 ++ B) (eP U O op).2.1 (eP U O op).2.2 B.length → frG PQn I I2 → Q none (oP I2 a en 0 bp np nm) L (aR sh su)) → aWp none d 228 0 [.ref 157] [] (oP I a en 0 bp np nm) L (aR sh su) Q := by
  intro n
  induction n with
  | zero => intro U O op I h; omega
  | succ n ih =>
    intro U O op I hn2 hq hw hl k
    rcases U with _ | ⟨u, U⟩
    · have hll : ((([] : List Int) ++ B).length : Int) = B.length := rfl
      refine w_aload c_228_0 rfl ?_
      refine z_getZ c_228_1 sp_157 (by decide) rfl rfl ?_
      refine z_if_ne c_228_4 (by first | exact aRg_of _ | (unfold aRg; omega)) (fun h1_ => ?_) (fun h1_ => ?_)
      · exact absurd rfl h1_
      refine w_aload c_228_7 rfl ?_
      refine z_getZ c_228_8 sp_157 (by decide) rfl hq.2.1 ?_
      refine w_aload c_228_11 rfl ?_
      refine z_getZ c_228_12 sp_157 (by decide) rfl hq.2.2.2.2.2 ?_
      refine z_ic_le c_228_15 (by first | exact aRg_of _ | (unfold aRg; omega)) (by first | exact aRg_of _ | (unfold aRg; omega)) (fun h2_ => ?_) (fun h2_ => ?_)
      rotate_left
      · exfalso; omega
      refine z_retv c_228_51 ?_
      exact k I hq frG.rf
    · have hs2 : qS I (u :: (U ++ B)) O op B.length := hq
      have hll : (((u :: U) ++ B).length : Int) = U.length + B.length + 1 := by simp only [List.length_append, List.length_cons]; omega
      simp only [List.length_cons] at hn2
      have hl2 : U.length + B.length + 1 + O.length < 1650 := by simp only [List.length_append, List.length_cons] at hl; omega
      have hu := hw u List.mem_cons_self
      refine w_aload c_228_0 rfl ?_
      refine z_getZ c_228_1 sp_157 (by decide) rfl rfl ?_
      refine z_if_ne c_228_4 (by first | exact aRg_of _ | (unfold aRg; omega)) (fun h1_ => ?_) (fun h1_ => ?_)
      · exact absurd rfl h1_
      refine w_aload c_228_7 rfl ?_
      refine z_getZ c_228_8 sp_157 (by decide) rfl hq.2.1 ?_
      refine w_aload c_228_11 rfl ?_
      refine z_getZ c_228_12 sp_157 (by decide) rfl hq.2.2.2.2.2 ?_
      refine z_ic_le c_228_15 (by first | exact aRg_of _ | (unfold aRg; omega)) (by first | exact aRg_of _ | (unfold aRg; omega)) (fun h2_ => ?_) (fun h2_ => ?_)
      · exfalso; omega
      refine w_aload c_228_18 rfl ?_
      refine w_getR c_228_19 sp_157 (by decide) rfl pr_157_99 ?_
      refine w_aload c_228_22 rfl ?_
      refine z_getZ c_228_23 sp_157 (by decide) rfl hq.2.1 ?_
      refine z_push c_228_26 ?_
      refine z_isub c_228_27 ?_
      refine z_iaload c_228_28 sp_233 (by omega) (by first | decide | omega) (hs2.1.top (by simp only [List.length_append, List.length_cons]; omega)) ?_
      refine z_push c_228_29 ?_
      refine z_ic_lt c_228_31 (by first | exact aRg_of _ | (unfold aRg; omega)) (by first | exact aRg_of _ | (unfold aRg; omega)) (fun h3_ => ?_) (fun h3_ => ?_)
      · refine z_retv c_228_51 ?_
        have hk := k
        unfold eP at hk
        rw [if_neg (by omega)] at hk
        exact hk I hq frG.rf
      · refine w_aload c_228_34 rfl ?_
        refine w_dup c_228_35 rfl ?_
        refine z_getZ c_228_36 sp_157 (by decide) rfl hq.2.2.2.2.1 ?_
        refine z_push c_228_39 ?_
        refine z_isub c_228_40 ?_
        refine z_putZ c_228_41 sp_157 (by decide) rfl ?_
        refine oq_k (frG.rf (P := PQn) (I := I)) (Or.inl ⟨rfl, Or.inr (Or.inr (Or.inl rfl))⟩) (by decide) (fun I0 h0 hF0 => ?_)
        have hs3 := hs2.opn h0
        refine w_aload c_228_44 rfl ?_
        refine wc_221 c_228_45 sp_157 (Nat.le_of_ble_eq_true rfl) (by omega) ?_
        refine t_qDrops hs3 (by rw [List.length_append]; omega) (by omega) (by omega) (fun I1 hq1 hF1 => ?_)
        refine r_v ?_
        refine w_goto c_228_48 ?_
        have hk := k
        unfold eP at hk
        rw [if_pos (by omega)] at hk
        exact ih U (u :: O) (op - 1) I1 (by omega) hq1 (fun v hv => hw v (List.mem_cons_of_mem _ hv)) (by simp only [List.length_append, List.length_cons] at hl ⊢; omega) (fun I2 h2 h3 => hk I2 h2 ((hF0.tr hF1).tr h3))

set_option maxHeartbeats 1000000 in
theorem t_qEndsPart {d : Nat} {I : aFI} {L : aFL} {Q : aPo} {sh : Nat} {su : Option Nat} {a en bp np nm : Int} {U B O : List Int} {op : Int} (hq : qS I (U ++ B) O op B.length) (hw : wOK (U ++ B)) (hl : (U ++ B).length + O.length < 1650) (hd : 2 ≤ d) (k : ∀ I2 : aFI, qS I2 ((eP U O op).1 ++ B) (eP U O op).2.1 (eP U O op).2.2 B.length → frG PQn I I2 → Q none (oP I2 a en 0 bp np nm) L (aR sh su)) : aWp none d 228 0 [.ref 157] [] (oP I a en 0 bp np nm) L (aR sh su) Q := by
  exact t_qEndsPart_1 hd _ U O op I (Nat.lt_succ_self _) hq hw hl k

/-- a part's word allowed in this sort of text -/
def alw (tk k : Int) : Bool := decide (k < 4 ∨ (tk = 0 ∧ k < 6) ∨ (tk = 1 ∧ (k = 6 ∨ k = 7)) ∨ ((¬ tk = 0 ∧ ¬ tk = 1) ∧ 5 < k))
set_option maxHeartbeats 1000000 in
theorem t_isAllowed {d : Nat} {I : aFI} {L : aFL} {Q : aPo} {sh : Nat} {su : Option Nat} {a en b bp np nm : Int} {tk v : Int} (htk : I 157 57 = iI tk) (htr : 0 ≤ tk ∧ tk < 3) (hv : -1 ≤ v ∧ v < 20) (k : Q (some (.int (aBo (alw tk v)))) (oP I a en b bp np nm) L (aR sh su)) : aWp none d 145 0 [.ref 157, .int (iI v)] [] (oP I a en b bp np nm) L (aR sh su) Q := by
  refine w_iload c_145_0 rfl ?_
  refine z_push c_145_1 ?_
  refine z_ic_lt c_145_2 (by first | exact aRg_of _ | (unfold aRg; omega)) (by first | exact aRg_of _ | (unfold aRg; omega)) (fun h1_ => ?_) (fun h1_ => ?_)
  · refine z_push c_145_49 ?_
    refine w_goto c_145_50 ?_
    refine z_ret1 c_145_54 rfl ?_
    exact q_b k (decide_eq_true (by omega))
  · refine w_aload c_145_5 rfl ?_
    refine z_getZ c_145_6 sp_157 (by decide) rfl htk ?_
    refine z_if_ne c_145_9 (by first | exact aRg_of _ | (unfold aRg; omega)) (fun h2_ => ?_) (fun h2_ => ?_)
    · refine w_aload c_145_21 rfl ?_
      refine z_getZ c_145_22 sp_157 (by decide) rfl htk ?_
      refine z_push c_145_25 ?_
      refine z_ic_ne c_145_26 (by first | exact aRg_of _ | (unfold aRg; omega)) (by first | exact aRg_of _ | (unfold aRg; omega)) (fun h3_ => ?_) (fun h3_ => ?_)
      · refine w_iload c_145_44 rfl ?_
        refine z_push c_145_45 ?_
        refine z_ic_le c_145_46 (by first | exact aRg_of _ | (unfold aRg; omega)) (by first | exact aRg_of _ | (unfold aRg; omega)) (fun h4_ => ?_) (fun h4_ => ?_)
        · refine z_push c_145_53 ?_
          refine z_ret0 c_145_54 rfl ?_
          exact q_b k (decide_eq_false (by omega))
        · refine z_push c_145_49 ?_
          refine w_goto c_145_50 ?_
          refine z_ret1 c_145_54 rfl ?_
          exact q_b k (decide_eq_true (by omega))
      · refine w_iload c_145_29 rfl ?_
        refine z_push c_145_30 ?_
        refine z_ic_eq c_145_32 (by first | exact aRg_of _ | (unfold aRg; omega)) (by first | exact aRg_of _ | (unfold aRg; omega)) (fun h5_ => ?_) (fun h5_ => ?_)
        · refine z_push c_145_49 ?_
          refine w_goto c_145_50 ?_
          refine z_ret1 c_145_54 rfl ?_
          exact q_b k (decide_eq_true (by omega))
        · refine w_iload c_145_35 rfl ?_
          refine z_push c_145_36 ?_
          refine z_ic_ne c_145_38 (by first | exact aRg_of _ | (unfold aRg; omega)) (by first | exact aRg_of _ | (unfold aRg; omega)) (fun h6_ => ?_) (fun h6_ => ?_)
          · refine z_push c_145_53 ?_
            refine z_ret0 c_145_54 rfl ?_
            exact q_b k (decide_eq_false (by omega))
          · refine w_goto c_145_41 ?_
            refine z_push c_145_49 ?_
            refine w_goto c_145_50 ?_
            refine z_ret1 c_145_54 rfl ?_
            exact q_b k (decide_eq_true (by omega))
    · refine w_iload c_145_12 rfl ?_
      refine z_push c_145_13 ?_
      refine z_ic_ge c_145_15 (by first | exact aRg_of _ | (unfold aRg; omega)) (by first | exact aRg_of _ | (unfold aRg; omega)) (fun h7_ => ?_) (fun h7_ => ?_)
      · refine z_push c_145_53 ?_
        refine z_ret0 c_145_54 rfl ?_
        exact q_b k (decide_eq_false (by omega))
      · refine w_goto c_145_18 ?_
        refine z_push c_145_49 ?_
        refine w_goto c_145_50 ?_
        refine z_ret1 c_145_54 rfl ?_
        exact q_b k (decide_eq_true (by omega))

def qWz (k : Int) : Int := if k = 310 then 0 else if k = 311 then 1 else if k = 307 then 2 else if k = 319 then 3 else if k = 320 then 4 else if k = 321 then 5 else if k = 322 then 6 else if k = 323 then 7 else if k = 324 then 8 else if k = 325 then 9 else if k = 313 then 10 else if k = 312 then 11 else -1
theorem wk_220 : wcode 220 = 310 := by decide +kernel
theorem wk_221 : wcode 221 = 311 := by decide +kernel
theorem wk_222 : wcode 222 = 307 := by decide +kernel
theorem wk_223 : wcode 223 = 319 := by decide +kernel
theorem wk_224 : wcode 224 = 320 := by decide +kernel
theorem wk_225 : wcode 225 = 321 := by decide +kernel
theorem wk_226 : wcode 226 = 322 := by decide +kernel
theorem wk_227 : wcode 227 = 323 := by decide +kernel
theorem wk_228 : wcode 228 = 324 := by decide +kernel
theorem wk_229 : wcode 229 = 325 := by decide +kernel
theorem wk_230 : wcode 230 = 313 := by decide +kernel
theorem wk_231 : wcode 231 = 312 := by decide +kernel
theorem qWz_no {k : Int} (h : ¬ (k = 310 ∨ k = 311 ∨ k = 307 ∨ k = 319 ∨ k = 320 ∨ k = 321 ∨ k = 322 ∨ k = 323 ∨ k = 324 ∨ k = 325 ∨ k = 313 ∨ k = 312)) : qWz k = -1 := by
  unfold qWz
  rw [if_neg (by omega), if_neg (by omega), if_neg (by omega), if_neg (by omega), if_neg (by omega), if_neg (by omega), if_neg (by omega), if_neg (by omega), if_neg (by omega), if_neg (by omega), if_neg (by omega), if_neg (by omega)]
theorem qWz_rg {k : Int} : -1 ≤ qWz k ∧ qWz k ≤ 11 := by
  by_cases hk : k = 310 ∨ k = 311 ∨ k = 307 ∨ k = 319 ∨ k = 320 ∨ k = 321 ∨ k = 322 ∨ k = 323 ∨ k = 324 ∨ k = 325 ∨ k = 313 ∨ k = 312
  · rcases hk with rfl | rfl | rfl | rfl | rfl | rfl | rfl | rfl | rfl | rfl | rfl | rfl <;> decide
  · rw [qWz_no hk]; decide
theorem qWz_0 {k : Int} (h : qWz k = 0) : k = 310 := by
  by_cases hk : k = 310 ∨ k = 311 ∨ k = 307 ∨ k = 319 ∨ k = 320 ∨ k = 321 ∨ k = 322 ∨ k = 323 ∨ k = 324 ∨ k = 325 ∨ k = 313 ∨ k = 312
  · rcases hk with rfl | rfl | rfl | rfl | rfl | rfl | rfl | rfl | rfl | rfl | rfl | rfl <;> first | rfl | exact absurd h (by decide)
  · have := qWz_no hk; omega
theorem qWz_1 {k : Int} (h : qWz k = 1) : k = 311 := by
  by_cases hk : k = 310 ∨ k = 311 ∨ k = 307 ∨ k = 319 ∨ k = 320 ∨ k = 321 ∨ k = 322 ∨ k = 323 ∨ k = 324 ∨ k = 325 ∨ k = 313 ∨ k = 312
  · rcases hk with rfl | rfl | rfl | rfl | rfl | rfl | rfl | rfl | rfl | rfl | rfl | rfl <;> first | rfl | exact absurd h (by decide)
  · have := qWz_no hk; omega
theorem qWz_2 {k : Int} (h : qWz k = 2) : k = 307 := by
  by_cases hk : k = 310 ∨ k = 311 ∨ k = 307 ∨ k = 319 ∨ k = 320 ∨ k = 321 ∨ k = 322 ∨ k = 323 ∨ k = 324 ∨ k = 325 ∨ k = 313 ∨ k = 312
  · rcases hk with rfl | rfl | rfl | rfl | rfl | rfl | rfl | rfl | rfl | rfl | rfl | rfl <;> first | rfl | exact absurd h (by decide)
  · have := qWz_no hk; omega
theorem qWz_3 {k : Int} (h : qWz k = 3) : k = 319 := by
  by_cases hk : k = 310 ∨ k = 311 ∨ k = 307 ∨ k = 319 ∨ k = 320 ∨ k = 321 ∨ k = 322 ∨ k = 323 ∨ k = 324 ∨ k = 325 ∨ k = 313 ∨ k = 312
  · rcases hk with rfl | rfl | rfl | rfl | rfl | rfl | rfl | rfl | rfl | rfl | rfl | rfl <;> first | rfl | exact absurd h (by decide)
  · have := qWz_no hk; omega
theorem qWz_4 {k : Int} (h : qWz k = 4) : k = 320 := by
  by_cases hk : k = 310 ∨ k = 311 ∨ k = 307 ∨ k = 319 ∨ k = 320 ∨ k = 321 ∨ k = 322 ∨ k = 323 ∨ k = 324 ∨ k = 325 ∨ k = 313 ∨ k = 312
  · rcases hk with rfl | rfl | rfl | rfl | rfl | rfl | rfl | rfl | rfl | rfl | rfl | rfl <;> first | rfl | exact absurd h (by decide)
  · have := qWz_no hk; omega
theorem qWz_5 {k : Int} (h : qWz k = 5) : k = 321 := by
  by_cases hk : k = 310 ∨ k = 311 ∨ k = 307 ∨ k = 319 ∨ k = 320 ∨ k = 321 ∨ k = 322 ∨ k = 323 ∨ k = 324 ∨ k = 325 ∨ k = 313 ∨ k = 312
  · rcases hk with rfl | rfl | rfl | rfl | rfl | rfl | rfl | rfl | rfl | rfl | rfl | rfl <;> first | rfl | exact absurd h (by decide)
  · have := qWz_no hk; omega
theorem qWz_6 {k : Int} (h : qWz k = 6) : k = 322 := by
  by_cases hk : k = 310 ∨ k = 311 ∨ k = 307 ∨ k = 319 ∨ k = 320 ∨ k = 321 ∨ k = 322 ∨ k = 323 ∨ k = 324 ∨ k = 325 ∨ k = 313 ∨ k = 312
  · rcases hk with rfl | rfl | rfl | rfl | rfl | rfl | rfl | rfl | rfl | rfl | rfl | rfl <;> first | rfl | exact absurd h (by decide)
  · have := qWz_no hk; omega
theorem qWz_7 {k : Int} (h : qWz k = 7) : k = 323 := by
  by_cases hk : k = 310 ∨ k = 311 ∨ k = 307 ∨ k = 319 ∨ k = 320 ∨ k = 321 ∨ k = 322 ∨ k = 323 ∨ k = 324 ∨ k = 325 ∨ k = 313 ∨ k = 312
  · rcases hk with rfl | rfl | rfl | rfl | rfl | rfl | rfl | rfl | rfl | rfl | rfl | rfl <;> first | rfl | exact absurd h (by decide)
  · have := qWz_no hk; omega
theorem qWz_8 {k : Int} (h : qWz k = 8) : k = 324 := by
  by_cases hk : k = 310 ∨ k = 311 ∨ k = 307 ∨ k = 319 ∨ k = 320 ∨ k = 321 ∨ k = 322 ∨ k = 323 ∨ k = 324 ∨ k = 325 ∨ k = 313 ∨ k = 312
  · rcases hk with rfl | rfl | rfl | rfl | rfl | rfl | rfl | rfl | rfl | rfl | rfl | rfl <;> first | rfl | exact absurd h (by decide)
  · have := qWz_no hk; omega
theorem qWz_9 {k : Int} (h : qWz k = 9) : k = 325 := by
  by_cases hk : k = 310 ∨ k = 311 ∨ k = 307 ∨ k = 319 ∨ k = 320 ∨ k = 321 ∨ k = 322 ∨ k = 323 ∨ k = 324 ∨ k = 325 ∨ k = 313 ∨ k = 312
  · rcases hk with rfl | rfl | rfl | rfl | rfl | rfl | rfl | rfl | rfl | rfl | rfl | rfl <;> first | rfl | exact absurd h (by decide)
  · have := qWz_no hk; omega
theorem qWz_10 {k : Int} (h : qWz k = 10) : k = 313 := by
  by_cases hk : k = 310 ∨ k = 311 ∨ k = 307 ∨ k = 319 ∨ k = 320 ∨ k = 321 ∨ k = 322 ∨ k = 323 ∨ k = 324 ∨ k = 325 ∨ k = 313 ∨ k = 312
  · rcases hk with rfl | rfl | rfl | rfl | rfl | rfl | rfl | rfl | rfl | rfl | rfl | rfl <;> first | rfl | exact absurd h (by decide)
  · have := qWz_no hk; omega
theorem qWz_11 {k : Int} (h : qWz k = 11) : k = 312 := by
  by_cases hk : k = 310 ∨ k = 311 ∨ k = 307 ∨ k = 319 ∨ k = 320 ∨ k = 321 ∨ k = 322 ∨ k = 323 ∨ k = 324 ∨ k = 325 ∨ k = 313 ∨ k = 312
  · rcases hk with rfl | rfl | rfl | rfl | rfl | rfl | rfl | rfl | rfl | rfl | rfl | rfl <;> first | rfl | exact absurd h (by decide)
  · have := qWz_no hk; omega
set_option maxHeartbeats 1000000 in
theorem t_qWordHere {d : Nat} {I : aFI} {L : aFL} {Q : aPo} {T : Int → Int} {n : Int} {sh : Nat} {su : Option Nat} {j : Nat} {a bp np nm : Int} (hB : oB I T n) (hO : oW I) (hA : rA T n j a) (hd : 3 ≤ d) (k : Q (some (.int (iI (qWz (tkK T n j))))) (oT I T n j (tkP T n j) 0 bp np nm) L (aR sh su)) : aWp none d 225 0 [.ref 157] [] (oT I T n j a 0 bp np nm) L (aR sh su) Q := by
  have hA2 := rA_p (T := T) (j := j) hB.2.2.1.1
  refine w_aload c_225_0 rfl ?_
  refine w_aload c_225_1 rfl ?_
  refine w_getR c_225_2 sp_157 (by decide) rfl pr_157_85 ?_
  refine wc_137 c_225_5 sp_157 (Nat.le_of_ble_eq_true rfl) (by omega) ?_
  refine tt_isHereW hB hO (q := 220) (Or.inr ⟨by decide, by decide⟩) (by omega) hA ?_
  rw [wk_220]
  refine r_i ?_
  refine b_if_eq c_225_8 (fun h1_ => ?_) (fun h1_ => ?_)
  · refine w_aload c_225_13 rfl ?_
    refine w_aload c_225_14 rfl ?_
    refine w_getR c_225_15 sp_157 (by decide) rfl pr_157_86 ?_
    refine wc_137 c_225_18 sp_157 (Nat.le_of_ble_eq_true rfl) (by omega) ?_
    refine tt_isHereW hB hO (q := 221) (Or.inr ⟨by decide, by decide⟩) (by omega) hA2 ?_
    rw [wk_221]
    refine r_i ?_
    refine b_if_eq c_225_21 (fun h2_ => ?_) (fun h2_ => ?_)
    · refine w_aload c_225_26 rfl ?_
      refine w_aload c_225_27 rfl ?_
      refine w_getR c_225_28 sp_157 (by decide) rfl pr_157_87 ?_
      refine wc_137 c_225_31 sp_157 (Nat.le_of_ble_eq_true rfl) (by omega) ?_
      refine tt_isHereW hB hO (q := 222) (Or.inr ⟨by decide, by decide⟩) (by omega) hA2 ?_
      rw [wk_222]
      refine r_i ?_
      refine b_if_eq c_225_34 (fun h3_ => ?_) (fun h3_ => ?_)
      · refine w_aload c_225_39 rfl ?_
        refine w_aload c_225_40 rfl ?_
        refine w_getR c_225_41 sp_157 (by decide) rfl pr_157_88 ?_
        refine wc_137 c_225_44 sp_157 (Nat.le_of_ble_eq_true rfl) (by omega) ?_
        refine tt_isHereW hB hO (q := 223) (Or.inr ⟨by decide, by decide⟩) (by omega) hA2 ?_
        rw [wk_223]
        refine r_i ?_
        refine b_if_eq c_225_47 (fun h4_ => ?_) (fun h4_ => ?_)
        · refine w_aload c_225_52 rfl ?_
          refine w_aload c_225_53 rfl ?_
          refine w_getR c_225_54 sp_157 (by decide) rfl pr_157_89 ?_
          refine wc_137 c_225_57 sp_157 (Nat.le_of_ble_eq_true rfl) (by omega) ?_
          refine tt_isHereW hB hO (q := 224) (Or.inr ⟨by decide, by decide⟩) (by omega) hA2 ?_
          rw [wk_224]
          refine r_i ?_
          refine b_if_eq c_225_60 (fun h5_ => ?_) (fun h5_ => ?_)
          · refine w_aload c_225_65 rfl ?_
            refine w_aload c_225_66 rfl ?_
            refine w_getR c_225_67 sp_157 (by decide) rfl pr_157_90 ?_
            refine wc_137 c_225_70 sp_157 (Nat.le_of_ble_eq_true rfl) (by omega) ?_
            refine tt_isHereW hB hO (q := 225) (Or.inr ⟨by decide, by decide⟩) (by omega) hA2 ?_
            rw [wk_225]
            refine r_i ?_
            refine b_if_eq c_225_73 (fun h6_ => ?_) (fun h6_ => ?_)
            · refine w_aload c_225_78 rfl ?_
              refine w_aload c_225_79 rfl ?_
              refine w_getR c_225_80 sp_157 (by decide) rfl pr_157_91 ?_
              refine wc_137 c_225_83 sp_157 (Nat.le_of_ble_eq_true rfl) (by omega) ?_
              refine tt_isHereW hB hO (q := 226) (Or.inr ⟨by decide, by decide⟩) (by omega) hA2 ?_
              rw [wk_226]
              refine r_i ?_
              refine b_if_eq c_225_86 (fun h7_ => ?_) (fun h7_ => ?_)
              · refine w_aload c_225_92 rfl ?_
                refine w_aload c_225_93 rfl ?_
                refine w_getR c_225_94 sp_157 (by decide) rfl pr_157_92 ?_
                refine wc_137 c_225_97 sp_157 (Nat.le_of_ble_eq_true rfl) (by omega) ?_
                refine tt_isHereW hB hO (q := 227) (Or.inr ⟨by decide, by decide⟩) (by omega) hA2 ?_
                rw [wk_227]
                refine r_i ?_
                refine b_if_eq c_225_100 (fun h8_ => ?_) (fun h8_ => ?_)
                · refine w_aload c_225_106 rfl ?_
                  refine w_aload c_225_107 rfl ?_
                  refine w_getR c_225_108 sp_157 (by decide) rfl pr_157_93 ?_
                  refine wc_137 c_225_111 sp_157 (Nat.le_of_ble_eq_true rfl) (by omega) ?_
                  refine tt_isHereW hB hO (q := 228) (Or.inr ⟨by decide, by decide⟩) (by omega) hA2 ?_
                  rw [wk_228]
                  refine r_i ?_
                  refine b_if_eq c_225_114 (fun h9_ => ?_) (fun h9_ => ?_)
                  · refine w_aload c_225_120 rfl ?_
                    refine w_aload c_225_121 rfl ?_
                    refine w_getR c_225_122 sp_157 (by decide) rfl pr_157_94 ?_
                    refine wc_137 c_225_125 sp_157 (Nat.le_of_ble_eq_true rfl) (by omega) ?_
                    refine tt_isHereW hB hO (q := 229) (Or.inr ⟨by decide, by decide⟩) (by omega) hA2 ?_
                    rw [wk_229]
                    refine r_i ?_
                    refine b_if_eq c_225_128 (fun h10_ => ?_) (fun h10_ => ?_)
                    · refine w_aload c_225_134 rfl ?_
                      refine w_aload c_225_135 rfl ?_
                      refine w_getR c_225_136 sp_157 (by decide) rfl pr_157_95 ?_
                      refine wc_137 c_225_139 sp_157 (Nat.le_of_ble_eq_true rfl) (by omega) ?_
                      refine tt_isHereW hB hO (q := 230) (Or.inr ⟨by decide, by decide⟩) (by omega) hA2 ?_
                      rw [wk_230]
                      refine r_i ?_
                      refine b_if_eq c_225_142 (fun h11_ => ?_) (fun h11_ => ?_)
                      · refine w_aload c_225_148 rfl ?_
                        refine w_aload c_225_149 rfl ?_
                        refine w_getR c_225_150 sp_157 (by decide) rfl pr_157_96 ?_
                        refine wc_137 c_225_153 sp_157 (Nat.le_of_ble_eq_true rfl) (by omega) ?_
                        refine tt_isHereW hB hO (q := 231) (Or.inr ⟨by decide, by decide⟩) (by omega) hA2 ?_
                        rw [wk_231]
                        refine r_i ?_
                        refine b_if_eq c_225_156 (fun h12_ => ?_) (fun h12_ => ?_)
                        · refine z_push c_225_162 ?_
                          refine z_ret c_225_163 rfl ?_
                          refine q_i k ?_
                          unfold qWz
                          rw [if_neg (of_decide_eq_false h1_), if_neg (of_decide_eq_false h2_), if_neg (of_decide_eq_false h3_), if_neg (of_decide_eq_false h4_), if_neg (of_decide_eq_false h5_), if_neg (of_decide_eq_false h6_), if_neg (of_decide_eq_false h7_), if_neg (of_decide_eq_false h8_), if_neg (of_decide_eq_false h9_), if_neg (of_decide_eq_false h10_), if_neg (of_decide_eq_false h11_), if_neg (of_decide_eq_false h12_)]
                        · refine z_push c_225_159 ?_
                          refine z_ret c_225_161 rfl ?_
                          refine q_i k ?_
                          unfold qWz
                          rw [if_neg (of_decide_eq_false h1_), if_neg (of_decide_eq_false h2_), if_neg (of_decide_eq_false h3_), if_neg (of_decide_eq_false h4_), if_neg (of_decide_eq_false h5_), if_neg (of_decide_eq_false h6_), if_neg (of_decide_eq_false h7_), if_neg (of_decide_eq_false h8_), if_neg (of_decide_eq_false h9_), if_neg (of_decide_eq_false h10_), if_neg (of_decide_eq_false h11_), if_pos (of_decide_eq_true h12_)]
                      · refine z_push c_225_145 ?_
                        refine z_ret c_225_147 rfl ?_
                        refine q_i k ?_
                        unfold qWz
                        rw [if_neg (of_decide_eq_false h1_), if_neg (of_decide_eq_false h2_), if_neg (of_decide_eq_false h3_), if_neg (of_decide_eq_false h4_), if_neg (of_decide_eq_false h5_), if_neg (of_decide_eq_false h6_), if_neg (of_decide_eq_false h7_), if_neg (of_decide_eq_false h8_), if_neg (of_decide_eq_false h9_), if_neg (of_decide_eq_false h10_), if_pos (of_decide_eq_true h11_)]
                    · refine z_push c_225_131 ?_
                      refine z_ret c_225_133 rfl ?_
                      refine q_i k ?_
                      unfold qWz
                      rw [if_neg (of_decide_eq_false h1_), if_neg (of_decide_eq_false h2_), if_neg (of_decide_eq_false h3_), if_neg (of_decide_eq_false h4_), if_neg (of_decide_eq_false h5_), if_neg (of_decide_eq_false h6_), if_neg (of_decide_eq_false h7_), if_neg (of_decide_eq_false h8_), if_neg (of_decide_eq_false h9_), if_pos (of_decide_eq_true h10_)]
                  · refine z_push c_225_117 ?_
                    refine z_ret c_225_119 rfl ?_
                    refine q_i k ?_
                    unfold qWz
                    rw [if_neg (of_decide_eq_false h1_), if_neg (of_decide_eq_false h2_), if_neg (of_decide_eq_false h3_), if_neg (of_decide_eq_false h4_), if_neg (of_decide_eq_false h5_), if_neg (of_decide_eq_false h6_), if_neg (of_decide_eq_false h7_), if_neg (of_decide_eq_false h8_), if_pos (of_decide_eq_true h9_)]
                · refine z_push c_225_103 ?_
                  refine z_ret c_225_105 rfl ?_
                  refine q_i k ?_
                  unfold qWz
                  rw [if_neg (of_decide_eq_false h1_), if_neg (of_decide_eq_false h2_), if_neg (of_decide_eq_false h3_), if_neg (of_decide_eq_false h4_), if_neg (of_decide_eq_false h5_), if_neg (of_decide_eq_false h6_), if_neg (of_decide_eq_false h7_), if_pos (of_decide_eq_true h8_)]
              · refine z_push c_225_89 ?_
                refine z_ret c_225_91 rfl ?_
                refine q_i k ?_
                unfold qWz
                rw [if_neg (of_decide_eq_false h1_), if_neg (of_decide_eq_false h2_), if_neg (of_decide_eq_false h3_), if_neg (of_decide_eq_false h4_), if_neg (of_decide_eq_false h5_), if_neg (of_decide_eq_false h6_), if_pos (of_decide_eq_true h7_)]
            · refine z_push c_225_76 ?_
              refine z_ret c_225_77 rfl ?_
              refine q_i k ?_
              unfold qWz
              rw [if_neg (of_decide_eq_false h1_), if_neg (of_decide_eq_false h2_), if_neg (of_decide_eq_false h3_), if_neg (of_decide_eq_false h4_), if_neg (of_decide_eq_false h5_), if_pos (of_decide_eq_true h6_)]
          · refine z_push c_225_63 ?_
            refine z_ret c_225_64 rfl ?_
            refine q_i k ?_
            unfold qWz
            rw [if_neg (of_decide_eq_false h1_), if_neg (of_decide_eq_false h2_), if_neg (of_decide_eq_false h3_), if_neg (of_decide_eq_false h4_), if_pos (of_decide_eq_true h5_)]
        · refine z_push c_225_50 ?_
          refine z_ret c_225_51 rfl ?_
          refine q_i k ?_
          unfold qWz
          rw [if_neg (of_decide_eq_false h1_), if_neg (of_decide_eq_false h2_), if_neg (of_decide_eq_false h3_), if_pos (of_decide_eq_true h4_)]
      · refine z_push c_225_37 ?_
        refine z_ret c_225_38 rfl ?_
        refine q_i k ?_
        unfold qWz
        rw [if_neg (of_decide_eq_false h1_), if_neg (of_decide_eq_false h2_), if_pos (of_decide_eq_true h3_)]
    · refine z_push c_225_24 ?_
      refine z_ret c_225_25 rfl ?_
      refine q_i k ?_
      unfold qWz
      rw [if_neg (of_decide_eq_false h1_), if_pos (of_decide_eq_true h2_)]
  · refine z_push c_225_11 ?_
    refine z_ret c_225_12 rfl ?_
    refine q_i k ?_
    unfold qWz
    rw [if_pos (of_decide_eq_true h1_)]

def qWo (tk k from_ to : Int) : Int := if (from_ ≤ qWz k ∧ qWz k < to) ∧ alw tk (qWz k) = true then qWz k else -1
set_option maxHeartbeats 1000000 in
theorem t_qWordOf {d : Nat} {I : aFI} {L : aFL} {Q : aPo} {T : Int → Int} {n : Int} {sh : Nat} {su : Option Nat} {j : Nat} {a bp np nm : Int} (hB : oB I T n) (hO : oW I) (hA : rA T n j a) {tk x y : Int} (htk : I 157 57 = iI tk) (htr : 0 ≤ tk ∧ tk < 3) (hx : 0 ≤ x ∧ x < 20) (hy : 0 ≤ y ∧ y < 20) (hd : 4 ≤ d) (k : Q (some (.int (iI (qWo tk (tkK T n j) x y)))) (oT I T n j (tkP T n j) 0 bp np nm) L (aR sh su)) : aWp none d 226 0 [.ref 157, .int (iI x), .int (iI y), .null] [] (oT I T n j a 0 bp np nm) L (aR sh su) Q := by
  have hwz := qWz_rg (k := tkK T n j)
  refine w_aload c_226_0 rfl ?_
  refine wc_225 c_226_1 sp_157 (Nat.le_of_ble_eq_true rfl) (by omega) ?_
  refine t_qWordHere hB hO hA (by omega) ?_
  refine r_i ?_
  refine w_istore c_226_4 (Nat.le_of_ble_eq_true rfl) rfl ?_
  refine w_iload c_226_5 rfl ?_
  refine w_iload c_226_6 rfl ?_
  refine z_ic_lt c_226_7 (by first | exact aRg_of _ | (unfold aRg; omega)) (by first | exact aRg_of _ | (unfold aRg; omega)) (fun h1_ => ?_) (fun h1_ => ?_)
  · refine z_push c_226_27 ?_
    refine z_ret c_226_28 rfl ?_
    refine q_i k ?_
    unfold qWo
    first
    | (rw [if_pos ⟨by omega, by assumption⟩]; done)
    | (rw [if_neg (fun z => by first | omega | exact Bool.noConfusion (z.2.symm.trans (show _ = false by assumption)))]; done)
  · refine w_iload c_226_10 rfl ?_
    refine w_iload c_226_11 rfl ?_
    refine z_ic_ge c_226_12 (by first | exact aRg_of _ | (unfold aRg; omega)) (by first | exact aRg_of _ | (unfold aRg; omega)) (fun h2_ => ?_) (fun h2_ => ?_)
    · refine z_push c_226_27 ?_
      refine z_ret c_226_28 rfl ?_
      refine q_i k ?_
      unfold qWo
      first
      | (rw [if_pos ⟨by omega, by assumption⟩]; done)
      | (rw [if_neg (fun z => by first | omega | exact Bool.noConfusion (z.2.symm.trans (show _ = false by assumption)))]; done)
    · refine w_aload c_226_15 rfl ?_
      refine w_iload c_226_16 rfl ?_
      refine wc_145 c_226_17 sp_157 (Nat.le_of_ble_eq_true rfl) (by omega) ?_
      refine t_isAllowed htk htr (by omega) ?_
      refine r_i ?_
      refine b_if_eq c_226_20 (fun h3_ => ?_) (fun h3_ => ?_)
      · refine z_push c_226_27 ?_
        refine z_ret c_226_28 rfl ?_
        refine q_i k ?_
        unfold qWo
        first
        | (rw [if_pos ⟨by omega, by assumption⟩]; done)
        | (rw [if_neg (fun z => by first | omega | exact Bool.noConfusion (z.2.symm.trans (show _ = false by assumption)))]; done)
      · refine w_iload c_226_23 rfl ?_
        refine w_goto c_226_24 ?_
        refine z_ret c_226_28 rfl ?_
        refine q_i k ?_
        unfold qWo
        first
        | (rw [if_pos ⟨by omega, by assumption⟩]; done)
        | (rw [if_neg (fun z => by first | omega | exact Bool.noConfusion (z.2.symm.trans (show _ = false by assumption)))]; done)

set_option maxHeartbeats 1000000 in
theorem t_qAsksWord {d : Nat} {I : aFI} {L : aFL} {Q : aPo} {T : Int → Int} {n : Int} {sh : Nat} {su : Option Nat} {j : Nat} {a bp np nm : Int} (hB : oB I T n) (hO : oW I) (hA : rA T n j a) {v : Int} (hv : qWz (tkK T n j) = v) (hv0 : 0 ≤ v) (hd : 5 ≤ d) (k : ∀ a2 : Int, rA T n (j + 1) a2 → Q none (oT I T n (j + 1) a2 0 bp np nm) L (aR sh su)) : aWp none d 227 0 [.ref 157, .int (iI v)] [] (oT I T n j a 0 bp np nm) L (aR sh su) Q := by
  have hwz := qWz_rg (k := tkK T n j)
  refine w_iload c_227_0 rfl ?_
  rcases (show (v = 0) ∨ (v = 1) ∨ (v = 2) ∨ (v = 3) ∨ (v = 4) ∨ (v = 5) ∨ (v = 6) ∨ (v = 7) ∨ (v = 8) ∨ (v = 9) ∨ (v = 10) ∨ (¬ v = 0 ∧ ¬ v = 1 ∧ ¬ v = 2 ∧ ¬ v = 3 ∧ ¬ v = 4 ∧ ¬ v = 5 ∧ ¬ v = 6 ∧ ¬ v = 7 ∧ ¬ v = 8 ∧ ¬ v = 9 ∧ ¬ v = 10) by omega) with h1_ | h1_ | h1_ | h1_ | h1_ | h1_ | h1_ | h1_ | h1_ | h1_ | h1_ | h1_
  · refine z_tsw c_227_1 (by first | exact aRg_of _ | (unfold aRg; omega)) (pc2 := 60) (by rcases h1_ with rfl <;> rfl) ?_
    refine w_aload c_227_60 rfl ?_
    refine w_aload c_227_61 rfl ?_
    refine w_getR c_227_62 sp_157 (by decide) rfl pr_157_85 ?_
    refine wc_139 c_227_65 sp_157 (Nat.le_of_ble_eq_true rfl) (by omega) ?_
    have hkk : tkK T n j = 310 := qWz_0 (by omega)
    refine tt_asksW hB hO (q := 220) (Or.inr ⟨by decide, by decide⟩) (by omega) hA (fun _ a2 h2 => ?_) (fun z => absurd (hkk.trans wk_220.symm) z)
    refine r_v ?_
    refine w_goto c_227_68 ?_
    refine z_retv c_227_189 ?_
    exact k a2 h2
  · refine z_tsw c_227_1 (by first | exact aRg_of _ | (unfold aRg; omega)) (pc2 := 71) (by rcases h1_ with rfl <;> rfl) ?_
    refine w_aload c_227_71 rfl ?_
    refine w_aload c_227_72 rfl ?_
    refine w_getR c_227_73 sp_157 (by decide) rfl pr_157_86 ?_
    refine wc_139 c_227_76 sp_157 (Nat.le_of_ble_eq_true rfl) (by omega) ?_
    have hkk : tkK T n j = 311 := qWz_1 (by omega)
    refine tt_asksW hB hO (q := 221) (Or.inr ⟨by decide, by decide⟩) (by omega) hA (fun _ a2 h2 => ?_) (fun z => absurd (hkk.trans wk_221.symm) z)
    refine r_v ?_
    refine w_goto c_227_79 ?_
    refine z_retv c_227_189 ?_
    exact k a2 h2
  · refine z_tsw c_227_1 (by first | exact aRg_of _ | (unfold aRg; omega)) (pc2 := 82) (by rcases h1_ with rfl <;> rfl) ?_
    refine w_aload c_227_82 rfl ?_
    refine w_aload c_227_83 rfl ?_
    refine w_getR c_227_84 sp_157 (by decide) rfl pr_157_87 ?_
    refine wc_139 c_227_87 sp_157 (Nat.le_of_ble_eq_true rfl) (by omega) ?_
    have hkk : tkK T n j = 307 := qWz_2 (by omega)
    refine tt_asksW hB hO (q := 222) (Or.inr ⟨by decide, by decide⟩) (by omega) hA (fun _ a2 h2 => ?_) (fun z => absurd (hkk.trans wk_222.symm) z)
    refine r_v ?_
    refine w_goto c_227_90 ?_
    refine z_retv c_227_189 ?_
    exact k a2 h2
  · refine z_tsw c_227_1 (by first | exact aRg_of _ | (unfold aRg; omega)) (pc2 := 93) (by rcases h1_ with rfl <;> rfl) ?_
    refine w_aload c_227_93 rfl ?_
    refine w_aload c_227_94 rfl ?_
    refine w_getR c_227_95 sp_157 (by decide) rfl pr_157_88 ?_
    refine wc_139 c_227_98 sp_157 (Nat.le_of_ble_eq_true rfl) (by omega) ?_
    have hkk : tkK T n j = 319 := qWz_3 (by omega)
    refine tt_asksW hB hO (q := 223) (Or.inr ⟨by decide, by decide⟩) (by omega) hA (fun _ a2 h2 => ?_) (fun z => absurd (hkk.trans wk_223.symm) z)
    refine r_v ?_
    refine w_goto c_227_101 ?_
    refine z_retv c_227_189 ?_
    exact k a2 h2
  · refine z_tsw c_227_1 (by first | exact aRg_of _ | (unfold aRg; omega)) (pc2 := 104) (by rcases h1_ with rfl <;> rfl) ?_
    refine w_aload c_227_104 rfl ?_
    refine w_aload c_227_105 rfl ?_
    refine w_getR c_227_106 sp_157 (by decide) rfl pr_157_89 ?_
    refine wc_139 c_227_109 sp_157 (Nat.le_of_ble_eq_true rfl) (by omega) ?_
    have hkk : tkK T n j = 320 := qWz_4 (by omega)
    refine tt_asksW hB hO (q := 224) (Or.inr ⟨by decide, by decide⟩) (by omega) hA (fun _ a2 h2 => ?_) (fun z => absurd (hkk.trans wk_224.symm) z)
    refine r_v ?_
    refine w_goto c_227_112 ?_
    refine z_retv c_227_189 ?_
    exact k a2 h2
  · refine z_tsw c_227_1 (by first | exact aRg_of _ | (unfold aRg; omega)) (pc2 := 115) (by rcases h1_ with rfl <;> rfl) ?_
    refine w_aload c_227_115 rfl ?_
    refine w_aload c_227_116 rfl ?_
    refine w_getR c_227_117 sp_157 (by decide) rfl pr_157_90 ?_
    refine wc_139 c_227_120 sp_157 (Nat.le_of_ble_eq_true rfl) (by omega) ?_
    have hkk : tkK T n j = 321 := qWz_5 (by omega)
    refine tt_asksW hB hO (q := 225) (Or.inr ⟨by decide, by decide⟩) (by omega) hA (fun _ a2 h2 => ?_) (fun z => absurd (hkk.trans wk_225.symm) z)
    refine r_v ?_
    refine w_goto c_227_123 ?_
    refine z_retv c_227_189 ?_
    exact k a2 h2
  · refine z_tsw c_227_1 (by first | exact aRg_of _ | (unfold aRg; omega)) (pc2 := 126) (by rcases h1_ with rfl <;> rfl) ?_
    refine w_aload c_227_126 rfl ?_
    refine w_aload c_227_127 rfl ?_
    refine w_getR c_227_128 sp_157 (by decide) rfl pr_157_91 ?_
    refine wc_139 c_227_131 sp_157 (Nat.le_of_ble_eq_true rfl) (by omega) ?_
    have hkk : tkK T n j = 322 := qWz_6 (by omega)
    refine tt_asksW hB hO (q := 226) (Or.inr ⟨by decide, by decide⟩) (by omega) hA (fun _ a2 h2 => ?_) (fun z => absurd (hkk.trans wk_226.symm) z)
    refine r_v ?_
    refine w_goto c_227_134 ?_
    refine z_retv c_227_189 ?_
    exact k a2 h2
  · refine z_tsw c_227_1 (by first | exact aRg_of _ | (unfold aRg; omega)) (pc2 := 137) (by rcases h1_ with rfl <;> rfl) ?_
    refine w_aload c_227_137 rfl ?_
    refine w_aload c_227_138 rfl ?_
    refine w_getR c_227_139 sp_157 (by decide) rfl pr_157_92 ?_
    refine wc_139 c_227_142 sp_157 (Nat.le_of_ble_eq_true rfl) (by omega) ?_
    have hkk : tkK T n j = 323 := qWz_7 (by omega)
    refine tt_asksW hB hO (q := 227) (Or.inr ⟨by decide, by decide⟩) (by omega) hA (fun _ a2 h2 => ?_) (fun z => absurd (hkk.trans wk_227.symm) z)
    refine r_v ?_
    refine w_goto c_227_145 ?_
    refine z_retv c_227_189 ?_
    exact k a2 h2
  · refine z_tsw c_227_1 (by first | exact aRg_of _ | (unfold aRg; omega)) (pc2 := 148) (by rcases h1_ with rfl <;> rfl) ?_
    refine w_aload c_227_148 rfl ?_
    refine w_aload c_227_149 rfl ?_
    refine w_getR c_227_150 sp_157 (by decide) rfl pr_157_93 ?_
    refine wc_139 c_227_153 sp_157 (Nat.le_of_ble_eq_true rfl) (by omega) ?_
    have hkk : tkK T n j = 324 := qWz_8 (by omega)
    refine tt_asksW hB hO (q := 228) (Or.inr ⟨by decide, by decide⟩) (by omega) hA (fun _ a2 h2 => ?_) (fun z => absurd (hkk.trans wk_228.symm) z)
    refine r_v ?_
    refine w_goto c_227_156 ?_
    refine z_retv c_227_189 ?_
    exact k a2 h2
  · refine z_tsw c_227_1 (by first | exact aRg_of _ | (unfold aRg; omega)) (pc2 := 159) (by rcases h1_ with rfl <;> rfl) ?_
    refine w_aload c_227_159 rfl ?_
    refine w_aload c_227_160 rfl ?_
    refine w_getR c_227_161 sp_157 (by decide) rfl pr_157_94 ?_
    refine wc_139 c_227_164 sp_157 (Nat.le_of_ble_eq_true rfl) (by omega) ?_
    have hkk : tkK T n j = 325 := qWz_9 (by omega)
    refine tt_asksW hB hO (q := 229) (Or.inr ⟨by decide, by decide⟩) (by omega) hA (fun _ a2 h2 => ?_) (fun z => absurd (hkk.trans wk_229.symm) z)
    refine r_v ?_
    refine w_goto c_227_167 ?_
    refine z_retv c_227_189 ?_
    exact k a2 h2
  · refine z_tsw c_227_1 (by first | exact aRg_of _ | (unfold aRg; omega)) (pc2 := 170) (by rcases h1_ with rfl <;> rfl) ?_
    refine w_aload c_227_170 rfl ?_
    refine w_aload c_227_171 rfl ?_
    refine w_getR c_227_172 sp_157 (by decide) rfl pr_157_95 ?_
    refine wc_139 c_227_175 sp_157 (Nat.le_of_ble_eq_true rfl) (by omega) ?_
    have hkk : tkK T n j = 313 := qWz_10 (by omega)
    refine tt_asksW hB hO (q := 230) (Or.inr ⟨by decide, by decide⟩) (by omega) hA (fun _ a2 h2 => ?_) (fun z => absurd (hkk.trans wk_230.symm) z)
    refine r_v ?_
    refine w_goto c_227_178 ?_
    refine z_retv c_227_189 ?_
    exact k a2 h2
  · refine z_tsw c_227_1 (by first | exact aRg_of _ | (unfold aRg; omega)) (pc2 := 181) (by (by_cases hq : v < 0 ∨ 10 < v); (rw [if_pos hq]; rfl); (exfalso; omega)) ?_
    refine w_aload c_227_181 rfl ?_
    refine w_aload c_227_182 rfl ?_
    refine w_getR c_227_183 sp_157 (by decide) rfl pr_157_96 ?_
    refine wc_139 c_227_186 sp_157 (Nat.le_of_ble_eq_true rfl) (by omega) ?_
    have hkk : tkK T n j = 312 := qWz_11 (by omega)
    refine tt_asksW hB hO (q := 231) (Or.inr ⟨by decide, by decide⟩) (by omega) hA (fun _ a2 h2 => ?_) (fun z => absurd (hkk.trans wk_231.symm) z)
    refine r_v ?_
    refine z_retv c_227_189 ?_
    exact k a2 h2

