/-! the reference: the rows of a question or a rule being read (p87.py) -/
/-- a row of numbers, the last first -/
def stk (I : aFI) (c : Nat) : List Int → Prop
  | [] => True
  | v :: r => I c r.length = iI v ∧ stk I c r
theorem stk.fr {I I2 : aFI} {c : Nat} : ∀ {W : List Int}, stk I c W → (∀ k : Nat, k < W.length → I2 c k = I c k) → stk I2 c W
  | [], _, _ => trivial
  | v :: r, h, hf => ⟨(hf r.length (by simp only [List.length_cons]; omega)).trans h.1, stk.fr h.2 (fun k hk => hf k (by simp only [List.length_cons]; omega))⟩
theorem stk.set {I : aFI} {c : Nat} {v : Int} {W : List Int} (h : stk I c W) : stk (aUp I c W.length (iI v)) c (v :: W) := ⟨up_eq, h.fr (fun k hk => up_ne (by omega))⟩
theorem stk.top {I : aFI} {c : Nat} {v : Int} {W : List Int} (h : stk I c (v :: W)) {j : Int} (hj : j = W.length) : I c j.toNat = iI v := by subst hj; exact h.1
/-- the waiting signs W, the codes O, how many are open, the base -/
def qS (I : aFI) (W O : List Int) (op base : Int) : Prop := stk I 233 W ∧ I 157 100 = iI (W.length : Int) ∧ stk I 232 O ∧ I 157 98 = iI (O.length : Int) ∧ I 157 101 = iI op ∧ I 157 102 = iI base
abbrev PQn : Nat → Nat → Prop := fun q k => (q = 157 ∧ (k = 98 ∨ k = 100 ∨ k = 101 ∨ k = 102)) ∨ q = 232 ∨ q = 233
abbrev wOK (W : List Int) : Prop := ∀ v ∈ W, 0 ≤ v ∧ v < 100
section QS
variable {I I1 I2 : aFI} {W O : List Int} {op base v x : Int}
theorem qS.fr (h : qS I W O op base) (hf : ∀ q k : Nat, (q = 157 ∧ (k = 98 ∨ k = 100 ∨ k = 101 ∨ k = 102)) ∨ q = 232 ∨ q = 233 → I2 q k = I q k) : qS I2 W O op base :=
  ⟨h.1.fr (fun k _ => hf 233 k (by omega)), (hf 157 100 (by omega)).trans h.2.1, h.2.2.1.fr (fun k _ => hf 232 k (by omega)), (hf 157 98 (by omega)).trans h.2.2.2.1, (hf 157 101 (by omega)).trans h.2.2.2.2.1, (hf 157 102 (by omega)).trans h.2.2.2.2.2⟩
theorem qS.code (h : qS I W O op base) (h1 : I1 = aUp I 232 O.length (iI v)) (h2 : I2 = aUp I1 157 98 (iI (x : Int))) (hx : x = O.length + 1) : qS I2 W (v :: O) op base := by
  subst h2; subst h1; subst hx
  refine ⟨h.1.fr (fun k _ => (up_ne (by omega)).trans (up_ne (by omega))), (up_ne (by omega)).trans ((up_ne (by omega)).trans h.2.1), (h.2.2.1.set (v := v)).fr (fun k _ => up_ne (by omega)), up_eq.trans (congrArg iI (by rw [List.length_cons]; omega)), (up_ne (by omega)).trans ((up_ne (by omega)).trans h.2.2.2.2.1), (up_ne (by omega)).trans ((up_ne (by omega)).trans h.2.2.2.2.2)⟩
theorem qS.push (h : qS I W O op base) (h1 : I1 = aUp I 233 W.length (iI v)) (h2 : I2 = aUp I1 157 100 (iI (x : Int))) (hx : x = W.length + 1) : qS I2 (v :: W) O op base := by
  subst h2; subst h1; subst hx
  refine ⟨(h.1.set (v := v)).fr (fun k _ => up_ne (by omega)), up_eq.trans (congrArg iI (by rw [List.length_cons]; omega)), h.2.2.1.fr (fun k _ => (up_ne (by omega)).trans (up_ne (by omega))), (up_ne (by omega)).trans ((up_ne (by omega)).trans h.2.2.2.1), (up_ne (by omega)).trans ((up_ne (by omega)).trans h.2.2.2.2.1), (up_ne (by omega)).trans ((up_ne (by omega)).trans h.2.2.2.2.2)⟩
theorem qS.pop (h : qS I (v :: W) O op base) (h2 : I2 = aUp I 157 100 (iI (x : Int))) (hx : x = W.length) : qS I2 W O op base := by
  subst h2; subst hx
  exact ⟨h.1.2.fr (fun k _ => up_ne (by omega)), up_eq, h.2.2.1.fr (fun k _ => up_ne (by omega)), (up_ne (by omega)).trans h.2.2.2.1, (up_ne (by omega)).trans h.2.2.2.2.1, (up_ne (by omega)).trans h.2.2.2.2.2⟩
theorem qS.opn (h : qS I W O op base) (h2 : I2 = aUp I 157 101 (iI x)) : qS I2 W O x base := by
  subst h2
  exact ⟨h.1.fr (fun k _ => up_ne (by omega)), (up_ne (by omega)).trans h.2.1, h.2.2.1.fr (fun k _ => up_ne (by omega)), (up_ne (by omega)).trans h.2.2.2.1, up_eq, (up_ne (by omega)).trans h.2.2.2.2.2⟩
theorem qS.bas (h : qS I W O op base) (h2 : I2 = aUp I 157 102 (iI x)) : qS I2 W O op x := by
  subst h2
  exact ⟨h.1.fr (fun k _ => up_ne (by omega)), (up_ne (by omega)).trans h.2.1, h.2.2.1.fr (fun k _ => up_ne (by omega)), (up_ne (by omega)).trans h.2.2.2.1, (up_ne (by omega)).trans h.2.2.2.2.1, up_eq⟩
/-- a waiting sign put in place of the top -/
theorem qS.rep (h : qS I (v :: W) O op base) (h2 : I2 = aUp I 233 W.length (iI x)) : qS I2 (x :: W) O op base := by
  subst h2
  exact ⟨h.1.2.set, (up_ne (by omega)).trans h.2.1, h.2.2.1.fr (fun k _ => up_ne (by omega)), (up_ne (by omega)).trans h.2.2.2.1, (up_ne (by omega)).trans h.2.2.2.2.1, (up_ne (by omega)).trans h.2.2.2.2.2⟩
theorem oq_k {sc : aSc} {d y pc : Nat} {ls st : List Value} {L : aFL} {R : aFR} {Q : aPo} {P : Nat → Nat → Prop} {I0 I : aFI} {a en b bp np nm : Int} {q2 k2 : Nat} {x : Int32} (hF : frG P I0 I) (hp : P q2 k2) (hne : ¬ (q2 = 157 ∧ (k2 = 2 ∨ k2 = 4 ∨ k2 = 5 ∨ k2 = 6 ∨ k2 = 10 ∨ k2 = 43))) (k : ∀ I2 : aFI, I2 = aUp I q2 k2 x → frG P I0 I2 → aWp sc d y pc ls st (oP I2 a en b bp np nm) L R Q) : aWp sc d y pc ls st (aUp (oP I a en b bp np nm) q2 k2 x) L R Q := by
  rw [oP_out hne]; exact k _ rfl (hF.up hp)
theorem oB.pq {I0 I : aFI} {T : Int → Int} {n : Int} (h : oB I0 T n) (hF : frG PQn I0 I) : oB I T n := ⟨(hF 157 3 (by decide)).trans h.1, fun j h1 h2 => (hF 158 _ (by omega)).trans (h.2.1 j h1 h2), h.2.2⟩
theorem oW.pq {I0 I : aFI} (h : oW I0) (hF : frG PQn I0 I) : oW I := fun q hq j h1 h2 => (hF q _ (by unfold isWd at hq; omega)).trans (h q hq j h1 h2)
end QS
set_option maxHeartbeats 1000000 in
theorem t_qCode {d : Nat} {I : aFI} {L : aFL} {Q : aPo} {sh : Nat} {su : Option Nat} {a en b bp np nm : Int} {W O : List Int} {op base : Int} {v : Int} (hq : qS I W O op base) (hl : O.length < 1700) (k : ∀ I2 : aFI, qS I2 W (v :: O) op base → frG PQn I I2 → Q none (oP I2 a en b bp np nm) L (aR sh su)) : aWp none d 218 0 [.ref 157, .int (iI v)] [] (oP I a en b bp np nm) L (aR sh su) Q := by
  refine w_aload c_218_0 rfl ?_
  refine w_getR c_218_1 sp_157 (by decide) rfl pr_157_97 ?_
  refine w_aload c_218_4 rfl ?_
  refine z_getZ c_218_5 sp_157 (by decide) rfl hq.2.2.2.1 ?_
  refine w_iload c_218_8 rfl ?_
  refine z_iastore c_218_9 sp_232 (by omega) (by decide) ?_
  refine oq_k (frG.rf (P := PQn) (I := I)) (Or.inr (Or.inl rfl)) (by omega) (fun I1 h1 hF1 => ?_)
  have hc1 : I1 157 98 = iI (O.length : Int) := by rw [h1]; exact (up_ne (by omega)).trans hq.2.2.2.1
  refine w_aload c_218_10 rfl ?_
  refine w_dup c_218_11 rfl ?_
  refine z_getZ c_218_12 sp_157 (by decide) rfl hc1 ?_
  refine z_push c_218_15 ?_
  refine z_iadd c_218_16 ?_
  refine z_putZ c_218_17 sp_157 (by decide) rfl ?_
  refine oq_k hF1 (Or.inl ⟨rfl, Or.inl rfl⟩) (by decide) (fun I2 h2 hF2 => ?_)
  refine z_retv c_218_20 ?_
  exact k I2 (hq.code h1 h2 rfl) hF2

set_option maxHeartbeats 1000000 in
theorem t_qIsOn {d : Nat} {I : aFI} {L : aFL} {Q : aPo} {sh : Nat} {su : Option Nat} {a en b bp np nm : Int} {W O : List Int} {op base : Int} {v : Int} (hq : qS I W O op base) (hw : wOK W) (hl : W.length < 1700) (hv : 0 ≤ v ∧ v < 100) (k : Q (some (.int (aBo (decide (W.head? = some v))))) (oP I a en b bp np nm) L (aR sh su)) : aWp none d 220 0 [.ref 157, .int (iI v)] [] (oP I a en b bp np nm) L (aR sh su) Q := by
  have hw2 : W = [] ∨ ∃ u W2, W = u :: W2 := by cases W; exact Or.inl rfl; exact Or.inr ⟨_, _, rfl⟩
  have hne : 0 < W.length → ∃ u W2, W = u :: W2 ∧ (0 ≤ u ∧ u < 100) := fun h => by
    rcases hw2 with rfl | ⟨u, W2, rfl⟩
    · exact absurd h (by decide)
    · exact ⟨u, W2, rfl, hw u List.mem_cons_self⟩
  refine w_aload c_220_0 rfl ?_
  refine z_getZ c_220_1 sp_157 (by decide) rfl hq.2.1 ?_
  refine z_if_le c_220_4 (by first | exact aRg_of _ | (unfold aRg; omega)) (fun h1_ => ?_) (fun h1_ => ?_)
  · refine z_push c_220_26 ?_
    refine z_ret0 c_220_27 rfl ?_
    exact q_b k (decide_eq_false (fun z => by first | (rcases hw2 with rfl | ⟨u, W2, rfl⟩; cases z; simp only [List.length_cons] at *; omega) | (simp only [List.head?_cons, Option.some.injEq] at z; omega)))
  · obtain ⟨u, W2, rfl, hu⟩ := hne (by omega)
    have hll : (((u :: W2).length : Nat) : Int) = (W2.length : Int) + 1 := by rw [List.length_cons]; omega
    refine w_aload c_220_7 rfl ?_
    refine w_getR c_220_8 sp_157 (by decide) rfl pr_157_99 ?_
    refine w_aload c_220_11 rfl ?_
    refine z_getZ c_220_12 sp_157 (by decide) rfl hq.2.1 ?_
    refine z_push c_220_15 ?_
    refine z_isub c_220_16 ?_
    refine z_iaload c_220_17 sp_233 (by omega) (by first | decide | omega) (hq.1.top (by omega)) ?_
    refine w_iload c_220_18 rfl ?_
    refine z_ic_ne c_220_19 (by first | exact aRg_of _ | (unfold aRg; omega)) (by first | exact aRg_of _ | (unfold aRg; omega)) (fun h2_ => ?_) (fun h2_ => ?_)
    · refine z_push c_220_26 ?_
      refine z_ret0 c_220_27 rfl ?_
      exact q_b k (decide_eq_false (fun z => by first | (rcases hw2 with rfl | ⟨u, W2, rfl⟩; cases z; simp only [List.length_cons] at *; omega) | (simp only [List.head?_cons, Option.some.injEq] at z; omega)))
    · refine z_push c_220_22 ?_
      refine w_goto c_220_23 ?_
      refine z_ret1 c_220_27 rfl ?_
      exact q_b k (decide_eq_true (by rw [show u = v by omega]; rfl))

set_option maxHeartbeats 1000000 in
theorem t_qDrops {d : Nat} {I : aFI} {L : aFL} {Q : aPo} {sh : Nat} {su : Option Nat} {a en b bp np nm : Int} {W O : List Int} {op base : Int} {v : Int} (hq : qS I (v :: W) O op base) (hl : W.length < 1650) (hl2 : O.length < 1700) (hd : 1 ≤ d) (k : ∀ I2 : aFI, qS I2 W (v :: O) op base → frG PQn I I2 → Q none (oP I2 a en b bp np nm) L (aR sh su)) : aWp none d 221 0 [.ref 157] [] (oP I a en b bp np nm) L (aR sh su) Q := by
  have hll : ((v :: W).length : Int) = W.length + 1 := by rw [List.length_cons]; omega
  refine w_aload c_221_0 rfl ?_
  refine w_dup c_221_1 rfl ?_
  refine z_getZ c_221_2 sp_157 (by decide) rfl hq.2.1 ?_
  refine z_push c_221_5 ?_
  refine z_isub c_221_6 ?_
  refine z_putZ c_221_7 sp_157 (by decide) rfl ?_
  refine oq_k (frG.rf (P := PQn) (I := I)) (Or.inl ⟨rfl, Or.inr (Or.inl rfl)⟩) (by decide) (fun I1 h1 hF1 => ?_)
  have hq1 : qS I1 W O op base := hq.pop h1 (by omega)
  have hv1 : I1 233 W.length = iI v := by rw [h1]; exact (up_ne (by omega)).trans hq.1.1
  refine w_aload c_221_10 rfl ?_
  refine w_aload c_221_11 rfl ?_
  refine w_getR c_221_12 sp_157 (by decide) rfl pr_157_99 ?_
  refine w_aload c_221_15 rfl ?_
  refine z_getZ c_221_16 sp_157 (by decide) rfl hq1.2.1 ?_
  refine z_iaload c_221_19 sp_233 (by omega) (by first | decide | omega) hv1 ?_
  refine wc_218 c_221_20 sp_157 (Nat.le_of_ble_eq_true rfl) (by omega) ?_
  refine t_qCode hq1 hl2 (fun I2 hq2 hF2 => ?_)
  refine r_v ?_
  refine z_retv c_221_23 ?_
  exact k I2 hq2 (hF1.tr hF2)

def isBr (v : Int) : Bool := decide (20 ≤ v ∧ v ≤ 24)
set_option maxHeartbeats 1000000 in
theorem t_qIsBracket {d : Nat} {I : aFI} {L : aFL} {R : aFR} {Q : aPo} {v : Int} (hv : 0 ≤ v ∧ v < 100) (k : Q (some (.int (aBo (isBr v)))) I L R) : aWp none d 222 0 [.int (iI v)] [] I L R Q := by
  refine w_iload c_222_0 rfl ?_
  refine z_push c_222_1 ?_
  refine z_ic_lt c_222_3 (by first | exact aRg_of _ | (unfold aRg; omega)) (by first | exact aRg_of _ | (unfold aRg; omega)) (fun h1_ => ?_) (fun h1_ => ?_)
  · refine z_push c_222_16 ?_
    refine z_ret0 c_222_17 rfl ?_
    exact q_b k (decide_eq_false (by omega))
  · refine w_iload c_222_6 rfl ?_
    refine z_push c_222_7 ?_
    refine z_ic_gt c_222_9 (by first | exact aRg_of _ | (unfold aRg; omega)) (by first | exact aRg_of _ | (unfold aRg; omega)) (fun h2_ => ?_) (fun h2_ => ?_)
    · refine z_push c_222_16 ?_
      refine z_ret0 c_222_17 rfl ?_
      exact q_b k (decide_eq_false (by omega))
    · refine z_push c_222_12 ?_
      refine w_goto c_222_13 ?_
      refine z_ret1 c_222_17 rfl ?_
      exact q_b k (decide_eq_true (by omega))

set_option maxHeartbeats 1000000 in
theorem t_qOpens {d : Nat} {I : aFI} {L : aFL} {Q : aPo} {sh : Nat} {su : Option Nat} {a en b bp np nm : Int} {W O : List Int} {op base : Int} {v pl : Int} (hq : qS I W O op base) (hl : W.length < 1700) (hop : -2000 ≤ op ∧ op ≤ 6) (hb : b = 0) (hd : 1 ≤ d) (k1 : op = 6 → Q none (oP I a en 4 pl np nm) L (aR sh su)) (k2 : ¬ op = 6 → ∀ I2 : aFI, qS I2 (v :: W) O (op + 1) base → frG PQn I I2 → Q none (oP I2 a en b bp np nm) L (aR sh su)) : aWp none d 219 0 [.ref 157, .int (iI v), .int (iI pl)] [] (oP I a en b bp np nm) L (aR sh su) Q := by
  subst hb
  refine w_aload c_219_0 rfl ?_
  refine z_getZ c_219_1 sp_157 (by decide) rfl rfl ?_
  refine z_if_eq c_219_4 (by first | exact aRg_of _ | (unfold aRg; omega)) (fun h1_ => ?_) (fun h1_ => ?_)
  rotate_left
  · exact absurd rfl h1_
  refine w_aload c_219_8 rfl ?_
  refine z_getZ c_219_9 sp_157 (by decide) rfl hq.2.2.2.2.1 ?_
  refine z_push c_219_12 ?_
  refine z_ic_ne c_219_14 (by first | exact aRg_of _ | (unfold aRg; omega)) (by first | exact aRg_of _ | (unfold aRg; omega)) (fun h2_ => ?_) (fun h2_ => ?_)
  · refine w_aload c_219_24 rfl ?_
    refine w_dup c_219_25 rfl ?_
    refine z_getZ c_219_26 sp_157 (by decide) rfl hq.2.2.2.2.1 ?_
    refine z_push c_219_29 ?_
    refine z_iadd c_219_30 ?_
    refine z_putZ c_219_31 sp_157 (by decide) rfl ?_
    refine oq_k (frG.rf (P := PQn) (I := I)) (Or.inl ⟨rfl, Or.inr (Or.inr (Or.inl rfl))⟩) (by decide) (fun I1 h1 hF1 => ?_)
    have hq1 := hq.opn h1
    refine w_aload c_219_34 rfl ?_
    refine w_getR c_219_35 sp_157 (by decide) rfl pr_157_99 ?_
    refine w_aload c_219_38 rfl ?_
    refine z_getZ c_219_39 sp_157 (by decide) rfl hq1.2.1 ?_
    refine w_iload c_219_42 rfl ?_
    refine z_iastore c_219_43 sp_233 (by omega) (by decide) ?_
    refine oq_k hF1 (Or.inr (Or.inr rfl)) (by omega) (fun I2 h2 hF2 => ?_)
    have hc2 : I2 157 100 = iI (W.length : Int) := by rw [h2]; exact (up_ne (by omega)).trans hq1.2.1
    refine w_aload c_219_44 rfl ?_
    refine w_dup c_219_45 rfl ?_
    refine z_getZ c_219_46 sp_157 (by decide) rfl hc2 ?_
    refine z_push c_219_49 ?_
    refine z_iadd c_219_50 ?_
    refine z_putZ c_219_51 sp_157 (by decide) rfl ?_
    refine oq_k hF2 (Or.inl ⟨rfl, Or.inr (Or.inl rfl)⟩) (by decide) (fun I3 h3 hF3 => ?_)
    refine z_retv c_219_54 ?_
    exact k2 (by omega) I3 (hq1.push h2 h3 rfl) hF3
  · refine w_aload c_219_17 rfl ?_
    refine z_push c_219_18 ?_
    refine w_iload c_219_19 rfl ?_
    refine wc_133 c_219_20 sp_157 (Nat.le_of_ble_eq_true rfl) (by omega) ?_
    refine t_fail (by unfold aRg; omega) (fun z => absurd rfl z) (fun _ => ?_)
    · refine r_v ?_
      refine z_retv c_219_23 ?_
      exact k1 (by omega)

/-- the nearest bracket above the base, or none -/
def brk : List Int → Int
  | [] => -1
  | u :: U => if isBr u = true then u else brk U
/-- waiting signs dropped while p holds of the top -/
def dW (p : Int → Bool) : List Int → List Int → List Int × List Int
  | [], O => ([], O)
  | u :: U, O => if p u = true then dW p U (u :: O) else (u :: U, O)
/-- brackets of one sort closed: each is a code, and is open no more -/
def eP : List Int → List Int → Int → List Int × List Int × Int
  | [], O, op => ([], O, op)
  | u :: U, O, op => if 60 ≤ u then eP U (u :: O) (op - 1) else (u :: U, O, op)
abbrev nBr (v : Int) : Bool := !isBr v
theorem dW_len {p : Int → Bool} : ∀ (U O : List Int), (dW p U O).1.length ≤ U.length ∧ (dW p U O).1.length + (dW p U O).2.length = U.length + O.length
  | [], O => ⟨Nat.le_refl _, rfl⟩
  | u :: U, O => by
    have h := dW_len (p := p) U (u :: O)
    unfold dW
    split
    · simp only [List.length_cons] at h ⊢; omega
    · exact ⟨Nat.le_refl _, rfl⟩
theorem dW_mem {p : Int → Bool} : ∀ (U O : List Int) (v : Int), v ∈ (dW p U O).1 → v ∈ U
  | [], O, v, h => h
  | u :: U, O, v, h => by
    unfold dW at h
    split at h
    · exact List.mem_cons_of_mem _ (dW_mem U _ v h)
    · exact h
theorem eP_len : ∀ (U O : List Int) (op : Int), (eP U O op).1.length ≤ U.length ∧ (eP U O op).1.length + (eP U O op).2.1.length = U.length + O.length
  | [], O, op => ⟨Nat.le_refl _, rfl⟩
  | u :: U, O, op => by
    have h := eP_len U (u :: O) (op - 1)
    unfold eP
    split
    · simp only [List.length_cons] at h ⊢; omega
    · exact ⟨Nat.le_refl _, rfl⟩
theorem eP_mem : ∀ (U O : List Int) (op : Int) (v : Int), v ∈ (eP U O op).1 → v ∈ U
  | [], O, op, v, h => h
  | u :: U, O, op, v, h => by
    unfold eP at h
    split at h
    · exact List.mem_cons_of_mem _ (eP_mem U _ _ v h)
    · exact h
set_option maxHeartbeats 2000000 in
theorem t_qBracket_1 {d : Nat} {I : aFI} {L : aFL} {Q : aPo} {sh : Nat} {su : Option Nat} {a en b bp np nm : Int} {W O : List Int} {op base : Int} (hq : qS I W O op base) (hb0 : 0 ≤ base) (hd : 1 ≤ d) : ∀ (n : Nat) (U V : List Int) (i : Int), U.length < n → (i = base + U.length - 1) → (base + U.length ≤ 1660) → (stk I 233 (U ++ V)) → ((V.length : Int) = base) → (wOK U) → (Q (some (.int (iI (brk U)))) (oP I a en b bp np nm) L (aR sh su)) → aWp none d 223 7 [.ref 157, .int (iI i)] [] (oP I a en b bp np nm) L (aR sh su) Q := by
  intro n
  induction n with
  | zero => intro U V i h; omega
  | succ n ih =>
    intro U V i hn2 hi hl hs hV hw k
    rcases U with _ | ⟨u, U⟩
    · simp only [List.length_nil] at hi hl
      refine w_iload c_223_7 rfl ?_
      refine w_aload c_223_8 rfl ?_
      refine z_getZ c_223_9 sp_157 (by decide) rfl hq.2.2.2.2.2 ?_
      refine z_ic_lt c_223_12 (by first | exact aRg_of _ | (unfold aRg; omega)) (by first | exact aRg_of _ | (unfold aRg; omega)) (fun h1_ => ?_) (fun h1_ => ?_)
      rotate_left
      · exfalso; omega
      refine w_iload c_223_33 rfl ?_
      refine w_aload c_223_34 rfl ?_
      refine z_getZ c_223_35 sp_157 (by decide) rfl hq.2.2.2.2.2 ?_
      refine z_ic_lt c_223_38 (by first | exact aRg_of _ | (unfold aRg; omega)) (by first | exact aRg_of _ | (unfold aRg; omega)) (fun h2_ => ?_) (fun h2_ => ?_)
      rotate_left
      · exfalso; omega
      refine z_push c_223_50 ?_
      refine z_ret c_223_51 rfl ?_
      exact k
    · simp only [List.length_cons] at hi hl hn2
      have hs2 : stk I 233 (u :: (U ++ V)) := hs
      have hu := hw u List.mem_cons_self
      refine w_iload c_223_7 rfl ?_
      refine w_aload c_223_8 rfl ?_
      refine z_getZ c_223_9 sp_157 (by decide) rfl hq.2.2.2.2.2 ?_
      refine z_ic_lt c_223_12 (by first | exact aRg_of _ | (unfold aRg; omega)) (by first | exact aRg_of _ | (unfold aRg; omega)) (fun h1_ => ?_) (fun h1_ => ?_)
      · exfalso; omega
      refine w_aload c_223_15 rfl ?_
      refine w_getR c_223_16 sp_157 (by decide) rfl pr_157_99 ?_
      refine w_iload c_223_19 rfl ?_
      refine z_iaload c_223_20 sp_233 (by omega) (by first | decide | omega) (hs2.top (by rw [List.length_append]; omega)) ?_
      refine wc_222 c_223_21 (Nat.le_of_ble_eq_true rfl) (by omega) ?_
      refine t_qIsBracket hu ?_
      refine r_i ?_
      refine b_if_ne c_223_24 (fun h2_ => ?_) (fun h2_ => ?_)
      · refine w_iload c_223_33 rfl ?_
        refine w_aload c_223_34 rfl ?_
        refine z_getZ c_223_35 sp_157 (by decide) rfl hq.2.2.2.2.2 ?_
        refine z_ic_lt c_223_38 (by first | exact aRg_of _ | (unfold aRg; omega)) (by first | exact aRg_of _ | (unfold aRg; omega)) (fun h3_ => ?_) (fun h3_ => ?_)
        · exfalso; omega
        refine w_aload c_223_41 rfl ?_
        refine w_getR c_223_42 sp_157 (by decide) rfl pr_157_99 ?_
        refine w_iload c_223_45 rfl ?_
        refine z_iaload c_223_46 sp_233 (by omega) (by first | decide | omega) (hs2.top (by rw [List.length_append]; omega)) ?_
        refine w_goto c_223_47 ?_
        refine z_ret c_223_51 rfl ?_
        have hk := k
        unfold brk at hk
        rw [if_pos (by assumption)] at hk
        exact hk
      · refine z_iinc c_223_27 rfl rfl ?_
        refine w_goto c_223_30 ?_
        have hk := k
        unfold brk at hk
        rw [if_neg (by simp only [*]; exact Bool.noConfusion)] at hk
        exact ih U V (i + -1) (by omega) (by omega) (by omega) hs2.2 hV (fun v hv => hw v (List.mem_cons_of_mem _ hv)) hk

set_option maxHeartbeats 1000000 in
theorem t_qBracket {d : Nat} {I : aFI} {L : aFL} {Q : aPo} {sh : Nat} {su : Option Nat} {a en b bp np nm : Int} {U B O : List Int} {op : Int} (hq : qS I (U ++ B) O op B.length) (hw : wOK (U ++ B)) (hl : (U ++ B).length < 1650) (hd : 1 ≤ d) (k : Q (some (.int (iI (brk U)))) (oP I a en b bp np nm) L (aR sh su)) : aWp none d 223 0 [.ref 157, .null] [] (oP I a en b bp np nm) L (aR sh su) Q := by
  have hll : ((U ++ B).length : Int) = U.length + B.length := by rw [List.length_append]; omega
  refine w_aload c_223_0 rfl ?_
  refine z_getZ c_223_1 sp_157 (by decide) rfl hq.2.1 ?_
  refine z_push c_223_4 ?_
  refine z_isub c_223_5 ?_
  refine w_istore c_223_6 (Nat.le_of_ble_eq_true rfl) rfl ?_
  exact t_qBracket_1 hq (by omega) hd _ U B _ (Nat.lt_succ_self _) (by omega) (by omega) hq.1 rfl (fun v hv => hw v (List.mem_append_left _ hv)) k

