/-! the reference: a test read (p94.py) -/
/-- the reference's way through a test: fuel; 0 a fact is due, 1 a fact stands -/
def rmT (K PL Z : Nat → Int) (tk : Int) : Nat → Nat → Nat → List Int → List Int → Int → Oc
  | 0, _, j, _, O, op => (9, 0, j, O, op)
  | f + 1, 0, j, W, O, op =>
    if K j = 91 then (if op = 6 then (4, PL j, j, O, op) else rmT K PL Z tk f 0 (j + 1) (25 :: W) O (op + 1))
    else if K j = 328 then (if op = 6 then (4, PL j, j, O, op) else rmT K PL Z tk f 0 (j + 1) (12 :: W) O (op + 1))
    else if ¬ (ftR K PL Z tk j O op).1 = 0 then ftR K PL Z tk j O op
    else rmT K PL Z tk f 1 (ftR K PL Z tk j O op).2.2.1 (eN W (ftR K PL Z tk j O op).2.2.2.1 (ftR K PL Z tk j O op).2.2.2.2).1 (eN W (ftR K PL Z tk j O op).2.2.2.1 (ftR K PL Z tk j O op).2.2.2.2).2.1 (eN W (ftR K PL Z tk j O op).2.2.2.1 (ftR K PL Z tk j O op).2.2.2.2).2.2
  | f + 1, 1, j, W, O, op =>
    if K j = 93 ∧ (25 : Int) ∈ W then rmT K PL Z tk f 1 (j + 1) (eN (dW n25 W O).1.tail (dW n25 W O).2 (op - 1)).1 (eN (dW n25 W O).1.tail (dW n25 W O).2 (op - 1)).2.1 (eN (dW n25 W O).1.tail (dW n25 W O).2 (op - 1)).2.2
    else if K j = 327 then rmT K PL Z tk f 0 (j + 1) (10 :: (dW i10 W O).1) (dW i10 W O).2 op
    else if K j = 326 then rmT K PL Z tk f 0 (j + 1) (11 :: (dW iAO W O).1) (dW iAO W O).2 op
    else if (25 : Int) ∈ W then (1, PL j, j, O, op)
    else (0, 0, j, (dW (fun _ => true) W O).2, op)
  | _ + 1, _ + 2, j, _, O, op => (9, 0, j, O, op)
theorem rmT_0 {K PL Z : Nat → Int} {tk : Int} {f j : Nat} {W O : List Int} {op : Int} : rmT K PL Z tk (f + 1) 0 j W O op =
    if K j = 91 then (if op = 6 then (4, PL j, j, O, op) else rmT K PL Z tk f 0 (j + 1) (25 :: W) O (op + 1))
    else if K j = 328 then (if op = 6 then (4, PL j, j, O, op) else rmT K PL Z tk f 0 (j + 1) (12 :: W) O (op + 1))
    else if ¬ (ftR K PL Z tk j O op).1 = 0 then ftR K PL Z tk j O op
    else rmT K PL Z tk f 1 (ftR K PL Z tk j O op).2.2.1 (eN W (ftR K PL Z tk j O op).2.2.2.1 (ftR K PL Z tk j O op).2.2.2.2).1 (eN W (ftR K PL Z tk j O op).2.2.2.1 (ftR K PL Z tk j O op).2.2.2.2).2.1 (eN W (ftR K PL Z tk j O op).2.2.2.1 (ftR K PL Z tk j O op).2.2.2.2).2.2 := rfl
theorem rmT_1 {K PL Z : Nat → Int} {tk : Int} {f j : Nat} {W O : List Int} {op : Int} : rmT K PL Z tk (f + 1) 1 j W O op =
    if K j = 93 ∧ (25 : Int) ∈ W then rmT K PL Z tk f 1 (j + 1) (eN (dW n25 W O).1.tail (dW n25 W O).2 (op - 1)).1 (eN (dW n25 W O).1.tail (dW n25 W O).2 (op - 1)).2.1 (eN (dW n25 W O).1.tail (dW n25 W O).2 (op - 1)).2.2
    else if K j = 327 then rmT K PL Z tk f 0 (j + 1) (10 :: (dW i10 W O).1) (dW i10 W O).2 op
    else if K j = 326 then rmT K PL Z tk f 0 (j + 1) (11 :: (dW iAO W O).1) (dW iAO W O).2 op
    else if (25 : Int) ∈ W then (1, PL j, j, O, op)
    else (0, 0, j, (dW (fun _ => true) W O).2, op) := rfl
theorem wk_214 : wcode 214 = 328 := by decide +kernel
theorem wk_215 : wcode 215 = 327 := by decide +kernel
theorem wk_216 : wcode 216 = 326 := by decide +kernel
theorem wT.cons {v : Int} {W : List Int} (h : wT W) (hv : v = 10 ∨ v = 11 ∨ v = 12 ∨ v = 25) : wT (v :: W) := fun x hx => (List.mem_cons.mp hx).elim (fun z => by rw [z]; exact hv) (h x)
theorem wT.dw {p : Int → Bool} {W O : List Int} (h : wT W) : wT (dW p W O).1 := fun v hv => h v (dW_mem _ _ _ hv)
theorem wT.en {W O : List Int} {op : Int} (h : wT W) : wT (eN W O op).1 := fun v hv => h v (eN_mem _ _ _ _ hv)
section QI2
variable {T : Int → Int} {n : Int} {sl : Nat} {W O W2 O2 : List Int} {op op2 : Int} {j j2 : Nat}
theorem qI.mv (h : qI T n sl W [] O op j) (hw : wOK W2) (h1 : W2.length + O2.length ≤ W.length + O.length) (h2 : (W2.length : Int) - op2 ≤ W.length - op) (h3 : op2 ≤ 6) : qI T n sl W2 [] O2 op2 j := ⟨hw, by have := h.2.1; show W2.length + O2.length + sl ≤ j; have e : ([] ++ W).length = W.length := rfl; omega, by have := h.2.2.1; show (W2.length : Int) ≤ op2 + j; have e : ([] ++ W).length = W.length := rfl; omega, h3, h.2.2.2.2⟩
theorem qI.mv1 (h : qI T n sl W [] O op j) (hw : wOK W2) (h1 : W2.length + O2.length ≤ W.length + O.length + 1) (h2 : (W2.length : Int) - op2 ≤ W.length - op + 1) (h3 : op2 ≤ 6) (hj : ((j + 1 : Nat) : Int) ≤ (tkS T n (j + 1)).1) : qI T n sl W2 [] O2 op2 (j + 1) := ⟨hw, by have := h.2.1; show W2.length + O2.length + sl ≤ j + 1; have e : ([] ++ W).length = W.length := rfl; omega, by have := h.2.2.1; show (W2.length : Int) ≤ op2 + ((j + 1 : Nat) : Int); have e : ([] ++ W).length = W.length := rfl; omega, h3, hj⟩
end QI2
set_option maxHeartbeats 1000000 in
theorem t_qGoesOnTest_76 {d : Nat} {I : aFI} {L : aFL} {Q : aPo} {T : Int → Int} {n : Int} {sh : Nat} {su : Option Nat} {j : Nat} {a bp np nm : Int} {f sl : Nat} {tk b0 : Int} {W O : List Int} {op : Int} (hB : oB I T n) (hO : oW I) (hA : rA T n j a) (hq : qS I W O op b0) (hi : qI T n sl W [] O op j) (hw : wT W) (hf : 1700 ≤ f + j) (hd : 6 ≤ d) (hno : ¬ (tkK T n j = 93 ∧ (25 : Int) ∈ W)) (kT : ∀ (I2 : aFI) (j2 f2 : Nat) (W2 O2 : List Int) (op2 a2 : Int), j < j2 → rmT (tkK T n) (tkP T n) (tkZ T n) tk f 1 j W O op = rmT (tkK T n) (tkP T n) (tkZ T n) tk f2 0 j2 W2 O2 op2 → 1700 ≤ f2 + j2 → qS I2 W2 O2 op2 b0 → qI T n sl W2 [] O2 op2 j2 → wT W2 → frG PQn I I2 → rA T n j2 a2 → Q (some (.int (aBo true))) (oT I2 T n j2 a2 0 bp np nm) L (aR sh su)) (kE : ∀ (I2 : aFI) (j2 : Nat) (W2 O2 : List Int) (op2 a2 : Int), j ≤ j2 → rmT (tkK T n) (tkP T n) (tkZ T n) tk f 1 j W O op = (0, 0, j2, (dW (fun _ => true) W2 O2).2, op2) → qS I2 W2 O2 op2 b0 → qI T n sl W2 [] O2 op2 j2 → wT W2 → frG PQn I I2 → rA T n j2 a2 → Q (some (.int (aBo false))) (oT I2 T n j2 a2 0 bp np nm) L (aR sh su)) (kF : ∀ (I2 : aFI) (a2 en2 : Int), 0 < (rmT (tkK T n) (tkP T n) (tkZ T n) tk f 1 j W O op).1 → (rmT (tkK T n) (tkP T n) (tkZ T n) tk f 1 j W O op).1 < 10 → frG PQn I I2 → aF n a2 en2 → Q (some (.int (aBo false))) (oP I2 a2 en2 (rmT (tkK T n) (tkP T n) (tkZ T n) tk f 1 j W O op).1 (rmT (tkK T n) (tkP T n) (tkZ T n) tk f 1 j W O op).2.1 np nm) L (aR sh su)) : aWp none d 236 76 [.ref 157] [] (oT I T n j a 0 bp np nm) L (aR sh su) Q := by
  have hn := hB.2.2.1
  have hjj := hi.jb hn
  have hlen : W.length + O.length + sl ≤ j := hi.2.1
  have hop := hi.2.2.2.1
  have hpr := tkP_rg (T := T) (n := n) (j := j) hn.1
  have hen := en_rg (T := T) (n := n) (j := j) hn
  have hA2 := rA_p (T := T) (n := n) (j := j) hn.1
  have hlr : -1 ≤ lkc T n (tkP T n j) ∧ lkc T n (tkP T n j) < 256 := by have := hB.2.2.2 (tkP T n j); unfold lkc; split <;> omega
  obtain ⟨f, rfl⟩ : ∃ g, f = g + 1 := ⟨f - 1, by omega⟩
  refine w_aload c_236_76 rfl ?_
  refine w_aload c_236_77 rfl ?_
  refine w_getR c_236_78 sp_157 (by decide) rfl pr_157_80 ?_
  refine wc_138 c_236_81 sp_157 (Nat.le_of_ble_eq_true rfl) (by omega) ?_
  refine tt_takesW hB hO (q := 215) (Or.inr ⟨by decide, by decide⟩) (by omega) hA (fun hk a4 hA4 => ?_) (fun h215 => ?_)
  · refine r_i ?_
    refine b_if_eq c_236_84 (fun h => Bool.noConfusion h) (fun _ => ?_)
    rw [wk_215] at hk
    have hdw := dW_len (p := i10) W O
    refine t_qGoesOnTest_87 (by omega) _ W O I (Nat.lt_succ_self _) hq hw (by omega) (fun I2 hq2 hF2 => ?_)
    refine w_aload c_236_103 rfl ?_
    refine w_getR c_236_104 sp_157 (by decide) rfl pr_157_99 ?_
    refine w_aload c_236_107 rfl ?_
    refine z_getZ c_236_108 sp_157 (by decide) rfl hq2.2.1 ?_
    refine z_push c_236_111 ?_
    refine z_iastore c_236_113 sp_233 (by omega) (by decide) ?_
    refine oq_k (frG.rf (P := PQn) (I := I2)) (Or.inr (Or.inr rfl)) (by omega) (fun I3 h3 hF3 => ?_)
    have hc3 : I3 157 100 = iI (((dW i10 W O).1.length) : Int) := by rw [h3]; exact (up_ne (by omega)).trans hq2.2.1
    refine w_aload c_236_114 rfl ?_
    refine w_dup c_236_115 rfl ?_
    refine z_getZ c_236_116 sp_157 (by decide) rfl hc3 ?_
    refine z_push c_236_119 ?_
    refine z_iadd c_236_120 ?_
    refine z_putZ c_236_121 sp_157 (by decide) rfl ?_
    refine oq_k hF3 (Or.inl ⟨rfl, Or.inr (Or.inl rfl)⟩) (by decide) (fun I4 h4 hF4 => ?_)
    refine z_push c_236_124 ?_
    refine z_ret1 c_236_125 rfl ?_
    have hke : ¬ tkK T n j = 341 := by rw [hk]; decide
    have hup := tkS_up hn.1 hB.2.2.2 hi.2.2.2.2 hke
    have hdl := dW_len (p := i10) W O
    have hqp := hq2.push h3 h4 rfl
    refine kT I4 (j + 1) f _ _ _ a4 (Nat.lt_succ_self j) (by rw [rmT_1, if_neg hno, if_pos hk]) (by omega) hqp (hi.mv1 (wT.ok (hw.dw.cons (by decide))) ?_ ?_ hop hup) (hw.dw.cons (by decide)) (hF2.tr hF4) hA4
    · rw [List.length_cons]; omega
    · rw [List.length_cons]; omega
  · refine r_i ?_
    refine b_if_eq c_236_84 (fun _ => ?_) (fun h => Bool.noConfusion h)
    refine w_aload c_236_126 rfl ?_
    refine w_aload c_236_127 rfl ?_
    refine w_getR c_236_128 sp_157 (by decide) rfl pr_157_81 ?_
    refine wc_138 c_236_131 sp_157 (Nat.le_of_ble_eq_true rfl) (by omega) ?_
    refine tt_takesW hB hO (q := 216) (Or.inr ⟨by decide, by decide⟩) (by omega) hA2 (fun hk a4 hA4 => ?_) (fun h216 => ?_)
    · refine r_i ?_
      refine b_if_eq c_236_134 (fun h => Bool.noConfusion h) (fun _ => ?_)
      rw [wk_215] at h215
      rw [wk_216] at hk
      have hdw := dW_len (p := iAO) W O
      refine t_qGoesOnTest_137 (by omega) _ W O I (Nat.lt_succ_self _) hq hw (by omega) (fun I2 hq2 hF2 => ?_)
      refine w_aload c_236_162 rfl ?_
      refine w_getR c_236_163 sp_157 (by decide) rfl pr_157_99 ?_
      refine w_aload c_236_166 rfl ?_
      refine z_getZ c_236_167 sp_157 (by decide) rfl hq2.2.1 ?_
      refine z_push c_236_170 ?_
      refine z_iastore c_236_172 sp_233 (by omega) (by decide) ?_
      refine oq_k (frG.rf (P := PQn) (I := I2)) (Or.inr (Or.inr rfl)) (by omega) (fun I3 h3 hF3 => ?_)
      have hc3 : I3 157 100 = iI (((dW iAO W O).1.length) : Int) := by rw [h3]; exact (up_ne (by omega)).trans hq2.2.1
      refine w_aload c_236_173 rfl ?_
      refine w_dup c_236_174 rfl ?_
      refine z_getZ c_236_175 sp_157 (by decide) rfl hc3 ?_
      refine z_push c_236_178 ?_
      refine z_iadd c_236_179 ?_
      refine z_putZ c_236_180 sp_157 (by decide) rfl ?_
      refine oq_k hF3 (Or.inl ⟨rfl, Or.inr (Or.inl rfl)⟩) (by decide) (fun I4 h4 hF4 => ?_)
      refine z_push c_236_183 ?_
      refine z_ret1 c_236_184 rfl ?_
      have hke : ¬ tkK T n j = 341 := by rw [hk]; decide
      have hup := tkS_up hn.1 hB.2.2.2 hi.2.2.2.2 hke
      have hdl := dW_len (p := iAO) W O
      have hqp := hq2.push h3 h4 rfl
      refine kT I4 (j + 1) f _ _ _ a4 (Nat.lt_succ_self j) (by rw [rmT_1, if_neg hno, if_neg h215, if_pos hk]) (by omega) hqp (hi.mv1 (wT.ok (hw.dw.cons (by decide))) ?_ ?_ hop hup) (hw.dw.cons (by decide)) (hF2.tr hF4) hA4
      · rw [List.length_cons]; omega
      · rw [List.length_cons]; omega
    · refine r_i ?_
      refine b_if_eq c_236_134 (fun _ => ?_) (fun h => Bool.noConfusion h)
      refine w_aload c_236_185 rfl ?_
      refine z_getZ c_236_186 sp_157 (by decide) rfl rfl ?_
      refine z_if_ne c_236_189 (by first | exact aRg_of _ | (unfold aRg; omega)) (fun h5_ => ?_) (fun h5_ => ?_)
      · exact absurd rfl h5_
      refine w_aload c_236_192 rfl ?_
      refine wc_233 c_236_193 sp_157 (Nat.le_of_ble_eq_true rfl) (by omega) ?_
      refine t_qHasSquare hq hw (by omega) ?_
      refine r_i ?_
      refine b_if_eq c_236_196 (fun h6_ => ?_) (fun h6_ => ?_)
      · refine z_push c_236_208 ?_
        refine z_ret0 c_236_209 rfl ?_
        exact kE I j W O op _ (Nat.le_refl j) (by rw [rmT_1, if_neg hno, if_neg (wk_215 ▸ h215), if_neg (wk_216 ▸ h216), if_neg (of_decide_eq_false h6_)]) hq hi hw frG.rf hA2
      · refine w_aload c_236_199 rfl ?_
        refine z_push c_236_200 ?_
        refine w_aload c_236_201 rfl ?_
        refine z_getZ c_236_202 sp_157 (by decide) rfl rfl ?_
        refine wc_133 c_236_205 sp_157 (Nat.le_of_ble_eq_true rfl) (by omega) ?_
        refine t_fail (by unfold aRg; omega) (fun z => absurd rfl z) (fun _ => ?_)
        refine r_v ?_
        refine z_push c_236_208 ?_
        refine z_ret0 c_236_209 rfl ?_
        have hrm : rmT (tkK T n) (tkP T n) (tkZ T n) tk (f + 1) 1 j W O op = (1, tkP T n j, j, O, op) := by rw [rmT_1, if_neg hno, if_neg (wk_215 ▸ h215), if_neg (wk_216 ▸ h216), if_pos (of_decide_eq_true h6_)]
        rw [hrm] at kF
        exact kF I _ _ (show (0 : Int) < 1 by decide) (show (1 : Int) < 10 by decide) frG.rf ⟨hpr, hen⟩

set_option maxHeartbeats 2000000 in
theorem t_qGoesOnTest_1 {d : Nat} {L : aFL} {Q : aPo} {T : Int → Int} {n : Int} {sh : Nat} {su : Option Nat} {bp np nm tk b0 : Int} {sl : Nat} (hd : 6 ≤ d) : ∀ (fz : Nat) (j f : Nat) (W O : List Int) (op a : Int) (I : aFI), 1700 - j < fz → (oB I T n) → (oW I) → (rA T n j a) → (qS I W O op b0) → (qI T n sl W [] O op j) → (wT W) → (1700 ≤ f + j) → (∀ (I2 : aFI) (j2 f2 : Nat) (W2 O2 : List Int) (op2 a2 : Int), j < j2 → rmT (tkK T n) (tkP T n) (tkZ T n) tk f 1 j W O op = rmT (tkK T n) (tkP T n) (tkZ T n) tk f2 0 j2 W2 O2 op2 → 1700 ≤ f2 + j2 → qS I2 W2 O2 op2 b0 → qI T n sl W2 [] O2 op2 j2 → wT W2 → frG PQn I I2 → rA T n j2 a2 → Q (some (.int (aBo true))) (oT I2 T n j2 a2 0 bp np nm) L (aR sh su)) → (∀ (I2 : aFI) (j2 : Nat) (W2 O2 : List Int) (op2 a2 : Int), j ≤ j2 → rmT (tkK T n) (tkP T n) (tkZ T n) tk f 1 j W O op = (0, 0, j2, (dW (fun _ => true) W2 O2).2, op2) → qS I2 W2 O2 op2 b0 → qI T n sl W2 [] O2 op2 j2 → wT W2 → frG PQn I I2 → rA T n j2 a2 → Q (some (.int (aBo false))) (oT I2 T n j2 a2 0 bp np nm) L (aR sh su)) → (∀ (I2 : aFI) (a2 en2 : Int), 0 < (rmT (tkK T n) (tkP T n) (tkZ T n) tk f 1 j W O op).1 → (rmT (tkK T n) (tkP T n) (tkZ T n) tk f 1 j W O op).1 < 10 → frG PQn I I2 → aF n a2 en2 → Q (some (.int (aBo false))) (oP I2 a2 en2 (rmT (tkK T n) (tkP T n) (tkZ T n) tk f 1 j W O op).1 (rmT (tkK T n) (tkP T n) (tkZ T n) tk f 1 j W O op).2.1 np nm) L (aR sh su)) → aWp none d 236 0 [.ref 157] [] (oT I T n j a 0 bp np nm) L (aR sh su) Q := by
  intro fz
  induction fz with
  | zero => intro j f W O op a I h; omega
  | succ fz ih =>
    intro j f W O op a I hn2 hB hO hA hq hi hw hf kT kE kF
    have hn := hB.2.2.1
    have hjj := hi.jb hn
    have hlen : W.length + O.length + sl ≤ j := hi.2.1
    have hop := hi.2.2.2.1
    have hpr := tkP_rg (T := T) (n := n) (j := j) hn.1
    have hen := en_rg (T := T) (n := n) (j := j) hn
    have hA2 := rA_p (T := T) (n := n) (j := j) hn.1
    have hlr : -1 ≤ lkc T n (tkP T n j) ∧ lkc T n (tkP T n j) < 256 := by have := hB.2.2.2 (tkP T n j); unfold lkc; split <;> omega
    obtain ⟨f, rfl⟩ : ∃ g, f = g + 1 := ⟨f - 1, by omega⟩
    refine w_aload c_236_0 rfl ?_
    refine z_getZ c_236_1 sp_157 (by decide) rfl rfl ?_
    refine z_if_ne c_236_4 (by first | exact aRg_of _ | (unfold aRg; omega)) (fun h1_ => ?_) (fun h1_ => ?_)
    · exact absurd rfl h1_
    refine w_aload c_236_7 rfl ?_
    refine wc_136 c_236_8 sp_157 (Nat.le_of_ble_eq_true rfl) (by omega) ?_
    refine tt_look hB hA ?_
    have hlk := tkK_sign hB.2.2.2 (T := T) (n := n) (j := j) (c := 93) (by omega) (by omega) (by omega)
    refine r_i ?_
    refine z_push c_236_11 ?_
    refine z_ic_ne c_236_13 (by first | exact aRg_of _ | (unfold aRg; omega)) (by first | exact aRg_of _ | (unfold aRg; omega)) (fun h2_ => ?_) (fun h2_ => ?_)
    exact t_qGoesOnTest_76 hB hO hA2 hq hi hw hf hd (fun z => by have := hlk.mp z.1; omega) kT kE kF
    · refine w_aload c_236_16 rfl ?_
      refine wc_233 c_236_17 sp_157 (Nat.le_of_ble_eq_true rfl) (by omega) ?_
      have hk93 : tkK T n j = 93 := hlk.mpr (by omega)
      refine t_qHasSquare hq hw (by omega) ?_
      refine r_i ?_
      refine b_if_eq c_236_20 (fun h3_ => ?_) (fun h3_ => ?_)
      exact t_qGoesOnTest_76 hB hO hA2 hq hi hw hf hd (fun z => of_decide_eq_false h3_ z.2) kT kE kF
      · refine w_aload c_236_23 rfl ?_
        refine w_dup c_236_24 rfl ?_
        refine z_getZ c_236_25 sp_157 (by decide) rfl rfl ?_
        refine z_push c_236_28 ?_
        refine z_iadd c_236_29 ?_
        refine z_putZ c_236_30 sp_157 (by decide) rfl ?_
        rw [oP_at]
        have hp25 : (25 : Int) ∈ W := of_decide_eq_true h3_
        obtain ⟨W2, hW2⟩ := n25_top W O hp25
        have hke : ¬ tkK T n j = 341 := by omega
        have hup := tkS_up hn.1 hB.2.2.2 hi.2.2.2.2 hke
        have hdl := dW_len (p := n25) W O
        have hx0 := rA_sign (b := 0) (bp := bp) (np := np) (nm := nm) hB (c := 93) (by decide) hk93
        rw [hx0.1]
        refine t_qGoesOnTest_33 (by omega) _ W O I (Nat.lt_succ_self _) hq hw (by omega) hp25 (fun I2 hq2 hF2 => ?_)
        have hwd : wT (dW n25 W O).1 := hw.dw
        rw [hW2] at hq2 hdl hwd
        have hw2 : wT W2 := fun v hv => hwd v (List.mem_cons_of_mem _ hv)
        have hll : ((25 :: W2).length : Nat) = W2.length + 1 := rfl
        refine w_aload c_236_49 rfl ?_
        refine w_dup c_236_50 rfl ?_
        refine z_getZ c_236_51 sp_157 (by decide) rfl hq2.2.1 ?_
        refine z_push c_236_54 ?_
        refine z_isub c_236_55 ?_
        refine z_putZ c_236_56 sp_157 (by decide) rfl ?_
        refine oq_k (frG.rf (P := PQn) (I := I2)) (Or.inl ⟨rfl, Or.inr (Or.inl rfl)⟩) (by decide) (fun I3 h3 hF3 => ?_)
        have hq3 := hq2.pop h3 (by omega)
        refine w_aload c_236_59 rfl ?_
        refine w_dup c_236_60 rfl ?_
        refine z_getZ c_236_61 sp_157 (by decide) rfl hq3.2.2.2.2.1 ?_
        refine z_push c_236_64 ?_
        refine z_isub c_236_65 ?_
        refine z_putZ c_236_66 sp_157 (by decide) rfl ?_
        refine oq_k hF3 (Or.inl ⟨rfl, Or.inr (Or.inr (Or.inl rfl))⟩) (by decide) (fun I4 h4 hF4 => ?_)
        have hq4 := hq3.opn h4
        refine w_aload c_236_69 rfl ?_
        refine wc_234 c_236_70 sp_157 (Nat.le_of_ble_eq_true rfl) (by omega) ?_
        refine t_qDropsNots hq4 hw2 (by omega) (by omega) (fun I5 hq5 hF5 => ?_)
        refine r_v ?_
        refine w_goto c_236_73 ?_
        have hel := eN_len W2 (dW n25 W O).2 (op - 1)
        have hrm : rmT (tkK T n) (tkP T n) (tkZ T n) tk (f + 1) 1 j W O op = rmT (tkK T n) (tkP T n) (tkZ T n) tk f 1 (j + 1) (eN W2 (dW n25 W O).2 (op - 1)).1 (eN W2 (dW n25 W O).2 (op - 1)).2.1 (eN W2 (dW n25 W O).2 (op - 1)).2.2 := by
          rw [rmT_1, if_pos ⟨hk93, hp25⟩]; simp only [hW2, List.tail_cons]
        have hFF : frG PQn I I5 := (hF2.tr hF4).tr hF5
        exact ih (j + 1) f _ _ _ _ I5 (by omega) (hB.pq hFF) (hO.pq hFF) hx0.2 hq5 (hi.mv1 (wT.ok hw2.en) (by omega) (by omega) (by omega) hup) hw2.en (by omega)
          (fun I6 j6 f6 W6 O6 op6 a6 z0 z1 z2 z3 z4 z5 z6 z7 => kT I6 j6 f6 W6 O6 op6 a6 (by omega) (hrm.trans z1) z2 z3 z4 z5 (hFF.tr z6) z7)
          (fun I6 j6 W6 O6 op6 a6 z0 z1 z2 z3 z4 z5 z6 => kE I6 j6 W6 O6 op6 a6 (by omega) (hrm.trans z1) z2 z3 z4 (hFF.tr z5) z6)
          (fun I6 a6 en6 z1 z2 z3 z4 => by rw [hrm] at kF; exact kF I6 a6 en6 z1 z2 (hFF.tr z3) z4)

