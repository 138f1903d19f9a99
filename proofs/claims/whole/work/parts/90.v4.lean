/-! the reference: going on behind a part (p90.py) -/
theorem brk_dW : ∀ (U O : List Int), ¬ brk U = -1 → ∃ U2, (dW nBr U O).1 = brk U :: U2
  | [], O, h => absurd rfl h
  | u :: U, O, h => by
    unfold brk at h ⊢
    unfold dW
    by_cases hb : isBr u = true
    · rw [if_pos hb, if_neg (show ¬ nBr u = true by unfold nBr; rw [hb]; decide)]; exact ⟨U, rfl⟩
    · have hbf : isBr u = false := by cases h : isBr u; rfl; exact absurd h hb
      rw [if_neg hb] at h ⊢
      rw [if_pos (show nBr u = true by unfold nBr; rw [hbf]; rfl)]
      exact brk_dW U (u :: O) h
theorem brk_rg : ∀ (U : List Int), brk U = -1 ∨ (20 ≤ brk U ∧ brk U ≤ 24)
  | [] => Or.inl rfl
  | u :: U => by
    unfold brk
    split
    · rename_i h; exact Or.inr (of_decide_eq_true h)
    · exact brk_rg U
theorem hd_cons {u v : Int} {U B : List Int} : decide (((u :: U) ++ B).head? = some v) = decide (u = v) := by
  rw [List.cons_append, List.head?_cons]
  by_cases h : u = v
  · subst h; rw [decide_eq_true rfl, decide_eq_true rfl]
  · rw [decide_eq_false h, decide_eq_false (fun z => h (Option.some.inj z))]
set_option maxHeartbeats 2000000 in
theorem t_qGo_mu {d : Nat} {L : aFL} {Q : aPo} {sh : Nat} {su : Option Nat} {a en b bp np nm : Int} {B : List Int} {op : Int} {v1 : Value} (hBh : ∀ v : Int, B.head? = some v → ¬ isSu v = true) (hd : 3 ≤ d) : ∀ (n : Nat) (U O : List Int) (I : aFI), U.length < n → (qS I (U ++ B) O op B.length) → (wOK (U ++ B)) → ((U ++ B).length + O.length < 1650) → (∀ I2 : aFI, qS I2 ((dW isMu U O).1 ++ B) (dW isMu U O).2 op B.length → frG PQn I I2 → aWp none d 230 185 [.ref 157, v1] [] (oP I2 a en b bp np nm) L (aR sh su) Q) → aWp none d 230 162 [.ref 157, v1] [] (oP I a en b bp np nm) L (aR sh su) Q := by
  intro n
  induction n with
  | zero => intro U O I h; omega
  | succ n ih =>
    intro U O I hn2 hq hw hl k
    rcases U with _ | ⟨u, U⟩
    · have hll : ((([] : List Int) ++ B).length : Int) = B.length := rfl
      refine w_aload c_230_162 rfl ?_
      refine z_push c_230_163 ?_
      refine wc_220 c_230_164 sp_157 (Nat.le_of_ble_eq_true rfl) (by omega) ?_
      refine t_qIsOn (v := 3) hq hw (by omega) (by omega) ?_
      rw [show decide ((([] : List Int) ++ B).head? = some 3) = false from decide_eq_false (fun z => hBh _ z (by decide))]
      refine r_i ?_
      refine b_if_ne c_230_167 (fun h => Bool.noConfusion h) (fun _ => ?_)
      refine w_aload c_230_170 rfl ?_
      refine z_push c_230_171 ?_
      refine wc_220 c_230_172 sp_157 (Nat.le_of_ble_eq_true rfl) (by omega) ?_
      refine t_qIsOn (v := 4) hq hw (by omega) (by omega) ?_
      rw [show decide ((([] : List Int) ++ B).head? = some 4) = false from decide_eq_false (fun z => hBh _ z (by decide))]
      refine r_i ?_
      refine b_if_eq c_230_175 (fun _ => ?_) (fun h => Bool.noConfusion h)
      exact k I hq frG.rf
    · have hs2 : qS I (u :: (U ++ B)) O op B.length := hq
      have hll : (((u :: U) ++ B).length : Int) = U.length + B.length + 1 := by simp only [List.length_append, List.length_cons]; omega
      have hll2 : (U ++ B).length + 1 = ((u :: U) ++ B).length := rfl
      simp only [List.length_cons] at hn2
      refine w_aload c_230_162 rfl ?_
      refine z_push c_230_163 ?_
      refine wc_220 c_230_164 sp_157 (Nat.le_of_ble_eq_true rfl) (by omega) ?_
      refine t_qIsOn (v := 3) hq hw (by omega) (by omega) ?_
      rw [hd_cons]
      refine r_i ?_
      refine b_if_ne c_230_167 (fun h1_ => ?_) (fun h1_ => ?_)
      · refine w_aload c_230_178 rfl ?_
        refine wc_221 c_230_179 sp_157 (Nat.le_of_ble_eq_true rfl) (by omega) ?_
        refine t_qDrops hs2 (by omega) (by omega) (by omega) (fun I1 hq1 hF1 => ?_)
        refine r_v ?_
        refine w_goto c_230_182 ?_
        have hp : isMu u = true := decide_eq_true (by first | (have := of_decide_eq_true h1_; omega) | (have := of_decide_eq_true h2_; omega))
        have hk := k
        unfold dW at hk
        rw [if_pos hp] at hk
        exact ih U (u :: O) I1 (by omega) hq1 (fun v hv => hw v (List.mem_cons_of_mem _ hv)) (by simp only [List.length_append, List.length_cons] at hl ⊢; omega) (fun I2 h2 h3 => hk I2 h2 (hF1.tr h3))
      · refine w_aload c_230_170 rfl ?_
        refine z_push c_230_171 ?_
        refine wc_220 c_230_172 sp_157 (Nat.le_of_ble_eq_true rfl) (by omega) ?_
        refine t_qIsOn (v := 4) hq hw (by omega) (by omega) ?_
        rw [hd_cons]
        refine r_i ?_
        refine b_if_eq c_230_175 (fun h2_ => ?_) (fun h2_ => ?_)
        · have hp : ¬ isMu u = true := fun z => by
            have z := of_decide_eq_true z
            have := of_decide_eq_false h1_
            have := of_decide_eq_false h2_
            omega
          have hk := k
          unfold dW at hk
          rw [if_neg hp] at hk
          exact hk I hq frG.rf
        · refine w_aload c_230_178 rfl ?_
          refine wc_221 c_230_179 sp_157 (Nat.le_of_ble_eq_true rfl) (by omega) ?_
          refine t_qDrops hs2 (by omega) (by omega) (by omega) (fun I1 hq1 hF1 => ?_)
          refine r_v ?_
          refine w_goto c_230_182 ?_
          have hp : isMu u = true := decide_eq_true (by first | (have := of_decide_eq_true h1_; omega) | (have := of_decide_eq_true h2_; omega))
          have hk := k
          unfold dW at hk
          rw [if_pos hp] at hk
          exact ih U (u :: O) I1 (by omega) hq1 (fun v hv => hw v (List.mem_cons_of_mem _ hv)) (by simp only [List.length_append, List.length_cons] at hl ⊢; omega) (fun I2 h2 h3 => hk I2 h2 (hF1.tr h3))

set_option maxHeartbeats 2000000 in
theorem t_qGo_su {d : Nat} {L : aFL} {Q : aPo} {sh : Nat} {su : Option Nat} {a en b bp np nm : Int} {B : List Int} {op : Int} {v1 : Value} (hBh : ∀ v : Int, B.head? = some v → ¬ isSu v = true) (hd : 3 ≤ d) : ∀ (n : Nat) (U O : List Int) (I : aFI), U.length < n → (qS I (U ++ B) O op B.length) → (wOK (U ++ B)) → ((U ++ B).length + O.length < 1650) → (∀ I2 : aFI, qS I2 ((dW isSu U O).1 ++ B) (dW isSu U O).2 op B.length → frG PQn I I2 → aWp none d 230 286 [.ref 157, v1] [] (oP I2 a en b bp np nm) L (aR sh su) Q) → aWp none d 230 247 [.ref 157, v1] [] (oP I a en b bp np nm) L (aR sh su) Q := by
  intro n
  induction n with
  | zero => intro U O I h; omega
  | succ n ih =>
    intro U O I hn2 hq hw hl k
    rcases U with _ | ⟨u, U⟩
    · have hll : ((([] : List Int) ++ B).length : Int) = B.length := rfl
      refine w_aload c_230_247 rfl ?_
      refine z_push c_230_248 ?_
      refine wc_220 c_230_249 sp_157 (Nat.le_of_ble_eq_true rfl) (by omega) ?_
      refine t_qIsOn (v := 3) hq hw (by omega) (by omega) ?_
      rw [show decide ((([] : List Int) ++ B).head? = some 3) = false from decide_eq_false (fun z => hBh _ z (by decide))]
      refine r_i ?_
      refine b_if_ne c_230_252 (fun h => Bool.noConfusion h) (fun _ => ?_)
      refine w_aload c_230_255 rfl ?_
      refine z_push c_230_256 ?_
      refine wc_220 c_230_257 sp_157 (Nat.le_of_ble_eq_true rfl) (by omega) ?_
      refine t_qIsOn (v := 4) hq hw (by omega) (by omega) ?_
      rw [show decide ((([] : List Int) ++ B).head? = some 4) = false from decide_eq_false (fun z => hBh _ z (by decide))]
      refine r_i ?_
      refine b_if_ne c_230_260 (fun h => Bool.noConfusion h) (fun _ => ?_)
      refine w_aload c_230_263 rfl ?_
      refine z_push c_230_264 ?_
      refine wc_220 c_230_265 sp_157 (Nat.le_of_ble_eq_true rfl) (by omega) ?_
      refine t_qIsOn (v := 1) hq hw (by omega) (by omega) ?_
      rw [show decide ((([] : List Int) ++ B).head? = some 1) = false from decide_eq_false (fun z => hBh _ z (by decide))]
      refine r_i ?_
      refine b_if_ne c_230_268 (fun h => Bool.noConfusion h) (fun _ => ?_)
      refine w_aload c_230_271 rfl ?_
      refine z_push c_230_272 ?_
      refine wc_220 c_230_273 sp_157 (Nat.le_of_ble_eq_true rfl) (by omega) ?_
      refine t_qIsOn (v := 2) hq hw (by omega) (by omega) ?_
      rw [show decide ((([] : List Int) ++ B).head? = some 2) = false from decide_eq_false (fun z => hBh _ z (by decide))]
      refine r_i ?_
      refine b_if_eq c_230_276 (fun _ => ?_) (fun h => Bool.noConfusion h)
      exact k I hq frG.rf
    · have hs2 : qS I (u :: (U ++ B)) O op B.length := hq
      have hll : (((u :: U) ++ B).length : Int) = U.length + B.length + 1 := by simp only [List.length_append, List.length_cons]; omega
      have hll2 : (U ++ B).length + 1 = ((u :: U) ++ B).length := rfl
      simp only [List.length_cons] at hn2
      refine w_aload c_230_247 rfl ?_
      refine z_push c_230_248 ?_
      refine wc_220 c_230_249 sp_157 (Nat.le_of_ble_eq_true rfl) (by omega) ?_
      refine t_qIsOn (v := 3) hq hw (by omega) (by omega) ?_
      rw [hd_cons]
      refine r_i ?_
      refine b_if_ne c_230_252 (fun h1_ => ?_) (fun h1_ => ?_)
      · refine w_aload c_230_279 rfl ?_
        refine wc_221 c_230_280 sp_157 (Nat.le_of_ble_eq_true rfl) (by omega) ?_
        refine t_qDrops hs2 (by omega) (by omega) (by omega) (fun I1 hq1 hF1 => ?_)
        refine r_v ?_
        refine w_goto c_230_283 ?_
        have hp : isSu u = true := decide_eq_true (by first | (have := of_decide_eq_true h1_; omega) | (have := of_decide_eq_true h2_; omega) | (have := of_decide_eq_true h3_; omega) | (have := of_decide_eq_true h4_; omega))
        have hk := k
        unfold dW at hk
        rw [if_pos hp] at hk
        exact ih U (u :: O) I1 (by omega) hq1 (fun v hv => hw v (List.mem_cons_of_mem _ hv)) (by simp only [List.length_append, List.length_cons] at hl ⊢; omega) (fun I2 h2 h3 => hk I2 h2 (hF1.tr h3))
      · refine w_aload c_230_255 rfl ?_
        refine z_push c_230_256 ?_
        refine wc_220 c_230_257 sp_157 (Nat.le_of_ble_eq_true rfl) (by omega) ?_
        refine t_qIsOn (v := 4) hq hw (by omega) (by omega) ?_
        rw [hd_cons]
        refine r_i ?_
        refine b_if_ne c_230_260 (fun h2_ => ?_) (fun h2_ => ?_)
        · refine w_aload c_230_279 rfl ?_
          refine wc_221 c_230_280 sp_157 (Nat.le_of_ble_eq_true rfl) (by omega) ?_
          refine t_qDrops hs2 (by omega) (by omega) (by omega) (fun I1 hq1 hF1 => ?_)
          refine r_v ?_
          refine w_goto c_230_283 ?_
          have hp : isSu u = true := decide_eq_true (by first | (have := of_decide_eq_true h1_; omega) | (have := of_decide_eq_true h2_; omega) | (have := of_decide_eq_true h3_; omega) | (have := of_decide_eq_true h4_; omega))
          have hk := k
          unfold dW at hk
          rw [if_pos hp] at hk
          exact ih U (u :: O) I1 (by omega) hq1 (fun v hv => hw v (List.mem_cons_of_mem _ hv)) (by simp only [List.length_append, List.length_cons] at hl ⊢; omega) (fun I2 h2 h3 => hk I2 h2 (hF1.tr h3))
        · refine w_aload c_230_263 rfl ?_
          refine z_push c_230_264 ?_
          refine wc_220 c_230_265 sp_157 (Nat.le_of_ble_eq_true rfl) (by omega) ?_
          refine t_qIsOn (v := 1) hq hw (by omega) (by omega) ?_
          rw [hd_cons]
          refine r_i ?_
          refine b_if_ne c_230_268 (fun h3_ => ?_) (fun h3_ => ?_)
          · refine w_aload c_230_279 rfl ?_
            refine wc_221 c_230_280 sp_157 (Nat.le_of_ble_eq_true rfl) (by omega) ?_
            refine t_qDrops hs2 (by omega) (by omega) (by omega) (fun I1 hq1 hF1 => ?_)
            refine r_v ?_
            refine w_goto c_230_283 ?_
            have hp : isSu u = true := decide_eq_true (by first | (have := of_decide_eq_true h1_; omega) | (have := of_decide_eq_true h2_; omega) | (have := of_decide_eq_true h3_; omega) | (have := of_decide_eq_true h4_; omega))
            have hk := k
            unfold dW at hk
            rw [if_pos hp] at hk
            exact ih U (u :: O) I1 (by omega) hq1 (fun v hv => hw v (List.mem_cons_of_mem _ hv)) (by simp only [List.length_append, List.length_cons] at hl ⊢; omega) (fun I2 h2 h3 => hk I2 h2 (hF1.tr h3))
          · refine w_aload c_230_271 rfl ?_
            refine z_push c_230_272 ?_
            refine wc_220 c_230_273 sp_157 (Nat.le_of_ble_eq_true rfl) (by omega) ?_
            refine t_qIsOn (v := 2) hq hw (by omega) (by omega) ?_
            rw [hd_cons]
            refine r_i ?_
            refine b_if_eq c_230_276 (fun h4_ => ?_) (fun h4_ => ?_)
            · have hp : ¬ isSu u = true := fun z => by
                have z := of_decide_eq_true z
                have := of_decide_eq_false h1_
                have := of_decide_eq_false h2_
                exact absurd (And.intro (of_decide_eq_false h3_) (of_decide_eq_false h4_)) (by omega)
              have hk := k
              unfold dW at hk
              rw [if_neg hp] at hk
              exact hk I hq frG.rf
            · refine w_aload c_230_279 rfl ?_
              refine wc_221 c_230_280 sp_157 (Nat.le_of_ble_eq_true rfl) (by omega) ?_
              refine t_qDrops hs2 (by omega) (by omega) (by omega) (fun I1 hq1 hF1 => ?_)
              refine r_v ?_
              refine w_goto c_230_283 ?_
              have hp : isSu u = true := decide_eq_true (by first | (have := of_decide_eq_true h1_; omega) | (have := of_decide_eq_true h2_; omega) | (have := of_decide_eq_true h3_; omega) | (have := of_decide_eq_true h4_; omega))
              have hk := k
              unfold dW at hk
              rw [if_pos hp] at hk
              exact ih U (u :: O) I1 (by omega) hq1 (fun v hv => hw v (List.mem_cons_of_mem _ hv)) (by simp only [List.length_append, List.length_cons] at hl ⊢; omega) (fun I2 h2 h3 => hk I2 h2 (hF1.tr h3))

theorem qI.rep {T : Int → Int} {n : Int} {sl : Nat} {B U O : List Int} {op u v : Int} {j : Nat} (h : qI T n sl B (u :: U) O op j) (hv : 0 ≤ v ∧ v < 100) : qI T n sl B (v :: U) O op j :=
  ⟨fun x hx => by
    rcases List.mem_cons.mp hx with rfl | hx
    · exact hv
    · exact h.1 x (List.mem_cons_of_mem _ hx), h.2.1, h.2.2⟩
theorem qI.pop {T : Int → Int} {n : Int} {sl : Nat} {B U O : List Int} {op u : Int} {j : Nat} (h : qI T n sl B (u :: U) O op j) (hj : ((j + 1 : Nat) : Int) ≤ (tkS T n (j + 1)).1) : qI T n sl B U O (op - 1) (j + 1) := by
  have h2 := h.2.1
  have h3 := h.2.2.1
  have h4 := h.2.2.2.1
  rw [List.cons_append, List.length_cons] at h2 h3
  exact ⟨fun x hx => h.1 x (List.mem_cons_of_mem _ hx), by omega, by omega, by omega, hj⟩
theorem qI.popc {T : Int → Int} {n : Int} {sl : Nat} {B U O : List Int} {op u v : Int} {j : Nat} (h : qI T n sl B (u :: U) O op j) (hj : ((j + 1 : Nat) : Int) ≤ (tkS T n (j + 1)).1) : qI T n sl B U (v :: O) (op - 1) (j + 1) := by
  have h2 := h.2.1
  have h3 := h.2.2.1
  have h4 := h.2.2.2.1
  rw [List.cons_append, List.length_cons] at h2 h3
  exact ⟨fun x hx => h.1 x (List.mem_cons_of_mem _ hx), by rw [List.length_cons]; omega, by omega, by omega, hj⟩
set_option maxHeartbeats 1000000 in
theorem t_qGo_122 {d : Nat} {I : aFI} {L : aFL} {Q : aPo} {T : Int → Int} {n : Int} {sl sh : Nat} {su : Option Nat} {j : Nat} {a bp np nm tk : Int} {B U O : List Int} {op : Int} (hB : oB I T n) (hA : rA T n j a) (hq : qS I (U ++ B) O op B.length) (hi : qI T n sl B U O op j) (hBh : ∀ v : Int, B.head? = some v → ¬ isSu v = true) (hd : 6 ≤ d) {v1 : Value} (hno : ¬ (tkK T n j = 41 ∧ (brk U = 20 ∨ brk U = 23 ∨ brk U = 24))) (kT : ∀ (I2 : aFI) (j2 : Nat) (U2 O2 : List Int) (op2 a2 : Int), j ≤ j2 → rm (tkK T n) (tkP T n) (tkZ T n) tk (1700 - j) 2 j U O op = rm (tkK T n) (tkP T n) (tkZ T n) tk (1700 - j2) 0 j2 U2 O2 op2 → qS I2 (U2 ++ B) O2 op2 B.length → qI T n sl B U2 O2 op2 j2 → frG PQn I I2 → rA T n j2 a2 → Q (some (.int (aBo true))) (oT I2 T n j2 a2 0 bp np nm) L (aR sh su)) (kE : ∀ (I2 : aFI) (j2 : Nat) (U2 O2 : List Int) (op2 a2 : Int), j ≤ j2 → rm (tkK T n) (tkP T n) (tkZ T n) tk (1700 - j) 2 j U O op = (0, 0, j2, (dW (fun _ => true) U2 O2).2, op2) → qS I2 (U2 ++ B) O2 op2 B.length → qI T n sl B U2 O2 op2 j2 → frG PQn I I2 → rA T n j2 a2 → Q (some (.int (aBo false))) (oT I2 T n j2 a2 0 bp np nm) L (aR sh su)) (kF : ∀ (I2 : aFI) (a2 en2 : Int), 0 < (rm (tkK T n) (tkP T n) (tkZ T n) tk (1700 - j) 2 j U O op).1 → (rm (tkK T n) (tkP T n) (tkZ T n) tk (1700 - j) 2 j U O op).1 < 10 → (∃ c : Int, I2 157 98 = iI c ∧ 0 ≤ c ∧ c < 1690) → frG PQn I I2 → aF n a2 en2 → Q (some (.int (aBo false))) (oP I2 a2 en2 (rm (tkK T n) (tkP T n) (tkZ T n) tk (1700 - j) 2 j U O op).1 (rm (tkK T n) (tkP T n) (tkZ T n) tk (1700 - j) 2 j U O op).2.1 np nm) L (aR sh su)) : aWp none d 230 122 [.ref 157, v1] [] (oT I T n j a 0 bp np nm) L (aR sh su) Q := by
  have hn := hB.2.2.1
  have hjj := hi.jb hn
  have hj7 : j < 1700 := by omega
  have hlen := hi.2.1
  have hpr := tkP_rg (T := T) (n := n) (j := j) hn.1
  have hen := en_rg (T := T) (n := n) (j := j) hn
  have hA2 := rA_p (T := T) (n := n) (j := j) hn.1
  have hbr := brk_rg U
  have hdw := hi.dw (p := isMu)
  have hds := hi.dw (p := isSu)
  have hdb := hi.dw (p := nBr)
  refine w_aload c_230_122 rfl ?_
  refine z_push c_230_123 ?_
  refine wc_140 c_230_125 sp_157 (Nat.le_of_ble_eq_true rfl) (by omega) ?_
  refine tt_takesSign hB (c := 42) (by decide) (by omega) hA (fun hk a4 ha4 hA4 => ?_) (fun hk42 => ?_)
  · refine r_i ?_
    refine b_if_ne c_230_128 (fun _ => ?_) (fun h => Bool.noConfusion h)
    have hke : ¬ tkK T n j = 341 := by omega
    have hup := tkS_up hn.1 hB.2.2.2 hi.2.2.2.2 hke
    have hlk := (tkK_sign hB.2.2.2 (T := T) (n := n) (j := j) (c := 42) (by omega) (by omega) (by omega)).mp hk
    have hlt := lkc_lt hlk (by decide)
    have hte : T (a4 - 1) = 42 := by rw [ha4, show tkP T n j + 1 - 1 = tkP T n j by omega]; unfold lkc at hlk; rwa [if_pos hlt] at hlk
    have hdl := hdw.2.1
    refine w_aload c_230_140 rfl ?_
    refine w_getR c_230_141 sp_157 (by decide) rfl pr_157_0 ?_
    refine w_aload c_230_144 rfl ?_
    refine z_getZ c_230_145 sp_157 (by decide) rfl rfl ?_
    refine z_push c_230_148 ?_
    refine z_isub c_230_149 ?_
    refine z_iaload c_230_150 sp_158 (by omega) (by first | decide | omega) (hB.2.1 _ (by omega) (by omega)) ?_
    refine z_push c_230_151 ?_
    refine z_ic_ne c_230_153 (by first | exact aRg_of _ | (unfold aRg; omega)) (by first | exact aRg_of _ | (unfold aRg; omega)) (fun h41_ => ?_) (fun h41_ => ?_)
    · exfalso; omega
    refine z_push c_230_156 ?_
    refine w_goto c_230_157 ?_
    refine w_istore c_230_161 (Nat.le_of_ble_eq_true rfl) rfl ?_
    refine t_qGo_mu hBh (by omega) _ U O I (Nat.lt_succ_self _) hq hi.1 (by omega) (fun I2 hq2 hF2 => ?_)
    have hql : (((dW isMu U O).1 ++ B).length) < 1700 := by omega
    refine w_aload c_230_185 rfl ?_
    refine w_getR c_230_186 sp_157 (by decide) rfl pr_157_99 ?_
    refine w_aload c_230_189 rfl ?_
    refine z_getZ c_230_190 sp_157 (by decide) rfl hq2.2.1 ?_
    refine w_iload c_230_193 rfl ?_
    refine z_iastore c_230_194 sp_233 (by omega) (by decide) ?_
    refine oq_k hF2 (Or.inr (Or.inr rfl)) (by omega) (fun I3 h3 hF3 => ?_)
    have hc3 : I3 157 100 = iI (((dW isMu U O).1 ++ B).length : Int) := by rw [h3]; exact (up_ne (by omega)).trans hq2.2.1
    refine w_aload c_230_195 rfl ?_
    refine w_dup c_230_196 rfl ?_
    refine z_getZ c_230_197 sp_157 (by decide) rfl hc3 ?_
    refine z_push c_230_200 ?_
    refine z_iadd c_230_201 ?_
    refine z_putZ c_230_202 sp_157 (by decide) rfl ?_
    refine oq_k hF3 (Or.inl ⟨rfl, Or.inr (Or.inl rfl)⟩) (by decide) (fun I4 h4 hF4 => ?_)
    refine z_push c_230_205 ?_
    refine z_ret1 c_230_206 rfl ?_
    refine kT I4 (j + 1) (3 :: (dW isMu U O).1) _ _ a4 (Nat.le_succ j) ?_ (hq2.push h3 h4 rfl) (hdw.ope (by omega) hup) hF4 hA4
    rw [rm_s hj7]
    simp only [rm]
    rw [if_neg hno, if_pos (Or.inl hk), if_pos hk]
  · refine r_i ?_
    refine b_if_ne c_230_128 (fun h => Bool.noConfusion h) (fun _ => ?_)
    refine w_aload c_230_131 rfl ?_
    refine z_push c_230_132 ?_
    refine wc_140 c_230_134 sp_157 (Nat.le_of_ble_eq_true rfl) (by omega) ?_
    refine tt_takesSign hB (c := 47) (by decide) (by omega) hA2 (fun hk a4 ha4 hA4 => ?_) (fun hk47 => ?_)
    · refine r_i ?_
      refine b_if_eq c_230_137 (fun h => Bool.noConfusion h) (fun _ => ?_)
      have hke : ¬ tkK T n j = 341 := by omega
      have hup := tkS_up hn.1 hB.2.2.2 hi.2.2.2.2 hke
      have hlk := (tkK_sign hB.2.2.2 (T := T) (n := n) (j := j) (c := 47) (by omega) (by omega) (by omega)).mp hk
      have hlt := lkc_lt hlk (by decide)
      have hte : T (a4 - 1) = 47 := by rw [ha4, show tkP T n j + 1 - 1 = tkP T n j by omega]; unfold lkc at hlk; rwa [if_pos hlt] at hlk
      have hdl := hdw.2.1
      refine w_aload c_230_140 rfl ?_
      refine w_getR c_230_141 sp_157 (by decide) rfl pr_157_0 ?_
      refine w_aload c_230_144 rfl ?_
      refine z_getZ c_230_145 sp_157 (by decide) rfl rfl ?_
      refine z_push c_230_148 ?_
      refine z_isub c_230_149 ?_
      refine z_iaload c_230_150 sp_158 (by omega) (by first | decide | omega) (hB.2.1 _ (by omega) (by omega)) ?_
      refine z_push c_230_151 ?_
      refine z_ic_ne c_230_153 (by first | exact aRg_of _ | (unfold aRg; omega)) (by first | exact aRg_of _ | (unfold aRg; omega)) (fun h41_ => ?_) (fun h41_ => ?_)
      rotate_left
      · exfalso; omega
      refine z_push c_230_160 ?_
      refine w_istore c_230_161 (Nat.le_of_ble_eq_true rfl) rfl ?_
      refine t_qGo_mu hBh (by omega) _ U O I (Nat.lt_succ_self _) hq hi.1 (by omega) (fun I2 hq2 hF2 => ?_)
      have hql : (((dW isMu U O).1 ++ B).length) < 1700 := by omega
      refine w_aload c_230_185 rfl ?_
      refine w_getR c_230_186 sp_157 (by decide) rfl pr_157_99 ?_
      refine w_aload c_230_189 rfl ?_
      refine z_getZ c_230_190 sp_157 (by decide) rfl hq2.2.1 ?_
      refine w_iload c_230_193 rfl ?_
      refine z_iastore c_230_194 sp_233 (by omega) (by decide) ?_
      refine oq_k hF2 (Or.inr (Or.inr rfl)) (by omega) (fun I3 h3 hF3 => ?_)
      have hc3 : I3 157 100 = iI (((dW isMu U O).1 ++ B).length : Int) := by rw [h3]; exact (up_ne (by omega)).trans hq2.2.1
      refine w_aload c_230_195 rfl ?_
      refine w_dup c_230_196 rfl ?_
      refine z_getZ c_230_197 sp_157 (by decide) rfl hc3 ?_
      refine z_push c_230_200 ?_
      refine z_iadd c_230_201 ?_
      refine z_putZ c_230_202 sp_157 (by decide) rfl ?_
      refine oq_k hF3 (Or.inl ⟨rfl, Or.inr (Or.inl rfl)⟩) (by decide) (fun I4 h4 hF4 => ?_)
      refine z_push c_230_205 ?_
      refine z_ret1 c_230_206 rfl ?_
      refine kT I4 (j + 1) (4 :: (dW isMu U O).1) _ _ a4 (Nat.le_succ j) ?_ (hq2.push h3 h4 rfl) (hdw.ope (by omega) hup) hF4 hA4
      rw [rm_s hj7]
      simp only [rm]
      rw [if_neg hno, if_pos (Or.inr hk), if_neg (by omega)]
    · refine r_i ?_
      refine b_if_eq c_230_137 (fun _ => ?_) (fun h => Bool.noConfusion h)
      refine w_aload c_230_207 rfl ?_
      refine z_push c_230_208 ?_
      refine wc_140 c_230_210 sp_157 (Nat.le_of_ble_eq_true rfl) (by omega) ?_
      refine tt_takesSign hB (c := 43) (by decide) (by omega) hA2 (fun hk a4 ha4 hA4 => ?_) (fun hk43 => ?_)
      · refine r_i ?_
        refine b_if_ne c_230_213 (fun _ => ?_) (fun h => Bool.noConfusion h)
        have hke : ¬ tkK T n j = 341 := by omega
        have hup := tkS_up hn.1 hB.2.2.2 hi.2.2.2.2 hke
        have hlk := (tkK_sign hB.2.2.2 (T := T) (n := n) (j := j) (c := 43) (by omega) (by omega) (by omega)).mp hk
        have hlt := lkc_lt hlk (by decide)
        have hte : T (a4 - 1) = 43 := by rw [ha4, show tkP T n j + 1 - 1 = tkP T n j by omega]; unfold lkc at hlk; rwa [if_pos hlt] at hlk
        have hdl := hds.2.1
        refine w_aload c_230_225 rfl ?_
        refine w_getR c_230_226 sp_157 (by decide) rfl pr_157_0 ?_
        refine w_aload c_230_229 rfl ?_
        refine z_getZ c_230_230 sp_157 (by decide) rfl rfl ?_
        refine z_push c_230_233 ?_
        refine z_isub c_230_234 ?_
        refine z_iaload c_230_235 sp_158 (by omega) (by first | decide | omega) (hB.2.1 _ (by omega) (by omega)) ?_
        refine z_push c_230_236 ?_
        refine z_ic_ne c_230_238 (by first | exact aRg_of _ | (unfold aRg; omega)) (by first | exact aRg_of _ | (unfold aRg; omega)) (fun h41_ => ?_) (fun h41_ => ?_)
        · exfalso; omega
        refine z_push c_230_241 ?_
        refine w_goto c_230_242 ?_
        refine w_istore c_230_246 (Nat.le_of_ble_eq_true rfl) rfl ?_
        refine t_qGo_su hBh (by omega) _ U O I (Nat.lt_succ_self _) hq hi.1 (by omega) (fun I2 hq2 hF2 => ?_)
        have hql : (((dW isSu U O).1 ++ B).length) < 1700 := by omega
        refine w_aload c_230_286 rfl ?_
        refine w_getR c_230_287 sp_157 (by decide) rfl pr_157_99 ?_
        refine w_aload c_230_290 rfl ?_
        refine z_getZ c_230_291 sp_157 (by decide) rfl hq2.2.1 ?_
        refine w_iload c_230_294 rfl ?_
        refine z_iastore c_230_295 sp_233 (by omega) (by decide) ?_
        refine oq_k hF2 (Or.inr (Or.inr rfl)) (by omega) (fun I3 h3 hF3 => ?_)
        have hc3 : I3 157 100 = iI (((dW isSu U O).1 ++ B).length : Int) := by rw [h3]; exact (up_ne (by omega)).trans hq2.2.1
        refine w_aload c_230_296 rfl ?_
        refine w_dup c_230_297 rfl ?_
        refine z_getZ c_230_298 sp_157 (by decide) rfl hc3 ?_
        refine z_push c_230_301 ?_
        refine z_iadd c_230_302 ?_
        refine z_putZ c_230_303 sp_157 (by decide) rfl ?_
        refine oq_k hF3 (Or.inl ⟨rfl, Or.inr (Or.inl rfl)⟩) (by decide) (fun I4 h4 hF4 => ?_)
        refine z_push c_230_306 ?_
        refine z_ret1 c_230_307 rfl ?_
        refine kT I4 (j + 1) (1 :: (dW isSu U O).1) _ _ a4 (Nat.le_succ j) ?_ (hq2.push h3 h4 rfl) (hds.ope (by omega) hup) hF4 hA4
        rw [rm_s hj7]
        simp only [rm]
        rw [if_neg hno, if_neg (by omega), if_pos (Or.inl hk), if_pos hk]
      · refine r_i ?_
        refine b_if_ne c_230_213 (fun h => Bool.noConfusion h) (fun _ => ?_)
        refine w_aload c_230_216 rfl ?_
        refine z_push c_230_217 ?_
        refine wc_140 c_230_219 sp_157 (Nat.le_of_ble_eq_true rfl) (by omega) ?_
        refine tt_takesSign hB (c := 45) (by decide) (by omega) hA2 (fun hk a4 ha4 hA4 => ?_) (fun hk45 => ?_)
        · refine r_i ?_
          refine b_if_eq c_230_222 (fun h => Bool.noConfusion h) (fun _ => ?_)
          have hke : ¬ tkK T n j = 341 := by omega
          have hup := tkS_up hn.1 hB.2.2.2 hi.2.2.2.2 hke
          have hlk := (tkK_sign hB.2.2.2 (T := T) (n := n) (j := j) (c := 45) (by omega) (by omega) (by omega)).mp hk
          have hlt := lkc_lt hlk (by decide)
          have hte : T (a4 - 1) = 45 := by rw [ha4, show tkP T n j + 1 - 1 = tkP T n j by omega]; unfold lkc at hlk; rwa [if_pos hlt] at hlk
          have hdl := hds.2.1
          refine w_aload c_230_225 rfl ?_
          refine w_getR c_230_226 sp_157 (by decide) rfl pr_157_0 ?_
          refine w_aload c_230_229 rfl ?_
          refine z_getZ c_230_230 sp_157 (by decide) rfl rfl ?_
          refine z_push c_230_233 ?_
          refine z_isub c_230_234 ?_
          refine z_iaload c_230_235 sp_158 (by omega) (by first | decide | omega) (hB.2.1 _ (by omega) (by omega)) ?_
          refine z_push c_230_236 ?_
          refine z_ic_ne c_230_238 (by first | exact aRg_of _ | (unfold aRg; omega)) (by first | exact aRg_of _ | (unfold aRg; omega)) (fun h41_ => ?_) (fun h41_ => ?_)
          rotate_left
          · exfalso; omega
          refine z_push c_230_245 ?_
          refine w_istore c_230_246 (Nat.le_of_ble_eq_true rfl) rfl ?_
          refine t_qGo_su hBh (by omega) _ U O I (Nat.lt_succ_self _) hq hi.1 (by omega) (fun I2 hq2 hF2 => ?_)
          have hql : (((dW isSu U O).1 ++ B).length) < 1700 := by omega
          refine w_aload c_230_286 rfl ?_
          refine w_getR c_230_287 sp_157 (by decide) rfl pr_157_99 ?_
          refine w_aload c_230_290 rfl ?_
          refine z_getZ c_230_291 sp_157 (by decide) rfl hq2.2.1 ?_
          refine w_iload c_230_294 rfl ?_
          refine z_iastore c_230_295 sp_233 (by omega) (by decide) ?_
          refine oq_k hF2 (Or.inr (Or.inr rfl)) (by omega) (fun I3 h3 hF3 => ?_)
          have hc3 : I3 157 100 = iI (((dW isSu U O).1 ++ B).length : Int) := by rw [h3]; exact (up_ne (by omega)).trans hq2.2.1
          refine w_aload c_230_296 rfl ?_
          refine w_dup c_230_297 rfl ?_
          refine z_getZ c_230_298 sp_157 (by decide) rfl hc3 ?_
          refine z_push c_230_301 ?_
          refine z_iadd c_230_302 ?_
          refine z_putZ c_230_303 sp_157 (by decide) rfl ?_
          refine oq_k hF3 (Or.inl ⟨rfl, Or.inr (Or.inl rfl)⟩) (by decide) (fun I4 h4 hF4 => ?_)
          refine z_push c_230_306 ?_
          refine z_ret1 c_230_307 rfl ?_
          refine kT I4 (j + 1) (2 :: (dW isSu U O).1) _ _ a4 (Nat.le_succ j) ?_ (hq2.push h3 h4 rfl) (hds.ope (by omega) hup) hF4 hA4
          rw [rm_s hj7]
          simp only [rm]
          rw [if_neg hno, if_neg (by omega), if_pos (Or.inr hk), if_neg (by omega)]
        · refine r_i ?_
          refine b_if_eq c_230_222 (fun _ => ?_) (fun h => Bool.noConfusion h)
          refine w_aload c_230_308 rfl ?_
          refine wc_223 c_230_309 sp_157 (Nat.le_of_ble_eq_true rfl) (by omega) ?_
          refine t_qBracket hq hi.1 (by omega) (by omega) ?_
          refine r_i ?_
          refine z_push c_230_312 ?_
          refine z_ic_eq c_230_314 (by first | exact aRg_of _ | (unfold aRg; omega)) (by first | exact aRg_of _ | (unfold aRg; omega)) (fun h9_ => ?_) (fun h9_ => ?_)
          · refine w_aload c_230_326 rfl ?_
            refine z_push c_230_327 ?_
            refine wc_141 c_230_329 sp_157 (Nat.le_of_ble_eq_true rfl) (by omega) ?_
            refine tt_asksSign hB (c := 44) (by decide) (by omega) hA2 (fun hk a4 hA4 => ?_) (fun hk44 => ?_)
            · refine r_v ?_
              refine w_aload c_230_332 rfl ?_
              refine z_getZ c_230_333 sp_157 (by decide) rfl rfl ?_
              refine z_if_eq c_230_336 (by first | exact aRg_of _ | (unfold aRg; omega)) (fun h10_ => ?_) (fun h10_ => ?_)
              · refine w_aload c_230_341 rfl ?_
                refine wc_224 c_230_342 sp_157 (Nat.le_of_ble_eq_true rfl) (by omega) ?_
                obtain ⟨U2, hU2⟩ := brk_dW U O (by omega)
                have hke : ¬ tkK T n j = 341 := by omega
                have hup := tkS_up hn.1 hB.2.2.2 hi.2.2.2.2 hke
                refine t_qDropsToBracket hq hi.1 (by omega) (by omega) (fun I3 hq3 hF3 => ?_)
                rw [hU2] at hq3 hdb
                have hdl := hdb.2.1
                have hq3 : qS I3 (brk U :: (U2 ++ B)) (dW nBr U O).2 op B.length := hq3
                have hll : (((brk U :: U2) ++ B).length) = (U2 ++ B).length + 1 := rfl
                have hll2 : (((brk U :: (U2 ++ B)).length : Nat) : Int) = ((U2 ++ B).length : Int) + 1 := by rw [List.length_cons]; omega
                refine r_v ?_
                refine w_aload c_230_345 rfl ?_
                refine w_getR c_230_346 sp_157 (by decide) rfl pr_157_99 ?_
                refine w_aload c_230_349 rfl ?_
                refine z_getZ c_230_350 sp_157 (by decide) rfl hq3.2.1 ?_
                refine z_push c_230_353 ?_
                refine z_isub c_230_354 ?_
                refine w_dup2 c_230_355 rfl rfl ?_
                refine z_iaload c_230_356 sp_233 (by omega) (by first | decide | omega) (hq3.1.top (by omega)) ?_
                refine z_push c_230_357 ?_
                refine z_iadd c_230_358 ?_
                refine z_iastore c_230_359 sp_233 (by omega) (by decide) ?_
                refine oq_k hF3 (Or.inr (Or.inr rfl)) (by omega) (fun I4 h4 hF4 => ?_)
                refine z_push c_230_360 ?_
                refine z_ret1 c_230_361 rfl ?_
                have h4 : I4 = aUp I3 233 (U2 ++ B).length (iI (brk U + 2)) := by rw [h4, show ((((brk U :: (U2 ++ B)).length : Nat) : Int) - 1).toNat = (U2 ++ B).length by omega]
                refine kT I4 (j + 1) ((brk U + 2) :: U2) _ _ a4 (Nat.le_succ j) ?_ (hq3.rep h4) ((hdb.rep (by omega)).nxt hup) hF4 hA4
                rw [rm_s hj7]
                simp only [rm]
                rw [if_neg hno, if_neg (by omega), if_neg (by omega), if_pos (show brk U = 21 ∨ brk U = 22 by omega), if_pos hk]
                simp only [hU2]
              · refine z_push c_230_339 ?_
                refine z_ret0 c_230_340 rfl ?_
                exact absurd rfl (show ¬ (0 : Int) = 0 from h10_)
            · refine r_v ?_
              refine w_aload c_230_332 rfl ?_
              refine z_getZ c_230_333 sp_157 (by decide) rfl rfl ?_
              refine z_if_eq c_230_336 (by first | exact aRg_of _ | (unfold aRg; omega)) (fun h11_ => ?_) (fun h11_ => ?_)
              · refine w_aload c_230_341 rfl ?_
                refine wc_224 c_230_342 sp_157 (Nat.le_of_ble_eq_true rfl) (by omega) ?_
                obtain ⟨U2, hU2⟩ := brk_dW U O (by omega)
                have hke : ¬ tkK T n j = 341 := by omega
                have hup := tkS_up hn.1 hB.2.2.2 hi.2.2.2.2 hke
                refine t_qDropsToBracket hq hi.1 (by omega) (by omega) (fun I3 hq3 hF3 => ?_)
                rw [hU2] at hq3 hdb
                have hdl := hdb.2.1
                have hq3 : qS I3 (brk U :: (U2 ++ B)) (dW nBr U O).2 op B.length := hq3
                have hll : (((brk U :: U2) ++ B).length) = (U2 ++ B).length + 1 := rfl
                have hll2 : (((brk U :: (U2 ++ B)).length : Nat) : Int) = ((U2 ++ B).length : Int) + 1 := by rw [List.length_cons]; omega
                refine r_v ?_
                refine w_aload c_230_345 rfl ?_
                refine w_getR c_230_346 sp_157 (by decide) rfl pr_157_99 ?_
                refine w_aload c_230_349 rfl ?_
                refine z_getZ c_230_350 sp_157 (by decide) rfl hq3.2.1 ?_
                refine z_push c_230_353 ?_
                refine z_isub c_230_354 ?_
                refine w_dup2 c_230_355 rfl rfl ?_
                refine z_iaload c_230_356 sp_233 (by omega) (by first | decide | omega) (hq3.1.top (by omega)) ?_
                refine z_push c_230_357 ?_
                refine z_iadd c_230_358 ?_
                refine z_iastore c_230_359 sp_233 (by omega) (by decide) ?_
                refine oq_k hF3 (Or.inr (Or.inr rfl)) (by omega) (fun I4 h4 hF4 => ?_)
                refine z_push c_230_360 ?_
                refine z_ret1 c_230_361 rfl ?_
                exact absurd (show (1 : Int) = 0 from h11_) (by decide)
              · refine z_push c_230_339 ?_
                refine z_ret0 c_230_340 rfl ?_
                have hrm : rm (tkK T n) (tkP T n) (tkZ T n) tk (1700 - j) 2 j U O op = (1, tkP T n j, j, O, op) := by
                  rw [rm_s hj7]
                  simp only [rm]
                  rw [if_neg hno, if_neg (by omega), if_neg (by omega), if_pos (show brk U = 21 ∨ brk U = 22 by omega), if_neg hk44]
                rw [hrm] at kF
                exact kF I _ _ (show (0 : Int) < 1 by decide) (show (1 : Int) < 10 by decide) ⟨_, hq.2.2.2.1, by omega, by omega⟩ frG.rf ⟨hpr, hen⟩
          · refine w_aload c_230_317 rfl ?_
            refine wc_223 c_230_318 sp_157 (Nat.le_of_ble_eq_true rfl) (by omega) ?_
            refine t_qBracket hq hi.1 (by omega) (by omega) ?_
            refine r_i ?_
            refine z_push c_230_321 ?_
            refine z_ic_ne c_230_323 (by first | exact aRg_of _ | (unfold aRg; omega)) (by first | exact aRg_of _ | (unfold aRg; omega)) (fun h12_ => ?_) (fun h12_ => ?_)
            · refine w_aload c_230_362 rfl ?_
              refine wc_223 c_230_363 sp_157 (Nat.le_of_ble_eq_true rfl) (by omega) ?_
              refine t_qBracket hq hi.1 (by omega) (by omega) ?_
              refine r_i ?_
              refine z_push c_230_366 ?_
              refine z_ic_eq c_230_367 (by first | exact aRg_of _ | (unfold aRg; omega)) (by first | exact aRg_of _ | (unfold aRg; omega)) (fun h13_ => ?_) (fun h13_ => ?_)
              · refine z_push c_230_386 ?_
                refine z_ret0 c_230_387 rfl ?_
                exact kE I j U O op _ (Nat.le_refl j) (by
                  rw [rm_s hj7]
                  simp only [rm]
                  rw [if_neg hno, if_neg (by omega), if_neg (by omega), if_neg (by omega), if_neg (by omega)]) hq hi frG.rf hA2
              · refine w_aload c_230_370 rfl ?_
                refine z_getZ c_230_371 sp_157 (by decide) rfl rfl ?_
                refine z_if_ne c_230_374 (by first | exact aRg_of _ | (unfold aRg; omega)) (fun h14_ => ?_) (fun h14_ => ?_)
                · refine z_push c_230_386 ?_
                  refine z_ret0 c_230_387 rfl ?_
                  exact absurd rfl (show ¬ (0 : Int) = 0 from h14_)
                · refine w_aload c_230_377 rfl ?_
                  refine z_push c_230_378 ?_
                  refine w_aload c_230_379 rfl ?_
                  refine z_getZ c_230_380 sp_157 (by decide) rfl rfl ?_
                  refine wc_133 c_230_383 sp_157 (Nat.le_of_ble_eq_true rfl) (by omega) ?_
                  refine t_fail (by unfold aRg; omega) (fun z => absurd rfl z) (fun _ => ?_)
                  refine r_v ?_
                  refine z_push c_230_386 ?_
                  refine z_ret0 c_230_387 rfl ?_
                  have hrm : rm (tkK T n) (tkP T n) (tkZ T n) tk (1700 - j) 2 j U O op = (1, tkP T n j, j, O, op) := by
                    rw [rm_s hj7]
                    simp only [rm]
                    rw [if_neg hno, if_neg (by omega), if_neg (by omega), if_neg (by omega), if_pos h13_]
                  rw [hrm] at kF
                  exact kF I _ _ (show (0 : Int) < 1 by decide) (show (1 : Int) < 10 by decide) ⟨_, hq.2.2.2.1, by omega, by omega⟩ frG.rf ⟨hpr, hen⟩
            · refine w_aload c_230_326 rfl ?_
              refine z_push c_230_327 ?_
              refine wc_141 c_230_329 sp_157 (Nat.le_of_ble_eq_true rfl) (by omega) ?_
              refine tt_asksSign hB (c := 44) (by decide) (by omega) hA2 (fun hk a4 hA4 => ?_) (fun hk44 => ?_)
              · refine r_v ?_
                refine w_aload c_230_332 rfl ?_
                refine z_getZ c_230_333 sp_157 (by decide) rfl rfl ?_
                refine z_if_eq c_230_336 (by first | exact aRg_of _ | (unfold aRg; omega)) (fun h15_ => ?_) (fun h15_ => ?_)
                · refine w_aload c_230_341 rfl ?_
                  refine wc_224 c_230_342 sp_157 (Nat.le_of_ble_eq_true rfl) (by omega) ?_
                  obtain ⟨U2, hU2⟩ := brk_dW U O (by omega)
                  have hke : ¬ tkK T n j = 341 := by omega
                  have hup := tkS_up hn.1 hB.2.2.2 hi.2.2.2.2 hke
                  refine t_qDropsToBracket hq hi.1 (by omega) (by omega) (fun I3 hq3 hF3 => ?_)
                  rw [hU2] at hq3 hdb
                  have hdl := hdb.2.1
                  have hq3 : qS I3 (brk U :: (U2 ++ B)) (dW nBr U O).2 op B.length := hq3
                  have hll : (((brk U :: U2) ++ B).length) = (U2 ++ B).length + 1 := rfl
                  have hll2 : (((brk U :: (U2 ++ B)).length : Nat) : Int) = ((U2 ++ B).length : Int) + 1 := by rw [List.length_cons]; omega
                  refine r_v ?_
                  refine w_aload c_230_345 rfl ?_
                  refine w_getR c_230_346 sp_157 (by decide) rfl pr_157_99 ?_
                  refine w_aload c_230_349 rfl ?_
                  refine z_getZ c_230_350 sp_157 (by decide) rfl hq3.2.1 ?_
                  refine z_push c_230_353 ?_
                  refine z_isub c_230_354 ?_
                  refine w_dup2 c_230_355 rfl rfl ?_
                  refine z_iaload c_230_356 sp_233 (by omega) (by first | decide | omega) (hq3.1.top (by omega)) ?_
                  refine z_push c_230_357 ?_
                  refine z_iadd c_230_358 ?_
                  refine z_iastore c_230_359 sp_233 (by omega) (by decide) ?_
                  refine oq_k hF3 (Or.inr (Or.inr rfl)) (by omega) (fun I4 h4 hF4 => ?_)
                  refine z_push c_230_360 ?_
                  refine z_ret1 c_230_361 rfl ?_
                  have h4 : I4 = aUp I3 233 (U2 ++ B).length (iI (brk U + 2)) := by rw [h4, show ((((brk U :: (U2 ++ B)).length : Nat) : Int) - 1).toNat = (U2 ++ B).length by omega]
                  refine kT I4 (j + 1) ((brk U + 2) :: U2) _ _ a4 (Nat.le_succ j) ?_ (hq3.rep h4) ((hdb.rep (by omega)).nxt hup) hF4 hA4
                  rw [rm_s hj7]
                  simp only [rm]
                  rw [if_neg hno, if_neg (by omega), if_neg (by omega), if_pos (show brk U = 21 ∨ brk U = 22 by omega), if_pos hk]
                  simp only [hU2]
                · refine z_push c_230_339 ?_
                  refine z_ret0 c_230_340 rfl ?_
                  exact absurd rfl (show ¬ (0 : Int) = 0 from h15_)
              · refine r_v ?_
                refine w_aload c_230_332 rfl ?_
                refine z_getZ c_230_333 sp_157 (by decide) rfl rfl ?_
                refine z_if_eq c_230_336 (by first | exact aRg_of _ | (unfold aRg; omega)) (fun h16_ => ?_) (fun h16_ => ?_)
                · refine w_aload c_230_341 rfl ?_
                  refine wc_224 c_230_342 sp_157 (Nat.le_of_ble_eq_true rfl) (by omega) ?_
                  obtain ⟨U2, hU2⟩ := brk_dW U O (by omega)
                  have hke : ¬ tkK T n j = 341 := by omega
                  have hup := tkS_up hn.1 hB.2.2.2 hi.2.2.2.2 hke
                  refine t_qDropsToBracket hq hi.1 (by omega) (by omega) (fun I3 hq3 hF3 => ?_)
                  rw [hU2] at hq3 hdb
                  have hdl := hdb.2.1
                  have hq3 : qS I3 (brk U :: (U2 ++ B)) (dW nBr U O).2 op B.length := hq3
                  have hll : (((brk U :: U2) ++ B).length) = (U2 ++ B).length + 1 := rfl
                  have hll2 : (((brk U :: (U2 ++ B)).length : Nat) : Int) = ((U2 ++ B).length : Int) + 1 := by rw [List.length_cons]; omega
                  refine r_v ?_
                  refine w_aload c_230_345 rfl ?_
                  refine w_getR c_230_346 sp_157 (by decide) rfl pr_157_99 ?_
                  refine w_aload c_230_349 rfl ?_
                  refine z_getZ c_230_350 sp_157 (by decide) rfl hq3.2.1 ?_
                  refine z_push c_230_353 ?_
                  refine z_isub c_230_354 ?_
                  refine w_dup2 c_230_355 rfl rfl ?_
                  refine z_iaload c_230_356 sp_233 (by omega) (by first | decide | omega) (hq3.1.top (by omega)) ?_
                  refine z_push c_230_357 ?_
                  refine z_iadd c_230_358 ?_
                  refine z_iastore c_230_359 sp_233 (by omega) (by decide) ?_
                  refine oq_k hF3 (Or.inr (Or.inr rfl)) (by omega) (fun I4 h4 hF4 => ?_)
                  refine z_push c_230_360 ?_
                  refine z_ret1 c_230_361 rfl ?_
                  exact absurd (show (1 : Int) = 0 from h16_) (by decide)
                · refine z_push c_230_339 ?_
                  refine z_ret0 c_230_340 rfl ?_
                  have hrm : rm (tkK T n) (tkP T n) (tkZ T n) tk (1700 - j) 2 j U O op = (1, tkP T n j, j, O, op) := by
                    rw [rm_s hj7]
                    simp only [rm]
                    rw [if_neg hno, if_neg (by omega), if_neg (by omega), if_pos (show brk U = 21 ∨ brk U = 22 by omega), if_neg hk44]
                  rw [hrm] at kF
                  exact kF I _ _ (show (0 : Int) < 1 by decide) (show (1 : Int) < 10 by decide) ⟨_, hq.2.2.2.1, by omega, by omega⟩ frG.rf ⟨hpr, hen⟩

set_option maxHeartbeats 2000000 in
theorem t_qGoesOn_1 {d : Nat} {L : aFL} {Q : aPo} {T : Int → Int} {n : Int} {sh : Nat} {su : Option Nat} {bp np nm tk : Int} {sl : Nat} {B : List Int} (hBh : ∀ v : Int, B.head? = some v → ¬ isSu v = true) (hd : 6 ≤ d) : ∀ (fz : Nat) (j : Nat) (U O : List Int) (op a : Int) (I : aFI), 1700 - j < fz → (oB I T n) → (rA T n j a) → (qS I (U ++ B) O op B.length) → (qI T n sl B U O op j) → (∀ (I2 : aFI) (j2 : Nat) (U2 O2 : List Int) (op2 a2 : Int), j ≤ j2 → rm (tkK T n) (tkP T n) (tkZ T n) tk (1700 - j) 2 j U O op = rm (tkK T n) (tkP T n) (tkZ T n) tk (1700 - j2) 0 j2 U2 O2 op2 → qS I2 (U2 ++ B) O2 op2 B.length → qI T n sl B U2 O2 op2 j2 → frG PQn I I2 → rA T n j2 a2 → Q (some (.int (aBo true))) (oT I2 T n j2 a2 0 bp np nm) L (aR sh su)) → (∀ (I2 : aFI) (j2 : Nat) (U2 O2 : List Int) (op2 a2 : Int), j ≤ j2 → rm (tkK T n) (tkP T n) (tkZ T n) tk (1700 - j) 2 j U O op = (0, 0, j2, (dW (fun _ => true) U2 O2).2, op2) → qS I2 (U2 ++ B) O2 op2 B.length → qI T n sl B U2 O2 op2 j2 → frG PQn I I2 → rA T n j2 a2 → Q (some (.int (aBo false))) (oT I2 T n j2 a2 0 bp np nm) L (aR sh su)) → (∀ (I2 : aFI) (a2 en2 : Int), 0 < (rm (tkK T n) (tkP T n) (tkZ T n) tk (1700 - j) 2 j U O op).1 → (rm (tkK T n) (tkP T n) (tkZ T n) tk (1700 - j) 2 j U O op).1 < 10 → (∃ c : Int, I2 157 98 = iI c ∧ 0 ≤ c ∧ c < 1690) → frG PQn I I2 → aF n a2 en2 → Q (some (.int (aBo false))) (oP I2 a2 en2 (rm (tkK T n) (tkP T n) (tkZ T n) tk (1700 - j) 2 j U O op).1 (rm (tkK T n) (tkP T n) (tkZ T n) tk (1700 - j) 2 j U O op).2.1 np nm) L (aR sh su)) → aWp none d 230 0 [.ref 157, .null] [] (oT I T n j a 0 bp np nm) L (aR sh su) Q := by
  intro fz
  induction fz with
  | zero => intro j U O op a I h; omega
  | succ fz ih =>
    intro j U O op a I hn2 hB hA hq hi kT kE kF
    have hn := hB.2.2.1
    have hjj := hi.jb hn
    have hj7 : j < 1700 := by omega
    have hlen := hi.2.1
    have hpr := tkP_rg (T := T) (n := n) (j := j) hn.1
    have hen := en_rg (T := T) (n := n) (j := j) hn
    have hA2 := rA_p (T := T) (n := n) (j := j) hn.1
    have hbr := brk_rg U
    have hdw := hi.dw (p := isMu)
    have hds := hi.dw (p := isSu)
    have hdb := hi.dw (p := nBr)
    have hlk := tkK_sign hB.2.2.2 (T := T) (n := n) (j := j) (c := 41) (by omega) (by omega) (by omega)
    have hlr : -1 ≤ lkc T n (tkP T n j) ∧ lkc T n (tkP T n j) < 256 := by have := hB.2.2.2 (tkP T n j); unfold lkc; split <;> omega
    refine w_aload c_230_0 rfl ?_
    refine z_getZ c_230_1 sp_157 (by decide) rfl rfl ?_
    refine z_if_ne c_230_4 (by first | exact aRg_of _ | (unfold aRg; omega)) (fun h1_ => ?_) (fun h1_ => ?_)
    · exfalso; omega
    refine w_aload c_230_7 rfl ?_
    refine wc_136 c_230_8 sp_157 (Nat.le_of_ble_eq_true rfl) (by omega) ?_
    refine tt_look hB hA ?_
    refine r_i ?_
    refine z_push c_230_11 ?_
    refine z_ic_ne c_230_13 (by first | exact aRg_of _ | (unfold aRg; omega)) (by first | exact aRg_of _ | (unfold aRg; omega)) (fun h2_ => ?_) (fun h2_ => ?_)
    · exact t_qGo_122 hB hA2 hq hi hBh hd (fun z => by have := hlk.mp z.1; omega) kT kE kF
    · refine w_aload c_230_16 rfl ?_
      refine wc_223 c_230_17 sp_157 (Nat.le_of_ble_eq_true rfl) (by omega) ?_
      refine t_qBracket hq hi.1 (by omega) (by omega) ?_
      refine r_i ?_
      refine z_push c_230_20 ?_
      refine z_ic_eq c_230_22 (by first | exact aRg_of _ | (unfold aRg; omega)) (by first | exact aRg_of _ | (unfold aRg; omega)) (fun h3_ => ?_) (fun h3_ => ?_)
      · refine w_aload c_230_43 rfl ?_
        refine w_dup c_230_44 rfl ?_
        refine z_getZ c_230_45 sp_157 (by decide) rfl rfl ?_
        refine z_push c_230_48 ?_
        refine z_iadd c_230_49 ?_
        refine z_putZ c_230_50 sp_157 (by decide) rfl ?_
        rw [oP_at]
        refine w_aload c_230_53 rfl ?_
        refine wc_224 c_230_54 sp_157 (Nat.le_of_ble_eq_true rfl) (by omega) ?_
        have hk41 : tkK T n j = 41 := hlk.mpr (by omega)
        obtain ⟨U2, hU2⟩ := brk_dW U O (by omega)
        have hke : ¬ tkK T n j = 341 := by omega
        have hup := tkS_up hn.1 hB.2.2.2 hi.2.2.2.2 hke
        refine t_qDropsToBracket hq hi.1 (by omega) (by omega) (fun I2 hq2 hF2 => ?_)
        rw [hU2] at hq2 hdb
        have hdl := hdb.2.1
        have hq2 : qS I2 (brk U :: (U2 ++ B)) (dW nBr U O).2 op B.length := hq2
        have hll : (((brk U :: U2) ++ B).length) = (U2 ++ B).length + 1 := rfl
        have hll2 : (((brk U :: (U2 ++ B)).length : Nat) : Int) = ((U2 ++ B).length : Int) + 1 := by rw [List.length_cons]; omega
        refine r_v ?_
        refine w_aload c_230_57 rfl ?_
        refine w_dup c_230_58 rfl ?_
        refine z_getZ c_230_59 sp_157 (by decide) rfl hq2.2.1 ?_
        refine z_push c_230_62 ?_
        refine z_isub c_230_63 ?_
        refine z_putZ c_230_64 sp_157 (by decide) rfl ?_
        refine oq_k hF2 (Or.inl ⟨rfl, Or.inr (Or.inl rfl)⟩) (by decide) (fun I3 h3 hF3 => ?_)
        have hq3 := hq2.pop h3 (by omega)
        have hv3 : I3 233 (U2 ++ B).length = iI (brk U) := by rw [h3]; exact (up_ne (by omega)).trans hq2.1.1
        refine w_aload c_230_67 rfl ?_
        refine w_dup c_230_68 rfl ?_
        refine z_getZ c_230_69 sp_157 (by decide) rfl hq3.2.2.2.2.1 ?_
        refine z_push c_230_72 ?_
        refine z_isub c_230_73 ?_
        refine z_putZ c_230_74 sp_157 (by decide) rfl ?_
        refine oq_k hF3 (Or.inl ⟨rfl, Or.inr (Or.inr (Or.inl rfl))⟩) (by decide) (fun I4 h4 hF4 => ?_)
        have hq4 := hq3.opn h4
        have hv4 : I4 233 (U2 ++ B).length = iI (brk U) := by rw [h4]; exact (up_ne (by omega)).trans hv3
        refine w_aload c_230_77 rfl ?_
        refine w_getR c_230_78 sp_157 (by decide) rfl pr_157_99 ?_
        refine w_aload c_230_81 rfl ?_
        refine z_getZ c_230_82 sp_157 (by decide) rfl hq4.2.1 ?_
        refine z_iaload c_230_85 sp_233 (by omega) (by first | decide | omega) hv4 ?_
        refine z_push c_230_86 ?_
        refine z_ic_eq c_230_88 (by first | exact aRg_of _ | (unfold aRg; omega)) (by first | exact aRg_of _ | (unfold aRg; omega)) (fun h4_ => ?_) (fun h4_ => ?_)
        · refine w_aload c_230_115 rfl ?_
          refine wc_228 c_230_116 sp_157 (Nat.le_of_ble_eq_true rfl) (by omega) ?_
          have hi2 := hdb.pop hup
          have hl2 := hi2.2.1
          refine t_qEndsPart hq4 hi2.1 (by omega) (by omega) (fun I6 hq6 hF6 => ?_)
          refine r_v ?_
          refine w_goto c_230_119 ?_
          have hrm : rm (tkK T n) (tkP T n) (tkZ T n) tk (1700 - j) 2 j U O op = rm (tkK T n) (tkP T n) (tkZ T n) tk (1700 - (j + 1)) 2 (j + 1) (eP U2 (dW nBr U O).2 (op - 1)).1 (eP U2 (dW nBr U O).2 (op - 1)).2.1 (eP U2 (dW nBr U O).2 (op - 1)).2.2 := by
            rw [rm_s hj7]
            simp only [rm]
            rw [if_pos ⟨hk41, show brk U = 20 ∨ brk U = 23 ∨ brk U = 24 by omega⟩]
            simp only [hU2]
            rw [if_pos (show brk U = 20 by omega)]
          have hFF : frG PQn I I6 := (hF4.tr hF6)
          have hx := rA_sign (b := 0) (bp := bp) (np := np) (nm := nm) (hB.pq hFF) (c := 41) (by decide) hk41
          rw [hx.1]
          exact ih (j + 1) _ _ _ _ I6 (by omega) (hB.pq hFF) hx.2 hq6 hi2.ep (fun I3 j3 U3 O3 op3 a3 z0 z1 z2 z3 z4 z5 => kT I3 j3 U3 O3 op3 a3 (by omega) (hrm.trans z1) z2 z3 (hFF.tr z4) z5) (fun I3 j3 U3 O3 op3 a3 z0 z1 z2 z3 z4 z5 => kE I3 j3 U3 O3 op3 a3 (by omega) (hrm.trans z1) z2 z3 (hFF.tr z4) z5) (fun I3 a3 en3 z1 z2 zc z3 z4 => by rw [hrm] at kF; exact kF I3 a3 en3 z1 z2 zc (hFF.tr z3) z4)
        · refine w_aload c_230_91 rfl ?_
          refine w_aload c_230_92 rfl ?_
          refine w_getR c_230_93 sp_157 (by decide) rfl pr_157_99 ?_
          refine w_aload c_230_96 rfl ?_
          refine z_getZ c_230_97 sp_157 (by decide) rfl hq4.2.1 ?_
          refine z_iaload c_230_100 sp_233 (by omega) (by first | decide | omega) hv4 ?_
          refine z_push c_230_101 ?_
          refine z_ic_ne c_230_103 (by first | exact aRg_of _ | (unfold aRg; omega)) (by first | exact aRg_of _ | (unfold aRg; omega)) (fun h5_ => ?_) (fun h5_ => ?_)
          · refine z_push c_230_110 ?_
            refine wc_218 c_230_112 sp_157 (Nat.le_of_ble_eq_true rfl) (by omega) ?_
            refine t_qCode hq4 (by omega) (fun I5 hq5 hF5 => ?_)
            refine r_v ?_
            refine w_aload c_230_115 rfl ?_
            refine wc_228 c_230_116 sp_157 (Nat.le_of_ble_eq_true rfl) (by omega) ?_
            have hi2 := hdb.popc (v := 6) hup
            have hl2 := hi2.2.1
            refine t_qEndsPart hq5 hi2.1 (by omega) (by omega) (fun I6 hq6 hF6 => ?_)
            refine r_v ?_
            refine w_goto c_230_119 ?_
            have hrm : rm (tkK T n) (tkP T n) (tkZ T n) tk (1700 - j) 2 j U O op = rm (tkK T n) (tkP T n) (tkZ T n) tk (1700 - (j + 1)) 2 (j + 1) (eP U2 (6 :: (dW nBr U O).2) (op - 1)).1 (eP U2 (6 :: (dW nBr U O).2) (op - 1)).2.1 (eP U2 (6 :: (dW nBr U O).2) (op - 1)).2.2 := by
              rw [rm_s hj7]
              simp only [rm]
              rw [if_pos ⟨hk41, show brk U = 20 ∨ brk U = 23 ∨ brk U = 24 by omega⟩]
              simp only [hU2]
              rw [if_neg (show ¬ brk U = 20 by omega), if_neg (show ¬ brk U = 23 by omega)]
            have hFF : frG PQn I I6 := ((hF4.tr hF5).tr hF6)
            have hx := rA_sign (b := 0) (bp := bp) (np := np) (nm := nm) (hB.pq hFF) (c := 41) (by decide) hk41
            rw [hx.1]
            exact ih (j + 1) _ _ _ _ I6 (by omega) (hB.pq hFF) hx.2 hq6 hi2.ep (fun I3 j3 U3 O3 op3 a3 z0 z1 z2 z3 z4 z5 => kT I3 j3 U3 O3 op3 a3 (by omega) (hrm.trans z1) z2 z3 (hFF.tr z4) z5) (fun I3 j3 U3 O3 op3 a3 z0 z1 z2 z3 z4 z5 => kE I3 j3 U3 O3 op3 a3 (by omega) (hrm.trans z1) z2 z3 (hFF.tr z4) z5) (fun I3 a3 en3 z1 z2 zc z3 z4 => by rw [hrm] at kF; exact kF I3 a3 en3 z1 z2 zc (hFF.tr z3) z4)
          · refine z_push c_230_106 ?_
            refine w_goto c_230_107 ?_
            refine wc_218 c_230_112 sp_157 (Nat.le_of_ble_eq_true rfl) (by omega) ?_
            refine t_qCode hq4 (by omega) (fun I5 hq5 hF5 => ?_)
            refine r_v ?_
            refine w_aload c_230_115 rfl ?_
            refine wc_228 c_230_116 sp_157 (Nat.le_of_ble_eq_true rfl) (by omega) ?_
            have hi2 := hdb.popc (v := 5) hup
            have hl2 := hi2.2.1
            refine t_qEndsPart hq5 hi2.1 (by omega) (by omega) (fun I6 hq6 hF6 => ?_)
            refine r_v ?_
            refine w_goto c_230_119 ?_
            have hrm : rm (tkK T n) (tkP T n) (tkZ T n) tk (1700 - j) 2 j U O op = rm (tkK T n) (tkP T n) (tkZ T n) tk (1700 - (j + 1)) 2 (j + 1) (eP U2 (5 :: (dW nBr U O).2) (op - 1)).1 (eP U2 (5 :: (dW nBr U O).2) (op - 1)).2.1 (eP U2 (5 :: (dW nBr U O).2) (op - 1)).2.2 := by
              rw [rm_s hj7]
              simp only [rm]
              rw [if_pos ⟨hk41, show brk U = 20 ∨ brk U = 23 ∨ brk U = 24 by omega⟩]
              simp only [hU2]
              rw [if_neg (show ¬ brk U = 20 by omega), if_pos (show brk U = 23 by omega)]
            have hFF : frG PQn I I6 := ((hF4.tr hF5).tr hF6)
            have hx := rA_sign (b := 0) (bp := bp) (np := np) (nm := nm) (hB.pq hFF) (c := 41) (by decide) hk41
            rw [hx.1]
            exact ih (j + 1) _ _ _ _ I6 (by omega) (hB.pq hFF) hx.2 hq6 hi2.ep (fun I3 j3 U3 O3 op3 a3 z0 z1 z2 z3 z4 z5 => kT I3 j3 U3 O3 op3 a3 (by omega) (hrm.trans z1) z2 z3 (hFF.tr z4) z5) (fun I3 j3 U3 O3 op3 a3 z0 z1 z2 z3 z4 z5 => kE I3 j3 U3 O3 op3 a3 (by omega) (hrm.trans z1) z2 z3 (hFF.tr z4) z5) (fun I3 a3 en3 z1 z2 zc z3 z4 => by rw [hrm] at kF; exact kF I3 a3 en3 z1 z2 zc (hFF.tr z3) z4)
      · refine w_aload c_230_25 rfl ?_
        refine wc_223 c_230_26 sp_157 (Nat.le_of_ble_eq_true rfl) (by omega) ?_
        refine t_qBracket hq hi.1 (by omega) (by omega) ?_
        refine r_i ?_
        refine z_push c_230_29 ?_
        refine z_ic_eq c_230_31 (by first | exact aRg_of _ | (unfold aRg; omega)) (by first | exact aRg_of _ | (unfold aRg; omega)) (fun h6_ => ?_) (fun h6_ => ?_)
        · refine w_aload c_230_43 rfl ?_
          refine w_dup c_230_44 rfl ?_
          refine z_getZ c_230_45 sp_157 (by decide) rfl rfl ?_
          refine z_push c_230_48 ?_
          refine z_iadd c_230_49 ?_
          refine z_putZ c_230_50 sp_157 (by decide) rfl ?_
          rw [oP_at]
          refine w_aload c_230_53 rfl ?_
          refine wc_224 c_230_54 sp_157 (Nat.le_of_ble_eq_true rfl) (by omega) ?_
          have hk41 : tkK T n j = 41 := hlk.mpr (by omega)
          obtain ⟨U2, hU2⟩ := brk_dW U O (by omega)
          have hke : ¬ tkK T n j = 341 := by omega
          have hup := tkS_up hn.1 hB.2.2.2 hi.2.2.2.2 hke
          refine t_qDropsToBracket hq hi.1 (by omega) (by omega) (fun I2 hq2 hF2 => ?_)
          rw [hU2] at hq2 hdb
          have hdl := hdb.2.1
          have hq2 : qS I2 (brk U :: (U2 ++ B)) (dW nBr U O).2 op B.length := hq2
          have hll : (((brk U :: U2) ++ B).length) = (U2 ++ B).length + 1 := rfl
          have hll2 : (((brk U :: (U2 ++ B)).length : Nat) : Int) = ((U2 ++ B).length : Int) + 1 := by rw [List.length_cons]; omega
          refine r_v ?_
          refine w_aload c_230_57 rfl ?_
          refine w_dup c_230_58 rfl ?_
          refine z_getZ c_230_59 sp_157 (by decide) rfl hq2.2.1 ?_
          refine z_push c_230_62 ?_
          refine z_isub c_230_63 ?_
          refine z_putZ c_230_64 sp_157 (by decide) rfl ?_
          refine oq_k hF2 (Or.inl ⟨rfl, Or.inr (Or.inl rfl)⟩) (by decide) (fun I3 h3 hF3 => ?_)
          have hq3 := hq2.pop h3 (by omega)
          have hv3 : I3 233 (U2 ++ B).length = iI (brk U) := by rw [h3]; exact (up_ne (by omega)).trans hq2.1.1
          refine w_aload c_230_67 rfl ?_
          refine w_dup c_230_68 rfl ?_
          refine z_getZ c_230_69 sp_157 (by decide) rfl hq3.2.2.2.2.1 ?_
          refine z_push c_230_72 ?_
          refine z_isub c_230_73 ?_
          refine z_putZ c_230_74 sp_157 (by decide) rfl ?_
          refine oq_k hF3 (Or.inl ⟨rfl, Or.inr (Or.inr (Or.inl rfl))⟩) (by decide) (fun I4 h4 hF4 => ?_)
          have hq4 := hq3.opn h4
          have hv4 : I4 233 (U2 ++ B).length = iI (brk U) := by rw [h4]; exact (up_ne (by omega)).trans hv3
          refine w_aload c_230_77 rfl ?_
          refine w_getR c_230_78 sp_157 (by decide) rfl pr_157_99 ?_
          refine w_aload c_230_81 rfl ?_
          refine z_getZ c_230_82 sp_157 (by decide) rfl hq4.2.1 ?_
          refine z_iaload c_230_85 sp_233 (by omega) (by first | decide | omega) hv4 ?_
          refine z_push c_230_86 ?_
          refine z_ic_eq c_230_88 (by first | exact aRg_of _ | (unfold aRg; omega)) (by first | exact aRg_of _ | (unfold aRg; omega)) (fun h7_ => ?_) (fun h7_ => ?_)
          · refine w_aload c_230_115 rfl ?_
            refine wc_228 c_230_116 sp_157 (Nat.le_of_ble_eq_true rfl) (by omega) ?_
            have hi2 := hdb.pop hup
            have hl2 := hi2.2.1
            refine t_qEndsPart hq4 hi2.1 (by omega) (by omega) (fun I6 hq6 hF6 => ?_)
            refine r_v ?_
            refine w_goto c_230_119 ?_
            have hrm : rm (tkK T n) (tkP T n) (tkZ T n) tk (1700 - j) 2 j U O op = rm (tkK T n) (tkP T n) (tkZ T n) tk (1700 - (j + 1)) 2 (j + 1) (eP U2 (dW nBr U O).2 (op - 1)).1 (eP U2 (dW nBr U O).2 (op - 1)).2.1 (eP U2 (dW nBr U O).2 (op - 1)).2.2 := by
              rw [rm_s hj7]
              simp only [rm]
              rw [if_pos ⟨hk41, show brk U = 20 ∨ brk U = 23 ∨ brk U = 24 by omega⟩]
              simp only [hU2]
              rw [if_pos (show brk U = 20 by omega)]
            have hFF : frG PQn I I6 := (hF4.tr hF6)
            have hx := rA_sign (b := 0) (bp := bp) (np := np) (nm := nm) (hB.pq hFF) (c := 41) (by decide) hk41
            rw [hx.1]
            exact ih (j + 1) _ _ _ _ I6 (by omega) (hB.pq hFF) hx.2 hq6 hi2.ep (fun I3 j3 U3 O3 op3 a3 z0 z1 z2 z3 z4 z5 => kT I3 j3 U3 O3 op3 a3 (by omega) (hrm.trans z1) z2 z3 (hFF.tr z4) z5) (fun I3 j3 U3 O3 op3 a3 z0 z1 z2 z3 z4 z5 => kE I3 j3 U3 O3 op3 a3 (by omega) (hrm.trans z1) z2 z3 (hFF.tr z4) z5) (fun I3 a3 en3 z1 z2 zc z3 z4 => by rw [hrm] at kF; exact kF I3 a3 en3 z1 z2 zc (hFF.tr z3) z4)
          · refine w_aload c_230_91 rfl ?_
            refine w_aload c_230_92 rfl ?_
            refine w_getR c_230_93 sp_157 (by decide) rfl pr_157_99 ?_
            refine w_aload c_230_96 rfl ?_
            refine z_getZ c_230_97 sp_157 (by decide) rfl hq4.2.1 ?_
            refine z_iaload c_230_100 sp_233 (by omega) (by first | decide | omega) hv4 ?_
            refine z_push c_230_101 ?_
            refine z_ic_ne c_230_103 (by first | exact aRg_of _ | (unfold aRg; omega)) (by first | exact aRg_of _ | (unfold aRg; omega)) (fun h8_ => ?_) (fun h8_ => ?_)
            · refine z_push c_230_110 ?_
              refine wc_218 c_230_112 sp_157 (Nat.le_of_ble_eq_true rfl) (by omega) ?_
              refine t_qCode hq4 (by omega) (fun I5 hq5 hF5 => ?_)
              refine r_v ?_
              refine w_aload c_230_115 rfl ?_
              refine wc_228 c_230_116 sp_157 (Nat.le_of_ble_eq_true rfl) (by omega) ?_
              have hi2 := hdb.popc (v := 6) hup
              have hl2 := hi2.2.1
              refine t_qEndsPart hq5 hi2.1 (by omega) (by omega) (fun I6 hq6 hF6 => ?_)
              refine r_v ?_
              refine w_goto c_230_119 ?_
              have hrm : rm (tkK T n) (tkP T n) (tkZ T n) tk (1700 - j) 2 j U O op = rm (tkK T n) (tkP T n) (tkZ T n) tk (1700 - (j + 1)) 2 (j + 1) (eP U2 (6 :: (dW nBr U O).2) (op - 1)).1 (eP U2 (6 :: (dW nBr U O).2) (op - 1)).2.1 (eP U2 (6 :: (dW nBr U O).2) (op - 1)).2.2 := by
                rw [rm_s hj7]
                simp only [rm]
                rw [if_pos ⟨hk41, show brk U = 20 ∨ brk U = 23 ∨ brk U = 24 by omega⟩]
                simp only [hU2]
                rw [if_neg (show ¬ brk U = 20 by omega), if_neg (show ¬ brk U = 23 by omega)]
              have hFF : frG PQn I I6 := ((hF4.tr hF5).tr hF6)
              have hx := rA_sign (b := 0) (bp := bp) (np := np) (nm := nm) (hB.pq hFF) (c := 41) (by decide) hk41
              rw [hx.1]
              exact ih (j + 1) _ _ _ _ I6 (by omega) (hB.pq hFF) hx.2 hq6 hi2.ep (fun I3 j3 U3 O3 op3 a3 z0 z1 z2 z3 z4 z5 => kT I3 j3 U3 O3 op3 a3 (by omega) (hrm.trans z1) z2 z3 (hFF.tr z4) z5) (fun I3 j3 U3 O3 op3 a3 z0 z1 z2 z3 z4 z5 => kE I3 j3 U3 O3 op3 a3 (by omega) (hrm.trans z1) z2 z3 (hFF.tr z4) z5) (fun I3 a3 en3 z1 z2 zc z3 z4 => by rw [hrm] at kF; exact kF I3 a3 en3 z1 z2 zc (hFF.tr z3) z4)
            · refine z_push c_230_106 ?_
              refine w_goto c_230_107 ?_
              refine wc_218 c_230_112 sp_157 (Nat.le_of_ble_eq_true rfl) (by omega) ?_
              refine t_qCode hq4 (by omega) (fun I5 hq5 hF5 => ?_)
              refine r_v ?_
              refine w_aload c_230_115 rfl ?_
              refine wc_228 c_230_116 sp_157 (Nat.le_of_ble_eq_true rfl) (by omega) ?_
              have hi2 := hdb.popc (v := 5) hup
              have hl2 := hi2.2.1
              refine t_qEndsPart hq5 hi2.1 (by omega) (by omega) (fun I6 hq6 hF6 => ?_)
              refine r_v ?_
              refine w_goto c_230_119 ?_
              have hrm : rm (tkK T n) (tkP T n) (tkZ T n) tk (1700 - j) 2 j U O op = rm (tkK T n) (tkP T n) (tkZ T n) tk (1700 - (j + 1)) 2 (j + 1) (eP U2 (5 :: (dW nBr U O).2) (op - 1)).1 (eP U2 (5 :: (dW nBr U O).2) (op - 1)).2.1 (eP U2 (5 :: (dW nBr U O).2) (op - 1)).2.2 := by
                rw [rm_s hj7]
                simp only [rm]
                rw [if_pos ⟨hk41, show brk U = 20 ∨ brk U = 23 ∨ brk U = 24 by omega⟩]
                simp only [hU2]
                rw [if_neg (show ¬ brk U = 20 by omega), if_pos (show brk U = 23 by omega)]
              have hFF : frG PQn I I6 := ((hF4.tr hF5).tr hF6)
              have hx := rA_sign (b := 0) (bp := bp) (np := np) (nm := nm) (hB.pq hFF) (c := 41) (by decide) hk41
              rw [hx.1]
              exact ih (j + 1) _ _ _ _ I6 (by omega) (hB.pq hFF) hx.2 hq6 hi2.ep (fun I3 j3 U3 O3 op3 a3 z0 z1 z2 z3 z4 z5 => kT I3 j3 U3 O3 op3 a3 (by omega) (hrm.trans z1) z2 z3 (hFF.tr z4) z5) (fun I3 j3 U3 O3 op3 a3 z0 z1 z2 z3 z4 z5 => kE I3 j3 U3 O3 op3 a3 (by omega) (hrm.trans z1) z2 z3 (hFF.tr z4) z5) (fun I3 a3 en3 z1 z2 zc z3 z4 => by rw [hrm] at kF; exact kF I3 a3 en3 z1 z2 zc (hFF.tr z3) z4)
        · refine w_aload c_230_34 rfl ?_
          refine wc_223 c_230_35 sp_157 (Nat.le_of_ble_eq_true rfl) (by omega) ?_
          refine t_qBracket hq hi.1 (by omega) (by omega) ?_
          refine r_i ?_
          refine z_push c_230_38 ?_
          refine z_ic_ne c_230_40 (by first | exact aRg_of _ | (unfold aRg; omega)) (by first | exact aRg_of _ | (unfold aRg; omega)) (fun h9_ => ?_) (fun h9_ => ?_)
          · exact t_qGo_122 hB hA2 hq hi hBh hd (fun z => by have := hlk.mp z.1; omega) kT kE kF
          · refine w_aload c_230_43 rfl ?_
            refine w_dup c_230_44 rfl ?_
            refine z_getZ c_230_45 sp_157 (by decide) rfl rfl ?_
            refine z_push c_230_48 ?_
            refine z_iadd c_230_49 ?_
            refine z_putZ c_230_50 sp_157 (by decide) rfl ?_
            rw [oP_at]
            refine w_aload c_230_53 rfl ?_
            refine wc_224 c_230_54 sp_157 (Nat.le_of_ble_eq_true rfl) (by omega) ?_
            have hk41 : tkK T n j = 41 := hlk.mpr (by omega)
            obtain ⟨U2, hU2⟩ := brk_dW U O (by omega)
            have hke : ¬ tkK T n j = 341 := by omega
            have hup := tkS_up hn.1 hB.2.2.2 hi.2.2.2.2 hke
            refine t_qDropsToBracket hq hi.1 (by omega) (by omega) (fun I2 hq2 hF2 => ?_)
            rw [hU2] at hq2 hdb
            have hdl := hdb.2.1
            have hq2 : qS I2 (brk U :: (U2 ++ B)) (dW nBr U O).2 op B.length := hq2
            have hll : (((brk U :: U2) ++ B).length) = (U2 ++ B).length + 1 := rfl
            have hll2 : (((brk U :: (U2 ++ B)).length : Nat) : Int) = ((U2 ++ B).length : Int) + 1 := by rw [List.length_cons]; omega
            refine r_v ?_
            refine w_aload c_230_57 rfl ?_
            refine w_dup c_230_58 rfl ?_
            refine z_getZ c_230_59 sp_157 (by decide) rfl hq2.2.1 ?_
            refine z_push c_230_62 ?_
            refine z_isub c_230_63 ?_
            refine z_putZ c_230_64 sp_157 (by decide) rfl ?_
            refine oq_k hF2 (Or.inl ⟨rfl, Or.inr (Or.inl rfl)⟩) (by decide) (fun I3 h3 hF3 => ?_)
            have hq3 := hq2.pop h3 (by omega)
            have hv3 : I3 233 (U2 ++ B).length = iI (brk U) := by rw [h3]; exact (up_ne (by omega)).trans hq2.1.1
            refine w_aload c_230_67 rfl ?_
            refine w_dup c_230_68 rfl ?_
            refine z_getZ c_230_69 sp_157 (by decide) rfl hq3.2.2.2.2.1 ?_
            refine z_push c_230_72 ?_
            refine z_isub c_230_73 ?_
            refine z_putZ c_230_74 sp_157 (by decide) rfl ?_
            refine oq_k hF3 (Or.inl ⟨rfl, Or.inr (Or.inr (Or.inl rfl))⟩) (by decide) (fun I4 h4 hF4 => ?_)
            have hq4 := hq3.opn h4
            have hv4 : I4 233 (U2 ++ B).length = iI (brk U) := by rw [h4]; exact (up_ne (by omega)).trans hv3
            refine w_aload c_230_77 rfl ?_
            refine w_getR c_230_78 sp_157 (by decide) rfl pr_157_99 ?_
            refine w_aload c_230_81 rfl ?_
            refine z_getZ c_230_82 sp_157 (by decide) rfl hq4.2.1 ?_
            refine z_iaload c_230_85 sp_233 (by omega) (by first | decide | omega) hv4 ?_
            refine z_push c_230_86 ?_
            refine z_ic_eq c_230_88 (by first | exact aRg_of _ | (unfold aRg; omega)) (by first | exact aRg_of _ | (unfold aRg; omega)) (fun h10_ => ?_) (fun h10_ => ?_)
            · refine w_aload c_230_115 rfl ?_
              refine wc_228 c_230_116 sp_157 (Nat.le_of_ble_eq_true rfl) (by omega) ?_
              have hi2 := hdb.pop hup
              have hl2 := hi2.2.1
              refine t_qEndsPart hq4 hi2.1 (by omega) (by omega) (fun I6 hq6 hF6 => ?_)
              refine r_v ?_
              refine w_goto c_230_119 ?_
              have hrm : rm (tkK T n) (tkP T n) (tkZ T n) tk (1700 - j) 2 j U O op = rm (tkK T n) (tkP T n) (tkZ T n) tk (1700 - (j + 1)) 2 (j + 1) (eP U2 (dW nBr U O).2 (op - 1)).1 (eP U2 (dW nBr U O).2 (op - 1)).2.1 (eP U2 (dW nBr U O).2 (op - 1)).2.2 := by
                rw [rm_s hj7]
                simp only [rm]
                rw [if_pos ⟨hk41, show brk U = 20 ∨ brk U = 23 ∨ brk U = 24 by omega⟩]
                simp only [hU2]
                rw [if_pos (show brk U = 20 by omega)]
              have hFF : frG PQn I I6 := (hF4.tr hF6)
              have hx := rA_sign (b := 0) (bp := bp) (np := np) (nm := nm) (hB.pq hFF) (c := 41) (by decide) hk41
              rw [hx.1]
              exact ih (j + 1) _ _ _ _ I6 (by omega) (hB.pq hFF) hx.2 hq6 hi2.ep (fun I3 j3 U3 O3 op3 a3 z0 z1 z2 z3 z4 z5 => kT I3 j3 U3 O3 op3 a3 (by omega) (hrm.trans z1) z2 z3 (hFF.tr z4) z5) (fun I3 j3 U3 O3 op3 a3 z0 z1 z2 z3 z4 z5 => kE I3 j3 U3 O3 op3 a3 (by omega) (hrm.trans z1) z2 z3 (hFF.tr z4) z5) (fun I3 a3 en3 z1 z2 zc z3 z4 => by rw [hrm] at kF; exact kF I3 a3 en3 z1 z2 zc (hFF.tr z3) z4)
            · refine w_aload c_230_91 rfl ?_
              refine w_aload c_230_92 rfl ?_
              refine w_getR c_230_93 sp_157 (by decide) rfl pr_157_99 ?_
              refine w_aload c_230_96 rfl ?_
              refine z_getZ c_230_97 sp_157 (by decide) rfl hq4.2.1 ?_
              refine z_iaload c_230_100 sp_233 (by omega) (by first | decide | omega) hv4 ?_
              refine z_push c_230_101 ?_
              refine z_ic_ne c_230_103 (by first | exact aRg_of _ | (unfold aRg; omega)) (by first | exact aRg_of _ | (unfold aRg; omega)) (fun h11_ => ?_) (fun h11_ => ?_)
              · refine z_push c_230_110 ?_
                refine wc_218 c_230_112 sp_157 (Nat.le_of_ble_eq_true rfl) (by omega) ?_
                refine t_qCode hq4 (by omega) (fun I5 hq5 hF5 => ?_)
                refine r_v ?_
                refine w_aload c_230_115 rfl ?_
                refine wc_228 c_230_116 sp_157 (Nat.le_of_ble_eq_true rfl) (by omega) ?_
                have hi2 := hdb.popc (v := 6) hup
                have hl2 := hi2.2.1
                refine t_qEndsPart hq5 hi2.1 (by omega) (by omega) (fun I6 hq6 hF6 => ?_)
                refine r_v ?_
                refine w_goto c_230_119 ?_
                have hrm : rm (tkK T n) (tkP T n) (tkZ T n) tk (1700 - j) 2 j U O op = rm (tkK T n) (tkP T n) (tkZ T n) tk (1700 - (j + 1)) 2 (j + 1) (eP U2 (6 :: (dW nBr U O).2) (op - 1)).1 (eP U2 (6 :: (dW nBr U O).2) (op - 1)).2.1 (eP U2 (6 :: (dW nBr U O).2) (op - 1)).2.2 := by
                  rw [rm_s hj7]
                  simp only [rm]
                  rw [if_pos ⟨hk41, show brk U = 20 ∨ brk U = 23 ∨ brk U = 24 by omega⟩]
                  simp only [hU2]
                  rw [if_neg (show ¬ brk U = 20 by omega), if_neg (show ¬ brk U = 23 by omega)]
                have hFF : frG PQn I I6 := ((hF4.tr hF5).tr hF6)
                have hx := rA_sign (b := 0) (bp := bp) (np := np) (nm := nm) (hB.pq hFF) (c := 41) (by decide) hk41
                rw [hx.1]
                exact ih (j + 1) _ _ _ _ I6 (by omega) (hB.pq hFF) hx.2 hq6 hi2.ep (fun I3 j3 U3 O3 op3 a3 z0 z1 z2 z3 z4 z5 => kT I3 j3 U3 O3 op3 a3 (by omega) (hrm.trans z1) z2 z3 (hFF.tr z4) z5) (fun I3 j3 U3 O3 op3 a3 z0 z1 z2 z3 z4 z5 => kE I3 j3 U3 O3 op3 a3 (by omega) (hrm.trans z1) z2 z3 (hFF.tr z4) z5) (fun I3 a3 en3 z1 z2 zc z3 z4 => by rw [hrm] at kF; exact kF I3 a3 en3 z1 z2 zc (hFF.tr z3) z4)
              · refine z_push c_230_106 ?_
                refine w_goto c_230_107 ?_
                refine wc_218 c_230_112 sp_157 (Nat.le_of_ble_eq_true rfl) (by omega) ?_
                refine t_qCode hq4 (by omega) (fun I5 hq5 hF5 => ?_)
                refine r_v ?_
                refine w_aload c_230_115 rfl ?_
                refine wc_228 c_230_116 sp_157 (Nat.le_of_ble_eq_true rfl) (by omega) ?_
                have hi2 := hdb.popc (v := 5) hup
                have hl2 := hi2.2.1
                refine t_qEndsPart hq5 hi2.1 (by omega) (by omega) (fun I6 hq6 hF6 => ?_)
                refine r_v ?_
                refine w_goto c_230_119 ?_
                have hrm : rm (tkK T n) (tkP T n) (tkZ T n) tk (1700 - j) 2 j U O op = rm (tkK T n) (tkP T n) (tkZ T n) tk (1700 - (j + 1)) 2 (j + 1) (eP U2 (5 :: (dW nBr U O).2) (op - 1)).1 (eP U2 (5 :: (dW nBr U O).2) (op - 1)).2.1 (eP U2 (5 :: (dW nBr U O).2) (op - 1)).2.2 := by
                  rw [rm_s hj7]
                  simp only [rm]
                  rw [if_pos ⟨hk41, show brk U = 20 ∨ brk U = 23 ∨ brk U = 24 by omega⟩]
                  simp only [hU2]
                  rw [if_neg (show ¬ brk U = 20 by omega), if_pos (show brk U = 23 by omega)]
                have hFF : frG PQn I I6 := ((hF4.tr hF5).tr hF6)
                have hx := rA_sign (b := 0) (bp := bp) (np := np) (nm := nm) (hB.pq hFF) (c := 41) (by decide) hk41
                rw [hx.1]
                exact ih (j + 1) _ _ _ _ I6 (by omega) (hB.pq hFF) hx.2 hq6 hi2.ep (fun I3 j3 U3 O3 op3 a3 z0 z1 z2 z3 z4 z5 => kT I3 j3 U3 O3 op3 a3 (by omega) (hrm.trans z1) z2 z3 (hFF.tr z4) z5) (fun I3 j3 U3 O3 op3 a3 z0 z1 z2 z3 z4 z5 => kE I3 j3 U3 O3 op3 a3 (by omega) (hrm.trans z1) z2 z3 (hFF.tr z4) z5) (fun I3 a3 en3 z1 z2 zc z3 z4 => by rw [hrm] at kF; exact kF I3 a3 en3 z1 z2 zc (hFF.tr z3) z4)

set_option maxHeartbeats 1000000 in
theorem t_qGoesOn {d : Nat} {I : aFI} {L : aFL} {Q : aPo} {T : Int → Int} {n : Int} {sh : Nat} {su : Option Nat} {j : Nat} {a bp np nm : Int} {sl : Nat} {tk : Int} {B U O : List Int} {op : Int} (hBh : ∀ v : Int, B.head? = some v → ¬ isSu v = true) (hd : 6 ≤ d) (hB : oB I T n) (hA : rA T n j a) (hq : qS I (U ++ B) O op B.length) (hi : qI T n sl B U O op j) (kT : ∀ (I2 : aFI) (j2 : Nat) (U2 O2 : List Int) (op2 a2 : Int), j ≤ j2 → rm (tkK T n) (tkP T n) (tkZ T n) tk (1700 - j) 2 j U O op = rm (tkK T n) (tkP T n) (tkZ T n) tk (1700 - j2) 0 j2 U2 O2 op2 → qS I2 (U2 ++ B) O2 op2 B.length → qI T n sl B U2 O2 op2 j2 → frG PQn I I2 → rA T n j2 a2 → Q (some (.int (aBo true))) (oT I2 T n j2 a2 0 bp np nm) L (aR sh su)) (kE : ∀ (I2 : aFI) (j2 : Nat) (U2 O2 : List Int) (op2 a2 : Int), j ≤ j2 → rm (tkK T n) (tkP T n) (tkZ T n) tk (1700 - j) 2 j U O op = (0, 0, j2, (dW (fun _ => true) U2 O2).2, op2) → qS I2 (U2 ++ B) O2 op2 B.length → qI T n sl B U2 O2 op2 j2 → frG PQn I I2 → rA T n j2 a2 → Q (some (.int (aBo false))) (oT I2 T n j2 a2 0 bp np nm) L (aR sh su)) (kF : ∀ (I2 : aFI) (a2 en2 : Int), 0 < (rm (tkK T n) (tkP T n) (tkZ T n) tk (1700 - j) 2 j U O op).1 → (rm (tkK T n) (tkP T n) (tkZ T n) tk (1700 - j) 2 j U O op).1 < 10 → (∃ c : Int, I2 157 98 = iI c ∧ 0 ≤ c ∧ c < 1690) → frG PQn I I2 → aF n a2 en2 → Q (some (.int (aBo false))) (oP I2 a2 en2 (rm (tkK T n) (tkP T n) (tkZ T n) tk (1700 - j) 2 j U O op).1 (rm (tkK T n) (tkP T n) (tkZ T n) tk (1700 - j) 2 j U O op).2.1 np nm) L (aR sh su)) : aWp none d 230 0 [.ref 157, .null] [] (oT I T n j a 0 bp np nm) L (aR sh su) Q := by
  exact t_qGoesOn_1 hBh hd _ j U O op a I (Nat.lt_succ_self _) hB hA hq hi kT kE kF

