/-! the reference: a sum read (p91.py) -/
set_option maxHeartbeats 2000000 in
theorem t_qSums_1 {d : Nat} {L : aFL} {Q : aPo} {sh : Nat} {su : Option Nat} {a en bp np nm : Int} {B : List Int} {op : Int} {v1 v2 : Value} (hd : 2 ≤ d) : ∀ (n : Nat) (U O : List Int) (I : aFI), U.length < n → (qS I (U ++ B) O op B.length) → (wOK (U ++ B)) → ((U ++ B).length + O.length < 1650) → (∀ I2 : aFI, qS I2 B (dW (fun _ => true) U O).2 op B.length → frG PQn I I2 → aWp none d 231 78 [.ref 157, v1, v2] [] (oP I2 a en 0 bp np nm) L (aR sh su) Q) → aWp none d 231 53 [.ref 157, v1, v2] [] (oP I a en 0 bp np nm) L (aR sh su) Q := by
  intro n
  induction n with
  | zero => intro U O I h; omega
  | succ n ih =>
    intro U O I hn2 hq hw hl k
    rcases U with _ | ⟨u, U⟩
    · have hll : ((([] : List Int) ++ B).length : Int) = B.length := rfl
      refine w_aload c_231_53 rfl ?_
      refine z_getZ c_231_54 sp_157 (by decide) rfl rfl ?_
      refine z_if_ne c_231_57 (by first | exact aRg_of _ | (unfold aRg; omega)) (fun h1_ => ?_) (fun h1_ => ?_)
      · exact absurd rfl h1_
      refine w_aload c_231_60 rfl ?_
      refine z_getZ c_231_61 sp_157 (by decide) rfl hq.2.1 ?_
      refine w_aload c_231_64 rfl ?_
      refine z_getZ c_231_65 sp_157 (by decide) rfl hq.2.2.2.2.2 ?_
      refine z_ic_le c_231_68 (by first | exact aRg_of _ | (unfold aRg; omega)) (by first | exact aRg_of _ | (unfold aRg; omega)) (fun h2_ => ?_) (fun h2_ => ?_)
      rotate_left
      · exfalso; omega
      exact k I hq frG.rf
    · have hs2 : qS I (u :: (U ++ B)) O op B.length := hq
      have hll : (((u :: U) ++ B).length : Int) = U.length + B.length + 1 := by simp only [List.length_append, List.length_cons]; omega
      have hll2 : (U ++ B).length + 1 = ((u :: U) ++ B).length := rfl
      simp only [List.length_cons] at hn2
      refine w_aload c_231_53 rfl ?_
      refine z_getZ c_231_54 sp_157 (by decide) rfl rfl ?_
      refine z_if_ne c_231_57 (by first | exact aRg_of _ | (unfold aRg; omega)) (fun h1_ => ?_) (fun h1_ => ?_)
      · exact absurd rfl h1_
      refine w_aload c_231_60 rfl ?_
      refine z_getZ c_231_61 sp_157 (by decide) rfl hq.2.1 ?_
      refine w_aload c_231_64 rfl ?_
      refine z_getZ c_231_65 sp_157 (by decide) rfl hq.2.2.2.2.2 ?_
      refine z_ic_le c_231_68 (by first | exact aRg_of _ | (unfold aRg; omega)) (by first | exact aRg_of _ | (unfold aRg; omega)) (fun h2_ => ?_) (fun h2_ => ?_)
      · exfalso; omega
      refine w_aload c_231_71 rfl ?_
      refine wc_221 c_231_72 sp_157 (Nat.le_of_ble_eq_true rfl) (by omega) ?_
      refine t_qDrops hs2 (by omega) (by omega) (by omega) (fun I1 hq1 hF1 => ?_)
      refine r_v ?_
      refine w_goto c_231_75 ?_
      have hk := k
      unfold dW at hk
      rw [if_pos rfl] at hk
      exact ih U (u :: O) I1 (by omega) hq1 (fun v hv => hw v (List.mem_cons_of_mem _ hv)) (by simp only [List.length_append, List.length_cons] at hl ⊢; omega) (fun I2 h2 h3 => hk I2 h2 (hF1.tr h3))

theorem dW_all : ∀ (U O : List Int), (dW (fun _ => true) U O).1 = [] ∧ (dW (fun _ => true) U O).2.length = U.length + O.length
  | [], O => ⟨rfl, by simp [dW]⟩
  | u :: U, O => by
    have h := dW_all U (u :: O)
    unfold dW
    rw [if_pos rfl]
    refine ⟨h.1, ?_⟩
    rw [h.2]; simp only [List.length_cons]; omega
set_option maxHeartbeats 1000000 in
theorem tf_qSums_end {d : Nat} {I : aFI} {L : aFL} {Q : aPo} {sh : Nat} {su : Option Nat} {a en b bp np nm : Int} {b0 : Int} (hb : 0 < b ∧ b < 10) (k : ∀ I2 : aFI, I2 157 98 = I 157 98 → frG PQn I I2 → Q none (oP I2 a en b bp np nm) L (aR sh su)) : aWp none d 231 53 [.ref 157, .int (iI b0), .int (iI 0)] [] (oP I a en b bp np nm) L (aR sh su) Q := by
  refine w_aload c_231_53 rfl ?_
  refine z_getZ c_231_54 sp_157 (by decide) rfl rfl ?_
  refine z_if_ne c_231_57 (by first | exact aRg_of _ | (unfold aRg; omega)) (fun h1_ => ?_) (fun h1_ => ?_)
  rotate_left
  · exfalso; omega
  refine w_aload c_231_78 rfl ?_
  refine w_iload c_231_79 rfl ?_
  refine z_putZ c_231_80 sp_157 (by decide) rfl ?_
  refine oq_k (frG.rf (P := PQn) (I := I)) (Or.inl ⟨rfl, Or.inr (Or.inr (Or.inr rfl))⟩) (by decide) (fun I1 h1 hF1 => ?_)
  refine z_retv c_231_83 ?_
  exact k I1 (by rw [h1]; exact up_ne (by omega)) hF1

set_option maxHeartbeats 2000000 in
theorem t_qSums_2 {d : Nat} {L : aFL} {Q : aPo} {T : Int → Int} {n : Int} {sh : Nat} {su : Option Nat} {bp nm tk b0 : Int} {sl : Nat} {B : List Int} (htr : 0 ≤ tk ∧ tk < 3) (hBh : ∀ v : Int, B.head? = some v → ¬ isSu v = true) (hd : 8 ≤ d) : ∀ (fz : Nat) (j : Nat) (U O : List Int) (op a np : Int) (I : aFI), 1700 - j < fz → (oB I T n) → (oW I) → (rA T n j a) → (qS I (U ++ B) O op B.length) → (qI T n sl B U O op j) → (I 157 57 = iI tk) → ((rm (tkK T n) (tkP T n) (tkZ T n) tk (1700 - j) 0 j U O op).1 = 0 → ∀ (I2 : aFI) (a2 np2 : Int), j < (rm (tkK T n) (tkP T n) (tkZ T n) tk (1700 - j) 0 j U O op).2.2.1 → qS I2 B (rm (tkK T n) (tkP T n) (tkZ T n) tk (1700 - j) 0 j U O op).2.2.2.1 (rm (tkK T n) (tkP T n) (tkZ T n) tk (1700 - j) 0 j U O op).2.2.2.2 b0 → qI T n sl B [] (rm (tkK T n) (tkP T n) (tkZ T n) tk (1700 - j) 0 j U O op).2.2.2.1 (rm (tkK T n) (tkP T n) (tkZ T n) tk (1700 - j) 0 j U O op).2.2.2.2 (rm (tkK T n) (tkP T n) (tkZ T n) tk (1700 - j) 0 j U O op).2.2.1 → frG PQn I I2 → rA T n (rm (tkK T n) (tkP T n) (tkZ T n) tk (1700 - j) 0 j U O op).2.2.1 a2 → Q none (oT I2 T n (rm (tkK T n) (tkP T n) (tkZ T n) tk (1700 - j) 0 j U O op).2.2.1 a2 0 bp np2 nm) L (aR sh su)) → (∀ (I2 : aFI) (a2 en2 np2 : Int), 0 < (rm (tkK T n) (tkP T n) (tkZ T n) tk (1700 - j) 0 j U O op).1 → (rm (tkK T n) (tkP T n) (tkZ T n) tk (1700 - j) 0 j U O op).1 < 10 → (∃ c : Int, I2 157 98 = iI c ∧ 0 ≤ c ∧ c < 1690) → frG PQn I I2 → aF n a2 en2 → Q none (oP I2 a2 en2 (rm (tkK T n) (tkP T n) (tkZ T n) tk (1700 - j) 0 j U O op).1 (rm (tkK T n) (tkP T n) (tkZ T n) tk (1700 - j) 0 j U O op).2.1 np2 nm) L (aR sh su)) → aWp none d 231 19 [.ref 157, .int (iI b0), .int (iI 1)] [] (oT I T n j a 0 bp np nm) L (aR sh su) Q := by
  intro fz
  induction fz with
  | zero => intro j U O op a np I h; omega
  | succ fz ih =>
    intro j U O op a np I hn2 hB hO hA hq hi htk kG kF
    have hjx := hi.jb hB.2.2.1
    refine w_aload c_231_19 rfl ?_
    refine z_getZ c_231_20 sp_157 (by decide) rfl rfl ?_
    refine z_if_ne c_231_23 (by first | exact aRg_of _ | (unfold aRg; omega)) (fun h1_ => ?_) (fun h1_ => ?_)
    · exact absurd rfl h1_
    refine w_aload c_231_26 rfl ?_
    refine wc_229 c_231_27 sp_157 (Nat.le_of_ble_eq_true rfl) (by omega) ?_
    refine t_qPartTold htr (by omega) hB hO hA hq hi htk (fun I1 j1 U1 O1 op1 a1 np1 hjj hrm hq1 hi1 hF1 hA1 => ?_) (fun I1 a1 en1 np1 z1 z2 zc hF1 hA1 => ?_)
    · refine r_v ?_
      refine w_aload c_231_30 rfl ?_
      refine z_getZ c_231_31 sp_157 (by decide) rfl rfl ?_
      refine z_if_ne c_231_34 (by first | exact aRg_of _ | (unfold aRg; omega)) (fun h21_ => ?_) (fun h21_ => ?_)
      · exact absurd rfl h21_
      refine w_aload c_231_37 rfl ?_
      refine wc_230 c_231_38 sp_157 (Nat.le_of_ble_eq_true rfl) (by omega) ?_
      refine t_qGoesOn (tk := tk) hBh (by omega) (hB.pq hF1) hA1 hq1 hi1 (fun I2 j2 U2 O2 op2 a2 hjl hrm2 hq2 hi2 hF2 hA2 => ?_) (fun I2 j2 U2 O2 op2 a2 hjl hrm2 hq2 hi2 hF2 hA2 => ?_) (fun I2 a2 en2 z1 z2 zc hF2 hA2 => ?_)
      · refine r_i ?_
        refine b_if_eq c_231_41 (fun h => Bool.noConfusion h) (fun _ => ?_)
        refine z_push c_231_44 ?_
        refine w_goto c_231_45 ?_
        refine w_istore c_231_49 (Nat.le_of_ble_eq_true rfl) rfl ?_
        refine w_goto c_231_50 ?_
        refine w_iload c_231_15 rfl ?_
        refine z_if_eq c_231_16 (by first | exact aRg_of _ | (unfold aRg; omega)) (fun h23_ => absurd h23_ (by decide)) (fun h23_ => ?_)
        have hrr := hrm.trans hrm2
        rw [hrr] at kG kF
        exact ih j2 U2 O2 op2 a2 np1 I2 (by omega) (hB.pq (hF1.tr hF2)) (hO.pq (hF1.tr hF2)) hA2 hq2 hi2 (((hF1.tr hF2) 157 57 (by decide)).trans htk) (fun z0 I3 a3 np3 z1 z2 z3 z4 z5 => kG z0 I3 a3 np3 (by omega) z2 z3 ((hF1.tr hF2).tr z4) z5) (fun I3 a3 en3 np3 z1 z2 zc z3 z4 => kF I3 a3 en3 np3 z1 z2 zc ((hF1.tr hF2).tr z3) z4)
      · refine r_i ?_
        refine b_if_eq c_231_41 (fun _ => ?_) (fun h => Bool.noConfusion h)
        refine z_push c_231_48 ?_
        refine w_istore c_231_49 (Nat.le_of_ble_eq_true rfl) rfl ?_
        refine w_goto c_231_50 ?_
        refine w_iload c_231_15 rfl ?_
        refine z_if_eq c_231_16 (by first | exact aRg_of _ | (unfold aRg; omega)) (fun h25_ => ?_) (fun h25_ => absurd (by decide) h25_)
        have hrr := hrm.trans hrm2
        rw [hrr] at kG
        have hl2 := hi2.2.1
        have hj2 := hi2.jb hB.2.2.1
        refine t_qSums_1 (by omega) _ U2 O2 I2 (Nat.lt_succ_self _) hq2 hi2.1 (by omega) (fun I3 hq3 hF3 => ?_)
        have hF3 := hF2.tr hF3
        refine w_aload c_231_78 rfl ?_
        refine w_iload c_231_79 rfl ?_
        refine z_putZ c_231_80 sp_157 (by decide) rfl ?_
        refine oq_k hF3 (Or.inl ⟨rfl, Or.inr (Or.inr (Or.inr rfl))⟩) (by decide) (fun I4 h4 hF4 => ?_)
        refine z_retv c_231_83 ?_
        exact kG rfl I4 a2 np1 (by show j < j2; omega) (hq3.bas h4) ⟨fun v hv => hi2.1 v (List.mem_append_right _ hv), by have := hi2.2.1; show (([] : List Int) ++ B).length + (dW (fun _ => true) U2 O2).2.length + sl ≤ j2; rw [(dW_all U2 O2).2, List.nil_append]; rw [List.length_append] at this; omega, by have := hi2.2.2.1; show (((([] : List Int) ++ B).length : Nat) : Int) ≤ op2 + j2; rw [List.nil_append]; rw [List.length_append] at this; omega, hi2.2.2.2.1, hi2.2.2.2.2⟩ (hF1.tr hF4) hA2
      · refine r_i ?_
        refine b_if_eq c_231_41 (fun _ => ?_) (fun h => Bool.noConfusion h)
        refine z_push c_231_48 ?_
        refine w_istore c_231_49 (Nat.le_of_ble_eq_true rfl) rfl ?_
        refine w_goto c_231_50 ?_
        refine w_iload c_231_15 rfl ?_
        refine z_if_eq c_231_16 (by first | exact aRg_of _ | (unfold aRg; omega)) (fun h27_ => ?_) (fun h27_ => absurd (by decide) h27_)
        rw [hrm] at kF
        exact tf_qSums_end ⟨z1, z2⟩ (fun I9 hc9 h9 => kF I9 _ _ _ z1 z2 (by obtain ⟨c, z3, z4⟩ := zc; exact ⟨c, hc9.trans z3, z4⟩) ((hF1.tr hF2).tr h9) hA2)
    · refine r_v ?_
      refine w_aload c_231_30 rfl ?_
      refine z_getZ c_231_31 sp_157 (by decide) rfl rfl ?_
      refine z_if_ne c_231_34 (by first | exact aRg_of _ | (unfold aRg; omega)) (fun h21_ => ?_) (fun h21_ => ?_)
      rotate_left
      · exfalso; omega
      refine z_push c_231_48 ?_
      refine w_istore c_231_49 (Nat.le_of_ble_eq_true rfl) rfl ?_
      refine w_goto c_231_50 ?_
      refine w_iload c_231_15 rfl ?_
      refine z_if_eq c_231_16 (by first | exact aRg_of _ | (unfold aRg; omega)) (fun h22_ => ?_) (fun h22_ => absurd (by decide) h22_)
      exact tf_qSums_end ⟨z1, z2⟩ (fun I9 hc9 h9 => kF I9 _ _ _ z1 z2 (by obtain ⟨c, z3, z4⟩ := zc; exact ⟨c, hc9.trans z3, z4⟩) (hF1.tr h9) hA1)

set_option maxHeartbeats 1000000 in
theorem t_qSums {d : Nat} {I : aFI} {L : aFL} {Q : aPo} {T : Int → Int} {n : Int} {sh : Nat} {su : Option Nat} {j : Nat} {a bp np nm : Int} {sl : Nat} {tk b0 : Int} {W O : List Int} {op : Int} (htr : 0 ≤ tk ∧ tk < 3) (hBh : ∀ v : Int, W.head? = some v → ¬ isSu v = true) (hd : 8 ≤ d) (hB : oB I T n) (hO : oW I) (hA : rA T n j a) (hq : qS I W O op b0) (hi : qI T n sl W [] O op j) (htk : I 157 57 = iI tk) (kG : (rm (tkK T n) (tkP T n) (tkZ T n) tk (1700 - j) 0 j [] O op).1 = 0 → ∀ (I2 : aFI) (a2 np2 : Int), j < (rm (tkK T n) (tkP T n) (tkZ T n) tk (1700 - j) 0 j [] O op).2.2.1 → qS I2 W (rm (tkK T n) (tkP T n) (tkZ T n) tk (1700 - j) 0 j [] O op).2.2.2.1 (rm (tkK T n) (tkP T n) (tkZ T n) tk (1700 - j) 0 j [] O op).2.2.2.2 b0 → qI T n sl W [] (rm (tkK T n) (tkP T n) (tkZ T n) tk (1700 - j) 0 j [] O op).2.2.2.1 (rm (tkK T n) (tkP T n) (tkZ T n) tk (1700 - j) 0 j [] O op).2.2.2.2 (rm (tkK T n) (tkP T n) (tkZ T n) tk (1700 - j) 0 j [] O op).2.2.1 → frG PQn I I2 → rA T n (rm (tkK T n) (tkP T n) (tkZ T n) tk (1700 - j) 0 j [] O op).2.2.1 a2 → Q none (oT I2 T n (rm (tkK T n) (tkP T n) (tkZ T n) tk (1700 - j) 0 j [] O op).2.2.1 a2 0 bp np2 nm) L (aR sh su)) (kF : ∀ (I2 : aFI) (a2 en2 np2 : Int), 0 < (rm (tkK T n) (tkP T n) (tkZ T n) tk (1700 - j) 0 j [] O op).1 → (rm (tkK T n) (tkP T n) (tkZ T n) tk (1700 - j) 0 j [] O op).1 < 10 → (∃ c : Int, I2 157 98 = iI c ∧ 0 ≤ c ∧ c < 1690) → frG PQn I I2 → aF n a2 en2 → Q none (oP I2 a2 en2 (rm (tkK T n) (tkP T n) (tkZ T n) tk (1700 - j) 0 j [] O op).1 (rm (tkK T n) (tkP T n) (tkZ T n) tk (1700 - j) 0 j [] O op).2.1 np2 nm) L (aR sh su)) : aWp none d 231 0 [.ref 157, .null, .null] [] (oT I T n j a 0 bp np nm) L (aR sh su) Q := by
  refine w_aload c_231_0 rfl ?_
  refine z_getZ c_231_1 sp_157 (by decide) rfl hq.2.2.2.2.2 ?_
  refine w_istore c_231_4 (Nat.le_of_ble_eq_true rfl) rfl ?_
  refine w_aload c_231_5 rfl ?_
  refine w_aload c_231_6 rfl ?_
  refine z_getZ c_231_7 sp_157 (by decide) rfl hq.2.1 ?_
  refine z_putZ c_231_10 sp_157 (by decide) rfl ?_
  refine oq_k (frG.rf (P := PQn) (I := I)) (Or.inl ⟨rfl, Or.inr (Or.inr (Or.inr rfl))⟩) (by decide) (fun I1 h1 hF1 => ?_)
  have hq1 : qS I1 ([] ++ W) O op W.length := hq.bas h1
  refine z_push c_231_13 ?_
  refine w_istore c_231_14 (Nat.le_of_ble_eq_true rfl) rfl ?_
  refine w_iload c_231_15 rfl ?_
  refine z_if_eq c_231_16 (by first | exact aRg_of _ | (unfold aRg; omega)) (fun h1_ => absurd h1_ (by decide)) (fun h1_ => ?_)
  exact t_qSums_2 htr hBh hd _ j [] O op a np I1 (Nat.lt_succ_self _) (hB.pq hF1) (hO.pq hF1) hA hq1 hi ((hF1 157 57 (by decide)).trans htk) (fun z0 I3 a3 np3 z1 z2 z3 z4 z5 => kG z0 I3 a3 np3 z1 z2 z3 (hF1.tr z4) z5) (fun I3 a3 en3 np3 z1 z2 zc z3 z4 => kF I3 a3 en3 np3 z1 z2 zc (hF1.tr z3) z4)

