/-! the reference: a part read (p89.py) -/
abbrev Oc := Int × Int × Nat × List Int × Int
def isMu (v : Int) : Bool := decide (v = 3 ∨ v = 4)
def isSu (v : Int) : Bool := decide (v = 1 ∨ v = 2 ∨ v = 3 ∨ v = 4)
/-- the reference's way through a sum, a mark a step: fuel; 0 a part is due, 1 and 3 a bracket behind min, max, 2 a part stands; mark, waiting signs, codes, how many are open -/
def rm (K PL Z : Nat → Int) (tk : Int) : Nat → Nat → Nat → List Int → List Int → Int → Oc
  | 0, _, j, _, O, op => (9, 0, j, O, op)
  | f + 1, 0, j, U, O, op =>
    if K j = 40 then (if op = 6 then (4, PL j, j, O, op) else rm K PL Z tk f 0 (j + 1) (20 :: U) O (op + 1))
    else if K j = 330 then rm K PL Z tk f 1 (j + 1) U O op
    else if K j = 331 then rm K PL Z tk f 3 (j + 1) U O op
    else if K j = 312 ∧ tk = 2 then (if op = 6 then (4, PL j, j, O, op) else rm K PL Z tk f 0 (j + 1) (60 :: U) O (op + 1))
    else if ¬ qWo tk (K j) 0 11 = -1 then rm K PL Z tk f 2 (j + 1) (eP U ((40 + qWo tk (K j) 0 11) :: O) op).1 (eP U ((40 + qWo tk (K j) 0 11) :: O) op).2.1 (eP U ((40 + qWo tk (K j) 0 11) :: O) op).2.2
    else if K j = 339 then (if Z j = -1 then (1, PL j + 4, j, O, op) else rm K PL Z tk f 2 (j + 1) (eP U ((1000 + Z j) :: O) op).1 (eP U ((1000 + Z j) :: O) op).2.1 (eP U ((1000 + Z j) :: O) op).2.2)
    else (1, PL j, j, O, op)
  | f + 1, 1, j, U, O, op => if K j = 40 then (if op = 6 then (4, PL j, j, O, op) else rm K PL Z tk f 0 (j + 1) (21 :: U) O (op + 1)) else (1, PL j, j, O, op)
  | f + 1, 3, j, U, O, op => if K j = 40 then (if op = 6 then (4, PL j, j, O, op) else rm K PL Z tk f 0 (j + 1) (22 :: U) O (op + 1)) else (1, PL j, j, O, op)
  | f + 1, 2, j, U, O, op =>
    if K j = 41 ∧ (brk U = 20 ∨ brk U = 23 ∨ brk U = 24) then
      (match (dW nBr U O).1 with
        | [] => (9, 0, j, O, op)
        | h :: U2 => rm K PL Z tk f 2 (j + 1) (eP U2 (if h = 20 then (dW nBr U O).2 else (if h = 23 then 5 else 6) :: (dW nBr U O).2) (op - 1)).1 (eP U2 (if h = 20 then (dW nBr U O).2 else (if h = 23 then 5 else 6) :: (dW nBr U O).2) (op - 1)).2.1 (eP U2 (if h = 20 then (dW nBr U O).2 else (if h = 23 then 5 else 6) :: (dW nBr U O).2) (op - 1)).2.2)
    else if K j = 42 ∨ K j = 47 then rm K PL Z tk f 0 (j + 1) ((if K j = 42 then 3 else 4) :: (dW isMu U O).1) (dW isMu U O).2 op
    else if K j = 43 ∨ K j = 45 then rm K PL Z tk f 0 (j + 1) ((if K j = 43 then 1 else 2) :: (dW isSu U O).1) (dW isSu U O).2 op
    else if brk U = 21 ∨ brk U = 22 then
      (if K j = 44 then (match (dW nBr U O).1 with
        | [] => (9, 0, j, O, op)
        | h :: U2 => rm K PL Z tk f 0 (j + 1) ((h + 2) :: U2) (dW nBr U O).2 op) else (1, PL j, j, O, op))
    else if ¬ brk U = -1 then (1, PL j, j, O, op)
    else (0, 0, j, (dW (fun _ => true) U O).2, op)
  | f + 1, _ + 4, j, _, O, op => (9, 0, j, O, op)
theorem tkS_up {T : Int → Int} {n : Int} {j : Nat} (hB : 0 ≤ n) (hT : ∀ j : Int, 0 ≤ T j ∧ T j < 256) (hj : (j : Int) ≤ (tkS T n j).1) (hk : ¬ tkK T n j = 341) : ((j + 1 : Nat) : Int) ≤ (tkS T n (j + 1)).1 := by
  have hlt : tkP T n j < n := by
    by_cases h : tkP T n j < n
    · exact h
    · exact absurd ((tkK_end hT).mpr (by unfold lkc; rw [if_neg h])) hk
  have h1 : (tkS T n j).1 ≤ tkP T n j := scan_ge
  by_cases hl : isLe T (tkP T n j) = true
  · rw [tkS_word hlt hl]
    have h3 : wend T n (tkP T n j) = wend T n (tkP T n j + 1) := wend_step ⟨hlt, isLe_iff.mp hl⟩
    have h4 : tkP T n j + 1 ≤ wend T n (tkP T n j + 1) := scan_ge
    show _ ≤ wend T n (tkP T n j); omega
  · by_cases hd : isDi T (tkP T n j) = true
    · rw [tkS_dig hlt hd]
      have h3 : dend T n (tkP T n j) = dend T n (tkP T n j + 1) := dend_step ⟨hlt, isDi_iff.mp hd⟩
      have h4 : tkP T n j + 1 ≤ dend T n (tkP T n j + 1) := scan_ge
      show _ ≤ dend T n (tkP T n j); omega
    · rw [tkS_sign hlt hl hd]; show _ ≤ tkP T n j + 1; omega
theorem rm_s {K PL Z : Nat → Int} {tk : Int} {m j : Nat} {U O : List Int} {op : Int} (h : j < 1700) : rm K PL Z tk (1700 - j) m j U O op = rm K PL Z tk ((1700 - (j + 1)) + 1) m j U O op := by rw [show 1700 - j = (1700 - (j + 1)) + 1 by omega]
set_option maxHeartbeats 1000000 in
theorem tf_qEndsPart {d : Nat} {I : aFI} {L : aFL} {Q : aPo} {sh : Nat} {su : Option Nat} {a en b bp np nm : Int} (hb : 0 < b ∧ b < 10) (k : Q none (oP I a en b bp np nm) L (aR sh su)) : aWp none d 228 0 [.ref 157] [] (oP I a en b bp np nm) L (aR sh su) Q := by
  refine w_aload c_228_0 rfl ?_
  refine z_getZ c_228_1 sp_157 (by decide) rfl rfl ?_
  refine z_if_ne c_228_4 (by first | exact aRg_of _ | (unfold aRg; omega)) (fun h1_ => ?_) (fun h1_ => ?_)
  rotate_left
  · exfalso; omega
  refine z_retv c_228_51 ?_
  exact k

set_option maxHeartbeats 1000000 in
theorem tf_qPartTold_6 {d : Nat} {I : aFI} {L : aFL} {Q : aPo} {sh : Nat} {su : Option Nat} {a en b bp np nm : Int} (hb : 0 < b ∧ b < 10) {v2 v3 v4 v5 : Value} (k : Q none (oP I a en b bp np nm) L (aR sh su)) : aWp none d 229 6 [.ref 157, .int (iI 1), v2, v3, v4, v5] [] (oP I a en b bp np nm) L (aR sh su) Q := by
  refine w_aload c_229_6 rfl ?_
  refine z_getZ c_229_7 sp_157 (by decide) rfl rfl ?_
  refine z_if_ne c_229_10 (by first | exact aRg_of _ | (unfold aRg; omega)) (fun h1_ => ?_) (fun h1_ => ?_)
  rotate_left
  · exfalso; omega
  refine w_aload c_229_186 rfl ?_
  refine z_getZ c_229_187 sp_157 (by decide) rfl rfl ?_
  refine z_if_eq c_229_190 (by first | exact aRg_of _ | (unfold aRg; omega)) (fun h2_ => ?_) (fun h2_ => ?_)
  · exfalso; omega
  refine z_retv c_229_193 ?_
  exact k

set_option maxHeartbeats 1000000 in
theorem tf_qAsksWord {d : Nat} {I : aFI} {L : aFL} {Q : aPo} {sh : Nat} {su : Option Nat} {a en b bp np nm : Int} {T : Int → Int} {n v : Int} (hB : oB I T n) (hO : oW I) (hA : aF n a en) (hv : 0 ≤ v ∧ v < 12) (hb : 0 < b ∧ b < 10) (hd : 5 ≤ d) (k : Q none (oP I a en b bp np nm) L (aR sh su)) : aWp none d 227 0 [.ref 157, .int (iI v)] [] (oP I a en b bp np nm) L (aR sh su) Q := by
  refine w_iload c_227_0 rfl ?_
  rcases (show (v = 0) ∨ (v = 1) ∨ (v = 2) ∨ (v = 3) ∨ (v = 4) ∨ (v = 5) ∨ (v = 6) ∨ (v = 7) ∨ (v = 8) ∨ (v = 9) ∨ (v = 10) ∨ (¬ v = 0 ∧ ¬ v = 1 ∧ ¬ v = 2 ∧ ¬ v = 3 ∧ ¬ v = 4 ∧ ¬ v = 5 ∧ ¬ v = 6 ∧ ¬ v = 7 ∧ ¬ v = 8 ∧ ¬ v = 9 ∧ ¬ v = 10) by omega) with h1_ | h1_ | h1_ | h1_ | h1_ | h1_ | h1_ | h1_ | h1_ | h1_ | h1_ | h1_
  · refine z_tsw c_227_1 (by first | exact aRg_of _ | (unfold aRg; omega)) (pc2 := 60) (by rcases h1_ with rfl <;> rfl) ?_
    refine w_aload c_227_60 rfl ?_
    refine w_aload c_227_61 rfl ?_
    refine w_getR c_227_62 sp_157 (by decide) rfl pr_157_85 ?_
    refine wc_139 c_227_65 sp_157 (Nat.le_of_ble_eq_true rfl) (by omega) ?_
    refine tf_asksW hB hO (q := 220) (Or.inr ⟨by decide, by decide⟩) (by omega) (by omega) (by unfold aRg; omega) hA ?_
    refine r_v ?_
    refine w_goto c_227_68 ?_
    refine z_retv c_227_189 ?_
    exact k
  · refine z_tsw c_227_1 (by first | exact aRg_of _ | (unfold aRg; omega)) (pc2 := 71) (by rcases h1_ with rfl <;> rfl) ?_
    refine w_aload c_227_71 rfl ?_
    refine w_aload c_227_72 rfl ?_
    refine w_getR c_227_73 sp_157 (by decide) rfl pr_157_86 ?_
    refine wc_139 c_227_76 sp_157 (Nat.le_of_ble_eq_true rfl) (by omega) ?_
    refine tf_asksW hB hO (q := 221) (Or.inr ⟨by decide, by decide⟩) (by omega) (by omega) (by unfold aRg; omega) hA ?_
    refine r_v ?_
    refine w_goto c_227_79 ?_
    refine z_retv c_227_189 ?_
    exact k
  · refine z_tsw c_227_1 (by first | exact aRg_of _ | (unfold aRg; omega)) (pc2 := 82) (by rcases h1_ with rfl <;> rfl) ?_
    refine w_aload c_227_82 rfl ?_
    refine w_aload c_227_83 rfl ?_
    refine w_getR c_227_84 sp_157 (by decide) rfl pr_157_87 ?_
    refine wc_139 c_227_87 sp_157 (Nat.le_of_ble_eq_true rfl) (by omega) ?_
    refine tf_asksW hB hO (q := 222) (Or.inr ⟨by decide, by decide⟩) (by omega) (by omega) (by unfold aRg; omega) hA ?_
    refine r_v ?_
    refine w_goto c_227_90 ?_
    refine z_retv c_227_189 ?_
    exact k
  · refine z_tsw c_227_1 (by first | exact aRg_of _ | (unfold aRg; omega)) (pc2 := 93) (by rcases h1_ with rfl <;> rfl) ?_
    refine w_aload c_227_93 rfl ?_
    refine w_aload c_227_94 rfl ?_
    refine w_getR c_227_95 sp_157 (by decide) rfl pr_157_88 ?_
    refine wc_139 c_227_98 sp_157 (Nat.le_of_ble_eq_true rfl) (by omega) ?_
    refine tf_asksW hB hO (q := 223) (Or.inr ⟨by decide, by decide⟩) (by omega) (by omega) (by unfold aRg; omega) hA ?_
    refine r_v ?_
    refine w_goto c_227_101 ?_
    refine z_retv c_227_189 ?_
    exact k
  · refine z_tsw c_227_1 (by first | exact aRg_of _ | (unfold aRg; omega)) (pc2 := 104) (by rcases h1_ with rfl <;> rfl) ?_
    refine w_aload c_227_104 rfl ?_
    refine w_aload c_227_105 rfl ?_
    refine w_getR c_227_106 sp_157 (by decide) rfl pr_157_89 ?_
    refine wc_139 c_227_109 sp_157 (Nat.le_of_ble_eq_true rfl) (by omega) ?_
    refine tf_asksW hB hO (q := 224) (Or.inr ⟨by decide, by decide⟩) (by omega) (by omega) (by unfold aRg; omega) hA ?_
    refine r_v ?_
    refine w_goto c_227_112 ?_
    refine z_retv c_227_189 ?_
    exact k
  · refine z_tsw c_227_1 (by first | exact aRg_of _ | (unfold aRg; omega)) (pc2 := 115) (by rcases h1_ with rfl <;> rfl) ?_
    refine w_aload c_227_115 rfl ?_
    refine w_aload c_227_116 rfl ?_
    refine w_getR c_227_117 sp_157 (by decide) rfl pr_157_90 ?_
    refine wc_139 c_227_120 sp_157 (Nat.le_of_ble_eq_true rfl) (by omega) ?_
    refine tf_asksW hB hO (q := 225) (Or.inr ⟨by decide, by decide⟩) (by omega) (by omega) (by unfold aRg; omega) hA ?_
    refine r_v ?_
    refine w_goto c_227_123 ?_
    refine z_retv c_227_189 ?_
    exact k
  · refine z_tsw c_227_1 (by first | exact aRg_of _ | (unfold aRg; omega)) (pc2 := 126) (by rcases h1_ with rfl <;> rfl) ?_
    refine w_aload c_227_126 rfl ?_
    refine w_aload c_227_127 rfl ?_
    refine w_getR c_227_128 sp_157 (by decide) rfl pr_157_91 ?_
    refine wc_139 c_227_131 sp_157 (Nat.le_of_ble_eq_true rfl) (by omega) ?_
    refine tf_asksW hB hO (q := 226) (Or.inr ⟨by decide, by decide⟩) (by omega) (by omega) (by unfold aRg; omega) hA ?_
    refine r_v ?_
    refine w_goto c_227_134 ?_
    refine z_retv c_227_189 ?_
    exact k
  · refine z_tsw c_227_1 (by first | exact aRg_of _ | (unfold aRg; omega)) (pc2 := 137) (by rcases h1_ with rfl <;> rfl) ?_
    refine w_aload c_227_137 rfl ?_
    refine w_aload c_227_138 rfl ?_
    refine w_getR c_227_139 sp_157 (by decide) rfl pr_157_92 ?_
    refine wc_139 c_227_142 sp_157 (Nat.le_of_ble_eq_true rfl) (by omega) ?_
    refine tf_asksW hB hO (q := 227) (Or.inr ⟨by decide, by decide⟩) (by omega) (by omega) (by unfold aRg; omega) hA ?_
    refine r_v ?_
    refine w_goto c_227_145 ?_
    refine z_retv c_227_189 ?_
    exact k
  · refine z_tsw c_227_1 (by first | exact aRg_of _ | (unfold aRg; omega)) (pc2 := 148) (by rcases h1_ with rfl <;> rfl) ?_
    refine w_aload c_227_148 rfl ?_
    refine w_aload c_227_149 rfl ?_
    refine w_getR c_227_150 sp_157 (by decide) rfl pr_157_93 ?_
    refine wc_139 c_227_153 sp_157 (Nat.le_of_ble_eq_true rfl) (by omega) ?_
    refine tf_asksW hB hO (q := 228) (Or.inr ⟨by decide, by decide⟩) (by omega) (by omega) (by unfold aRg; omega) hA ?_
    refine r_v ?_
    refine w_goto c_227_156 ?_
    refine z_retv c_227_189 ?_
    exact k
  · refine z_tsw c_227_1 (by first | exact aRg_of _ | (unfold aRg; omega)) (pc2 := 159) (by rcases h1_ with rfl <;> rfl) ?_
    refine w_aload c_227_159 rfl ?_
    refine w_aload c_227_160 rfl ?_
    refine w_getR c_227_161 sp_157 (by decide) rfl pr_157_94 ?_
    refine wc_139 c_227_164 sp_157 (Nat.le_of_ble_eq_true rfl) (by omega) ?_
    refine tf_asksW hB hO (q := 229) (Or.inr ⟨by decide, by decide⟩) (by omega) (by omega) (by unfold aRg; omega) hA ?_
    refine r_v ?_
    refine w_goto c_227_167 ?_
    refine z_retv c_227_189 ?_
    exact k
  · refine z_tsw c_227_1 (by first | exact aRg_of _ | (unfold aRg; omega)) (pc2 := 170) (by rcases h1_ with rfl <;> rfl) ?_
    refine w_aload c_227_170 rfl ?_
    refine w_aload c_227_171 rfl ?_
    refine w_getR c_227_172 sp_157 (by decide) rfl pr_157_95 ?_
    refine wc_139 c_227_175 sp_157 (Nat.le_of_ble_eq_true rfl) (by omega) ?_
    refine tf_asksW hB hO (q := 230) (Or.inr ⟨by decide, by decide⟩) (by omega) (by omega) (by unfold aRg; omega) hA ?_
    refine r_v ?_
    refine w_goto c_227_178 ?_
    refine z_retv c_227_189 ?_
    exact k
  · refine z_tsw c_227_1 (by first | exact aRg_of _ | (unfold aRg; omega)) (pc2 := 181) (by (by_cases hq : v < 0 ∨ 10 < v); (rw [if_pos hq]; rfl); (exfalso; omega)) ?_
    refine w_aload c_227_181 rfl ?_
    refine w_aload c_227_182 rfl ?_
    refine w_getR c_227_183 sp_157 (by decide) rfl pr_157_96 ?_
    refine wc_139 c_227_186 sp_157 (Nat.le_of_ble_eq_true rfl) (by omega) ?_
    refine tf_asksW hB hO (q := 231) (Or.inr ⟨by decide, by decide⟩) (by omega) (by omega) (by unfold aRg; omega) hA ?_
    refine r_v ?_
    refine z_retv c_227_189 ?_
    exact k

theorem wk_218 : wcode 218 = 330 := by decide +kernel
theorem wk_219 : wcode 219 = 331 := by decide +kernel
theorem eP_op : ∀ (U O : List Int) (op : Int), (eP U O op).2.2 = op - U.length + (eP U O op).1.length
  | [], O, op => by unfold eP; simp
  | u :: U, O, op => by
    have h := eP_op U (u :: O) (op - 1)
    unfold eP
    split
    · rw [List.length_cons]; omega
    · show op = op - ((u :: U).length : Int) + ((u :: U).length : Int); omega
/-- the bounds that hold all the way -/
def qI (T : Int → Int) (n : Int) (sl : Nat) (B U O : List Int) (op : Int) (j : Nat) : Prop := wOK (U ++ B) ∧ (U ++ B).length + O.length + sl ≤ j ∧ ((U ++ B).length : Int) ≤ op + j ∧ op ≤ 6 ∧ (j : Int) ≤ (tkS T n j).1
section QI
variable {T : Int → Int} {n : Int} {sl : Nat} {B U O : List Int} {op : Int} {j : Nat}
theorem qI.jb (h : qI T n sl B U O op j) (hB : 0 ≤ n ∧ n ≤ 1600) : j ≤ 1600 := by have := tkS_rg (T := T) hB.1 j; have := h.2.2.2.2; omega
theorem qI.push {v : Int} (h : qI T n sl B U O op j) (hv : 0 ≤ v ∧ v < 100) (ho : op < 6) (hj : ((j + 1 : Nat) : Int) ≤ (tkS T n (j + 1)).1) : qI T n sl B (v :: U) O (op + 1) (j + 1) := by
  refine ⟨fun x hx => ?_, ?_, ?_, by omega, hj⟩
  · rcases List.mem_cons.mp hx with rfl | hx
    · exact hv
    · exact h.1 x hx
  · have := h.2.1; show ((v :: U) ++ B).length + O.length + sl ≤ j + 1; rw [List.cons_append, List.length_cons]; omega
  · have := h.2.2.1; show (((v :: U) ++ B).length : Int) ≤ _; rw [List.cons_append, List.length_cons]; omega
/-- an operator waits -/
theorem qI.ope {v : Int} (h : qI T n sl B U O op j) (hv : 0 ≤ v ∧ v < 100) (hj : ((j + 1 : Nat) : Int) ≤ (tkS T n (j + 1)).1) : qI T n sl B (v :: U) O op (j + 1) := by
  refine ⟨fun x hx => ?_, ?_, ?_, h.2.2.2.1, hj⟩
  · rcases List.mem_cons.mp hx with rfl | hx
    · exact hv
    · exact h.1 x hx
  · have := h.2.1; show ((v :: U) ++ B).length + O.length + sl ≤ j + 1; rw [List.cons_append, List.length_cons]; omega
  · have := h.2.2.1; show (((v :: U) ++ B).length : Int) ≤ _; rw [List.cons_append, List.length_cons]; omega
theorem qI.nxt (h : qI T n sl B U O op j) (hj : ((j + 1 : Nat) : Int) ≤ (tkS T n (j + 1)).1) : qI T n sl B U O op (j + 1) := ⟨h.1, by have := h.2.1; omega, by have := h.2.2.1; omega, h.2.2.2.1, hj⟩
theorem qI.code {v : Int} (h : qI T n sl B U O op j) (hj : ((j + 1 : Nat) : Int) ≤ (tkS T n (j + 1)).1) : qI T n sl B U (v :: O) op (j + 1) := ⟨h.1, by have := h.2.1; rw [List.length_cons]; omega, by have := h.2.2.1; omega, h.2.2.2.1, hj⟩
theorem qI.ep (h : qI T n sl B U O op j) : qI T n sl B (eP U O op).1 (eP U O op).2.1 (eP U O op).2.2 j := by
  have h1 := eP_len U O op
  have h2 := eP_op U O op
  have h3 := h.2.1
  have h4 := h.2.2.1
  have h5 := h.2.2.2.1
  rw [List.length_append] at h3 h4
  refine ⟨fun x hx => ?_, ?_, ?_, by omega, h.2.2.2.2⟩
  · rcases List.mem_append.mp hx with hx | hx
    · exact h.1 x (List.mem_append_left _ (eP_mem _ _ _ _ hx))
    · exact h.1 x (List.mem_append_right _ hx)
  · rw [List.length_append]; omega
  · rw [List.length_append]; omega
theorem qI.dw {p : Int → Bool} (h : qI T n sl B U O op j) : qI T n sl B (dW p U O).1 (dW p U O).2 op j := by
  have h1 := dW_len (p := p) U O
  have h3 := h.2.1
  have h4 := h.2.2.1
  rw [List.length_append] at h3 h4
  refine ⟨fun x hx => ?_, ?_, ?_, h.2.2.2.1, h.2.2.2.2⟩
  · rcases List.mem_append.mp hx with hx | hx
    · exact h.1 x (List.mem_append_left _ (dW_mem _ _ _ hx))
    · exact h.1 x (List.mem_append_right _ hx)
  · rw [List.length_append]; omega
  · rw [List.length_append]; omega
end QI
theorem qWo_by {tk k : Int} (htr : 0 ≤ tk ∧ tk < 3) : (qWo tk k 11 12 = -1 ∧ ¬ (k = 312 ∧ tk = 2)) ∨ (qWo tk k 11 12 = 11 ∧ k = 312 ∧ tk = 2) := by
  unfold qWo
  by_cases h : k = 312
  · subst h
    rw [show qWz 312 = 11 by decide]
    rcases (show tk = 0 ∨ tk = 1 ∨ tk = 2 by omega) with rfl | rfl | rfl <;> decide
  · left
    have h2 : ¬ qWz k = 11 := fun z => h (qWz_11 z)
    have h3 := qWz_rg (k := k)
    exact ⟨if_neg (fun z => by omega), fun z => h z.1⟩
theorem qWo_pt {tk k : Int} : (qWo tk k 0 11 = -1) ∨ ((0 ≤ qWo tk k 0 11 ∧ qWo tk k 0 11 < 11) ∧ qWz k = qWo tk k 0 11) := by
  unfold qWo
  split
  · rename_i h; exact Or.inr ⟨h.1, rfl⟩
  · exact Or.inl rfl
theorem lkc_lt {T : Int → Int} {n p c : Int} (h : lkc T n p = c) (hc : 0 ≤ c) : p < n := by
  unfold lkc at h
  by_cases hp : p < n
  · exact hp
  · rw [if_neg hp] at h; omega
theorem sgn40 : sgn 40 := by decide
set_option maxHeartbeats 2000000 in
theorem t_qPartTold_1 {d : Nat} {L : aFL} {Q : aPo} {T : Int → Int} {n : Int} {sh : Nat} {su : Option Nat} {bp nm tk : Int} {sl : Nat} {B : List Int} (htr : 0 ≤ tk ∧ tk < 3) (hd : 7 ≤ d) : ∀ (fz : Nat) (j : Nat) (U O : List Int) (op a np : Int) (I : aFI) (v2 v3 v4 v5 : Value), 1700 - j < fz → (oB I T n) → (oW I) → (rA T n j a) → (qS I (U ++ B) O op B.length) → (qI T n sl B U O op j) → (I 157 57 = iI tk) → (∀ (I2 : aFI) (j2 : Nat) (U2 O2 : List Int) (op2 a2 np2 : Int), j < j2 → rm (tkK T n) (tkP T n) (tkZ T n) tk (1700 - j) 0 j U O op = rm (tkK T n) (tkP T n) (tkZ T n) tk (1700 - j2) 2 j2 U2 O2 op2 → qS I2 (U2 ++ B) O2 op2 B.length → qI T n sl B U2 O2 op2 j2 → frG PQn I I2 → rA T n j2 a2 → Q none (oT I2 T n j2 a2 0 bp np2 nm) L (aR sh su)) → (∀ (I2 : aFI) (a2 en2 np2 : Int), 0 < (rm (tkK T n) (tkP T n) (tkZ T n) tk (1700 - j) 0 j U O op).1 → (rm (tkK T n) (tkP T n) (tkZ T n) tk (1700 - j) 0 j U O op).1 < 10 → (∃ c : Int, I2 157 98 = iI c ∧ 0 ≤ c ∧ c < 1690) → frG PQn I I2 → aF n a2 en2 → Q none (oP I2 a2 en2 (rm (tkK T n) (tkP T n) (tkZ T n) tk (1700 - j) 0 j U O op).1 (rm (tkK T n) (tkP T n) (tkZ T n) tk (1700 - j) 0 j U O op).2.1 np2 nm) L (aR sh su)) → aWp none d 229 6 [.ref 157, .int (iI 1), v2, v3, v4, v5] [] (oT I T n j a 0 bp np nm) L (aR sh su) Q := by
  intro fz
  induction fz with
  | zero => intro j U O op a np I v2 v3 v4 v5 h; omega
  | succ fz ih =>
    intro j U O op a np I v2 v3 v4 v5 hn2 hB hO hA hq hi htk kG kF
    have hn := hB.2.2.1
    have hjj := hi.jb hn
    have hj7 : j < 1700 := by omega
    have hlen := hi.2.1
    have hopl := hi.2.2.1
    have hop6 := hi.2.2.2.1
    have hpr := tkP_rg (T := T) (n := n) (j := j) hn.1
    have hen := en_rg (T := T) (n := n) (j := j) hn
    have hA2 := rA_p (T := T) (n := n) (j := j) hn.1
    have hsg := tkK_sign hB.2.2.2 (T := T) (n := n) (j := j) (c := 40) (by omega) (by omega) (by omega)
    have hlk : -1 ≤ lkc T n (tkP T n j) ∧ lkc T n (tkP T n j) < 256 := by have := hB.2.2.2 (tkP T n j); unfold lkc; split <;> omega
    have hwz := qWz_rg (k := tkK T n j)
    have hwb := qWo_by (tk := tk) (k := tkK T n j) htr
    refine w_aload c_229_6 rfl ?_
    refine z_getZ c_229_7 sp_157 (by decide) rfl rfl ?_
    refine z_if_ne c_229_10 (by first | exact aRg_of _ | (unfold aRg; omega)) (fun h1_ => ?_) (fun h1_ => ?_)
    · exfalso; omega
    refine w_aload c_229_13 rfl ?_
    refine wc_136 c_229_14 sp_157 (Nat.le_of_ble_eq_true rfl) (by omega) ?_
    refine tt_look hB hA ?_
    refine r_i ?_
    refine w_istore c_229_17 (Nat.le_of_ble_eq_true rfl) rfl ?_
    refine w_aload c_229_18 rfl ?_
    refine z_push c_229_19 ?_
    refine z_push c_229_21 ?_
    refine wc_226 c_229_23 sp_157 (Nat.le_of_ble_eq_true rfl) (by omega) ?_
    refine t_qWordOf hB hO hA2 htk htr (by omega) (by omega) (by omega) ?_
    refine r_i ?_
    refine w_istore c_229_26 (Nat.le_of_ble_eq_true rfl) rfl ?_
    refine w_iload c_229_27 rfl ?_
    refine z_push c_229_28 ?_
    refine z_ic_ne c_229_30 (by first | exact aRg_of _ | (unfold aRg; omega)) (by first | exact aRg_of _ | (unfold aRg; omega)) (fun h2_ => ?_) (fun h2_ => ?_)
    · refine w_aload c_229_56 rfl ?_
      refine w_aload c_229_57 rfl ?_
      refine w_getR c_229_58 sp_157 (by decide) rfl pr_157_83 ?_
      refine wc_137 c_229_61 sp_157 (Nat.le_of_ble_eq_true rfl) (by omega) ?_
      refine tt_isHereW hB hO (q := 218) (Or.inr ⟨by decide, by decide⟩) (by omega) hA2 ?_
      rw [wk_218]
      refine r_i ?_
      refine b_if_ne c_229_64 (fun h3_ => ?_) (fun h3_ => ?_)
      · refine w_aload c_229_78 rfl ?_
        refine w_aload c_229_79 rfl ?_
        refine w_getR c_229_80 sp_157 (by decide) rfl pr_157_83 ?_
        refine wc_138 c_229_83 sp_157 (Nat.le_of_ble_eq_true rfl) (by omega) ?_
        have hmm : tkK T n j = 330 ∨ tkK T n j = 331 := by first | exact Or.inl (of_decide_eq_true h3_) | exact Or.inr (of_decide_eq_true (by assumption))
        have hke : ¬ tkK T n j = 341 := by omega
        have hup := tkS_up hn.1 hB.2.2.2 hi.2.2.2.2 hke
        refine tt_takesW hB hO (q := 218) (Or.inr ⟨by decide, by decide⟩) (by omega) hA2 (fun hkm a4 hA4 => ?_) (fun hkm => ?_)
        · refine r_i ?_
          refine w_istore c_229_86 (Nat.le_of_ble_eq_true rfl) rfl ?_
          refine w_iload c_229_88 rfl ?_
          refine b_if_ne c_229_90 (fun _ => ?_) (fun h => Bool.noConfusion h)
          have hkk : tkK T n j = 330 := hkm.trans wk_218
          have hk40 : ¬ tkK T n j = 40 := by omega
          have hj1 := (hi.nxt hup).jb hn
          have hj8 : j + 1 < 1700 := by omega
          have hpr1 := tkP_rg (T := T) (n := n) (j := j + 1) hn.1
          have hen1 := en_rg (T := T) (n := n) (j := j + 1) hn
          have hA5 := rA_p (T := T) (n := n) (j := j + 1) hn.1
          have hsg1 := tkK_sign hB.2.2.2 (T := T) (n := n) (j := j + 1) (c := 40) (by omega) (by omega) (by omega)
          have hlk1 : -1 ≤ lkc T n (tkP T n (j + 1)) ∧ lkc T n (tkP T n (j + 1)) < 256 := by have := hB.2.2.2 (tkP T n (j + 1)); unfold lkc; split <;> omega
          refine w_aload c_229_101 rfl ?_
          refine wc_136 c_229_102 sp_157 (Nat.le_of_ble_eq_true rfl) (by omega) ?_
          refine tt_look hB hA4 ?_
          refine r_i ?_
          refine z_push c_229_105 ?_
          refine z_ic_ne c_229_107 (by first | exact aRg_of _ | (unfold aRg; omega)) (by first | exact aRg_of _ | (unfold aRg; omega)) (fun h61_ => ?_) (fun h61_ => ?_)
          · refine z_push c_229_117 ?_
            refine w_istore c_229_118 (Nat.le_of_ble_eq_true rfl) rfl ?_
            refine w_iload c_229_120 rfl ?_
            refine z_push c_229_122 ?_
            refine z_ic_eq c_229_123 (by first | exact aRg_of _ | (unfold aRg; omega)) (by first | exact aRg_of _ | (unfold aRg; omega)) (fun _ => ?_) (fun h => absurd h (by decide))
            refine w_aload c_229_144 rfl ?_
            refine z_push c_229_145 ?_
            refine wc_141 c_229_147 sp_157 (Nat.le_of_ble_eq_true rfl) (by omega) ?_
            have hk41 : ¬ tkK T n (j + 1) = 40 := fun z => absurd (hsg1.mp z) (by omega)
            refine tt_asksSign hB sgn40 (by omega) hA5 (fun z => absurd z hk41) (fun _ => ?_)
            refine r_v ?_
            refine w_goto c_229_150 ?_
            refine w_goto c_229_183 ?_
            refine w_iload c_229_2 rfl ?_
            refine z_if_eq c_229_3 (by first | exact aRg_of _ | (unfold aRg; omega)) (fun h63_ => absurd h63_ (by decide)) (fun h63_ => ?_)
            have hrm : rm (tkK T n) (tkP T n) (tkZ T n) tk (1700 - j) 0 j U O op = (1, tkP T n (j + 1), j + 1, O, op) := by
              rw [rm_s hj7]
              simp only [rm]
              rw [if_neg hk40, if_pos hkk]
              rw [rm_s hj8]
              simp only [rm]
              rw [if_neg hk41]
            rw [hrm] at kF
            exact tf_qPartTold_6 (by decide) (kF I _ _ _ (show (0 : Int) < 1 by decide) (show (1 : Int) < 10 by decide) ⟨_, hq.2.2.2.1, by omega, by omega⟩ frG.rf ⟨hpr1, hen1⟩)
          · refine w_aload c_229_110 rfl ?_
            refine z_getZ c_229_111 sp_157 (by decide) rfl rfl ?_
            refine w_goto c_229_114 ?_
            refine w_istore c_229_118 (Nat.le_of_ble_eq_true rfl) rfl ?_
            refine w_iload c_229_120 rfl ?_
            refine z_push c_229_122 ?_
            refine z_ic_eq c_229_123 (by first | exact aRg_of _ | (unfold aRg; omega)) (by first | exact aRg_of _ | (unfold aRg; omega)) (fun h64_ => ?_) (fun h64_ => ?_)
            · exfalso; omega
            refine w_aload c_229_126 rfl ?_
            refine w_iload c_229_127 rfl ?_
            refine b_if_eq c_229_129 (fun h => Bool.noConfusion h) (fun _ => ?_)
            refine z_push c_229_132 ?_
            refine w_goto c_229_134 ?_
            refine w_iload c_229_139 rfl ?_
            refine wc_219 c_229_141 sp_157 (Nat.le_of_ble_eq_true rfl) (by omega) ?_
            have hk41 : tkK T n (j + 1) = 40 := hsg1.mpr (by omega)
            refine t_qOpens hq (by omega) (by omega) rfl (by omega) (fun h6 => ?_) (fun h6 I2 hq2 hF2 => ?_)
            · refine r_v ?_
              refine w_aload c_229_144 rfl ?_
              refine z_push c_229_145 ?_
              refine wc_141 c_229_147 sp_157 (Nat.le_of_ble_eq_true rfl) (by omega) ?_
              refine tf_asksSign hB (by omega) (by omega) (by decide) (by unfold aRg; omega) ⟨hpr1, hen1⟩ ?_
              refine r_v ?_
              refine w_goto c_229_150 ?_
              refine w_goto c_229_183 ?_
              refine w_iload c_229_2 rfl ?_
              refine z_if_eq c_229_3 (by first | exact aRg_of _ | (unfold aRg; omega)) (fun h66_ => absurd h66_ (by decide)) (fun h66_ => ?_)
              have hrm : rm (tkK T n) (tkP T n) (tkZ T n) tk (1700 - j) 0 j U O op = (4, tkP T n (j + 1), j + 1, O, op) := by
                rw [rm_s hj7]
                simp only [rm]
                rw [if_neg hk40, if_pos hkk]
                rw [rm_s hj8]
                simp only [rm]
                rw [if_pos hk41, if_pos h6]
              rw [hrm] at kF
              exact tf_qPartTold_6 (by decide) (kF I _ _ _ (show (0 : Int) < 4 by decide) (show (4 : Int) < 10 by decide) ⟨_, hq.2.2.2.1, by omega, by omega⟩ frG.rf ⟨hpr1, hen1⟩)
            · refine r_v ?_
              refine w_aload c_229_144 rfl ?_
              refine z_push c_229_145 ?_
              refine wc_141 c_229_147 sp_157 (Nat.le_of_ble_eq_true rfl) (by omega) ?_
              refine tt_asksSign (hB.pq hF2) sgn40 (by omega) hA5 (fun _ a6 hA6 => ?_) (fun z => absurd hk41 z)
              refine r_v ?_
              refine w_goto c_229_150 ?_
              refine w_goto c_229_183 ?_
              refine w_iload c_229_2 rfl ?_
              refine z_if_eq c_229_3 (by first | exact aRg_of _ | (unfold aRg; omega)) (fun h67_ => absurd h67_ (by decide)) (fun h67_ => ?_)
              have hke1 : ¬ tkK T n (j + 1) = 341 := by omega
              have hup1 := tkS_up hn.1 hB.2.2.2 hup hke1
              have hrm : rm (tkK T n) (tkP T n) (tkZ T n) tk (1700 - j) 0 j U O op = rm (tkK T n) (tkP T n) (tkZ T n) tk (1700 - (j + 2)) 0 (j + 2) (21 :: U) O (op + 1) := by
                rw [rm_s hj7]
                simp only [rm]
                rw [if_neg hk40, if_pos hkk]
                rw [rm_s hj8]
                simp only [rm]
                rw [if_pos hk41, if_neg h6]
              exact ih (j + 2) (21 :: U) O (op + 1) a6 _ I2 _ _ _ _ (by omega) (hB.pq hF2) (hO.pq hF2) hA6 hq2 ((hi.nxt hup).push (by omega) (by omega) hup1) ((hF2 157 57 (by decide)).trans htk) (fun I3 j3 U3 O3 op3 a3 np3 z0 z1 z2 z3 z4 z5 => kG I3 j3 U3 O3 op3 a3 np3 (by omega) (hrm.trans z1) z2 z3 (hF2.tr z4) z5) (fun I3 a3 en3 np3 z1 z2 zc z3 z4 => by rw [hrm] at kF; exact kF I3 a3 en3 np3 z1 z2 zc (hF2.tr z3) z4)
        · refine r_i ?_
          refine w_istore c_229_86 (Nat.le_of_ble_eq_true rfl) rfl ?_
          refine w_iload c_229_88 rfl ?_
          refine b_if_ne c_229_90 (fun h => Bool.noConfusion h) (fun _ => ?_)
          refine w_aload c_229_93 rfl ?_
          refine w_aload c_229_94 rfl ?_
          refine w_getR c_229_95 sp_157 (by decide) rfl pr_157_84 ?_
          refine wc_139 c_229_98 sp_157 (Nat.le_of_ble_eq_true rfl) (by omega) ?_
          have hk331 : tkK T n j = 331 := by rcases hmm with z | z; exact absurd (z.trans wk_218.symm) hkm; exact z
          refine tt_asksW hB hO (q := 219) (Or.inr ⟨by decide, by decide⟩) (by omega) hA2 (fun hkx a4 hA4 => ?_) (fun z => absurd (hk331.trans wk_219.symm) z)
          refine r_v ?_
          have hkk : tkK T n j = 331 := hk331
          have hk40 : ¬ tkK T n j = 40 := by omega
          have hj1 := (hi.nxt hup).jb hn
          have hj8 : j + 1 < 1700 := by omega
          have hpr1 := tkP_rg (T := T) (n := n) (j := j + 1) hn.1
          have hen1 := en_rg (T := T) (n := n) (j := j + 1) hn
          have hA5 := rA_p (T := T) (n := n) (j := j + 1) hn.1
          have hsg1 := tkK_sign hB.2.2.2 (T := T) (n := n) (j := j + 1) (c := 40) (by omega) (by omega) (by omega)
          have hlk1 : -1 ≤ lkc T n (tkP T n (j + 1)) ∧ lkc T n (tkP T n (j + 1)) < 256 := by have := hB.2.2.2 (tkP T n (j + 1)); unfold lkc; split <;> omega
          refine w_aload c_229_101 rfl ?_
          refine wc_136 c_229_102 sp_157 (Nat.le_of_ble_eq_true rfl) (by omega) ?_
          refine tt_look hB hA4 ?_
          refine r_i ?_
          refine z_push c_229_105 ?_
          refine z_ic_ne c_229_107 (by first | exact aRg_of _ | (unfold aRg; omega)) (by first | exact aRg_of _ | (unfold aRg; omega)) (fun h61_ => ?_) (fun h61_ => ?_)
          · refine z_push c_229_117 ?_
            refine w_istore c_229_118 (Nat.le_of_ble_eq_true rfl) rfl ?_
            refine w_iload c_229_120 rfl ?_
            refine z_push c_229_122 ?_
            refine z_ic_eq c_229_123 (by first | exact aRg_of _ | (unfold aRg; omega)) (by first | exact aRg_of _ | (unfold aRg; omega)) (fun _ => ?_) (fun h => absurd h (by decide))
            refine w_aload c_229_144 rfl ?_
            refine z_push c_229_145 ?_
            refine wc_141 c_229_147 sp_157 (Nat.le_of_ble_eq_true rfl) (by omega) ?_
            have hk41 : ¬ tkK T n (j + 1) = 40 := fun z => absurd (hsg1.mp z) (by omega)
            refine tt_asksSign hB sgn40 (by omega) hA5 (fun z => absurd z hk41) (fun _ => ?_)
            refine r_v ?_
            refine w_goto c_229_150 ?_
            refine w_goto c_229_183 ?_
            refine w_iload c_229_2 rfl ?_
            refine z_if_eq c_229_3 (by first | exact aRg_of _ | (unfold aRg; omega)) (fun h63_ => absurd h63_ (by decide)) (fun h63_ => ?_)
            have hrm : rm (tkK T n) (tkP T n) (tkZ T n) tk (1700 - j) 0 j U O op = (1, tkP T n (j + 1), j + 1, O, op) := by
              rw [rm_s hj7]
              simp only [rm]
              rw [if_neg hk40, if_neg (show ¬ tkK T n j = 330 by omega), if_pos hkk]
              rw [rm_s hj8]
              simp only [rm]
              rw [if_neg hk41]
            rw [hrm] at kF
            exact tf_qPartTold_6 (by decide) (kF I _ _ _ (show (0 : Int) < 1 by decide) (show (1 : Int) < 10 by decide) ⟨_, hq.2.2.2.1, by omega, by omega⟩ frG.rf ⟨hpr1, hen1⟩)
          · refine w_aload c_229_110 rfl ?_
            refine z_getZ c_229_111 sp_157 (by decide) rfl rfl ?_
            refine w_goto c_229_114 ?_
            refine w_istore c_229_118 (Nat.le_of_ble_eq_true rfl) rfl ?_
            refine w_iload c_229_120 rfl ?_
            refine z_push c_229_122 ?_
            refine z_ic_eq c_229_123 (by first | exact aRg_of _ | (unfold aRg; omega)) (by first | exact aRg_of _ | (unfold aRg; omega)) (fun h64_ => ?_) (fun h64_ => ?_)
            · exfalso; omega
            refine w_aload c_229_126 rfl ?_
            refine w_iload c_229_127 rfl ?_
            refine b_if_eq c_229_129 (fun _ => ?_) (fun h => Bool.noConfusion h)
            refine z_push c_229_137 ?_
            refine w_iload c_229_139 rfl ?_
            refine wc_219 c_229_141 sp_157 (Nat.le_of_ble_eq_true rfl) (by omega) ?_
            have hk41 : tkK T n (j + 1) = 40 := hsg1.mpr (by omega)
            refine t_qOpens hq (by omega) (by omega) rfl (by omega) (fun h6 => ?_) (fun h6 I2 hq2 hF2 => ?_)
            · refine r_v ?_
              refine w_aload c_229_144 rfl ?_
              refine z_push c_229_145 ?_
              refine wc_141 c_229_147 sp_157 (Nat.le_of_ble_eq_true rfl) (by omega) ?_
              refine tf_asksSign hB (by omega) (by omega) (by decide) (by unfold aRg; omega) ⟨hpr1, hen1⟩ ?_
              refine r_v ?_
              refine w_goto c_229_150 ?_
              refine w_goto c_229_183 ?_
              refine w_iload c_229_2 rfl ?_
              refine z_if_eq c_229_3 (by first | exact aRg_of _ | (unfold aRg; omega)) (fun h66_ => absurd h66_ (by decide)) (fun h66_ => ?_)
              have hrm : rm (tkK T n) (tkP T n) (tkZ T n) tk (1700 - j) 0 j U O op = (4, tkP T n (j + 1), j + 1, O, op) := by
                rw [rm_s hj7]
                simp only [rm]
                rw [if_neg hk40, if_neg (show ¬ tkK T n j = 330 by omega), if_pos hkk]
                rw [rm_s hj8]
                simp only [rm]
                rw [if_pos hk41, if_pos h6]
              rw [hrm] at kF
              exact tf_qPartTold_6 (by decide) (kF I _ _ _ (show (0 : Int) < 4 by decide) (show (4 : Int) < 10 by decide) ⟨_, hq.2.2.2.1, by omega, by omega⟩ frG.rf ⟨hpr1, hen1⟩)
            · refine r_v ?_
              refine w_aload c_229_144 rfl ?_
              refine z_push c_229_145 ?_
              refine wc_141 c_229_147 sp_157 (Nat.le_of_ble_eq_true rfl) (by omega) ?_
              refine tt_asksSign (hB.pq hF2) sgn40 (by omega) hA5 (fun _ a6 hA6 => ?_) (fun z => absurd hk41 z)
              refine r_v ?_
              refine w_goto c_229_150 ?_
              refine w_goto c_229_183 ?_
              refine w_iload c_229_2 rfl ?_
              refine z_if_eq c_229_3 (by first | exact aRg_of _ | (unfold aRg; omega)) (fun h67_ => absurd h67_ (by decide)) (fun h67_ => ?_)
              have hke1 : ¬ tkK T n (j + 1) = 341 := by omega
              have hup1 := tkS_up hn.1 hB.2.2.2 hup hke1
              have hrm : rm (tkK T n) (tkP T n) (tkZ T n) tk (1700 - j) 0 j U O op = rm (tkK T n) (tkP T n) (tkZ T n) tk (1700 - (j + 2)) 0 (j + 2) (22 :: U) O (op + 1) := by
                rw [rm_s hj7]
                simp only [rm]
                rw [if_neg hk40, if_neg (show ¬ tkK T n j = 330 by omega), if_pos hkk]
                rw [rm_s hj8]
                simp only [rm]
                rw [if_pos hk41, if_neg h6]
              exact ih (j + 2) (22 :: U) O (op + 1) a6 _ I2 _ _ _ _ (by omega) (hB.pq hF2) (hO.pq hF2) hA6 hq2 ((hi.nxt hup).push (by omega) (by omega) hup1) ((hF2 157 57 (by decide)).trans htk) (fun I3 j3 U3 O3 op3 a3 np3 z0 z1 z2 z3 z4 z5 => kG I3 j3 U3 O3 op3 a3 np3 (by omega) (hrm.trans z1) z2 z3 (hF2.tr z4) z5) (fun I3 a3 en3 np3 z1 z2 zc z3 z4 => by rw [hrm] at kF; exact kF I3 a3 en3 np3 z1 z2 zc (hF2.tr z3) z4)
      · refine w_aload c_229_67 rfl ?_
        refine w_aload c_229_68 rfl ?_
        refine w_getR c_229_69 sp_157 (by decide) rfl pr_157_84 ?_
        refine wc_137 c_229_72 sp_157 (Nat.le_of_ble_eq_true rfl) (by omega) ?_
        refine tt_isHereW hB hO (q := 219) (Or.inr ⟨by decide, by decide⟩) (by omega) hA2 ?_
        rw [wk_219]
        refine r_i ?_
        refine b_if_eq c_229_75 (fun h6_ => ?_) (fun h6_ => ?_)
        · refine w_iload c_229_153 rfl ?_
          refine z_push c_229_154 ?_
          refine z_ic_eq c_229_155 (by first | exact aRg_of _ | (unfold aRg; omega)) (by first | exact aRg_of _ | (unfold aRg; omega)) (fun h7_ => ?_) (fun h7_ => ?_)
          · refine z_push c_229_181 ?_
            refine w_istore c_229_182 (Nat.le_of_ble_eq_true rfl) rfl ?_
            refine w_goto c_229_183 ?_
            refine w_iload c_229_2 rfl ?_
            refine z_if_eq c_229_3 (by first | exact aRg_of _ | (unfold aRg; omega)) (fun h8_ => ?_) (fun h8_ => absurd (by decide) h8_)
            have hk40 : ¬ tkK T n j = 40 := fun z => absurd (hsg.mp z) (by omega)
            have hk330 : ¬ tkK T n j = 330 := of_decide_eq_false (by assumption)
            have hk331 : ¬ tkK T n j = 331 := of_decide_eq_false (by assumption)
            have hkby : ¬ (tkK T n j = 312 ∧ tk = 2) := by rcases hwb with z | z; exact z.2; exfalso; omega
            refine w_aload c_229_186 rfl ?_
            refine z_getZ c_229_187 sp_157 (by decide) rfl rfl ?_
            refine z_if_eq c_229_190 (by first | exact aRg_of _ | (unfold aRg; omega)) (fun h1_ => ?_) (fun h1_ => ?_)
            rotate_left
            · exfalso; omega
            rcases qWo_pt (tk := tk) (k := tkK T n j) with hp | hp
            · refine w_aload c_229_194 rfl ?_
              refine z_push c_229_195 ?_
              refine z_push c_229_196 ?_
              refine wc_226 c_229_198 sp_157 (Nat.le_of_ble_eq_true rfl) (by omega) ?_
              refine t_qWordOf hB hO hA2 htk htr (by omega) (by omega) (by omega) ?_
              refine r_i ?_
              refine w_istore c_229_201 (Nat.le_of_ble_eq_true rfl) rfl ?_
              refine w_iload c_229_202 rfl ?_
              refine z_push c_229_203 ?_
              refine z_ic_eq c_229_204 (by first | exact aRg_of _ | (unfold aRg; omega)) (by first | exact aRg_of _ | (unfold aRg; omega)) (fun h31_ => ?_) (fun h31_ => ?_)
              rotate_left
              · exfalso; omega
              refine w_aload c_229_212 rfl ?_
              refine w_iload c_229_213 rfl ?_
              refine z_push c_229_214 ?_
              refine z_ic_eq c_229_215 (by first | exact aRg_of _ | (unfold aRg; omega)) (by first | exact aRg_of _ | (unfold aRg; omega)) (fun h32_ => ?_) (fun h32_ => ?_)
              rotate_left
              · exfalso; omega
              refine z_push c_229_225 ?_
              refine w_aload c_229_228 rfl ?_
              refine z_push c_229_229 ?_
              refine z_push c_229_230 ?_
              refine wc_142 c_229_233 sp_157 (Nat.le_of_ble_eq_true rfl) (by omega) ?_
              refine tt_number hB (by omega) (by omega) (by omega) hA2 (fun hk39 => ?_) (fun hk39 hz a3 en3 hf3 => ?_) (fun hk39 hz hr a3 en3 hf3 => absurd hz hr) (fun hk39 hz hr a3 hA3 => ?_)
              · refine r_i ?_
                refine z_iadd c_229_236 ?_
                refine wc_218 c_229_237 sp_157 (Nat.le_of_ble_eq_true rfl) (by omega) ?_
                refine t_qCode hq (by omega) (fun I2 hq2 hF2 => ?_)
                refine r_v ?_
                refine w_aload c_229_240 rfl ?_
                refine wc_228 c_229_241 sp_157 (Nat.le_of_ble_eq_true rfl) (by omega) ?_
                refine tf_qEndsPart (by decide) ?_
                refine r_v ?_
                refine z_retv c_229_244 ?_
                have hrm : rm (tkK T n) (tkP T n) (tkZ T n) tk (1700 - j) 0 j U O op = (1, tkP T n j, j, O, op) := by
                  rw [rm_s hj7]
                  simp only [rm]
                  rw [if_neg hk40, if_neg hk330, if_neg hk331, if_neg hkby, if_neg (show ¬ ¬ qWo tk (tkK T n j) 0 11 = -1 by omega), if_neg hk39]
                rw [hrm] at kF
                exact kF I2 _ _ _ (show (0 : Int) < 1 by decide) (show (1 : Int) < 10 by decide) ⟨_, hq2.2.2.2.1, by omega, by rw [List.length_cons]; omega⟩ hF2 ⟨hpr, hen⟩
              · refine r_i ?_
                refine z_iadd c_229_236 ?_
                refine wc_218 c_229_237 sp_157 (Nat.le_of_ble_eq_true rfl) (by omega) ?_
                refine t_qCode hq (by omega) (fun I2 hq2 hF2 => ?_)
                refine r_v ?_
                refine w_aload c_229_240 rfl ?_
                refine wc_228 c_229_241 sp_157 (Nat.le_of_ble_eq_true rfl) (by omega) ?_
                refine tf_qEndsPart (by decide) ?_
                refine r_v ?_
                refine z_retv c_229_244 ?_
                have hrm : rm (tkK T n) (tkP T n) (tkZ T n) tk (1700 - j) 0 j U O op = (1, tkP T n j + 4, j, O, op) := by
                  rw [rm_s hj7]
                  simp only [rm]
                  rw [if_neg hk40, if_neg hk330, if_neg hk331, if_neg hkby, if_neg (show ¬ ¬ qWo tk (tkK T n j) 0 11 = -1 by omega), if_pos hk39, if_pos hz]
                rw [hrm] at kF
                exact kF I2 _ _ _ (show (0 : Int) < 1 by decide) (show (1 : Int) < 10 by decide) ⟨_, hq2.2.2.2.1, by omega, by rw [List.length_cons]; omega⟩ hF2 hf3
              · refine r_i ?_
                refine z_iadd c_229_236 ?_
                refine wc_218 c_229_237 sp_157 (Nat.le_of_ble_eq_true rfl) (by omega) ?_
                refine t_qCode hq (by omega) (fun I2 hq2 hF2 => ?_)
                refine r_v ?_
                refine w_aload c_229_240 rfl ?_
                refine wc_228 c_229_241 sp_157 (Nat.le_of_ble_eq_true rfl) (by omega) ?_
                have hke : ¬ tkK T n j = 341 := by omega
                have hup := tkS_up hn.1 hB.2.2.2 hi.2.2.2.2 hke
                have hi2 := hi.code (v := 1000 + tkZ T n j) hup
                have hl2 := hi2.2.1
                refine t_qEndsPart hq2 hi2.1 (by omega) (by omega) (fun I3 hq3 hF3 => ?_)
                refine r_v ?_
                refine z_retv c_229_244 ?_
                refine kG I3 (j + 1) _ _ _ a3 _ (Nat.lt_succ_self j) ?_ hq3 hi2.ep (hF2.tr hF3) hA3
                rw [rm_s hj7]
                simp only [rm]
                rw [if_neg hk40, if_neg hk330, if_neg hk331, if_neg hkby, if_neg (show ¬ ¬ qWo tk (tkK T n j) 0 11 = -1 by omega), if_pos hk39, if_neg (by omega)]
            · have hke : ¬ tkK T n j = 341 := fun z => by rw [z] at hp; exact absurd hp.2 (by have := hp.1; rw [show qWz 341 = -1 by decide]; omega)
              have hup := tkS_up hn.1 hB.2.2.2 hi.2.2.2.2 hke
              refine w_aload c_229_194 rfl ?_
              refine z_push c_229_195 ?_
              refine z_push c_229_196 ?_
              refine wc_226 c_229_198 sp_157 (Nat.le_of_ble_eq_true rfl) (by omega) ?_
              refine t_qWordOf hB hO hA2 htk htr (by omega) (by omega) (by omega) ?_
              refine r_i ?_
              refine w_istore c_229_201 (Nat.le_of_ble_eq_true rfl) rfl ?_
              refine w_iload c_229_202 rfl ?_
              refine z_push c_229_203 ?_
              refine z_ic_eq c_229_204 (by first | exact aRg_of _ | (unfold aRg; omega)) (by first | exact aRg_of _ | (unfold aRg; omega)) (fun h31_ => ?_) (fun h31_ => ?_)
              · exfalso; omega
              refine w_aload c_229_207 rfl ?_
              refine w_iload c_229_208 rfl ?_
              refine wc_227 c_229_209 sp_157 (Nat.le_of_ble_eq_true rfl) (by omega) ?_
              refine t_qAsksWord hB hO hA2 hp.2 (by omega) (by omega) (fun a3 hA3 => ?_)
              refine r_v ?_
              refine w_aload c_229_212 rfl ?_
              refine w_iload c_229_213 rfl ?_
              refine z_push c_229_214 ?_
              refine z_ic_eq c_229_215 (by first | exact aRg_of _ | (unfold aRg; omega)) (by first | exact aRg_of _ | (unfold aRg; omega)) (fun h32_ => ?_) (fun h32_ => ?_)
              · exfalso; omega
              refine z_push c_229_218 ?_
              refine w_iload c_229_220 rfl ?_
              refine z_iadd c_229_221 ?_
              refine w_goto c_229_222 ?_
              refine wc_218 c_229_237 sp_157 (Nat.le_of_ble_eq_true rfl) (by omega) ?_
              refine t_qCode hq (by omega) (fun I2 hq2 hF2 => ?_)
              refine r_v ?_
              refine w_aload c_229_240 rfl ?_
              refine wc_228 c_229_241 sp_157 (Nat.le_of_ble_eq_true rfl) (by omega) ?_
              have hi2 := hi.code (v := 40 + qWo tk (tkK T n j) 0 11) hup
              have hl2 := hi2.2.1
              refine t_qEndsPart hq2 hi2.1 (by omega) (by omega) (fun I3 hq3 hF3 => ?_)
              refine r_v ?_
              refine z_retv c_229_244 ?_
              refine kG I3 (j + 1) _ _ _ a3 _ (Nat.lt_succ_self j) ?_ hq3 hi2.ep (hF2.tr hF3) hA3
              rw [rm_s hj7]
              simp only [rm]
              rw [if_neg hk40, if_neg hk330, if_neg hk331, if_neg hkby, if_pos (show ¬ qWo tk (tkK T n j) 0 11 = -1 by omega)]
          · refine w_aload c_229_158 rfl ?_
            refine z_push c_229_159 ?_
            refine w_iload c_229_161 rfl ?_
            refine z_iadd c_229_162 ?_
            refine z_push c_229_163 ?_
            refine z_isub c_229_165 ?_
            refine w_aload c_229_166 rfl ?_
            refine z_getZ c_229_167 sp_157 (by decide) rfl rfl ?_
            refine wc_219 c_229_170 sp_157 (Nat.le_of_ble_eq_true rfl) (by omega) ?_
            have hby : qWo tk (tkK T n j) 11 12 = 11 ∧ tkK T n j = 312 ∧ tk = 2 := by rcases hwb with z | z; exfalso; omega; exact z
            have hke : ¬ tkK T n j = 341 := by omega
            have hup := tkS_up hn.1 hB.2.2.2 hi.2.2.2.2 hke
            rw [hby.1, show (60 : Int) + 11 - 11 = 60 from rfl]
            refine t_qOpens hq (by omega) (by omega) rfl (by omega) (fun h6 => ?_) (fun h6 I2 hq2 hF2 => ?_)
            · refine r_v ?_
              refine w_aload c_229_173 rfl ?_
              refine w_iload c_229_174 rfl ?_
              refine wc_227 c_229_175 sp_157 (Nat.le_of_ble_eq_true rfl) (by omega) ?_
              refine tf_qAsksWord hB hO ⟨hpr, hen⟩ (by omega) (by decide) (by omega) ?_
              refine r_v ?_
              refine w_goto c_229_178 ?_
              refine w_goto c_229_183 ?_
              refine w_iload c_229_2 rfl ?_
              refine z_if_eq c_229_3 (by first | exact aRg_of _ | (unfold aRg; omega)) (fun h9_ => absurd h9_ (by decide)) (fun h9_ => ?_)
              have hk40 : ¬ tkK T n j = 40 := by omega
              have hrm : rm (tkK T n) (tkP T n) (tkZ T n) tk (1700 - j) 0 j U O op = (4, tkP T n j, j, O, op) := by
                rw [rm_s hj7]
                simp only [rm]
                rw [if_neg hk40, if_neg (show ¬ tkK T n j = 330 by omega), if_neg (show ¬ tkK T n j = 331 by omega), if_pos hby.2, if_pos h6]
              rw [hrm] at kF
              exact tf_qPartTold_6 (by decide) (kF I _ _ _ (show (0 : Int) < 4 by decide) (show (4 : Int) < 10 by decide) ⟨_, hq.2.2.2.1, by omega, by omega⟩ frG.rf ⟨hpr, hen⟩)
            · refine r_v ?_
              refine w_aload c_229_173 rfl ?_
              refine w_iload c_229_174 rfl ?_
              refine wc_227 c_229_175 sp_157 (Nat.le_of_ble_eq_true rfl) (by omega) ?_
              have hwb2 : qWz (tkK T n j) = 11 := by rw [hby.2.1]; decide
              refine t_qAsksWord (hB.pq hF2) (hO.pq hF2) hA2 hwb2 (by omega) (by omega) (fun a3 hA3 => ?_)
              refine r_v ?_
              refine w_goto c_229_178 ?_
              refine w_goto c_229_183 ?_
              refine w_iload c_229_2 rfl ?_
              refine z_if_eq c_229_3 (by first | exact aRg_of _ | (unfold aRg; omega)) (fun h10_ => absurd h10_ (by decide)) (fun h10_ => ?_)
              have hk40 : ¬ tkK T n j = 40 := by omega
              have hrm : rm (tkK T n) (tkP T n) (tkZ T n) tk (1700 - j) 0 j U O op = rm (tkK T n) (tkP T n) (tkZ T n) tk (1700 - (j + 1)) 0 (j + 1) (60 :: U) O (op + 1) := by
                rw [rm_s hj7]
                simp only [rm]
                rw [if_neg hk40, if_neg (show ¬ tkK T n j = 330 by omega), if_neg (show ¬ tkK T n j = 331 by omega), if_pos hby.2, if_neg h6]
              exact ih (j + 1) (60 :: U) O (op + 1) a3 _ I2 _ _ _ _ (by omega) (hB.pq hF2) (hO.pq hF2) hA3 hq2 (hi.push (by omega) (by omega) hup) ((hF2 157 57 (by decide)).trans htk) (fun I3 j3 U3 O3 op3 a3 np3 z0 z1 z2 z3 z4 z5 => kG I3 j3 U3 O3 op3 a3 np3 (by omega) (hrm.trans z1) z2 z3 (hF2.tr z4) z5) (fun I3 a3 en3 np3 z1 z2 zc z3 z4 => by rw [hrm] at kF; exact kF I3 a3 en3 np3 z1 z2 zc (hF2.tr z3) z4)
        · refine w_aload c_229_78 rfl ?_
          refine w_aload c_229_79 rfl ?_
          refine w_getR c_229_80 sp_157 (by decide) rfl pr_157_83 ?_
          refine wc_138 c_229_83 sp_157 (Nat.le_of_ble_eq_true rfl) (by omega) ?_
          have hmm : tkK T n j = 330 ∨ tkK T n j = 331 := by first | exact Or.inl (of_decide_eq_true h3_) | exact Or.inr (of_decide_eq_true (by assumption))
          have hke : ¬ tkK T n j = 341 := by omega
          have hup := tkS_up hn.1 hB.2.2.2 hi.2.2.2.2 hke
          refine tt_takesW hB hO (q := 218) (Or.inr ⟨by decide, by decide⟩) (by omega) hA2 (fun hkm a4 hA4 => ?_) (fun hkm => ?_)
          · refine r_i ?_
            refine w_istore c_229_86 (Nat.le_of_ble_eq_true rfl) rfl ?_
            refine w_iload c_229_88 rfl ?_
            refine b_if_ne c_229_90 (fun _ => ?_) (fun h => Bool.noConfusion h)
            have hkk : tkK T n j = 330 := hkm.trans wk_218
            have hk40 : ¬ tkK T n j = 40 := by omega
            have hj1 := (hi.nxt hup).jb hn
            have hj8 : j + 1 < 1700 := by omega
            have hpr1 := tkP_rg (T := T) (n := n) (j := j + 1) hn.1
            have hen1 := en_rg (T := T) (n := n) (j := j + 1) hn
            have hA5 := rA_p (T := T) (n := n) (j := j + 1) hn.1
            have hsg1 := tkK_sign hB.2.2.2 (T := T) (n := n) (j := j + 1) (c := 40) (by omega) (by omega) (by omega)
            have hlk1 : -1 ≤ lkc T n (tkP T n (j + 1)) ∧ lkc T n (tkP T n (j + 1)) < 256 := by have := hB.2.2.2 (tkP T n (j + 1)); unfold lkc; split <;> omega
            refine w_aload c_229_101 rfl ?_
            refine wc_136 c_229_102 sp_157 (Nat.le_of_ble_eq_true rfl) (by omega) ?_
            refine tt_look hB hA4 ?_
            refine r_i ?_
            refine z_push c_229_105 ?_
            refine z_ic_ne c_229_107 (by first | exact aRg_of _ | (unfold aRg; omega)) (by first | exact aRg_of _ | (unfold aRg; omega)) (fun h61_ => ?_) (fun h61_ => ?_)
            · refine z_push c_229_117 ?_
              refine w_istore c_229_118 (Nat.le_of_ble_eq_true rfl) rfl ?_
              refine w_iload c_229_120 rfl ?_
              refine z_push c_229_122 ?_
              refine z_ic_eq c_229_123 (by first | exact aRg_of _ | (unfold aRg; omega)) (by first | exact aRg_of _ | (unfold aRg; omega)) (fun _ => ?_) (fun h => absurd h (by decide))
              refine w_aload c_229_144 rfl ?_
              refine z_push c_229_145 ?_
              refine wc_141 c_229_147 sp_157 (Nat.le_of_ble_eq_true rfl) (by omega) ?_
              have hk41 : ¬ tkK T n (j + 1) = 40 := fun z => absurd (hsg1.mp z) (by omega)
              refine tt_asksSign hB sgn40 (by omega) hA5 (fun z => absurd z hk41) (fun _ => ?_)
              refine r_v ?_
              refine w_goto c_229_150 ?_
              refine w_goto c_229_183 ?_
              refine w_iload c_229_2 rfl ?_
              refine z_if_eq c_229_3 (by first | exact aRg_of _ | (unfold aRg; omega)) (fun h63_ => absurd h63_ (by decide)) (fun h63_ => ?_)
              have hrm : rm (tkK T n) (tkP T n) (tkZ T n) tk (1700 - j) 0 j U O op = (1, tkP T n (j + 1), j + 1, O, op) := by
                rw [rm_s hj7]
                simp only [rm]
                rw [if_neg hk40, if_pos hkk]
                rw [rm_s hj8]
                simp only [rm]
                rw [if_neg hk41]
              rw [hrm] at kF
              exact tf_qPartTold_6 (by decide) (kF I _ _ _ (show (0 : Int) < 1 by decide) (show (1 : Int) < 10 by decide) ⟨_, hq.2.2.2.1, by omega, by omega⟩ frG.rf ⟨hpr1, hen1⟩)
            · refine w_aload c_229_110 rfl ?_
              refine z_getZ c_229_111 sp_157 (by decide) rfl rfl ?_
              refine w_goto c_229_114 ?_
              refine w_istore c_229_118 (Nat.le_of_ble_eq_true rfl) rfl ?_
              refine w_iload c_229_120 rfl ?_
              refine z_push c_229_122 ?_
              refine z_ic_eq c_229_123 (by first | exact aRg_of _ | (unfold aRg; omega)) (by first | exact aRg_of _ | (unfold aRg; omega)) (fun h64_ => ?_) (fun h64_ => ?_)
              · exfalso; omega
              refine w_aload c_229_126 rfl ?_
              refine w_iload c_229_127 rfl ?_
              refine b_if_eq c_229_129 (fun h => Bool.noConfusion h) (fun _ => ?_)
              refine z_push c_229_132 ?_
              refine w_goto c_229_134 ?_
              refine w_iload c_229_139 rfl ?_
              refine wc_219 c_229_141 sp_157 (Nat.le_of_ble_eq_true rfl) (by omega) ?_
              have hk41 : tkK T n (j + 1) = 40 := hsg1.mpr (by omega)
              refine t_qOpens hq (by omega) (by omega) rfl (by omega) (fun h6 => ?_) (fun h6 I2 hq2 hF2 => ?_)
              · refine r_v ?_
                refine w_aload c_229_144 rfl ?_
                refine z_push c_229_145 ?_
                refine wc_141 c_229_147 sp_157 (Nat.le_of_ble_eq_true rfl) (by omega) ?_
                refine tf_asksSign hB (by omega) (by omega) (by decide) (by unfold aRg; omega) ⟨hpr1, hen1⟩ ?_
                refine r_v ?_
                refine w_goto c_229_150 ?_
                refine w_goto c_229_183 ?_
                refine w_iload c_229_2 rfl ?_
                refine z_if_eq c_229_3 (by first | exact aRg_of _ | (unfold aRg; omega)) (fun h66_ => absurd h66_ (by decide)) (fun h66_ => ?_)
                have hrm : rm (tkK T n) (tkP T n) (tkZ T n) tk (1700 - j) 0 j U O op = (4, tkP T n (j + 1), j + 1, O, op) := by
                  rw [rm_s hj7]
                  simp only [rm]
                  rw [if_neg hk40, if_pos hkk]
                  rw [rm_s hj8]
                  simp only [rm]
                  rw [if_pos hk41, if_pos h6]
                rw [hrm] at kF
                exact tf_qPartTold_6 (by decide) (kF I _ _ _ (show (0 : Int) < 4 by decide) (show (4 : Int) < 10 by decide) ⟨_, hq.2.2.2.1, by omega, by omega⟩ frG.rf ⟨hpr1, hen1⟩)
              · refine r_v ?_
                refine w_aload c_229_144 rfl ?_
                refine z_push c_229_145 ?_
                refine wc_141 c_229_147 sp_157 (Nat.le_of_ble_eq_true rfl) (by omega) ?_
                refine tt_asksSign (hB.pq hF2) sgn40 (by omega) hA5 (fun _ a6 hA6 => ?_) (fun z => absurd hk41 z)
                refine r_v ?_
                refine w_goto c_229_150 ?_
                refine w_goto c_229_183 ?_
                refine w_iload c_229_2 rfl ?_
                refine z_if_eq c_229_3 (by first | exact aRg_of _ | (unfold aRg; omega)) (fun h67_ => absurd h67_ (by decide)) (fun h67_ => ?_)
                have hke1 : ¬ tkK T n (j + 1) = 341 := by omega
                have hup1 := tkS_up hn.1 hB.2.2.2 hup hke1
                have hrm : rm (tkK T n) (tkP T n) (tkZ T n) tk (1700 - j) 0 j U O op = rm (tkK T n) (tkP T n) (tkZ T n) tk (1700 - (j + 2)) 0 (j + 2) (21 :: U) O (op + 1) := by
                  rw [rm_s hj7]
                  simp only [rm]
                  rw [if_neg hk40, if_pos hkk]
                  rw [rm_s hj8]
                  simp only [rm]
                  rw [if_pos hk41, if_neg h6]
                exact ih (j + 2) (21 :: U) O (op + 1) a6 _ I2 _ _ _ _ (by omega) (hB.pq hF2) (hO.pq hF2) hA6 hq2 ((hi.nxt hup).push (by omega) (by omega) hup1) ((hF2 157 57 (by decide)).trans htk) (fun I3 j3 U3 O3 op3 a3 np3 z0 z1 z2 z3 z4 z5 => kG I3 j3 U3 O3 op3 a3 np3 (by omega) (hrm.trans z1) z2 z3 (hF2.tr z4) z5) (fun I3 a3 en3 np3 z1 z2 zc z3 z4 => by rw [hrm] at kF; exact kF I3 a3 en3 np3 z1 z2 zc (hF2.tr z3) z4)
          · refine r_i ?_
            refine w_istore c_229_86 (Nat.le_of_ble_eq_true rfl) rfl ?_
            refine w_iload c_229_88 rfl ?_
            refine b_if_ne c_229_90 (fun h => Bool.noConfusion h) (fun _ => ?_)
            refine w_aload c_229_93 rfl ?_
            refine w_aload c_229_94 rfl ?_
            refine w_getR c_229_95 sp_157 (by decide) rfl pr_157_84 ?_
            refine wc_139 c_229_98 sp_157 (Nat.le_of_ble_eq_true rfl) (by omega) ?_
            have hk331 : tkK T n j = 331 := by rcases hmm with z | z; exact absurd (z.trans wk_218.symm) hkm; exact z
            refine tt_asksW hB hO (q := 219) (Or.inr ⟨by decide, by decide⟩) (by omega) hA2 (fun hkx a4 hA4 => ?_) (fun z => absurd (hk331.trans wk_219.symm) z)
            refine r_v ?_
            have hkk : tkK T n j = 331 := hk331
            have hk40 : ¬ tkK T n j = 40 := by omega
            have hj1 := (hi.nxt hup).jb hn
            have hj8 : j + 1 < 1700 := by omega
            have hpr1 := tkP_rg (T := T) (n := n) (j := j + 1) hn.1
            have hen1 := en_rg (T := T) (n := n) (j := j + 1) hn
            have hA5 := rA_p (T := T) (n := n) (j := j + 1) hn.1
            have hsg1 := tkK_sign hB.2.2.2 (T := T) (n := n) (j := j + 1) (c := 40) (by omega) (by omega) (by omega)
            have hlk1 : -1 ≤ lkc T n (tkP T n (j + 1)) ∧ lkc T n (tkP T n (j + 1)) < 256 := by have := hB.2.2.2 (tkP T n (j + 1)); unfold lkc; split <;> omega
            refine w_aload c_229_101 rfl ?_
            refine wc_136 c_229_102 sp_157 (Nat.le_of_ble_eq_true rfl) (by omega) ?_
            refine tt_look hB hA4 ?_
            refine r_i ?_
            refine z_push c_229_105 ?_
            refine z_ic_ne c_229_107 (by first | exact aRg_of _ | (unfold aRg; omega)) (by first | exact aRg_of _ | (unfold aRg; omega)) (fun h61_ => ?_) (fun h61_ => ?_)
            · refine z_push c_229_117 ?_
              refine w_istore c_229_118 (Nat.le_of_ble_eq_true rfl) rfl ?_
              refine w_iload c_229_120 rfl ?_
              refine z_push c_229_122 ?_
              refine z_ic_eq c_229_123 (by first | exact aRg_of _ | (unfold aRg; omega)) (by first | exact aRg_of _ | (unfold aRg; omega)) (fun _ => ?_) (fun h => absurd h (by decide))
              refine w_aload c_229_144 rfl ?_
              refine z_push c_229_145 ?_
              refine wc_141 c_229_147 sp_157 (Nat.le_of_ble_eq_true rfl) (by omega) ?_
              have hk41 : ¬ tkK T n (j + 1) = 40 := fun z => absurd (hsg1.mp z) (by omega)
              refine tt_asksSign hB sgn40 (by omega) hA5 (fun z => absurd z hk41) (fun _ => ?_)
              refine r_v ?_
              refine w_goto c_229_150 ?_
              refine w_goto c_229_183 ?_
              refine w_iload c_229_2 rfl ?_
              refine z_if_eq c_229_3 (by first | exact aRg_of _ | (unfold aRg; omega)) (fun h63_ => absurd h63_ (by decide)) (fun h63_ => ?_)
              have hrm : rm (tkK T n) (tkP T n) (tkZ T n) tk (1700 - j) 0 j U O op = (1, tkP T n (j + 1), j + 1, O, op) := by
                rw [rm_s hj7]
                simp only [rm]
                rw [if_neg hk40, if_neg (show ¬ tkK T n j = 330 by omega), if_pos hkk]
                rw [rm_s hj8]
                simp only [rm]
                rw [if_neg hk41]
              rw [hrm] at kF
              exact tf_qPartTold_6 (by decide) (kF I _ _ _ (show (0 : Int) < 1 by decide) (show (1 : Int) < 10 by decide) ⟨_, hq.2.2.2.1, by omega, by omega⟩ frG.rf ⟨hpr1, hen1⟩)
            · refine w_aload c_229_110 rfl ?_
              refine z_getZ c_229_111 sp_157 (by decide) rfl rfl ?_
              refine w_goto c_229_114 ?_
              refine w_istore c_229_118 (Nat.le_of_ble_eq_true rfl) rfl ?_
              refine w_iload c_229_120 rfl ?_
              refine z_push c_229_122 ?_
              refine z_ic_eq c_229_123 (by first | exact aRg_of _ | (unfold aRg; omega)) (by first | exact aRg_of _ | (unfold aRg; omega)) (fun h64_ => ?_) (fun h64_ => ?_)
              · exfalso; omega
              refine w_aload c_229_126 rfl ?_
              refine w_iload c_229_127 rfl ?_
              refine b_if_eq c_229_129 (fun _ => ?_) (fun h => Bool.noConfusion h)
              refine z_push c_229_137 ?_
              refine w_iload c_229_139 rfl ?_
              refine wc_219 c_229_141 sp_157 (Nat.le_of_ble_eq_true rfl) (by omega) ?_
              have hk41 : tkK T n (j + 1) = 40 := hsg1.mpr (by omega)
              refine t_qOpens hq (by omega) (by omega) rfl (by omega) (fun h6 => ?_) (fun h6 I2 hq2 hF2 => ?_)
              · refine r_v ?_
                refine w_aload c_229_144 rfl ?_
                refine z_push c_229_145 ?_
                refine wc_141 c_229_147 sp_157 (Nat.le_of_ble_eq_true rfl) (by omega) ?_
                refine tf_asksSign hB (by omega) (by omega) (by decide) (by unfold aRg; omega) ⟨hpr1, hen1⟩ ?_
                refine r_v ?_
                refine w_goto c_229_150 ?_
                refine w_goto c_229_183 ?_
                refine w_iload c_229_2 rfl ?_
                refine z_if_eq c_229_3 (by first | exact aRg_of _ | (unfold aRg; omega)) (fun h66_ => absurd h66_ (by decide)) (fun h66_ => ?_)
                have hrm : rm (tkK T n) (tkP T n) (tkZ T n) tk (1700 - j) 0 j U O op = (4, tkP T n (j + 1), j + 1, O, op) := by
                  rw [rm_s hj7]
                  simp only [rm]
                  rw [if_neg hk40, if_neg (show ¬ tkK T n j = 330 by omega), if_pos hkk]
                  rw [rm_s hj8]
                  simp only [rm]
                  rw [if_pos hk41, if_pos h6]
                rw [hrm] at kF
                exact tf_qPartTold_6 (by decide) (kF I _ _ _ (show (0 : Int) < 4 by decide) (show (4 : Int) < 10 by decide) ⟨_, hq.2.2.2.1, by omega, by omega⟩ frG.rf ⟨hpr1, hen1⟩)
              · refine r_v ?_
                refine w_aload c_229_144 rfl ?_
                refine z_push c_229_145 ?_
                refine wc_141 c_229_147 sp_157 (Nat.le_of_ble_eq_true rfl) (by omega) ?_
                refine tt_asksSign (hB.pq hF2) sgn40 (by omega) hA5 (fun _ a6 hA6 => ?_) (fun z => absurd hk41 z)
                refine r_v ?_
                refine w_goto c_229_150 ?_
                refine w_goto c_229_183 ?_
                refine w_iload c_229_2 rfl ?_
                refine z_if_eq c_229_3 (by first | exact aRg_of _ | (unfold aRg; omega)) (fun h67_ => absurd h67_ (by decide)) (fun h67_ => ?_)
                have hke1 : ¬ tkK T n (j + 1) = 341 := by omega
                have hup1 := tkS_up hn.1 hB.2.2.2 hup hke1
                have hrm : rm (tkK T n) (tkP T n) (tkZ T n) tk (1700 - j) 0 j U O op = rm (tkK T n) (tkP T n) (tkZ T n) tk (1700 - (j + 2)) 0 (j + 2) (22 :: U) O (op + 1) := by
                  rw [rm_s hj7]
                  simp only [rm]
                  rw [if_neg hk40, if_neg (show ¬ tkK T n j = 330 by omega), if_pos hkk]
                  rw [rm_s hj8]
                  simp only [rm]
                  rw [if_pos hk41, if_neg h6]
                exact ih (j + 2) (22 :: U) O (op + 1) a6 _ I2 _ _ _ _ (by omega) (hB.pq hF2) (hO.pq hF2) hA6 hq2 ((hi.nxt hup).push (by omega) (by omega) hup1) ((hF2 157 57 (by decide)).trans htk) (fun I3 j3 U3 O3 op3 a3 np3 z0 z1 z2 z3 z4 z5 => kG I3 j3 U3 O3 op3 a3 np3 (by omega) (hrm.trans z1) z2 z3 (hF2.tr z4) z5) (fun I3 a3 en3 np3 z1 z2 zc z3 z4 => by rw [hrm] at kF; exact kF I3 a3 en3 np3 z1 z2 zc (hF2.tr z3) z4)
    · refine w_aload c_229_33 rfl ?_
      refine z_push c_229_34 ?_
      refine w_aload c_229_36 rfl ?_
      refine z_getZ c_229_37 sp_157 (by decide) rfl rfl ?_
      refine wc_219 c_229_40 sp_157 (Nat.le_of_ble_eq_true rfl) (by omega) ?_
      have hk40 : tkK T n j = 40 := hsg.mpr (by omega)
      have hke : ¬ tkK T n j = 341 := by omega
      have hup := tkS_up hn.1 hB.2.2.2 hi.2.2.2.2 hke
      refine t_qOpens hq (by omega) (by omega) rfl (by omega) (fun h6 => ?_) (fun h6 I2 hq2 hF2 => ?_)
      · refine r_v ?_
        refine w_aload c_229_43 rfl ?_
        refine w_dup c_229_44 rfl ?_
        refine z_getZ c_229_45 sp_157 (by decide) rfl rfl ?_
        refine z_push c_229_48 ?_
        refine z_iadd c_229_49 ?_
        refine z_putZ c_229_50 sp_157 (by decide) rfl ?_
        rw [oP_at]
        refine w_goto c_229_53 ?_
        refine w_goto c_229_183 ?_
        refine w_iload c_229_2 rfl ?_
        refine z_if_eq c_229_3 (by first | exact aRg_of _ | (unfold aRg; omega)) (fun h13_ => absurd h13_ (by decide)) (fun h13_ => ?_)
        have hrm : rm (tkK T n) (tkP T n) (tkZ T n) tk (1700 - j) 0 j U O op = (4, tkP T n j, j, O, op) := by
          rw [rm_s hj7]
          simp only [rm]
          rw [if_pos hk40, if_pos h6]
        rw [hrm] at kF
        have hlt := lkc_lt (hsg.mp hk40) (by decide)
        exact tf_qPartTold_6 (by decide) (kF I _ _ _ (show (0 : Int) < 4 by decide) (show (4 : Int) < 10 by decide) ⟨_, hq.2.2.2.1, by omega, by omega⟩ frG.rf ⟨⟨by omega, by omega⟩, hen⟩)
      · refine r_v ?_
        refine w_aload c_229_43 rfl ?_
        refine w_dup c_229_44 rfl ?_
        refine z_getZ c_229_45 sp_157 (by decide) rfl rfl ?_
        refine z_push c_229_48 ?_
        refine z_iadd c_229_49 ?_
        refine z_putZ c_229_50 sp_157 (by decide) rfl ?_
        rw [oP_at]
        refine w_goto c_229_53 ?_
        refine w_goto c_229_183 ?_
        refine w_iload c_229_2 rfl ?_
        refine z_if_eq c_229_3 (by first | exact aRg_of _ | (unfold aRg; omega)) (fun h14_ => absurd h14_ (by decide)) (fun h14_ => ?_)
        have hrm : rm (tkK T n) (tkP T n) (tkZ T n) tk (1700 - j) 0 j U O op = rm (tkK T n) (tkP T n) (tkZ T n) tk (1700 - (j + 1)) 0 (j + 1) (20 :: U) O (op + 1) := by
          rw [rm_s hj7]
          simp only [rm]
          rw [if_pos hk40, if_neg h6]
        have hx := rA_sign (b := 0) (bp := bp) (np := np) (nm := nm) (hB.pq hF2) sgn40 hk40
        rw [hx.1]
        exact ih (j + 1) (20 :: U) O (op + 1) _ _ I2 _ _ _ _ (by omega) (hB.pq hF2) (hO.pq hF2) hx.2 hq2 (hi.push (by omega) (by omega) hup) ((hF2 157 57 (by decide)).trans htk) (fun I3 j3 U3 O3 op3 a3 np3 z0 z1 z2 z3 z4 z5 => kG I3 j3 U3 O3 op3 a3 np3 (by omega) (hrm.trans z1) z2 z3 (hF2.tr z4) z5) (fun I3 a3 en3 np3 z1 z2 zc z3 z4 => by rw [hrm] at kF; exact kF I3 a3 en3 np3 z1 z2 zc (hF2.tr z3) z4)

set_option maxHeartbeats 1000000 in
theorem t_qPartTold {d : Nat} {I : aFI} {L : aFL} {Q : aPo} {T : Int → Int} {n : Int} {sh : Nat} {su : Option Nat} {j : Nat} {a bp np nm : Int} {sl : Nat} {tk : Int} {B U O : List Int} {op : Int} (htr : 0 ≤ tk ∧ tk < 3) (hd : 7 ≤ d) (hB : oB I T n) (hO : oW I) (hA : rA T n j a) (hq : qS I (U ++ B) O op B.length) (hi : qI T n sl B U O op j) (htk : I 157 57 = iI tk) (kG : ∀ (I2 : aFI) (j2 : Nat) (U2 O2 : List Int) (op2 a2 np2 : Int), j < j2 → rm (tkK T n) (tkP T n) (tkZ T n) tk (1700 - j) 0 j U O op = rm (tkK T n) (tkP T n) (tkZ T n) tk (1700 - j2) 2 j2 U2 O2 op2 → qS I2 (U2 ++ B) O2 op2 B.length → qI T n sl B U2 O2 op2 j2 → frG PQn I I2 → rA T n j2 a2 → Q none (oT I2 T n j2 a2 0 bp np2 nm) L (aR sh su)) (kF : ∀ (I2 : aFI) (a2 en2 np2 : Int), 0 < (rm (tkK T n) (tkP T n) (tkZ T n) tk (1700 - j) 0 j U O op).1 → (rm (tkK T n) (tkP T n) (tkZ T n) tk (1700 - j) 0 j U O op).1 < 10 → (∃ c : Int, I2 157 98 = iI c ∧ 0 ≤ c ∧ c < 1690) → frG PQn I I2 → aF n a2 en2 → Q none (oP I2 a2 en2 (rm (tkK T n) (tkP T n) (tkZ T n) tk (1700 - j) 0 j U O op).1 (rm (tkK T n) (tkP T n) (tkZ T n) tk (1700 - j) 0 j U O op).2.1 np2 nm) L (aR sh su)) : aWp none d 229 0 [.ref 157, .null, .null, .null, .null, .null] [] (oT I T n j a 0 bp np nm) L (aR sh su) Q := by
  refine z_push c_229_0 ?_
  refine w_istore c_229_1 (Nat.le_of_ble_eq_true rfl) rfl ?_
  refine w_iload c_229_2 rfl ?_
  refine z_if_eq c_229_3 (by first | exact aRg_of _ | (unfold aRg; omega)) (fun h1_ => absurd h1_ (by decide)) (fun h1_ => ?_)
  exact t_qPartTold_1 htr hd _ j U O op a np I _ _ _ _ (Nat.lt_succ_self _) hB hO hA hq hi htk kG kF

