/-! the reference: its words (m5.py) -/
def WLs : List (List Int) := [[108, 97, 107, 101], [104, 97, 115], [98, 108, 97, 99, 107], [104, 111, 108, 100, 115], [98, 114, 111, 111, 107], [103, 105, 118, 101, 115], [118, 105, 108, 108, 97, 103, 101], [109, 105, 108, 101, 115], [100, 101, 101, 100], [111, 102], [110, 101, 101, 100, 115], [119, 111, 114, 116, 104], [98, 121], [100, 114, 97, 119, 115], [102, 97, 100, 101, 115], [109, 97, 121], [100, 114, 105, 101, 115], [114, 101, 97, 100, 115], [100, 114, 111, 117, 103, 104, 116], [115, 101, 97, 115, 111, 110], [108, 101, 118, 101, 108], [100, 97, 114, 107], [105, 110, 107], [97, 103, 101], [110, 117, 109, 98, 101, 114], [116, 101, 114, 109], [111, 114], [97, 110, 100], [110, 111, 116], [97, 108, 108], [109, 105, 110], [109, 97, 120], [], [], [], [], [], [], [], [], [], [], [], [], [], [], [], [], [102, 105, 114, 115, 116], [108, 97, 115, 116], [111, 102, 116, 101, 110], [116, 111, 116, 97, 108], [109, 111, 115, 116], [108, 101, 97, 115, 116], [110, 111, 116], [97, 110, 100], [111, 114], [97, 108, 108], [109, 105, 110], [109, 97, 120], [110, 101, 101, 100, 115], [119, 111, 114, 116, 104], [109, 105, 108, 101, 115], [115, 101, 97, 115, 111, 110], [108, 101, 118, 101, 108], [100, 97, 114, 107], [105, 110, 107], [97, 103, 101], [110, 117, 109, 98, 101, 114], [116, 101, 114, 109], [100, 114, 97, 119, 115], [98, 121]]
def WL (q : Nat) : List Int := (WLs[q - 160]?).getD []
def Wf (q : Nat) (j : Int) : Int := ((WL q)[j.toNat]?).getD 0
def isWd (q : Nat) : Prop := (160 ≤ q ∧ q ≤ 191) ∨ (208 ≤ q ∧ q ≤ 231)
theorem WL_ok : (List.range 72).all (fun k => (WL (160 + k)).length = 0 || (decide (S0[160 + k]? = some (some .char, (WL (160 + k)).length)) && decide ((WL (160 + k)).length < 100) && (WL (160 + k)).all (fun c => decide (0 ≤ c ∧ c < 256)))) = true := by decide +kernel
theorem WL_len : (List.range 72).all (fun k => (decide (k ≤ 31) || decide (48 ≤ k)) == decide (0 < (WL (160 + k)).length)) = true := by decide +kernel
theorem WL_sp {q : Nat} (h : isWd q) : S0[q]? = some (some .char, (WL q).length) ∧ (WL q).length < 100 ∧ 0 < (WL q).length := by
  obtain ⟨k, hk, rfl⟩ : ∃ k, k < 72 ∧ q = 160 + k := ⟨q - 160, by unfold isWd at h; omega, by unfold isWd at h; omega⟩
  have h1 := List.all_eq_true.mp WL_ok k (List.mem_range.mpr hk)
  have h2 := List.all_eq_true.mp WL_len k (List.mem_range.mpr hk)
  have h3 : 0 < (WL (160 + k)).length := by
    have : (decide (k ≤ 31) || decide (48 ≤ k)) = true := by
      simp only [Bool.or_eq_true, decide_eq_true_eq]; unfold isWd at h; omega
    rw [this] at h2
    simpa using h2
  simp only [Bool.or_eq_true, Bool.and_eq_true, decide_eq_true_eq] at h1
  rcases h1 with h1 | h1
  · omega
  · exact ⟨h1.1.1, h1.1.2, h3⟩
theorem Wf_rg (q : Nat) (j : Int) : 0 ≤ Wf q j ∧ Wf q j < 256 := by
  unfold Wf
  cases hj : (WL q)[j.toNat]? with
  | none => simp
  | some c =>
    have hm := List.mem_of_getElem? hj
    by_cases hq : q - 160 < 72
    · have h1 := List.all_eq_true.mp WL_ok (q - 160) (List.mem_range.mpr hq)
      have e : WL (160 + (q - 160)) = WL q := by
        unfold WL; rw [show 160 + (q - 160) - 160 = q - 160 by omega]
      rw [e] at h1
      simp only [Bool.or_eq_true, Bool.and_eq_true, decide_eq_true_eq] at h1
      rcases h1 with h1 | h1
      · rw [List.length_eq_zero_iff.mp h1] at hm; cases hm
      · have := of_decide_eq_true (List.all_eq_true.mp h1.2 c hm)
        exact this
    · have : WL q = [] := by
        unfold WL
        rw [List.getElem?_eq_none (by show WLs.length ≤ q - 160; have : WLs.length = 72 := rfl; omega)]
        rfl
      rw [this] at hm; cases hm
/-- the words stand in their cells -/
def oW (I : aFI) : Prop := ∀ q : Nat, isWd q → ∀ j : Int, 0 ≤ j → j < (WL q).length → I q j.toNat = iI (Wf q j)
def atW (T : Int → Int) (e en p : Int) (q : Nat) : Bool := hereB T e en p (WL q).length (Wf q)
theorem t_isHereW {d : Nat} {I : aFI} {L : aFL} {Q : aPo} {T : Int → Int} {e a en b bp np nm : Int} {sh : Nat} {su : Option Nat} (hB : oB I T e) (hO : oW I) {q : Nat} (hq : isWd q) (hd : 2 ≤ d) (h0 : 0 ≤ a) (h1 : a ≤ e) (hb : aRg b) (hen : aRg en) (kb : ¬ b = 0 → Q (some (.int (aBo false))) (oP I a en b bp np nm) L (aR sh su)) (k0 : b = 0 → Q (some (.int (aBo (atW T e en (skip T e a) q)))) (oP I (skip T e a) en b bp np nm) L (aR sh su)) : aWp none d 137 0 [.ref 157, .ref q, .null, .null] [] (oP I a en b bp np nm) L (aR sh su) Q := t_isHere hB hd h0 h1 hb hen (WL_sp hq).1 (WL_sp hq).2.1 (hO q hq) (fun j => by have := Wf_rg q j; unfold aRg; omega) (by unfold isWd at hq; omega) kb k0
theorem t_takesW {d : Nat} {I : aFI} {L : aFL} {Q : aPo} {T : Int → Int} {e a en b bp np nm : Int} {sh : Nat} {su : Option Nat} (hB : oB I T e) (hO : oW I) {q : Nat} (hq : isWd q) (hd : 3 ≤ d) (h0 : 0 ≤ a) (h1 : a ≤ e) (hb : aRg b) (hen : aRg en) (kb : ¬ b = 0 → Q (some (.int (aBo false))) (oP I a en b bp np nm) L (aR sh su)) (kt : b = 0 → atW T e en (skip T e a) q = true → Q (some (.int (aBo true))) (oP I (skip T e a + (WL q).length) (skip T e a + (WL q).length) b bp np nm) L (aR sh su)) (kf : b = 0 → atW T e en (skip T e a) q = false → Q (some (.int (aBo false))) (oP I (skip T e a) en b bp np nm) L (aR sh su)) : aWp none d 138 0 [.ref 157, .ref q] [] (oP I a en b bp np nm) L (aR sh su) Q := t_takes hB hd h0 h1 hb hen (WL_sp hq).1 (WL_sp hq).2.1 (hO q hq) (fun j => by have := Wf_rg q j; unfold aRg; omega) (by unfold isWd at hq; omega) kb kt kf
theorem t_asksW {d : Nat} {I : aFI} {L : aFL} {Q : aPo} {T : Int → Int} {e a en b bp np nm : Int} {sh : Nat} {su : Option Nat} (hB : oB I T e) (hO : oW I) {q : Nat} (hq : isWd q) (hd : 4 ≤ d) (h0 : 0 ≤ a) (h1 : a ≤ e) (hb : aRg b) (hen : aRg en) (kb : ¬ b = 0 → Q none (oP I a en b bp np nm) L (aR sh su)) (kt : b = 0 → atW T e en (skip T e a) q = true → Q none (oP I (skip T e a + (WL q).length) (skip T e a + (WL q).length) b bp np nm) L (aR sh su)) (kf : b = 0 → atW T e en (skip T e a) q = false → Q none (oP I (skip T e a) en 1 (skip T e a) np nm) L (aR sh su)) : aWp none d 139 0 [.ref 157, .ref q] [] (oP I a en b bp np nm) L (aR sh su) Q := t_asks hB hd h0 h1 hb hen (WL_sp hq).1 (WL_sp hq).2.1 (hO q hq) (fun j => by have := Wf_rg q j; unfold aRg; omega) (by unfold isWd at hq; omega) kb kt kf
theorem atW_p {T : Int → Int} {e en p : Int} {q : Nat} (h : atW T e en p q = true) : p < e ∧ (97 ≤ T p ∧ T p ≤ 122) ∧ p ≠ en ∧ wend T e p - p = (WL q).length := by
  have := hereB_iff.mp h
  exact ⟨this.1, this.2.1, this.2.2.1, this.2.2.2.1⟩
def ownB (T : Int → Int) (e en p : Int) : Bool := atW T e en p 160 || atW T e en p 161 || atW T e en p 162 || atW T e en p 163 || atW T e en p 164 || atW T e en p 165 || atW T e en p 166 || atW T e en p 167 || atW T e en p 168 || atW T e en p 169 || atW T e en p 170 || atW T e en p 171 || atW T e en p 172 || atW T e en p 173 || atW T e en p 174 || atW T e en p 175 || atW T e en p 176 || atW T e en p 177 || atW T e en p 178 || atW T e en p 179 || atW T e en p 180 || atW T e en p 181 || atW T e en p 182 || atW T e en p 183 || atW T e en p 184 || atW T e en p 185 || atW T e en p 186 || atW T e en p 187 || atW T e en p 188 || atW T e en p 189 || atW T e en p 190 || atW T e en p 191
set_option maxHeartbeats 1000000 in
theorem t_isOwnHere {d : Nat} {I : aFI} {L : aFL} {Q : aPo} {T : Int → Int} {e a en b bp np nm : Int} {sh : Nat} {su : Option Nat} (hB : oB I T e) (hO : oW I) (hd : 3 ≤ d) (h0 : 0 ≤ a) (h1 : a ≤ e) (hb : aRg b) (hen : aRg en) (hb0 : b = 0) (hsk : skip T e a = a) (k : Q (some (.int (aBo (ownB T e en a)))) (oP I a en b bp np nm) L (aR sh su)) : aWp none d 143 0 [.ref 157, .null] [] (oP I a en b bp np nm) L (aR sh su) Q := by
  refine w_aload c_143_0 rfl ?_
  refine w_aload c_143_1 rfl ?_
  refine w_getR c_143_2 sp_157 (by decide) rfl pr_157_11 ?_
  refine wc_137 c_143_5 sp_157 (Nat.le_of_ble_eq_true rfl) (by omega) ?_
  refine t_isHereW hB hO (q := 160) (by unfold isWd; omega) (by omega) h0 h1 hb hen (fun z => absurd hb0 z) (fun _ => ?_)
  rw [hsk]
  refine r_i ?_
  refine b_if_ne c_143_8 (fun h1_ => ?_) (fun h1_ => ?_)
  · refine z_push c_143_66 ?_
    refine w_goto c_143_67 ?_
    refine w_istore c_143_71 (Nat.le_of_ble_eq_true rfl) rfl ?_
    refine w_iload c_143_72 rfl ?_
    refine z_if_ne c_143_73 (by unfold aRg; omega) (fun h2_ => ?_) (fun h2_ => absurd (by decide) h2_)
    refine z_push c_143_142 ?_
    refine w_goto c_143_143 ?_
    refine w_istore c_143_147 (Nat.le_of_ble_eq_true rfl) rfl ?_
    refine w_iload c_143_148 rfl ?_
    refine z_if_ne c_143_149 (by unfold aRg; omega) (fun h3_ => ?_) (fun h3_ => absurd (by decide) h3_)
    refine z_push c_143_218 ?_
    refine w_goto c_143_219 ?_
    refine w_istore c_143_223 (Nat.le_of_ble_eq_true rfl) rfl ?_
    refine w_iload c_143_224 rfl ?_
    refine z_if_ne c_143_225 (by unfold aRg; omega) (fun h4_ => ?_) (fun h4_ => absurd (by decide) h4_)
    refine z_push c_143_294 ?_
    refine w_goto c_143_295 ?_
    refine w_istore c_143_299 (Nat.le_of_ble_eq_true rfl) rfl ?_
    refine w_iload c_143_300 rfl ?_
    refine z_if_ne c_143_301 (by unfold aRg; omega) (fun h5_ => ?_) (fun h5_ => absurd (by decide) h5_)
    refine z_push c_143_370 ?_
    refine w_goto c_143_371 ?_
    refine w_istore c_143_375 (Nat.le_of_ble_eq_true rfl) rfl ?_
    refine w_iload c_143_376 rfl ?_
    refine z_if_ne c_143_377 (by unfold aRg; omega) (fun h6_ => ?_) (fun h6_ => absurd (by decide) h6_)
    refine z_push c_143_402 ?_
    refine w_goto c_143_403 ?_
    refine w_istore c_143_407 (Nat.le_of_ble_eq_true rfl) rfl ?_
    refine w_iload c_143_408 rfl ?_
    refine z_ret1 c_143_409 rfl ?_
    have h9 : ownB T e en a = true := by simp only [ownB, *, Bool.true_or, Bool.or_true, Bool.or_false]
    rw [h9] at k
    exact k
  · refine w_aload c_143_11 rfl ?_
    refine w_aload c_143_12 rfl ?_
    refine w_getR c_143_13 sp_157 (by decide) rfl pr_157_12 ?_
    refine wc_137 c_143_16 sp_157 (Nat.le_of_ble_eq_true rfl) (by omega) ?_
    refine t_isHereW hB hO (q := 161) (by unfold isWd; omega) (by omega) h0 h1 hb hen (fun z => absurd hb0 z) (fun _ => ?_)
    rw [hsk]
    refine r_i ?_
    refine b_if_ne c_143_19 (fun h7_ => ?_) (fun h7_ => ?_)
    · refine z_push c_143_66 ?_
      refine w_goto c_143_67 ?_
      refine w_istore c_143_71 (Nat.le_of_ble_eq_true rfl) rfl ?_
      refine w_iload c_143_72 rfl ?_
      refine z_if_ne c_143_73 (by unfold aRg; omega) (fun h8_ => ?_) (fun h8_ => absurd (by decide) h8_)
      refine z_push c_143_142 ?_
      refine w_goto c_143_143 ?_
      refine w_istore c_143_147 (Nat.le_of_ble_eq_true rfl) rfl ?_
      refine w_iload c_143_148 rfl ?_
      refine z_if_ne c_143_149 (by unfold aRg; omega) (fun h9_ => ?_) (fun h9_ => absurd (by decide) h9_)
      refine z_push c_143_218 ?_
      refine w_goto c_143_219 ?_
      refine w_istore c_143_223 (Nat.le_of_ble_eq_true rfl) rfl ?_
      refine w_iload c_143_224 rfl ?_
      refine z_if_ne c_143_225 (by unfold aRg; omega) (fun h10_ => ?_) (fun h10_ => absurd (by decide) h10_)
      refine z_push c_143_294 ?_
      refine w_goto c_143_295 ?_
      refine w_istore c_143_299 (Nat.le_of_ble_eq_true rfl) rfl ?_
      refine w_iload c_143_300 rfl ?_
      refine z_if_ne c_143_301 (by unfold aRg; omega) (fun h11_ => ?_) (fun h11_ => absurd (by decide) h11_)
      refine z_push c_143_370 ?_
      refine w_goto c_143_371 ?_
      refine w_istore c_143_375 (Nat.le_of_ble_eq_true rfl) rfl ?_
      refine w_iload c_143_376 rfl ?_
      refine z_if_ne c_143_377 (by unfold aRg; omega) (fun h12_ => ?_) (fun h12_ => absurd (by decide) h12_)
      refine z_push c_143_402 ?_
      refine w_goto c_143_403 ?_
      refine w_istore c_143_407 (Nat.le_of_ble_eq_true rfl) rfl ?_
      refine w_iload c_143_408 rfl ?_
      refine z_ret1 c_143_409 rfl ?_
      have h9 : ownB T e en a = true := by simp only [ownB, *, Bool.true_or, Bool.or_true, Bool.or_false]
      rw [h9] at k
      exact k
    · refine w_aload c_143_22 rfl ?_
      refine w_aload c_143_23 rfl ?_
      refine w_getR c_143_24 sp_157 (by decide) rfl pr_157_13 ?_
      refine wc_137 c_143_27 sp_157 (Nat.le_of_ble_eq_true rfl) (by omega) ?_
      refine t_isHereW hB hO (q := 162) (by unfold isWd; omega) (by omega) h0 h1 hb hen (fun z => absurd hb0 z) (fun _ => ?_)
      rw [hsk]
      refine r_i ?_
      refine b_if_ne c_143_30 (fun h13_ => ?_) (fun h13_ => ?_)
      · refine z_push c_143_66 ?_
        refine w_goto c_143_67 ?_
        refine w_istore c_143_71 (Nat.le_of_ble_eq_true rfl) rfl ?_
        refine w_iload c_143_72 rfl ?_
        refine z_if_ne c_143_73 (by unfold aRg; omega) (fun h14_ => ?_) (fun h14_ => absurd (by decide) h14_)
        refine z_push c_143_142 ?_
        refine w_goto c_143_143 ?_
        refine w_istore c_143_147 (Nat.le_of_ble_eq_true rfl) rfl ?_
        refine w_iload c_143_148 rfl ?_
        refine z_if_ne c_143_149 (by unfold aRg; omega) (fun h15_ => ?_) (fun h15_ => absurd (by decide) h15_)
        refine z_push c_143_218 ?_
        refine w_goto c_143_219 ?_
        refine w_istore c_143_223 (Nat.le_of_ble_eq_true rfl) rfl ?_
        refine w_iload c_143_224 rfl ?_
        refine z_if_ne c_143_225 (by unfold aRg; omega) (fun h16_ => ?_) (fun h16_ => absurd (by decide) h16_)
        refine z_push c_143_294 ?_
        refine w_goto c_143_295 ?_
        refine w_istore c_143_299 (Nat.le_of_ble_eq_true rfl) rfl ?_
        refine w_iload c_143_300 rfl ?_
        refine z_if_ne c_143_301 (by unfold aRg; omega) (fun h17_ => ?_) (fun h17_ => absurd (by decide) h17_)
        refine z_push c_143_370 ?_
        refine w_goto c_143_371 ?_
        refine w_istore c_143_375 (Nat.le_of_ble_eq_true rfl) rfl ?_
        refine w_iload c_143_376 rfl ?_
        refine z_if_ne c_143_377 (by unfold aRg; omega) (fun h18_ => ?_) (fun h18_ => absurd (by decide) h18_)
        refine z_push c_143_402 ?_
        refine w_goto c_143_403 ?_
        refine w_istore c_143_407 (Nat.le_of_ble_eq_true rfl) rfl ?_
        refine w_iload c_143_408 rfl ?_
        refine z_ret1 c_143_409 rfl ?_
        have h9 : ownB T e en a = true := by simp only [ownB, *, Bool.true_or, Bool.or_true, Bool.or_false]
        rw [h9] at k
        exact k
      · refine w_aload c_143_33 rfl ?_
        refine w_aload c_143_34 rfl ?_
        refine w_getR c_143_35 sp_157 (by decide) rfl pr_157_14 ?_
        refine wc_137 c_143_38 sp_157 (Nat.le_of_ble_eq_true rfl) (by omega) ?_
        refine t_isHereW hB hO (q := 163) (by unfold isWd; omega) (by omega) h0 h1 hb hen (fun z => absurd hb0 z) (fun _ => ?_)
        rw [hsk]
        refine r_i ?_
        refine b_if_ne c_143_41 (fun h19_ => ?_) (fun h19_ => ?_)
        · refine z_push c_143_66 ?_
          refine w_goto c_143_67 ?_
          refine w_istore c_143_71 (Nat.le_of_ble_eq_true rfl) rfl ?_
          refine w_iload c_143_72 rfl ?_
          refine z_if_ne c_143_73 (by unfold aRg; omega) (fun h20_ => ?_) (fun h20_ => absurd (by decide) h20_)
          refine z_push c_143_142 ?_
          refine w_goto c_143_143 ?_
          refine w_istore c_143_147 (Nat.le_of_ble_eq_true rfl) rfl ?_
          refine w_iload c_143_148 rfl ?_
          refine z_if_ne c_143_149 (by unfold aRg; omega) (fun h21_ => ?_) (fun h21_ => absurd (by decide) h21_)
          refine z_push c_143_218 ?_
          refine w_goto c_143_219 ?_
          refine w_istore c_143_223 (Nat.le_of_ble_eq_true rfl) rfl ?_
          refine w_iload c_143_224 rfl ?_
          refine z_if_ne c_143_225 (by unfold aRg; omega) (fun h22_ => ?_) (fun h22_ => absurd (by decide) h22_)
          refine z_push c_143_294 ?_
          refine w_goto c_143_295 ?_
          refine w_istore c_143_299 (Nat.le_of_ble_eq_true rfl) rfl ?_
          refine w_iload c_143_300 rfl ?_
          refine z_if_ne c_143_301 (by unfold aRg; omega) (fun h23_ => ?_) (fun h23_ => absurd (by decide) h23_)
          refine z_push c_143_370 ?_
          refine w_goto c_143_371 ?_
          refine w_istore c_143_375 (Nat.le_of_ble_eq_true rfl) rfl ?_
          refine w_iload c_143_376 rfl ?_
          refine z_if_ne c_143_377 (by unfold aRg; omega) (fun h24_ => ?_) (fun h24_ => absurd (by decide) h24_)
          refine z_push c_143_402 ?_
          refine w_goto c_143_403 ?_
          refine w_istore c_143_407 (Nat.le_of_ble_eq_true rfl) rfl ?_
          refine w_iload c_143_408 rfl ?_
          refine z_ret1 c_143_409 rfl ?_
          have h9 : ownB T e en a = true := by simp only [ownB, *, Bool.true_or, Bool.or_true, Bool.or_false]
          rw [h9] at k
          exact k
        · refine w_aload c_143_44 rfl ?_
          refine w_aload c_143_45 rfl ?_
          refine w_getR c_143_46 sp_157 (by decide) rfl pr_157_15 ?_
          refine wc_137 c_143_49 sp_157 (Nat.le_of_ble_eq_true rfl) (by omega) ?_
          refine t_isHereW hB hO (q := 164) (by unfold isWd; omega) (by omega) h0 h1 hb hen (fun z => absurd hb0 z) (fun _ => ?_)
          rw [hsk]
          refine r_i ?_
          refine b_if_ne c_143_52 (fun h25_ => ?_) (fun h25_ => ?_)
          · refine z_push c_143_66 ?_
            refine w_goto c_143_67 ?_
            refine w_istore c_143_71 (Nat.le_of_ble_eq_true rfl) rfl ?_
            refine w_iload c_143_72 rfl ?_
            refine z_if_ne c_143_73 (by unfold aRg; omega) (fun h26_ => ?_) (fun h26_ => absurd (by decide) h26_)
            refine z_push c_143_142 ?_
            refine w_goto c_143_143 ?_
            refine w_istore c_143_147 (Nat.le_of_ble_eq_true rfl) rfl ?_
            refine w_iload c_143_148 rfl ?_
            refine z_if_ne c_143_149 (by unfold aRg; omega) (fun h27_ => ?_) (fun h27_ => absurd (by decide) h27_)
            refine z_push c_143_218 ?_
            refine w_goto c_143_219 ?_
            refine w_istore c_143_223 (Nat.le_of_ble_eq_true rfl) rfl ?_
            refine w_iload c_143_224 rfl ?_
            refine z_if_ne c_143_225 (by unfold aRg; omega) (fun h28_ => ?_) (fun h28_ => absurd (by decide) h28_)
            refine z_push c_143_294 ?_
            refine w_goto c_143_295 ?_
            refine w_istore c_143_299 (Nat.le_of_ble_eq_true rfl) rfl ?_
            refine w_iload c_143_300 rfl ?_
            refine z_if_ne c_143_301 (by unfold aRg; omega) (fun h29_ => ?_) (fun h29_ => absurd (by decide) h29_)
            refine z_push c_143_370 ?_
            refine w_goto c_143_371 ?_
            refine w_istore c_143_375 (Nat.le_of_ble_eq_true rfl) rfl ?_
            refine w_iload c_143_376 rfl ?_
            refine z_if_ne c_143_377 (by unfold aRg; omega) (fun h30_ => ?_) (fun h30_ => absurd (by decide) h30_)
            refine z_push c_143_402 ?_
            refine w_goto c_143_403 ?_
            refine w_istore c_143_407 (Nat.le_of_ble_eq_true rfl) rfl ?_
            refine w_iload c_143_408 rfl ?_
            refine z_ret1 c_143_409 rfl ?_
            have h9 : ownB T e en a = true := by simp only [ownB, *, Bool.true_or, Bool.or_true, Bool.or_false]
            rw [h9] at k
            exact k
          · refine w_aload c_143_55 rfl ?_
            refine w_aload c_143_56 rfl ?_
            refine w_getR c_143_57 sp_157 (by decide) rfl pr_157_16 ?_
            refine wc_137 c_143_60 sp_157 (Nat.le_of_ble_eq_true rfl) (by omega) ?_
            refine t_isHereW hB hO (q := 165) (by unfold isWd; omega) (by omega) h0 h1 hb hen (fun z => absurd hb0 z) (fun _ => ?_)
            rw [hsk]
            refine r_i ?_
            refine b_if_eq c_143_63 (fun h31_ => ?_) (fun h31_ => ?_)
            · refine z_push c_143_70 ?_
              refine w_istore c_143_71 (Nat.le_of_ble_eq_true rfl) rfl ?_
              refine w_iload c_143_72 rfl ?_
              refine z_if_ne c_143_73 (by unfold aRg; omega) (fun h32_ => absurd h32_ (by decide)) (fun h32_ => ?_)
              refine w_aload c_143_76 rfl ?_
              refine w_aload c_143_77 rfl ?_
              refine w_getR c_143_78 sp_157 (by decide) rfl pr_157_17 ?_
              refine wc_137 c_143_81 sp_157 (Nat.le_of_ble_eq_true rfl) (by omega) ?_
              refine t_isHereW hB hO (q := 166) (by unfold isWd; omega) (by omega) h0 h1 hb hen (fun z => absurd hb0 z) (fun _ => ?_)
              rw [hsk]
              refine r_i ?_
              refine b_if_ne c_143_84 (fun h33_ => ?_) (fun h33_ => ?_)
              · refine z_push c_143_142 ?_
                refine w_goto c_143_143 ?_
                refine w_istore c_143_147 (Nat.le_of_ble_eq_true rfl) rfl ?_
                refine w_iload c_143_148 rfl ?_
                refine z_if_ne c_143_149 (by unfold aRg; omega) (fun h34_ => ?_) (fun h34_ => absurd (by decide) h34_)
                refine z_push c_143_218 ?_
                refine w_goto c_143_219 ?_
                refine w_istore c_143_223 (Nat.le_of_ble_eq_true rfl) rfl ?_
                refine w_iload c_143_224 rfl ?_
                refine z_if_ne c_143_225 (by unfold aRg; omega) (fun h35_ => ?_) (fun h35_ => absurd (by decide) h35_)
                refine z_push c_143_294 ?_
                refine w_goto c_143_295 ?_
                refine w_istore c_143_299 (Nat.le_of_ble_eq_true rfl) rfl ?_
                refine w_iload c_143_300 rfl ?_
                refine z_if_ne c_143_301 (by unfold aRg; omega) (fun h36_ => ?_) (fun h36_ => absurd (by decide) h36_)
                refine z_push c_143_370 ?_
                refine w_goto c_143_371 ?_
                refine w_istore c_143_375 (Nat.le_of_ble_eq_true rfl) rfl ?_
                refine w_iload c_143_376 rfl ?_
                refine z_if_ne c_143_377 (by unfold aRg; omega) (fun h37_ => ?_) (fun h37_ => absurd (by decide) h37_)
                refine z_push c_143_402 ?_
                refine w_goto c_143_403 ?_
                refine w_istore c_143_407 (Nat.le_of_ble_eq_true rfl) rfl ?_
                refine w_iload c_143_408 rfl ?_
                refine z_ret1 c_143_409 rfl ?_
                have h9 : ownB T e en a = true := by simp only [ownB, *, Bool.true_or, Bool.or_true, Bool.or_false]
                rw [h9] at k
                exact k
              · refine w_aload c_143_87 rfl ?_
                refine w_aload c_143_88 rfl ?_
                refine w_getR c_143_89 sp_157 (by decide) rfl pr_157_18 ?_
                refine wc_137 c_143_92 sp_157 (Nat.le_of_ble_eq_true rfl) (by omega) ?_
                refine t_isHereW hB hO (q := 167) (by unfold isWd; omega) (by omega) h0 h1 hb hen (fun z => absurd hb0 z) (fun _ => ?_)
                rw [hsk]
                refine r_i ?_
                refine b_if_ne c_143_95 (fun h38_ => ?_) (fun h38_ => ?_)
                · refine z_push c_143_142 ?_
                  refine w_goto c_143_143 ?_
                  refine w_istore c_143_147 (Nat.le_of_ble_eq_true rfl) rfl ?_
                  refine w_iload c_143_148 rfl ?_
                  refine z_if_ne c_143_149 (by unfold aRg; omega) (fun h39_ => ?_) (fun h39_ => absurd (by decide) h39_)
                  refine z_push c_143_218 ?_
                  refine w_goto c_143_219 ?_
                  refine w_istore c_143_223 (Nat.le_of_ble_eq_true rfl) rfl ?_
                  refine w_iload c_143_224 rfl ?_
                  refine z_if_ne c_143_225 (by unfold aRg; omega) (fun h40_ => ?_) (fun h40_ => absurd (by decide) h40_)
                  refine z_push c_143_294 ?_
                  refine w_goto c_143_295 ?_
                  refine w_istore c_143_299 (Nat.le_of_ble_eq_true rfl) rfl ?_
                  refine w_iload c_143_300 rfl ?_
                  refine z_if_ne c_143_301 (by unfold aRg; omega) (fun h41_ => ?_) (fun h41_ => absurd (by decide) h41_)
                  refine z_push c_143_370 ?_
                  refine w_goto c_143_371 ?_
                  refine w_istore c_143_375 (Nat.le_of_ble_eq_true rfl) rfl ?_
                  refine w_iload c_143_376 rfl ?_
                  refine z_if_ne c_143_377 (by unfold aRg; omega) (fun h42_ => ?_) (fun h42_ => absurd (by decide) h42_)
                  refine z_push c_143_402 ?_
                  refine w_goto c_143_403 ?_
                  refine w_istore c_143_407 (Nat.le_of_ble_eq_true rfl) rfl ?_
                  refine w_iload c_143_408 rfl ?_
                  refine z_ret1 c_143_409 rfl ?_
                  have h9 : ownB T e en a = true := by simp only [ownB, *, Bool.true_or, Bool.or_true, Bool.or_false]
                  rw [h9] at k
                  exact k
                · refine w_aload c_143_98 rfl ?_
                  refine w_aload c_143_99 rfl ?_
                  refine w_getR c_143_100 sp_157 (by decide) rfl pr_157_19 ?_
                  refine wc_137 c_143_103 sp_157 (Nat.le_of_ble_eq_true rfl) (by omega) ?_
                  refine t_isHereW hB hO (q := 168) (by unfold isWd; omega) (by omega) h0 h1 hb hen (fun z => absurd hb0 z) (fun _ => ?_)
                  rw [hsk]
                  refine r_i ?_
                  refine b_if_ne c_143_106 (fun h43_ => ?_) (fun h43_ => ?_)
                  · refine z_push c_143_142 ?_
                    refine w_goto c_143_143 ?_
                    refine w_istore c_143_147 (Nat.le_of_ble_eq_true rfl) rfl ?_
                    refine w_iload c_143_148 rfl ?_
                    refine z_if_ne c_143_149 (by unfold aRg; omega) (fun h44_ => ?_) (fun h44_ => absurd (by decide) h44_)
                    refine z_push c_143_218 ?_
                    refine w_goto c_143_219 ?_
                    refine w_istore c_143_223 (Nat.le_of_ble_eq_true rfl) rfl ?_
                    refine w_iload c_143_224 rfl ?_
                    refine z_if_ne c_143_225 (by unfold aRg; omega) (fun h45_ => ?_) (fun h45_ => absurd (by decide) h45_)
                    refine z_push c_143_294 ?_
                    refine w_goto c_143_295 ?_
                    refine w_istore c_143_299 (Nat.le_of_ble_eq_true rfl) rfl ?_
                    refine w_iload c_143_300 rfl ?_
                    refine z_if_ne c_143_301 (by unfold aRg; omega) (fun h46_ => ?_) (fun h46_ => absurd (by decide) h46_)
                    refine z_push c_143_370 ?_
                    refine w_goto c_143_371 ?_
                    refine w_istore c_143_375 (Nat.le_of_ble_eq_true rfl) rfl ?_
                    refine w_iload c_143_376 rfl ?_
                    refine z_if_ne c_143_377 (by unfold aRg; omega) (fun h47_ => ?_) (fun h47_ => absurd (by decide) h47_)
                    refine z_push c_143_402 ?_
                    refine w_goto c_143_403 ?_
                    refine w_istore c_143_407 (Nat.le_of_ble_eq_true rfl) rfl ?_
                    refine w_iload c_143_408 rfl ?_
                    refine z_ret1 c_143_409 rfl ?_
                    have h9 : ownB T e en a = true := by simp only [ownB, *, Bool.true_or, Bool.or_true, Bool.or_false]
                    rw [h9] at k
                    exact k
                  · refine w_aload c_143_109 rfl ?_
                    refine w_aload c_143_110 rfl ?_
                    refine w_getR c_143_111 sp_157 (by decide) rfl pr_157_20 ?_
                    refine wc_137 c_143_114 sp_157 (Nat.le_of_ble_eq_true rfl) (by omega) ?_
                    refine t_isHereW hB hO (q := 169) (by unfold isWd; omega) (by omega) h0 h1 hb hen (fun z => absurd hb0 z) (fun _ => ?_)
                    rw [hsk]
                    refine r_i ?_
                    refine b_if_ne c_143_117 (fun h48_ => ?_) (fun h48_ => ?_)
                    · refine z_push c_143_142 ?_
                      refine w_goto c_143_143 ?_
                      refine w_istore c_143_147 (Nat.le_of_ble_eq_true rfl) rfl ?_
                      refine w_iload c_143_148 rfl ?_
                      refine z_if_ne c_143_149 (by unfold aRg; omega) (fun h49_ => ?_) (fun h49_ => absurd (by decide) h49_)
                      refine z_push c_143_218 ?_
                      refine w_goto c_143_219 ?_
                      refine w_istore c_143_223 (Nat.le_of_ble_eq_true rfl) rfl ?_
                      refine w_iload c_143_224 rfl ?_
                      refine z_if_ne c_143_225 (by unfold aRg; omega) (fun h50_ => ?_) (fun h50_ => absurd (by decide) h50_)
                      refine z_push c_143_294 ?_
                      refine w_goto c_143_295 ?_
                      refine w_istore c_143_299 (Nat.le_of_ble_eq_true rfl) rfl ?_
                      refine w_iload c_143_300 rfl ?_
                      refine z_if_ne c_143_301 (by unfold aRg; omega) (fun h51_ => ?_) (fun h51_ => absurd (by decide) h51_)
                      refine z_push c_143_370 ?_
                      refine w_goto c_143_371 ?_
                      refine w_istore c_143_375 (Nat.le_of_ble_eq_true rfl) rfl ?_
                      refine w_iload c_143_376 rfl ?_
                      refine z_if_ne c_143_377 (by unfold aRg; omega) (fun h52_ => ?_) (fun h52_ => absurd (by decide) h52_)
                      refine z_push c_143_402 ?_
                      refine w_goto c_143_403 ?_
                      refine w_istore c_143_407 (Nat.le_of_ble_eq_true rfl) rfl ?_
                      refine w_iload c_143_408 rfl ?_
                      refine z_ret1 c_143_409 rfl ?_
                      have h9 : ownB T e en a = true := by simp only [ownB, *, Bool.true_or, Bool.or_true, Bool.or_false]
                      rw [h9] at k
                      exact k
                    · refine w_aload c_143_120 rfl ?_
                      refine w_aload c_143_121 rfl ?_
                      refine w_getR c_143_122 sp_157 (by decide) rfl pr_157_21 ?_
                      refine wc_137 c_143_125 sp_157 (Nat.le_of_ble_eq_true rfl) (by omega) ?_
                      refine t_isHereW hB hO (q := 170) (by unfold isWd; omega) (by omega) h0 h1 hb hen (fun z => absurd hb0 z) (fun _ => ?_)
                      rw [hsk]
                      refine r_i ?_
                      refine b_if_ne c_143_128 (fun h53_ => ?_) (fun h53_ => ?_)
                      · refine z_push c_143_142 ?_
                        refine w_goto c_143_143 ?_
                        refine w_istore c_143_147 (Nat.le_of_ble_eq_true rfl) rfl ?_
                        refine w_iload c_143_148 rfl ?_
                        refine z_if_ne c_143_149 (by unfold aRg; omega) (fun h54_ => ?_) (fun h54_ => absurd (by decide) h54_)
                        refine z_push c_143_218 ?_
                        refine w_goto c_143_219 ?_
                        refine w_istore c_143_223 (Nat.le_of_ble_eq_true rfl) rfl ?_
                        refine w_iload c_143_224 rfl ?_
                        refine z_if_ne c_143_225 (by unfold aRg; omega) (fun h55_ => ?_) (fun h55_ => absurd (by decide) h55_)
                        refine z_push c_143_294 ?_
                        refine w_goto c_143_295 ?_
                        refine w_istore c_143_299 (Nat.le_of_ble_eq_true rfl) rfl ?_
                        refine w_iload c_143_300 rfl ?_
                        refine z_if_ne c_143_301 (by unfold aRg; omega) (fun h56_ => ?_) (fun h56_ => absurd (by decide) h56_)
                        refine z_push c_143_370 ?_
                        refine w_goto c_143_371 ?_
                        refine w_istore c_143_375 (Nat.le_of_ble_eq_true rfl) rfl ?_
                        refine w_iload c_143_376 rfl ?_
                        refine z_if_ne c_143_377 (by unfold aRg; omega) (fun h57_ => ?_) (fun h57_ => absurd (by decide) h57_)
                        refine z_push c_143_402 ?_
                        refine w_goto c_143_403 ?_
                        refine w_istore c_143_407 (Nat.le_of_ble_eq_true rfl) rfl ?_
                        refine w_iload c_143_408 rfl ?_
                        refine z_ret1 c_143_409 rfl ?_
                        have h9 : ownB T e en a = true := by simp only [ownB, *, Bool.true_or, Bool.or_true, Bool.or_false]
                        rw [h9] at k
                        exact k
                      · refine w_aload c_143_131 rfl ?_
                        refine w_aload c_143_132 rfl ?_
                        refine w_getR c_143_133 sp_157 (by decide) rfl pr_157_22 ?_
                        refine wc_137 c_143_136 sp_157 (Nat.le_of_ble_eq_true rfl) (by omega) ?_
                        refine t_isHereW hB hO (q := 171) (by unfold isWd; omega) (by omega) h0 h1 hb hen (fun z => absurd hb0 z) (fun _ => ?_)
                        rw [hsk]
                        refine r_i ?_
                        refine b_if_eq c_143_139 (fun h58_ => ?_) (fun h58_ => ?_)
                        · refine z_push c_143_146 ?_
                          refine w_istore c_143_147 (Nat.le_of_ble_eq_true rfl) rfl ?_
                          refine w_iload c_143_148 rfl ?_
                          refine z_if_ne c_143_149 (by unfold aRg; omega) (fun h59_ => absurd h59_ (by decide)) (fun h59_ => ?_)
                          refine w_aload c_143_152 rfl ?_
                          refine w_aload c_143_153 rfl ?_
                          refine w_getR c_143_154 sp_157 (by decide) rfl pr_157_23 ?_
                          refine wc_137 c_143_157 sp_157 (Nat.le_of_ble_eq_true rfl) (by omega) ?_
                          refine t_isHereW hB hO (q := 172) (by unfold isWd; omega) (by omega) h0 h1 hb hen (fun z => absurd hb0 z) (fun _ => ?_)
                          rw [hsk]
                          refine r_i ?_
                          refine b_if_ne c_143_160 (fun h60_ => ?_) (fun h60_ => ?_)
                          · refine z_push c_143_218 ?_
                            refine w_goto c_143_219 ?_
                            refine w_istore c_143_223 (Nat.le_of_ble_eq_true rfl) rfl ?_
                            refine w_iload c_143_224 rfl ?_
                            refine z_if_ne c_143_225 (by unfold aRg; omega) (fun h61_ => ?_) (fun h61_ => absurd (by decide) h61_)
                            refine z_push c_143_294 ?_
                            refine w_goto c_143_295 ?_
                            refine w_istore c_143_299 (Nat.le_of_ble_eq_true rfl) rfl ?_
                            refine w_iload c_143_300 rfl ?_
                            refine z_if_ne c_143_301 (by unfold aRg; omega) (fun h62_ => ?_) (fun h62_ => absurd (by decide) h62_)
                            refine z_push c_143_370 ?_
                            refine w_goto c_143_371 ?_
                            refine w_istore c_143_375 (Nat.le_of_ble_eq_true rfl) rfl ?_
                            refine w_iload c_143_376 rfl ?_
                            refine z_if_ne c_143_377 (by unfold aRg; omega) (fun h63_ => ?_) (fun h63_ => absurd (by decide) h63_)
                            refine z_push c_143_402 ?_
                            refine w_goto c_143_403 ?_
                            refine w_istore c_143_407 (Nat.le_of_ble_eq_true rfl) rfl ?_
                            refine w_iload c_143_408 rfl ?_
                            refine z_ret1 c_143_409 rfl ?_
                            have h9 : ownB T e en a = true := by simp only [ownB, *, Bool.true_or, Bool.or_true, Bool.or_false]
                            rw [h9] at k
                            exact k
                          · refine w_aload c_143_163 rfl ?_
                            refine w_aload c_143_164 rfl ?_
                            refine w_getR c_143_165 sp_157 (by decide) rfl pr_157_24 ?_
                            refine wc_137 c_143_168 sp_157 (Nat.le_of_ble_eq_true rfl) (by omega) ?_
                            refine t_isHereW hB hO (q := 173) (by unfold isWd; omega) (by omega) h0 h1 hb hen (fun z => absurd hb0 z) (fun _ => ?_)
                            rw [hsk]
                            refine r_i ?_
                            refine b_if_ne c_143_171 (fun h64_ => ?_) (fun h64_ => ?_)
                            · refine z_push c_143_218 ?_
                              refine w_goto c_143_219 ?_
                              refine w_istore c_143_223 (Nat.le_of_ble_eq_true rfl) rfl ?_
                              refine w_iload c_143_224 rfl ?_
                              refine z_if_ne c_143_225 (by unfold aRg; omega) (fun h65_ => ?_) (fun h65_ => absurd (by decide) h65_)
                              refine z_push c_143_294 ?_
                              refine w_goto c_143_295 ?_
                              refine w_istore c_143_299 (Nat.le_of_ble_eq_true rfl) rfl ?_
                              refine w_iload c_143_300 rfl ?_
                              refine z_if_ne c_143_301 (by unfold aRg; omega) (fun h66_ => ?_) (fun h66_ => absurd (by decide) h66_)
                              refine z_push c_143_370 ?_
                              refine w_goto c_143_371 ?_
                              refine w_istore c_143_375 (Nat.le_of_ble_eq_true rfl) rfl ?_
                              refine w_iload c_143_376 rfl ?_
                              refine z_if_ne c_143_377 (by unfold aRg; omega) (fun h67_ => ?_) (fun h67_ => absurd (by decide) h67_)
                              refine z_push c_143_402 ?_
                              refine w_goto c_143_403 ?_
                              refine w_istore c_143_407 (Nat.le_of_ble_eq_true rfl) rfl ?_
                              refine w_iload c_143_408 rfl ?_
                              refine z_ret1 c_143_409 rfl ?_
                              have h9 : ownB T e en a = true := by simp only [ownB, *, Bool.true_or, Bool.or_true, Bool.or_false]
                              rw [h9] at k
                              exact k
                            · refine w_aload c_143_174 rfl ?_
                              refine w_aload c_143_175 rfl ?_
                              refine w_getR c_143_176 sp_157 (by decide) rfl pr_157_25 ?_
                              refine wc_137 c_143_179 sp_157 (Nat.le_of_ble_eq_true rfl) (by omega) ?_
                              refine t_isHereW hB hO (q := 174) (by unfold isWd; omega) (by omega) h0 h1 hb hen (fun z => absurd hb0 z) (fun _ => ?_)
                              rw [hsk]
                              refine r_i ?_
                              refine b_if_ne c_143_182 (fun h68_ => ?_) (fun h68_ => ?_)
                              · refine z_push c_143_218 ?_
                                refine w_goto c_143_219 ?_
                                refine w_istore c_143_223 (Nat.le_of_ble_eq_true rfl) rfl ?_
                                refine w_iload c_143_224 rfl ?_
                                refine z_if_ne c_143_225 (by unfold aRg; omega) (fun h69_ => ?_) (fun h69_ => absurd (by decide) h69_)
                                refine z_push c_143_294 ?_
                                refine w_goto c_143_295 ?_
                                refine w_istore c_143_299 (Nat.le_of_ble_eq_true rfl) rfl ?_
                                refine w_iload c_143_300 rfl ?_
                                refine z_if_ne c_143_301 (by unfold aRg; omega) (fun h70_ => ?_) (fun h70_ => absurd (by decide) h70_)
                                refine z_push c_143_370 ?_
                                refine w_goto c_143_371 ?_
                                refine w_istore c_143_375 (Nat.le_of_ble_eq_true rfl) rfl ?_
                                refine w_iload c_143_376 rfl ?_
                                refine z_if_ne c_143_377 (by unfold aRg; omega) (fun h71_ => ?_) (fun h71_ => absurd (by decide) h71_)
                                refine z_push c_143_402 ?_
                                refine w_goto c_143_403 ?_
                                refine w_istore c_143_407 (Nat.le_of_ble_eq_true rfl) rfl ?_
                                refine w_iload c_143_408 rfl ?_
                                refine z_ret1 c_143_409 rfl ?_
                                have h9 : ownB T e en a = true := by simp only [ownB, *, Bool.true_or, Bool.or_true, Bool.or_false]
                                rw [h9] at k
                                exact k
                              · refine w_aload c_143_185 rfl ?_
                                refine w_aload c_143_186 rfl ?_
                                refine w_getR c_143_187 sp_157 (by decide) rfl pr_157_26 ?_
                                refine wc_137 c_143_190 sp_157 (Nat.le_of_ble_eq_true rfl) (by omega) ?_
                                refine t_isHereW hB hO (q := 175) (by unfold isWd; omega) (by omega) h0 h1 hb hen (fun z => absurd hb0 z) (fun _ => ?_)
                                rw [hsk]
                                refine r_i ?_
                                refine b_if_ne c_143_193 (fun h72_ => ?_) (fun h72_ => ?_)
                                · refine z_push c_143_218 ?_
                                  refine w_goto c_143_219 ?_
                                  refine w_istore c_143_223 (Nat.le_of_ble_eq_true rfl) rfl ?_
                                  refine w_iload c_143_224 rfl ?_
                                  refine z_if_ne c_143_225 (by unfold aRg; omega) (fun h73_ => ?_) (fun h73_ => absurd (by decide) h73_)
                                  refine z_push c_143_294 ?_
                                  refine w_goto c_143_295 ?_
                                  refine w_istore c_143_299 (Nat.le_of_ble_eq_true rfl) rfl ?_
                                  refine w_iload c_143_300 rfl ?_
                                  refine z_if_ne c_143_301 (by unfold aRg; omega) (fun h74_ => ?_) (fun h74_ => absurd (by decide) h74_)
                                  refine z_push c_143_370 ?_
                                  refine w_goto c_143_371 ?_
                                  refine w_istore c_143_375 (Nat.le_of_ble_eq_true rfl) rfl ?_
                                  refine w_iload c_143_376 rfl ?_
                                  refine z_if_ne c_143_377 (by unfold aRg; omega) (fun h75_ => ?_) (fun h75_ => absurd (by decide) h75_)
                                  refine z_push c_143_402 ?_
                                  refine w_goto c_143_403 ?_
                                  refine w_istore c_143_407 (Nat.le_of_ble_eq_true rfl) rfl ?_
                                  refine w_iload c_143_408 rfl ?_
                                  refine z_ret1 c_143_409 rfl ?_
                                  have h9 : ownB T e en a = true := by simp only [ownB, *, Bool.true_or, Bool.or_true, Bool.or_false]
                                  rw [h9] at k
                                  exact k
                                · refine w_aload c_143_196 rfl ?_
                                  refine w_aload c_143_197 rfl ?_
                                  refine w_getR c_143_198 sp_157 (by decide) rfl pr_157_27 ?_
                                  refine wc_137 c_143_201 sp_157 (Nat.le_of_ble_eq_true rfl) (by omega) ?_
                                  refine t_isHereW hB hO (q := 176) (by unfold isWd; omega) (by omega) h0 h1 hb hen (fun z => absurd hb0 z) (fun _ => ?_)
                                  rw [hsk]
                                  refine r_i ?_
                                  refine b_if_ne c_143_204 (fun h76_ => ?_) (fun h76_ => ?_)
                                  · refine z_push c_143_218 ?_
                                    refine w_goto c_143_219 ?_
                                    refine w_istore c_143_223 (Nat.le_of_ble_eq_true rfl) rfl ?_
                                    refine w_iload c_143_224 rfl ?_
                                    refine z_if_ne c_143_225 (by unfold aRg; omega) (fun h77_ => ?_) (fun h77_ => absurd (by decide) h77_)
                                    refine z_push c_143_294 ?_
                                    refine w_goto c_143_295 ?_
                                    refine w_istore c_143_299 (Nat.le_of_ble_eq_true rfl) rfl ?_
                                    refine w_iload c_143_300 rfl ?_
                                    refine z_if_ne c_143_301 (by unfold aRg; omega) (fun h78_ => ?_) (fun h78_ => absurd (by decide) h78_)
                                    refine z_push c_143_370 ?_
                                    refine w_goto c_143_371 ?_
                                    refine w_istore c_143_375 (Nat.le_of_ble_eq_true rfl) rfl ?_
                                    refine w_iload c_143_376 rfl ?_
                                    refine z_if_ne c_143_377 (by unfold aRg; omega) (fun h79_ => ?_) (fun h79_ => absurd (by decide) h79_)
                                    refine z_push c_143_402 ?_
                                    refine w_goto c_143_403 ?_
                                    refine w_istore c_143_407 (Nat.le_of_ble_eq_true rfl) rfl ?_
                                    refine w_iload c_143_408 rfl ?_
                                    refine z_ret1 c_143_409 rfl ?_
                                    have h9 : ownB T e en a = true := by simp only [ownB, *, Bool.true_or, Bool.or_true, Bool.or_false]
                                    rw [h9] at k
                                    exact k
                                  · refine w_aload c_143_207 rfl ?_
                                    refine w_aload c_143_208 rfl ?_
                                    refine w_getR c_143_209 sp_157 (by decide) rfl pr_157_28 ?_
                                    refine wc_137 c_143_212 sp_157 (Nat.le_of_ble_eq_true rfl) (by omega) ?_
                                    refine t_isHereW hB hO (q := 177) (by unfold isWd; omega) (by omega) h0 h1 hb hen (fun z => absurd hb0 z) (fun _ => ?_)
                                    rw [hsk]
                                    refine r_i ?_
                                    refine b_if_eq c_143_215 (fun h80_ => ?_) (fun h80_ => ?_)
                                    · refine z_push c_143_222 ?_
                                      refine w_istore c_143_223 (Nat.le_of_ble_eq_true rfl) rfl ?_
                                      refine w_iload c_143_224 rfl ?_
                                      refine z_if_ne c_143_225 (by unfold aRg; omega) (fun h81_ => absurd h81_ (by decide)) (fun h81_ => ?_)
                                      refine w_aload c_143_228 rfl ?_
                                      refine w_aload c_143_229 rfl ?_
                                      refine w_getR c_143_230 sp_157 (by decide) rfl pr_157_29 ?_
                                      refine wc_137 c_143_233 sp_157 (Nat.le_of_ble_eq_true rfl) (by omega) ?_
                                      refine t_isHereW hB hO (q := 178) (by unfold isWd; omega) (by omega) h0 h1 hb hen (fun z => absurd hb0 z) (fun _ => ?_)
                                      rw [hsk]
                                      refine r_i ?_
                                      refine b_if_ne c_143_236 (fun h82_ => ?_) (fun h82_ => ?_)
                                      · refine z_push c_143_294 ?_
                                        refine w_goto c_143_295 ?_
                                        refine w_istore c_143_299 (Nat.le_of_ble_eq_true rfl) rfl ?_
                                        refine w_iload c_143_300 rfl ?_
                                        refine z_if_ne c_143_301 (by unfold aRg; omega) (fun h83_ => ?_) (fun h83_ => absurd (by decide) h83_)
                                        refine z_push c_143_370 ?_
                                        refine w_goto c_143_371 ?_
                                        refine w_istore c_143_375 (Nat.le_of_ble_eq_true rfl) rfl ?_
                                        refine w_iload c_143_376 rfl ?_
                                        refine z_if_ne c_143_377 (by unfold aRg; omega) (fun h84_ => ?_) (fun h84_ => absurd (by decide) h84_)
                                        refine z_push c_143_402 ?_
                                        refine w_goto c_143_403 ?_
                                        refine w_istore c_143_407 (Nat.le_of_ble_eq_true rfl) rfl ?_
                                        refine w_iload c_143_408 rfl ?_
                                        refine z_ret1 c_143_409 rfl ?_
                                        have h9 : ownB T e en a = true := by simp only [ownB, *, Bool.true_or, Bool.or_true, Bool.or_false]
                                        rw [h9] at k
                                        exact k
                                      · refine w_aload c_143_239 rfl ?_
                                        refine w_aload c_143_240 rfl ?_
                                        refine w_getR c_143_241 sp_157 (by decide) rfl pr_157_30 ?_
                                        refine wc_137 c_143_244 sp_157 (Nat.le_of_ble_eq_true rfl) (by omega) ?_
                                        refine t_isHereW hB hO (q := 179) (by unfold isWd; omega) (by omega) h0 h1 hb hen (fun z => absurd hb0 z) (fun _ => ?_)
                                        rw [hsk]
                                        refine r_i ?_
                                        refine b_if_ne c_143_247 (fun h85_ => ?_) (fun h85_ => ?_)
                                        · refine z_push c_143_294 ?_
                                          refine w_goto c_143_295 ?_
                                          refine w_istore c_143_299 (Nat.le_of_ble_eq_true rfl) rfl ?_
                                          refine w_iload c_143_300 rfl ?_
                                          refine z_if_ne c_143_301 (by unfold aRg; omega) (fun h86_ => ?_) (fun h86_ => absurd (by decide) h86_)
                                          refine z_push c_143_370 ?_
                                          refine w_goto c_143_371 ?_
                                          refine w_istore c_143_375 (Nat.le_of_ble_eq_true rfl) rfl ?_
                                          refine w_iload c_143_376 rfl ?_
                                          refine z_if_ne c_143_377 (by unfold aRg; omega) (fun h87_ => ?_) (fun h87_ => absurd (by decide) h87_)
                                          refine z_push c_143_402 ?_
                                          refine w_goto c_143_403 ?_
                                          refine w_istore c_143_407 (Nat.le_of_ble_eq_true rfl) rfl ?_
                                          refine w_iload c_143_408 rfl ?_
                                          refine z_ret1 c_143_409 rfl ?_
                                          have h9 : ownB T e en a = true := by simp only [ownB, *, Bool.true_or, Bool.or_true, Bool.or_false]
                                          rw [h9] at k
                                          exact k
                                        · refine w_aload c_143_250 rfl ?_
                                          refine w_aload c_143_251 rfl ?_
                                          refine w_getR c_143_252 sp_157 (by decide) rfl pr_157_31 ?_
                                          refine wc_137 c_143_255 sp_157 (Nat.le_of_ble_eq_true rfl) (by omega) ?_
                                          refine t_isHereW hB hO (q := 180) (by unfold isWd; omega) (by omega) h0 h1 hb hen (fun z => absurd hb0 z) (fun _ => ?_)
                                          rw [hsk]
                                          refine r_i ?_
                                          refine b_if_ne c_143_258 (fun h88_ => ?_) (fun h88_ => ?_)
                                          · refine z_push c_143_294 ?_
                                            refine w_goto c_143_295 ?_
                                            refine w_istore c_143_299 (Nat.le_of_ble_eq_true rfl) rfl ?_
                                            refine w_iload c_143_300 rfl ?_
                                            refine z_if_ne c_143_301 (by unfold aRg; omega) (fun h89_ => ?_) (fun h89_ => absurd (by decide) h89_)
                                            refine z_push c_143_370 ?_
                                            refine w_goto c_143_371 ?_
                                            refine w_istore c_143_375 (Nat.le_of_ble_eq_true rfl) rfl ?_
                                            refine w_iload c_143_376 rfl ?_
                                            refine z_if_ne c_143_377 (by unfold aRg; omega) (fun h90_ => ?_) (fun h90_ => absurd (by decide) h90_)
                                            refine z_push c_143_402 ?_
                                            refine w_goto c_143_403 ?_
                                            refine w_istore c_143_407 (Nat.le_of_ble_eq_true rfl) rfl ?_
                                            refine w_iload c_143_408 rfl ?_
                                            refine z_ret1 c_143_409 rfl ?_
                                            have h9 : ownB T e en a = true := by simp only [ownB, *, Bool.true_or, Bool.or_true, Bool.or_false]
                                            rw [h9] at k
                                            exact k
                                          · refine w_aload c_143_261 rfl ?_
                                            refine w_aload c_143_262 rfl ?_
                                            refine w_getR c_143_263 sp_157 (by decide) rfl pr_157_32 ?_
                                            refine wc_137 c_143_266 sp_157 (Nat.le_of_ble_eq_true rfl) (by omega) ?_
                                            refine t_isHereW hB hO (q := 181) (by unfold isWd; omega) (by omega) h0 h1 hb hen (fun z => absurd hb0 z) (fun _ => ?_)
                                            rw [hsk]
                                            refine r_i ?_
                                            refine b_if_ne c_143_269 (fun h91_ => ?_) (fun h91_ => ?_)
                                            · refine z_push c_143_294 ?_
                                              refine w_goto c_143_295 ?_
                                              refine w_istore c_143_299 (Nat.le_of_ble_eq_true rfl) rfl ?_
                                              refine w_iload c_143_300 rfl ?_
                                              refine z_if_ne c_143_301 (by unfold aRg; omega) (fun h92_ => ?_) (fun h92_ => absurd (by decide) h92_)
                                              refine z_push c_143_370 ?_
                                              refine w_goto c_143_371 ?_
                                              refine w_istore c_143_375 (Nat.le_of_ble_eq_true rfl) rfl ?_
                                              refine w_iload c_143_376 rfl ?_
                                              refine z_if_ne c_143_377 (by unfold aRg; omega) (fun h93_ => ?_) (fun h93_ => absurd (by decide) h93_)
                                              refine z_push c_143_402 ?_
                                              refine w_goto c_143_403 ?_
                                              refine w_istore c_143_407 (Nat.le_of_ble_eq_true rfl) rfl ?_
                                              refine w_iload c_143_408 rfl ?_
                                              refine z_ret1 c_143_409 rfl ?_
                                              have h9 : ownB T e en a = true := by simp only [ownB, *, Bool.true_or, Bool.or_true, Bool.or_false]
                                              rw [h9] at k
                                              exact k
                                            · refine w_aload c_143_272 rfl ?_
                                              refine w_aload c_143_273 rfl ?_
                                              refine w_getR c_143_274 sp_157 (by decide) rfl pr_157_33 ?_
                                              refine wc_137 c_143_277 sp_157 (Nat.le_of_ble_eq_true rfl) (by omega) ?_
                                              refine t_isHereW hB hO (q := 182) (by unfold isWd; omega) (by omega) h0 h1 hb hen (fun z => absurd hb0 z) (fun _ => ?_)
                                              rw [hsk]
                                              refine r_i ?_
                                              refine b_if_ne c_143_280 (fun h94_ => ?_) (fun h94_ => ?_)
                                              · refine z_push c_143_294 ?_
                                                refine w_goto c_143_295 ?_
                                                refine w_istore c_143_299 (Nat.le_of_ble_eq_true rfl) rfl ?_
                                                refine w_iload c_143_300 rfl ?_
                                                refine z_if_ne c_143_301 (by unfold aRg; omega) (fun h95_ => ?_) (fun h95_ => absurd (by decide) h95_)
                                                refine z_push c_143_370 ?_
                                                refine w_goto c_143_371 ?_
                                                refine w_istore c_143_375 (Nat.le_of_ble_eq_true rfl) rfl ?_
                                                refine w_iload c_143_376 rfl ?_
                                                refine z_if_ne c_143_377 (by unfold aRg; omega) (fun h96_ => ?_) (fun h96_ => absurd (by decide) h96_)
                                                refine z_push c_143_402 ?_
                                                refine w_goto c_143_403 ?_
                                                refine w_istore c_143_407 (Nat.le_of_ble_eq_true rfl) rfl ?_
                                                refine w_iload c_143_408 rfl ?_
                                                refine z_ret1 c_143_409 rfl ?_
                                                have h9 : ownB T e en a = true := by simp only [ownB, *, Bool.true_or, Bool.or_true, Bool.or_false]
                                                rw [h9] at k
                                                exact k
                                              · refine w_aload c_143_283 rfl ?_
                                                refine w_aload c_143_284 rfl ?_
                                                refine w_getR c_143_285 sp_157 (by decide) rfl pr_157_34 ?_
                                                refine wc_137 c_143_288 sp_157 (Nat.le_of_ble_eq_true rfl) (by omega) ?_
                                                refine t_isHereW hB hO (q := 183) (by unfold isWd; omega) (by omega) h0 h1 hb hen (fun z => absurd hb0 z) (fun _ => ?_)
                                                rw [hsk]
                                                refine r_i ?_
                                                refine b_if_eq c_143_291 (fun h97_ => ?_) (fun h97_ => ?_)
                                                · refine z_push c_143_298 ?_
                                                  refine w_istore c_143_299 (Nat.le_of_ble_eq_true rfl) rfl ?_
                                                  refine w_iload c_143_300 rfl ?_
                                                  refine z_if_ne c_143_301 (by unfold aRg; omega) (fun h98_ => absurd h98_ (by decide)) (fun h98_ => ?_)
                                                  refine w_aload c_143_304 rfl ?_
                                                  refine w_aload c_143_305 rfl ?_
                                                  refine w_getR c_143_306 sp_157 (by decide) rfl pr_157_35 ?_
                                                  refine wc_137 c_143_309 sp_157 (Nat.le_of_ble_eq_true rfl) (by omega) ?_
                                                  refine t_isHereW hB hO (q := 184) (by unfold isWd; omega) (by omega) h0 h1 hb hen (fun z => absurd hb0 z) (fun _ => ?_)
                                                  rw [hsk]
                                                  refine r_i ?_
                                                  refine b_if_ne c_143_312 (fun h99_ => ?_) (fun h99_ => ?_)
                                                  · refine z_push c_143_370 ?_
                                                    refine w_goto c_143_371 ?_
                                                    refine w_istore c_143_375 (Nat.le_of_ble_eq_true rfl) rfl ?_
                                                    refine w_iload c_143_376 rfl ?_
                                                    refine z_if_ne c_143_377 (by unfold aRg; omega) (fun h100_ => ?_) (fun h100_ => absurd (by decide) h100_)
                                                    refine z_push c_143_402 ?_
                                                    refine w_goto c_143_403 ?_
                                                    refine w_istore c_143_407 (Nat.le_of_ble_eq_true rfl) rfl ?_
                                                    refine w_iload c_143_408 rfl ?_
                                                    refine z_ret1 c_143_409 rfl ?_
                                                    have h9 : ownB T e en a = true := by simp only [ownB, *, Bool.true_or, Bool.or_true, Bool.or_false]
                                                    rw [h9] at k
                                                    exact k
                                                  · refine w_aload c_143_315 rfl ?_
                                                    refine w_aload c_143_316 rfl ?_
                                                    refine w_getR c_143_317 sp_157 (by decide) rfl pr_157_36 ?_
                                                    refine wc_137 c_143_320 sp_157 (Nat.le_of_ble_eq_true rfl) (by omega) ?_
                                                    refine t_isHereW hB hO (q := 185) (by unfold isWd; omega) (by omega) h0 h1 hb hen (fun z => absurd hb0 z) (fun _ => ?_)
                                                    rw [hsk]
                                                    refine r_i ?_
                                                    refine b_if_ne c_143_323 (fun h101_ => ?_) (fun h101_ => ?_)
                                                    · refine z_push c_143_370 ?_
                                                      refine w_goto c_143_371 ?_
                                                      refine w_istore c_143_375 (Nat.le_of_ble_eq_true rfl) rfl ?_
                                                      refine w_iload c_143_376 rfl ?_
                                                      refine z_if_ne c_143_377 (by unfold aRg; omega) (fun h102_ => ?_) (fun h102_ => absurd (by decide) h102_)
                                                      refine z_push c_143_402 ?_
                                                      refine w_goto c_143_403 ?_
                                                      refine w_istore c_143_407 (Nat.le_of_ble_eq_true rfl) rfl ?_
                                                      refine w_iload c_143_408 rfl ?_
                                                      refine z_ret1 c_143_409 rfl ?_
                                                      have h9 : ownB T e en a = true := by simp only [ownB, *, Bool.true_or, Bool.or_true, Bool.or_false]
                                                      rw [h9] at k
                                                      exact k
                                                    · refine w_aload c_143_326 rfl ?_
                                                      refine w_aload c_143_327 rfl ?_
                                                      refine w_getR c_143_328 sp_157 (by decide) rfl pr_157_37 ?_
                                                      refine wc_137 c_143_331 sp_157 (Nat.le_of_ble_eq_true rfl) (by omega) ?_
                                                      refine t_isHereW hB hO (q := 186) (by unfold isWd; omega) (by omega) h0 h1 hb hen (fun z => absurd hb0 z) (fun _ => ?_)
                                                      rw [hsk]
                                                      refine r_i ?_
                                                      refine b_if_ne c_143_334 (fun h103_ => ?_) (fun h103_ => ?_)
                                                      · refine z_push c_143_370 ?_
                                                        refine w_goto c_143_371 ?_
                                                        refine w_istore c_143_375 (Nat.le_of_ble_eq_true rfl) rfl ?_
                                                        refine w_iload c_143_376 rfl ?_
                                                        refine z_if_ne c_143_377 (by unfold aRg; omega) (fun h104_ => ?_) (fun h104_ => absurd (by decide) h104_)
                                                        refine z_push c_143_402 ?_
                                                        refine w_goto c_143_403 ?_
                                                        refine w_istore c_143_407 (Nat.le_of_ble_eq_true rfl) rfl ?_
                                                        refine w_iload c_143_408 rfl ?_
                                                        refine z_ret1 c_143_409 rfl ?_
                                                        have h9 : ownB T e en a = true := by simp only [ownB, *, Bool.true_or, Bool.or_true, Bool.or_false]
                                                        rw [h9] at k
                                                        exact k
                                                      · refine w_aload c_143_337 rfl ?_
                                                        refine w_aload c_143_338 rfl ?_
                                                        refine w_getR c_143_339 sp_157 (by decide) rfl pr_157_38 ?_
                                                        refine wc_137 c_143_342 sp_157 (Nat.le_of_ble_eq_true rfl) (by omega) ?_
                                                        refine t_isHereW hB hO (q := 187) (by unfold isWd; omega) (by omega) h0 h1 hb hen (fun z => absurd hb0 z) (fun _ => ?_)
                                                        rw [hsk]
                                                        refine r_i ?_
                                                        refine b_if_ne c_143_345 (fun h105_ => ?_) (fun h105_ => ?_)
                                                        · refine z_push c_143_370 ?_
                                                          refine w_goto c_143_371 ?_
                                                          refine w_istore c_143_375 (Nat.le_of_ble_eq_true rfl) rfl ?_
                                                          refine w_iload c_143_376 rfl ?_
                                                          refine z_if_ne c_143_377 (by unfold aRg; omega) (fun h106_ => ?_) (fun h106_ => absurd (by decide) h106_)
                                                          refine z_push c_143_402 ?_
                                                          refine w_goto c_143_403 ?_
                                                          refine w_istore c_143_407 (Nat.le_of_ble_eq_true rfl) rfl ?_
                                                          refine w_iload c_143_408 rfl ?_
                                                          refine z_ret1 c_143_409 rfl ?_
                                                          have h9 : ownB T e en a = true := by simp only [ownB, *, Bool.true_or, Bool.or_true, Bool.or_false]
                                                          rw [h9] at k
                                                          exact k
                                                        · refine w_aload c_143_348 rfl ?_
                                                          refine w_aload c_143_349 rfl ?_
                                                          refine w_getR c_143_350 sp_157 (by decide) rfl pr_157_39 ?_
                                                          refine wc_137 c_143_353 sp_157 (Nat.le_of_ble_eq_true rfl) (by omega) ?_
                                                          refine t_isHereW hB hO (q := 188) (by unfold isWd; omega) (by omega) h0 h1 hb hen (fun z => absurd hb0 z) (fun _ => ?_)
                                                          rw [hsk]
                                                          refine r_i ?_
                                                          refine b_if_ne c_143_356 (fun h107_ => ?_) (fun h107_ => ?_)
                                                          · refine z_push c_143_370 ?_
                                                            refine w_goto c_143_371 ?_
                                                            refine w_istore c_143_375 (Nat.le_of_ble_eq_true rfl) rfl ?_
                                                            refine w_iload c_143_376 rfl ?_
                                                            refine z_if_ne c_143_377 (by unfold aRg; omega) (fun h108_ => ?_) (fun h108_ => absurd (by decide) h108_)
                                                            refine z_push c_143_402 ?_
                                                            refine w_goto c_143_403 ?_
                                                            refine w_istore c_143_407 (Nat.le_of_ble_eq_true rfl) rfl ?_
                                                            refine w_iload c_143_408 rfl ?_
                                                            refine z_ret1 c_143_409 rfl ?_
                                                            have h9 : ownB T e en a = true := by simp only [ownB, *, Bool.true_or, Bool.or_true, Bool.or_false]
                                                            rw [h9] at k
                                                            exact k
                                                          · refine w_aload c_143_359 rfl ?_
                                                            refine w_aload c_143_360 rfl ?_
                                                            refine w_getR c_143_361 sp_157 (by decide) rfl pr_157_40 ?_
                                                            refine wc_137 c_143_364 sp_157 (Nat.le_of_ble_eq_true rfl) (by omega) ?_
                                                            refine t_isHereW hB hO (q := 189) (by unfold isWd; omega) (by omega) h0 h1 hb hen (fun z => absurd hb0 z) (fun _ => ?_)
                                                            rw [hsk]
                                                            refine r_i ?_
                                                            refine b_if_eq c_143_367 (fun h109_ => ?_) (fun h109_ => ?_)
                                                            · refine z_push c_143_374 ?_
                                                              refine w_istore c_143_375 (Nat.le_of_ble_eq_true rfl) rfl ?_
                                                              refine w_iload c_143_376 rfl ?_
                                                              refine z_if_ne c_143_377 (by unfold aRg; omega) (fun h110_ => absurd h110_ (by decide)) (fun h110_ => ?_)
                                                              refine w_aload c_143_380 rfl ?_
                                                              refine w_aload c_143_381 rfl ?_
                                                              refine w_getR c_143_382 sp_157 (by decide) rfl pr_157_41 ?_
                                                              refine wc_137 c_143_385 sp_157 (Nat.le_of_ble_eq_true rfl) (by omega) ?_
                                                              refine t_isHereW hB hO (q := 190) (by unfold isWd; omega) (by omega) h0 h1 hb hen (fun z => absurd hb0 z) (fun _ => ?_)
                                                              rw [hsk]
                                                              refine r_i ?_
                                                              refine b_if_ne c_143_388 (fun h111_ => ?_) (fun h111_ => ?_)
                                                              · refine z_push c_143_402 ?_
                                                                refine w_goto c_143_403 ?_
                                                                refine w_istore c_143_407 (Nat.le_of_ble_eq_true rfl) rfl ?_
                                                                refine w_iload c_143_408 rfl ?_
                                                                refine z_ret1 c_143_409 rfl ?_
                                                                have h9 : ownB T e en a = true := by simp only [ownB, *, Bool.true_or, Bool.or_true, Bool.or_false]
                                                                rw [h9] at k
                                                                exact k
                                                              · refine w_aload c_143_391 rfl ?_
                                                                refine w_aload c_143_392 rfl ?_
                                                                refine w_getR c_143_393 sp_157 (by decide) rfl pr_157_42 ?_
                                                                refine wc_137 c_143_396 sp_157 (Nat.le_of_ble_eq_true rfl) (by omega) ?_
                                                                refine t_isHereW hB hO (q := 191) (by unfold isWd; omega) (by omega) h0 h1 hb hen (fun z => absurd hb0 z) (fun _ => ?_)
                                                                rw [hsk]
                                                                refine r_i ?_
                                                                refine b_if_eq c_143_399 (fun h112_ => ?_) (fun h112_ => ?_)
                                                                · refine z_push c_143_406 ?_
                                                                  refine w_istore c_143_407 (Nat.le_of_ble_eq_true rfl) rfl ?_
                                                                  refine w_iload c_143_408 rfl ?_
                                                                  refine z_ret0 c_143_409 rfl ?_
                                                                  have h9 : ownB T e en a = false := by simp only [ownB, *, Bool.true_or, Bool.or_true, Bool.or_false]
                                                                  rw [h9] at k
                                                                  exact k
                                                                · refine z_push c_143_402 ?_
                                                                  refine w_goto c_143_403 ?_
                                                                  refine w_istore c_143_407 (Nat.le_of_ble_eq_true rfl) rfl ?_
                                                                  refine w_iload c_143_408 rfl ?_
                                                                  refine z_ret1 c_143_409 rfl ?_
                                                                  have h9 : ownB T e en a = true := by simp only [ownB, *, Bool.true_or, Bool.or_true, Bool.or_false]
                                                                  rw [h9] at k
                                                                  exact k
                                                            · refine z_push c_143_370 ?_
                                                              refine w_goto c_143_371 ?_
                                                              refine w_istore c_143_375 (Nat.le_of_ble_eq_true rfl) rfl ?_
                                                              refine w_iload c_143_376 rfl ?_
                                                              refine z_if_ne c_143_377 (by unfold aRg; omega) (fun h113_ => ?_) (fun h113_ => absurd (by decide) h113_)
                                                              refine z_push c_143_402 ?_
                                                              refine w_goto c_143_403 ?_
                                                              refine w_istore c_143_407 (Nat.le_of_ble_eq_true rfl) rfl ?_
                                                              refine w_iload c_143_408 rfl ?_
                                                              refine z_ret1 c_143_409 rfl ?_
                                                              have h9 : ownB T e en a = true := by simp only [ownB, *, Bool.true_or, Bool.or_true, Bool.or_false]
                                                              rw [h9] at k
                                                              exact k
                                                · refine z_push c_143_294 ?_
                                                  refine w_goto c_143_295 ?_
                                                  refine w_istore c_143_299 (Nat.le_of_ble_eq_true rfl) rfl ?_
                                                  refine w_iload c_143_300 rfl ?_
                                                  refine z_if_ne c_143_301 (by unfold aRg; omega) (fun h114_ => ?_) (fun h114_ => absurd (by decide) h114_)
                                                  refine z_push c_143_370 ?_
                                                  refine w_goto c_143_371 ?_
                                                  refine w_istore c_143_375 (Nat.le_of_ble_eq_true rfl) rfl ?_
                                                  refine w_iload c_143_376 rfl ?_
                                                  refine z_if_ne c_143_377 (by unfold aRg; omega) (fun h115_ => ?_) (fun h115_ => absurd (by decide) h115_)
                                                  refine z_push c_143_402 ?_
                                                  refine w_goto c_143_403 ?_
                                                  refine w_istore c_143_407 (Nat.le_of_ble_eq_true rfl) rfl ?_
                                                  refine w_iload c_143_408 rfl ?_
                                                  refine z_ret1 c_143_409 rfl ?_
                                                  have h9 : ownB T e en a = true := by simp only [ownB, *, Bool.true_or, Bool.or_true, Bool.or_false]
                                                  rw [h9] at k
                                                  exact k
                                    · refine z_push c_143_218 ?_
                                      refine w_goto c_143_219 ?_
                                      refine w_istore c_143_223 (Nat.le_of_ble_eq_true rfl) rfl ?_
                                      refine w_iload c_143_224 rfl ?_
                                      refine z_if_ne c_143_225 (by unfold aRg; omega) (fun h116_ => ?_) (fun h116_ => absurd (by decide) h116_)
                                      refine z_push c_143_294 ?_
                                      refine w_goto c_143_295 ?_
                                      refine w_istore c_143_299 (Nat.le_of_ble_eq_true rfl) rfl ?_
                                      refine w_iload c_143_300 rfl ?_
                                      refine z_if_ne c_143_301 (by unfold aRg; omega) (fun h117_ => ?_) (fun h117_ => absurd (by decide) h117_)
                                      refine z_push c_143_370 ?_
                                      refine w_goto c_143_371 ?_
                                      refine w_istore c_143_375 (Nat.le_of_ble_eq_true rfl) rfl ?_
                                      refine w_iload c_143_376 rfl ?_
                                      refine z_if_ne c_143_377 (by unfold aRg; omega) (fun h118_ => ?_) (fun h118_ => absurd (by decide) h118_)
                                      refine z_push c_143_402 ?_
                                      refine w_goto c_143_403 ?_
                                      refine w_istore c_143_407 (Nat.le_of_ble_eq_true rfl) rfl ?_
                                      refine w_iload c_143_408 rfl ?_
                                      refine z_ret1 c_143_409 rfl ?_
                                      have h9 : ownB T e en a = true := by simp only [ownB, *, Bool.true_or, Bool.or_true, Bool.or_false]
                                      rw [h9] at k
                                      exact k
                        · refine z_push c_143_142 ?_
                          refine w_goto c_143_143 ?_
                          refine w_istore c_143_147 (Nat.le_of_ble_eq_true rfl) rfl ?_
                          refine w_iload c_143_148 rfl ?_
                          refine z_if_ne c_143_149 (by unfold aRg; omega) (fun h119_ => ?_) (fun h119_ => absurd (by decide) h119_)
                          refine z_push c_143_218 ?_
                          refine w_goto c_143_219 ?_
                          refine w_istore c_143_223 (Nat.le_of_ble_eq_true rfl) rfl ?_
                          refine w_iload c_143_224 rfl ?_
                          refine z_if_ne c_143_225 (by unfold aRg; omega) (fun h120_ => ?_) (fun h120_ => absurd (by decide) h120_)
                          refine z_push c_143_294 ?_
                          refine w_goto c_143_295 ?_
                          refine w_istore c_143_299 (Nat.le_of_ble_eq_true rfl) rfl ?_
                          refine w_iload c_143_300 rfl ?_
                          refine z_if_ne c_143_301 (by unfold aRg; omega) (fun h121_ => ?_) (fun h121_ => absurd (by decide) h121_)
                          refine z_push c_143_370 ?_
                          refine w_goto c_143_371 ?_
                          refine w_istore c_143_375 (Nat.le_of_ble_eq_true rfl) rfl ?_
                          refine w_iload c_143_376 rfl ?_
                          refine z_if_ne c_143_377 (by unfold aRg; omega) (fun h122_ => ?_) (fun h122_ => absurd (by decide) h122_)
                          refine z_push c_143_402 ?_
                          refine w_goto c_143_403 ?_
                          refine w_istore c_143_407 (Nat.le_of_ble_eq_true rfl) rfl ?_
                          refine w_iload c_143_408 rfl ?_
                          refine z_ret1 c_143_409 rfl ?_
                          have h9 : ownB T e en a = true := by simp only [ownB, *, Bool.true_or, Bool.or_true, Bool.or_false]
                          rw [h9] at k
                          exact k
            · refine z_push c_143_66 ?_
              refine w_goto c_143_67 ?_
              refine w_istore c_143_71 (Nat.le_of_ble_eq_true rfl) rfl ?_
              refine w_iload c_143_72 rfl ?_
              refine z_if_ne c_143_73 (by unfold aRg; omega) (fun h123_ => ?_) (fun h123_ => absurd (by decide) h123_)
              refine z_push c_143_142 ?_
              refine w_goto c_143_143 ?_
              refine w_istore c_143_147 (Nat.le_of_ble_eq_true rfl) rfl ?_
              refine w_iload c_143_148 rfl ?_
              refine z_if_ne c_143_149 (by unfold aRg; omega) (fun h124_ => ?_) (fun h124_ => absurd (by decide) h124_)
              refine z_push c_143_218 ?_
              refine w_goto c_143_219 ?_
              refine w_istore c_143_223 (Nat.le_of_ble_eq_true rfl) rfl ?_
              refine w_iload c_143_224 rfl ?_
              refine z_if_ne c_143_225 (by unfold aRg; omega) (fun h125_ => ?_) (fun h125_ => absurd (by decide) h125_)
              refine z_push c_143_294 ?_
              refine w_goto c_143_295 ?_
              refine w_istore c_143_299 (Nat.le_of_ble_eq_true rfl) rfl ?_
              refine w_iload c_143_300 rfl ?_
              refine z_if_ne c_143_301 (by unfold aRg; omega) (fun h126_ => ?_) (fun h126_ => absurd (by decide) h126_)
              refine z_push c_143_370 ?_
              refine w_goto c_143_371 ?_
              refine w_istore c_143_375 (Nat.le_of_ble_eq_true rfl) rfl ?_
              refine w_iload c_143_376 rfl ?_
              refine z_if_ne c_143_377 (by unfold aRg; omega) (fun h127_ => ?_) (fun h127_ => absurd (by decide) h127_)
              refine z_push c_143_402 ?_
              refine w_goto c_143_403 ?_
              refine w_istore c_143_407 (Nat.le_of_ble_eq_true rfl) rfl ?_
              refine w_iload c_143_408 rfl ?_
              refine z_ret1 c_143_409 rfl ?_
              have h9 : ownB T e en a = true := by simp only [ownB, *, Bool.true_or, Bool.or_true, Bool.or_false]
              rw [h9] at k
              exact k

