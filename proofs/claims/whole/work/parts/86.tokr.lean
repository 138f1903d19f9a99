/-! the reference's reader, mark by mark -/
/-- the reference looks for mark j from a on -/
abbrev rA (T : Int → Int) (n : Int) (j : Nat) (a : Int) : Prop := skip T n a = tkP T n j ∧ 0 ≤ a ∧ a ≤ n
abbrev oT (I : aFI) (T : Int → Int) (n : Int) (j : Nat) (a b bp np nm : Int) : aFI := oP I a (tkS T n j).2 b bp np nm
abbrev aF (n a en : Int) : Prop := (0 ≤ a ∧ a ≤ n) ∧ (-1 ≤ en ∧ en ≤ 1600)
section RTOK
variable {d : Nat} {I : aFI} {L : aFL} {Q : aPo} {T : Int → Int} {n : Int} {sh : Nat} {su : Option Nat} {j : Nat} {a en b bp np nm : Int}
theorem en_rg (hn : 0 ≤ n ∧ n ≤ 1600) : -1 ≤ (tkS T n j).2 ∧ (tkS T n j).2 ≤ 1600 := by
  have := tkS_rg (T := T) hn.1 j
  omega
theorem en_aRg (h : -1 ≤ en ∧ en ≤ 1600) : aRg en := by unfold aRg; omega
theorem rA_p (hn : 0 ≤ n) : rA T n j (tkP T n j) := ⟨tkP_sk, tkP_rg hn⟩
theorem rA_aF (hn : 0 ≤ n ∧ n ≤ 1600) (h : rA T n j a) : aF n a (tkS T n j).2 := ⟨h.2, en_rg hn⟩
theorem tt_look (hB : oB I T n) (hA : rA T n j a) (k : Q (some (.int (iI (lkc T n (tkP T n j))))) (oT I T n j (tkP T n j) b bp np nm) L (aR sh su)) : aWp none d 136 0 [.ref 157] [] (oT I T n j a b bp np nm) L (aR sh su) Q := by
  refine t_look hB hA.2.1 hA.2.2 ?_
  rw [hA.1]; exact k
/-- after a fault: looking moves no more than the place -/
theorem tf_look (hB : oB I T n) (hA : aF n a en) (k : ∀ (c a2 : Int), (-1 ≤ c ∧ c < 256) → aF n a2 en → Q (some (.int (iI c))) (oP I a2 en b bp np nm) L (aR sh su)) : aWp none d 136 0 [.ref 157] [] (oP I a en b bp np nm) L (aR sh su) Q := by
  refine t_look hB hA.1.1 hA.1.2 ?_
  have h1 : a ≤ skip T n a := scan_ge
  have h2 : skip T n a ≤ n := scan_le hA.1.2
  refine k _ _ ?_ ⟨⟨by omega, h2⟩, hA.2⟩
  have := hB.2.2.2 (skip T n a)
  unfold lkc; split <;> omega
theorem rA_word (hn : 0 ≤ n ∧ n ≤ 1600) {q : Nat} (hh : atW T n (tkS T n j).2 (tkP T n j) q = true) : oP I (tkP T n j + (WL q).length) (tkP T n j + (WL q).length) b bp np nm = oT I T n (j + 1) (tkP T n j + (WL q).length) b bp np nm ∧ rA T n (j + 1) (tkP T n j + (WL q).length) := by
  have h1 := hereB_iff.mp hh
  have hl : isLe T (tkP T n j) = true := isLe_iff.mpr h1.2.1
  have hs := tkS_word h1.1 hl
  have hw : wend T n (tkP T n j) = tkP T n j + (WL q).length := by have := h1.2.2.2.1; omega
  have hr := tkS_rg (T := T) hn.1 (j + 1)
  rw [hs, hw] at hr
  constructor
  · show _ = oP I _ (tkS T n (j + 1)).2 b bp np nm
    rw [hs, hw]
  · refine ⟨?_, hr.1⟩
    unfold tkP; rw [hs]; show skip T n _ = skip T n (wend T n (tkP T n j)); rw [hw]; rfl
theorem tt_takesW (hB : oB I T n) (hO : oW I) {q : Nat} (hq : isWd q) (hd : 3 ≤ d) (hA : rA T n j a) (kt : tkK T n j = wcode q → ∀ a2 : Int, rA T n (j + 1) a2 → Q (some (.int (aBo true))) (oT I T n (j + 1) a2 0 bp np nm) L (aR sh su)) (kf : ¬ tkK T n j = wcode q → Q (some (.int (aBo false))) (oT I T n j (tkP T n j) 0 bp np nm) L (aR sh su)) : aWp none d 138 0 [.ref 157, .ref q] [] (oT I T n j a 0 bp np nm) L (aR sh su) Q := by
  have hn := hB.2.2.1
  refine t_takesW hB hO hq hd hA.2.1 hA.2.2 (by unfold aRg; omega) (en_aRg (en_rg hn)) (fun z => absurd rfl z) (fun _ hh => ?_) (fun _ hh => ?_)
  · rw [hA.1] at hh ⊢
    have h1 := rA_word (I := I) (b := 0) (bp := bp) (np := np) (nm := nm) hn hh
    rw [h1.1]
    exact kt ((tkK_word hB.2.2.2 hn hq).mpr hh) _ h1.2
  · rw [hA.1] at hh ⊢
    exact kf (fun z => Bool.noConfusion (((tkK_word hB.2.2.2 hn hq).mp z).symm.trans hh))
theorem tf_takesW (hB : oB I T n) (hO : oW I) {q : Nat} (hq : isWd q) (hd : 3 ≤ d) (hb : ¬ b = 0) (hbr : aRg b) (hA : aF n a en) (k : Q (some (.int (aBo false))) (oP I a en b bp np nm) L (aR sh su)) : aWp none d 138 0 [.ref 157, .ref q] [] (oP I a en b bp np nm) L (aR sh su) Q :=
  t_takesW hB hO hq hd hA.1.1 hA.1.2 hbr (en_aRg hA.2) (fun _ => k) (fun z => absurd z hb) (fun z => absurd z hb)
theorem tt_asksW (hB : oB I T n) (hO : oW I) {q : Nat} (hq : isWd q) (hd : 4 ≤ d) (hA : rA T n j a) (kt : tkK T n j = wcode q → ∀ a2 : Int, rA T n (j + 1) a2 → Q none (oT I T n (j + 1) a2 0 bp np nm) L (aR sh su)) (kf : ¬ tkK T n j = wcode q → Q none (oT I T n j (tkP T n j) 1 (tkP T n j) np nm) L (aR sh su)) : aWp none d 139 0 [.ref 157, .ref q] [] (oT I T n j a 0 bp np nm) L (aR sh su) Q := by
  have hn := hB.2.2.1
  refine t_asksW hB hO hq hd hA.2.1 hA.2.2 (by unfold aRg; omega) (en_aRg (en_rg hn)) (fun z => absurd rfl z) (fun _ hh => ?_) (fun _ hh => ?_)
  · rw [hA.1] at hh ⊢
    have h1 := rA_word (I := I) (b := 0) (bp := bp) (np := np) (nm := nm) hn hh
    rw [h1.1]
    exact kt ((tkK_word hB.2.2.2 hn hq).mpr hh) _ h1.2
  · rw [hA.1] at hh ⊢
    exact kf (fun z => Bool.noConfusion (((tkK_word hB.2.2.2 hn hq).mp z).symm.trans hh))
theorem tf_asksW (hB : oB I T n) (hO : oW I) {q : Nat} (hq : isWd q) (hd : 4 ≤ d) (hb : ¬ b = 0) (hbr : aRg b) (hA : aF n a en) (k : Q none (oP I a en b bp np nm) L (aR sh su)) : aWp none d 139 0 [.ref 157, .ref q] [] (oP I a en b bp np nm) L (aR sh su) Q :=
  t_asksW hB hO hq hd hA.1.1 hA.1.2 hbr (en_aRg hA.2) (fun _ => k) (fun z => absurd z hb) (fun z => absurd z hb)
theorem tt_isHereW (hB : oB I T n) (hO : oW I) {q : Nat} (hq : isWd q) (hd : 2 ≤ d) (hA : rA T n j a) (k : Q (some (.int (aBo (decide (tkK T n j = wcode q))))) (oT I T n j (tkP T n j) 0 bp np nm) L (aR sh su)) : aWp none d 137 0 [.ref 157, .ref q, .null, .null] [] (oT I T n j a 0 bp np nm) L (aR sh su) Q := by
  have hn := hB.2.2.1
  refine t_isHereW hB hO hq hd hA.2.1 hA.2.2 (by unfold aRg; omega) (en_aRg (en_rg hn)) (fun z => absurd rfl z) (fun _ => ?_)
  rw [hA.1]
  have h1 := tkK_word hB.2.2.2 hn hq (T := T) (j := j)
  have h2 : atW T n (tkS T n j).2 (tkP T n j) q = decide (tkK T n j = wcode q) := by
    by_cases h3 : tkK T n j = wcode q
    · rw [decide_eq_true h3]; exact h1.mp h3
    · rw [decide_eq_false h3]
      cases h4 : atW T n (tkS T n j).2 (tkP T n j) q
      · rfl
      · exact absurd (h1.mpr h4) h3
  rw [h2]; exact k
/-- the signs -/
abbrev sgn (c : Int) : Prop := (0 ≤ c ∧ c < 256) ∧ ¬ (97 ≤ c ∧ c ≤ 122) ∧ ¬ (48 ≤ c ∧ c ≤ 57)
theorem rA_sign (hB : oB I T n) {c : Int} (hc : sgn c) (hk : tkK T n j = c) : oP I (tkP T n j + 1) (tkS T n j).2 b bp np nm = oT I T n (j + 1) (tkP T n j + 1) b bp np nm ∧ rA T n (j + 1) (tkP T n j + 1) := by
  have hn := hB.2.2.1
  have h1 := (tkK_sign hB.2.2.2 hc.1 hc.2.1 hc.2.2).mp hk
  have hlt : tkP T n j < n := by
    by_cases h : tkP T n j < n
    · exact h
    · unfold lkc at h1; rw [if_neg h] at h1; omega
  have hte : T (tkP T n j) = c := by unfold lkc at h1; rwa [if_pos hlt] at h1
  have hs := tkS_sign hlt (by rw [isLe_iff, hte]; exact hc.2.1) (by rw [isDi_iff, hte]; exact hc.2.2)
  have hr := tkS_rg (T := T) hn.1 (j + 1)
  rw [hs] at hr
  constructor
  · show _ = oP I _ (tkS T n (j + 1)).2 b bp np nm
    rw [hs]
  · refine ⟨?_, hr.1⟩
    show _ = skip T n (tkS T n (j + 1)).1
    rw [hs]
theorem tt_takesSign (hB : oB I T n) {c : Int} (hc : sgn c) (hd : 1 ≤ d) (hA : rA T n j a) (kt : tkK T n j = c → ∀ a2 : Int, a2 = tkP T n j + 1 → rA T n (j + 1) a2 → Q (some (.int (aBo true))) (oT I T n (j + 1) a2 0 bp np nm) L (aR sh su)) (kf : ¬ tkK T n j = c → Q (some (.int (aBo false))) (oT I T n j (tkP T n j) 0 bp np nm) L (aR sh su)) : aWp none d 140 0 [.ref 157, .int (iI c)] [] (oT I T n j a 0 bp np nm) L (aR sh su) Q := by
  have hn := hB.2.2.1
  have hs := tkK_sign hB.2.2.2 hc.1 hc.2.1 hc.2.2 (T := T) (n := n) (j := j)
  refine t_takesSign hB (by omega) hd hA.2.1 hA.2.2 (by unfold aRg; omega) (en_aRg (en_rg hn)) (fun z => absurd rfl z) (fun _ hh => ?_) (fun _ hh => ?_)
  · rw [hA.1] at hh ⊢
    have h1 := rA_sign (b := 0) (bp := bp) (np := np) (nm := nm) hB hc (hs.mpr hh)
    rw [h1.1]; exact kt (hs.mpr hh) _ rfl h1.2
  · rw [hA.1] at hh ⊢
    exact kf (fun z => hh (hs.mp z))
theorem tf_takesSign (hB : oB I T n) {c : Int} (hc : -2 ≤ c ∧ c < 256) (hd : 1 ≤ d) (hb : ¬ b = 0) (hbr : aRg b) (hA : aF n a en) (k : Q (some (.int (aBo false))) (oP I a en b bp np nm) L (aR sh su)) : aWp none d 140 0 [.ref 157, .int (iI c)] [] (oP I a en b bp np nm) L (aR sh su) Q :=
  t_takesSign hB hc hd hA.1.1 hA.1.2 hbr (en_aRg hA.2) (fun _ => k) (fun z => absurd z hb) (fun z => absurd z hb)
theorem tt_asksSign (hB : oB I T n) {c : Int} (hc : sgn c) (hd : 2 ≤ d) (hA : rA T n j a) (kt : tkK T n j = c → ∀ a2 : Int, rA T n (j + 1) a2 → Q none (oT I T n (j + 1) a2 0 bp np nm) L (aR sh su)) (kf : ¬ tkK T n j = c → Q none (oT I T n j (tkP T n j) 1 (tkP T n j) np nm) L (aR sh su)) : aWp none d 141 0 [.ref 157, .int (iI c)] [] (oT I T n j a 0 bp np nm) L (aR sh su) Q := by
  have hn := hB.2.2.1
  have hs := tkK_sign hB.2.2.2 hc.1 hc.2.1 hc.2.2 (T := T) (n := n) (j := j)
  refine t_asksSign hB (by omega) hd hA.2.1 hA.2.2 (by unfold aRg; omega) (en_aRg (en_rg hn)) (fun z => absurd rfl z) (fun _ hh => ?_) (fun _ hh => ?_)
  · rw [hA.1] at hh ⊢
    have h1 := rA_sign (b := 0) (bp := bp) (np := np) (nm := nm) hB hc (hs.mpr hh)
    rw [h1.1]; exact kt (hs.mpr hh) _ h1.2
  · rw [hA.1] at hh ⊢
    exact kf (fun z => hh (hs.mp z))
theorem tf_asksSign (hB : oB I T n) {c : Int} (hc : -2 ≤ c ∧ c < 256) (hd : 2 ≤ d) (hb : ¬ b = 0) (hbr : aRg b) (hA : aF n a en) (k : Q none (oP I a en b bp np nm) L (aR sh su)) : aWp none d 141 0 [.ref 157, .int (iI c)] [] (oP I a en b bp np nm) L (aR sh su) Q :=
  t_asksSign hB hc hd hA.1.1 hA.1.2 hbr (en_aRg hA.2) (fun _ => k) (fun z => absurd z hb) (fun z => absurd z hb)
/-- a number -/
theorem tt_number (hB : oB I T n) {lo hi : Int} (hlo : 0 ≤ lo ∧ lo < 20000) (hhi : 0 ≤ hi ∧ hi < 20000) (hd : 1 ≤ d) (hA : rA T n j a) (k1 : ¬ tkK T n j = 339 → Q (some (.int (iI 0))) (oP I (tkP T n j) (tkS T n j).2 1 (tkP T n j) np nm) L (aR sh su)) (k2 : tkK T n j = 339 → tkZ T n j = -1 → ∀ a2 en2 : Int, aF n a2 en2 → Q (some (.int (iI 0))) (oP I a2 en2 1 (tkP T n j + 4) np nm) L (aR sh su)) (k3 : tkK T n j = 339 → (0 ≤ tkZ T n j ∧ tkZ T n j ≤ 9999) → ¬ (lo ≤ tkZ T n j ∧ tkZ T n j ≤ hi) → ∀ a2 en2 : Int, aF n a2 en2 → Q (some (.int (iI (tkZ T n j)))) (oP I a2 en2 2 (tkP T n j) (tkP T n j) nm) L (aR sh su)) (k4 : tkK T n j = 339 → (0 ≤ tkZ T n j ∧ tkZ T n j ≤ 9999) → (lo ≤ tkZ T n j ∧ tkZ T n j ≤ hi) → ∀ a2 : Int, rA T n (j + 1) a2 → Q (some (.int (iI (tkZ T n j)))) (oT I T n (j + 1) a2 0 bp (tkP T n j) nm) L (aR sh su)) : aWp none d 142 0 [.ref 157, .int (iI lo), .int (iI hi), .null, .null] [] (oT I T n j a 0 bp np nm) L (aR sh su) Q := by
  have hn := hB.2.2.1
  have hdg := tkK_dig hB.2.2.2 (T := T) (n := n) (j := j)
  have hpr := tkP_rg (T := T) (n := n) (j := j) hn.1
  have hde : tkP T n j ≤ dend T n (tkP T n j) := scan_ge
  have hdl : dend T n (tkP T n j) ≤ n := scan_le hpr.2
  have hz : tkK T n j = 339 → (tkP T n j < n ∧ ¬ isLe T (tkP T n j) = true ∧ isDi T (tkP T n j) = true) ∧ tkZ T n j = (if 4 < dend T n (tkP T n j) - tkP T n j then -1 else nval T n (tkP T n j)) := by
    intro h
    have h1 := hdg.mp h
    unfold digAt at h1
    have h1 := of_decide_eq_true h1
    have hl : ¬ isLe T (tkP T n j) = true := by rw [isLe_iff]; omega
    have hdi : isDi T (tkP T n j) = true := isDi_iff.mpr h1.2.1
    refine ⟨⟨h1.1, hl, hdi⟩, ?_⟩
    unfold tkZ; rw [if_neg (by omega), if_neg hl, if_pos hdi]
  have hnv : dend T n (tkP T n j) - tkP T n j ≤ 4 → 0 ≤ nval T n (tkP T n j) ∧ nval T n (tkP T n j) ≤ 9999 := by
    intro h
    have h2 := nv_rg (T := T) (p := tkP T n j) (dend T n (tkP T n j) - tkP T n j).toNat (by omega) (fun i h3 h4 => isDi_iff.mp (scan_all (p := isDi T) (e := n) (a := tkP T n j) (by omega) (show tkP T n j + i < dend T n (tkP T n j) by omega)))
    unfold nval; omega
  refine t_number hB hlo hhi hd hA.2.1 hA.2.2 (by unfold aRg; omega) (en_aRg (en_rg hn)) (fun z => absurd rfl z) (fun _ hh => ?_) (fun _ hh h4 => ?_) (fun _ hh h4 hr => ?_) (fun _ hh h4 hr => ?_)
  · rw [hA.1] at hh ⊢
    exact k1 (fun z => Bool.noConfusion ((hdg.mp z).symm.trans hh))
  · rw [hA.1] at hh h4 ⊢
    have h5 := hz (hdg.mpr hh)
    rw [if_pos (by omega)] at h5
    exact k2 (hdg.mpr hh) h5.2 _ _ ⟨⟨by omega, by omega⟩, en_rg hn⟩
  · rw [hA.1] at hh h4 hr ⊢
    have h5 := hz (hdg.mpr hh)
    rw [if_neg (by omega)] at h5
    have h6 := hnv h4
    rw [← h5.2] at h6 hr ⊢
    exact k3 (hdg.mpr hh) h6 hr _ _ ⟨⟨by omega, hdl⟩, by omega⟩
  · rw [hA.1] at hh h4 hr ⊢
    have h5 := hz (hdg.mpr hh)
    rw [if_neg (by omega)] at h5
    have h6 := hnv h4
    rw [← h5.2] at h6 hr ⊢
    have hs := tkS_dig h5.1.1 h5.1.2.2
    have h7 := k4 (hdg.mpr hh) h6 hr (dend T n (tkP T n j)) ⟨by unfold tkP; rw [hs]; rfl, by omega, hdl⟩
    rw [show oT I T n (j + 1) (dend T n (tkP T n j)) 0 bp (tkP T n j) nm = oP I (dend T n (tkP T n j)) (dend T n (tkP T n j)) 0 bp (tkP T n j) nm by unfold oT; rw [hs]] at h7
    exact h7
theorem tf_number (hB : oB I T n) {lo hi : Int} (hlo : 0 ≤ lo ∧ lo < 20000) (hhi : 0 ≤ hi ∧ hi < 20000) (hd : 1 ≤ d) (hb : ¬ b = 0) (hbr : aRg b) (hA : aF n a en) (k : Q (some (.int (iI 0))) (oP I a en b bp np nm) L (aR sh su)) : aWp none d 142 0 [.ref 157, .int (iI lo), .int (iI hi), .null, .null] [] (oP I a en b bp np nm) L (aR sh su) Q :=
  t_number hB hlo hhi hd hA.1.1 hA.1.2 hbr (en_aRg hA.2) (fun _ => k) (fun z => absurd z hb) (fun z => absurd z hb) (fun z => absurd z hb) (fun z => absurd z hb)
/-- a name -/
theorem tt_name (hB : oB I T n) (hO : oW I) (hd : 4 ≤ d) (hA : rA T n j a) (k1 : ¬ (332 ≤ tkK T n j ∧ tkK T n j ≤ 338) → Q (some (.long (lI 0))) (oP I (tkP T n j) (tkS T n j).2 1 (tkP T n j) np nm) L (aR sh su)) (k2 : (332 ≤ tkK T n j ∧ tkK T n j ≤ 338) → 6 < tkZ T n j → ∀ a2 en2 : Int, aF n a2 en2 → Q (some (.long (lI 0))) (oP I a2 en2 1 (tkP T n j + 6) np (tkP T n j)) L (aR sh su)) (k3 : (332 ≤ tkK T n j ∧ tkK T n j ≤ 338) → (1 ≤ tkZ T n j ∧ tkZ T n j ≤ 6) → (∀ i : Int, 0 ≤ i → i < tkZ T n j → 97 ≤ T (tkP T n j + i) ∧ T (tkP T n j + i) ≤ 122) → ∀ a2 : Int, rA T n (j + 1) a2 → Q (some (.long (lI (nc T (tkP T n j) (tkZ T n j).toNat)))) (oT I T n (j + 1) a2 0 bp np (tkP T n j)) L (aR sh su)) : aWp none d 144 0 [.ref 157, .null, .null] [] (oT I T n j a 0 bp np nm) L (aR sh su) Q := by
  have hn := hB.2.2.1
  have hnm := tkK_name hB.2.2.2 hn (T := T) (n := n) (j := j)
  have hpr := tkP_rg (T := T) (n := n) (j := j) hn.1
  have hde : tkP T n j ≤ wend T n (tkP T n j) := scan_ge
  have hdl : wend T n (tkP T n j) ≤ n := scan_le hpr.2
  have hz : (332 ≤ tkK T n j ∧ tkK T n j ≤ 338) → (tkP T n j < n ∧ isLe T (tkP T n j) = true) ∧ tkZ T n j = wend T n (tkP T n j) - tkP T n j ∧ tkP T n j < wend T n (tkP T n j) := by
    intro h
    have h1 := hnm.mp h
    unfold nmAt at h1
    rw [Bool.and_eq_true] at h1
    have h2 := of_decide_eq_true h1.1
    have hl : isLe T (tkP T n j) = true := isLe_iff.mpr h2.2.1
    have h3 : wend T n (tkP T n j) = wend T n (tkP T n j + 1) := wend_step ⟨h2.1, h2.2.1⟩
    have h4 : tkP T n j + 1 ≤ wend T n (tkP T n j + 1) := scan_ge
    refine ⟨⟨h2.1, hl⟩, ?_, by omega⟩
    unfold tkZ; rw [if_neg (by omega), if_pos hl]
  refine t_name hB hO hd hA.2.1 hA.2.2 (by unfold aRg; omega) (en_aRg (en_rg hn)) (fun z => absurd rfl z) (fun _ hh => ?_) (fun _ hh h4 => ?_) (fun _ hh h4 => ?_)
  · rw [hA.1] at hh ⊢
    exact k1 (fun z => Bool.noConfusion ((hnm.mp z).symm.trans hh))
  · rw [hA.1] at hh h4 ⊢
    have h5 := hz (hnm.mpr hh)
    exact k2 (hnm.mpr hh) (by omega) _ _ ⟨⟨by omega, by omega⟩, en_rg hn⟩
  · rw [hA.1] at hh h4 ⊢
    have h5 := hz (hnm.mpr hh)
    have hs := tkS_word h5.1.1 h5.1.2
    have h7 := k3 (hnm.mpr hh) (by omega) (fun i z1 z2 => isLe_iff.mp (scan_all (p := isLe T) (e := n) (a := tkP T n j) (by omega) (show tkP T n j + i < wend T n (tkP T n j) by omega))) (wend T n (tkP T n j)) ⟨by unfold tkP; rw [hs]; rfl, by omega, hdl⟩
    rw [show oT I T n (j + 1) (wend T n (tkP T n j)) 0 bp np (tkP T n j) = oP I (wend T n (tkP T n j)) (wend T n (tkP T n j)) 0 bp np (tkP T n j) by unfold oT; rw [hs], h5.2.1] at h7
    exact h7
theorem tf_name (hB : oB I T n) (hO : oW I) (hd : 4 ≤ d) (hb : ¬ b = 0) (hbr : aRg b) (hA : aF n a en) (k : Q (some (.long (lI 0))) (oP I a en b bp np nm) L (aR sh su)) : aWp none d 144 0 [.ref 157, .null, .null] [] (oP I a en b bp np nm) L (aR sh su) Q :=
  t_name hB hO hd hA.1.1 hA.1.2 hbr (en_aRg hA.2) (fun _ => k) (fun z => absurd z hb) (fun z => absurd z hb) (fun z => absurd z hb)
end RTOK
