/-! the reference: rules told (p9m.py) -/
theorem stk_at {I : aFI} {c : Nat} : ∀ {W : List Int} (i : Nat), stk I c W → i < W.length → I c i = iI (W.reverse.getD i 0)
  | [], i, _, h => absurd h (by simp)
  | v :: r, i, h, hi => by
    rw [List.length_cons] at hi
    rw [List.reverse_cons]
    by_cases e : i = r.length
    · subst e
      rw [show (r.reverse ++ [v]).getD r.length 0 = v by rw [List.getD_eq_getElem?_getD, List.getElem?_append_right (by simp)]; simp]
      exact h.1
    · rw [show (r.reverse ++ [v]).getD i 0 = r.reverse.getD i 0 by rw [List.getD_eq_getElem?_getD, List.getElem?_append_left (by simp; omega), ← List.getD_eq_getElem?_getD]]
      exact stk_at i h.2 (by omega)
theorem rc1_of {I : aFI} : ∀ {l : List Int} {f : Int}, (∀ i : Nat, i < l.length → I 201 (f + i).toNat = iI (cmap (l.getD i 0))) → rc1 I f l
  | [], _, _ => trivial
  | m :: r, f, h => by
    refine ⟨by have := h 0 (by simp); simpa using this, rc1_of (fun i hi => ?_)⟩
    have := h (i + 1) (by rw [List.length_cons]; omega)
    rw [show f + 1 + (i : Int) = f + ((i + 1 : Nat) : Int) by omega, this]
    simp
abbrev P201 : Nat → Nat → Prop := fun q k => (q = 157 ∧ k = 54) ∨ (q = 201 ∧ k < 1600)
set_option maxHeartbeats 2000000 in
theorem t_codes_101 {d : Nat} {I0 : aFI} {L : aFL} {Q : aPo} {sh : Nat} {su : Option Nat} {a en b bp np nm : Int} {O : List Int} {m r z : Int} (hm : 0 ≤ m) (hl : m + O.length < 1600) (hs : stk I0 232 O) (hq : I0 157 98 = iI (O.length : Int)) (k : ∀ I2 : aFI, (∀ i : Nat, i < O.length → I2 201 (m + i).toNat = iI (O.reverse.getD i 0)) → I2 157 54 = iI (m + O.length) → frG P201 I0 I2 → (∀ k : Nat, (k : Int) < m → I2 201 k = I0 201 k) → aWp none d 154 140 [.ref 157, .int (iI r), .int (iI z), .int (iI (O.length : Int))] [] (oP I2 a en b bp np nm) L (aR sh su) Q) : ∀ (fz : Nat) (i : Int) (I : aFI), ((O.length : Int) - i).toNat < fz → (0 ≤ i) → (i ≤ O.length) → (I 157 54 = iI (m + i)) → (∀ p : Nat, (p : Int) < i → I 201 (m + p).toNat = iI (O.reverse.getD p 0)) → (frG P201 I0 I) → (∀ k : Nat, (k : Int) < m → I 201 k = I0 201 k) → aWp none d 154 101 [.ref 157, .int (iI r), .int (iI z), .int (iI i)] [] (oP I a en b bp np nm) L (aR sh su) Q := by
  intro fz
  induction fz with
  | zero => intro i I h; omega
  | succ fz ih =>
    intro i I hn2 h0 h1 hc hp hF hG
    refine w_iload c_154_101 rfl ?_
    refine w_aload c_154_102 rfl ?_
    refine z_getZ c_154_103 sp_157 (by decide) rfl ((hF 157 98 (by decide)).trans hq) ?_
    refine z_ic_ge c_154_106 (by first | exact aRg_of _ | (unfold aRg; omega)) (by first | exact aRg_of _ | (unfold aRg; omega)) (fun h1_ => ?_) (fun h1_ => ?_)
    · have hi : i = (O.length : Int) := by omega
      subst hi
      exact k I (fun p hp2 => hp p (by omega)) hc hF hG
    · refine w_aload c_154_109 rfl ?_
      refine w_getR c_154_110 sp_157 (by decide) rfl pr_157_53 ?_
      refine w_aload c_154_113 rfl ?_
      refine z_getZ c_154_114 sp_157 (by decide) rfl hc ?_
      refine w_aload c_154_117 rfl ?_
      refine w_getR c_154_118 sp_157 (by decide) rfl pr_157_97 ?_
      refine w_iload c_154_121 rfl ?_
      refine z_iaload c_154_122 sp_232 (by omega) (by first | decide | omega) (show oP I a en b bp np nm 232 i.toNat = iI (O.reverse.getD i.toNat 0) from (hF 232 _ (by omega)).trans (stk_at i.toNat hs (by omega))) ?_
      refine z_iastore c_154_123 sp_201 (by omega) (by decide) ?_
      refine oq_k hF (Or.inr ⟨rfl, by omega⟩) (by omega) (fun I1 e1 hF1 => ?_)
      have hc1 : I1 157 54 = iI (m + i) := by rw [e1]; exact (up_ne (by omega)).trans hc
      refine w_aload c_154_124 rfl ?_
      refine w_dup c_154_125 rfl ?_
      refine z_getZ c_154_126 sp_157 (by decide) rfl hc1 ?_
      refine z_push c_154_129 ?_
      refine z_iadd c_154_130 ?_
      refine z_putZ c_154_131 sp_157 (by decide) rfl ?_
      refine oq_k hF1 (Or.inl ⟨rfl, rfl⟩) (by decide) (fun I2 e2 hF2 => ?_)
      refine z_iinc c_154_134 rfl rfl ?_
      refine w_goto c_154_137 ?_
      refine ih (i + 1) I2 (by omega) (by omega) (by omega) (by rw [e2, show m + (i + 1) = m + i + 1 by omega]; exact up_eq) (fun p hp2 => ?_) hF2 (fun k hk => ?_)
      · rw [e2, up_ne (by omega), e1]
        by_cases hpi : (p : Int) = i
        · rw [show (m + (p : Int)).toNat = (m + i).toNat by omega, up_eq, show i.toNat = p by omega]
        · rw [up_ne (by omega)]; exact hp p (by omega)
      · rw [e2, up_ne (by omega), e1, up_ne (by omega)]; exact hG k hk

theorem PQ_rd {I I2 : aFI} (h : frG PQn I I2) : frG PRd I I2 := h.mono (fun q k z => by omega)
theorem rL.fr2 {I I2 : aFI} {D : Nat → Int → Int} (h : rL I D) (h0 : ∀ q k : Nat, 194 ≤ q → q ≤ 198 → I2 q k = I q k) : rL I2 D := by
  refine ⟨⟨(h0 _ _ (by decide) (by decide)).trans h.1.1, (h0 _ _ (by decide) (by decide)).trans h.1.2.1, (h0 _ _ (by decide) (by decide)).trans h.1.2.2⟩, ⟨(h0 _ _ (by decide) (by decide)).trans h.2.1.1, (h0 _ _ (by decide) (by decide)).trans h.2.1.2.1, (h0 _ _ (by decide) (by decide)).trans h.2.1.2.2⟩, fun i a b => ?_, fun i a b => ?_, fun i a b => ?_⟩
  · rw [h0 195 _ (by decide) (by decide), h0 195 _ (by decide) (by decide)]; exact h.2.2.1 i a b
  · rw [h0 196 _ (by decide) (by decide)]; exact h.2.2.2.1 i a b
  · rw [h0 197 _ (by decide) (by decide), h0 197 _ (by decide) (by decide), h0 197 _ (by decide) (by decide), h0 197 _ (by decide) (by decide)]; exact h.2.2.2.2 i a b
set_option maxHeartbeats 1000000 in
theorem t_codesTold_0 {d : Nat} {I : aFI} {L : aFL} {Q : aPo} {T : Int → Int} {n : Int} {sh : Nat} {su : Option Nat} {j : Nat} {a bp np nm : Int} {D : Nat → Int → Int} {cd : Nat → Option (List Int)} {m : Int} (hB : oB I T n) (hO : oW I) (hA : rA T n (j + 1) a) (hbp : bp = -1) (hR : rB I L D cd m) (hj : ((j + 1 : Nat) : Int) ≤ (tkS T n (j + 1)).1) (hm : m ≤ j) (hv : (rlR (tkK T n) (tkP T n) (tkZ T n) 0 j).1 = 0 → ∀ c ∈ (rlR (tkK T n) (tkP T n) (tkZ T n) 0 j).2.2.2.1, cmap (ucm c) = c) (hd : 12 ≤ d) (k : ∀ (I2 : aFI) (a2 en2 b2 bp2 np2 : Int), cu T n (sRl (tkK T n) (tkP T n) (tkZ T n) cd 0 j) a2 en2 b2 bp2 → ((sRl (tkK T n) (tkP T n) (tkZ T n) cd 0 j).1 = 0 → ∃ m2 : Int, m2 ≤ (sRl (tkK T n) (tkP T n) (tkZ T n) cd 0 j).2.2 ∧ rB I2 L D (cRu (tkK T n) (tkP T n) (tkZ T n) cd 0 j) m2) → frG PRd I I2 → Q none (oP I2 a2 en2 b2 bp2 np2 nm) L (aR sh su)) : aWp none d 154 0 [.ref 157, .int (iI 0), .int (iI (tkP T n j)), .null] [] (oT I T n (j + 1) a 0 bp np nm) L (aR sh su) Q := by
  have hn := hB.2.2.1
  have hsr := (tkS_rg (T := T) hn.1 (j + 1)).1
  rcases hR.2.2.2.2 0 (by decide) with ⟨q1, q2⟩ | ⟨l, f, q1, q2, q3, q4, q5⟩
  · refine w_aload c_154_0 rfl ?_
    refine z_getZ c_154_1 sp_157 (by decide) rfl rfl ?_
    refine z_if_ne c_154_4 (by first | exact aRg_of _ | (unfold aRg; omega)) (fun h1_ => ?_) (fun h1_ => ?_)
    · exact absurd rfl h1_
    refine w_aload c_154_7 rfl ?_
    refine w_getR c_154_8 sp_157 (by decide) rfl pr_157_51 ?_
    refine w_iload c_154_11 rfl ?_
    refine z_iaload c_154_12 sp_199 (by omega) (by first | decide | omega) (show _ = iI (-1) from q2) ?_
    refine z_push c_154_13 ?_
    refine z_ic_eq c_154_14 (by first | exact aRg_of _ | (unfold aRg; omega)) (by first | exact aRg_of _ | (unfold aRg; omega)) (fun h2_ => ?_) (fun h2_ => ?_)
    rotate_left
    · exfalso; omega
    refine w_aload c_154_23 rfl ?_
    refine z_getZ c_154_24 sp_157 (by decide) rfl rfl ?_
    refine z_if_eq c_154_27 (by first | exact aRg_of _ | (unfold aRg; omega)) (fun h3_ => ?_) (fun h3_ => ?_)
    rotate_left
    · exact absurd rfl h3_
    refine w_aload c_154_31 rfl ?_
    refine w_iload c_154_32 rfl ?_
    refine z_push c_154_33 ?_
    refine z_ic_ne c_154_34 (by first | exact aRg_of _ | (unfold aRg; omega)) (by first | exact aRg_of _ | (unfold aRg; omega)) (fun _ => ?_) (fun h => absurd h (by decide))
    refine z_push c_154_41 ?_
    refine z_putZ c_154_42 sp_157 (by decide) rfl ?_
    refine oq_k (frG.rf (P := PRd) (I := I)) (by decide) (by decide) (fun I1 e1 hF1 => ?_)
    refine w_aload c_154_45 rfl ?_
    refine z_push c_154_46 ?_
    refine z_putZ c_154_47 sp_157 (by decide) rfl ?_
    refine oq_k hF1 (by decide) (by decide) (fun I2 e2 hF2 => ?_)
    refine w_aload c_154_50 rfl ?_
    refine z_push c_154_51 ?_
    refine z_putZ c_154_52 sp_157 (by decide) rfl ?_
    refine oq_k hF2 (by decide) (by decide) (fun I3 e3 hF3 => ?_)
    refine w_aload c_154_55 rfl ?_
    refine z_push c_154_56 ?_
    refine z_putZ c_154_57 sp_157 (by decide) rfl ?_
    refine oq_k hF3 (by decide) (by decide) (fun I4 e4 hF4 => ?_)
    refine w_aload c_154_60 rfl ?_
    refine z_push c_154_61 ?_
    refine z_putZ c_154_62 sp_157 (by decide) rfl ?_
    refine oq_k hF4 (by decide) (by decide) (fun I5 e5 hF5 => ?_)
    refine w_iload c_154_65 rfl ?_
    refine z_push c_154_66 ?_
    refine z_ic_ne c_154_67 (by first | exact aRg_of _ | (unfold aRg; omega)) (by first | exact aRg_of _ | (unfold aRg; omega)) (fun _ => ?_) (fun h => absurd h (by decide))
    refine w_aload c_154_77 rfl ?_
    refine wc_231 c_154_78 sp_157 (Nat.le_of_ble_eq_true rfl) (by omega) ?_
    have hq0 : qS I5 [] [] 0 0 := ⟨trivial, by rw [e5, up_ne (by decide), e4, up_ne (by decide), e3]; exact up_eq, trivial, by rw [e5, up_ne (by decide), e4, up_ne (by decide), e3, up_ne (by decide), e2]; exact up_eq, by rw [e5, up_ne (by decide), e4]; exact up_eq, by rw [e5]; exact up_eq⟩
    have htk5 : I5 157 57 = iI 0 := by rw [e5, up_ne (by decide), e4, up_ne (by decide), e3, up_ne (by decide), e2, up_ne (by decide), e1]; exact up_eq
    have hi0 : qI T n (j + 1) [] [] [] 0 (j + 1) := ⟨fun v hv => (by cases hv), by simp, by simp; omega, by decide, hj⟩
    have hs : sRl (tkK T n) (tkP T n) (tkZ T n) cd 0 j = ((rlR (tkK T n) (tkP T n) (tkZ T n) 0 j).1, (rlR (tkK T n) (tkP T n) (tkZ T n) 0 j).2.1, (rlR (tkK T n) (tkP T n) (tkZ T n) 0 j).2.2.1) := if_pos q1
    rw [hs] at k
    refine t_qSums (tk := 0) (sl := j + 1) (W := []) (by decide) (fun v hv => by cases hv) (by omega) (hB.rd hF5) (hO.rd hF5) hA hq0 hi0 htk5 (fun hz I6 a6 np6 hlt hq6 hi6 hF6 hA6 => ?_) (fun I6 a6 en6 np6 hz1 hz2 hzc hF6 hA6 => ?_)
    · refine r_v ?_
      have hRe : rm (tkK T n) (tkP T n) (tkZ T n) 0 (1700 - (j + 1)) 0 (j + 1) [] [] 0 = rlR (tkK T n) (tkP T n) (tkZ T n) 0 j := rfl
      rw [hRe] at hz hlt hq6 hi6 hA6
      rw [hRe]
      have hF6x : frG PRd I I6 := hF5.tr (PQ_rd hF6)
      have hlen : (rlR (tkK T n) (tkP T n) (tkZ T n) 0 j).2.2.2.1.length + (j + 1) ≤ (rlR (tkK T n) (tkP T n) (tkZ T n) 0 j).2.2.1 := by have := hi6.2.1; simpa using this
      have hj6 := hi6.2.2.2.2
      have hjn := (tkS_rg (T := T) hn.1 (rlR (tkK T n) (tkP T n) (tkZ T n) 0 j).2.2.1).1
      have hR6 : I6 157 54 = iI m := (hF6 157 54 (by decide)).trans (by rw [e5, up_ne (by decide), e4, up_ne (by decide), e3, up_ne (by decide), e2, up_ne (by decide), e1, up_ne (by decide)]; exact hR.2.2.1)
      refine w_aload c_154_81 rfl ?_
      refine z_getZ c_154_82 sp_157 (by decide) rfl rfl ?_
      refine z_if_eq c_154_85 (by first | exact aRg_of _ | (unfold aRg; omega)) (fun h31_ => ?_) (fun h31_ => ?_)
      rotate_left
      · exact absurd rfl h31_
      refine w_aload c_154_89 rfl ?_
      refine w_getR c_154_90 sp_157 (by decide) rfl pr_157_51 ?_
      refine w_iload c_154_93 rfl ?_
      refine w_aload c_154_94 rfl ?_
      refine z_getZ c_154_95 sp_157 (by decide) rfl hR6 ?_
      refine z_iastore c_154_98 sp_199 (by omega) (by decide) ?_
      refine oq_k hF6x (by omega) (by omega) (fun I7 e7 hF7 => ?_)
      refine z_push c_154_99 ?_
      refine w_istore c_154_100 (Nat.le_of_ble_eq_true rfl) rfl ?_
      refine t_codes_101 (I0 := I7) (m := m) (O := (rlR (tkK T n) (tkP T n) (tkZ T n) 0 j).2.2.2.1) hR.2.2.2.1 (by omega) ?_ ?_ ?_ _ 0 I7 (Nat.lt_succ_self _) (by omega) (by omega) ?_ (fun p hp => by omega) frG.rf (fun k hk => rfl)
      · exact hq6.2.2.1.fr (fun k hk => by rw [e7]; exact up_ne (by omega))
      · rw [e7, up_ne (by omega)]; exact hq6.2.2.2.1
      rotate_left
      · rw [e7, up_ne (by omega), show m + 0 = m by omega]; exact hR6
      intro I8 h8 h9 hF8 hG8
      have hF8x : frG PRd I I8 := hF7.tr (hF8.mono (fun q k z => by omega))
      refine w_aload c_154_140 rfl ?_
      refine w_getR c_154_141 sp_157 (by decide) rfl pr_157_52 ?_
      refine w_iload c_154_144 rfl ?_
      refine w_aload c_154_145 rfl ?_
      refine z_getZ c_154_146 sp_157 (by decide) rfl h9 ?_
      refine z_iastore c_154_149 sp_200 (by omega) (by decide) ?_
      refine oq_k hF8x (by omega) (by omega) (fun I9 e9 hF9 => ?_)
      refine z_retv c_154_150 ?_
      refine k I9 _ _ _ _ _ ?_ (fun _ => ⟨m + (rlR (tkK T n) (tkP T n) (tkZ T n) 0 j).2.2.2.1.length, by show _ ≤ (((rlR (tkK T n) (tkP T n) (tkZ T n) 0 j).2.2.1 : Nat) : Int); omega, ?_, ?_, ?_⟩) hF9
      · exact ⟨hz.symm, by decide, fun _ => ⟨hA6, rfl, hbp⟩, fun z => absurd rfl z⟩
      · refine hR.1.fr (fun k hk => ?_) (fun _ => rfl)
        rw [e9, up_ne (by omega), hF8 192 k (by omega), e7, up_ne (by omega), hF6 192 k (by omega), e5, up_ne (by omega), e4, up_ne (by omega), e3, up_ne (by omega), e2, up_ne (by omega), e1, up_ne (by omega)]
      · have hx : ∀ q k : Nat, 194 ≤ q → q ≤ 198 → I9 q k = I q k := fun q k z1 z2 => by
          rw [e9, up_ne (by omega), hF8 q k (by omega), e7, up_ne (by omega), hF6 q k (by omega), e5, up_ne (by omega), e4, up_ne (by omega), e3, up_ne (by omega), e2, up_ne (by omega), e1, up_ne (by omega)]
        exact hR.2.1.fr2 hx
      · have hl : (lRl (tkK T n) (tkP T n) (tkZ T n) 0 j).length = (rlR (tkK T n) (tkP T n) (tkZ T n) 0 j).2.2.2.1.length := by unfold lRl; simp
        have h54 : I9 157 54 = iI (m + (rlR (tkK T n) (tkP T n) (tkZ T n) 0 j).2.2.2.1.length) := by rw [e9, up_ne (by omega)]; exact h9
        refine ⟨h54, by have := hR.2.2.2.1; omega, fun q hq => ?_⟩
        have hold : ∀ c k : Nat, (c = 199 ∨ c = 200) → ¬ k = 0 → I9 c k = I c k := fun c k z1 z2 => by
          rw [e9, up_ne (by omega), hF8 c k (by omega), e7, up_ne (by omega), hF6 c k (by omega), e5, up_ne (by omega), e4, up_ne (by omega), e3, up_ne (by omega), e2, up_ne (by omega), e1, up_ne (by omega)]
        by_cases hqr : q = 0
        · subst hqr
          refine Or.inr ⟨lRl (tkK T n) (tkP T n) (tkZ T n) 0 j, m, if_pos rfl, ⟨hR.2.2.2.1, by rw [hl]; omega⟩, ?_, ?_, ?_⟩
          · rw [e9, up_ne (by omega), hF8 199 _ (by omega), e7]; exact up_eq
          · rw [e9, hl]; exact up_eq
          · refine rc1_of (fun i hi => ?_)
            rw [hl] at hi
            rw [e9, up_ne (by omega), h8 i hi]
            have hi2 : i < (rlR (tkK T n) (tkP T n) (tkZ T n) 0 j).2.2.2.1.reverse.length := by simpa using hi
            have hmem : (rlR (tkK T n) (tkP T n) (tkZ T n) 0 j).2.2.2.1.reverse.getD i 0 ∈ (rlR (tkK T n) (tkP T n) (tkZ T n) 0 j).2.2.2.1 := by
              rw [List.getD_eq_getElem?_getD, List.getElem?_eq_getElem hi2]
              exact List.mem_reverse.mp (List.getElem_mem hi2)
            have hg : (lRl (tkK T n) (tkP T n) (tkZ T n) 0 j).getD i 0 = ucm ((rlR (tkK T n) (tkP T n) (tkZ T n) 0 j).2.2.2.1.reverse.getD i 0) := by
              unfold lRl
              rw [List.getD_eq_getElem?_getD, List.getElem?_map, List.getD_eq_getElem?_getD, List.getElem?_eq_getElem hi2]; rfl
            rw [hg, hv hz _ hmem]
        · rcases hR.2.2.2.2 q hq with ⟨p1, p2⟩ | ⟨l2, f2, p1, p2, p3, p4, p5⟩
          · exact Or.inl ⟨(if_neg hqr).trans p1, (hold 199 q (Or.inl rfl) hqr).trans p2⟩
          · refine Or.inr ⟨l2, f2, (if_neg hqr).trans p1, ⟨p2.1, by have := p2.2; omega⟩, (hold 199 q (Or.inl rfl) hqr).trans p3, (hold 200 q (Or.inr rfl) hqr).trans p4, p5.fr p2.1 (fun k hk => ?_)⟩
            rw [e9, up_ne (by omega), hG8 k (by omega), e7, up_ne (by omega), hF6 201 k (by omega), e5, up_ne (by omega), e4, up_ne (by omega), e3, up_ne (by omega), e2, up_ne (by omega), e1, up_ne (by omega)]
    · refine r_v ?_
      have hz1 : 0 < (rlR (tkK T n) (tkP T n) (tkZ T n) 0 j).1 := hz1
      have hz2 : (rlR (tkK T n) (tkP T n) (tkZ T n) 0 j).1 < 10 := hz2
      refine w_aload c_154_81 rfl ?_
      refine z_getZ c_154_82 sp_157 (by decide) rfl rfl ?_
      refine z_if_eq c_154_85 (by first | exact aRg_of _ | (unfold aRg; omega)) (fun h31_ => ?_) (fun h31_ => ?_)
      · exfalso; have h31_2 : (rlR (tkK T n) (tkP T n) (tkZ T n) 0 j).1 = 0 := h31_; omega
      refine z_retv c_154_88 ?_
      exact k I6 _ _ _ _ _ (cu.bad ⟨hz1, hz2⟩ hA6) (fun z => absurd (show (rlR (tkK T n) (tkP T n) (tkZ T n) 0 j).1 = 0 from z) (by omega)) (hF5.tr (PQ_rd hF6))
  · refine w_aload c_154_0 rfl ?_
    refine z_getZ c_154_1 sp_157 (by decide) rfl rfl ?_
    refine z_if_ne c_154_4 (by first | exact aRg_of _ | (unfold aRg; omega)) (fun h1_ => ?_) (fun h1_ => ?_)
    · exact absurd rfl h1_
    refine w_aload c_154_7 rfl ?_
    refine w_getR c_154_8 sp_157 (by decide) rfl pr_157_51 ?_
    refine w_iload c_154_11 rfl ?_
    refine z_iaload c_154_12 sp_199 (by omega) (by first | decide | omega) (show _ = iI f from q3) ?_
    refine z_push c_154_13 ?_
    refine z_ic_eq c_154_14 (by first | exact aRg_of _ | (unfold aRg; omega)) (by first | exact aRg_of _ | (unfold aRg; omega)) (fun h2_ => ?_) (fun h2_ => ?_)
    · exfalso; omega
    refine w_aload c_154_17 rfl ?_
    refine z_push c_154_18 ?_
    refine w_iload c_154_19 rfl ?_
    refine wc_133 c_154_20 sp_157 (Nat.le_of_ble_eq_true rfl) (by omega) ?_
    refine t_fail (by unfold aRg; omega) (fun z => absurd rfl z) (fun _ => ?_)
    refine r_v ?_
    refine w_aload c_154_23 rfl ?_
    refine z_getZ c_154_24 sp_157 (by decide) rfl rfl ?_
    refine z_if_eq c_154_27 (by first | exact aRg_of _ | (unfold aRg; omega)) (fun h11_ => ?_) (fun h11_ => ?_)
    · exact absurd (show (5 : Int) = 0 from h11_) (by decide)
    refine z_retv c_154_30 ?_
    have hs : sRl (tkK T n) (tkP T n) (tkZ T n) cd 0 j = (5, tkP T n j, j) := if_neg (fun z => by rw [q1] at z; cases z)
    rw [hs] at k
    exact k I _ _ _ _ _ (cu.bad (by decide) (rA_aF hn hA)) (fun z => absurd (show (5 : Int) = 0 from z) (by decide)) frG.rf

set_option maxHeartbeats 1000000 in
theorem t_codesTold_1 {d : Nat} {I : aFI} {L : aFL} {Q : aPo} {T : Int → Int} {n : Int} {sh : Nat} {su : Option Nat} {j : Nat} {a bp np nm : Int} {D : Nat → Int → Int} {cd : Nat → Option (List Int)} {m : Int} (hB : oB I T n) (hO : oW I) (hA : rA T n (j + 1) a) (hbp : bp = -1) (hR : rB I L D cd m) (hj : ((j + 1 : Nat) : Int) ≤ (tkS T n (j + 1)).1) (hm : m ≤ j) (hv : (rlR (tkK T n) (tkP T n) (tkZ T n) 1 j).1 = 0 → ∀ c ∈ (rlR (tkK T n) (tkP T n) (tkZ T n) 1 j).2.2.2.1, cmap (ucm c) = c) (hd : 12 ≤ d) (k : ∀ (I2 : aFI) (a2 en2 b2 bp2 np2 : Int), cu T n (sRl (tkK T n) (tkP T n) (tkZ T n) cd 1 j) a2 en2 b2 bp2 → ((sRl (tkK T n) (tkP T n) (tkZ T n) cd 1 j).1 = 0 → ∃ m2 : Int, m2 ≤ (sRl (tkK T n) (tkP T n) (tkZ T n) cd 1 j).2.2 ∧ rB I2 L D (cRu (tkK T n) (tkP T n) (tkZ T n) cd 1 j) m2) → frG PRd I I2 → Q none (oP I2 a2 en2 b2 bp2 np2 nm) L (aR sh su)) : aWp none d 154 0 [.ref 157, .int (iI 1), .int (iI (tkP T n j)), .null] [] (oT I T n (j + 1) a 0 bp np nm) L (aR sh su) Q := by
  have hn := hB.2.2.1
  have hsr := (tkS_rg (T := T) hn.1 (j + 1)).1
  rcases hR.2.2.2.2 1 (by decide) with ⟨q1, q2⟩ | ⟨l, f, q1, q2, q3, q4, q5⟩
  · refine w_aload c_154_0 rfl ?_
    refine z_getZ c_154_1 sp_157 (by decide) rfl rfl ?_
    refine z_if_ne c_154_4 (by first | exact aRg_of _ | (unfold aRg; omega)) (fun h1_ => ?_) (fun h1_ => ?_)
    · exact absurd rfl h1_
    refine w_aload c_154_7 rfl ?_
    refine w_getR c_154_8 sp_157 (by decide) rfl pr_157_51 ?_
    refine w_iload c_154_11 rfl ?_
    refine z_iaload c_154_12 sp_199 (by omega) (by first | decide | omega) (show _ = iI (-1) from q2) ?_
    refine z_push c_154_13 ?_
    refine z_ic_eq c_154_14 (by first | exact aRg_of _ | (unfold aRg; omega)) (by first | exact aRg_of _ | (unfold aRg; omega)) (fun h2_ => ?_) (fun h2_ => ?_)
    rotate_left
    · exfalso; omega
    refine w_aload c_154_23 rfl ?_
    refine z_getZ c_154_24 sp_157 (by decide) rfl rfl ?_
    refine z_if_eq c_154_27 (by first | exact aRg_of _ | (unfold aRg; omega)) (fun h3_ => ?_) (fun h3_ => ?_)
    rotate_left
    · exact absurd rfl h3_
    refine w_aload c_154_31 rfl ?_
    refine w_iload c_154_32 rfl ?_
    refine z_push c_154_33 ?_
    refine z_ic_ne c_154_34 (by first | exact aRg_of _ | (unfold aRg; omega)) (by first | exact aRg_of _ | (unfold aRg; omega)) (fun h => absurd h (by decide)) (fun _ => ?_)
    refine z_push c_154_37 ?_
    refine w_goto c_154_38 ?_
    refine z_putZ c_154_42 sp_157 (by decide) rfl ?_
    refine oq_k (frG.rf (P := PRd) (I := I)) (by decide) (by decide) (fun I1 e1 hF1 => ?_)
    refine w_aload c_154_45 rfl ?_
    refine z_push c_154_46 ?_
    refine z_putZ c_154_47 sp_157 (by decide) rfl ?_
    refine oq_k hF1 (by decide) (by decide) (fun I2 e2 hF2 => ?_)
    refine w_aload c_154_50 rfl ?_
    refine z_push c_154_51 ?_
    refine z_putZ c_154_52 sp_157 (by decide) rfl ?_
    refine oq_k hF2 (by decide) (by decide) (fun I3 e3 hF3 => ?_)
    refine w_aload c_154_55 rfl ?_
    refine z_push c_154_56 ?_
    refine z_putZ c_154_57 sp_157 (by decide) rfl ?_
    refine oq_k hF3 (by decide) (by decide) (fun I4 e4 hF4 => ?_)
    refine w_aload c_154_60 rfl ?_
    refine z_push c_154_61 ?_
    refine z_putZ c_154_62 sp_157 (by decide) rfl ?_
    refine oq_k hF4 (by decide) (by decide) (fun I5 e5 hF5 => ?_)
    refine w_iload c_154_65 rfl ?_
    refine z_push c_154_66 ?_
    refine z_ic_ne c_154_67 (by first | exact aRg_of _ | (unfold aRg; omega)) (by first | exact aRg_of _ | (unfold aRg; omega)) (fun _ => ?_) (fun h => absurd h (by decide))
    refine w_aload c_154_77 rfl ?_
    refine wc_231 c_154_78 sp_157 (Nat.le_of_ble_eq_true rfl) (by omega) ?_
    have hq0 : qS I5 [] [] 0 0 := ⟨trivial, by rw [e5, up_ne (by decide), e4, up_ne (by decide), e3]; exact up_eq, trivial, by rw [e5, up_ne (by decide), e4, up_ne (by decide), e3, up_ne (by decide), e2]; exact up_eq, by rw [e5, up_ne (by decide), e4]; exact up_eq, by rw [e5]; exact up_eq⟩
    have htk5 : I5 157 57 = iI 1 := by rw [e5, up_ne (by decide), e4, up_ne (by decide), e3, up_ne (by decide), e2, up_ne (by decide), e1]; exact up_eq
    have hi0 : qI T n (j + 1) [] [] [] 0 (j + 1) := ⟨fun v hv => (by cases hv), by simp, by simp; omega, by decide, hj⟩
    have hs : sRl (tkK T n) (tkP T n) (tkZ T n) cd 1 j = ((rlR (tkK T n) (tkP T n) (tkZ T n) 1 j).1, (rlR (tkK T n) (tkP T n) (tkZ T n) 1 j).2.1, (rlR (tkK T n) (tkP T n) (tkZ T n) 1 j).2.2.1) := if_pos q1
    rw [hs] at k
    refine t_qSums (tk := 1) (sl := j + 1) (W := []) (by decide) (fun v hv => by cases hv) (by omega) (hB.rd hF5) (hO.rd hF5) hA hq0 hi0 htk5 (fun hz I6 a6 np6 hlt hq6 hi6 hF6 hA6 => ?_) (fun I6 a6 en6 np6 hz1 hz2 hzc hF6 hA6 => ?_)
    · refine r_v ?_
      have hRe : rm (tkK T n) (tkP T n) (tkZ T n) 1 (1700 - (j + 1)) 0 (j + 1) [] [] 0 = rlR (tkK T n) (tkP T n) (tkZ T n) 1 j := rfl
      rw [hRe] at hz hlt hq6 hi6 hA6
      rw [hRe]
      have hF6x : frG PRd I I6 := hF5.tr (PQ_rd hF6)
      have hlen : (rlR (tkK T n) (tkP T n) (tkZ T n) 1 j).2.2.2.1.length + (j + 1) ≤ (rlR (tkK T n) (tkP T n) (tkZ T n) 1 j).2.2.1 := by have := hi6.2.1; simpa using this
      have hj6 := hi6.2.2.2.2
      have hjn := (tkS_rg (T := T) hn.1 (rlR (tkK T n) (tkP T n) (tkZ T n) 1 j).2.2.1).1
      have hR6 : I6 157 54 = iI m := (hF6 157 54 (by decide)).trans (by rw [e5, up_ne (by decide), e4, up_ne (by decide), e3, up_ne (by decide), e2, up_ne (by decide), e1, up_ne (by decide)]; exact hR.2.2.1)
      refine w_aload c_154_81 rfl ?_
      refine z_getZ c_154_82 sp_157 (by decide) rfl rfl ?_
      refine z_if_eq c_154_85 (by first | exact aRg_of _ | (unfold aRg; omega)) (fun h31_ => ?_) (fun h31_ => ?_)
      rotate_left
      · exact absurd rfl h31_
      refine w_aload c_154_89 rfl ?_
      refine w_getR c_154_90 sp_157 (by decide) rfl pr_157_51 ?_
      refine w_iload c_154_93 rfl ?_
      refine w_aload c_154_94 rfl ?_
      refine z_getZ c_154_95 sp_157 (by decide) rfl hR6 ?_
      refine z_iastore c_154_98 sp_199 (by omega) (by decide) ?_
      refine oq_k hF6x (by omega) (by omega) (fun I7 e7 hF7 => ?_)
      refine z_push c_154_99 ?_
      refine w_istore c_154_100 (Nat.le_of_ble_eq_true rfl) rfl ?_
      refine t_codes_101 (I0 := I7) (m := m) (O := (rlR (tkK T n) (tkP T n) (tkZ T n) 1 j).2.2.2.1) hR.2.2.2.1 (by omega) ?_ ?_ ?_ _ 0 I7 (Nat.lt_succ_self _) (by omega) (by omega) ?_ (fun p hp => by omega) frG.rf (fun k hk => rfl)
      · exact hq6.2.2.1.fr (fun k hk => by rw [e7]; exact up_ne (by omega))
      · rw [e7, up_ne (by omega)]; exact hq6.2.2.2.1
      rotate_left
      · rw [e7, up_ne (by omega), show m + 0 = m by omega]; exact hR6
      intro I8 h8 h9 hF8 hG8
      have hF8x : frG PRd I I8 := hF7.tr (hF8.mono (fun q k z => by omega))
      refine w_aload c_154_140 rfl ?_
      refine w_getR c_154_141 sp_157 (by decide) rfl pr_157_52 ?_
      refine w_iload c_154_144 rfl ?_
      refine w_aload c_154_145 rfl ?_
      refine z_getZ c_154_146 sp_157 (by decide) rfl h9 ?_
      refine z_iastore c_154_149 sp_200 (by omega) (by decide) ?_
      refine oq_k hF8x (by omega) (by omega) (fun I9 e9 hF9 => ?_)
      refine z_retv c_154_150 ?_
      refine k I9 _ _ _ _ _ ?_ (fun _ => ⟨m + (rlR (tkK T n) (tkP T n) (tkZ T n) 1 j).2.2.2.1.length, by show _ ≤ (((rlR (tkK T n) (tkP T n) (tkZ T n) 1 j).2.2.1 : Nat) : Int); omega, ?_, ?_, ?_⟩) hF9
      · exact ⟨hz.symm, by decide, fun _ => ⟨hA6, rfl, hbp⟩, fun z => absurd rfl z⟩
      · refine hR.1.fr (fun k hk => ?_) (fun _ => rfl)
        rw [e9, up_ne (by omega), hF8 192 k (by omega), e7, up_ne (by omega), hF6 192 k (by omega), e5, up_ne (by omega), e4, up_ne (by omega), e3, up_ne (by omega), e2, up_ne (by omega), e1, up_ne (by omega)]
      · have hx : ∀ q k : Nat, 194 ≤ q → q ≤ 198 → I9 q k = I q k := fun q k z1 z2 => by
          rw [e9, up_ne (by omega), hF8 q k (by omega), e7, up_ne (by omega), hF6 q k (by omega), e5, up_ne (by omega), e4, up_ne (by omega), e3, up_ne (by omega), e2, up_ne (by omega), e1, up_ne (by omega)]
        exact hR.2.1.fr2 hx
      · have hl : (lRl (tkK T n) (tkP T n) (tkZ T n) 1 j).length = (rlR (tkK T n) (tkP T n) (tkZ T n) 1 j).2.2.2.1.length := by unfold lRl; simp
        have h54 : I9 157 54 = iI (m + (rlR (tkK T n) (tkP T n) (tkZ T n) 1 j).2.2.2.1.length) := by rw [e9, up_ne (by omega)]; exact h9
        refine ⟨h54, by have := hR.2.2.2.1; omega, fun q hq => ?_⟩
        have hold : ∀ c k : Nat, (c = 199 ∨ c = 200) → ¬ k = 1 → I9 c k = I c k := fun c k z1 z2 => by
          rw [e9, up_ne (by omega), hF8 c k (by omega), e7, up_ne (by omega), hF6 c k (by omega), e5, up_ne (by omega), e4, up_ne (by omega), e3, up_ne (by omega), e2, up_ne (by omega), e1, up_ne (by omega)]
        by_cases hqr : q = 1
        · subst hqr
          refine Or.inr ⟨lRl (tkK T n) (tkP T n) (tkZ T n) 1 j, m, if_pos rfl, ⟨hR.2.2.2.1, by rw [hl]; omega⟩, ?_, ?_, ?_⟩
          · rw [e9, up_ne (by omega), hF8 199 _ (by omega), e7]; exact up_eq
          · rw [e9, hl]; exact up_eq
          · refine rc1_of (fun i hi => ?_)
            rw [hl] at hi
            rw [e9, up_ne (by omega), h8 i hi]
            have hi2 : i < (rlR (tkK T n) (tkP T n) (tkZ T n) 1 j).2.2.2.1.reverse.length := by simpa using hi
            have hmem : (rlR (tkK T n) (tkP T n) (tkZ T n) 1 j).2.2.2.1.reverse.getD i 0 ∈ (rlR (tkK T n) (tkP T n) (tkZ T n) 1 j).2.2.2.1 := by
              rw [List.getD_eq_getElem?_getD, List.getElem?_eq_getElem hi2]
              exact List.mem_reverse.mp (List.getElem_mem hi2)
            have hg : (lRl (tkK T n) (tkP T n) (tkZ T n) 1 j).getD i 0 = ucm ((rlR (tkK T n) (tkP T n) (tkZ T n) 1 j).2.2.2.1.reverse.getD i 0) := by
              unfold lRl
              rw [List.getD_eq_getElem?_getD, List.getElem?_map, List.getD_eq_getElem?_getD, List.getElem?_eq_getElem hi2]; rfl
            rw [hg, hv hz _ hmem]
        · rcases hR.2.2.2.2 q hq with ⟨p1, p2⟩ | ⟨l2, f2, p1, p2, p3, p4, p5⟩
          · exact Or.inl ⟨(if_neg hqr).trans p1, (hold 199 q (Or.inl rfl) hqr).trans p2⟩
          · refine Or.inr ⟨l2, f2, (if_neg hqr).trans p1, ⟨p2.1, by have := p2.2; omega⟩, (hold 199 q (Or.inl rfl) hqr).trans p3, (hold 200 q (Or.inr rfl) hqr).trans p4, p5.fr p2.1 (fun k hk => ?_)⟩
            rw [e9, up_ne (by omega), hG8 k (by omega), e7, up_ne (by omega), hF6 201 k (by omega), e5, up_ne (by omega), e4, up_ne (by omega), e3, up_ne (by omega), e2, up_ne (by omega), e1, up_ne (by omega)]
    · refine r_v ?_
      have hz1 : 0 < (rlR (tkK T n) (tkP T n) (tkZ T n) 1 j).1 := hz1
      have hz2 : (rlR (tkK T n) (tkP T n) (tkZ T n) 1 j).1 < 10 := hz2
      refine w_aload c_154_81 rfl ?_
      refine z_getZ c_154_82 sp_157 (by decide) rfl rfl ?_
      refine z_if_eq c_154_85 (by first | exact aRg_of _ | (unfold aRg; omega)) (fun h31_ => ?_) (fun h31_ => ?_)
      · exfalso; have h31_2 : (rlR (tkK T n) (tkP T n) (tkZ T n) 1 j).1 = 0 := h31_; omega
      refine z_retv c_154_88 ?_
      exact k I6 _ _ _ _ _ (cu.bad ⟨hz1, hz2⟩ hA6) (fun z => absurd (show (rlR (tkK T n) (tkP T n) (tkZ T n) 1 j).1 = 0 from z) (by omega)) (hF5.tr (PQ_rd hF6))
  · refine w_aload c_154_0 rfl ?_
    refine z_getZ c_154_1 sp_157 (by decide) rfl rfl ?_
    refine z_if_ne c_154_4 (by first | exact aRg_of _ | (unfold aRg; omega)) (fun h1_ => ?_) (fun h1_ => ?_)
    · exact absurd rfl h1_
    refine w_aload c_154_7 rfl ?_
    refine w_getR c_154_8 sp_157 (by decide) rfl pr_157_51 ?_
    refine w_iload c_154_11 rfl ?_
    refine z_iaload c_154_12 sp_199 (by omega) (by first | decide | omega) (show _ = iI f from q3) ?_
    refine z_push c_154_13 ?_
    refine z_ic_eq c_154_14 (by first | exact aRg_of _ | (unfold aRg; omega)) (by first | exact aRg_of _ | (unfold aRg; omega)) (fun h2_ => ?_) (fun h2_ => ?_)
    · exfalso; omega
    refine w_aload c_154_17 rfl ?_
    refine z_push c_154_18 ?_
    refine w_iload c_154_19 rfl ?_
    refine wc_133 c_154_20 sp_157 (Nat.le_of_ble_eq_true rfl) (by omega) ?_
    refine t_fail (by unfold aRg; omega) (fun z => absurd rfl z) (fun _ => ?_)
    refine r_v ?_
    refine w_aload c_154_23 rfl ?_
    refine z_getZ c_154_24 sp_157 (by decide) rfl rfl ?_
    refine z_if_eq c_154_27 (by first | exact aRg_of _ | (unfold aRg; omega)) (fun h11_ => ?_) (fun h11_ => ?_)
    · exact absurd (show (5 : Int) = 0 from h11_) (by decide)
    refine z_retv c_154_30 ?_
    have hs : sRl (tkK T n) (tkP T n) (tkZ T n) cd 1 j = (5, tkP T n j, j) := if_neg (fun z => by rw [q1] at z; cases z)
    rw [hs] at k
    exact k I _ _ _ _ _ (cu.bad (by decide) (rA_aF hn hA)) (fun z => absurd (show (5 : Int) = 0 from z) (by decide)) frG.rf

set_option maxHeartbeats 1000000 in
theorem t_codesTold_2 {d : Nat} {I : aFI} {L : aFL} {Q : aPo} {T : Int → Int} {n : Int} {sh : Nat} {su : Option Nat} {j : Nat} {a bp np nm : Int} {D : Nat → Int → Int} {cd : Nat → Option (List Int)} {m : Int} (hB : oB I T n) (hO : oW I) (hA : rA T n (j + 1) a) (hbp : bp = -1) (hR : rB I L D cd m) (hj : ((j + 1 : Nat) : Int) ≤ (tkS T n (j + 1)).1) (hm : m ≤ j) (hv : (rlR (tkK T n) (tkP T n) (tkZ T n) 2 j).1 = 0 → ∀ c ∈ (rlR (tkK T n) (tkP T n) (tkZ T n) 2 j).2.2.2.1, cmap (ucm c) = c) (hd : 12 ≤ d) (k : ∀ (I2 : aFI) (a2 en2 b2 bp2 np2 : Int), cu T n (sRl (tkK T n) (tkP T n) (tkZ T n) cd 2 j) a2 en2 b2 bp2 → ((sRl (tkK T n) (tkP T n) (tkZ T n) cd 2 j).1 = 0 → ∃ m2 : Int, m2 ≤ (sRl (tkK T n) (tkP T n) (tkZ T n) cd 2 j).2.2 ∧ rB I2 L D (cRu (tkK T n) (tkP T n) (tkZ T n) cd 2 j) m2) → frG PRd I I2 → Q none (oP I2 a2 en2 b2 bp2 np2 nm) L (aR sh su)) : aWp none d 154 0 [.ref 157, .int (iI 2), .int (iI (tkP T n j)), .null] [] (oT I T n (j + 1) a 0 bp np nm) L (aR sh su) Q := by
  have hn := hB.2.2.1
  have hsr := (tkS_rg (T := T) hn.1 (j + 1)).1
  rcases hR.2.2.2.2 2 (by decide) with ⟨q1, q2⟩ | ⟨l, f, q1, q2, q3, q4, q5⟩
  · refine w_aload c_154_0 rfl ?_
    refine z_getZ c_154_1 sp_157 (by decide) rfl rfl ?_
    refine z_if_ne c_154_4 (by first | exact aRg_of _ | (unfold aRg; omega)) (fun h1_ => ?_) (fun h1_ => ?_)
    · exact absurd rfl h1_
    refine w_aload c_154_7 rfl ?_
    refine w_getR c_154_8 sp_157 (by decide) rfl pr_157_51 ?_
    refine w_iload c_154_11 rfl ?_
    refine z_iaload c_154_12 sp_199 (by omega) (by first | decide | omega) (show _ = iI (-1) from q2) ?_
    refine z_push c_154_13 ?_
    refine z_ic_eq c_154_14 (by first | exact aRg_of _ | (unfold aRg; omega)) (by first | exact aRg_of _ | (unfold aRg; omega)) (fun h2_ => ?_) (fun h2_ => ?_)
    rotate_left
    · exfalso; omega
    refine w_aload c_154_23 rfl ?_
    refine z_getZ c_154_24 sp_157 (by decide) rfl rfl ?_
    refine z_if_eq c_154_27 (by first | exact aRg_of _ | (unfold aRg; omega)) (fun h3_ => ?_) (fun h3_ => ?_)
    rotate_left
    · exact absurd rfl h3_
    refine w_aload c_154_31 rfl ?_
    refine w_iload c_154_32 rfl ?_
    refine z_push c_154_33 ?_
    refine z_ic_ne c_154_34 (by first | exact aRg_of _ | (unfold aRg; omega)) (by first | exact aRg_of _ | (unfold aRg; omega)) (fun _ => ?_) (fun h => absurd h (by decide))
    refine z_push c_154_41 ?_
    refine z_putZ c_154_42 sp_157 (by decide) rfl ?_
    refine oq_k (frG.rf (P := PRd) (I := I)) (by decide) (by decide) (fun I1 e1 hF1 => ?_)
    refine w_aload c_154_45 rfl ?_
    refine z_push c_154_46 ?_
    refine z_putZ c_154_47 sp_157 (by decide) rfl ?_
    refine oq_k hF1 (by decide) (by decide) (fun I2 e2 hF2 => ?_)
    refine w_aload c_154_50 rfl ?_
    refine z_push c_154_51 ?_
    refine z_putZ c_154_52 sp_157 (by decide) rfl ?_
    refine oq_k hF2 (by decide) (by decide) (fun I3 e3 hF3 => ?_)
    refine w_aload c_154_55 rfl ?_
    refine z_push c_154_56 ?_
    refine z_putZ c_154_57 sp_157 (by decide) rfl ?_
    refine oq_k hF3 (by decide) (by decide) (fun I4 e4 hF4 => ?_)
    refine w_aload c_154_60 rfl ?_
    refine z_push c_154_61 ?_
    refine z_putZ c_154_62 sp_157 (by decide) rfl ?_
    refine oq_k hF4 (by decide) (by decide) (fun I5 e5 hF5 => ?_)
    refine w_iload c_154_65 rfl ?_
    refine z_push c_154_66 ?_
    refine z_ic_ne c_154_67 (by first | exact aRg_of _ | (unfold aRg; omega)) (by first | exact aRg_of _ | (unfold aRg; omega)) (fun h => absurd h (by decide)) (fun _ => ?_)
    refine w_aload c_154_70 rfl ?_
    refine wc_235 c_154_71 sp_157 (Nat.le_of_ble_eq_true rfl) (by omega) ?_
    have hq0 : qS I5 [] [] 0 0 := ⟨trivial, by rw [e5, up_ne (by decide), e4, up_ne (by decide), e3]; exact up_eq, trivial, by rw [e5, up_ne (by decide), e4, up_ne (by decide), e3, up_ne (by decide), e2]; exact up_eq, by rw [e5, up_ne (by decide), e4]; exact up_eq, by rw [e5]; exact up_eq⟩
    have htk5 : I5 157 57 = iI 0 := by rw [e5, up_ne (by decide), e4, up_ne (by decide), e3, up_ne (by decide), e2, up_ne (by decide), e1]; exact up_eq
    have hi0 : qI T n (j + 1) [] [] [] 0 (j + 1) := ⟨fun v hv => (by cases hv), by simp, by simp; omega, by decide, hj⟩
    have hs : sRl (tkK T n) (tkP T n) (tkZ T n) cd 2 j = ((rlR (tkK T n) (tkP T n) (tkZ T n) 2 j).1, (rlR (tkK T n) (tkP T n) (tkZ T n) 2 j).2.1, (rlR (tkK T n) (tkP T n) (tkZ T n) 2 j).2.2.1) := if_pos q1
    rw [hs] at k
    refine t_qTest (tk := 0) (sl := j + 1) (by decide) (by omega) (hB.rd hF5) (hO.rd hF5) hA hq0 hi0 htk5 (fun hz I6 a6 np6 hlt hq6 hi6 hF6 hA6 => ?_) (fun I6 a6 en6 np6 hz1 hz2 hF6 hA6 => ?_)
    · refine r_v ?_
      refine w_goto c_154_74 ?_
      have hRe : rmT (tkK T n) (tkP T n) (tkZ T n) 0 1700 0 (j + 1) [] [] 0 = rlR (tkK T n) (tkP T n) (tkZ T n) 2 j := rfl
      rw [hRe] at hz hlt hq6 hi6 hA6
      rw [hRe]
      have hF6x : frG PRd I I6 := hF5.tr (PQ_rd hF6)
      have hlen : (rlR (tkK T n) (tkP T n) (tkZ T n) 2 j).2.2.2.1.length + (j + 1) ≤ (rlR (tkK T n) (tkP T n) (tkZ T n) 2 j).2.2.1 := by have := hi6.2.1; simpa using this
      have hj6 := hi6.2.2.2.2
      have hjn := (tkS_rg (T := T) hn.1 (rlR (tkK T n) (tkP T n) (tkZ T n) 2 j).2.2.1).1
      have hR6 : I6 157 54 = iI m := (hF6 157 54 (by decide)).trans (by rw [e5, up_ne (by decide), e4, up_ne (by decide), e3, up_ne (by decide), e2, up_ne (by decide), e1, up_ne (by decide)]; exact hR.2.2.1)
      refine w_aload c_154_81 rfl ?_
      refine z_getZ c_154_82 sp_157 (by decide) rfl rfl ?_
      refine z_if_eq c_154_85 (by first | exact aRg_of _ | (unfold aRg; omega)) (fun h31_ => ?_) (fun h31_ => ?_)
      rotate_left
      · exact absurd rfl h31_
      refine w_aload c_154_89 rfl ?_
      refine w_getR c_154_90 sp_157 (by decide) rfl pr_157_51 ?_
      refine w_iload c_154_93 rfl ?_
      refine w_aload c_154_94 rfl ?_
      refine z_getZ c_154_95 sp_157 (by decide) rfl hR6 ?_
      refine z_iastore c_154_98 sp_199 (by omega) (by decide) ?_
      refine oq_k hF6x (by omega) (by omega) (fun I7 e7 hF7 => ?_)
      refine z_push c_154_99 ?_
      refine w_istore c_154_100 (Nat.le_of_ble_eq_true rfl) rfl ?_
      refine t_codes_101 (I0 := I7) (m := m) (O := (rlR (tkK T n) (tkP T n) (tkZ T n) 2 j).2.2.2.1) hR.2.2.2.1 (by omega) ?_ ?_ ?_ _ 0 I7 (Nat.lt_succ_self _) (by omega) (by omega) ?_ (fun p hp => by omega) frG.rf (fun k hk => rfl)
      · exact hq6.2.2.1.fr (fun k hk => by rw [e7]; exact up_ne (by omega))
      · rw [e7, up_ne (by omega)]; exact hq6.2.2.2.1
      rotate_left
      · rw [e7, up_ne (by omega), show m + 0 = m by omega]; exact hR6
      intro I8 h8 h9 hF8 hG8
      have hF8x : frG PRd I I8 := hF7.tr (hF8.mono (fun q k z => by omega))
      refine w_aload c_154_140 rfl ?_
      refine w_getR c_154_141 sp_157 (by decide) rfl pr_157_52 ?_
      refine w_iload c_154_144 rfl ?_
      refine w_aload c_154_145 rfl ?_
      refine z_getZ c_154_146 sp_157 (by decide) rfl h9 ?_
      refine z_iastore c_154_149 sp_200 (by omega) (by decide) ?_
      refine oq_k hF8x (by omega) (by omega) (fun I9 e9 hF9 => ?_)
      refine z_retv c_154_150 ?_
      refine k I9 _ _ _ _ _ ?_ (fun _ => ⟨m + (rlR (tkK T n) (tkP T n) (tkZ T n) 2 j).2.2.2.1.length, by show _ ≤ (((rlR (tkK T n) (tkP T n) (tkZ T n) 2 j).2.2.1 : Nat) : Int); omega, ?_, ?_, ?_⟩) hF9
      · exact ⟨hz.symm, by decide, fun _ => ⟨hA6, rfl, hbp⟩, fun z => absurd rfl z⟩
      · refine hR.1.fr (fun k hk => ?_) (fun _ => rfl)
        rw [e9, up_ne (by omega), hF8 192 k (by omega), e7, up_ne (by omega), hF6 192 k (by omega), e5, up_ne (by omega), e4, up_ne (by omega), e3, up_ne (by omega), e2, up_ne (by omega), e1, up_ne (by omega)]
      · have hx : ∀ q k : Nat, 194 ≤ q → q ≤ 198 → I9 q k = I q k := fun q k z1 z2 => by
          rw [e9, up_ne (by omega), hF8 q k (by omega), e7, up_ne (by omega), hF6 q k (by omega), e5, up_ne (by omega), e4, up_ne (by omega), e3, up_ne (by omega), e2, up_ne (by omega), e1, up_ne (by omega)]
        exact hR.2.1.fr2 hx
      · have hl : (lRl (tkK T n) (tkP T n) (tkZ T n) 2 j).length = (rlR (tkK T n) (tkP T n) (tkZ T n) 2 j).2.2.2.1.length := by unfold lRl; simp
        have h54 : I9 157 54 = iI (m + (rlR (tkK T n) (tkP T n) (tkZ T n) 2 j).2.2.2.1.length) := by rw [e9, up_ne (by omega)]; exact h9
        refine ⟨h54, by have := hR.2.2.2.1; omega, fun q hq => ?_⟩
        have hold : ∀ c k : Nat, (c = 199 ∨ c = 200) → ¬ k = 2 → I9 c k = I c k := fun c k z1 z2 => by
          rw [e9, up_ne (by omega), hF8 c k (by omega), e7, up_ne (by omega), hF6 c k (by omega), e5, up_ne (by omega), e4, up_ne (by omega), e3, up_ne (by omega), e2, up_ne (by omega), e1, up_ne (by omega)]
        by_cases hqr : q = 2
        · subst hqr
          refine Or.inr ⟨lRl (tkK T n) (tkP T n) (tkZ T n) 2 j, m, if_pos rfl, ⟨hR.2.2.2.1, by rw [hl]; omega⟩, ?_, ?_, ?_⟩
          · rw [e9, up_ne (by omega), hF8 199 _ (by omega), e7]; exact up_eq
          · rw [e9, hl]; exact up_eq
          · refine rc1_of (fun i hi => ?_)
            rw [hl] at hi
            rw [e9, up_ne (by omega), h8 i hi]
            have hi2 : i < (rlR (tkK T n) (tkP T n) (tkZ T n) 2 j).2.2.2.1.reverse.length := by simpa using hi
            have hmem : (rlR (tkK T n) (tkP T n) (tkZ T n) 2 j).2.2.2.1.reverse.getD i 0 ∈ (rlR (tkK T n) (tkP T n) (tkZ T n) 2 j).2.2.2.1 := by
              rw [List.getD_eq_getElem?_getD, List.getElem?_eq_getElem hi2]
              exact List.mem_reverse.mp (List.getElem_mem hi2)
            have hg : (lRl (tkK T n) (tkP T n) (tkZ T n) 2 j).getD i 0 = ucm ((rlR (tkK T n) (tkP T n) (tkZ T n) 2 j).2.2.2.1.reverse.getD i 0) := by
              unfold lRl
              rw [List.getD_eq_getElem?_getD, List.getElem?_map, List.getD_eq_getElem?_getD, List.getElem?_eq_getElem hi2]; rfl
            rw [hg, hv hz _ hmem]
        · rcases hR.2.2.2.2 q hq with ⟨p1, p2⟩ | ⟨l2, f2, p1, p2, p3, p4, p5⟩
          · exact Or.inl ⟨(if_neg hqr).trans p1, (hold 199 q (Or.inl rfl) hqr).trans p2⟩
          · refine Or.inr ⟨l2, f2, (if_neg hqr).trans p1, ⟨p2.1, by have := p2.2; omega⟩, (hold 199 q (Or.inl rfl) hqr).trans p3, (hold 200 q (Or.inr rfl) hqr).trans p4, p5.fr p2.1 (fun k hk => ?_)⟩
            rw [e9, up_ne (by omega), hG8 k (by omega), e7, up_ne (by omega), hF6 201 k (by omega), e5, up_ne (by omega), e4, up_ne (by omega), e3, up_ne (by omega), e2, up_ne (by omega), e1, up_ne (by omega)]
    · refine r_v ?_
      refine w_goto c_154_74 ?_
      have hz1 : 0 < (rlR (tkK T n) (tkP T n) (tkZ T n) 2 j).1 := hz1
      have hz2 : (rlR (tkK T n) (tkP T n) (tkZ T n) 2 j).1 < 10 := hz2
      refine w_aload c_154_81 rfl ?_
      refine z_getZ c_154_82 sp_157 (by decide) rfl rfl ?_
      refine z_if_eq c_154_85 (by first | exact aRg_of _ | (unfold aRg; omega)) (fun h31_ => ?_) (fun h31_ => ?_)
      · exfalso; have h31_2 : (rlR (tkK T n) (tkP T n) (tkZ T n) 2 j).1 = 0 := h31_; omega
      refine z_retv c_154_88 ?_
      exact k I6 _ _ _ _ _ (cu.bad ⟨hz1, hz2⟩ hA6) (fun z => absurd (show (rlR (tkK T n) (tkP T n) (tkZ T n) 2 j).1 = 0 from z) (by omega)) (hF5.tr (PQ_rd hF6))
  · refine w_aload c_154_0 rfl ?_
    refine z_getZ c_154_1 sp_157 (by decide) rfl rfl ?_
    refine z_if_ne c_154_4 (by first | exact aRg_of _ | (unfold aRg; omega)) (fun h1_ => ?_) (fun h1_ => ?_)
    · exact absurd rfl h1_
    refine w_aload c_154_7 rfl ?_
    refine w_getR c_154_8 sp_157 (by decide) rfl pr_157_51 ?_
    refine w_iload c_154_11 rfl ?_
    refine z_iaload c_154_12 sp_199 (by omega) (by first | decide | omega) (show _ = iI f from q3) ?_
    refine z_push c_154_13 ?_
    refine z_ic_eq c_154_14 (by first | exact aRg_of _ | (unfold aRg; omega)) (by first | exact aRg_of _ | (unfold aRg; omega)) (fun h2_ => ?_) (fun h2_ => ?_)
    · exfalso; omega
    refine w_aload c_154_17 rfl ?_
    refine z_push c_154_18 ?_
    refine w_iload c_154_19 rfl ?_
    refine wc_133 c_154_20 sp_157 (Nat.le_of_ble_eq_true rfl) (by omega) ?_
    refine t_fail (by unfold aRg; omega) (fun z => absurd rfl z) (fun _ => ?_)
    refine r_v ?_
    refine w_aload c_154_23 rfl ?_
    refine z_getZ c_154_24 sp_157 (by decide) rfl rfl ?_
    refine z_if_eq c_154_27 (by first | exact aRg_of _ | (unfold aRg; omega)) (fun h11_ => ?_) (fun h11_ => ?_)
    · exact absurd (show (5 : Int) = 0 from h11_) (by decide)
    refine z_retv c_154_30 ?_
    have hs : sRl (tkK T n) (tkP T n) (tkZ T n) cd 2 j = (5, tkP T n j, j) := if_neg (fun z => by rw [q1] at z; cases z)
    rw [hs] at k
    exact k I _ _ _ _ _ (cu.bad (by decide) (rA_aF hn hA)) (fun z => absurd (show (5 : Int) = 0 from z) (by decide)) frG.rf

