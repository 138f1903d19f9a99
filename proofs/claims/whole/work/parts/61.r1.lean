/-! the reference: its shore, its lake, its pile (p61.py) -/
/-- only what P names differs -/
def frG {α : Type} (P : Nat → Nat → Prop) (I I2 : Nat → Nat → α) : Prop := ∀ q k : Nat, ¬ P q k → I2 q k = I q k
section FRG
variable {α : Type} {P P2 : Nat → Nat → Prop} {I I2 I3 : Nat → Nat → α}
theorem frG.rf : frG P I I := fun _ _ _ => rfl
theorem frG.tr (h : frG P I I2) (h2 : frG P I2 I3) : frG P I I3 := fun q k hq => (h2 q k hq).trans (h q k hq)
theorem frG.mono (h : frG P I I2) (hp : ∀ q k, P q k → P2 q k) : frG P2 I I2 := fun q k hq => h q k (fun z => hq (hp q k z))
theorem frG.up {q k : Nat} {v : α} (h : frG P I I2) (hq : P q k) : frG P I (aUp I2 q k v) := fun q2 k2 h2 => by
  unfold aUp; rw [if_neg (fun (z : q2 = q ∧ k2 = k) => h2 (z.1 ▸ z.2 ▸ hq))]; exact h q2 k2 h2
end FRG
theorem upL_ne {L : aFL} {q q2 k2 k : Nat} {x : Int64} (h : ¬ (q2 = q ∧ k2 = k)) : aUp L q k x q2 k2 = L q2 k2 := by unfold aUp; rw [if_neg h]
theorem upL_eq {L : aFL} {q k : Nat} {x : Int64} : aUp L q k x q k = x := by unfold aUp; rw [if_pos ⟨rfl, rfl⟩]
section UK
variable {sc : aSc} {d y pc : Nat} {ls st : List Value} {L L0 : aFL} {R : aFR} {Q : aPo} {P : Nat → Nat → Prop} {I0 I : aFI}
theorem upG_k {q2 k2 : Nat} {x : Int32} (hF : frG P I0 I) (hp : P q2 k2) (k : ∀ I2 : aFI, I2 = aUp I q2 k2 x → frG P I0 I2 → aWp sc d y pc ls st I2 L R Q) : aWp sc d y pc ls st (aUp I q2 k2 x) L R Q := k _ rfl (hF.up hp)
theorem upL_k {q2 k2 : Nat} {x : Int64} (hF : frG P L0 L) (hp : P q2 k2) (k : ∀ L2 : aFL, L2 = aUp L q2 k2 x → frG P L0 L2 → aWp sc d y pc ls st I L2 R Q) : aWp sc d y pc ls st I (aUp L q2 k2 x) R Q := k _ rfl (hF.up hp)
end UK
/-- the reference's number for a mark -/
def cmap (m : Int) : Int := if m = 43 then 1 else if m = 45 then 2 else if m = 42 then 3 else if m = 47 then 4 else if m = 330 then 5 else if m = 331 then 6 else if m = 60 then 7 else if m = 62 then 8 else if m = 61 then 9 else if m = 327 then 10 else if m = 326 then 11 else if m = 328 then 12 else if m = 329 then 13 else if m = 310 then 40 else if m = 311 then 41 else if m = 307 then 42 else if m = 319 then 43 else if m = 320 then 44 else if m = 321 then 45 else if m = 322 then 46 else if m = 323 then 47 else if m = 324 then 48 else if m = 325 then 49 else if m = 313 then 50 else if m = 312 then 60 else m
/-- the shore's numbers in the reference -/
def rD (I : aFI) (D : Nat → Int → Int) : Prop := (I 192 3 = iI (D 1 0) ∧ I 192 4 = iI (D 1 1) ∧ I 192 5 = iI (D 1 2)) ∧ I 194 5 = iI (D 0 1) ∧ (I 198 3 = iI (D 0 14) ∧ (0 < D 1 2 → I 198 4 = iI (D 0 15)) ∧ I 198 5 = iI (D 0 16)) ∧ I 157 56 = aBo (decide (D 0 0 = 1)) ∧
  (∀ j : Int, 0 ≤ j → j < D 1 0 → I 195 (12 + 2 * j).toNat = iI (D 3 j) ∧ I 195 (13 + 2 * j).toNat = iI (D 4 j)) ∧ (∀ j : Int, 0 ≤ j → j < D 1 1 → I 196 (6 + j).toNat = iI (D 5 j)) ∧
  (∀ j : Int, 0 ≤ j → j < D 1 2 → I 197 (32 + 4 * j).toNat = iI (D 6 j) ∧ I 197 (33 + 4 * j).toNat = iI (D 7 j) ∧ I 197 (34 + 4 * j).toNat = iI (D 8 j) ∧ I 197 (35 + 4 * j).toNat = iI (D 9 j))
section RDA
variable {I I2 : aFI} {D : Nat → Int → Int} {j e : Int}
theorem rD.br (h : rD I D) (h0 : 0 ≤ j) (h1 : j < D 1 0) (he : e = 12 + 2 * j) : I 195 e.toNat = iI (D 3 j) := by subst he; exact (h.2.2.2.2.1 j h0 h1).1
theorem rD.bb (h : rD I D) (h0 : 0 ≤ j) (h1 : j < D 1 0) (he : e = 13 + 2 * j) : I 195 e.toNat = iI (D 4 j) := by subst he; exact (h.2.2.2.2.1 j h0 h1).2
theorem rD.mi (h : rD I D) (h0 : 0 ≤ j) (h1 : j < D 1 1) (he : e = 6 + j) : I 196 e.toNat = iI (D 5 j) := by subst he; exact h.2.2.2.2.2.1 j h0 h1
theorem rD.d6 (h : rD I D) (h0 : 0 ≤ j) (h1 : j < D 1 2) (he : e = 32 + 4 * j) : I 197 e.toNat = iI (D 6 j) := by subst he; exact (h.2.2.2.2.2.2 j h0 h1).1
theorem rD.d7 (h : rD I D) (h0 : 0 ≤ j) (h1 : j < D 1 2) (he : e = 33 + 4 * j) : I 197 e.toNat = iI (D 7 j) := by subst he; exact (h.2.2.2.2.2.2 j h0 h1).2.1
theorem rD.d8 (h : rD I D) (h0 : 0 ≤ j) (h1 : j < D 1 2) (he : e = 34 + 4 * j) : I 197 e.toNat = iI (D 8 j) := by subst he; exact (h.2.2.2.2.2.2 j h0 h1).2.2.1
theorem rD.d9 (h : rD I D) (h0 : 0 ≤ j) (h1 : j < D 1 2) (he : e = 35 + 4 * j) : I 197 e.toNat = iI (D 9 j) := by subst he; exact (h.2.2.2.2.2.2 j h0 h1).2.2.2
theorem rD.fr (h : rD I D) (h0 : ∀ q k : Nat, 192 ≤ q → q ≤ 198 → I2 q k = I q k) (h1 : I2 157 56 = I 157 56) : rD I2 D := by
  unfold rD at *
  rw [h1, h0 192 3 (by omega) (by omega), h0 192 4 (by omega) (by omega), h0 192 5 (by omega) (by omega), h0 194 5 (by omega) (by omega), h0 198 3 (by omega) (by omega), h0 198 4 (by omega) (by omega), h0 198 5 (by omega) (by omega)]
  refine ⟨h.1, h.2.1, h.2.2.1, h.2.2.2.1, fun j z1 z2 => ?_, fun j z1 z2 => ?_, fun j z1 z2 => ?_⟩
  · rw [h0 195 _ (by omega) (by omega), h0 195 _ (by omega) (by omega)]; exact h.2.2.2.2.1 j z1 z2
  · rw [h0 196 _ (by omega) (by omega)]; exact h.2.2.2.2.2.1 j z1 z2
  · rw [h0 197 _ (by omega) (by omega), h0 197 _ (by omega) (by omega), h0 197 _ (by omega) (by omega), h0 197 _ (by omega) (by omega)]; exact h.2.2.2.2.2.2 j z1 z2
end RDA
/-- the codes in the reference -/
def rcAt (I : aFI) : Int → List Int → Prop
  | _, [] => True
  | f, m :: r => I 201 (1600 + f).toNat = iI (cmap m) ∧ rcAt I (f + 1) r
theorem rcAt.fr {I I2 : aFI} : ∀ {f : Int} {l : List Int}, rcAt I f l → (∀ k : Nat, I2 201 k = I 201 k) → rcAt I2 f l
  | _, [], _, _ => trivial
  | _, _ :: _, h, hf => ⟨(hf _).trans h.1, rcAt.fr h.2 hf⟩
def rT (I : aFI) (cd : Nat → Option (List Int)) : Prop := ∀ r : Nat, r < 3 → (cd r = none ∧ I 199 (3 + r) = iI (-1)) ∨ ∃ (l : List Int) (f : Int), cd r = some l ∧ (0 ≤ f ∧ f + l.length ≤ 1600) ∧ I 199 (3 + r) = iI f ∧ I 200 (3 + r) = iI (f + l.length) ∧ rcAt I f l
theorem rT.fr {I I2 : aFI} {cd : Nat → Option (List Int)} (h : rT I cd) (h0 : ∀ q k : Nat, 199 ≤ q → q ≤ 201 → I2 q k = I q k) : rT I2 cd := by
  intro r hr
  rw [h0 199 _ (by omega) (by omega), h0 200 _ (by omega) (by omega)]
  rcases h r hr with q | ⟨l, f, q1, q2, q3, q4, q5⟩
  · exact Or.inl q
  · exact Or.inr ⟨l, f, q1, q2, q3, q4, q5.fr (fun k => h0 201 k (by omega) (by omega))⟩
def rW (I : aFI) (D : Nat → Int → Int) (cd : Nat → Option (List Int)) : Prop := rD I D ∧ (0 < D 1 2 → rT I cd)
theorem rW.fr {I I2 : aFI} {D : Nat → Int → Int} {cd : Nat → Option (List Int)} (h : rW I D cd) (h0 : ∀ q k : Nat, 192 ≤ q → q ≤ 201 → I2 q k = I q k) (h1 : I2 157 56 = I 157 56) : rW I2 D cd :=
  ⟨h.1.fr (fun q k z1 z2 => h0 q k z1 (by omega)) h1, fun z => (h.2 z).fr (fun q k z1 z2 => h0 q k (by omega) z2)⟩
/-- the lake in the reference: a row of numbers, c its cell -/
def nLk (I : aFI) (c : Nat) (s b g : Int) (w : Nat) (ink age : Int → Int) : Prop := I c 0 = iI s ∧ I c 1 = iI b ∧ I c 2 = iI g ∧ ∀ j : Int, 0 ≤ j → j < 8 → I c (3 + 3 * j).toNat = iI (if tb w j = true then 1 else 0) ∧ I c (4 + 3 * j).toNat = iI (ink j) ∧ I c (5 + 3 * j).toNat = iI (age j)
section RNA
variable {I I2 : aFI} {c : Nat} {s b g : Int} {w : Nat} {ink age : Int → Int} {j e : Int}
theorem nLk.wr (h : nLk I c s b g w ink age) (h0 : 0 ≤ j) (h1 : j < 8) (he : e = 3 + 3 * j) : I c e.toNat = iI (if tb w j = true then 1 else 0) := by subst he; exact (h.2.2.2 j h0 h1).1
theorem nLk.i (h : nLk I c s b g w ink age) (h0 : 0 ≤ j) (h1 : j < 8) (he : e = 4 + 3 * j) : I c e.toNat = iI (ink j) := by subst he; exact (h.2.2.2 j h0 h1).2.1
theorem nLk.a (h : nLk I c s b g w ink age) (h0 : 0 ≤ j) (h1 : j < 8) (he : e = 5 + 3 * j) : I c e.toNat = iI (age j) := by subst he; exact (h.2.2.2 j h0 h1).2.2
theorem nLk.fr (h : nLk I c s b g w ink age) (h0 : ∀ k : Nat, k < 27 → I2 c k = I c k) : nLk I2 c s b g w ink age := by
  unfold nLk at *
  rw [h0 0 (by omega), h0 1 (by omega), h0 2 (by omega)]
  refine ⟨h.1, h.2.1, h.2.2.1, fun j z1 z2 => ?_⟩
  rw [h0 (3 + 3 * j).toNat (by omega), h0 (4 + 3 * j).toNat (by omega), h0 (5 + 3 * j).toNat (by omega)]
  exact h.2.2.2 j z1 z2
end RNA
abbrev rX (I : aFI) (c : Nat) (X : Lk) : Prop := nLk I c X.1 X.2.1 X.2.2.1 X.2.2.2.1 X.2.2.2.2.1 X.2.2.2.2.2
/-- the pile, the top first -/
def stL (L : aFL) : List Int → Prop
  | [] => True
  | v :: r => L 234 r.length = lI v ∧ stL L r
theorem stL.fr {L L2 : aFL} : ∀ {st : List Int}, stL L st → (∀ k : Nat, k < st.length → L2 234 k = L 234 k) → stL L2 st
  | [], _, _ => trivial
  | v :: r, h, hf => ⟨(hf r.length (by simp only [List.length_cons]; omega)).trans h.1, stL.fr h.2 (fun k hk => hf k (by simp only [List.length_cons]; omega))⟩
theorem stL.top {L : aFL} {v : Int} {st : List Int} (h : stL L (v :: st)) {j : Int} (hj : j = st.length) : L 234 j.toNat = lI v := by subst hj; exact h.1
theorem stL.set {L : aFL} {v j : Int} {st : List Int} (h : stL L st) (hj : j = st.length) : stL (aUp L 234 j.toNat (lI v)) (v :: st) := by
  subst hj
  refine ⟨upL_eq, h.fr (fun k hk => upL_ne (by rintro ⟨-, z⟩; omega))⟩
abbrev PK : Nat → Nat → Prop := fun q k => q = 157 ∧ k = 104
abbrev LK : Nat → Nat → Prop := fun q _ => q = 234
set_option maxHeartbeats 1000000 in
theorem t_inkOf {d : Nat} {I : aFI} {L : aFL} {Q : aPo} {sh : Nat} {su : Option Nat} {s b g : Int} {w : Nat} {ink age : Int → Int} {de : Int} (hN : nLk I 202 s b g w ink age) (h : 0 ≤ de ∧ de < 8) (k : Q (some (.int (iI (ink de)))) I L (aR sh su)) : aWp none d 164 0 [.ref 157, .int (iI de)] [] I L (aR sh su) Q := by
  refine w_aload c_164_0 rfl ?_
  refine w_getR c_164_1 sp_157 (by decide) rfl pr_157_58 ?_
  refine z_push c_164_4 ?_
  refine z_push c_164_5 ?_
  refine w_iload c_164_6 rfl ?_
  refine z_imul c_164_7 ?_
  refine z_iadd c_164_8 ?_
  refine z_push c_164_9 ?_
  refine z_iadd c_164_10 ?_
  refine z_iaload c_164_11 sp_202 (by omega) (by first | decide | omega) (hN.i h.1 h.2 (by omega)) ?_
  refine z_ret c_164_12 rfl ?_
  exact k

set_option maxHeartbeats 1000000 in
theorem t_ageOf {d : Nat} {I : aFI} {L : aFL} {Q : aPo} {sh : Nat} {su : Option Nat} {s b g : Int} {w : Nat} {ink age : Int → Int} {de : Int} (hN : nLk I 202 s b g w ink age) (h : 0 ≤ de ∧ de < 8) (k : Q (some (.int (iI (age de)))) I L (aR sh su)) : aWp none d 165 0 [.ref 157, .int (iI de)] [] I L (aR sh su) Q := by
  refine w_aload c_165_0 rfl ?_
  refine w_getR c_165_1 sp_157 (by decide) rfl pr_157_58 ?_
  refine z_push c_165_4 ?_
  refine z_push c_165_5 ?_
  refine w_iload c_165_6 rfl ?_
  refine z_imul c_165_7 ?_
  refine z_iadd c_165_8 ?_
  refine z_push c_165_9 ?_
  refine z_iadd c_165_10 ?_
  refine z_iaload c_165_11 sp_202 (by omega) (by first | decide | omega) (hN.a h.1 h.2 (by omega)) ?_
  refine z_ret c_165_12 rfl ?_
  exact k

set_option maxHeartbeats 1000000 in
theorem t_isWritten {d : Nat} {I : aFI} {L : aFL} {Q : aPo} {sh : Nat} {su : Option Nat} {s b g : Int} {w : Nat} {ink age : Int → Int} {de : Int} (hN : nLk I 202 s b g w ink age) (h : 0 ≤ de ∧ de < 8) (k : Q (some (.int (aBo (tb w de)))) I L (aR sh su)) : aWp none d 163 0 [.ref 157, .int (iI de)] [] I L (aR sh su) Q := by
  have h1 := tb_one (w := w) (de := de)
  refine w_aload c_163_0 rfl ?_
  refine w_getR c_163_1 sp_157 (by decide) rfl pr_157_58 ?_
  refine z_push c_163_4 ?_
  refine z_push c_163_5 ?_
  refine w_iload c_163_6 rfl ?_
  refine z_imul c_163_7 ?_
  refine z_iadd c_163_8 ?_
  refine z_iaload c_163_9 sp_202 (by omega) (by first | decide | omega) (hN.wr h.1 h.2 (by omega)) ?_
  refine z_push c_163_10 ?_
  refine z_ic_ne c_163_11 (by first | exact aRg_of _ | (unfold aRg; omega)) (by first | exact aRg_of _ | (unfold aRg; omega)) (fun h1_ => ?_) (fun h1_ => ?_)
  · refine z_push c_163_18 ?_
    refine z_ret0 c_163_19 rfl ?_
    exact q_b k (by rcases h1 with h | h <;> first | exact h.2 | (exfalso; omega))
  · refine z_push c_163_14 ?_
    refine w_goto c_163_15 ?_
    refine z_ret1 c_163_19 rfl ?_
    exact q_b k (by rcases h1 with h | h <;> first | exact h.2 | (exfalso; omega))

set_option maxHeartbeats 1000000 in
theorem t_termOf {d : Nat} {I : aFI} {L : aFL} {Q : aPo} {sh : Nat} {su : Option Nat} {D : Nat → Int → Int} {de : Int} (hD : rD I D) (h : 0 ≤ de ∧ de < D 1 2) (h8 : D 1 2 ≤ 8) (k : Q (some (.int (iI (D 9 de)))) I L (aR sh su)) : aWp none d 166 0 [.ref 157, .int (iI de)] [] I L (aR sh su) Q := by
  refine w_aload c_166_0 rfl ?_
  refine w_getR c_166_1 sp_157 (by decide) rfl pr_157_49 ?_
  refine z_push c_166_4 ?_
  refine z_push c_166_6 ?_
  refine w_iload c_166_7 rfl ?_
  refine z_imul c_166_8 ?_
  refine z_iadd c_166_9 ?_
  refine z_iaload c_166_10 sp_197 (by omega) (by first | decide | omega) (hD.d9 h.1 h.2 (by omega)) ?_
  refine z_ret c_166_11 rfl ?_
  exact k

set_option maxHeartbeats 1000000 in
theorem t_qPuts {d : Nat} {I : aFI} {L : aFL} {Q : aPo} {sh : Nat} {su : Option Nat} {v n : Int} (hn : I 157 104 = iI n) (h : 0 ≤ n ∧ n < 1000) (k : Q none (aUp I 157 104 (iI (n + 1))) (aUp L 234 n.toNat (lI v)) (aR sh su)) : aWp none d 239 0 [.ref 157, .long (lI v), .null] [] I L (aR sh su) Q := by
  refine w_aload c_239_0 rfl ?_
  refine w_getR c_239_1 sp_157 (by decide) rfl pr_157_103 ?_
  refine w_aload c_239_4 rfl ?_
  refine z_getZ c_239_5 sp_157 (by decide) rfl hn ?_
  refine w_lload c_239_8 rfl ?_
  refine z_lastore c_239_9 sp_234 (by omega) (by decide) ?_
  refine w_aload c_239_10 rfl ?_
  refine w_dup c_239_11 rfl ?_
  refine z_getZ c_239_12 sp_157 (by decide) rfl hn ?_
  refine z_push c_239_15 ?_
  refine z_iadd c_239_16 ?_
  refine z_putZ c_239_17 sp_157 (by decide) rfl ?_
  refine z_retv c_239_20 ?_
  exact k

theorem st_j {L : aFL} {v u : Int} {st : List Int} {j : Nat} (h : stL (aUp L 234 j (lI u)) (u :: st)) (e : u = v) : stL (aUp L 234 j (lI u)) (v :: st) := by subst e; exact h
theorem cmap_inv {m : Int} (h : isAri m ∨ isCmp m ∨ isLog m) : (m = 43 ∧ cmap m = 1) ∨ (m = 45 ∧ cmap m = 2) ∨ (m = 42 ∧ cmap m = 3) ∨ (m = 47 ∧ cmap m = 4) ∨ (m = 330 ∧ cmap m = 5) ∨ (m = 331 ∧ cmap m = 6) ∨ (m = 60 ∧ cmap m = 7) ∨ (m = 62 ∧ cmap m = 8) ∨ (m = 61 ∧ cmap m = 9) ∨ (m = 327 ∧ cmap m = 10) ∨ (m = 326 ∧ cmap m = 11) := by
  rcases h with (rfl | rfl | rfl | rfl | rfl | rfl) | (rfl | rfl | rfl) | rfl | rfl <;> decide
set_option maxHeartbeats 1000000 in
theorem t_qJoins {d : Nat} {I : aFI} {L : aFL} {Q : aPo} {sh : Nat} {su : Option Nat} {m v1 v2 n : Int} {st : List Int} (hm : isAri m ∨ isCmp m ∨ isLog m ∧ (v1 = 0 ∨ v1 = 1) ∧ (v2 = 0 ∨ v2 = 1)) (ha : -1000000 ≤ v1 ∧ v1 ≤ 1000000) (hb : -1000000 ≤ v2 ∧ v2 ≤ 1000000) (hn : I 157 104 = iI n) (hl : n = st.length + 2) (hl2 : st.length < 100) (hS : stL L (v2 :: v1 :: st)) (hd : 2 ≤ d) (k : ∀ (I2 : aFI) (L2 : aFL), I2 157 104 = iI (n - 1) → stL L2 (joinZ m v1 v2 :: st) → frG PK I I2 → frG LK L L2 → Q none I2 L2 (aR sh su)) : aWp none d 240 0 [.ref 157, .int (iI (cmap m)), .null, .null, .null, .null] [] I L (aR sh su) Q := by
  have hab : -1000000000000 ≤ v1 * v2 ∧ v1 * v2 ≤ 1000000000000 := by
    have h1 : (v1 * v2).natAbs ≤ 1000000 * 1000000 := by rw [Int.natAbs_mul]; exact Nat.mul_le_mul (by omega) (by omega)
    omega
  have hcm := cmap_inv (m := m) (by rcases hm with q | q | q; exact Or.inl q; exact Or.inr (Or.inl q); exact Or.inr (Or.inr q.1))
  have hlog : (m < 326 ∨ 327 < m) ∨ ((v1 = 0 ∨ v1 = 1) ∧ (v2 = 0 ∨ v2 = 1)) := by
    rcases hm with q | q | q
    · exact Or.inl (by omega)
    · exact Or.inl (by omega)
    · exact Or.inr q.2
  have hF0 : frG PK I I := frG.rf
  refine w_aload c_240_0 rfl ?_
  refine w_getR c_240_1 sp_157 (by decide) rfl pr_157_103 ?_
  refine w_aload c_240_4 rfl ?_
  refine z_getZ c_240_5 sp_157 (by decide) rfl hn ?_
  refine z_push c_240_8 ?_
  refine z_isub c_240_9 ?_
  refine z_laload c_240_10 sp_234 (by omega) (by first | decide | omega) (hS.top (by simp only [List.length_cons]; omega)) ?_
  refine w_lstore c_240_11 (Nat.le_of_ble_eq_true rfl) rfl ?_
  refine w_aload c_240_12 rfl ?_
  refine w_getR c_240_13 sp_157 (by decide) rfl pr_157_103 ?_
  refine w_aload c_240_16 rfl ?_
  refine z_getZ c_240_17 sp_157 (by decide) rfl hn ?_
  refine z_push c_240_20 ?_
  refine z_isub c_240_21 ?_
  refine z_laload c_240_22 sp_234 (by omega) (by first | decide | omega) (hS.2.top (by omega)) ?_
  refine w_lstore c_240_23 (Nat.le_of_ble_eq_true rfl) rfl ?_
  refine w_aload c_240_25 rfl ?_
  refine w_dup c_240_26 rfl ?_
  refine z_getZ c_240_27 sp_157 (by decide) rfl hn ?_
  refine z_push c_240_30 ?_
  refine z_isub c_240_31 ?_
  refine z_putZ c_240_32 sp_157 (by decide) rfl ?_
  refine upG_k hF0 ⟨rfl, rfl⟩ (fun I2 hi hF => ?_)
  have hn2 : I2 157 104 = iI (n - 2) := by rw [hi]; exact up_eq
  refine w_iload c_240_35 rfl ?_
  rcases (show ((cmap m) = 1) ∨ ((cmap m) = 2) ∨ ((cmap m) = 3) ∨ ((cmap m) = 4) ∨ ((cmap m) = 5) ∨ ((cmap m) = 6) ∨ ((cmap m) = 7) ∨ ((cmap m) = 8) ∨ ((cmap m) = 9) ∨ ((cmap m) = 10) ∨ (¬ (cmap m) = 1 ∧ ¬ (cmap m) = 2 ∧ ¬ (cmap m) = 3 ∧ ¬ (cmap m) = 4 ∧ ¬ (cmap m) = 5 ∧ ¬ (cmap m) = 6 ∧ ¬ (cmap m) = 7 ∧ ¬ (cmap m) = 8 ∧ ¬ (cmap m) = 9 ∧ ¬ (cmap m) = 10) by omega) with h1_ | h1_ | h1_ | h1_ | h1_ | h1_ | h1_ | h1_ | h1_ | h1_ | h1_
  · refine z_tsw c_240_36 (by first | exact aRg_of _ | (unfold aRg; omega)) (pc2 := 92) (by rcases h1_ with h1_ <;> (rw [h1_]; rfl)) ?_
    refine w_aload c_240_92 rfl ?_
    refine w_lload c_240_93 rfl ?_
    refine w_lload c_240_95 rfl ?_
    refine z_ladd c_240_96 ?_
    refine wc_237 c_240_97 (Nat.le_of_ble_eq_true rfl) (by omega) ?_
    refine t_qClip (by omega) ?_
    refine r_l ?_
    refine wc_239 c_240_100 sp_157 (Nat.le_of_ble_eq_true rfl) (by omega) ?_
    refine t_qPuts hn2 (by omega) ?_
    refine r_v ?_
    refine w_goto c_240_103 ?_
    refine z_retv c_240_273 ?_
    refine k _ _ (up_eq.trans (congrArg iI (by omega))) (st_j (hS.2.2.set (by omega)) ?_) (hF.up ⟨rfl, rfl⟩) (frG.rf.up rfl)
    have hmm : m = 43 := by omega
    subst hmm
    unfold joinZ
    simp only [Int.reduceEq, if_false, if_true]
  · refine z_tsw c_240_36 (by first | exact aRg_of _ | (unfold aRg; omega)) (pc2 := 106) (by rcases h1_ with h1_ <;> (rw [h1_]; rfl)) ?_
    refine w_aload c_240_106 rfl ?_
    refine w_lload c_240_107 rfl ?_
    refine w_lload c_240_109 rfl ?_
    refine z_lsub c_240_110 ?_
    refine wc_237 c_240_111 (Nat.le_of_ble_eq_true rfl) (by omega) ?_
    refine t_qClip (by omega) ?_
    refine r_l ?_
    refine wc_239 c_240_114 sp_157 (Nat.le_of_ble_eq_true rfl) (by omega) ?_
    refine t_qPuts hn2 (by omega) ?_
    refine r_v ?_
    refine w_goto c_240_117 ?_
    refine z_retv c_240_273 ?_
    refine k _ _ (up_eq.trans (congrArg iI (by omega))) (st_j (hS.2.2.set (by omega)) ?_) (hF.up ⟨rfl, rfl⟩) (frG.rf.up rfl)
    have hmm : m = 45 := by omega
    subst hmm
    unfold joinZ
    simp only [Int.reduceEq, if_false, if_true]
  · refine z_tsw c_240_36 (by first | exact aRg_of _ | (unfold aRg; omega)) (pc2 := 120) (by rcases h1_ with h1_ <;> (rw [h1_]; rfl)) ?_
    refine w_aload c_240_120 rfl ?_
    refine w_lload c_240_121 rfl ?_
    refine w_lload c_240_123 rfl ?_
    refine z_lmul c_240_124 ?_
    refine wc_237 c_240_125 (Nat.le_of_ble_eq_true rfl) (by omega) ?_
    refine t_qClip (by omega) ?_
    refine r_l ?_
    refine wc_239 c_240_128 sp_157 (Nat.le_of_ble_eq_true rfl) (by omega) ?_
    refine t_qPuts hn2 (by omega) ?_
    refine r_v ?_
    refine w_goto c_240_131 ?_
    refine z_retv c_240_273 ?_
    refine k _ _ (up_eq.trans (congrArg iI (by omega))) (st_j (hS.2.2.set (by omega)) ?_) (hF.up ⟨rfl, rfl⟩) (frG.rf.up rfl)
    have hmm : m = 42 := by omega
    subst hmm
    unfold joinZ
    simp only [Int.reduceEq, if_false, if_true]
  · refine z_tsw c_240_36 (by first | exact aRg_of _ | (unfold aRg; omega)) (pc2 := 134) (by rcases h1_ with h1_ <;> (rw [h1_]; rfl)) ?_
    refine w_aload c_240_134 rfl ?_
    refine w_lload c_240_135 rfl ?_
    refine w_lload c_240_137 rfl ?_
    refine wc_238 c_240_138 (Nat.le_of_ble_eq_true rfl) (by omega) ?_
    refine t_qFloor (by omega) (by omega) ?_
    refine r_l ?_
    refine wc_239 c_240_141 sp_157 (Nat.le_of_ble_eq_true rfl) (by omega) ?_
    refine t_qPuts hn2 (by omega) ?_
    refine r_v ?_
    refine w_goto c_240_144 ?_
    refine z_retv c_240_273 ?_
    refine k _ _ (up_eq.trans (congrArg iI (by omega))) (st_j (hS.2.2.set (by omega)) ?_) (hF.up ⟨rfl, rfl⟩) (frG.rf.up rfl)
    have hmm : m = 47 := by omega
    subst hmm
    unfold joinZ
    simp only [Int.reduceEq, if_false, if_true]
  · refine z_tsw c_240_36 (by first | exact aRg_of _ | (unfold aRg; omega)) (pc2 := 147) (by rcases h1_ with h1_ <;> (rw [h1_]; rfl)) ?_
    refine w_aload c_240_147 rfl ?_
    refine w_lload c_240_148 rfl ?_
    refine w_lload c_240_150 rfl ?_
    refine z_lc_ge c_240_151 c_240_152 (by first | exact aRl_of _ | (unfold aRl; omega)) (by first | exact aRl_of _ | (unfold aRl; omega)) (fun h2_ => ?_) (fun h2_ => ?_)
    · refine w_lload c_240_160 rfl ?_
      refine wc_239 c_240_161 sp_157 (Nat.le_of_ble_eq_true rfl) (by omega) ?_
      refine t_qPuts hn2 (by omega) ?_
      refine r_v ?_
      refine w_goto c_240_164 ?_
      refine z_retv c_240_273 ?_
      refine k _ _ (up_eq.trans (congrArg iI (by omega))) (st_j (hS.2.2.set (by omega)) ?_) (hF.up ⟨rfl, rfl⟩) (frG.rf.up rfl)
      have hmm : m = 330 := by omega
      subst hmm
      unfold joinZ
      simp only [Int.reduceEq, if_false, if_true]
      omega
    · refine w_lload c_240_155 rfl ?_
      refine w_goto c_240_157 ?_
      refine wc_239 c_240_161 sp_157 (Nat.le_of_ble_eq_true rfl) (by omega) ?_
      refine t_qPuts hn2 (by omega) ?_
      refine r_v ?_
      refine w_goto c_240_164 ?_
      refine z_retv c_240_273 ?_
      refine k _ _ (up_eq.trans (congrArg iI (by omega))) (st_j (hS.2.2.set (by omega)) ?_) (hF.up ⟨rfl, rfl⟩) (frG.rf.up rfl)
      have hmm : m = 330 := by omega
      subst hmm
      unfold joinZ
      simp only [Int.reduceEq, if_false, if_true]
      omega
  · refine z_tsw c_240_36 (by first | exact aRg_of _ | (unfold aRg; omega)) (pc2 := 167) (by rcases h1_ with h1_ <;> (rw [h1_]; rfl)) ?_
    refine w_aload c_240_167 rfl ?_
    refine w_lload c_240_168 rfl ?_
    refine w_lload c_240_170 rfl ?_
    refine z_lc_le c_240_171 c_240_172 (by first | exact aRl_of _ | (unfold aRl; omega)) (by first | exact aRl_of _ | (unfold aRl; omega)) (fun h3_ => ?_) (fun h3_ => ?_)
    · refine w_lload c_240_180 rfl ?_
      refine wc_239 c_240_181 sp_157 (Nat.le_of_ble_eq_true rfl) (by omega) ?_
      refine t_qPuts hn2 (by omega) ?_
      refine r_v ?_
      refine w_goto c_240_184 ?_
      refine z_retv c_240_273 ?_
      refine k _ _ (up_eq.trans (congrArg iI (by omega))) (st_j (hS.2.2.set (by omega)) ?_) (hF.up ⟨rfl, rfl⟩) (frG.rf.up rfl)
      have hmm : m = 331 := by omega
      subst hmm
      unfold joinZ
      simp only [Int.reduceEq, if_false, if_true]
      omega
    · refine w_lload c_240_175 rfl ?_
      refine w_goto c_240_177 ?_
      refine wc_239 c_240_181 sp_157 (Nat.le_of_ble_eq_true rfl) (by omega) ?_
      refine t_qPuts hn2 (by omega) ?_
      refine r_v ?_
      refine w_goto c_240_184 ?_
      refine z_retv c_240_273 ?_
      refine k _ _ (up_eq.trans (congrArg iI (by omega))) (st_j (hS.2.2.set (by omega)) ?_) (hF.up ⟨rfl, rfl⟩) (frG.rf.up rfl)
      have hmm : m = 331 := by omega
      subst hmm
      unfold joinZ
      simp only [Int.reduceEq, if_false, if_true]
      omega
  · refine z_tsw c_240_36 (by first | exact aRg_of _ | (unfold aRg; omega)) (pc2 := 187) (by rcases h1_ with h1_ <;> (rw [h1_]; rfl)) ?_
    refine w_aload c_240_187 rfl ?_
    refine w_lload c_240_188 rfl ?_
    refine w_lload c_240_190 rfl ?_
    refine z_lc_ge c_240_191 c_240_192 (by first | exact aRl_of _ | (unfold aRl; omega)) (by first | exact aRl_of _ | (unfold aRl; omega)) (fun h4_ => ?_) (fun h4_ => ?_)
    · refine z_pushl c_240_199 ?_
      refine wc_239 c_240_200 sp_157 (Nat.le_of_ble_eq_true rfl) (by omega) ?_
      refine t_qPuts hn2 (by omega) ?_
      refine r_v ?_
      refine w_goto c_240_203 ?_
      refine z_retv c_240_273 ?_
      refine k _ _ (up_eq.trans (congrArg iI (by omega))) (st_j (hS.2.2.set (by omega)) ?_) (hF.up ⟨rfl, rfl⟩) (frG.rf.up rfl)
      have hmm : m = 60 := by omega
      subst hmm
      unfold joinZ
      simp only [Int.reduceEq, if_false, if_true]
      split <;> omega
    · refine z_pushl c_240_195 ?_
      refine w_goto c_240_196 ?_
      refine wc_239 c_240_200 sp_157 (Nat.le_of_ble_eq_true rfl) (by omega) ?_
      refine t_qPuts hn2 (by omega) ?_
      refine r_v ?_
      refine w_goto c_240_203 ?_
      refine z_retv c_240_273 ?_
      refine k _ _ (up_eq.trans (congrArg iI (by omega))) (st_j (hS.2.2.set (by omega)) ?_) (hF.up ⟨rfl, rfl⟩) (frG.rf.up rfl)
      have hmm : m = 60 := by omega
      subst hmm
      unfold joinZ
      simp only [Int.reduceEq, if_false, if_true]
      split <;> omega
  · refine z_tsw c_240_36 (by first | exact aRg_of _ | (unfold aRg; omega)) (pc2 := 206) (by rcases h1_ with h1_ <;> (rw [h1_]; rfl)) ?_
    refine w_aload c_240_206 rfl ?_
    refine w_lload c_240_207 rfl ?_
    refine w_lload c_240_209 rfl ?_
    refine z_lc_le c_240_210 c_240_211 (by first | exact aRl_of _ | (unfold aRl; omega)) (by first | exact aRl_of _ | (unfold aRl; omega)) (fun h5_ => ?_) (fun h5_ => ?_)
    · refine z_pushl c_240_218 ?_
      refine wc_239 c_240_219 sp_157 (Nat.le_of_ble_eq_true rfl) (by omega) ?_
      refine t_qPuts hn2 (by omega) ?_
      refine r_v ?_
      refine w_goto c_240_222 ?_
      refine z_retv c_240_273 ?_
      refine k _ _ (up_eq.trans (congrArg iI (by omega))) (st_j (hS.2.2.set (by omega)) ?_) (hF.up ⟨rfl, rfl⟩) (frG.rf.up rfl)
      have hmm : m = 62 := by omega
      subst hmm
      unfold joinZ
      simp only [Int.reduceEq, if_false, if_true]
      split <;> omega
    · refine z_pushl c_240_214 ?_
      refine w_goto c_240_215 ?_
      refine wc_239 c_240_219 sp_157 (Nat.le_of_ble_eq_true rfl) (by omega) ?_
      refine t_qPuts hn2 (by omega) ?_
      refine r_v ?_
      refine w_goto c_240_222 ?_
      refine z_retv c_240_273 ?_
      refine k _ _ (up_eq.trans (congrArg iI (by omega))) (st_j (hS.2.2.set (by omega)) ?_) (hF.up ⟨rfl, rfl⟩) (frG.rf.up rfl)
      have hmm : m = 62 := by omega
      subst hmm
      unfold joinZ
      simp only [Int.reduceEq, if_false, if_true]
      split <;> omega
  · refine z_tsw c_240_36 (by first | exact aRg_of _ | (unfold aRg; omega)) (pc2 := 225) (by rcases h1_ with h1_ <;> (rw [h1_]; rfl)) ?_
    refine w_aload c_240_225 rfl ?_
    refine w_lload c_240_226 rfl ?_
    refine w_lload c_240_228 rfl ?_
    refine z_lc_ne c_240_229 c_240_230 (by first | exact aRl_of _ | (unfold aRl; omega)) (by first | exact aRl_of _ | (unfold aRl; omega)) (fun h6_ => ?_) (fun h6_ => ?_)
    · refine z_pushl c_240_237 ?_
      refine wc_239 c_240_238 sp_157 (Nat.le_of_ble_eq_true rfl) (by omega) ?_
      refine t_qPuts hn2 (by omega) ?_
      refine r_v ?_
      refine w_goto c_240_241 ?_
      refine z_retv c_240_273 ?_
      refine k _ _ (up_eq.trans (congrArg iI (by omega))) (st_j (hS.2.2.set (by omega)) ?_) (hF.up ⟨rfl, rfl⟩) (frG.rf.up rfl)
      have hmm : m = 61 := by omega
      subst hmm
      unfold joinZ
      simp only [Int.reduceEq, if_false, if_true]
      split <;> omega
    · refine z_pushl c_240_233 ?_
      refine w_goto c_240_234 ?_
      refine wc_239 c_240_238 sp_157 (Nat.le_of_ble_eq_true rfl) (by omega) ?_
      refine t_qPuts hn2 (by omega) ?_
      refine r_v ?_
      refine w_goto c_240_241 ?_
      refine z_retv c_240_273 ?_
      refine k _ _ (up_eq.trans (congrArg iI (by omega))) (st_j (hS.2.2.set (by omega)) ?_) (hF.up ⟨rfl, rfl⟩) (frG.rf.up rfl)
      have hmm : m = 61 := by omega
      subst hmm
      unfold joinZ
      simp only [Int.reduceEq, if_false, if_true]
      split <;> omega
  · refine z_tsw c_240_36 (by first | exact aRg_of _ | (unfold aRg; omega)) (pc2 := 244) (by rcases h1_ with h1_ <;> (rw [h1_]; rfl)) ?_
    refine w_aload c_240_244 rfl ?_
    refine w_lload c_240_245 rfl ?_
    refine w_lload c_240_247 rfl ?_
    refine z_lmul c_240_248 ?_
    refine wc_239 c_240_249 sp_157 (Nat.le_of_ble_eq_true rfl) (by omega) ?_
    refine t_qPuts hn2 (by omega) ?_
    refine r_v ?_
    refine w_goto c_240_252 ?_
    refine z_retv c_240_273 ?_
    refine k _ _ (up_eq.trans (congrArg iI (by omega))) (st_j (hS.2.2.set (by omega)) ?_) (hF.up ⟨rfl, rfl⟩) (frG.rf.up rfl)
    have hmm : m = 327 := by omega
    subst hmm
    unfold joinZ
    simp only [Int.reduceEq, if_false, if_true]
    rcases hlog with q | ⟨h1, h2⟩
    · exfalso; omega
    rcases h1 with rfl | rfl <;> rcases h2 with rfl | rfl <;> rfl
  · refine z_tsw c_240_36 (by first | exact aRg_of _ | (unfold aRg; omega)) (pc2 := 255) (by (by_cases hq : (cmap m) < 1 ∨ 10 < (cmap m)); (rw [if_pos hq]; rfl); (exfalso; omega)) ?_
    refine w_aload c_240_255 rfl ?_
    refine w_lload c_240_256 rfl ?_
    refine w_lload c_240_258 rfl ?_
    refine z_ladd c_240_259 ?_
    refine z_pushl c_240_260 ?_
    refine z_lc_le c_240_261 c_240_262 (by first | exact aRl_of _ | (unfold aRl; omega)) (by first | exact aRl_of _ | (unfold aRl; omega)) (fun h7_ => ?_) (fun h7_ => ?_)
    · refine z_pushl c_240_269 ?_
      refine wc_239 c_240_270 sp_157 (Nat.le_of_ble_eq_true rfl) (by omega) ?_
      refine t_qPuts hn2 (by omega) ?_
      refine r_v ?_
      refine z_retv c_240_273 ?_
      refine k _ _ (up_eq.trans (congrArg iI (by omega))) (st_j (hS.2.2.set (by omega)) ?_) (hF.up ⟨rfl, rfl⟩) (frG.rf.up rfl)
      have hmm : m = 326 := by omega
      subst hmm
      unfold joinZ
      simp only [Int.reduceEq, if_false, if_true]
      rcases hlog with q | ⟨h1, h2⟩
      · exfalso; omega
      omega
    · refine z_pushl c_240_265 ?_
      refine w_goto c_240_266 ?_
      refine wc_239 c_240_270 sp_157 (Nat.le_of_ble_eq_true rfl) (by omega) ?_
      refine t_qPuts hn2 (by omega) ?_
      refine r_v ?_
      refine z_retv c_240_273 ?_
      refine k _ _ (up_eq.trans (congrArg iI (by omega))) (st_j (hS.2.2.set (by omega)) ?_) (hF.up ⟨rfl, rfl⟩) (frG.rf.up rfl)
      have hmm : m = 326 := by omega
      subst hmm
      unfold joinZ
      simp only [Int.reduceEq, if_false, if_true]
      rcases hlog with q | ⟨h1, h2⟩
      · exfalso; omega
      omega

