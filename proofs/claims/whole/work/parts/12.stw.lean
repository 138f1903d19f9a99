section AS4
variable {p : Program} {l : Launch} {e : Env} {R : Room} {s : State} {m : MethodId} {args : Array Value} {below : List Frame} {meth : Method} {c : Code} {H : Heap} {locs : List Loc} {cells slots : Nat} {Q : State → Prop} {y pc h len : Nat} {raw : Instr} {D : va_G} {tyc : FieldType → ClassId} {lsR : Array Slot} {st : List Value} {r : Nat → Nat} {M : aM} {A : Nat → Prop} {ls : List Value} {q d : Nat}

set_option maxHeartbeats 4000000 in
theorem aSt_W {wd : List Int32} {tx : String} {sc : Option (Nat × (Nat → Int32))} {i : Instr} {ls2 st2 : List Value} {M2 : aM} (hb8 : ∀ b ∈ wd, 0 ≤ b ∧ b < 128) (hwl : wd.length < 2 ^ 31) (C : aCx p s m args meth c y D tyc) (hk : aLkR y pc i h raw len = true) (hd : decode (mB y) pc = .ok (raw, len)) (hh : aSt sc wd d i ls st M = some (ls2, st2, M2)) (hR : aRel D tyc r M A s.heap H locs) (hA : ∀ q, s.heap.size ≤ q → A q) (hloc : aLoc r ls lsR) (hlen : ls.length = mL y) (hol : aOkL M.1.length ls) (hos : aOkL M.1.length st) (hfr : d + 1 ≤ R.frames) (hlo : 40 * d ≤ R.locals) (hce : cells + (M2.1.length - M.1.length) ≤ R.cells) (hsl : slots + (aSz M2.1 - aSz M.1) ≤ R.slots) (hstr : aStr wd tx (r aSTR) A s) (hsc : ∀ (N : Nat) (xs : Nat → Int32), sc = some (N, xs) → va_X (r aSCR) N xs s s.heap ∧ r aSCR < s.heap.size ∧ ¬ A (r aSCR))
    (kk : ∀ (r2 : Nat → Nat) (H1 : Heap) (locs1 : List Loc) (lsR2 : Array Slot), aExt M.1.length r r2 → aRel D tyc r2 M2 A s.heap H1 locs1 → aLoc r2 ls2 lsR2 → W p l e R s m args below meth c H1 locs1 (cells + (M2.1.length - M.1.length)) (slots + (aSz M2.1 - aSz M.1)) Q (F0 m (pc + len) lsR2 (aVs r2 st2))) : W p l e R s m args below meth c H locs (cells) (slots) Q (F0 m (pc) lsR (aVs r st)) := by
  have hszR : lsR.size = c.maxLocals := hloc.1.trans (hlen.trans C.2.2.1.symm)
  have ex0 : aExt M.1.length r r := fun _ _ => rfl
  cases i with
  | sipush v =>
    simp only [aSt] at hh
    simp only [Option.some.injEq, Prod.mk.injEq] at hh
    obtain ⟨rfl, rfl, rfl⟩ := hh
    have k0 := kk r H locs lsR ex0 hR hloc
    simp only [Nat.sub_self, Nat.add_zero] at k0
    exact as_sipush C hk hd k0
  | goto_w v =>
    simp only [aSt] at hh
    simp only [Option.some.injEq, Prod.mk.injEq] at hh
    obtain ⟨rfl, rfl, rfl⟩ := hh
    have k0 := kk r H locs lsR ex0 hR hloc
    simp only [Nat.sub_self, Nat.add_zero] at k0
    exact as_lpush C hk hd k0
  | ldc i0 =>
    simp only [aSt] at hh
    simp only [Option.some.injEq, Prod.mk.injEq] at hh
    obtain ⟨rfl, rfl, rfl⟩ := hh
    have k0 := kk r H locs lsR ex0 hR hloc
    simp only [Nat.sub_self, Nat.add_zero] at k0
    exact as_ldcS C hk hd hstr.1 k0
  | iload k =>
    simp only [aSt] at hh
    split at hh
    · rename_i x hx
      simp only [Option.some.injEq, Prod.mk.injEq] at hh
      obtain ⟨rfl, rfl, rfl⟩ := hh
      have k0 := kk r H locs lsR ex0 hR hloc
      simp only [Nat.sub_self, Nat.add_zero] at k0
      exact as_iload C hk hd (hloc.2.2 k _ hx (by intro z; cases z)) k0
    · cases hh
  | lload k =>
    simp only [aSt] at hh
    split at hh
    · rename_i x hx
      simp only [Option.some.injEq, Prod.mk.injEq] at hh
      obtain ⟨rfl, rfl, rfl⟩ := hh
      have k0 := kk r H locs lsR ex0 hR hloc
      simp only [Nat.sub_self, Nat.add_zero] at k0
      exact as_lload C hk hd (hloc.2.2 k _ hx (by intro z; cases z)) k0
    · cases hh
  | aload k =>
    simp only [aSt] at hh
    split at hh
    · rename_i x hx
      simp only [Option.some.injEq, Prod.mk.injEq] at hh
      obtain ⟨rfl, rfl, rfl⟩ := hh
      have k0 := kk r H locs lsR ex0 hR hloc
      simp only [Nat.sub_self, Nat.add_zero] at k0
      exact as_aload C hk hd (hloc.2.2 k _ hx (by intro z; cases z)) k0
    · cases hh
  | istore k =>
    simp only [aSt] at hh
    split at hh
    · rename_i x rr
      split at hh
      · rename_i hkl
        simp only [Option.some.injEq, Prod.mk.injEq] at hh
        obtain ⟨rfl, rfl, rfl⟩ := hh
        refine as_istore (ls := ls) (r := r) C hk hd hloc hkl (fun lsR2 hl2 => ?_)
        have k0 := kk r H locs lsR2 ex0 hR hl2
        simp only [Nat.sub_self, Nat.add_zero] at k0
        exact k0
      · cases hh
    · cases hh
  | astore k =>
    simp only [aSt] at hh
    split at hh
    · rename_i x rr
      split at hh
      · rename_i hkl
        simp only [Option.some.injEq, Prod.mk.injEq] at hh
        obtain ⟨rfl, rfl, rfl⟩ := hh
        refine as_astore (ls := ls) (r := r) C hk hd hloc hkl (fun lsR2 hl2 => ?_)
        have k0 := kk r H locs lsR2 ex0 hR hl2
        simp only [Nat.sub_self, Nat.add_zero] at k0
        exact k0
      · cases hh
    · cases hh
  | lstore k =>
    simp only [aSt] at hh
    split at hh
    · rename_i x rr
      split at hh
      · rename_i hkl
        simp only [Option.some.injEq, Prod.mk.injEq] at hh
        obtain ⟨rfl, rfl, rfl⟩ := hh
        refine as_lstore (ls := ls) (r := r) C hk hd hloc hkl (fun lsR2 hl2 => ?_)
        have k0 := kk r H locs lsR2 ex0 hR hl2
        simp only [Nat.sub_self, Nat.add_zero] at k0
        exact k0
      · cases hh
    · cases hh
  | iinc k n =>
    simp only [aSt] at hh
    split at hh
    · rename_i x hx
      simp only [Option.some.injEq, Prod.mk.injEq] at hh
      obtain ⟨rfl, rfl, rfl⟩ := hh
      refine as_iinc (ls := ls) (r := r) C hk hd hloc hx (fun lsR2 hl2 => ?_)
      have k0 := kk r H locs lsR2 ex0 hR hl2
      simp only [Nat.sub_self, Nat.add_zero] at k0
      exact k0
    · cases hh
  | iadd =>
    simp only [aSt] at hh
    split at hh
    · simp only [Option.some.injEq, Prod.mk.injEq] at hh
      obtain ⟨rfl, rfl, rfl⟩ := hh
      have k0 := kk r H locs lsR ex0 hR hloc
      simp only [Nat.sub_self, Nat.add_zero] at k0
      exact as_iadd C hk hd k0
    · cases hh
  | isub =>
    simp only [aSt] at hh
    split at hh
    · simp only [Option.some.injEq, Prod.mk.injEq] at hh
      obtain ⟨rfl, rfl, rfl⟩ := hh
      have k0 := kk r H locs lsR ex0 hR hloc
      simp only [Nat.sub_self, Nat.add_zero] at k0
      exact as_isub C hk hd k0
    · cases hh
  | imul =>
    simp only [aSt] at hh
    split at hh
    · simp only [Option.some.injEq, Prod.mk.injEq] at hh
      obtain ⟨rfl, rfl, rfl⟩ := hh
      have k0 := kk r H locs lsR ex0 hR hloc
      simp only [Nat.sub_self, Nat.add_zero] at k0
      exact as_imul C hk hd k0
    · cases hh
  | iand =>
    simp only [aSt] at hh
    split at hh
    · simp only [Option.some.injEq, Prod.mk.injEq] at hh
      obtain ⟨rfl, rfl, rfl⟩ := hh
      have k0 := kk r H locs lsR ex0 hR hloc
      simp only [Nat.sub_self, Nat.add_zero] at k0
      exact as_iand C hk hd k0
    · cases hh
  | ior =>
    simp only [aSt] at hh
    split at hh
    · simp only [Option.some.injEq, Prod.mk.injEq] at hh
      obtain ⟨rfl, rfl, rfl⟩ := hh
      have k0 := kk r H locs lsR ex0 hR hloc
      simp only [Nat.sub_self, Nat.add_zero] at k0
      exact as_ior C hk hd k0
    · cases hh
  | ixor =>
    simp only [aSt] at hh
    split at hh
    · simp only [Option.some.injEq, Prod.mk.injEq] at hh
      obtain ⟨rfl, rfl, rfl⟩ := hh
      have k0 := kk r H locs lsR ex0 hR hloc
      simp only [Nat.sub_self, Nat.add_zero] at k0
      exact as_ixor C hk hd k0
    · cases hh
  | ishl =>
    simp only [aSt] at hh
    split at hh
    · simp only [Option.some.injEq, Prod.mk.injEq] at hh
      obtain ⟨rfl, rfl, rfl⟩ := hh
      have k0 := kk r H locs lsR ex0 hR hloc
      simp only [Nat.sub_self, Nat.add_zero] at k0
      exact as_ishl C hk hd k0
    · cases hh
  | ishr =>
    simp only [aSt] at hh
    split at hh
    · simp only [Option.some.injEq, Prod.mk.injEq] at hh
      obtain ⟨rfl, rfl, rfl⟩ := hh
      have k0 := kk r H locs lsR ex0 hR hloc
      simp only [Nat.sub_self, Nat.add_zero] at k0
      exact as_ishr C hk hd k0
    · cases hh
  | iushr =>
    simp only [aSt] at hh
    split at hh
    · simp only [Option.some.injEq, Prod.mk.injEq] at hh
      obtain ⟨rfl, rfl, rfl⟩ := hh
      have k0 := kk r H locs lsR ex0 hR hloc
      simp only [Nat.sub_self, Nat.add_zero] at k0
      exact as_iushr C hk hd k0
    · cases hh
  | ladd =>
    simp only [aSt] at hh
    split at hh
    · simp only [Option.some.injEq, Prod.mk.injEq] at hh
      obtain ⟨rfl, rfl, rfl⟩ := hh
      have k0 := kk r H locs lsR ex0 hR hloc
      simp only [Nat.sub_self, Nat.add_zero] at k0
      exact as_ladd C hk hd k0
    · cases hh
  | lsub =>
    simp only [aSt] at hh
    split at hh
    · simp only [Option.some.injEq, Prod.mk.injEq] at hh
      obtain ⟨rfl, rfl, rfl⟩ := hh
      have k0 := kk r H locs lsR ex0 hR hloc
      simp only [Nat.sub_self, Nat.add_zero] at k0
      exact as_lsub C hk hd k0
    · cases hh
  | lmul =>
    simp only [aSt] at hh
    split at hh
    · simp only [Option.some.injEq, Prod.mk.injEq] at hh
      obtain ⟨rfl, rfl, rfl⟩ := hh
      have k0 := kk r H locs lsR ex0 hR hloc
      simp only [Nat.sub_self, Nat.add_zero] at k0
      exact as_lmul C hk hd k0
    · cases hh
  | lcmp =>
    simp only [aSt] at hh
    split at hh
    · simp only [Option.some.injEq, Prod.mk.injEq] at hh
      obtain ⟨rfl, rfl, rfl⟩ := hh
      have k0 := kk r H locs lsR ex0 hR hloc
      simp only [Nat.sub_self, Nat.add_zero] at k0
      exact as_lcmp C hk hd k0
    · cases hh
  | i2l =>
    simp only [aSt] at hh
    split at hh
    · simp only [Option.some.injEq, Prod.mk.injEq] at hh
      obtain ⟨rfl, rfl, rfl⟩ := hh
      have k0 := kk r H locs lsR ex0 hR hloc
      simp only [Nat.sub_self, Nat.add_zero] at k0
      exact as_i2l C hk hd k0
    · cases hh
  | l2i =>
    simp only [aSt] at hh
    split at hh
    · simp only [Option.some.injEq, Prod.mk.injEq] at hh
      obtain ⟨rfl, rfl, rfl⟩ := hh
      have k0 := kk r H locs lsR ex0 hR hloc
      simp only [Nat.sub_self, Nat.add_zero] at k0
      exact as_l2i C hk hd k0
    · cases hh
  | idiv =>
    simp only [aSt] at hh
    split at hh
    · split at hh
      · cases hh
      · rename_i hc
        simp only [Option.some.injEq, Prod.mk.injEq] at hh
        obtain ⟨rfl, rfl, rfl⟩ := hh
        have k0 := kk r H locs lsR ex0 hR hloc
        simp only [Nat.sub_self, Nat.add_zero] at k0
        exact as_idiv C hk hd hc k0
    · cases hh
  | irem =>
    simp only [aSt] at hh
    split at hh
    · split at hh
      · cases hh
      · rename_i hc
        simp only [Option.some.injEq, Prod.mk.injEq] at hh
        obtain ⟨rfl, rfl, rfl⟩ := hh
        have k0 := kk r H locs lsR ex0 hR hloc
        simp only [Nat.sub_self, Nat.add_zero] at k0
        exact as_irem C hk hd hc k0
    · cases hh
  | ldiv =>
    simp only [aSt] at hh
    split at hh
    · split at hh
      · cases hh
      · rename_i hc
        simp only [Option.some.injEq, Prod.mk.injEq] at hh
        obtain ⟨rfl, rfl, rfl⟩ := hh
        have k0 := kk r H locs lsR ex0 hR hloc
        simp only [Nat.sub_self, Nat.add_zero] at k0
        exact as_ldiv C hk hd hc k0
    · cases hh
  | lrem =>
    simp only [aSt] at hh
    split at hh
    · split at hh
      · cases hh
      · rename_i hc
        simp only [Option.some.injEq, Prod.mk.injEq] at hh
        obtain ⟨rfl, rfl, rfl⟩ := hh
        have k0 := kk r H locs lsR ex0 hR hloc
        simp only [Nat.sub_self, Nat.add_zero] at k0
        exact as_lrem C hk hd hc k0
    · cases hh
  | dup =>
    simp only [aSt] at hh
    split at hh
    · split at hh
      · rename_i hc
        simp only [Option.some.injEq, Prod.mk.injEq] at hh
        obtain ⟨rfl, rfl, rfl⟩ := hh
        have k0 := kk r H locs lsR ex0 hR hloc
        simp only [Nat.sub_self, Nat.add_zero] at k0
        exact as_dup C hk hd (by rw [aV_cat]; exact hc) k0
      · cases hh
    · cases hh
  | pop =>
    simp only [aSt] at hh
    split at hh
    · split at hh
      · rename_i hc
        simp only [Option.some.injEq, Prod.mk.injEq] at hh
        obtain ⟨rfl, rfl, rfl⟩ := hh
        have k0 := kk r H locs lsR ex0 hR hloc
        simp only [Nat.sub_self, Nat.add_zero] at k0
        exact as_pop C hk hd (by rw [aV_cat]; exact hc) k0
      · cases hh
    · cases hh
  | dup2 =>
    simp only [aSt] at hh
    split at hh
    · split at hh
      · rename_i hc
        simp only [Option.some.injEq, Prod.mk.injEq] at hh
        obtain ⟨rfl, rfl, rfl⟩ := hh
        have k0 := kk r H locs lsR ex0 hR hloc
        simp only [Nat.sub_self, Nat.add_zero] at k0
        exact as_dup2 C hk hd (by rw [aV_cat]; exact hc.1) (by rw [aV_cat]; exact hc.2) k0
      · cases hh
    · cases hh
  | getfield f =>
    simp only [aSt] at hh
    split at hh
    · split at hh
      · rename_i hc
        simp only [Option.some.injEq, Prod.mk.injEq] at hh
        obtain ⟨rfl, rfl, rfl⟩ := hh
        have k0 := kk r H locs lsR ex0 hR hloc
        simp only [Nat.sub_self, Nat.add_zero] at k0
        exact as_getfield C hk hd hR hc.1 hc.2 k0
      · cases hh
    · cases hh
  | putfield f =>
    simp only [aSt] at hh
    split at hh
    · rename_i x q rr
      split at hh
      · rename_i hc
        obtain ⟨h1, h2, h3, h4, h5, h6⟩ := hc
        simp only [Option.some.injEq, Prod.mk.injEq] at hh
        obtain ⟨rfl, rfl, rfl⟩ := hh
        simp only [Nat.sub_self, Nat.add_zero] at kk
        have hty : ∀ M0 : aM, aFld M0 q (f / 256) (f % 256) = .int (M0.2.1 q (f % 256)) := fun M0 => by
          unfold aFld
          split
          · rename_i e; exact absurd e h4
          · rename_i e; rw [e] at h3; cases h3
          · rename_i e; rw [e] at h3; cases h3
          · rfl
        refine as_putfield (M2 := (M.1, aUp M.2.1 q (f % 256) x, M.2.2.1, M.2.2.2)) (v := .int x) C hk hd hR h1 h2 rfl h5 h6 (by rw [hty]; simp [aV, aUp]) (fun j hj => ?_) (fun k hk => ⟨aUp_row _ _ _ _ hk, rfl, rfl⟩) hR.2.2.2 (fun H1 locs1 hR1 => kk r H1 locs1 lsR ex0 hR1 hloc)
        unfold aFld
        split <;> simp [aUp, hj]
      · cases hh
    · rename_i x q rr
      split at hh
      · rename_i hc
        obtain ⟨h1, h2, h3⟩ := hc
        simp only [Option.some.injEq, Prod.mk.injEq] at hh
        obtain ⟨rfl, rfl, rfl⟩ := hh
        simp only [Nat.sub_self, Nat.add_zero] at kk
        have hty : ∀ M0 : aM, aFld M0 q (f / 256) (f % 256) = .long (M0.2.2.1 q (f % 256)) := fun M0 => by
          unfold aFld
          rw [h3]
        refine as_putfield (M2 := (M.1, M.2.1, aUp M.2.2.1 q (f % 256) x, M.2.2.2)) (v := .long x) C hk hd hR h1 h2 rfl (by rw [h3]; rfl) (by rw [h3]; rfl) (by rw [hty]; simp [aV, aUp]) (fun j hj => ?_) (fun k hk => ⟨rfl, aUp_row _ _ _ _ hk, rfl⟩) hR.2.2.2 (fun H1 locs1 hR1 => kk r H1 locs1 lsR ex0 hR1 hloc)
        unfold aFld
        split <;> simp [aUp, hj]
      · cases hh
    · rename_i x q rr
      split at hh
      · rename_i hc
        obtain ⟨h1, h2, h3⟩ := hc
        simp only [Option.some.injEq, Prod.mk.injEq] at hh
        obtain ⟨rfl, rfl, rfl⟩ := hh
        simp only [Nat.sub_self, Nat.add_zero] at kk
        have hty : ∀ M0 : aM, aFld M0 q (f / 256) (f % 256) = aRf (M0.2.2.2 q (f % 256)) := fun M0 => by
          unfold aFld
          split
          · rename_i e; rw [e] at h3; cases h3
          · rfl
          · rfl
          · rename_i e1 e2 e3
            cases e : aTy (f / 256) (f % 256) with
            | object z => exact absurd e (e2 z)
            | array z => exact absurd e (e3 z)
            | _ => rw [e] at h3; cases h3
        have hnf : ∀ a : Nat, narrow (aTy (f / 256) (f % 256)) (.ref a) = .ref a ∧ fits (aTy (f / 256) (f % 256)) (.ref a) = true := fun a => by
          cases e : aTy (f / 256) (f % 256) <;> first | exact ⟨rfl, rfl⟩ | (rw [e] at h3; cases h3)
        have hxq := hos
        refine as_putfield (M2 := (M.1, M.2.1, M.2.2.1, aUp M.2.2.2 q (f % 256) (some x))) (v := .ref (r x)) C hk hd hR h1 h2 rfl (hnf _).1 (hnf _).2 (by rw [hty]; simp [aV, aUp, aRf]) (fun j hj => ?_) (fun k hk => ⟨rfl, rfl, aUp_row _ _ _ _ hk⟩) (aOkM_upR hR.2.2.2 ((aOkL_cons.mp hos).1 _ rfl)) (fun H1 locs1 hR1 => kk r H1 locs1 lsR ex0 hR1 hloc)
        unfold aFld
        split <;> simp [aUp, hj]
      · cases hh
    · cases hh
  | iaload =>
    simp only [aSt] at hh
    split at hh
    · split at hh
      · rename_i n hn
        split at hh
        · cases hh
        · rename_i hc
          simp only [Option.some.injEq, Prod.mk.injEq] at hh
          obtain ⟨rfl, rfl, rfl⟩ := hh
          have k0 := kk r H locs lsR ex0 hR hloc
          simp only [Nat.sub_self, Nat.add_zero] at k0
          exact as_iaload C hk hd hR hn hc k0
      · cases hh
    · cases hh
  | caload =>
    simp only [aSt] at hh
    split at hh
    · split at hh
      · rename_i n hn
        split at hh
        · cases hh
        · rename_i hc
          simp only [Option.some.injEq, Prod.mk.injEq] at hh
          obtain ⟨rfl, rfl, rfl⟩ := hh
          have k0 := kk r H locs lsR ex0 hR hloc
          simp only [Nat.sub_self, Nat.add_zero] at k0
          exact as_caload C hk hd hR hn hc k0
      · cases hh
    · cases hh
  | laload =>
    simp only [aSt] at hh
    split at hh
    · split at hh
      · rename_i n hn
        split at hh
        · cases hh
        · rename_i hc
          simp only [Option.some.injEq, Prod.mk.injEq] at hh
          obtain ⟨rfl, rfl, rfl⟩ := hh
          have k0 := kk r H locs lsR ex0 hR hloc
          simp only [Nat.sub_self, Nat.add_zero] at k0
          exact as_laload C hk hd hR hn hc k0
      · cases hh
    · cases hh
  | iastore =>
    simp only [aSt] at hh
    split at hh
    · split at hh
      · rename_i n hn
        split at hh
        · cases hh
        · rename_i hc
          simp only [Option.some.injEq, Prod.mk.injEq] at hh
          obtain ⟨rfl, rfl, rfl⟩ := hh
          simp only [Nat.sub_self, Nat.add_zero] at kk
          exact as_iastore C hk hd hR hn hc (fun H1 locs1 hR1 => kk r H1 locs1 lsR ex0 hR1 hloc)
      · cases hh
    · cases hh
  | castore =>
    simp only [aSt] at hh
    split at hh
    · split at hh
      · rename_i n hn
        split at hh
        · cases hh
        · rename_i hc
          simp only [Option.some.injEq, Prod.mk.injEq] at hh
          obtain ⟨rfl, rfl, rfl⟩ := hh
          simp only [Nat.sub_self, Nat.add_zero] at kk
          exact as_castore C hk hd hR hn hc (fun H1 locs1 hR1 => kk r H1 locs1 lsR ex0 hR1 hloc)
      · cases hh
    · cases hh
  | lastore =>
    simp only [aSt] at hh
    split at hh
    · split at hh
      · rename_i n hn
        split at hh
        · cases hh
        · rename_i hc
          simp only [Option.some.injEq, Prod.mk.injEq] at hh
          obtain ⟨rfl, rfl, rfl⟩ := hh
          simp only [Nat.sub_self, Nat.add_zero] at kk
          exact as_lastore C hk hd hR hn hc (fun H1 locs1 hR1 => kk r H1 locs1 lsR ex0 hR1 hloc)
      · cases hh
    · cases hh
  | aaload =>
    simp only [aSt] at hh
    split at hh
    · split at hh
      · rename_i Cn n hn
        split at hh
        · cases hh
        · rename_i hc
          simp only [Option.some.injEq, Prod.mk.injEq] at hh
          obtain ⟨rfl, rfl, rfl⟩ := hh
          have k0 := kk r H locs lsR ex0 hR hloc
          simp only [Nat.sub_self, Nat.add_zero] at k0
          have eC : Cn = RX1 := Classical.byContradiction fun z => hc (Or.inl z)
          exact as_aaload_o C (Or.inl ⟨rfl, eC⟩) hk hd hR hn (fun z => hc (Or.inr z)) k0
      · rename_i n hn
        split at hh
        · cases hh
        · rename_i hc
          simp only [Option.some.injEq, Prod.mk.injEq] at hh
          obtain ⟨rfl, rfl, rfl⟩ := hh
          have k0 := kk r H locs lsR ex0 hR hloc
          simp only [Nat.sub_self, Nat.add_zero] at k0
          exact as_aaload_o C (Cn := RX1) (Or.inr rfl) hk hd hR hn hc k0
      · cases hh
    · cases hh
  | aastore =>
    simp only [aSt] at hh
    split at hh
    · split at hh
      · rename_i Cn n ci hn hs2
        split at hh
        · cases hh
        · rename_i hc
          simp only [Option.some.injEq, Prod.mk.injEq] at hh
          obtain ⟨rfl, rfl, rfl⟩ := hh
          simp only [Nat.sub_self, Nat.add_zero] at kk
          have eC : Cn = RX1 := Classical.byContradiction fun z => hc (Or.inl z)
          have e1 : ci = 1 := Classical.byContradiction fun z => hc (Or.inr (Or.inl z))
          subst e1
          exact as_aastore (ci := 1) C hk hd hR hn eC (fun z => hc (Or.inr (Or.inr z))) hs2 (fun H1 locs1 hR1 => kk r H1 locs1 lsR ex0 hR1 hloc)
      · cases hh
    · cases hh
  | arraylength =>
    simp only [aSt] at hh
    split at hh
    · split at hh
      · rename_i n hn
        simp only [Option.some.injEq, Prod.mk.injEq] at hh
        obtain ⟨rfl, rfl, rfl⟩ := hh
        have k0 := kk r H locs lsR ex0 hR hloc
        simp only [Nat.sub_self, Nat.add_zero] at k0
        exact as_alen_i C hk hd hR hn k0
      · rename_i n hn
        simp only [Option.some.injEq, Prod.mk.injEq] at hh
        obtain ⟨rfl, rfl, rfl⟩ := hh
        have k0 := kk r H locs lsR ex0 hR hloc
        simp only [Nat.sub_self, Nat.add_zero] at k0
        exact as_alen_c C hk hd hR hn k0
      · cases hh
    · cases hh
  | newarray t =>
    simp only [aSt] at hh
    split at hh
    · split at hh
      · cases hh
      · rename_i n rr hc
        have hl : M.1.length < 1000000 := by omega
        have hn1 : n.toNatClampNeg < 1000000 := by omega
        have hn0 : ¬ n < 0 := fun z => hc (Or.inl z)
        split at hh
        · rename_i ht
          have ht : t = .int := by cases t <;> first | rfl | cases ht
          subst ht
          simp only [Option.some.injEq, Prod.mk.injEq] at hh
          obtain ⟨rfl, rfl, rfl⟩ := hh
          simp only [List.length_append, List.length_cons, List.length_nil, aSz_app, aSz, Nat.add_sub_cancel_left, Nat.add_zero, Nat.zero_add] at hce hsl kk
    
          exact as_newa_int C hk hd hR hA hn0 hn1 hl hce hsl (fun r2 H1 e2 hR2 => kk r2 H1 locs lsR e2 hR2 (aLoc_ext e2 hol hloc) |> fun z => by rwa [show aVs r2 (.ref M.1.length :: rr) = .ref (r2 M.1.length) :: aVs r rr from by rw [show aVs r2 (.ref M.1.length :: rr) = .ref (r2 M.1.length) :: aVs r2 rr from rfl, aVs_ext e2 (aOkL_cons.mp hos).2]] at z)
        · rename_i ht
          have ht : t = .char := by cases t <;> first | rfl | cases ht
          subst ht
          simp only [Option.some.injEq, Prod.mk.injEq] at hh
          obtain ⟨rfl, rfl, rfl⟩ := hh
          simp only [List.length_append, List.length_cons, List.length_nil, aSz_app, aSz, Nat.add_sub_cancel_left, Nat.add_zero, Nat.zero_add] at hce hsl kk
    
          exact as_newa_char C hk hd hR hA hn0 hn1 hl hce hsl (fun r2 H1 e2 hR2 => kk r2 H1 locs lsR e2 hR2 (aLoc_ext e2 hol hloc) |> fun z => by rwa [show aVs r2 (.ref M.1.length :: rr) = .ref (r2 M.1.length) :: aVs r rr from by rw [show aVs r2 (.ref M.1.length :: rr) = .ref (r2 M.1.length) :: aVs r2 rr from rfl, aVs_ext e2 (aOkL_cons.mp hos).2]] at z)
        · rename_i ht
          have ht : t = .long := by cases t <;> first | rfl | cases ht
          subst ht
          simp only [Option.some.injEq, Prod.mk.injEq] at hh
          obtain ⟨rfl, rfl, rfl⟩ := hh
          simp only [List.length_append, List.length_cons, List.length_nil, aSz_app, aSz, Nat.add_sub_cancel_left, Nat.add_zero, Nat.zero_add] at hce hsl kk
    
          exact as_newa_long C hk hd hR hA hn0 hn1 hl hce hsl (fun r2 H1 e2 hR2 => kk r2 H1 locs lsR e2 hR2 (aLoc_ext e2 hol hloc) |> fun z => by rwa [show aVs r2 (.ref M.1.length :: rr) = .ref (r2 M.1.length) :: aVs r rr from by rw [show aVs r2 (.ref M.1.length :: rr) = .ref (r2 M.1.length) :: aVs r2 rr from rfl, aVs_ext e2 (aOkL_cons.mp hos).2]] at z)
        · cases hh
    · cases hh
  | anewarray ci =>
    simp only [aSt] at hh
    split at hh
    · split at hh
      · cases hh
      · rename_i n rr hc
        have hl : M.1.length < 1000000 := by omega
        have hn1 : n.toNatClampNeg < 1000000 := by omega
        have hn0 : ¬ n < 0 := fun z => hc (Or.inl z)
        simp only [Option.some.injEq, Prod.mk.injEq] at hh
        obtain ⟨rfl, rfl, rfl⟩ := hh
        simp only [List.length_append, List.length_cons, List.length_nil, aSz_app, aSz, Nat.add_sub_cancel_left, Nat.add_zero, Nat.zero_add] at hce hsl kk
    
        exact as_newq C hk hd hR hA hn0 hn1 hl hce hsl (fun r2 H1 e2 hR2 => kk r2 H1 locs lsR e2 hR2 (aLoc_ext e2 hol hloc) |> fun z => by rwa [show aVs r2 (.ref M.1.length :: rr) = .ref (r2 M.1.length) :: aVs r rr from by rw [show aVs r2 (.ref M.1.length :: rr) = .ref (r2 M.1.length) :: aVs r2 rr from rfl, aVs_ext e2 (aOkL_cons.mp hos).2]] at z)
    · cases hh
  | new ci =>
    simp only [aSt] at hh
    split at hh
    · rename_i hc
      simp only [Option.some.injEq, Prod.mk.injEq] at hh
      obtain ⟨rfl, rfl, rfl⟩ := hh
      simp only [List.length_append, List.length_cons, List.length_nil, aSz_app, aSz, Nat.add_sub_cancel_left, Nat.add_zero, Nat.zero_add] at hce hsl kk
    
      exact as_new C hk hd hR hA hc.2 hce hsl (fun r2 H1 e2 hR2 => kk r2 H1 locs lsR e2 hR2 (aLoc_ext e2 hol hloc) |> fun z => by rwa [show aVs r2 (.ref M.1.length :: st) = .ref (r2 M.1.length) :: aVs r st from by rw [show aVs r2 (.ref M.1.length :: st) = .ref (r2 M.1.length) :: aVs r2 st from rfl, aVs_ext e2 hos]] at z)
    · cases hh
  | multianewarray i0 d0 =>
    simp only [aSt] at hh
    split at hh
    · split at hh
      · cases hh
      · rename_i k n rr hc
        have hn0 : ¬ n < 0 := fun z => hc (Or.inl z)
        have hk0 : ¬ k < 0 := fun z => hc (Or.inr (Or.inl z))
        simp only [Option.some.injEq, Prod.mk.injEq] at hh
        obtain ⟨rfl, rfl, rfl⟩ := hh
        have e1 : ((M.1 ++ [((some (.array .int), n.toNatClampNeg) : aSh)]) ++ List.replicate n.toNatClampNeg ((some .int, k.toNatClampNeg) : aSh)).length - M.1.length = 1 + n.toNatClampNeg := by
          simp only [List.length_append, List.length_replicate, List.length_cons, List.length_nil]; omega
        have e3 : aSz ((M.1 ++ [((some (.array .int), n.toNatClampNeg) : aSh)]) ++ List.replicate n.toNatClampNeg ((some .int, k.toNatClampNeg) : aSh)) - aSz M.1 = n.toNatClampNeg + n.toNatClampNeg * k.toNatClampNeg := by
          rw [aSz_app, aSz_app, aSz_rep]; simp only [aSz]; omega
        simp only [e1, e3] at hce hsl kk
        exact as_newm C hk hd hR hA hn0 hk0 (by omega) (by omega) (by omega) hce hsl (fun r2 H1 e2 hR2 => kk r2 H1 locs lsR e2 hR2 (aLoc_ext e2 hol hloc) |> fun z => by rwa [show aVs r2 (.ref M.1.length :: rr) = .ref (r2 M.1.length) :: aVs r rr from by rw [show aVs r2 (.ref M.1.length :: rr) = .ref (r2 M.1.length) :: aVs r2 rr from rfl, aVs_ext e2 (aOkL_cons.mp (aOkL_cons.mp hos).2).2]] at z)
    · cases hh
  | saload =>
    simp only [aSt] at hh
    split at hh
    · cases hh
    · rename_i n xs
      split at hh
      · split at hh
        · cases hh
        · rename_i hc
          simp only [Option.some.injEq, Prod.mk.injEq] at hh
          obtain ⟨rfl, rfl, rfl⟩ := hh
          have k0 := kk r H locs lsR ex0 hR hloc
          simp only [Nat.sub_self, Nat.add_zero] at k0
          obtain ⟨a1, a2, a3⟩ := hsc n xs rfl
          rename_i j q rr
          have eq : q = aSCR := Classical.byContradiction fun z => hc (Or.inl z)
          subst eq
          exact as_sald C hk hd hR a1 a2 a3 (fun z => hc (Or.inr z)) k0
      · cases hh
  | invokeinterface i0 ct =>
    match i0, hh, hk with
    | 0, hh, hk =>
      simp only [aSt] at hh
      split at hh
      · split at hh
        · cases hh
        · rename_i hc
          simp only [Option.some.injEq, Prod.mk.injEq] at hh
          obtain ⟨rfl, rfl, rfl⟩ := hh
          have k0 := kk r H locs lsR ex0 hR hloc
          simp only [Nat.sub_self, Nat.add_zero] at k0
          exact as_objinit C hk hd hszR (by have : d ≠ 0 := fun z => hc (Or.inl z); omega) (by have : d ≠ 0 := fun z => hc (Or.inl z); omega) (by omega) k0
      · cases hh
    | 1, hh, hk =>
      simp only [aSt] at hh
      split at hh
      · split at hh
        · cases hh
        · rename_i hc
          simp only [Option.some.injEq, Prod.mk.injEq] at hh
          obtain ⟨rfl, rfl, rfl⟩ := hh
          have k0 := kk r H locs lsR ex0 hR hloc
          simp only [Nat.sub_self, Nat.add_zero] at k0 hce hsl
          exact as_mmax C hk hd hszR.symm hce hsl (by have : d ≠ 0 := fun z => hc (Or.inl z); omega) (by have : d ≠ 0 := fun z => hc (Or.inl z); omega) (by omega) k0
      · cases hh
    | 2, hh, hk =>
      simp only [aSt] at hh
      split at hh
      · split at hh
        · cases hh
        · rename_i hc
          simp only [Option.some.injEq, Prod.mk.injEq] at hh
          obtain ⟨rfl, rfl, rfl⟩ := hh
          have k0 := kk r H locs lsR ex0 hR hloc
          simp only [Nat.sub_self, Nat.add_zero] at k0 hce hsl
          exact as_mmin C hk hd hszR.symm hce hsl (by have : d ≠ 0 := fun z => hc (Or.inl z); omega) (by have : d ≠ 0 := fun z => hc (Or.inl z); omega) (by omega) k0
      · cases hh
    | 3, hh, hk =>
      simp only [aSt] at hh
      split at hh
      · split at hh
        · cases hh
        · rename_i hc
          split at hh
          · rename_i n0 n1 hs0 hs1
            split at hh
            · rename_i hb2
              simp only [Option.some.injEq, Prod.mk.injEq] at hh
              obtain ⟨rfl, rfl, rfl⟩ := hh
              simp only [Nat.sub_self, Nat.add_zero] at kk
              exact as_acopy C hk hd hszR.symm hR hs0 hs1 (fun z => hc (Or.inr (Or.inr (Or.inr (Or.inr z))))) (fun z => hc (Or.inr (Or.inr (Or.inr (Or.inl z))))) (fun z => hc (Or.inr (Or.inr (Or.inl z)))) hb2.1 hb2.2 (by have : d ≠ 0 := fun z => hc (Or.inl z); omega) (by have : d ≠ 0 := fun z => hc (Or.inl z); omega) (by omega) (fun H1 locs1 hR1 => kk r H1 locs1 lsR ex0 hR1 hloc)
            · cases hh
          · cases hh
      · cases hh
    | 4, hh, hk =>
      simp only [aSt] at hh
      split at hh
      · split at hh
        · cases hh
        · rename_i hc
          simp only [Option.some.injEq, Prod.mk.injEq] at hh
          obtain ⟨rfl, rfl, rfl⟩ := hh
          have k0 := kk r H locs lsR ex0 hR hloc
          simp only [Nat.sub_self, Nat.add_zero] at k0 hce hsl
          rename_i q rr
          have eq : q = aSTR := Classical.byContradiction fun z => hc (Or.inr (Or.inr z))
          subst eq
          exact as_strlen hwl C hk hd hszR hR hA hstr hce hsl (by omega) (by omega) (by omega) k0
      · cases hh
    | 5, hh, hk =>
      simp only [aSt] at hh
      split at hh
      · split at hh
        · cases hh
        · rename_i hc
          split at hh
          · rename_i x hx
            simp only [Option.some.injEq, Prod.mk.injEq] at hh
            obtain ⟨rfl, rfl, rfl⟩ := hh
            have k0 := kk r H locs lsR ex0 hR hloc
            simp only [Nat.sub_self, Nat.add_zero] at k0 hce hsl
            rename_i j q rr _
            have eq : q = aSTR := Classical.byContradiction fun z => hc (Or.inr (Or.inr (Or.inl z)))
            subst eq
            exact as_strchar hb8 hwl C hk hd hszR hR hA hstr hce hsl (by omega) (by omega) (by omega) (fun z => hc (Or.inr (Or.inr (Or.inr z)))) hx k0
          · cases hh
      · cases hh
    | 6, hh, hk =>
      simp only [aSt] at hh
      split at hh
      · cases hh
      · rename_i n xs
        split at hh
        · rename_i q rr
          split at hh
          · cases hh
          · rename_i hc
            simp only [Option.some.injEq, Prod.mk.injEq] at hh
            obtain ⟨rfl, rfl, rfl⟩ := hh
            have k0 := kk r H locs lsR ex0 hR hloc
            simp only [Nat.sub_self, Nat.add_zero] at k0
            obtain ⟨a1, a2, a3⟩ := hsc _ _ rfl
            have eq : q = aSCR := Classical.byContradiction hc
            subst eq
            exact as_slen C hk hd hR a1 a2 a3 k0
        · cases hh
    | n + 7, hh, hk => cases hh
  | _ => cases hh
end AS4
