section AS1
variable {p : Program} {l : Launch} {e : Env} {R : Room} {s : State} {m : MethodId} {args : Array Value} {below : List Frame} {meth : Method} {c : Code} {H : Heap} {locs : List Loc} {cells slots : Nat} {Q : State → Prop} {y pc h len : Nat} {raw : Instr} {D : va_G} {tyc : FieldType → ClassId} {lsR : Array Slot} {st : List Value} {r : Nat → Nat} {M : aM} {A : Nat → Prop} {ls : List Value}

theorem aHit_in {h : Nat} {w : Cond} (k : aHit h w = true) : w ∈ WS := by
  simp only [aHit, Bool.and_eq_true, decide_eq_true_eq] at k
  exact List.mem_filter.mpr ⟨aGet_in k.1, k.2⟩
theorem as_sipush (C : aCx p s m args meth c y D tyc) {v : Int} (hk : aLkR y pc (.sipush v) h raw len = true) (hd : decode (mB y) pc = .ok (raw, len)) (kk : W p l e R s m args below meth c H locs (cells) (slots) Q (F0 m (pc + len) lsR (.int (Int32.ofInt v) :: st))) : W p l e R s m args below meth c H locs (cells) (slots) Q (F0 m (pc) lsR (st)) := by
  obtain ⟨hx, hb, hml, hown, hts, hK, hnm, hne, hao, hao2⟩ := C
  simp only [aLkR] at hk
  split at hk
  · simp only [Bool.and_eq_true, decide_eq_true_eq] at hk
    obtain ⟨rfl, rfl⟩ := hk
    exact lv_iconst hx hb hd rfl kk
  · simp only [Bool.and_eq_true, decide_eq_true_eq] at hk
    obtain ⟨h1, rfl⟩ := hk
    exact lv_bipush hx hb hd h1 kk
  · simp only [Bool.and_eq_true, decide_eq_true_eq] at hk
    obtain ⟨h1, rfl⟩ := hk
    exact lv_sipush hx hb hd h1 kk
  · simp only [Bool.and_eq_true, decide_eq_true_eq] at hk
    obtain ⟨h1, rfl⟩ := hk
    exact lv_ldc hx hb hown (hts _ (aHit_in h1)) hd kk
  · simp only [Bool.and_eq_true, decide_eq_true_eq] at hk
    obtain ⟨h1, rfl⟩ := hk
    exact lv_ldcw hx hb hown (hts _ (aHit_in h1)) hd kk
  · cases hk
theorem as_lpush (C : aCx p s m args meth c y D tyc) {v : Int} (hk : aLkR y pc (.goto_w v) h raw len = true) (hd : decode (mB y) pc = .ok (raw, len)) (kk : W p l e R s m args below meth c H locs (cells) (slots) Q (F0 m (pc + len) lsR (.long (Int64.ofInt v) :: st))) : W p l e R s m args below meth c H locs (cells) (slots) Q (F0 m (pc) lsR (st)) := by
  obtain ⟨hx, hb, hml, hown, hts, hK, hnm, hne, hao, hao2⟩ := C
  simp only [aLkR] at hk
  split at hk
  · simp only [Bool.and_eq_true, decide_eq_true_eq] at hk
    obtain ⟨h1, rfl⟩ := hk
    exact lv_lconst hx hb hd h1 kk
  · simp only [Bool.and_eq_true, decide_eq_true_eq] at hk
    obtain ⟨h1, rfl⟩ := hk
    exact lv_ldc2 hx hb hown (hts _ (aHit_in h1)) hd kk
  · cases hk
theorem as_iload (C : aCx p s m args meth c y D tyc) {k : Nat} {x : Int32} (hk : aLkR y pc (.iload k) h raw len = true) (hd : decode (mB y) pc = .ok (raw, len)) (hl : lsR[k]? = some (.val (.int x))) (kk : W p l e R s m args below meth c H locs (cells) (slots) Q (F0 m (pc + len) lsR (.int x :: st))) : W p l e R s m args below meth c H locs (cells) (slots) Q (F0 m (pc) lsR (st)) := by
  obtain ⟨hx, hb, hml, hown, hts, hK, hnm, hne, hao, hao2⟩ := C
  simp only [aLkR] at hk
  split at hk
  · simp only [Bool.and_eq_true, decide_eq_true_eq] at hk
    obtain ⟨rfl, rfl⟩ := hk
    exact lv_iload hx hb hd hl kk
  · simp only [Bool.and_eq_true, decide_eq_true_eq] at hk
    obtain ⟨h1, rfl⟩ := hk
    exact lv_iload_n hx hb hd h1 hl kk
  · cases hk
theorem as_lload (C : aCx p s m args meth c y D tyc) {k : Nat} {x : Int64} (hk : aLkR y pc (.lload k) h raw len = true) (hd : decode (mB y) pc = .ok (raw, len)) (hl : lsR[k]? = some (.val (.long x))) (kk : W p l e R s m args below meth c H locs (cells) (slots) Q (F0 m (pc + len) lsR (.long x :: st))) : W p l e R s m args below meth c H locs (cells) (slots) Q (F0 m (pc) lsR (st)) := by
  obtain ⟨hx, hb, hml, hown, hts, hK, hnm, hne, hao, hao2⟩ := C
  simp only [aLkR] at hk
  split at hk
  · simp only [Bool.and_eq_true, decide_eq_true_eq] at hk
    obtain ⟨rfl, rfl⟩ := hk
    exact lv_lload hx hb hd hl kk
  · simp only [Bool.and_eq_true, decide_eq_true_eq] at hk
    obtain ⟨h1, rfl⟩ := hk
    exact lv_lload_n hx hb hd h1 hl kk
  · cases hk
theorem as_aload (C : aCx p s m args meth c y D tyc) {k : Nat} {x : Nat} (hk : aLkR y pc (.aload k) h raw len = true) (hd : decode (mB y) pc = .ok (raw, len)) (hl : lsR[k]? = some (.val (.ref x))) (kk : W p l e R s m args below meth c H locs (cells) (slots) Q (F0 m (pc + len) lsR (.ref x :: st))) : W p l e R s m args below meth c H locs (cells) (slots) Q (F0 m (pc) lsR (st)) := by
  obtain ⟨hx, hb, hml, hown, hts, hK, hnm, hne, hao, hao2⟩ := C
  simp only [aLkR] at hk
  split at hk
  · simp only [Bool.and_eq_true, decide_eq_true_eq] at hk
    obtain ⟨rfl, rfl⟩ := hk
    exact lv_aload hx hb hd hl kk
  · simp only [Bool.and_eq_true, decide_eq_true_eq] at hk
    obtain ⟨h1, rfl⟩ := hk
    exact lv_aload_n hx hb hd h1 hl kk
  · cases hk
theorem as_istore (C : aCx p s m args meth c y D tyc) {k : Nat} {x : Int32} (hk : aLkR y pc (.istore k) h raw len = true) (hd : decode (mB y) pc = .ok (raw, len)) (hloc : aLoc r ls lsR) (hkl : k < ls.length) (kk : ∀ lsR2 : Array Slot, aLoc r (aSto ls k (.int x)) lsR2 → W p l e R s m args below meth c H locs (cells) (slots) Q (F0 m (pc + len) lsR2 (st))) : W p l e R s m args below meth c H locs (cells) (slots) Q (F0 m (pc) lsR ((.int x) :: st)) := by
  obtain ⟨hx, hb, hml, hown, hts, hK, hnm, hne, hao, hao2⟩ := C
  simp only [aLkR] at hk
  split at hk
  · simp only [Bool.and_eq_true, decide_eq_true_eq] at hk
    obtain ⟨rfl, rfl⟩ := hk
    exact lv_istore hx hb hd (aLoc_has hloc) hkl rfl (fun ls2 hl2 => kk ls2 (aSto_loc (v := (.int x)) hl2))
  · simp only [Bool.and_eq_true, decide_eq_true_eq] at hk
    obtain ⟨h1, rfl⟩ := hk
    exact lv_istore_n hx hb hd h1 (aLoc_has hloc) hkl rfl (fun ls2 hl2 => kk ls2 (aSto_loc (v := (.int x)) hl2))
  · cases hk
theorem as_astore (C : aCx p s m args meth c y D tyc) {k : Nat} {x : Nat} (hk : aLkR y pc (.astore k) h raw len = true) (hd : decode (mB y) pc = .ok (raw, len)) (hloc : aLoc r ls lsR) (hkl : k < ls.length) (kk : ∀ lsR2 : Array Slot, aLoc r (aSto ls k (.ref x)) lsR2 → W p l e R s m args below meth c H locs (cells) (slots) Q (F0 m (pc + len) lsR2 (st))) : W p l e R s m args below meth c H locs (cells) (slots) Q (F0 m (pc) lsR ((.ref (r x)) :: st)) := by
  obtain ⟨hx, hb, hml, hown, hts, hK, hnm, hne, hao, hao2⟩ := C
  simp only [aLkR] at hk
  split at hk
  · simp only [Bool.and_eq_true, decide_eq_true_eq] at hk
    obtain ⟨rfl, rfl⟩ := hk
    exact lv_astore hx hb hd (aLoc_has hloc) hkl rfl (fun ls2 hl2 => kk ls2 (aSto_loc (v := (.ref x)) hl2))
  · simp only [Bool.and_eq_true, decide_eq_true_eq] at hk
    obtain ⟨h1, rfl⟩ := hk
    exact lv_astore_n hx hb hd h1 (aLoc_has hloc) hkl rfl (fun ls2 hl2 => kk ls2 (aSto_loc (v := (.ref x)) hl2))
  · cases hk
theorem as_lstore (C : aCx p s m args meth c y D tyc) {k : Nat} {x : Int64} (hk : aLkR y pc (.lstore k) h raw len = true) (hd : decode (mB y) pc = .ok (raw, len)) (hloc : aLoc r ls lsR) (hkl : k + 1 < ls.length) (kk : ∀ lsR2 : Array Slot, aLoc r (aStoL ls k (.long x)) lsR2 → W p l e R s m args below meth c H locs (cells) (slots) Q (F0 m (pc + len) lsR2 (st))) : W p l e R s m args below meth c H locs (cells) (slots) Q (F0 m (pc) lsR ((.long x) :: st)) := by
  obtain ⟨hx, hb, hml, hown, hts, hK, hnm, hne, hao, hao2⟩ := C
  simp only [aLkR] at hk
  split at hk
  · simp only [Bool.and_eq_true, decide_eq_true_eq] at hk
    obtain ⟨rfl, rfl⟩ := hk
    exact lv_lstore hx hb hd (aLoc_has hloc) hkl rfl (fun ls2 hl2 => kk ls2 (aStoL_loc (v := (.long x)) hl2))
  · simp only [Bool.and_eq_true, decide_eq_true_eq] at hk
    obtain ⟨h1, rfl⟩ := hk
    exact lv_lstore_n hx hb hd h1 (aLoc_has hloc) hkl rfl (fun ls2 hl2 => kk ls2 (aStoL_loc (v := (.long x)) hl2))
  · cases hk
theorem as_iinc (C : aCx p s m args meth c y D tyc) {k : Nat} {n : Int} {x : Int32} (hk : aLkR y pc (.iinc k n) h raw len = true) (hd : decode (mB y) pc = .ok (raw, len)) (hloc : aLoc r ls lsR) (hkl : ls[k]? = some (.int x)) (kk : ∀ lsR2 : Array Slot, aLoc r (ls.set k (.int (x + Int32.ofInt n))) lsR2 → W p l e R s m args below meth c H locs (cells) (slots) Q (F0 m (pc + len) lsR2 (st))) : W p l e R s m args below meth c H locs (cells) (slots) Q (F0 m (pc) lsR (st)) := by
  obtain ⟨hx, hb, hml, hown, hts, hK, hnm, hne, hao, hao2⟩ := C
  simp only [aLkR, Bool.and_eq_true, decide_eq_true_eq] at hk
  obtain ⟨rfl, rfl⟩ := hk
  obtain ⟨j, hj⟩ := List.getElem?_of_mem (aLoc_in (r := r) hkl (by intro z; cases z))
  exact lv_iinc hx hb hd (aLoc_has hloc) (k := j) hj rfl (List.getElem?_eq_some_iff.mp hkl).1 rfl (fun ls2 hl2 => kk ls2 (aLoc_set_int hkl hl2 (fun i v h1 h2 h3 => aLoc_second hloc h1 h2 hkl (by intro z; cases z) h3)))
theorem as_iadd (C : aCx p s m args meth c y D tyc) {x z : Int32} (hk : aLkR y pc (.iadd) h raw len = true) (hd : decode (mB y) pc = .ok (raw, len)) (kk : W p l e R s m args below meth c H locs (cells) (slots) Q (F0 m (pc + len) lsR (.int (x + z) :: st))) : W p l e R s m args below meth c H locs (cells) (slots) Q (F0 m (pc) lsR (.int z :: .int x :: st)) := by
  obtain ⟨hx, hb, hml, hown, hts, hK, hnm, hne, hao, hao2⟩ := C
  simp only [aLkR, Bool.and_eq_true, decide_eq_true_eq] at hk
  obtain ⟨rfl, rfl⟩ := hk
  exact lv_iadd hx hb hd kk
theorem as_isub (C : aCx p s m args meth c y D tyc) {x z : Int32} (hk : aLkR y pc (.isub) h raw len = true) (hd : decode (mB y) pc = .ok (raw, len)) (kk : W p l e R s m args below meth c H locs (cells) (slots) Q (F0 m (pc + len) lsR (.int (x - z) :: st))) : W p l e R s m args below meth c H locs (cells) (slots) Q (F0 m (pc) lsR (.int z :: .int x :: st)) := by
  obtain ⟨hx, hb, hml, hown, hts, hK, hnm, hne, hao, hao2⟩ := C
  simp only [aLkR, Bool.and_eq_true, decide_eq_true_eq] at hk
  obtain ⟨rfl, rfl⟩ := hk
  exact lv_isub hx hb hd kk
theorem as_imul (C : aCx p s m args meth c y D tyc) {x z : Int32} (hk : aLkR y pc (.imul) h raw len = true) (hd : decode (mB y) pc = .ok (raw, len)) (kk : W p l e R s m args below meth c H locs (cells) (slots) Q (F0 m (pc + len) lsR (.int (x * z) :: st))) : W p l e R s m args below meth c H locs (cells) (slots) Q (F0 m (pc) lsR (.int z :: .int x :: st)) := by
  obtain ⟨hx, hb, hml, hown, hts, hK, hnm, hne, hao, hao2⟩ := C
  simp only [aLkR, Bool.and_eq_true, decide_eq_true_eq] at hk
  obtain ⟨rfl, rfl⟩ := hk
  exact lv_imul hx hb hd kk
theorem as_iand (C : aCx p s m args meth c y D tyc) {x z : Int32} (hk : aLkR y pc (.iand) h raw len = true) (hd : decode (mB y) pc = .ok (raw, len)) (kk : W p l e R s m args below meth c H locs (cells) (slots) Q (F0 m (pc + len) lsR (.int (x &&& z) :: st))) : W p l e R s m args below meth c H locs (cells) (slots) Q (F0 m (pc) lsR (.int z :: .int x :: st)) := by
  obtain ⟨hx, hb, hml, hown, hts, hK, hnm, hne, hao, hao2⟩ := C
  simp only [aLkR, Bool.and_eq_true, decide_eq_true_eq] at hk
  obtain ⟨rfl, rfl⟩ := hk
  exact lv_iand hx hb hd kk
theorem as_ior (C : aCx p s m args meth c y D tyc) {x z : Int32} (hk : aLkR y pc (.ior) h raw len = true) (hd : decode (mB y) pc = .ok (raw, len)) (kk : W p l e R s m args below meth c H locs (cells) (slots) Q (F0 m (pc + len) lsR (.int (x ||| z) :: st))) : W p l e R s m args below meth c H locs (cells) (slots) Q (F0 m (pc) lsR (.int z :: .int x :: st)) := by
  obtain ⟨hx, hb, hml, hown, hts, hK, hnm, hne, hao, hao2⟩ := C
  simp only [aLkR, Bool.and_eq_true, decide_eq_true_eq] at hk
  obtain ⟨rfl, rfl⟩ := hk
  exact lv_ior hx hb hd kk
theorem as_ixor (C : aCx p s m args meth c y D tyc) {x z : Int32} (hk : aLkR y pc (.ixor) h raw len = true) (hd : decode (mB y) pc = .ok (raw, len)) (kk : W p l e R s m args below meth c H locs (cells) (slots) Q (F0 m (pc + len) lsR (.int (x ^^^ z) :: st))) : W p l e R s m args below meth c H locs (cells) (slots) Q (F0 m (pc) lsR (.int z :: .int x :: st)) := by
  obtain ⟨hx, hb, hml, hown, hts, hK, hnm, hne, hao, hao2⟩ := C
  simp only [aLkR, Bool.and_eq_true, decide_eq_true_eq] at hk
  obtain ⟨rfl, rfl⟩ := hk
  exact lv_ixor hx hb hd kk
theorem as_ishl (C : aCx p s m args meth c y D tyc) {x z : Int32} (hk : aLkR y pc (.ishl) h raw len = true) (hd : decode (mB y) pc = .ok (raw, len)) (kk : W p l e R s m args below meth c H locs (cells) (slots) Q (F0 m (pc + len) lsR (.int (x <<< (z &&& 31)) :: st))) : W p l e R s m args below meth c H locs (cells) (slots) Q (F0 m (pc) lsR (.int z :: .int x :: st)) := by
  obtain ⟨hx, hb, hml, hown, hts, hK, hnm, hne, hao, hao2⟩ := C
  simp only [aLkR, Bool.and_eq_true, decide_eq_true_eq] at hk
  obtain ⟨rfl, rfl⟩ := hk
  exact lv_ishl hx hb hd kk
theorem as_ishr (C : aCx p s m args meth c y D tyc) {x z : Int32} (hk : aLkR y pc (.ishr) h raw len = true) (hd : decode (mB y) pc = .ok (raw, len)) (kk : W p l e R s m args below meth c H locs (cells) (slots) Q (F0 m (pc + len) lsR (.int (x >>> (z &&& 31)) :: st))) : W p l e R s m args below meth c H locs (cells) (slots) Q (F0 m (pc) lsR (.int z :: .int x :: st)) := by
  obtain ⟨hx, hb, hml, hown, hts, hK, hnm, hne, hao, hao2⟩ := C
  simp only [aLkR, Bool.and_eq_true, decide_eq_true_eq] at hk
  obtain ⟨rfl, rfl⟩ := hk
  exact lv_ishr hx hb hd kk
theorem as_idiv (C : aCx p s m args meth c y D tyc) {x z : Int32} (hk : aLkR y pc (.idiv) h raw len = true) (hd : decode (mB y) pc = .ok (raw, len)) (hnz : ¬ z = 0) (kk : W p l e R s m args below meth c H locs (cells) (slots) Q (F0 m (pc + len) lsR (.int (x / z) :: st))) : W p l e R s m args below meth c H locs (cells) (slots) Q (F0 m (pc) lsR (.int z :: .int x :: st)) := by
  obtain ⟨hx, hb, hml, hown, hts, hK, hnm, hne, hao, hao2⟩ := C
  simp only [aLkR, Bool.and_eq_true, decide_eq_true_eq] at hk
  obtain ⟨rfl, rfl⟩ := hk
  exact lv_idiv hx hb hd hnz kk
theorem as_irem (C : aCx p s m args meth c y D tyc) {x z : Int32} (hk : aLkR y pc (.irem) h raw len = true) (hd : decode (mB y) pc = .ok (raw, len)) (hnz : ¬ z = 0) (kk : W p l e R s m args below meth c H locs (cells) (slots) Q (F0 m (pc + len) lsR (.int (x - x / z * z) :: st))) : W p l e R s m args below meth c H locs (cells) (slots) Q (F0 m (pc) lsR (.int z :: .int x :: st)) := by
  obtain ⟨hx, hb, hml, hown, hts, hK, hnm, hne, hao, hao2⟩ := C
  simp only [aLkR, Bool.and_eq_true, decide_eq_true_eq] at hk
  obtain ⟨rfl, rfl⟩ := hk
  exact lv_irem hx hb hd hnz kk
theorem as_iushr (C : aCx p s m args meth c y D tyc) {x z : Int32} (hk : aLkR y pc (.iushr) h raw len = true) (hd : decode (mB y) pc = .ok (raw, len)) (kk : W p l e R s m args below meth c H locs (cells) (slots) Q (F0 m (pc + len) lsR (.int ((x.toUInt32 >>> (z.toUInt32 &&& Int32.toUInt32 31)).toInt32) :: st))) : W p l e R s m args below meth c H locs (cells) (slots) Q (F0 m (pc) lsR (.int z :: .int x :: st)) := by
  obtain ⟨hx, hb, hml, hown, hts, hK, hnm, hne, hao, hao2⟩ := C
  simp only [aLkR, Bool.and_eq_true, decide_eq_true_eq] at hk
  obtain ⟨rfl, rfl⟩ := hk
  exact lv_iushr hx hb hd rfl kk
theorem as_ladd (C : aCx p s m args meth c y D tyc) {x z : Int64} (hk : aLkR y pc (.ladd) h raw len = true) (hd : decode (mB y) pc = .ok (raw, len)) (kk : W p l e R s m args below meth c H locs (cells) (slots) Q (F0 m (pc + len) lsR (.long (x + z) :: st))) : W p l e R s m args below meth c H locs (cells) (slots) Q (F0 m (pc) lsR (.long z :: .long x :: st)) := by
  obtain ⟨hx, hb, hml, hown, hts, hK, hnm, hne, hao, hao2⟩ := C
  simp only [aLkR, Bool.and_eq_true, decide_eq_true_eq] at hk
  obtain ⟨rfl, rfl⟩ := hk
  exact lv_ladd hx hb hd kk
theorem as_lsub (C : aCx p s m args meth c y D tyc) {x z : Int64} (hk : aLkR y pc (.lsub) h raw len = true) (hd : decode (mB y) pc = .ok (raw, len)) (kk : W p l e R s m args below meth c H locs (cells) (slots) Q (F0 m (pc + len) lsR (.long (x - z) :: st))) : W p l e R s m args below meth c H locs (cells) (slots) Q (F0 m (pc) lsR (.long z :: .long x :: st)) := by
  obtain ⟨hx, hb, hml, hown, hts, hK, hnm, hne, hao, hao2⟩ := C
  simp only [aLkR, Bool.and_eq_true, decide_eq_true_eq] at hk
  obtain ⟨rfl, rfl⟩ := hk
  exact lv_lsub hx hb hd kk
theorem as_lmul (C : aCx p s m args meth c y D tyc) {x z : Int64} (hk : aLkR y pc (.lmul) h raw len = true) (hd : decode (mB y) pc = .ok (raw, len)) (kk : W p l e R s m args below meth c H locs (cells) (slots) Q (F0 m (pc + len) lsR (.long (x * z) :: st))) : W p l e R s m args below meth c H locs (cells) (slots) Q (F0 m (pc) lsR (.long z :: .long x :: st)) := by
  obtain ⟨hx, hb, hml, hown, hts, hK, hnm, hne, hao, hao2⟩ := C
  simp only [aLkR, Bool.and_eq_true, decide_eq_true_eq] at hk
  obtain ⟨rfl, rfl⟩ := hk
  exact lv_lmul hx hb hd kk
theorem as_ldiv (C : aCx p s m args meth c y D tyc) {x z : Int64} (hk : aLkR y pc (.ldiv) h raw len = true) (hd : decode (mB y) pc = .ok (raw, len)) (hnz : ¬ z = 0) (kk : W p l e R s m args below meth c H locs (cells) (slots) Q (F0 m (pc + len) lsR (.long (x / z) :: st))) : W p l e R s m args below meth c H locs (cells) (slots) Q (F0 m (pc) lsR (.long z :: .long x :: st)) := by
  obtain ⟨hx, hb, hml, hown, hts, hK, hnm, hne, hao, hao2⟩ := C
  simp only [aLkR, Bool.and_eq_true, decide_eq_true_eq] at hk
  obtain ⟨rfl, rfl⟩ := hk
  exact lv_ldiv hx hb hd hnz kk
theorem as_lrem (C : aCx p s m args meth c y D tyc) {x z : Int64} (hk : aLkR y pc (.lrem) h raw len = true) (hd : decode (mB y) pc = .ok (raw, len)) (hnz : ¬ z = 0) (kk : W p l e R s m args below meth c H locs (cells) (slots) Q (F0 m (pc + len) lsR (.long (x - x / z * z) :: st))) : W p l e R s m args below meth c H locs (cells) (slots) Q (F0 m (pc) lsR (.long z :: .long x :: st)) := by
  obtain ⟨hx, hb, hml, hown, hts, hK, hnm, hne, hao, hao2⟩ := C
  simp only [aLkR, Bool.and_eq_true, decide_eq_true_eq] at hk
  obtain ⟨rfl, rfl⟩ := hk
  exact lv_lrem hx hb hd hnz kk
theorem as_lcmp (C : aCx p s m args meth c y D tyc) {x z : Int64} (hk : aLkR y pc (.lcmp) h raw len = true) (hd : decode (mB y) pc = .ok (raw, len)) (kk : W p l e R s m args below meth c H locs (cells) (slots) Q (F0 m (pc + len) lsR (.int (lg_cmp x z) :: st))) : W p l e R s m args below meth c H locs (cells) (slots) Q (F0 m (pc) lsR (.long z :: .long x :: st)) := by
  obtain ⟨hx, hb, hml, hown, hts, hK, hnm, hne, hao, hao2⟩ := C
  simp only [aLkR, Bool.and_eq_true, decide_eq_true_eq] at hk
  obtain ⟨rfl, rfl⟩ := hk
  exact W.lcmp hx hb hd kk
theorem as_i2l (C : aCx p s m args meth c y D tyc) {x : Int32} (hk : aLkR y pc (.i2l) h raw len = true) (hd : decode (mB y) pc = .ok (raw, len)) (kk : W p l e R s m args below meth c H locs (cells) (slots) Q (F0 m (pc + len) lsR (.long x.toInt64 :: st))) : W p l e R s m args below meth c H locs (cells) (slots) Q (F0 m (pc) lsR (.int x :: st)) := by
  obtain ⟨hx, hb, hml, hown, hts, hK, hnm, hne, hao, hao2⟩ := C
  simp only [aLkR, Bool.and_eq_true, decide_eq_true_eq] at hk
  obtain ⟨rfl, rfl⟩ := hk
  exact lv_i2l hx hb hd rfl kk
theorem as_l2i (C : aCx p s m args meth c y D tyc) {x : Int64} (hk : aLkR y pc (.l2i) h raw len = true) (hd : decode (mB y) pc = .ok (raw, len)) (kk : W p l e R s m args below meth c H locs (cells) (slots) Q (F0 m (pc + len) lsR (.int x.toInt32 :: st))) : W p l e R s m args below meth c H locs (cells) (slots) Q (F0 m (pc) lsR (.long x :: st)) := by
  obtain ⟨hx, hb, hml, hown, hts, hK, hnm, hne, hao, hao2⟩ := C
  simp only [aLkR, Bool.and_eq_true, decide_eq_true_eq] at hk
  obtain ⟨rfl, rfl⟩ := hk
  exact lv_l2i hx hb hd rfl kk
theorem as_dup (C : aCx p s m args meth c y D tyc) {v : Value} (hk : aLkR y pc (.dup) h raw len = true) (hd : decode (mB y) pc = .ok (raw, len)) (hv : v.category = 1) (kk : W p l e R s m args below meth c H locs (cells) (slots) Q (F0 m (pc + len) lsR (v :: v :: st))) : W p l e R s m args below meth c H locs (cells) (slots) Q (F0 m (pc) lsR (v :: st)) := by
  obtain ⟨hx, hb, hml, hown, hts, hK, hnm, hne, hao, hao2⟩ := C
  simp only [aLkR, Bool.and_eq_true, decide_eq_true_eq] at hk
  obtain ⟨rfl, rfl⟩ := hk
  exact lv_dup hx hb hd hv kk
theorem as_pop (C : aCx p s m args meth c y D tyc) {v : Value} (hk : aLkR y pc (.pop) h raw len = true) (hd : decode (mB y) pc = .ok (raw, len)) (hv : v.category = 1) (kk : W p l e R s m args below meth c H locs (cells) (slots) Q (F0 m (pc + len) lsR (st))) : W p l e R s m args below meth c H locs (cells) (slots) Q (F0 m (pc) lsR (v :: st)) := by
  obtain ⟨hx, hb, hml, hown, hts, hK, hnm, hne, hao, hao2⟩ := C
  simp only [aLkR, Bool.and_eq_true, decide_eq_true_eq] at hk
  obtain ⟨rfl, rfl⟩ := hk
  exact lv_pop hx hb hd hv kk
theorem as_dup2 (C : aCx p s m args meth c y D tyc) {v w : Value} (hk : aLkR y pc (.dup2) h raw len = true) (hd : decode (mB y) pc = .ok (raw, len)) (hv : v.category = 1) (hw : w.category = 1) (kk : W p l e R s m args below meth c H locs (cells) (slots) Q (F0 m (pc + len) lsR (v :: w :: v :: w :: st))) : W p l e R s m args below meth c H locs (cells) (slots) Q (F0 m (pc) lsR (v :: w :: st)) := by
  obtain ⟨hx, hb, hml, hown, hts, hK, hnm, hne, hao, hao2⟩ := C
  simp only [aLkR, Bool.and_eq_true, decide_eq_true_eq] at hk
  obtain ⟨rfl, rfl⟩ := hk
  exact lv_dup2_11 hx hb hd hv hw kk
theorem aJmp_of {pc : Nat} {t off : Int} (k : aJmp pc t off = true) : (pc : Int) + off = (t.toNat : Int) := by
  simp only [aJmp, Bool.and_eq_true, decide_eq_true_eq] at k
  omega
theorem as_goto (C : aCx p s m args meth c y D tyc) {t : Int} (hk : aLkR y pc (.goto t) h raw len = true) (hd : decode (mB y) pc = .ok (raw, len)) (kk : W p l e R s m args below meth c H locs (cells) (slots) Q (F0 m (t.toNat) lsR (st))) : W p l e R s m args below meth c H locs (cells) (slots) Q (F0 m (pc) lsR (st)) := by
  obtain ⟨hx, hb, hml, hown, hts, hK, hnm, hne, hao, hao2⟩ := C
  simp only [aLkR] at hk
  split at hk
  · simp only [Bool.and_eq_true, decide_eq_true_eq] at hk
    obtain ⟨h1, rfl⟩ := hk
    exact lv_goto hx hb hd (aJmp_of h1) kk
  · cases hk
theorem as_ifCond_eq (C : aCx p s m args meth c y D tyc) {x : Int32} {t : Int} (hk : aLkR y pc (.ifCond .eq t) h raw len = true) (hd : decode (mB y) pc = .ok (raw, len)) (k1 : x = 0 → W p l e R s m args below meth c H locs (cells) (slots) Q (F0 m (t.toNat) lsR (st))) (k2 : ¬ (x = 0) → W p l e R s m args below meth c H locs (cells) (slots) Q (F0 m (pc + len) lsR (st))) : W p l e R s m args below meth c H locs (cells) (slots) Q (F0 m (pc) lsR (.int x :: st)) := by
  obtain ⟨hx, hb, hml, hown, hts, hK, hnm, hne, hao, hao2⟩ := C
  simp only [aLkR] at hk
  split at hk
  · simp only [Bool.and_eq_true, decide_eq_true_eq] at hk
    obtain ⟨⟨rfl, h1⟩, rfl⟩ := hk
    exact lv_if_eq hx hb hd (aJmp_of h1) k1 k2
  · cases hk
theorem as_ifCond_ne (C : aCx p s m args meth c y D tyc) {x : Int32} {t : Int} (hk : aLkR y pc (.ifCond .ne t) h raw len = true) (hd : decode (mB y) pc = .ok (raw, len)) (k1 : ¬ x = 0 → W p l e R s m args below meth c H locs (cells) (slots) Q (F0 m (t.toNat) lsR (st))) (k2 : ¬ (¬ x = 0) → W p l e R s m args below meth c H locs (cells) (slots) Q (F0 m (pc + len) lsR (st))) : W p l e R s m args below meth c H locs (cells) (slots) Q (F0 m (pc) lsR (.int x :: st)) := by
  obtain ⟨hx, hb, hml, hown, hts, hK, hnm, hne, hao, hao2⟩ := C
  simp only [aLkR] at hk
  split at hk
  · simp only [Bool.and_eq_true, decide_eq_true_eq] at hk
    obtain ⟨⟨rfl, h1⟩, rfl⟩ := hk
    exact lv_if_ne hx hb hd (aJmp_of h1) k1 (fun q => k2 (fun n => n q))
  · cases hk
theorem as_ifCond_lt (C : aCx p s m args meth c y D tyc) {x : Int32} {t : Int} (hk : aLkR y pc (.ifCond .lt t) h raw len = true) (hd : decode (mB y) pc = .ok (raw, len)) (k1 : x < 0 → W p l e R s m args below meth c H locs (cells) (slots) Q (F0 m (t.toNat) lsR (st))) (k2 : ¬ (x < 0) → W p l e R s m args below meth c H locs (cells) (slots) Q (F0 m (pc + len) lsR (st))) : W p l e R s m args below meth c H locs (cells) (slots) Q (F0 m (pc) lsR (.int x :: st)) := by
  obtain ⟨hx, hb, hml, hown, hts, hK, hnm, hne, hao, hao2⟩ := C
  simp only [aLkR] at hk
  split at hk
  · simp only [Bool.and_eq_true, decide_eq_true_eq] at hk
    obtain ⟨⟨rfl, h1⟩, rfl⟩ := hk
    exact lv_if_lt hx hb hd (aJmp_of h1) k1 k2
  · cases hk
theorem as_ifCond_ge (C : aCx p s m args meth c y D tyc) {x : Int32} {t : Int} (hk : aLkR y pc (.ifCond .ge t) h raw len = true) (hd : decode (mB y) pc = .ok (raw, len)) (k1 : 0 ≤ x → W p l e R s m args below meth c H locs (cells) (slots) Q (F0 m (t.toNat) lsR (st))) (k2 : ¬ (0 ≤ x) → W p l e R s m args below meth c H locs (cells) (slots) Q (F0 m (pc + len) lsR (st))) : W p l e R s m args below meth c H locs (cells) (slots) Q (F0 m (pc) lsR (.int x :: st)) := by
  obtain ⟨hx, hb, hml, hown, hts, hK, hnm, hne, hao, hao2⟩ := C
  simp only [aLkR] at hk
  split at hk
  · simp only [Bool.and_eq_true, decide_eq_true_eq] at hk
    obtain ⟨⟨rfl, h1⟩, rfl⟩ := hk
    exact lv_if_ge hx hb hd (aJmp_of h1) k1 k2
  · cases hk
theorem as_ifCond_gt (C : aCx p s m args meth c y D tyc) {x : Int32} {t : Int} (hk : aLkR y pc (.ifCond .gt t) h raw len = true) (hd : decode (mB y) pc = .ok (raw, len)) (k1 : 0 < x → W p l e R s m args below meth c H locs (cells) (slots) Q (F0 m (t.toNat) lsR (st))) (k2 : ¬ (0 < x) → W p l e R s m args below meth c H locs (cells) (slots) Q (F0 m (pc + len) lsR (st))) : W p l e R s m args below meth c H locs (cells) (slots) Q (F0 m (pc) lsR (.int x :: st)) := by
  obtain ⟨hx, hb, hml, hown, hts, hK, hnm, hne, hao, hao2⟩ := C
  simp only [aLkR] at hk
  split at hk
  · simp only [Bool.and_eq_true, decide_eq_true_eq] at hk
    obtain ⟨⟨rfl, h1⟩, rfl⟩ := hk
    exact lv_if_gt hx hb hd (aJmp_of h1) k1 k2
  · cases hk
theorem as_ifCond_le (C : aCx p s m args meth c y D tyc) {x : Int32} {t : Int} (hk : aLkR y pc (.ifCond .le t) h raw len = true) (hd : decode (mB y) pc = .ok (raw, len)) (k1 : x ≤ 0 → W p l e R s m args below meth c H locs (cells) (slots) Q (F0 m (t.toNat) lsR (st))) (k2 : ¬ (x ≤ 0) → W p l e R s m args below meth c H locs (cells) (slots) Q (F0 m (pc + len) lsR (st))) : W p l e R s m args below meth c H locs (cells) (slots) Q (F0 m (pc) lsR (.int x :: st)) := by
  obtain ⟨hx, hb, hml, hown, hts, hK, hnm, hne, hao, hao2⟩ := C
  simp only [aLkR] at hk
  split at hk
  · simp only [Bool.and_eq_true, decide_eq_true_eq] at hk
    obtain ⟨⟨rfl, h1⟩, rfl⟩ := hk
    exact lv_if_le hx hb hd (aJmp_of h1) k1 k2
  · cases hk
theorem as_icmp_eq (C : aCx p s m args meth c y D tyc) {x z : Int32} {t : Int} (hk : aLkR y pc (.if_icmp .eq t) h raw len = true) (hd : decode (mB y) pc = .ok (raw, len)) (k1 : x = z → W p l e R s m args below meth c H locs (cells) (slots) Q (F0 m (t.toNat) lsR (st))) (k2 : ¬ (x = z) → W p l e R s m args below meth c H locs (cells) (slots) Q (F0 m (pc + len) lsR (st))) : W p l e R s m args below meth c H locs (cells) (slots) Q (F0 m (pc) lsR (.int z :: .int x :: st)) := by
  obtain ⟨hx, hb, hml, hown, hts, hK, hnm, hne, hao, hao2⟩ := C
  simp only [aLkR] at hk
  split at hk
  · simp only [Bool.and_eq_true, decide_eq_true_eq] at hk
    obtain ⟨⟨rfl, h1⟩, rfl⟩ := hk
    exact lv_icmp_eq hx hb hd (aJmp_of h1) k1 k2
  · cases hk
theorem as_icmp_ne (C : aCx p s m args meth c y D tyc) {x z : Int32} {t : Int} (hk : aLkR y pc (.if_icmp .ne t) h raw len = true) (hd : decode (mB y) pc = .ok (raw, len)) (k1 : ¬ x = z → W p l e R s m args below meth c H locs (cells) (slots) Q (F0 m (t.toNat) lsR (st))) (k2 : ¬ (¬ x = z) → W p l e R s m args below meth c H locs (cells) (slots) Q (F0 m (pc + len) lsR (st))) : W p l e R s m args below meth c H locs (cells) (slots) Q (F0 m (pc) lsR (.int z :: .int x :: st)) := by
  obtain ⟨hx, hb, hml, hown, hts, hK, hnm, hne, hao, hao2⟩ := C
  simp only [aLkR] at hk
  split at hk
  · simp only [Bool.and_eq_true, decide_eq_true_eq] at hk
    obtain ⟨⟨rfl, h1⟩, rfl⟩ := hk
    exact lv_icmp_ne hx hb hd (aJmp_of h1) k1 (fun q => k2 (fun n => n q))
  · cases hk
theorem as_icmp_lt (C : aCx p s m args meth c y D tyc) {x z : Int32} {t : Int} (hk : aLkR y pc (.if_icmp .lt t) h raw len = true) (hd : decode (mB y) pc = .ok (raw, len)) (k1 : x < z → W p l e R s m args below meth c H locs (cells) (slots) Q (F0 m (t.toNat) lsR (st))) (k2 : ¬ (x < z) → W p l e R s m args below meth c H locs (cells) (slots) Q (F0 m (pc + len) lsR (st))) : W p l e R s m args below meth c H locs (cells) (slots) Q (F0 m (pc) lsR (.int z :: .int x :: st)) := by
  obtain ⟨hx, hb, hml, hown, hts, hK, hnm, hne, hao, hao2⟩ := C
  simp only [aLkR] at hk
  split at hk
  · simp only [Bool.and_eq_true, decide_eq_true_eq] at hk
    obtain ⟨⟨rfl, h1⟩, rfl⟩ := hk
    exact lv_icmp_lt hx hb hd (aJmp_of h1) k1 k2
  · cases hk
theorem as_icmp_ge (C : aCx p s m args meth c y D tyc) {x z : Int32} {t : Int} (hk : aLkR y pc (.if_icmp .ge t) h raw len = true) (hd : decode (mB y) pc = .ok (raw, len)) (k1 : z ≤ x → W p l e R s m args below meth c H locs (cells) (slots) Q (F0 m (t.toNat) lsR (st))) (k2 : ¬ (z ≤ x) → W p l e R s m args below meth c H locs (cells) (slots) Q (F0 m (pc + len) lsR (st))) : W p l e R s m args below meth c H locs (cells) (slots) Q (F0 m (pc) lsR (.int z :: .int x :: st)) := by
  obtain ⟨hx, hb, hml, hown, hts, hK, hnm, hne, hao, hao2⟩ := C
  simp only [aLkR] at hk
  split at hk
  · simp only [Bool.and_eq_true, decide_eq_true_eq] at hk
    obtain ⟨⟨rfl, h1⟩, rfl⟩ := hk
    exact lv_icmp_ge hx hb hd (aJmp_of h1) k1 k2
  · cases hk
theorem as_icmp_gt (C : aCx p s m args meth c y D tyc) {x z : Int32} {t : Int} (hk : aLkR y pc (.if_icmp .gt t) h raw len = true) (hd : decode (mB y) pc = .ok (raw, len)) (k1 : z < x → W p l e R s m args below meth c H locs (cells) (slots) Q (F0 m (t.toNat) lsR (st))) (k2 : ¬ (z < x) → W p l e R s m args below meth c H locs (cells) (slots) Q (F0 m (pc + len) lsR (st))) : W p l e R s m args below meth c H locs (cells) (slots) Q (F0 m (pc) lsR (.int z :: .int x :: st)) := by
  obtain ⟨hx, hb, hml, hown, hts, hK, hnm, hne, hao, hao2⟩ := C
  simp only [aLkR] at hk
  split at hk
  · simp only [Bool.and_eq_true, decide_eq_true_eq] at hk
    obtain ⟨⟨rfl, h1⟩, rfl⟩ := hk
    exact lv_icmp_gt hx hb hd (aJmp_of h1) k1 k2
  · cases hk
theorem as_icmp_le (C : aCx p s m args meth c y D tyc) {x z : Int32} {t : Int} (hk : aLkR y pc (.if_icmp .le t) h raw len = true) (hd : decode (mB y) pc = .ok (raw, len)) (k1 : x ≤ z → W p l e R s m args below meth c H locs (cells) (slots) Q (F0 m (t.toNat) lsR (st))) (k2 : ¬ (x ≤ z) → W p l e R s m args below meth c H locs (cells) (slots) Q (F0 m (pc + len) lsR (st))) : W p l e R s m args below meth c H locs (cells) (slots) Q (F0 m (pc) lsR (.int z :: .int x :: st)) := by
  obtain ⟨hx, hb, hml, hown, hts, hK, hnm, hne, hao, hao2⟩ := C
  simp only [aLkR] at hk
  split at hk
  · simp only [Bool.and_eq_true, decide_eq_true_eq] at hk
    obtain ⟨⟨rfl, h1⟩, rfl⟩ := hk
    exact lv_icmp_le hx hb hd (aJmp_of h1) k1 k2
  · cases hk
theorem as_tswitch (C : aCx p s m args meth c y D tyc) {df lo hi : Int} {ts : Array Int} {x : Int32} (hk : aLkR y pc (.tableswitch df lo hi ts) h raw len = true) (hd : decode (mB y) pc = .ok (raw, len)) (k1 : (x.toInt < lo ∨ hi < x.toInt) → W p l e R s m args below meth c H locs (cells) (slots) Q (F0 m (df.toNat) lsR (st))) (k2 : ∀ t : Int, ¬ (x.toInt < lo ∨ hi < x.toInt) → ts[(x.toInt - lo).toNat]? = some t → W p l e R s m args below meth c H locs (cells) (slots) Q (F0 m (t.toNat) lsR (st))) (k3 : ¬ (x.toInt < lo ∨ hi < x.toInt) → ts[(x.toInt - lo).toNat]? ≠ none) : W p l e R s m args below meth c H locs (cells) (slots) Q (F0 m (pc) lsR (.int x :: st)) := by
  obtain ⟨hx, hb, hml, hown, hts, hK, hnm, hne, hao, hao2⟩ := C
  simp only [aLkR] at hk
  split at hk
  · rename_i d0 lo2 hi2 offs
    simp only [Bool.and_eq_true, decide_eq_true_eq] at hk
    obtain ⟨⟨⟨⟨rfl, rfl⟩, h1⟩, h2⟩, h3⟩ := hk
    by_cases hq : x.toInt < lo2 ∨ hi2 < x.toInt
    · exact lv_tableOut hx hb hd hq (aJmp_of h1) (k1 hq)
    · obtain ⟨t, ht⟩ := Option.ne_none_iff_exists'.mp (k3 hq)
      have hi : (x.toInt - lo2).toNat < ts.size := (Array.getElem?_eq_some_iff.mp ht).1
      have h4 := List.all_eq_true.mp h3 (x.toInt - lo2).toNat (List.mem_range.mpr (by omega))
      have h5 : offs[(x.toInt - lo2).toNat]? = some (offs[(x.toInt - lo2).toNat]'(by omega)) := Array.getElem?_eq_getElem (by omega)
      rw [h5, ht] at h4
      exact lv_tableIn hx hb hd (fun z => hq (Or.inl z)) (fun z => hq (Or.inr z)) h5 (aJmp_of h4) (k2 t hq ht)
  · cases hk
theorem aLks_of (pc : Nat) (d k : Int) : ∀ l : List (Int × Int), aLks (l.map (fun e => (e.1, (pc : Int) + e.2))) ((pc : Int) + d) k = (pc : Int) + Op.lookupswitch.offset l d k
  | [] => rfl
  | (a, o) :: r => by
    rw [Op.lookupswitch.offset_cons]
    simp only [List.map_cons, aLks, aLks_of pc d k r]
    by_cases h : k = a
    · rw [if_pos h, if_pos (by first | exact h | exact h.symm)]
    · rw [if_neg h, if_neg (by first | exact h | exact fun z => h z.symm)]
theorem aLks_pos {d k : Int} (hd : 0 ≤ d) : ∀ l : List (Int × Int), l.all (fun e => decide (0 ≤ e.2)) = true → 0 ≤ aLks l d k
  | [], _ => hd
  | e :: r, h => by
    simp only [List.all_cons, Bool.and_eq_true, decide_eq_true_eq] at h
    simp only [aLks]
    split
    · exact h.1
    · exact aLks_pos hd r h.2
theorem as_lswitch (C : aCx p s m args meth c y D tyc) {df : Int} {ps : Array (Int × Int)} {x : Int32} (hk : aLkR y pc (.lookupswitch df ps) h raw len = true) (hd : decode (mB y) pc = .ok (raw, len)) (kk : W p l e R s m args below meth c H locs (cells) (slots) Q (F0 m ((aLks ps.toList df x.toInt).toNat) lsR (st))) : W p l e R s m args below meth c H locs (cells) (slots) Q (F0 m (pc) lsR (.int x :: st)) := by
  obtain ⟨hx, hb, hml, hown, hts, hK, hnm, hne, hao, hao2⟩ := C
  simp only [aLkR] at hk
  split at hk
  · rename_i d0 ps0
    simp only [Bool.and_eq_true, decide_eq_true_eq] at hk
    obtain ⟨⟨⟨h1, h2⟩, h3⟩, h4⟩ := hk
    have hj := aJmp_of h1
    simp only [aJmp, Bool.and_eq_true, decide_eq_true_eq] at h1
    have h0 := aLks_pos (k := x.toInt) h1.1 _ h3
    refine lv_lookup hx hb hd h4 rfl (tgt := (aLks ps.toList df x.toInt).toNat) ?_ kk
    rw [Int.toNat_of_nonneg h0, h2, ← h1.2, aLks_of]
  · cases hk
end AS1
