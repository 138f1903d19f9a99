/-! NEW CELLS, and what the JDK gives -/
theorem wAi : Cond.arrayClass .int ∈ WS := aHit_in (h := 1055) (by decide +kernel)
theorem wAc : Cond.arrayClass .char ∈ WS := aHit_in (h := 6081) (by decide +kernel)
theorem wAl : Cond.arrayClass .long ∈ WS := aHit_in (h := 6082) (by decide +kernel)
theorem wOi : Cond.instanceMethod objectInit ∈ WS := aHit_in (h := 1024) (by decide +kernel)
theorem wOc : Cond.code objectInit ⟨#[0xb1]⟩ 1 none ∈ WS := aHit_in (h := 1025) (by decide +kernel)
theorem wMi : Cond.initialized "java/lang/Math" ∈ WS := aHit_in (h := 1015) (by decide +kernel)
theorem wMs_max : Cond.static Lib.Math.max.name ∈ WS := aHit_in (h := 3045) (by decide +kernel)
theorem wMc_max : Cond.code Lib.Math.max.name Lib.Math.max.code 2 (some .int) ∈ WS := aHit_in (h := 3046) (by decide +kernel)
theorem wMs_min : Cond.static Lib.Math.min.name ∈ WS := aHit_in (h := 3221) (by decide +kernel)
theorem wMc_min : Cond.code Lib.Math.min.name Lib.Math.min.code 2 (some .int) ∈ WS := aHit_in (h := 3222) (by decide +kernel)
theorem wSn : Cond.native arraycopyName ∈ WS := aHit_in (h := 4016) (by decide +kernel)
theorem wSs : Cond.static arraycopyName ∈ WS := aHit_in (h := 4015) (by decide +kernel)
theorem wSi : Cond.initialized "java/lang/System" ∈ WS := aHit_in (h := 1017) (by decide +kernel)
def aIh : List (Nat × Nat) := [(2037, 1008), (1219, 1006), (1033, 1003), (1027, 1002), (2019, 1007), (2057, 1009), (1087, 1004), (1093, 1005), (1019, 1001), (4228, 1010)]
def aInstOk (ci : Nat) : Bool := aHit ((aIh[ci]?).getD (0, 0)).1 (.instantiable (aT ci).1 (aT ci).2.2) && aHit ((aIh[ci]?).getD (0, 0)).2 (.initialized (aT ci).1)
theorem aIo_0 : aInstOk 0 = true := by decide +kernel
theorem aIo_1 : aInstOk 1 = true := by decide +kernel
theorem aIo_2 : aInstOk 2 = true := by decide +kernel
theorem aIo_3 : aInstOk 3 = true := by decide +kernel
theorem aIo_4 : aInstOk 4 = true := by decide +kernel
theorem aIo_5 : aInstOk 5 = true := by decide +kernel
theorem aIo_6 : aInstOk 6 = true := by decide +kernel
theorem aIo_7 : aInstOk 7 = true := by decide +kernel
theorem aIo_8 : aInstOk 8 = true := by decide +kernel
theorem aIo_9 : aInstOk 9 = true := by decide +kernel
theorem aT_inst {ci : Nat} (h : ci < 10) : Cond.instantiable (aT ci).1 (aT ci).2.2 ∈ WS ∧ Cond.initialized (aT ci).1 ∈ WS := by
  have h1 : aInstOk ci = true := aCi (P := fun ci => aInstOk ci = true) aIo_0 aIo_1 aIo_2 aIo_3 aIo_4 aIo_5 aIo_6 aIo_7 aIo_8 aIo_9 h
  simp only [aInstOk, Bool.and_eq_true] at h1
  exact ⟨aHit_in h1.1, aHit_in h1.2⟩
def aDf (ty : FieldType) : Value := match ty with
  | .long => .long 0
  | .object _ => .null
  | .array _ => .null
  | _ => .int 0
def aDfOk (ci : Nat) : Bool := (List.range (aNF ci)).all (fun k => decide (defaultValue (aTy ci k) = aDf (aTy ci k)))
theorem aDo_0 : aDfOk 0 = true := by decide +kernel
theorem aDo_1 : aDfOk 1 = true := by decide +kernel
theorem aDo_2 : aDfOk 2 = true := by decide +kernel
theorem aDo_3 : aDfOk 3 = true := by decide +kernel
theorem aDo_4 : aDfOk 4 = true := by decide +kernel
theorem aDo_5 : aDfOk 5 = true := by decide +kernel
theorem aDo_6 : aDfOk 6 = true := by decide +kernel
theorem aDo_7 : aDfOk 7 = true := by decide +kernel
theorem aDo_8 : aDfOk 8 = true := by decide +kernel
theorem aDo_9 : aDfOk 9 = true := by decide +kernel
theorem aT_df {ci : Nat} (h : ci < 10) {k : Nat} (hk : k < aNF ci) : defaultValue (aTy ci k) = aDf (aTy ci k) := by
  have h1 : aDfOk ci = true := aCi (P := fun ci => aDfOk ci = true) aDo_0 aDo_1 aDo_2 aDo_3 aDo_4 aDo_5 aDo_6 aDo_7 aDo_8 aDo_9 h
  exact of_decide_eq_true (List.all_eq_true.mp h1 k (List.mem_range.mpr hk))
def aRx (r : Nat → Nat) (n q : Nat) : Nat → Nat := fun a => if a = n then q else r a
theorem aRx_ext {r : Nat → Nat} {n q : Nat} (h : n < 1000000) : aExt n r (aRx r n q) := fun a ha => by
  have : a ≠ n := by
    rcases ha with h1 | h1 | h1
    · omega
    · rw [h1]; intro e; rw [← e] at h; exact absurd h (by decide)
    · rw [h1]; intro e; rw [← e] at h; exact absurd h (by decide)
  simp [aRx, this]
theorem aRx_at {r : Nat → Nat} {n q : Nat} : aRx r n q n = q := by simp [aRx]
theorem aW_app {tyc : FieldType → ClassId} {r r2 : Nat → Nat} {M M2 : aM} {L : List aSh} (hM : aOkM M) (h1 : M2.1 = M.1 ++ L) (he : aExt M.1.length r r2) (hr : ∀ k, k < M.1.length → M2.2.1 k = M.2.1 k ∧ M2.2.2.1 k = M.2.2.1 k ∧ M2.2.2.2 k = M.2.2.2 k) :
    aW tyc r2 M2 = aW tyc r M ++ (List.range L.length).map (fun i => (r2 (M.1.length + i), aCell tyc r2 M2 (M.1.length + i) ((L[i]?).getD (none, 0)))) := by
  unfold aW
  rw [h1, List.length_append, List.range_add, List.map_append, List.map_map]
  congr 1
  · apply List.map_congr_left
    intro k hk
    have hk : k < M.1.length := List.mem_range.mp hk
    rw [List.getElem?_append_left hk, he k (Or.inl hk), aCell_row (M := M) (hr k hk).1 (hr k hk).2.1 (hr k hk).2.2, aCell_ext he hM]
  · apply List.map_congr_left
    intro i _
    simp only [Function.comp]
    rw [List.getElem?_append_right (by omega), show M.1.length + i - M.1.length = i by omega]
theorem va_RA_same {s : State} {c1 c2 : ClassId} {ty : FieldType} (h1 : va_RA s c1 ty) (h2 : va_RA s c2 ty) : c1 = c2 := by
  cases ty with
  | object C =>
    obtain ⟨_, _, _, _, _, e1⟩ := h1
    obtain ⟨_, _, _, _, _, e2⟩ := h2
    exact Option.some.inj (e1.symm.trans e2)
  | _ => exact Option.some.inj (Eq.trans (Eq.symm h1) h2)
section AS3
variable {p : Program} {l : Launch} {e : Env} {R : Room} {s : State} {m : MethodId} {args : Array Value} {below : List Frame} {meth : Method} {c : Code} {H : Heap} {locs : List Loc} {cells slots : Nat} {Q : State → Prop} {y pc h len : Nat} {raw : Instr} {D : va_G} {tyc : FieldType → ClassId} {lsR : Array Slot} {st : List Value} {r : Nat → Nat} {M : aM} {A : Nat → Prop} {ls : List Value} {q d : Nat}

theorem as_newa_int (C : aCx p s m args meth c y D tyc) {n : Int32} (hk : aLkR y pc (.newarray .int) h raw len = true) (hd : decode (mB y) pc = .ok (raw, len)) (hR : aRel D tyc r M A s.heap H locs) (hA : ∀ q, s.heap.size ≤ q → A q) (hn : ¬ n < 0) (hs : n.toNatClampNeg < 1000000) (hl : M.1.length < 1000000) (hcells : cells + 1 ≤ R.cells) (hslots : slots + n.toNatClampNeg ≤ R.slots) (kk : ∀ (r2 : Nat → Nat) (H1 : Heap), aExt M.1.length r r2 → aRel D tyc r2 ((M.1 ++ [(some .int, n.toNatClampNeg)], aRow M.2.1 M.1.length (fun _ => 0), M.2.2.1, M.2.2.2)) A s.heap H1 locs → W p l e R s m args below meth c H1 locs (cells + 1) (slots + n.toNatClampNeg) Q (F0 m (pc + len) lsR (.ref (r2 M.1.length) :: st))) : W p l e R s m args below meth c H locs (cells) (slots) Q (F0 m (pc) lsR (.int n :: st)) := by
  obtain ⟨hx, hb, hml, hown, hts, hK, hnm, hne, hao, hao2⟩ := C
  simp only [aLkR, Bool.and_eq_true, decide_eq_true_eq] at hk
  obtain ⟨rfl, rfl⟩ := hk
  refine va_newa (D := D) (atype := .int) (ty := .int) hx hb (hts _ wAi) rfl hK hR.1 hR.2.1 hR.2.2.1 hA (N' := n.toNatClampNeg) (a0 := (n.toNatClampNeg, .inl (fun _ => 0))) (fun cA => rfl) hn rfl (by show n.toNatClampNeg * 4 ≤ _; omega) hcells hslots hd (fun q cA H1 hK2 hP2 hD2 hS2 => ?_)
  have ec : cA = tyc .int := va_RA_same (hK2.2 (aTys tyc).length _ (by rw [List.getElem?_append_right (Nat.le_refl _), Nat.sub_self]; rfl)).2 (hK.2 0 _ rfl).2
  have hw := aW_app (tyc := tyc) (r2 := aRx r M.1.length q) (M2 := (M.1 ++ [(some .int, n.toNatClampNeg)], aRow M.2.1 M.1.length (fun _ => 0), M.2.2.1, M.2.2.2)) hR.2.2.2 rfl (aRx_ext hl) (fun k hk => ⟨by first | rfl | exact aRow_row _ _ _ (by omega), by first | rfl | exact aRow_row _ _ _ (by omega), rfl⟩)
  have hc : ((List.range [((some .int, n.toNatClampNeg) : aSh)].length).map (fun i => (aRx r M.1.length q (M.1.length + i), aCell tyc (aRx r M.1.length q) (M.1 ++ [(some .int, n.toNatClampNeg)], aRow M.2.1 M.1.length (fun _ => 0), M.2.2.1, M.2.2.2) (M.1.length + i) (([((some .int, n.toNatClampNeg) : aSh)][i]?).getD (none, 0))))) = [(q, .inl (cA, n.toNatClampNeg, .inl (fun _ => 0)))] := by
    simp [aRx, aCell, aRow_at, ec, List.range_succ]
  rw [hc] at hw
  have := kk (aRx r M.1.length q) H1 (aRx_ext hl) ⟨by rw [hw]; exact hP2, by rw [hw]; exact hD2, hS2, fun a b z hz => (hR.2.2.2.1 a b z hz).imp (fun e => by simp; omega) id, by simp; omega⟩
  rw [aRx_at] at this
  exact this
theorem as_newa_char (C : aCx p s m args meth c y D tyc) {n : Int32} (hk : aLkR y pc (.newarray .char) h raw len = true) (hd : decode (mB y) pc = .ok (raw, len)) (hR : aRel D tyc r M A s.heap H locs) (hA : ∀ q, s.heap.size ≤ q → A q) (hn : ¬ n < 0) (hs : n.toNatClampNeg < 1000000) (hl : M.1.length < 1000000) (hcells : cells + 1 ≤ R.cells) (hslots : slots + n.toNatClampNeg ≤ R.slots) (kk : ∀ (r2 : Nat → Nat) (H1 : Heap), aExt M.1.length r r2 → aRel D tyc r2 ((M.1 ++ [(some .char, n.toNatClampNeg)], aRow M.2.1 M.1.length (fun _ => 0), M.2.2.1, M.2.2.2)) A s.heap H1 locs → W p l e R s m args below meth c H1 locs (cells + 1) (slots + n.toNatClampNeg) Q (F0 m (pc + len) lsR (.ref (r2 M.1.length) :: st))) : W p l e R s m args below meth c H locs (cells) (slots) Q (F0 m (pc) lsR (.int n :: st)) := by
  obtain ⟨hx, hb, hml, hown, hts, hK, hnm, hne, hao, hao2⟩ := C
  simp only [aLkR, Bool.and_eq_true, decide_eq_true_eq] at hk
  obtain ⟨rfl, rfl⟩ := hk
  refine va_newa (D := D) (atype := .char) (ty := .char) hx hb (hts _ wAc) rfl hK hR.1 hR.2.1 hR.2.2.1 hA (N' := n.toNatClampNeg) (a0 := (n.toNatClampNeg, .inl (fun _ => 0))) (fun cA => rfl) hn rfl (by show n.toNatClampNeg * 2 ≤ _; omega) hcells hslots hd (fun q cA H1 hK2 hP2 hD2 hS2 => ?_)
  have ec : cA = tyc .char := va_RA_same (hK2.2 (aTys tyc).length _ (by rw [List.getElem?_append_right (Nat.le_refl _), Nat.sub_self]; rfl)).2 (hK.2 1 _ rfl).2
  have hw := aW_app (tyc := tyc) (r2 := aRx r M.1.length q) (M2 := (M.1 ++ [(some .char, n.toNatClampNeg)], aRow M.2.1 M.1.length (fun _ => 0), M.2.2.1, M.2.2.2)) hR.2.2.2 rfl (aRx_ext hl) (fun k hk => ⟨by first | rfl | exact aRow_row _ _ _ (by omega), by first | rfl | exact aRow_row _ _ _ (by omega), rfl⟩)
  have hc : ((List.range [((some .char, n.toNatClampNeg) : aSh)].length).map (fun i => (aRx r M.1.length q (M.1.length + i), aCell tyc (aRx r M.1.length q) (M.1 ++ [(some .char, n.toNatClampNeg)], aRow M.2.1 M.1.length (fun _ => 0), M.2.2.1, M.2.2.2) (M.1.length + i) (([((some .char, n.toNatClampNeg) : aSh)][i]?).getD (none, 0))))) = [(q, .inl (cA, n.toNatClampNeg, .inl (fun _ => 0)))] := by
    simp [aRx, aCell, aRow_at, ec, List.range_succ]
  rw [hc] at hw
  have := kk (aRx r M.1.length q) H1 (aRx_ext hl) ⟨by rw [hw]; exact hP2, by rw [hw]; exact hD2, hS2, fun a b z hz => (hR.2.2.2.1 a b z hz).imp (fun e => by simp; omega) id, by simp; omega⟩
  rw [aRx_at] at this
  exact this
theorem as_newa_long (C : aCx p s m args meth c y D tyc) {n : Int32} (hk : aLkR y pc (.newarray .long) h raw len = true) (hd : decode (mB y) pc = .ok (raw, len)) (hR : aRel D tyc r M A s.heap H locs) (hA : ∀ q, s.heap.size ≤ q → A q) (hn : ¬ n < 0) (hs : n.toNatClampNeg < 1000000) (hl : M.1.length < 1000000) (hcells : cells + 1 ≤ R.cells) (hslots : slots + n.toNatClampNeg ≤ R.slots) (kk : ∀ (r2 : Nat → Nat) (H1 : Heap), aExt M.1.length r r2 → aRel D tyc r2 ((M.1 ++ [(some .long, n.toNatClampNeg)], M.2.1, aRow M.2.2.1 M.1.length (fun _ => 0), M.2.2.2)) A s.heap H1 locs → W p l e R s m args below meth c H1 locs (cells + 1) (slots + n.toNatClampNeg) Q (F0 m (pc + len) lsR (.ref (r2 M.1.length) :: st))) : W p l e R s m args below meth c H locs (cells) (slots) Q (F0 m (pc) lsR (.int n :: st)) := by
  obtain ⟨hx, hb, hml, hown, hts, hK, hnm, hne, hao, hao2⟩ := C
  simp only [aLkR, Bool.and_eq_true, decide_eq_true_eq] at hk
  obtain ⟨rfl, rfl⟩ := hk
  refine va_newa (D := D) (atype := .long) (ty := .long) hx hb (hts _ wAl) rfl hK hR.1 hR.2.1 hR.2.2.1 hA (N' := n.toNatClampNeg) (a0 := (n.toNatClampNeg, .inr (.inl (fun _ => 0)))) (fun cA => rfl) hn rfl (by show n.toNatClampNeg * 8 ≤ _; omega) hcells hslots hd (fun q cA H1 hK2 hP2 hD2 hS2 => ?_)
  have ec : cA = tyc .long := va_RA_same (hK2.2 (aTys tyc).length _ (by rw [List.getElem?_append_right (Nat.le_refl _), Nat.sub_self]; rfl)).2 (hK.2 2 _ rfl).2
  have hw := aW_app (tyc := tyc) (r2 := aRx r M.1.length q) (M2 := (M.1 ++ [(some .long, n.toNatClampNeg)], M.2.1, aRow M.2.2.1 M.1.length (fun _ => 0), M.2.2.2)) hR.2.2.2 rfl (aRx_ext hl) (fun k hk => ⟨by first | rfl | exact aRow_row _ _ _ (by omega), by first | rfl | exact aRow_row _ _ _ (by omega), rfl⟩)
  have hc : ((List.range [((some .long, n.toNatClampNeg) : aSh)].length).map (fun i => (aRx r M.1.length q (M.1.length + i), aCell tyc (aRx r M.1.length q) (M.1 ++ [(some .long, n.toNatClampNeg)], M.2.1, aRow M.2.2.1 M.1.length (fun _ => 0), M.2.2.2) (M.1.length + i) (([((some .long, n.toNatClampNeg) : aSh)][i]?).getD (none, 0))))) = [(q, .inl (cA, n.toNatClampNeg, .inr (.inl (fun _ => 0))))] := by
    simp [aRx, aCell, aRow_at, ec, List.range_succ]
  rw [hc] at hw
  have := kk (aRx r M.1.length q) H1 (aRx_ext hl) ⟨by rw [hw]; exact hP2, by rw [hw]; exact hD2, hS2, fun a b z hz => (hR.2.2.2.1 a b z hz).imp (fun e => by simp; omega) id, by simp; omega⟩
  rw [aRx_at] at this
  exact this
theorem as_newq (C : aCx p s m args meth c y D tyc) {n : Int32} {ci : Nat} (hk : aLkR y pc (.anewarray ci) h raw len = true) (hd : decode (mB y) pc = .ok (raw, len)) (hR : aRel D tyc r M A s.heap H locs) (hA : ∀ q, s.heap.size ≤ q → A q) (hn : ¬ n < 0) (hs : n.toNatClampNeg < 1000000) (hl : M.1.length < 1000000) (hcells : cells + 1 ≤ R.cells) (hslots : slots + n.toNatClampNeg ≤ R.slots) (kk : ∀ (r2 : Nat → Nat) (H1 : Heap), aExt M.1.length r r2 → aRel D tyc r2 ((M.1 ++ [(some (.object RX1), n.toNatClampNeg)], M.2.1, M.2.2.1, aRow M.2.2.2 M.1.length (fun _ => none))) A s.heap H1 locs → W p l e R s m args below meth c H1 locs (cells + 1) (slots + n.toNatClampNeg) Q (F0 m (pc + len) lsR (.ref (r2 M.1.length) :: st))) : W p l e R s m args below meth c H locs (cells) (slots) Q (F0 m (pc) lsR (.int n :: st)) := by
  obtain ⟨hx, hb, hml, hown, hts, hK, hnm, hne, hao, hao2⟩ := C
  simp only [aLkR] at hk
  split at hk
  · simp only [Bool.and_eq_true, decide_eq_true_eq] at hk
    obtain ⟨⟨rfl, rfl⟩, h1⟩ := hk
    refine va_newq (D := D) hx hb hown (hts _ (aHit_in h1)) hao hK hR.1 hR.2.1 hR.2.2.1 hA hn rfl (by omega) hcells hslots hd (fun q cA H1 hK2 hP2 hD2 hS2 => ?_)
    have ec : cA = tyc (.object RX1) := va_RA_same (hK2.2 (aTys tyc).length _ (by rw [List.getElem?_append_right (Nat.le_refl _), Nat.sub_self]; rfl)).2 (hK.2 3 _ rfl).2
    have hw := aW_app (tyc := tyc) (r2 := aRx r M.1.length q) (M2 := (M.1 ++ [(some (.object RX1), n.toNatClampNeg)], M.2.1, M.2.2.1, aRow M.2.2.2 M.1.length (fun _ => none))) hR.2.2.2 rfl (aRx_ext hl) (fun k hk => ⟨rfl, rfl, aRow_row _ _ _ (by omega)⟩)
    have hc : ((List.range [((some (.object RX1), n.toNatClampNeg) : aSh)].length).map (fun i => (aRx r M.1.length q (M.1.length + i), aCell tyc (aRx r M.1.length q) (M.1 ++ [(some (.object RX1), n.toNatClampNeg)], M.2.1, M.2.2.1, aRow M.2.2.2 M.1.length (fun _ => none)) (M.1.length + i) (([((some (.object RX1), n.toNatClampNeg) : aSh)][i]?).getD (none, 0))))) = [(q, .inl (cA, n.toNatClampNeg, .inr (.inr (.inr (.inr (fun _ => none))))))] := by
      simp [aRx, aCell, aRow_at, ec, List.range_succ]
    rw [hc] at hw
    have := kk (aRx r M.1.length q) H1 (aRx_ext hl) ⟨by rw [hw]; exact hP2, by rw [hw]; exact hD2, hS2, fun a b z hz => (by
      have hz : aRow M.2.2.2 M.1.length (fun _ => none) a b = some z := hz
      by_cases e : a = M.1.length
      · subst e; simp [aRow] at hz
      · rw [show aRow M.2.2.2 M.1.length (fun _ => none) a b = M.2.2.2 a b by simp [aRow, e]] at hz
        exact (hR.2.2.2.1 a b z hz).imp (fun e => by simp; omega) id), by simp; omega⟩
    rw [aRx_at] at this
    exact this
  · cases hk
theorem as_new (C : aCx p s m args meth c y D tyc) {ci : Nat} (hk : aLkR y pc (.new ci) h raw len = true) (hd : decode (mB y) pc = .ok (raw, len)) (hR : aRel D tyc r M A s.heap H locs) (hA : ∀ q, s.heap.size ≤ q → A q) (hl : M.1.length < 1000000) (hcells : cells + 1 ≤ R.cells) (hslots : slots + aNF ci ≤ R.slots) (kk : ∀ (r2 : Nat → Nat) (H1 : Heap), aExt M.1.length r r2 → aRel D tyc r2 ((M.1 ++ [(none, ci)], aRow M.2.1 M.1.length (fun _ => 0), aRow M.2.2.1 M.1.length (fun _ => 0), aRow M.2.2.2 M.1.length (fun _ => none))) A s.heap H1 locs → W p l e R s m args below meth c H1 locs (cells + 1) (slots + aNF ci) Q (F0 m (pc + len) lsR (.ref (r2 M.1.length) :: st))) : W p l e R s m args below meth c H locs (cells) (slots) Q (F0 m (pc) lsR (st)) := by
  obtain ⟨hx, hb, hml, hown, hts, hK, hnm, hne, hao, hao2⟩ := C
  simp only [aLkR] at hk
  split at hk
  · simp only [Bool.and_eq_true, decide_eq_true_eq] at hk
    obtain ⟨⟨rfl, hc⟩, h1⟩ := hk
    have hfd : ∀ (r2 : Nat → Nat) (k : Nat), aV r2 (aFld (M.1 ++ [(none, ci)], aRow M.2.1 M.1.length (fun _ => 0), aRow M.2.2.1 M.1.length (fun _ => 0), aRow M.2.2.2 M.1.length (fun _ => none)) M.1.length ci k) = aDf (aTy ci k) := fun r2 k => by
      unfold aFld aDf
      cases aTy ci k <;> simp [aRow, aV, aRf]
    have hN := aT_N hc
    refine va_new (D := D) (Ts := WS) (ci := ci) (fs := (List.range (aNF ci)).map (fun k => aDf (aTy ci k))) hx hb hts (aT_in hc) (aTy ci) (aT_ty hc) hown (hts _ (aHit_in h1)) (hts _ (aT_inst hc).1) (hts _ (aT_inst hc).2) hK hR.1 hR.2.1 hR.2.2.1 hA (aT_cl hc) (fun j hj => ?_) hcells (by rw [hN]; exact hslots) hd (fun q H1 hP2 hD2 hS2 => ?_)
    · rw [hN] at hj
      rw [aT_df hc hj, vp_V, List.getD_eq_getElem?_getD, List.getElem?_map, List.getElem?_range hj]
      rfl
    · rw [hN]
      have hw := aW_app (tyc := tyc) (r2 := aRx r M.1.length q) (M2 := (M.1 ++ [(none, ci)], aRow M.2.1 M.1.length (fun _ => 0), aRow M.2.2.1 M.1.length (fun _ => 0), aRow M.2.2.2 M.1.length (fun _ => none))) hR.2.2.2 rfl (aRx_ext hl) (fun k hk => ⟨aRow_row _ _ _ (by omega), aRow_row _ _ _ (by omega), aRow_row _ _ _ (by omega)⟩)
      have hc : ((List.range [((none, ci) : aSh)].length).map (fun i => (aRx r M.1.length q (M.1.length + i), aCell tyc (aRx r M.1.length q) (M.1 ++ [(none, ci)], aRow M.2.1 M.1.length (fun _ => 0), aRow M.2.2.1 M.1.length (fun _ => 0), aRow M.2.2.2 M.1.length (fun _ => none)) (M.1.length + i) (([((none, ci) : aSh)][i]?).getD (none, 0))))) = [(q, .inr (ci, (List.range (aNF ci)).map (fun k => aDf (aTy ci k))))] := by
        simp only [List.length_cons, List.length_nil, List.range_succ, List.range_zero, List.nil_append, List.map_cons, List.map_nil, aCell, hfd, Nat.add_zero, aRx_at, List.getElem?_cons_zero, Option.getD_some, Nat.zero_add]
      rw [hc] at hw
      have := kk (aRx r M.1.length q) H1 (aRx_ext hl) ⟨by rw [hw]; exact hP2, by rw [hw]; exact hD2, hS2, fun a b z hz => (by
        have hz : aRow M.2.2.2 M.1.length (fun _ => none) a b = some z := hz
        by_cases e : a = M.1.length
        · subst e; simp [aRow] at hz
        · rw [show aRow M.2.2.2 M.1.length (fun _ => none) a b = M.2.2.2 a b by simp [aRow, e]] at hz
          exact (hR.2.2.2.1 a b z hz).imp (fun e => by simp; omega) id), by simp; omega⟩
      rw [aRx_at] at this
      exact this
  · cases hk
theorem as_newm (C : aCx p s m args meth c y D tyc) {n k : Int32} {i0 d0 : Nat} (hk : aLkR y pc (.multianewarray i0 d0) h raw len = true) (hd : decode (mB y) pc = .ok (raw, len)) (hR : aRel D tyc r M A s.heap H locs) (hA : ∀ q, s.heap.size ≤ q → A q) (hn : ¬ n < 0) (hk0 : ¬ k < 0) (hs : n.toNatClampNeg < 1000) (hs2 : k.toNatClampNeg < 1000000) (hl : M.1.length + n.toNatClampNeg < 1000000) (hcells : cells + (1 + n.toNatClampNeg) ≤ R.cells) (hslots : slots + (n.toNatClampNeg + n.toNatClampNeg * k.toNatClampNeg) ≤ R.slots) (kk : ∀ (r2 : Nat → Nat) (H1 : Heap), aExt M.1.length r r2 → aRel D tyc r2 (((M.1 ++ [(some (.array .int), n.toNatClampNeg)]) ++ List.replicate n.toNatClampNeg (some .int, k.toNatClampNeg), (fun a b => if M.1.length < a ∧ a ≤ M.1.length + n.toNatClampNeg then 0 else M.2.1 a b), M.2.2.1, aRow M.2.2.2 M.1.length (fun j => if j < n.toNatClampNeg then some (M.1.length + 1 + j) else none))) A s.heap H1 locs → W p l e R s m args below meth c H1 locs (cells + (1 + n.toNatClampNeg)) (slots + (n.toNatClampNeg + n.toNatClampNeg * k.toNatClampNeg)) Q (F0 m (pc + len) lsR (.ref (r2 M.1.length) :: st))) : W p l e R s m args below meth c H locs (cells) (slots) Q (F0 m (pc) lsR (.int k :: .int n :: st)) := by
  obtain ⟨hx, hb, hml, hown, hts, hK, hnm, hne, hao, hao2⟩ := C
  simp only [aLkR] at hk
  split at hk
  · simp only [Bool.and_eq_true, decide_eq_true_eq] at hk
    obtain ⟨rfl, h1⟩ := hk
    have hpl : va_pl [] (fun _ => (.inr (0, []) : va_E)) = [] := rfl
    refine va_mna (D := D) (ty := .int) (cy := tyc .int) (X := aW tyc r M) (L := []) (f := fun _ => .inr (0, [])) (z := (k.toNatClampNeg, .inl (fun _ => 0))) hx hb hown (hts _ (aHit_in h1)) hao2 (hts _ wAi) (hK.2 0 _ rfl).2 hK (by rw [hpl, List.append_nil]; exact hR.1) (by rw [hpl, List.append_nil]; exact hR.2.1) hR.2.2.1 hA hn hk0 rfl rfl (by omega) (by show k.toNatClampNeg * 4 ≤ _; omega) (by omega) rfl rfl hcells hslots (fun c => by rw [vp_cell_i]; exact arrV_new _ _ _) hd (fun q rr cA H1 hinj hni hK2 hP2 hD2 hS2 => ?_)
    have ec : cA = tyc (.array .int) := va_RA_same (hK2.2 (aTys tyc).length _ (by rw [List.getElem?_append_right (Nat.le_refl _), Nat.sub_self]; rfl)).2 (hK.2 4 _ rfl).2
    let r2 : Nat → Nat := fun a => if a = M.1.length then q else if M.1.length < a ∧ a ≤ M.1.length + n.toNatClampNeg then rr (a - M.1.length - 1) else r a
    have hext : aExt M.1.length r r2 := fun a ha => by
      have h3 : a < M.1.length ∨ 1000000 ≤ a := ha.imp id (fun z => z.elim (fun e => by rw [e]; decide) (fun e => by rw [e]; decide))
      show (if a = M.1.length then q else if M.1.length < a ∧ a ≤ M.1.length + n.toNatClampNeg then rr (a - M.1.length - 1) else r a) = r a
      rw [if_neg (by omega), if_neg (by omega)]
    have hw := aW_app (tyc := tyc) (r2 := r2) (M2 := ((M.1 ++ [(some (.array .int), n.toNatClampNeg)]) ++ List.replicate n.toNatClampNeg (some .int, k.toNatClampNeg), (fun a b => if M.1.length < a ∧ a ≤ M.1.length + n.toNatClampNeg then 0 else M.2.1 a b), M.2.2.1, aRow M.2.2.2 M.1.length (fun j => if j < n.toNatClampNeg then some (M.1.length + 1 + j) else none))) (L := [(some (.array .int), n.toNatClampNeg)] ++ List.replicate n.toNatClampNeg (some .int, k.toNatClampNeg)) hR.2.2.2 (List.append_assoc _ _ _) hext (fun a ha => ⟨by funext b; exact if_neg (by omega), rfl, aRow_row _ _ _ (by omega)⟩)
    have hc : ((List.range ([((some (.array .int), n.toNatClampNeg) : aSh)] ++ List.replicate n.toNatClampNeg ((some .int, k.toNatClampNeg) : aSh)).length).map (fun i => (r2 (M.1.length + i), aCell tyc r2 ((M.1 ++ [(some (.array .int), n.toNatClampNeg)]) ++ List.replicate n.toNatClampNeg (some .int, k.toNatClampNeg), (fun a b => if M.1.length < a ∧ a ≤ M.1.length + n.toNatClampNeg then 0 else M.2.1 a b), M.2.2.1, aRow M.2.2.2 M.1.length (fun j => if j < n.toNatClampNeg then some (M.1.length + 1 + j) else none)) (M.1.length + i) ((([((some (.array .int), n.toNatClampNeg) : aSh)] ++ List.replicate n.toNatClampNeg ((some .int, k.toNatClampNeg) : aSh))[i]?).getD (none, 0))))) = [(q, .inl (cA, n.toNatClampNeg, .inr (.inr (.inr (.inr (fun i => if i < n.toNatClampNeg then some (rr i) else none))))))] ++ va_pl ([] ++ (List.range n.toNatClampNeg).map rr) (vr_up (fun _ => .inr (0, [])) ((List.range n.toNatClampNeg).map rr) (.inl (tyc .int, k.toNatClampNeg, .inl (fun _ => 0)))) := by
      rw [List.length_append, List.length_replicate, List.length_singleton, List.range_add, List.map_append, List.map_map]
      congr 1
      · have e0 : r2 M.1.length = q := if_pos rfl
        have e1 : (fun j => (aRow M.2.2.2 M.1.length (fun j => if j < n.toNatClampNeg then some (M.1.length + 1 + j) else none) M.1.length j).map r2) = (fun i => if i < n.toNatClampNeg then some (rr i) else none) := by
          funext j
          rw [aRow_at]
          by_cases hj : j < n.toNatClampNeg
          · rw [if_pos hj, if_pos hj]
            show some (r2 (M.1.length + 1 + j)) = _
            congr 1
            show (if M.1.length + 1 + j = M.1.length then q else if M.1.length < M.1.length + 1 + j ∧ M.1.length + 1 + j ≤ M.1.length + n.toNatClampNeg then rr (M.1.length + 1 + j - M.1.length - 1) else r (M.1.length + 1 + j)) = rr j
            rw [if_neg (by omega), if_pos (by omega), show M.1.length + 1 + j - M.1.length - 1 = j by omega]
          · rw [if_neg hj, if_neg hj]
            rfl
        have e2 : List.range 1 = [0] := rfl
        rw [e2]
        simp only [List.map_cons, List.map_nil, Nat.add_zero, List.cons_append, List.nil_append, List.getElem?_cons_zero, Option.getD_some, aCell]
        rw [e0, e1, ec]
      · rw [List.nil_append, va_pl, List.map_map]
        apply List.map_congr_left
        intro i hi
        have hi : i < n.toNatClampNeg := List.mem_range.mp hi
        simp only [Function.comp]
        have e1 : r2 (M.1.length + (1 + i)) = rr i := by
          show (if M.1.length + (1 + i) = M.1.length then q else if M.1.length < M.1.length + (1 + i) ∧ M.1.length + (1 + i) ≤ M.1.length + n.toNatClampNeg then rr (M.1.length + (1 + i) - M.1.length - 1) else r (M.1.length + (1 + i))) = rr i
          rw [if_neg (by omega), if_pos (by omega), show M.1.length + (1 + i) - M.1.length - 1 = i by omega]
        have e2 : ([((some (.array .int), n.toNatClampNeg) : aSh)] ++ List.replicate n.toNatClampNeg ((some .int, k.toNatClampNeg) : aSh))[1 + i]? = some (some .int, k.toNatClampNeg) := by
          rw [List.getElem?_append_right (by simp), List.length_singleton, show 1 + i - 1 = i by omega, List.getElem?_replicate, if_pos hi]
        rw [e1, e2, vr_up_in (List.mem_map.mpr ⟨i, List.mem_range.mpr hi, rfl⟩)]
        simp only [Option.getD_some, aCell]
        have e3 : (fun b => if M.1.length < M.1.length + (1 + i) ∧ M.1.length + (1 + i) ≤ M.1.length + n.toNatClampNeg then (0 : Int32) else M.2.1 (M.1.length + (1 + i)) b) = fun _ => 0 := by
          funext b
          exact if_pos (by omega)
        rw [e3]
    rw [hc, ← List.append_assoc] at hw
    have e0 : r2 M.1.length = q := if_pos rfl
    have := kk r2 H1 hext ⟨by rw [hw]; exact hP2, by rw [hw]; exact hD2, hS2, fun a b z hz => (by
      have hz : aRow M.2.2.2 M.1.length (fun j => if j < n.toNatClampNeg then some (M.1.length + 1 + j) else none) a b = some z := hz
      by_cases e : a = M.1.length
      · subst e
        rw [show aRow M.2.2.2 M.1.length (fun j => if j < n.toNatClampNeg then some (M.1.length + 1 + j) else none) M.1.length b = if b < n.toNatClampNeg then some (M.1.length + 1 + b) else none by rw [aRow_at]] at hz
        split at hz
        · cases hz; exact Or.inl (by simp; omega)
        · cases hz
      · rw [show aRow M.2.2.2 M.1.length (fun j => if j < n.toNatClampNeg then some (M.1.length + 1 + j) else none) a b = M.2.2.2 a b by simp [aRow, e]] at hz
        exact (hR.2.2.2.1 a b z hz).imp (fun e => by simp; omega) id), by simp; omega⟩
    rw [e0] at this
    rw [Nat.add_assoc, Nat.add_assoc]
    exact this
  · cases hk
theorem as_objinit (C : aCx p s m args meth c y D tyc) {i0 : Nat} {st0 : List Value} (hk : aLkR y pc (.invokeinterface 0 i0) h raw len = true) (hd : decode (mB y) pc = .ok (raw, len)) (hsz : lsR.size = c.maxLocals) (hfr : 1 ≤ R.frames) (hlo : 40 ≤ R.locals) (hcat : aCat st0 ≤ 8) (kk : W p l e R s m args below meth c H locs (cells) (slots) Q (F0 m (pc + len) lsR (aVs r st0))) : W p l e R s m args below meth c H locs (cells) (slots) Q (F0 m (pc) lsR (.ref (r q) :: aVs r st0)) := by
  obtain ⟨hx, hb, hml, hown, hts, hK, hnm, hne, hao, hao2⟩ := C
  simp only [aLkR] at hk
  split at hk
  · simp only [Bool.and_eq_true, decide_eq_true_eq] at hk
    obtain ⟨rfl, h1⟩ := hk
    have hcc : ((aVs r st0).map fun v => v.category).sum ≤ 8 := by rw [aVs_cat]; exact hcat
    exact W.objInit hx hb hown (hts _ (aHit_in h1)) (hts _ wOi) (hts _ wOc) rfl hsz rfl hd hfr (by have := lv_room (m := m) (pc := pc) (ls := lsR) (rest := .ref (r q) :: aVs r st0) hcc; omega) kk
  · cases hk
theorem as_mmax (C : aCx p s m args meth c y D tyc) {i0 : Nat} {st0 : List Value} {x z : Int32} (hk : aLkR y pc (.invokeinterface 1 i0) h raw len = true) (hd : decode (mB y) pc = .ok (raw, len)) (hsz : c.maxLocals = lsR.size) (hce : cells ≤ R.cells) (hsl : slots ≤ R.slots) (hfr : 1 ≤ R.frames) (hlo : 40 ≤ R.locals) (hcat : aCat st0 ≤ 8) (kk : W p l e R s m args below meth c H locs (cells) (slots) Q (F0 m (pc + len) lsR (.int (if x < z then z else x) :: aVs r st0))) : W p l e R s m args below meth c H locs (cells) (slots) Q (F0 m (pc) lsR (.int z :: .int x :: aVs r st0)) := by
  obtain ⟨hx, hb, hml, hown, hts, hK, hnm, hne, hao, hao2⟩ := C
  simp only [aLkR] at hk
  split at hk
  · simp only [Bool.and_eq_true, decide_eq_true_eq] at hk
    obtain ⟨rfl, h1⟩ := hk
    exact va_mmax hx hb hsz hown (hts _ (aHit_in h1)) (hts _ wMs_max) (hts _ wMi) (hts _ wMc_max) hfr (by rw [aVs_cat]; omega) hce hsl hd kk
  · cases hk
theorem as_mmin (C : aCx p s m args meth c y D tyc) {i0 : Nat} {st0 : List Value} {x z : Int32} (hk : aLkR y pc (.invokeinterface 2 i0) h raw len = true) (hd : decode (mB y) pc = .ok (raw, len)) (hsz : c.maxLocals = lsR.size) (hce : cells ≤ R.cells) (hsl : slots ≤ R.slots) (hfr : 1 ≤ R.frames) (hlo : 40 ≤ R.locals) (hcat : aCat st0 ≤ 8) (kk : W p l e R s m args below meth c H locs (cells) (slots) Q (F0 m (pc + len) lsR (.int (if z < x then z else x) :: aVs r st0))) : W p l e R s m args below meth c H locs (cells) (slots) Q (F0 m (pc) lsR (.int z :: .int x :: aVs r st0)) := by
  obtain ⟨hx, hb, hml, hown, hts, hK, hnm, hne, hao, hao2⟩ := C
  simp only [aLkR] at hk
  split at hk
  · simp only [Bool.and_eq_true, decide_eq_true_eq] at hk
    obtain ⟨rfl, h1⟩ := hk
    exact va_mmin hx hb hsz hown (hts _ (aHit_in h1)) (hts _ wMs_min) (hts _ wMi) (hts _ wMc_min) hfr (by rw [aVs_cat]; omega) hce hsl hd kk
  · cases hk
theorem as_acopy (C : aCx p s m args meth c y D tyc) {i0 a n0 n1 : Nat} {st0 : List Value} {sp dp n : Int32} (hk : aLkR y pc (.invokeinterface 3 i0) h raw len = true) (hd : decode (mB y) pc = .ok (raw, len)) (hsz : c.maxLocals = lsR.size) (hR : aRel D tyc r M A s.heap H locs) (hs0 : M.1[q]? = some (some .int, n0)) (hs1 : M.1[a]? = some (some .int, n1)) (h1 : ¬ sp < 0) (h2 : ¬ dp < 0) (h3 : ¬ n < 0) (h4 : sp.toNatClampNeg + n.toNatClampNeg ≤ n0) (h5 : dp.toNatClampNeg + n.toNatClampNeg ≤ n1) (hfr : 1 ≤ R.frames) (hlo : 40 ≤ R.locals) (hcat : aCat st0 ≤ 8) (kk : ∀ (H1 : Heap) (locs1 : List Loc), aRel D tyc r (M.1, aRow M.2.1 a (va_cpy (M.2.1 q) (M.2.1 a) sp.toNatClampNeg dp.toNatClampNeg n.toNatClampNeg), M.2.2.1, M.2.2.2) A s.heap H1 locs1 → W p l e R s m args below meth c H1 locs1 (cells) (slots) Q (F0 m (pc + len) lsR (aVs r st0))) : W p l e R s m args below meth c H locs (cells) (slots) Q (F0 m (pc) lsR (.int n :: .int dp :: .ref (r a) :: .int sp :: .ref (r q) :: aVs r st0)) := by
  obtain ⟨hx, hb, hml, hown, hts, hK, hnm, hne, hao, hao2⟩ := C
  simp only [aLkR] at hk
  split at hk
  · simp only [Bool.and_eq_true, decide_eq_true_eq] at hk
    obtain ⟨rfl, h6⟩ := hk
    have hnw : nativeFrameWords "java/lang/System" "arraycopy" 5 ≤ 20 := by decide +kernel
    have hset : (aW tyc r M).set a (r a, .inl (tyc .int, n1, .inl (va_cpy (M.2.1 q) (M.2.1 a) sp.toNatClampNeg dp.toNatClampNeg n.toNatClampNeg))) = aW tyc r (M.1, aRow M.2.1 a (va_cpy (M.2.1 q) (M.2.1 a) sp.toNatClampNeg dp.toNatClampNeg n.toNatClampNeg), M.2.2.1, M.2.2.2) := aW_set hs1 rfl (by
      show _ = (Sum.inl (tyc .int, n1, Sum.inl (aRow M.2.1 a (va_cpy (M.2.1 q) (M.2.1 a) sp.toNatClampNeg dp.toNatClampNeg n.toNatClampNeg) a)) : va_E)
      rw [aRow_at]) (fun k sk hk => by
        refine aCell_row ?_ ?_ ?_ <;> first | rfl | exact aRow_row _ _ _ hk)
    refine va_copyi (D := D) (ty := .int) hx hb hsz hown (hts _ (aHit_in h6)) (hts _ wSn) (hts _ wSs) (hts _ wSi) hK hR.1 hR.2.1 hR.2.2.1 q a 0 0 (aW_get hs0) (aW_get hs1) rfl rfl rfl h1 h2 h3 h4 h5 (fun i hi => rfl) hfr (by rw [aVs_cat]; omega) hd ?_
    rw [hset]
    intro H1 locs1 a1 a2 a3
    exact kk H1 locs1 ⟨a1, a2, a3, hR.2.2.2⟩
  · cases hk
theorem as_sald (C : aCx p s m args meth c y D tyc) {n : Nat} {xs : Nat → Int32} {j : Int32} {b : Nat} (hk : aLkR y pc (.saload) h raw len = true) (hd : decode (mB y) pc = .ok (raw, len)) (hR : aRel D tyc r M A s.heap H locs) (hX : va_X b n xs s s.heap) (hbl : b < s.heap.size) (hbA : ¬ A b) (hin : ¬ (j < 0 ∨ n ≤ j.toNatClampNeg)) (kk : W p l e R s m args below meth c H locs (cells) (slots) Q (F0 m (pc + len) lsR (.int (xs j.toNatClampNeg) :: st))) : W p l e R s m args below meth c H locs (cells) (slots) Q (F0 m (pc) lsR (.int j :: .ref b :: st)) := by
  obtain ⟨hx, hb, hml, hown, hts, hK, hnm, hne, hao, hao2⟩ := C
  simp only [aLkR, Bool.and_eq_true, decide_eq_true_eq] at hk
  obtain ⟨⟨-, rfl⟩, rfl⟩ := hk
  exact va_sld hx hb hX hbl hbA hR.2.2.1 hin hd kk
theorem as_slen (C : aCx p s m args meth c y D tyc) {i0 n : Nat} {xs : Nat → Int32} {b : Nat} (hk : aLkR y pc (.invokeinterface 6 i0) h raw len = true) (hd : decode (mB y) pc = .ok (raw, len)) (hR : aRel D tyc r M A s.heap H locs) (hX : va_X b n xs s s.heap) (hbl : b < s.heap.size) (hbA : ¬ A b) (kk : W p l e R s m args below meth c H locs (cells) (slots) Q (F0 m (pc + len) lsR (.int (Int32.ofNat n) :: st))) : W p l e R s m args below meth c H locs (cells) (slots) Q (F0 m (pc) lsR (.ref b :: st)) := by
  obtain ⟨hx, hb, hml, hown, hts, hK, hnm, hne, hao, hao2⟩ := C
  simp only [aLkR, Bool.and_eq_true, decide_eq_true_eq] at hk
  obtain ⟨⟨-, rfl⟩, rfl⟩ := hk
  exact va_slen hx hb hX hbl hbA hR.2.2.1 hd kk
theorem as_ldcS (C : aCx p s m args meth c y D tyc) {i0 a : Nat} {tx : String} (hk : aLkR y pc (.ldc i0) h raw len = true) (hd : decode (mB y) pc = .ok (raw, len)) (hZ : vk_R RX2 49 tx a s) (kk : W p l e R s m args below meth c H locs (cells) (slots) Q (F0 m (pc + len) lsR (.ref a :: st))) : W p l e R s m args below meth c H locs (cells) (slots) Q (F0 m (pc) lsR (st)) := by
  obtain ⟨hx, hb, hml, hown, hts, hK, hnm, hne, hao, hao2⟩ := C
  simp only [aLkR, Bool.and_eq_true, decide_eq_true_eq] at hk
  obtain ⟨⟨rfl, rfl⟩, rfl⟩ := hk
  exact va_ldcS hx hb hown hZ hd kk
end AS3
