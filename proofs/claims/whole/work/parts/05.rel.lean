/-! THE WORLD OF AN ABSTRACT STATE, and what a frame of the machine must have -/
def aV (r : Nat → Nat) (v : Value) : Value := match v with
  | .ref k => .ref (r k)
  | v => v
abbrev aVs (r : Nat → Nat) (l : List Value) : List Value := l.map (aV r)
def aCell (tyc : FieldType → ClassId) (r : Nat → Nat) (M : aM) (q : Nat) (sh : aSh) : va_E := match sh with
  | (some .int, n) => .inl (tyc .int, n, .inl (M.2.1 q))
  | (some .char, n) => .inl (tyc .char, n, .inl (M.2.1 q))
  | (some .long, n) => .inl (tyc .long, n, .inr (.inl (M.2.2.1 q)))
  | (some ty, n) => .inl (tyc ty, n, .inr (.inr (.inr (.inr (fun j => (M.2.2.2 q j).map r)))))
  | (none, ci) => .inr (ci, (List.range (aNF ci)).map (fun k => aV r (aFld M q ci k)))
def aW (tyc : FieldType → ClassId) (r : Nat → Nat) (M : aM) : va_W := (List.range M.1.length).map (fun q => (r q, aCell tyc r M q ((M.1[q]?).getD (none, 0))))
def aOk (n : Nat) (v : Value) : Prop := ∀ a, v = .ref a → a < n ∨ a = aSTR ∨ a = aSCR
def aOkL (n : Nat) (l : List Value) : Prop := ∀ v ∈ l, aOk n v
def aOkM (M : aM) : Prop := (∀ q k a, M.2.2.2 q k = some a → a < M.1.length ∨ a = aSTR ∨ a = aSCR) ∧ M.1.length ≤ 1000000
def aExt (n : Nat) (r r2 : Nat → Nat) : Prop := ∀ a, a < n ∨ a = aSTR ∨ a = aSCR → r2 a = r a
abbrev aTys (tyc : FieldType → ClassId) : List (ClassId × FieldType) := [(tyc .int, .int), (tyc .char, .char), (tyc .long, .long), (tyc (.object RX1), .object RX1), (tyc (.array .int), .array .int)]
def aSz : List aSh → Nat
  | [] => 0
  | (some _, n) :: r => n + aSz r
  | (none, ci) :: r => aNF ci + aSz r
theorem aSz_app : ∀ (l k : List aSh), aSz (l ++ k) = aSz l + aSz k
  | [], k => by simp [aSz]
  | (some _, n) :: r, k => by simp [aSz, aSz_app r k]; omega
  | (none, ci) :: r, k => by simp [aSz, aSz_app r k]; omega
theorem aSz_rep (ty : FieldType) (k : Nat) : ∀ n : Nat, aSz (List.replicate n ((some ty, k) : aSh)) = n * k
  | 0 => by simp [aSz]
  | n + 1 => by
    have h := aSz_rep ty k n
    simp only [List.replicate_succ, aSz, h]
    rw [Nat.add_mul]
    omega
/-- WORDS as String constant: where it is, its bytes, untouched -/
def aStr (wd : List Int32) (tx : String) (a : Nat) (A : Nat → Prop) (s : State) : Prop := vk_R RX2 49 tx a s ∧ (∃ adV : Nat → Nat, vk_S 1 [wd.length] [wd] (fun _ => a) adV A s s.heap) ∧ va_Z "java/lang/String" "COMPACT_STRINGS" "Z" (.int 1) A s s.heap ∧ va_Zq "jdk/internal/util/Preconditions" "SIOOBE_FORMATTER" "Ljava/util/function/BiFunction;" A s s.heap
def aLoc (r : Nat → Nat) (ls : List Value) (lsR : Array Slot) : Prop := lsR.size = ls.length ∧ lv_wf lsR ∧ ∀ (i : Nat) (v : Value), ls[i]? = some v → v ≠ .null → lsR[i]? = some (.val (aV r v))
def aCx (p : Program) (s : State) (m : MethodId) (args : Array Value) (meth : Method) (c : Code) (y : Nat) (D : va_G) (tyc : FieldType → ClassId) : Prop :=
  p.tables.exec = Jvm.exec ∧ c.code = mB y ∧ c.maxLocals = mL y ∧ s.vm.findClass (mN y).cls = some m.cls ∧ (∀ w ∈ WS, w.before args s = true) ∧ va_K D vwCl (aTys tyc) s ∧ meth.name = (mN y).name ∧ (∀ w ∈ aNests, va_Nw w s) ∧ va_AO RX1 s ∧ va_AOA .int s
def aRel (D : va_G) (tyc : FieldType → ClassId) (r : Nat → Nat) (M : aM) (A : Nat → Prop) (H0 H : Heap) (locs : List Loc) : Prop :=
  va_P D vwCl (aW tyc r M) H ∧ va_D A (aW tyc r M) ∧ va_S A H0 H locs ∧ aOkM M
theorem aW_len {tyc : FieldType → ClassId} {r : Nat → Nat} {M : aM} : (aW tyc r M).length = M.1.length := by simp [aW]
theorem aW_get {tyc : FieldType → ClassId} {r : Nat → Nat} {M : aM} {q : Nat} {sh : aSh} (h : M.1[q]? = some sh) : (aW tyc r M)[q]? = some (r q, aCell tyc r M q sh) := by
  have hq : q < M.1.length := (List.getElem?_eq_some_iff.mp h).1
  rw [aW, List.getElem?_map, List.getElem?_range hq]
  simp [h]
theorem aW_set {tyc : FieldType → ClassId} {r : Nat → Nat} {M M2 : aM} {q : Nat} {sh : aSh} {e : va_E} (h : M.1[q]? = some sh) (h1 : M2.1 = M.1) (he : e = aCell tyc r M2 q sh) (ho : ∀ (k : Nat) (sk : aSh), k ≠ q → aCell tyc r M2 k sk = aCell tyc r M k sk) : (aW tyc r M).set q (r q, e) = aW tyc r M2 := by
  have hq : q < M.1.length := (List.getElem?_eq_some_iff.mp h).1
  apply List.ext_getElem?
  intro k
  rw [List.getElem?_set, aW_len]
  by_cases hk : k < M.1.length
  · have hs : M.1[k]? = some M.1[k] := List.getElem?_eq_getElem hk
    rw [aW_get hs, aW_get (M := M2) (sh := M.1[k]) (by rw [h1]; exact hs)]
    by_cases e1 : q = k
    · subst e1
      rw [if_pos rfl, if_pos hk, he]
      have : M.1[q] = sh := by
        have := hs.symm.trans h
        exact Option.some.inj this
      rw [this]
    · rw [if_neg e1, ho k _ (fun z => e1 z.symm)]
  · have h2 : (aW tyc r M)[k]? = none := List.getElem?_eq_none (by rw [aW_len]; omega)
    have h3 : (aW tyc r M2)[k]? = none := List.getElem?_eq_none (by rw [aW_len, h1]; omega)
    rw [h2, h3]
    by_cases e1 : q = k
    · subst e1; exact absurd hq hk
    · rw [if_neg e1]
theorem aV_ext {n : Nat} {r r2 : Nat → Nat} {v : Value} (h : aExt n r r2) (hv : aOk n v) : aV r2 v = aV r v := by
  cases v with
  | ref a => simp only [aV]; rw [h a (hv a rfl)]
  | _ => rfl
theorem aVs_ext {n : Nat} {r r2 : Nat → Nat} {l : List Value} (h : aExt n r r2) (hl : aOkL n l) : aVs r2 l = aVs r l := List.map_congr_left fun v hv => aV_ext h (hl v hv)
theorem aOk_mono {n k : Nat} {v : Value} (h : aOk n v) (hk : n ≤ k) : aOk k v := fun a ha => (h a ha).imp (fun z => Nat.lt_of_lt_of_le z hk) id
theorem aOkL_mono {n k : Nat} {l : List Value} (h : aOkL n l) (hk : n ≤ k) : aOkL k l := fun v hv => aOk_mono (h v hv) hk
theorem aOkL_nil {n : Nat} : aOkL n [] := fun v hv => absurd hv List.not_mem_nil
theorem aOkL_cons {n : Nat} {v : Value} {l : List Value} : aOkL n (v :: l) ↔ aOk n v ∧ aOkL n l := by simp [aOkL]
theorem aOk_int {n : Nat} {x : Int32} : aOk n (.int x) := fun a h => by cases h
theorem aOk_long {n : Nat} {x : Int64} : aOk n (.long x) := fun a h => by cases h
theorem aOk_null {n : Nat} : aOk n .null := fun a h => by cases h
theorem aOk_ref {n a : Nat} (h : a < n ∨ a = aSTR ∨ a = aSCR) : aOk n (.ref a) := fun b hb => by cases hb; exact h
theorem aOkL_set {n : Nat} {l : List Value} {v : Value} (k : Nat) (h : aOkL n l) (hv : aOk n v) : aOkL n (l.set k v) := fun w hw => by
  rcases List.mem_or_eq_of_mem_set hw with h1 | h1
  · exact h w h1
  · rw [h1]; exact hv
theorem aOkL_get {n : Nat} {l : List Value} {v : Value} {k : Nat} (h : aOkL n l) (hk : l[k]? = some v) : aOk n v := h v (List.mem_of_getElem? hk)
theorem aOkL_clr {n : Nat} {l : List Value} (k : Nat) (h : aOkL n l) : aOkL n (aClr l k) := by
  cases k with
  | zero => exact h
  | succ j =>
    simp only [aClr]
    split
    · split
      · exact aOkL_set _ h aOk_null
      · exact h
    · exact h
theorem aOkL_sto {n : Nat} {l : List Value} {v : Value} (k : Nat) (h : aOkL n l) (hv : aOk n v) : aOkL n (aSto l k v) := aOkL_set _ (aOkL_clr k h) hv
theorem aOkL_stoL {n : Nat} {l : List Value} {v : Value} (k : Nat) (h : aOkL n l) (hv : aOk n v) : aOkL n (aStoL l k v) := aOkL_set _ (aOkL_set _ (aOkL_clr k h) hv) aOk_null
theorem aLoc_ext {n : Nat} {r r2 : Nat → Nat} {ls : List Value} {lsR : Array Slot} (h : aExt n r r2) (hl : aOkL n ls) (k : aLoc r ls lsR) : aLoc r2 ls lsR := ⟨k.1, k.2.1, fun i v h1 h2 => by rw [aV_ext h (aOkL_get hl h1)]; exact k.2.2 i v h1 h2⟩
theorem aFld_ok {M : aM} (h : aOkM M) (q ci k : Nat) : aOk M.1.length (aFld M q ci k) := by
  unfold aFld
  split
  · exact aOk_long
  · cases hr : M.2.2.2 q k with
    | none => exact aOk_null
    | some a => exact aOk_ref (h.1 q k a hr)
  · cases hr : M.2.2.2 q k with
    | none => exact aOk_null
    | some a => exact aOk_ref (h.1 q k a hr)
  · exact aOk_int
theorem aCell_ext {tyc : FieldType → ClassId} {r r2 : Nat → Nat} {M : aM} {q : Nat} {sh : aSh} (h : aExt M.1.length r r2) (hM : aOkM M) : aCell tyc r2 M q sh = aCell tyc r M q sh := by
  have hf : (fun j => (M.2.2.2 q j).map r2) = (fun j => (M.2.2.2 q j).map r) := by
    funext j
    cases hr : M.2.2.2 q j with
    | none => rfl
    | some a => simp only [Option.map_some]; rw [h a (hM.1 q j a hr)]
  unfold aCell
  split
  · rfl
  · rfl
  · rfl
  · rw [hf]
  · congr 2
    exact List.map_congr_left fun k _ => aV_ext h (aFld_ok hM q _ k)
theorem aRf_map (r : Nat → Nat) (o : Option Nat) : aV r (aRf o) = va_rf (o.map r) := by cases o <;> rfl
theorem aOk_rf {M : aM} (h : aOkM M) (q k : Nat) : aOk M.1.length (aRf (M.2.2.2 q k)) := by
  cases hr : M.2.2.2 q k with
  | none => exact aOk_null
  | some a => exact aOk_ref (h.1 q k a hr)
/-- locals: what the machine's row has, in the kit's words -/
theorem aLoc_has {r : Nat → Nat} {ls : List Value} {lsR : Array Slot} (h : aLoc r ls lsR) : lv_has lsR ls.length ((List.range ls.length).filterMap (fun i => match ls[i]? with | some v => if v = .null then none else some (i, aV r v) | none => none)) := by
  refine ⟨h.1, h.2.1, fun q hq => ?_⟩
  obtain ⟨i, -, hi⟩ := List.mem_filterMap.mp hq
  split at hi
  · rename_i v hv
    split at hi
    · cases hi
    · rename_i hn
      cases hi
      exact h.2.2 i v hv hn
  · cases hi
theorem aV_cat (r : Nat → Nat) (v : Value) : (aV r v).category = v.category := by cases v <;> rfl
theorem aVs_cat (r : Nat → Nat) : ∀ l : List Value, ((aVs r l).map fun v => v.category).sum = aCat l
  | [] => rfl
  | v :: l => by
    have h := aVs_cat r l
    simp only [aVs, List.map_cons, List.sum_cons, aCat, aV_cat] at h ⊢
    rw [h]
theorem aLoc_of {r : Nat → Nat} {ls : List Value} {lsR : Array Slot} {n : Nat} {L : List (Nat × Value)} (h : lv_has lsR n L) (hn : ls.length = n) (hm : ∀ (i : Nat) (v : Value), ls[i]? = some v → v ≠ .null → (i, aV r v) ∈ L) : aLoc r ls lsR := ⟨h.1.trans hn.symm, h.2.1, fun i v h1 h2 => h.2.2 _ (hm i v h1 h2)⟩
theorem aClr_len (ls : List Value) (k : Nat) : (aClr ls k).length = ls.length := by
  cases k with
  | zero => rfl
  | succ j =>
    simp only [aClr]
    split
    · split
      · exact List.length_set
      · rfl
    · rfl
theorem aSto_len (ls : List Value) (k : Nat) (v : Value) : (aSto ls k v).length = ls.length := by simp [aSto, aClr_len]
theorem aStoL_len (ls : List Value) (k : Nat) (v : Value) : (aStoL ls k v).length = ls.length := by simp [aStoL, aClr_len]
/-- what is left of an old place when place k is written -/
theorem aClr_at {ls : List Value} {k i : Nat} {v : Value} (h : (aClr ls k)[i]? = some v) (hn : v ≠ .null) : ls[i]? = some v ∧ ¬ (i + 1 = k ∧ v.category = 2) := by
  cases k with
  | zero => exact ⟨h, fun z => by cases z.1⟩
  | succ j =>
    simp only [aClr] at h
    split at h
    · rename_i w hw
      split at h
      · rename_i hc
        rw [List.getElem?_set] at h
        split at h
        · split at h
          · cases h; exact absurd rfl hn
          · cases h
        · rename_i hji
          exact ⟨h, fun z => hji (by omega)⟩
      · rename_i hc
        refine ⟨h, fun z => ?_⟩
        have : i = j := by omega
        subst this
        rw [hw] at h
        cases h
        exact hc z.2
    · rename_i hw
      refine ⟨h, fun z => ?_⟩
      have : i = j := by omega
      subst this
      rw [hw] at h
      cases h
theorem aLoc_in {r : Nat → Nat} {ls : List Value} {i : Nat} {v : Value} (h : ls[i]? = some v) (hn : v ≠ .null) : (i, aV r v) ∈ (List.range ls.length).filterMap (fun i => match ls[i]? with | some v => if v = .null then none else some (i, aV r v) | none => none) := by
  have hi : i < ls.length := (List.getElem?_eq_some_iff.mp h).1
  refine List.mem_filterMap.mpr ⟨i, List.mem_range.mpr hi, ?_⟩
  simp [h, hn]
theorem aSto_loc {r : Nat → Nat} {ls : List Value} {lsR : Array Slot} {k : Nat} {v : Value} (h : lv_has lsR ls.length ((k, aV r v) :: ((List.range ls.length).filterMap (fun i => match ls[i]? with | some v => if v = .null then none else some (i, aV r v) | none => none)).filter (fun q => !(q.1 == k) && !(q.1 + 1 == k && q.2.category == 2)))) : aLoc r (aSto ls k v) lsR := by
  refine aLoc_of h (aSto_len ls k v) (fun i w h1 h2 => ?_)
  rw [aSto, List.getElem?_set] at h1
  split at h1
  · rename_i e
    split at h1
    · cases h1; subst e; exact List.mem_cons_self
    · cases h1
  · rename_i e
    obtain ⟨h3, h4⟩ := aClr_at h1 h2
    refine List.mem_cons_of_mem _ (List.mem_filter.mpr ⟨aLoc_in h3 h2, ?_⟩)
    have e1 : ¬ i = k := fun z => e z.symm
    simp only [Bool.and_eq_true, Bool.not_eq_true', beq_eq_false_iff_ne, ne_eq, e1, not_false_eq_true, true_and, Bool.and_eq_false_iff, aV_cat]
    by_cases z : i + 1 = k
    · exact Or.inr (fun q => h4 ⟨z, q⟩)
    · exact Or.inl z
theorem aStoL_loc {r : Nat → Nat} {ls : List Value} {lsR : Array Slot} {k : Nat} {v : Value} (h : lv_has lsR ls.length ((k, aV r v) :: ((List.range ls.length).filterMap (fun i => match ls[i]? with | some v => if v = .null then none else some (i, aV r v) | none => none)).filter (fun q => !(q.1 == k) && (!(q.1 == k + 1) && !(q.1 + 1 == k && q.2.category == 2))))) : aLoc r (aStoL ls k v) lsR := by
  refine aLoc_of h (aStoL_len ls k v) (fun i w h1 h2 => ?_)
  rw [aStoL, List.getElem?_set] at h1
  split at h1
  · split at h1
    · cases h1; exact absurd rfl h2
    · cases h1
  rename_i e0
  rw [List.getElem?_set] at h1
  split at h1
  · rename_i e
    split at h1
    · cases h1; subst e; exact List.mem_cons_self
    · cases h1
  · rename_i e
    obtain ⟨h3, h4⟩ := aClr_at h1 h2
    refine List.mem_cons_of_mem _ (List.mem_filter.mpr ⟨aLoc_in h3 h2, ?_⟩)
    have e1 : ¬ i = k := fun z => e z.symm
    have e2 : ¬ i = k + 1 := fun z => e0 z.symm
    simp only [Bool.and_eq_true, Bool.not_eq_true', beq_eq_false_iff_ne, ne_eq, e1, e2, not_false_eq_true, true_and, Bool.and_eq_false_iff, aV_cat]
    by_cases z : i + 1 = k
    · exact Or.inr (fun q => h4 ⟨z, q⟩)
    · exact Or.inl z
theorem aLoc_set_int {r : Nat → Nat} {ls : List Value} {lsR : Array Slot} {k : Nat} {x0 x : Int32} (hk : ls[k]? = some (.int x0)) (h : lv_has lsR ls.length ((k, Value.int x) :: ((List.range ls.length).filterMap (fun i => match ls[i]? with | some v => if v = .null then none else some (i, aV r v) | none => none)).filter (fun q => !(q.1 == k) && !(q.1 + 1 == k && q.2.category == 2)))) (hl : ∀ (j : Nat) (v : Value), ls[j]? = some v → v ≠ .null → j + 1 = k → v.category ≠ 2) : aLoc r (ls.set k (.int x)) lsR := by
  refine aLoc_of h (by simp) (fun i w h1 h2 => ?_)
  rw [List.getElem?_set] at h1
  split at h1
  · rename_i e
    split at h1
    · cases h1; subst e; exact List.mem_cons_self
    · cases h1
  · rename_i e
    refine List.mem_cons_of_mem _ (List.mem_filter.mpr ⟨aLoc_in h1 h2, ?_⟩)
    have e1 : ¬ i = k := fun z => e z.symm
    simp only [Bool.and_eq_true, Bool.not_eq_true', beq_eq_false_iff_ne, ne_eq, e1, not_false_eq_true, true_and, Bool.and_eq_false_iff, aV_cat]
    by_cases z : i + 1 = k
    · exact Or.inr (hl i w h1 h2 z)
    · exact Or.inl z
/-- a long's second place holds no value of its own -/
theorem aLoc_second {r : Nat → Nat} {ls : List Value} {lsR : Array Slot} (h : aLoc r ls lsR) {j k : Nat} {v w : Value} (hj : ls[j]? = some v) (hn : v ≠ .null) (hk : ls[k]? = some w) (hw : w ≠ .null) (e : j + 1 = k) : v.category ≠ 2 := by
  intro hc
  have h1 := h.2.2 j v hj hn
  have h2 := h.2.1.1 j (aV r v) h1 (by rw [aV_cat]; exact hc)
  have h3 := h.2.2 k w hk hw
  rw [e, h3] at h2
  cases h2
