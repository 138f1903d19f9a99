section AS5
variable {p : Program} {l : Launch} {e : Env} {R : Room} {s : State} {m : MethodId} {args : Array Value} {below : List Frame} {meth : Method} {c : Code} {H : Heap} {locs : List Loc} {cells slots : Nat} {Q : State → Prop} {y pc h len : Nat} {raw : Instr} {D : va_G} {tyc : FieldType → ClassId} {lsR : Array Slot} {st : List Value} {r : Nat → Nat} {M : aM} {A : Nat → Prop} {ls : List Value} {q d nx : Nat}

theorem aBr_W (C : aCx p s m args meth c y D tyc) {i : Instr} {st2 : List Value} {pc2 : Nat} (hk : aLkR y pc i h raw len = true) (hd : decode (mB y) pc = .ok (raw, len)) (hh : aBr i (pc + len) st = some (st2, pc2)) (kk : W p l e R s m args below meth c H locs (cells) (slots) Q (F0 m (pc2) lsR (aVs r st2))) : W p l e R s m args below meth c H locs (cells) (slots) Q (F0 m (pc) lsR (aVs r st)) := by
  cases i with
  | goto t =>
    simp only [aBr] at hh
    cases hh
    exact as_goto C hk hd kk
  | ifCond cn t =>
    simp only [aBr] at hh
    split at hh
    · rename_i x rr
      simp only [Option.some.injEq, Prod.mk.injEq] at hh
      obtain ⟨rfl, rfl⟩ := hh
      cases cn
      · refine as_ifCond_eq C hk hd (fun q => ?_) (fun q => ?_)
        · rw [if_pos (decide_eq_true q)] at kk; exact kk
        · rw [if_neg (fun z => q (of_decide_eq_true z))] at kk; exact kk
      · refine as_ifCond_ne C hk hd (fun q => ?_) (fun q => ?_)
        · rw [if_pos (decide_eq_true q)] at kk; exact kk
        · rw [if_neg (fun z => q (of_decide_eq_true z))] at kk; exact kk
      · refine as_ifCond_lt C hk hd (fun q => ?_) (fun q => ?_)
        · rw [if_pos (decide_eq_true q)] at kk; exact kk
        · rw [if_neg (fun z => q (of_decide_eq_true z))] at kk; exact kk
      · refine as_ifCond_ge C hk hd (fun q => ?_) (fun q => ?_)
        · rw [if_pos (decide_eq_true q)] at kk; exact kk
        · rw [if_neg (fun z => q (of_decide_eq_true z))] at kk; exact kk
      · refine as_ifCond_gt C hk hd (fun q => ?_) (fun q => ?_)
        · rw [if_pos (decide_eq_true q)] at kk; exact kk
        · rw [if_neg (fun z => q (of_decide_eq_true z))] at kk; exact kk
      · refine as_ifCond_le C hk hd (fun q => ?_) (fun q => ?_)
        · rw [if_pos (decide_eq_true q)] at kk; exact kk
        · rw [if_neg (fun z => q (of_decide_eq_true z))] at kk; exact kk
    · cases hh
  | if_icmp cn t =>
    simp only [aBr] at hh
    split at hh
    · rename_i z x rr
      simp only [Option.some.injEq, Prod.mk.injEq] at hh
      obtain ⟨rfl, rfl⟩ := hh
      cases cn
      · refine as_icmp_eq C hk hd (fun q => ?_) (fun q => ?_)
        · rw [if_pos (decide_eq_true q)] at kk; exact kk
        · rw [if_neg (fun z => q (of_decide_eq_true z))] at kk; exact kk
      · refine as_icmp_ne C hk hd (fun q => ?_) (fun q => ?_)
        · rw [if_pos (decide_eq_true q)] at kk; exact kk
        · rw [if_neg (fun z => q (of_decide_eq_true z))] at kk; exact kk
      · refine as_icmp_lt C hk hd (fun q => ?_) (fun q => ?_)
        · rw [if_pos (decide_eq_true q)] at kk; exact kk
        · rw [if_neg (fun z => q (of_decide_eq_true z))] at kk; exact kk
      · refine as_icmp_ge C hk hd (fun q => ?_) (fun q => ?_)
        · rw [if_pos (decide_eq_true q)] at kk; exact kk
        · rw [if_neg (fun z => q (of_decide_eq_true z))] at kk; exact kk
      · refine as_icmp_gt C hk hd (fun q => ?_) (fun q => ?_)
        · rw [if_pos (decide_eq_true q)] at kk; exact kk
        · rw [if_neg (fun z => q (of_decide_eq_true z))] at kk; exact kk
      · refine as_icmp_le C hk hd (fun q => ?_) (fun q => ?_)
        · rw [if_pos (decide_eq_true q)] at kk; exact kk
        · rw [if_neg (fun z => q (of_decide_eq_true z))] at kk; exact kk
    · cases hh
  | tableswitch df lo hi ts =>
    simp only [aBr] at hh
    split at hh
    · rename_i x rr
      refine as_tswitch C hk hd (fun q => ?_) (fun t q ht => ?_) (fun q ht => ?_)
      · rw [if_pos q] at hh
        cases hh
        exact kk
      · rw [if_neg q, ht] at hh
        cases hh
        exact kk
      · rw [if_neg q, ht] at hh
        cases hh
    · cases hh
  | lookupswitch df ps =>
    simp only [aBr] at hh
    split at hh
    · cases hh
      exact as_lswitch C hk hd kk
    · cases hh
  | _ => cases hh
end AS5
def aRetAt (y : Nat) (v : Option Value) (pc : Nat) : Prop := match v with
  | none => decode (mB y) pc = .ok (.return_, 1) ∧ mR y = none
  | some (.int x) => decode (mB y) pc = .ok (.ireturn, 1) ∧ (mR y = some .int ∨ mR y = some .boolean) ∧ narrow ((mR y).getD .int) (.int x) = .int x
  | some (.long _) => decode (mB y) pc = .ok (.lreturn, 1) ∧ mR y = some .long
  | _ => False
theorem aFind_mem : ∀ {l : List aEnt} {pc : Nat} {i : Instr} {nx : Nat}, aFind l pc = some (i, nx) → ∃ hh : Nat, (pc, i, nx, hh) ∈ l
  | [], _, _, _, h => by cases h
  | e :: r, pc, i, nx, h => by
    simp only [aFind] at h
    split at h
    · rename_i he
      obtain ⟨a, b, c, d⟩ := e
      simp only [Option.some.injEq, Prod.mk.injEq] at h he
      obtain ⟨rfl, rfl⟩ := h
      subst he
      exact ⟨d, List.mem_cons_self⟩
    · obtain ⟨hh, hm⟩ := aFind_mem h
      exact ⟨hh, List.mem_cons_of_mem _ hm⟩
theorem aCod_lk {y pc nx : Nat} {i : Instr} (hl : aLkA y = true) (h : aCod y pc = some (i, nx)) : ∃ (hh len : Nat) (raw : Instr), decode (mB y) pc = .ok (raw, len) ∧ nx = pc + len ∧ aLkR y pc i hh raw len = true := by
  obtain ⟨hh, hm⟩ := aFind_mem h
  have h1 := List.all_eq_true.mp hl _ hm
  simp only [aLk] at h1
  split at h1
  · cases h1
  · rename_i raw len hd
    simp only [Bool.and_eq_true, decide_eq_true_eq] at h1
    exact ⟨hh, len, raw, hd, h1.1, h1.2⟩
theorem aRet_at {y pc hh len : Nat} {i raw : Instr} {st : List Value} {v : Option Value} (hk : aLkR y pc i hh raw len = true) (hd : decode (mB y) pc = .ok (raw, len)) (h : aRet y i st = some v) : aRetAt y v pc ∧ ∀ r : Nat → Nat, aVs r st = v.toList := by
  rcases aRet_spec h with ⟨rfl, rfl, rfl⟩ | ⟨x, rfl, rfl, rfl, hn⟩ | ⟨x, rfl, rfl, rfl⟩
  · simp only [aLkR, Bool.and_eq_true, decide_eq_true_eq] at hk
    obtain ⟨⟨rfl, rfl⟩, h3⟩ := hk
    exact ⟨⟨hd, h3⟩, fun r => rfl⟩
  · simp only [aLkR, Bool.and_eq_true, decide_eq_true_eq] at hk
    obtain ⟨⟨rfl, rfl⟩, h3⟩ := hk
    exact ⟨⟨hd, h3, hn⟩, fun r => rfl⟩
  · simp only [aLkR, Bool.and_eq_true, decide_eq_true_eq] at hk
    obtain ⟨⟨rfl, rfl⟩, h3⟩ := hk
    exact ⟨⟨hd, h3⟩, fun r => rfl⟩
/-- the words of a method: its own code, and all -/
def aWs (y : Nat) : List Cond := .code (mN y) (mB y) (mL y) (mR y) :: WS
theorem WS_good : GoodIn WS WS := fun w hw => ⟨hw, good_of_word (List.mem_filter.mp hw).2⟩
theorem aMok_spec {y : Nat} (h : aMok y = true) (hy : y ≠ 259) : plainFor (mN y) = true ∧ Cond.code (mN y) (mB y) (mL y) (mR y) ∈ WS ∧ Cond.initialized (mN y).cls ∈ WS ∧ (parseMethodDescriptor (mN y).desc).map (fun d => d.parameters.length) = some (mP y) ∧ ((mN y).cls ≠ "java/lang/invoke/MethodHandle" ∧ (mN y).cls ≠ "java/lang/invoke/VarHandle") ∧ mL y ≤ 20 ∧
    (mK y = 0 → Cond.instanceMethod (mN y) ∈ WS ∧ Cond.selects (mN y).cls (mN y) (mN y) ∈ WS ∧ mC y < 10 ∧ (aT (mC y)).1 = (mN y).cls) ∧ (mK y = 1 → Cond.static (mN y) ∈ WS) ∧ (mK y = 2 → Cond.instanceMethod (mN y) ∈ WS ∧ (mN y).name = "<init>" ∧ mR y = none) ∧ mK y < 3 := by
  simp only [aMok, Bool.and_eq_true, decide_eq_true_eq] at h
  obtain ⟨⟨⟨⟨⟨⟨h1, h2⟩, h3⟩, h4⟩, h5⟩, h6⟩, h7⟩ := h
  have hc : Cond.code (mN y) (mB y) (mL y) (mR y) ∈ WS := by
    split at h2
    · rename_i n b ml rt he
      simp only [Bool.and_eq_true, decide_eq_true_eq] at h2
      obtain ⟨⟨rfl, rfl⟩, rfl⟩ := h2
      have hb : mB y = b := by
        simp only [mB, aCdB]
        rw [if_neg hy, he]
      rw [hb]
      exact List.mem_filter.mpr ⟨aGet_in he, rfl⟩
    · cases h2
  refine ⟨h1, hc, aHit_in h3, h4, h5, h6, fun e => ?_, fun e => ?_, fun e => ?_, ?_⟩
  · rw [e] at h7
    simp only [Bool.and_eq_true, decide_eq_true_eq] at h7
    exact ⟨aHit_in h7.1.1.1, aHit_in h7.1.1.2, h7.1.2, h7.2⟩
  · rw [e] at h7
    exact aHit_in h7
  · rw [e] at h7
    simp only [Bool.and_eq_true, decide_eq_true_eq] at h7
    exact ⟨aHit_in h7.1.1, h7.1.2, h7.2⟩
  · generalize mK y = k at h7
    match k, h7 with
    | 0, _ => decide
    | 1, _ => decide
    | 2, _ => decide
    | n + 3, h7 => cases h7
/-- what a method finds -/
def aB (wd : List Int32) (tx : String) (D : va_G) (tyc : FieldType → ClassId) (r : Nat → Nat) (M : aM) (sz : Nat) (U : State) : Prop := U.heap.size = sz ∧ va_P D vwCl (aW tyc r M) U.heap ∧ va_K D vwCl (aTys tyc) U ∧ va_D (fun _ => True) (aW tyc r M) ∧ (∀ w ∈ aNests, va_Nw w U) ∧ va_AO RX1 U ∧ va_AOA .int U ∧ aStr wd tx (r aSTR) (va_A (aW tyc r M) sz) U
/-- and leaves -/
def aE (D : va_G) (tyc : FieldType → ClassId) (A : Nat → Prop) (M2 : aM) (u : Nat → Nat) (t : State) : Prop := va_P D vwCl (aW tyc u M2) t.heap ∧ va_K D vwCl (aTys tyc) t ∧ va_D A (aW tyc u M2)
def aQ (D : va_G) (tyc : FieldType → ClassId) (n : Nat) (r : Nat → Nat) (A : Nat → Prop) (M2 : aM) (v : Option Value) : Array Value → State → Outcome → State → Prop := match v with
  | some (.int x) => va_Qi (fun (z : Int32) (u : Nat → Nat) => z = x ∧ aExt n r u) (aE D tyc A M2) A
  | some (.long x) => va_Ql (fun (z : Int64) (u : Nat → Nat) => z = x ∧ aExt n r u) (aE D tyc A M2) A
  | _ => va_Qv (fun u : Nat → Nat => aExt n r u) (aE D tyc A M2) A
theorem aNest_w {w : Cond} {s U : State} (hw : w ∈ aNests) (hW : s.WarmedH U.vm) (h : va_Nw w s) : va_Nw w U := by
  have h1 := (List.mem_filter.mp hw).2
  cases w with
  | methodLinkNest a b c d => exact va_Nw.warmM hW h
  | _ => cases h1
theorem aNest_s {w : Cond} {s U : State} (hw : w ∈ aNests) (hv : s.vm = U.vm) (h : va_Nw w s) : va_Nw w U := by
  have h1 := (List.mem_filter.mp hw).2
  cases w with
  | methodLinkNest a b c d => exact va_Nw.same rfl hv h
  | _ => cases h1
theorem aIdx_bare (f : Kind → Bool) (vm : Vm) : (vm.bare.classes.findIdx? fun (x : Class) => f x.kind) = (vm.classes.findIdx? fun (x : Class) => f x.kind) := by
  simp only [Vm.bare, Array.findIdx?_map]
  rfl
theorem va_AOA.moved {ty : FieldType} {u U : State} (hvm : u.vm.Alike U.vm) (h : va_AOA ty u) : va_AOA ty U := by
  unfold va_AOA Cond.before Cond.holds at h ⊢
  simp only [Cond.value, beq_iff_eq] at h ⊢
  cases hc : u.vm.findClass (FieldType.array ty).toString with
  | none => simp [hc] at h
  | some comp =>
    simp only [hc, Option.bind_some, Option.bind_eq_some_iff, Option.map_eq_some_iff] at h
    obtain ⟨c, hi, k, hk, hb⟩ := h
    obtain ⟨k', hk', he⟩ := hvm.2.2 _ _ hk
    have hi2 : (U.vm.classes.findIdx? fun (x : Class) => match x.kind with | .array component _ => component == comp | _ => false) = some c := by
      have e := aIdx_bare (fun k => match k with | .array component _ => component == comp | _ => false)
      have e1 := e U.vm
      have e2 := e u.vm
      have e3 : U.vm.bare = u.vm.bare := by first | exact hvm.bare_eq | exact hvm.bare_eq.symm
      rw [e3] at e1
      exact (e1.symm.trans e2).trans hi
    have f1 : U.vm.findClass (FieldType.array ty).toString = some comp := by rw [hvm.findClass]; exact hc
    rw [f1, Option.bind_some]
    refine (congrArg (fun o : Option Nat => (o.bind (fun c => (U.vm.classes[c]?).map fun (k : Class) => match k.kind with | .array _ t2 => decide (t2 = FieldType.array ty) && decide (U.vm.findClass ("[" ++ (FieldType.array ty).toString) = some c) | _ => false))) hi2).trans ?_
    have hkk : k'.kind = k.kind := by rw [he]
    simp only [Option.bind_some, hk', Option.map_some, hkk, hvm.findClass]
    exact congrArg some hb
theorem aStr.warm {wd : List Int32} {tx : String} {a : Nat} {A B : Nat → Prop} {s U : State} (hW : s.WarmedH U.vm) (hq : ∀ q : Nat, q < s.heap.size → ¬ A q → U.heap[q]? = s.heap[q]?) (hAB : ∀ q, B q → A q) (h : aStr wd tx a A s) : aStr wd tx a B U := by
  obtain ⟨h1, ⟨adV, h2⟩, h3, h4⟩ := h
  exact ⟨vk_R.warm hW h1, ⟨adV, ((h2.kept hq).moved hW.alike).narrow hAB⟩, ((h3.kept hq).moved hW.alike).narrow hAB, ((h4.kept hq).moved hW.alike).narrow hAB⟩
theorem aStr.same {wd : List Int32} {tx : String} {a : Nat} {A : Nat → Prop} {s U : State} (hv : U.vm = s.vm) (hh : U.heap = s.heap) (h : aStr wd tx a A s) : aStr wd tx a A U := by
  obtain ⟨h1, ⟨adV, h2⟩, h3, h4⟩ := h
  have hA : s.vm.Alike U.vm := by rw [hv]; exact Vm.Alike.refl _
  refine ⟨vk_R.same hv h1, ⟨adV, ?_⟩, ?_, ?_⟩ <;> rw [hh]
  · exact h2.moved hA
  · exact h3.moved hA
  · exact h4.moved hA
theorem aB_blind {wd : List Int32} {tx : String} {D : va_G} {tyc : FieldType → ClassId} {r : Nat → Nat} {M : aM} {sz : Nat} {av : List Value} : FrameBlind (va_Pc av (aB wd tx D tyc r M sz)) := by
  intro a U g mk q
  obtain ⟨q0, q1, q2, q3, q4, q5, q6, q7, q8⟩ := q
  exact ⟨q0, q1, q2, va_K.moved (u := U) (U := U.calling g mk a) (Vm.Alike.refl U.vm) q3, q4, fun w hw => aNest_s (s := U) (U := U.calling g mk a) hw rfl (q5 w hw), va_AO.moved (u := U) (U := U.calling g mk a) (Vm.Alike.refl U.vm) q6, va_AOA.moved (u := U) (U := U.calling g mk a) (Vm.Alike.refl U.vm) q7, aStr.same (s := U) (U := U.calling g mk a) rfl rfl q8⟩

