def aSimP (wd : List Int32) (tx : String) (n : Nat) : Prop := ∀ (sc : Option (Nat × (Nat → Int32))) (d y pc : Nat) (ls st : List Value) (M M9 : aM) (v : Option Value), aEv wd sc n d y pc ls st M = some (v, M9) → aLkA y = true →
  ∀ {p : Program} {l : Launch} {e : Env} {R : Room} {s : State} {m : MethodId} {args : Array Value} {below : List Frame} {meth : Method} {c : Code} {H : Heap} {locs : List Loc} {cells slots : Nat} {Q : State → Prop} {D : va_G} {tyc : FieldType → ClassId} {lsR : Array Slot} {r : Nat → Nat} {A : Nat → Prop}, aCx p s m args meth c y D tyc → aRel D tyc r M A s.heap H locs → (∀ q, s.heap.size ≤ q → A q) → aLoc r ls lsR → ls.length = mL y → aOkL M.1.length ls → aOkL M.1.length st → d + 1 ≤ R.frames → 40 * d ≤ R.locals → cells + (M9.1.length - M.1.length) ≤ R.cells → slots + (aSz M9.1 - aSz M.1) ≤ R.slots → aStr wd tx (r aSTR) A s → (∀ (N : Nat) (xs : Nat → Int32), sc = some (N, xs) → va_X (r aSCR) N xs s s.heap ∧ r aSCR < s.heap.size ∧ ¬ A (r aSCR)) →
    (∀ (r2 : Nat → Nat) (H1 : Heap) (locs1 : List Loc) (pc1 : Nat) (lsR1 : Array Slot), aExt M.1.length r r2 → aRel D tyc r2 M9 A s.heap H1 locs1 → aRetAt y v pc1 → W p l e R s m args below meth c H1 locs1 (cells + (M9.1.length - M.1.length)) (slots + (aSz M9.1 - aSz M.1)) Q (F0 m pc1 lsR1 v.toList)) →
    W p l e R s m args below meth c H locs cells slots Q (F0 m pc lsR (aVs r st))
def aTabOk : Prop := ∀ y : Nat, y < 259 → aLkA y = true ∧ aMok y = true
theorem aEv_shape {wd : List Int32} : ∀ (n : Nat) (sc : Option (Nat × (Nat → Int32))) (d y pc : Nat) (ls st : List Value) (M M9 : aM) (v : Option Value), aEv wd sc n d y pc ls st M = some (v, M9) → v = none ∨ (∃ x : Int32, v = some (.int x)) ∨ ∃ x : Int64, v = some (.long x)
  | 0, _, _, _, _, _, _, _, _, _, h => by cases h
  | n + 1, sc, d, y, pc, ls, st, M, M9, v, h => by
    rw [aEv_succ] at h
    split at h
    · cases h
    · split at h
      · rename_i w hw
        cases h
        rcases aRet_spec hw with ⟨-, -, rfl⟩ | ⟨x, -, -, rfl, -⟩ | ⟨x, -, -, rfl⟩
        · exact Or.inl rfl
        · exact Or.inr (Or.inl ⟨x, rfl⟩)
        · exact Or.inr (Or.inr ⟨x, rfl⟩)
      · split at h
        · split at h
          · cases h
          · split at h
            · exact aEv_shape n sc _ y _ ls _ _ _ _ h
            · cases h
        · split at h
          · exact aEv_shape n sc _ y _ ls _ _ _ _ h
          · split at h
            · exact aEv_shape n sc _ y _ _ _ _ _ _ h
            · cases h
theorem WS_app {l : List Cond} (h : ∀ w ∈ l, w ∈ WS) : GoodIn WS l := fun w hw => WS_good w (h w hw)
def aRm (d mc ms : Nat) : Room := { frames := d + 1, cells := mc, slots := ms, locals := 40 * d }
set_option maxHeartbeats 2000000 in
theorem aMet_of {wd : List Int32} {tx : String} {n d y sz : Nat} {as : List Value} {M M2 : aM} {v : Option Value} (ih : aSimP wd tx n) (l : Launch) (D : va_G) (tyc : FieldType → ClassId) (r : Nat → Nat) (hev : aEv wd none n d y 0 (aEnt0 y as) [] M = some (v, M2)) (hlk : aLkA y = true) (hmok : aMok y = true) (hy : y ≠ 259) (hM : aOkM M) (has : aOkL M.1.length as) (hle : (aEntL as).length ≤ mL y) :
    Met l (mN y) (aWs y) (aRm d (M2.1.length - M.1.length) (aSz M2.1 - aSz M.1)) (va_Pc (aVs r as) (aB wd tx D tyc r M sz)) (aQ D tyc M.1.length r (va_A (aW tyc r M) sz) M2 v) (M2.1.length - M.1.length) (aSz M2.1 - aSz M.1) (va_A (aW tyc r M) sz) := by
  obtain ⟨hpl, -⟩ := aMok_spec hmok hy
  refine Met.ofWF (cc := mB y) (maxL := mL y) (ret := mR y) hpl rfl ?_
  intro p e s m args below meth c s₁ B hml hv
  obtain ⟨rfl, hsz, hP, hK, hD0, hne, hao, hao2, hstr⟩ := hv
  have hx := B.exec
  have hb := B.bytes
  have hr := B.returns
  have hts0 := atoms_spec (ws := aWs y) B.pre
  have hts : ∀ w ∈ WS, w.before (aVs r as).toArray s = true := fun w hw => hts0 w (List.mem_cons_of_mem _ hw)
  have hown : s.vm.findClass (mN y).cls = some m.cls := findClass_of_methodNamed B.named
  have hlocks := B.notSynchronized
  have hnm : meth.name = (mN y).name := (name_of_methodNamed B.named B.method).1
  subst hsz
  have hC : aCx p s m (aVs r as).toArray meth c y D tyc := ⟨hx, hb, hml, hown, hts, hK, hnm, hne, hao, hao2⟩
  have hR : aRel D tyc r M (va_A (aW tyc r M) s.heap.size) s.heap s.heap [] := ⟨hP, hD0.self, va_S.rf, hM⟩
  rw [lg_entry_eq]
  refine ih none d y 0 (aEnt0 y as) [] M M2 v hev hlk hC hR (fun q h => Or.inr h) (aEnt0_loc hle) (aEnt0_len hle) (aOkL_ent0 has) aOkL_nil (Nat.le_refl _) (Nat.le_refl _) (by rw [Nat.zero_add]; exact Nat.le_refl _) (by rw [Nat.zero_add]; exact Nat.le_refl _) hstr (fun N xs h => by cases h) ?_
  intro r2 H1 locs1 pc1 lsR1 he hR2 hat
  rw [Nat.zero_add, Nat.zero_add]
  obtain ⟨hP2, hD2, hS2, hM2⟩ := hR2
  have hE : ∀ t : State, t.heap = H1 → s.WarmedH t.vm → aE D tyc (va_A (aW tyc r M) s.heap.size) M2 r2 t := fun t ht hW => ⟨by rw [ht]; exact hP2, va_K.moved hW.alike hK, hD2⟩
  match v, hat with
  | none, hat => exact W.vret hx hb (hr.trans hat.2) (fun t ht hW => ⟨⟨r2, rfl, he, hE t ht hW⟩, hS2.F ht⟩) hS2.2.2 hat.1
  | some (.int x), hat =>
    obtain ⟨h1, h2, h3⟩ := hat
    rcases h2 with h2 | h2
    · exact W.iret (v := x) hx hb (hr.trans h2) (fun t ht hW => ⟨⟨x, r2, rfl, ⟨rfl, he⟩, hE t ht hW⟩, hS2.F ht⟩) hS2.2.2 h1
    · rw [h2] at h3
      exact W.zret (v := x) hx hb (hr.trans h2) h3 (fun t ht hW => ⟨⟨x, r2, rfl, ⟨rfl, he⟩, hE t ht hW⟩, hS2.F ht⟩) hS2.2.2 h1
  | some (.long x), hat => exact W.lret (v := x) hx hb (hr.trans hat.2) (fun t ht hW => ⟨⟨x, r2, rfl, ⟨rfl, he⟩, hE t ht hW⟩, hS2.F ht⟩) hS2.2.2 hat.1
section AS6
variable {p : Program} {l : Launch} {e : Env} {R : Room} {s : State} {m : MethodId} {args : Array Value} {below : List Frame} {meth : Method} {c : Code} {H : Heap} {locs : List Loc} {cells slots : Nat} {Q : State → Prop} {y pc h len : Nat} {raw : Instr} {D : va_G} {tyc : FieldType → ClassId} {lsR : Array Slot} {st : List Value} {r : Nat → Nat} {M : aM} {A : Nat → Prop} {ls : List Value}
theorem aPc_in {wd : List Int32} {tx : String} {av : List Value} (C : aCx p s m args meth c y D tyc) (hR : aRel D tyc r M A s.heap H locs) (hA : ∀ q, s.heap.size ≤ q → A q) (hstr : aStr wd tx (r aSTR) A s) : ∀ U : State, U.heap = H → s.WarmedH U.vm → va_Pc av (aB wd tx D tyc r M H.size) av.toArray U := by
  intro U hU hW
  obtain ⟨hP, hD, hS, hM⟩ := hR
  have hfree : ∀ q, va_A (aW tyc r M) H.size q → A q := va_free hD hS hA (List.range (aW tyc r M).length) (by
    apply List.ext_getElem?
    intro i
    rw [List.getElem?_map, List.getElem?_map]
    by_cases hi : i < (aW tyc r M).length
    · rw [List.getElem?_range hi, List.getElem?_eq_getElem hi]; simp
    · rw [List.getElem?_eq_none (by simp; omega), List.getElem?_eq_none (by omega)]; rfl)
  refine ⟨rfl, by rw [hU], by rw [hU]; exact hP, va_K.moved hW.alike C.2.2.2.2.2.1, hD.weaken (fun _ _ _ _ => trivial), fun w hw => aNest_w hw hW (C.2.2.2.2.2.2.2.1 w hw), va_AO.moved hW.alike C.2.2.2.2.2.2.2.2.1, va_AOA.moved hW.alike C.2.2.2.2.2.2.2.2.2, ?_⟩
  exact aStr.warm hW (fun q h1 h2 => by rw [hU]; exact hS.2.1 q h1 h2) hfree hstr
theorem aFree (hR : aRel D tyc r M A s.heap H locs) (hA : ∀ q, s.heap.size ≤ q → A q) : ∀ q, va_A (aW tyc r M) H.size q → A q := va_free hR.2.1 hR.2.2.1 hA (List.range (aW tyc r M).length) (by
    apply List.ext_getElem?
    intro i
    rw [List.getElem?_map, List.getElem?_map]
    by_cases hi : i < (aW tyc r M).length
    · rw [List.getElem?_range hi, List.getElem?_eq_getElem hi]; simp
    · rw [List.getElem?_eq_none (by simp; omega), List.getElem?_eq_none (by omega)]; rfl)
set_option maxHeartbeats 2000000 in
/-- a call, as the machine does it -/
theorem aCall_run {wd : List Int32} {tx : String} {d y2 mc ms : Nat} {i : Instr} {as rest : List Value} {Qc : Array Value → State → Outcome → State → Prop} {free : Addr → Prop} (htab : aTabOk) (C : aCx p s m args meth c y D tyc) (hk : aLkR y pc i h raw len = true) (hd : decode (mB y) pc = .ok (raw, len)) (hR : aRel D tyc r M A s.heap H locs) (hA : ∀ q, s.heap.size ≤ q → A q) (hstr : aStr wd tx (r aSTR) A s) (hc : aCal i st M = some (y2, as, rest)) (hsz : lsR.size = mL y) (hfr : d + 2 ≤ R.frames) (hlo : 40 * (d + 1) ≤ R.locals) (hce : cells + mc ≤ R.cells) (hsl : slots + ms ≤ R.slots) (hM : Met l (mN y2) (aWs y2) (aRm d mc ms) (va_Pc (aVs r as) (aB wd tx D tyc r M H.size)) Qc mc ms free) :
    len = 3 ∧ y2 < 259 ∧ ∃ av : Array Value, va_Run p l e R s m args below meth c H locs cells slots mc ms (F0 m pc lsR (aVs r st)) (aVs r rest) (Qc av) free := by
  obtain ⟨hi, hlen, hst, hcat, hrecv, hel⟩ := aCal_spec hc
  have hpc := aPc_in (av := aVs r as) C hR hA hstr
  obtain ⟨hx, hb, hml, hown, hts, hK, hnm, hne, hao, hao2⟩ := C
  have hroom : 2 * (F0 m pc lsR (aVs r st)).monitorRoom + ((aVs r rest).map fun v => v.category).sum ≤ 8 := lv_room (by rw [aVs_cat]; exact hcat)
  have hstk : aVs r st = (aVs r as).reverse ++ aVs r rest := by rw [hst, aVs, aVs, aVs, List.map_append, List.map_reverse]
  have hcells : (aRm d mc ms).frames + 1 ≤ R.frames ∧ 8 + (mL y2 + 11) + (aRm d mc ms).locals ≤ R.locals → True := fun _ => trivial
  rcases hi with rfl | rfl | rfl
  · simp only [aLkR] at hk
    split at hk
    · rename_i k
      simp only [Bool.and_eq_true, decide_eq_true_eq] at hk
      obtain ⟨⟨⟨rfl, hy⟩, hk0⟩, hl⟩ := hk
      obtain ⟨-, w1, w2, w3, w4, w5, w6, -⟩ := aMok_spec (htab y2 hy).2 (by omega)
      obtain ⟨w7, w8, w9, w10⟩ := w6 hk0
      refine ⟨rfl, hy, ?_⟩
      simp only [aRecv, if_pos hk0] at hrecv
      split at hrecv
      · rename_i q as2
        have hq := of_decide_eq_true hrecv
        have hn : as2.length = mP y2 := by
          simp only [aArg, hk0, List.length_cons] at hlen
          simp at hlen
          omega
        refine ⟨_, va_runV (As := aVs r as2) (rest := aVs r rest) (b := r q) (C := (mN y2).cls) ⟨hx, hb, hml, hown, hts⟩ hM (cwV (mP y2) hts (WS_app (fun w hw => ?_)) rfl rfl rfl ⟨rfl, w4.1, w4.2, w3⟩ ⟨hfr, by show 8 + (mL y2 + 11) + 40 * d ≤ R.locals; omega⟩) ⟨aB_blind, ?_, hpc⟩ rfl (by simp [aVs, hn]) hsz (by show aVs r st = _; rw [hstk]; simp [aVs, aV]) hroom hd ⟨hce, hsl⟩⟩
        · rcases List.mem_append.mp hw with h1 | h1
          · simp only [List.mem_cons, List.not_mem_nil, or_false] at h1
            rcases h1 with rfl | rfl | rfl | rfl
            · exact aHit_in hl
            · exact w7
            · exact w8
            · exact w2
          · rcases List.mem_cons.mp h1 with rfl | h1
            · exact w1
            · exact h1
        · have := va_recv (ci := mC y2) (q0 := q) hK hR.1 (aT_cl w9) (aW_get hq)
          rw [w10] at this
          exact this
      · cases hrecv
    · cases hk
  · simp only [aLkR] at hk
    split at hk
    · rename_i k
      simp only [Bool.and_eq_true, decide_eq_true_eq] at hk
      obtain ⟨⟨⟨rfl, hy⟩, hk0⟩, hl⟩ := hk
      obtain ⟨-, w1, w2, w3, w4, w5, -, w6, -⟩ := aMok_spec (htab y2 hy).2 (by omega)
      have w7 := w6 hk0
      refine ⟨rfl, hy, ?_⟩
      have hn : as.length = mP y2 := by
        simp only [aArg, hk0, if_pos] at hlen
        exact hlen
      refine ⟨_, va_runS (As := aVs r as) (rest := aVs r rest) ⟨hx, hb, hml, hown, hts⟩ hM (va_cwS (mP y2) hts (WS_app (fun w hw => ?_)) rfl rfl rfl ⟨w4.1, w4.2, w3⟩ ⟨hfr, by show 8 + (mL y2 + 11) + 40 * d ≤ R.locals; omega⟩) ⟨aB_blind, hpc⟩ rfl (by simp [aVs, hn]) hsz hstk hroom hd ⟨hce, hsl⟩⟩
      rcases List.mem_append.mp hw with h1 | h1
      · simp only [List.mem_cons, List.not_mem_nil, or_false] at h1
        rcases h1 with rfl | rfl | rfl
        · exact aHit_in hl
        · exact w7
        · exact w2
      · rcases List.mem_cons.mp h1 with rfl | h1
        · exact w1
        · exact h1
    · cases hk
  · simp only [aLkR] at hk
    split at hk
    · rename_i k
      simp only [Bool.and_eq_true, decide_eq_true_eq] at hk
      obtain ⟨⟨⟨rfl, hy⟩, hk0⟩, hl⟩ := hk
      obtain ⟨-, w1, w2, w3, w4, w5, -, -, w6, -⟩ := aMok_spec (htab y2 hy).2 (by omega)
      obtain ⟨w7, w8, w9⟩ := w6 hk0
      refine ⟨rfl, hy, ?_⟩
      simp only [aRecv, hk0, if_pos, show ¬ (2 : Nat) = 0 by decide, if_false] at hrecv
      split at hrecv
      · rename_i q as2
        have hn : as2.length = mP y2 := by
          simp only [aArg, hk0, List.length_cons] at hlen
          simp at hlen
          omega
        have hws : aWs y2 = .code (mN y2) (mB y2) (mL y2) none :: WS := by rw [aWs, w9]
        have hwg : GoodIn WS (aWs y2) := WS_app (fun w hw => by
          rcases List.mem_cons.mp hw with rfl | h1
          · exact w1
          · exact h1)
        split at hl
        · rename_i a b n he
          simp only [Bool.and_eq_true, decide_eq_true_eq] at hl
          obtain ⟨⟨rfl, rfl⟩, rfl⟩ := hl
          have hlw : Cond.methodLink (mN y).cls b (mN y2) ∈ WS := List.mem_filter.mpr ⟨aGet_in he, rfl⟩
          exact ⟨_, va_runI (As := aVs r as2) (rest := aVs r rest) (b := r q) ⟨hx, hb, hml, hown, hts⟩ hM (cwI (mP y2) hts hwg hws rfl rfl (hts _ w2) (hts _ hlw) (hts _ w7) w8 ⟨w4.1, w4.2, w3⟩ ⟨hfr, by show 8 + (mL y2 + 11) + 40 * d ≤ R.locals; omega⟩) ⟨aB_blind, hpc⟩ rfl (by simp [aVs, hn]) hsz (by show aVs r st = _; rw [hstk]; simp [aVs, aV]) hroom hd ⟨hce, hsl⟩⟩
        · rename_i a b n o he
          simp only [Bool.and_eq_true, decide_eq_true_eq] at hl
          obtain ⟨⟨⟨rfl, rfl⟩, rfl⟩, rfl⟩ := hl
          have hlw := hne (Cond.methodLinkNest (mN y).cls b (mN y2) "InkLake") (List.mem_filter.mpr ⟨aGet_in he, rfl⟩)
          exact ⟨_, va_runIN (As := aVs r as2) (rest := aVs r rest) (b := r q) ⟨hx, hb, hml, hown, hts⟩ hM ⟨va_cnB (mP y2) hts hwg hws rfl rfl hlw (hts _ w2) ⟨w4.1, w4.2, w3⟩ ⟨hfr, by show 8 + (mL y2 + 11) + 40 * d ≤ R.locals; omega⟩, w8, hts _ w7⟩ ⟨aB_blind, hpc⟩ rfl (by simp [aVs, hn]) hsz (by show aVs r st = _; rw [hstk]; simp [aVs, aV]) hroom hd ⟨hce, hsl⟩⟩
        · cases hl
      · cases hrecv
    · cases hk
end AS6

set_option maxHeartbeats 2000000 in
theorem aSim {wd : List Int32} {tx : String} (hb8 : ∀ b ∈ wd, 0 ≤ b ∧ b < 128) (hwl : wd.length < 2 ^ 31) (htab : aTabOk) : ∀ n : Nat, aSimP wd tx n := by
  intro n
  induction n with
  | zero => intro sc d y pc ls st M M9 v hev; cases hev
  | succ n ih =>
    intro sc d y pc ls st M M9 v hev hlk p l e R s m args below meth c H locs cells slots Q D tyc lsR r A C hR hA hloc hlen hol hos hfr hlo hce hsl hstr hsc hret
    have hok9 := aEv_ok (n + 1) sc d y pc ls st M M9 v hev hR.2.2.2 hol hos
    rw [aEv_succ] at hev
    split at hev
    · cases hev
    · rename_i i nx hcod
      obtain ⟨hh, len, raw, hd, rfl, hk⟩ := aCod_lk hlk hcod
      split at hev
      · rename_i w hw
        cases hev
        obtain ⟨h1, h2⟩ := aRet_at hk hd hw
        rw [h2 r]
        have := hret r H locs pc lsR (fun _ _ => rfl) hR h1
        simp only [Nat.sub_self, Nat.add_zero] at this
        exact this
      · split at hev
        · rename_i y2 as rest hc
          split at hev
          · cases hev
          · rename_i d2
            split at hev
            · rename_i w M2 he1
              obtain ⟨hi, hlas, hst, hcat, hrecv, hel⟩ := aCal_spec hc
              have hos2 := hos
              rw [hst, aOkL_app] at hos2
              have hoas : aOkL M.1.length as := by
                have := aOkL_rev hos2.1
                rwa [List.reverse_reverse] at this
              have hk1 := aEv_ok n none d2 y2 0 _ _ _ _ _ he1 hR.2.2.2 (aOkL_ent0 hoas) aOkL_nil
              have hk2 := aEv_ok n sc _ y _ ls _ _ _ _ hev hk1.2.2.1 (aOkL_mono hol hk1.1) (aOkL_app.mpr ⟨hk1.2.2.2 _, aOkL_mono hos2.2 hk1.1⟩)
              have hl1 := hk1.1
              have hl2 := hk2.1
              have hz1 := hk1.2.1
              have hz2 := hk2.2.1
              have hy2 : y2 < 259 := by
                rcases hi with rfl | rfl | rfl <;>
                · simp only [aLkR] at hk
                  split at hk
                  · simp only [Bool.and_eq_true, decide_eq_true_eq] at hk
                    exact hk.1.1.2
                  · cases hk
              have hMet := aMet_of (sz := H.size) ih l D tyc r he1 (htab y2 hy2).1 (htab y2 hy2).2 (by omega) hR.2.2.2 hoas hel
              obtain ⟨rfl, -, av, hrun⟩ := aCall_run (d := d2) (lsR := lsR) (e := e) (below := below) (cells := cells) (slots := slots) htab C hk hd hR hA hstr hc (hloc.1.trans hlen) hfr hlo (by omega) (by omega) hMet
              have hfree := aFree hR hA
              have go : ∀ (u : Nat → Nat) (t : State) (H1 : Heap) (locs1 : List Loc), t.heap = H1 → aExt M.1.length r u → aE D tyc (va_A (aW tyc r M) H.size) M2 u t → va_S A s.heap H1 locs1 → W p l e R s m args below meth c H1 locs1 (cells + (M2.1.length - M.1.length)) (slots + (aSz M2.1 - aSz M.1)) Q (F0 m (pc + 3) lsR (aVs u (w.toList ++ rest))) := by
                intro u t H1 locs1 ht hext hE hS1
                have hR1 : aRel D tyc u M2 A s.heap H1 locs1 := ⟨by rw [← ht]; exact hE.1, hE.2.2.weaken (fun k q _ h => hfree q.1 h), hS1, hk1.2.2.1⟩
                have hs1 : u aSTR = r aSTR := hext _ (Or.inr (Or.inl rfl))
                have hs2 : u aSCR = r aSCR := hext _ (Or.inr (Or.inr rfl))
                refine ih sc (d2 + 1) y (pc + 3) ls (w.toList ++ rest) M2 M9 v hev hlk C hR1 hA (aLoc_ext hext hol hloc) hlen (aOkL_mono hol hl1) (aOkL_app.mpr ⟨hk1.2.2.2 _, aOkL_mono hos2.2 hl1⟩) hfr hlo (by omega) (by omega) (by rw [hs1]; exact hstr) (by rw [hs2]; exact hsc) ?_
                intro r2 H2 locs2 pc1 lsR1 hext2 hR2 hat
                have e1 : cells + (M2.1.length - M.1.length) + (M9.1.length - M2.1.length) = cells + (M9.1.length - M.1.length) := by omega
                have e2 : slots + (aSz M2.1 - aSz M.1) + (aSz M9.1 - aSz M2.1) = slots + (aSz M9.1 - aSz M.1) := by omega
                rw [e1, e2]
                exact hret r2 H2 locs2 pc1 lsR1 (fun a ha => (hext2 a (ha.imp (fun z => Nat.lt_of_lt_of_le z hl1) id)).trans (hext a ha)) hR2 hat
              have hrs : ∀ u : Nat → Nat, aExt M.1.length r u → aVs u rest = aVs r rest := fun u hu => aVs_ext hu hos2.2
              rcases aEv_shape _ _ _ _ _ _ _ _ _ _ he1 with rfl | ⟨x, rfl⟩ | ⟨x, rfl⟩
              ·
                refine va_callv (a := av) hrun hR.2.2.1 (fun q _ h => hfree q h) hfree (fun u t H1 locs1 ht hvm hw hB hz hkk hS1 => ?_)
                have := go u t H1 locs1 ht hw hB hS1
                rw [show aVs u ((none : Option Value).toList ++ rest) = aVs u rest from rfl, hrs u hw] at this
                exact this
              ·
                refine va_calli (a := av) hrun hR.2.2.1 (fun q _ h => hfree q h) hfree (fun z u t H1 locs1 ht hvm hw hB hz hkk hS1 => ?_)
                have := go u t H1 locs1 ht hw.2 hB hS1
                rw [show aVs u ((some (.int x) : Option Value).toList ++ rest) = .int x :: aVs u rest from rfl, hrs u hw.2] at this
                rw [hw.1]
                exact this
              ·
                refine va_calll (a := av) hrun hR.2.2.1 (fun q _ h => hfree q h) hfree (fun z u t H1 locs1 ht hvm hw hB hz hkk hS1 => ?_)
                have := go u t H1 locs1 ht hw.2 hB hS1
                rw [show aVs u ((some (.long x) : Option Value).toList ++ rest) = .long x :: aVs u rest from rfl, hrs u hw.2] at this
                rw [hw.1]
                exact this
            · cases hev
        · split at hev
          · rename_i st2 pc2 hb
            refine aBr_W C hk hd hb ?_
            exact ih sc d y pc2 ls st2 M M9 v hev hlk C hR hA hloc hlen hol (aBr_ok hb hos) hfr hlo hce hsl hstr hsc hret
          · split at hev
            · rename_i ls2 st2 M2 hst
              obtain ⟨k1, k2, k3, k4, k5, k6⟩ := aSt_ok hst hR.2.2.2 hol hos
              have hk2 := aEv_ok n sc d y _ ls2 _ _ _ _ hev k4 k5 k6
              have hl2 := hk2.1
              have hz2 := hk2.2.1
              refine aSt_W hb8 hwl C hk hd hst hR hA hloc hlen hol hos hfr hlo (by omega) (by omega) hstr hsc ?_
              intro r2 H1 locs1 lsR2 hext hR1 hloc1
              have hs1 : r2 aSTR = r aSTR := hext _ (Or.inr (Or.inl rfl))
              have hs2 : r2 aSCR = r aSCR := hext _ (Or.inr (Or.inr rfl))
              refine ih sc d y (pc + len) ls2 st2 M2 M9 v hev hlk C hR1 hA hloc1 (k3.trans hlen) k5 k6 hfr hlo (by omega) (by omega) (by rw [hs1]; exact hstr) (by rw [hs2]; exact hsc) ?_
              intro r3 H2 locs2 pc1 lsR1 hext2 hR2 hat
              have e1 : cells + (M2.1.length - M.1.length) + (M9.1.length - M2.1.length) = cells + (M9.1.length - M.1.length) := by omega
              have e2 : slots + (aSz M2.1 - aSz M.1) + (aSz M9.1 - aSz M2.1) = slots + (aSz M9.1 - aSz M.1) := by omega
              rw [e1, e2]
              exact hret r3 H2 locs2 pc1 lsR1 (fun a ha => (hext2 a (ha.imp (fun z => Nat.lt_of_lt_of_le z k1) id)).trans (hext a ha)) hR2 hat
            · cases hev
