/-! STRING.LENGTH AND STRING.CHARAT on the constant WORDS: the JDK's own bytecode, by contracts that leave the heap as it is (str.py) -/
theorem Met.ofWF {l : Launch} {y : MethodName} {ws ws' : List Cond} {rm : Room} {Pc : Array Value → State → Prop} {Qc : Array Value → State → Outcome → State → Prop} {mc ms : Nat} {free : Addr → Prop} {cc : ByteArray} {maxL : Nat} {ret : Option FieldType}
    (hy : plainFor y = true) (hw : ws = Cond.code y cc maxL ret :: ws')
    (body : ∀ p e s m args below meth c s₁, BodyLoose p l y (headSpec ws rm) cc maxL ret e s m args below meth c s₁ → c.maxLocals = maxL → Pc args s →
      W p l e (headSpec ws rm).room s m args below meth c s.heap [] 0 0 (MQ below Qc args s mc ms free) (entryFrame m args maxL)) : Met l y ws rm Pc Qc mc ms free := by
  refine MetFree.of_bodySF (code := cc) (maxLocals := maxL) (ret := ret) hy ?_ ?_
  · intro args s m h hn
    obtain ⟨meth, c, h1, h2, h3, h4, h5, h6, -, -⟩ := Cond.code_spec hn (atoms_spec (ws := ws) h _ (by rw [hw]; exact List.mem_cons_self))
    exact ⟨meth, c, h1, h2, h3, h4, h5, h6⟩
  · intro p e s m args below meth c s₁ B hml hP _
    have hh0 : s₁.heap = s.heap := by rw [B.state]; rfl
    obtain ⟨t, a1, o, b1, b2, b3⟩ := body p e s m args below meth c s₁ B hml hP s₁ hh0 (Stand.of_body B)
    exact ⟨t, o, a1, b1, b2, ⟨b3.1, b3.2⟩⟩
theorem tG_app {l : List Cond} {y : MethodName} {b : ByteArray} {n : Nat} {r : Option FieldType} (hc : Cond.code y b n r ∈ WS) (h : ∀ w ∈ l, w ∈ WS) : GoodIn WS (l ++ (Cond.code y b n r :: WS)) := fun w hw => by
  have k : w ∈ WS := by
    rcases List.mem_append.mp hw with h1 | h1
    · exact h w h1
    · rcases List.mem_cons.mp h1 with rfl | h1
      · exact hc
      · exact h1
  exact ⟨k, good_of_word (List.mem_filter.mp k).2⟩
theorem tQ4 {P : Cond → Prop} {a b c d : Cond} (h1 : P a) (h2 : P b) (h3 : P c) (h4 : P d) : ∀ w ∈ [a, b, c, d], P w := fun w hw => by
  simp only [List.mem_cons, List.not_mem_nil, or_false] at hw
  rcases hw with rfl | rfl | rfl | rfl
  · exact h1
  · exact h2
  · exact h3
  · exact h4
theorem tQ3 {P : Cond → Prop} {a b c : Cond} (h1 : P a) (h2 : P b) (h3 : P c) : ∀ w ∈ [a, b, c], P w := fun w hw => by
  simp only [List.mem_cons, List.not_mem_nil, or_false] at hw
  rcases hw with rfl | rfl | rfl
  · exact h1
  · exact h2
  · exact h3
theorem wJin : Cond.initialized RJ0 ∈ WS := aHit_in (h := 1011) (by decide +kernel)
theorem wJin1 : Cond.initialized RJ1 ∈ WS := aHit_in (h := 1012) (by decide +kernel)
theorem wJin3 : Cond.initialized RJ3 ∈ WS := aHit_in (h := 1013) (by decide +kernel)
theorem wJle_i : Cond.instanceMethod yJ0_length_8abf5 ∈ WS := aHit_in (h := 2195) (by decide +kernel)
theorem wJle_s : Cond.selects RJ0 yJ0_length_8abf5 yJ0_length_8abf5 ∈ WS := aHit_in (h := 2196) (by decide +kernel)
theorem wJle_c : Cond.code yJ0_length_8abf5 cJ0_length_8abf5 1 (some .int) ∈ WS := aHit_in (h := 2197) (by decide +kernel)
theorem wJco_l : Cond.methodLink RJ0 335 yJ0_coder_7d493 ∈ WS := aHit_in (h := 2198) (by decide +kernel)
theorem wJco_i : Cond.instanceMethod yJ0_coder_7d493 ∈ WS := aHit_in (h := 2199) (by decide +kernel)
theorem wJco_s : Cond.selects RJ0 yJ0_coder_7d493 yJ0_coder_7d493 ∈ WS := aHit_in (h := 2200) (by decide +kernel)
theorem wJco_c : Cond.code yJ0_coder_7d493 cJ0_coder_7d493 1 (some .byte) ∈ WS := aHit_in (h := 2201) (by decide +kernel)
theorem wJcs : Cond.fieldLink RJ0 38 "java/lang/String" "COMPACT_STRINGS" "Z" ∈ WS := aHit_in (h := 2202) (by decide +kernel)
theorem wJch_i : Cond.instanceMethod yJ0_charAt_5068e ∈ WS := aHit_in (h := 2205) (by decide +kernel)
theorem wJch_s : Cond.selects RJ0 yJ0_charAt_5068e yJ0_charAt_5068e ∈ WS := aHit_in (h := 2206) (by decide +kernel)
theorem wJch_c : Cond.code yJ0_charAt_5068e cJ0_charAt_5068e 2 (some .char) ∈ WS := aHit_in (h := 2207) (by decide +kernel)
theorem wJla_l : Cond.methodLink RJ0 492 yJ0_isLatin1_aae02 ∈ WS := aHit_in (h := 2208) (by decide +kernel)
theorem wJla_i : Cond.instanceMethod yJ0_isLatin1_aae02 ∈ WS := aHit_in (h := 2209) (by decide +kernel)
theorem wJla_s : Cond.selects RJ0 yJ0_isLatin1_aae02 yJ0_isLatin1_aae02 ∈ WS := aHit_in (h := 2210) (by decide +kernel)
theorem wJla_c : Cond.code yJ0_isLatin1_aae02 cJ0_isLatin1_aae02 1 (some .boolean) ∈ WS := aHit_in (h := 2211) (by decide +kernel)
theorem wJl1_l : Cond.methodLink RJ0 495 yJ1_charAt_3b067 ∈ WS := aHit_in (h := 2212) (by decide +kernel)
theorem wJl1_s : Cond.static yJ1_charAt_3b067 ∈ WS := aHit_in (h := 2213) (by decide +kernel)
theorem wJl1_c : Cond.code yJ1_charAt_3b067 cJ1_charAt_3b067 2 (some .char) ∈ WS := aHit_in (h := 2214) (by decide +kernel)
theorem wJci_l : Cond.methodLink RJ1 9 yJ0_checkIndex_df160 ∈ WS := aHit_in (h := 2215) (by decide +kernel)
theorem wJci_s : Cond.static yJ0_checkIndex_df160 ∈ WS := aHit_in (h := 2216) (by decide +kernel)
theorem wJci_c : Cond.code yJ0_checkIndex_df160 cJ0_checkIndex_df160 2 none ∈ WS := aHit_in (h := 2217) (by decide +kernel)
theorem wJfo : Cond.fieldLink RJ0 1053 "jdk/internal/util/Preconditions" "SIOOBE_FORMATTER" "Ljava/util/function/BiFunction;" ∈ WS := aHit_in (h := 2218) (by decide +kernel)
theorem wJpr_l : Cond.methodLink RJ0 1059 yJ3_checkIndex_8e157 ∈ WS := aHit_in (h := 2220) (by decide +kernel)
theorem wJpr_s : Cond.static yJ3_checkIndex_8e157 ∈ WS := aHit_in (h := 2221) (by decide +kernel)
theorem wJpr_c : Cond.code yJ3_checkIndex_8e157 cJ3_checkIndex_8e157 3 (some .int) ∈ WS := aHit_in (h := 2222) (by decide +kernel)
theorem wJfv : Cond.fieldLink RJ0 9 "java/lang/String" "value" "[B" ∈ WS := aHit_in (h := 8116) (by decide +kernel)
theorem wJfc : Cond.fieldLink RJ0 15 "java/lang/String" "coder" "B" ∈ WS := aHit_in (h := 8117) (by decide +kernel)
theorem dJpr_0 : decode cJ3_checkIndex_8e157 0 = .ok (.iload_n 0, 1) := by decide +kernel
theorem dJpr_1 : decode cJ3_checkIndex_8e157 1 = .ok (.ifCond .lt 8, 3) := by decide +kernel
theorem dJpr_4 : decode cJ3_checkIndex_8e157 4 = .ok (.iload_n 0, 1) := by decide +kernel
theorem dJpr_5 : decode cJ3_checkIndex_8e157 5 = .ok (.iload_n 1, 1) := by decide +kernel
theorem dJpr_6 : decode cJ3_checkIndex_8e157 6 = .ok (.if_icmp .lt 10, 3) := by decide +kernel
theorem dJpr_16 : decode cJ3_checkIndex_8e157 16 = .ok (.iload_n 0, 1) := by decide +kernel
theorem dJpr_17 : decode cJ3_checkIndex_8e157 17 = .ok (.ireturn, 1) := by decide +kernel
theorem dJci_0 : decode cJ0_checkIndex_df160 0 = .ok (.iload_n 0, 1) := by decide +kernel
theorem dJci_1 : decode cJ0_checkIndex_df160 1 = .ok (.iload_n 1, 1) := by decide +kernel
theorem dJci_2 : decode cJ0_checkIndex_df160 2 = .ok (.getstatic 1053, 3) := by decide +kernel
theorem dJci_5 : decode cJ0_checkIndex_df160 5 = .ok (.invokestatic 1059, 3) := by decide +kernel
theorem dJci_8 : decode cJ0_checkIndex_df160 8 = .ok (.pop, 1) := by decide +kernel
theorem dJci_9 : decode cJ0_checkIndex_df160 9 = .ok (.return_, 1) := by decide +kernel
theorem dJl1_0 : decode cJ1_charAt_3b067 0 = .ok (.iload_n 1, 1) := by decide +kernel
theorem dJl1_1 : decode cJ1_charAt_3b067 1 = .ok (.aload_n 0, 1) := by decide +kernel
theorem dJl1_2 : decode cJ1_charAt_3b067 2 = .ok (.arraylength, 1) := by decide +kernel
theorem dJl1_3 : decode cJ1_charAt_3b067 3 = .ok (.invokestatic 9, 3) := by decide +kernel
theorem dJl1_6 : decode cJ1_charAt_3b067 6 = .ok (.aload_n 0, 1) := by decide +kernel
theorem dJl1_7 : decode cJ1_charAt_3b067 7 = .ok (.iload_n 1, 1) := by decide +kernel
theorem dJl1_8 : decode cJ1_charAt_3b067 8 = .ok (.baload, 1) := by decide +kernel
theorem dJl1_9 : decode cJ1_charAt_3b067 9 = .ok (.sipush 255, 3) := by decide +kernel
theorem dJl1_12 : decode cJ1_charAt_3b067 12 = .ok (.iand, 1) := by decide +kernel
theorem dJl1_13 : decode cJ1_charAt_3b067 13 = .ok (.i2c, 1) := by decide +kernel
theorem dJl1_14 : decode cJ1_charAt_3b067 14 = .ok (.ireturn, 1) := by decide +kernel
theorem dJco_0 : decode cJ0_coder_7d493 0 = .ok (.getstatic 38, 3) := by decide +kernel
theorem dJco_3 : decode cJ0_coder_7d493 3 = .ok (.ifCond .eq 10, 3) := by decide +kernel
theorem dJco_6 : decode cJ0_coder_7d493 6 = .ok (.aload_n 0, 1) := by decide +kernel
theorem dJco_7 : decode cJ0_coder_7d493 7 = .ok (.getfield 15, 3) := by decide +kernel
theorem dJco_10 : decode cJ0_coder_7d493 10 = .ok (.goto 4, 3) := by decide +kernel
theorem dJco_14 : decode cJ0_coder_7d493 14 = .ok (.ireturn, 1) := by decide +kernel
theorem dJla_0 : decode cJ0_isLatin1_aae02 0 = .ok (.getstatic 38, 3) := by decide +kernel
theorem dJla_3 : decode cJ0_isLatin1_aae02 3 = .ok (.ifCond .eq 14, 3) := by decide +kernel
theorem dJla_6 : decode cJ0_isLatin1_aae02 6 = .ok (.aload_n 0, 1) := by decide +kernel
theorem dJla_7 : decode cJ0_isLatin1_aae02 7 = .ok (.getfield 15, 3) := by decide +kernel
theorem dJla_10 : decode cJ0_isLatin1_aae02 10 = .ok (.ifCond .ne 7, 3) := by decide +kernel
theorem dJla_13 : decode cJ0_isLatin1_aae02 13 = .ok (.iconst 1, 1) := by decide +kernel
theorem dJla_14 : decode cJ0_isLatin1_aae02 14 = .ok (.goto 4, 3) := by decide +kernel
theorem dJla_18 : decode cJ0_isLatin1_aae02 18 = .ok (.ireturn, 1) := by decide +kernel
theorem dJle_0 : decode cJ0_length_8abf5 0 = .ok (.aload_n 0, 1) := by decide +kernel
theorem dJle_1 : decode cJ0_length_8abf5 1 = .ok (.getfield 9, 3) := by decide +kernel
theorem dJle_4 : decode cJ0_length_8abf5 4 = .ok (.arraylength, 1) := by decide +kernel
theorem dJle_5 : decode cJ0_length_8abf5 5 = .ok (.aload_n 0, 1) := by decide +kernel
theorem dJle_6 : decode cJ0_length_8abf5 6 = .ok (.invokevirtual 335, 3) := by decide +kernel
theorem dJle_9 : decode cJ0_length_8abf5 9 = .ok (.ishr, 1) := by decide +kernel
theorem dJle_10 : decode cJ0_length_8abf5 10 = .ok (.ireturn, 1) := by decide +kernel
theorem dJch_0 : decode cJ0_charAt_5068e 0 = .ok (.aload_n 0, 1) := by decide +kernel
theorem dJch_1 : decode cJ0_charAt_5068e 1 = .ok (.invokevirtual 492, 3) := by decide +kernel
theorem dJch_4 : decode cJ0_charAt_5068e 4 = .ok (.ifCond .eq 12, 3) := by decide +kernel
theorem dJch_7 : decode cJ0_charAt_5068e 7 = .ok (.aload_n 0, 1) := by decide +kernel
theorem dJch_8 : decode cJ0_charAt_5068e 8 = .ok (.getfield 9, 3) := by decide +kernel
theorem dJch_11 : decode cJ0_charAt_5068e 11 = .ok (.iload_n 1, 1) := by decide +kernel
theorem dJch_12 : decode cJ0_charAt_5068e 12 = .ok (.invokestatic 495, 3) := by decide +kernel
theorem dJch_15 : decode cJ0_charAt_5068e 15 = .ok (.ireturn, 1) := by decide +kernel
/-- the String at a, its bytes at v, and the statics that its members read -/
def tS (wd : List Int32) (a v : Nat) (U : State) : Prop := va_O "java/lang/String" a (fun _ => False) U U.heap ∧ va_OF "java/lang/String" "coder" "B" (.int 0) a (fun _ => False) U U.heap ∧ va_OF "java/lang/String" "value" "[B" (.ref v) a (fun _ => False) U U.heap ∧ va_T .byte v wd.length (fun j => .int (wd.getD j 0)) (fun _ => False) U U.heap ∧ va_Z "java/lang/String" "COMPACT_STRINGS" "Z" (.int 1) (fun _ => False) U U.heap ∧ va_Zq "jdk/internal/util/Preconditions" "SIOOBE_FORMATTER" "Ljava/util/function/BiFunction;" (fun _ => False) U U.heap
theorem tS.moved {wd : List Int32} {a v : Nat} {u U : State} (hv : u.vm.Alike U.vm) (hh : U.heap = u.heap) (h : tS wd a v u) : tS wd a v U := by
  obtain ⟨h1, h2, h3, h4, h5, h6⟩ := h
  unfold tS
  rw [hh]
  exact ⟨va_O.moved hv h1, va_OF.moved hv h2, va_OF.moved hv h3, va_T.moved hv h4, va_Z.moved hv h5, va_Zq.moved hv h6⟩
theorem tS.blind {wd : List Int32} {a v : Nat} {l : List Value} : FrameBlind (va_Pc l (tS wd a v)) := by
  intro z U g mk q
  exact ⟨q.1, tS.moved (u := U) (U := U.calling g mk z) (Vm.Alike.refl U.vm) rfl q.2⟩
theorem tS.recv {wd : List Int32} {a v : Nat} {U : State} (h : tS wd a v U) : ∃ cell : Cell, U.heap[a]? = some cell ∧ cell.vm.isStatics = false ∧ U.vm.findClass RJ0 = some cell.cls := by
  obtain ⟨⟨cell, h1, h2, h3, -⟩, -⟩ := h
  exact ⟨cell, h1, h2, h3⟩
/-- the statics alone -/
def tF (U : State) : Prop := va_Zq "jdk/internal/util/Preconditions" "SIOOBE_FORMATTER" "Ljava/util/function/BiFunction;" (fun _ => False) U U.heap
theorem tF.moved {u U : State} (hv : u.vm.Alike U.vm) (hh : U.heap = u.heap) (h : tF u) : tF U := by
  unfold tF
  rw [hh]
  exact va_Zq.moved hv h
theorem tF.blind {l : List Value} : FrameBlind (va_Pc l tF) := by
  intro z U g mk q
  exact ⟨q.1, tF.moved (u := U) (U := U.calling g mk z) (Vm.Alike.refl U.vm) rfl q.2⟩
def tT (wd : List Int32) (v : Nat) (U : State) : Prop := va_T .byte v wd.length (fun j => .int (wd.getD j 0)) (fun _ => False) U U.heap ∧ tF U
theorem tT.moved {wd : List Int32} {v : Nat} {u U : State} (hv : u.vm.Alike U.vm) (hh : U.heap = u.heap) (h : tT wd v u) : tT wd v U := by
  refine ⟨?_, tF.moved hv hh h.2⟩
  rw [hh]
  exact va_T.moved hv h.1
theorem tT.blind {wd : List Int32} {v : Nat} {l : List Value} : FrameBlind (va_Pc l (tT wd v)) := by
  intro z U g mk q
  exact ⟨q.1, tT.moved (u := U) (U := U.calling g mk z) (Vm.Alike.refl U.vm) rfl q.2⟩
def tQv : Array Value → State → Outcome → State → Prop := fun _ st o t => o = .returned none ∧ t.heap = st.heap
section AS4T
variable {p : Program} {l : Launch} {e : Env} {R : Room} {s : State} {m : MethodId} {args : Array Value} {below : List Frame} {meth : Method} {c : Code} {H : Heap} {locs : List Loc} {cells slots : Nat} {Q : State → Prop} {y pc h len : Nat} {raw : Instr} {D : va_G} {tyc : FieldType → ClassId} {lsR : Array Slot} {st : List Value} {r : Nat → Nat} {M : aM} {A : Nat → Prop} {ls : List Value} {q d : Nat}
theorem t_callV {pc2 : Nat} {st0 rest : List Value} {a : Array Value} (hr : CallRun p l e R s m args below meth c H locs cells slots 0 0 (F0 m pc lsR st0) rest (tQv a) (fun _ => False)) (h2 : pc2 = pc + 3) (kk : W p l e R s m args below meth c H locs cells slots Q (F0 m pc2 lsR rest)) : W p l e R s m args below meth c H locs cells slots Q (F0 m pc lsR st0) := by
  subst h2
  intro T hT X
  obtain ⟨v, st₀, t, T', L, h0, X', hL, e1, ⟨hv, hh⟩, st⟩ := hr T hT X
  cases hv
  obtain ⟨t2, a1, b1⟩ := kk T' (by rw [e1, hh, h0]) (Stand.forget X' (fun q h => (hL q h).elim))
  exact ⟨t2, st t2 a1, b1⟩
theorem t_callI {pc2 : Nat} {st0 rest : List Value} {a : Array Value} {v0 : Int32} (hr : CallRun p l e R s m args below meth c H locs cells slots 0 0 (F0 m pc lsR st0) rest (QcRead v0 a) (fun _ => False)) (h2 : pc2 = pc + 3) (kk : W p l e R s m args below meth c H locs cells slots Q (F0 m pc2 lsR (.int v0 :: rest))) : W p l e R s m args below meth c H locs cells slots Q (F0 m pc lsR st0) := by
  subst h2
  exact W.callR hr kk
end AS4T
set_option maxHeartbeats 2000000 in
theorem tM_pre (l : Launch) {i n : Int32} {v : Value} (hv0 : v = .null ∨ ∃ t : Nat, v = .ref t) (h0 : ¬ i < 0) (h1 : i < n) : Met l yJ3_checkIndex_8e157 (Cond.code yJ3_checkIndex_8e157 cJ3_checkIndex_8e157 3 (some .int) :: WS) { frames := 0, cells := 0, slots := 0, locals := 0 } (va_Pc [.int i, .int n, v] (fun _ => True)) (QcRead i) 0 0 (fun _ => False) := by
  refine Met.ofWF (cc := cJ3_checkIndex_8e157) (maxL := 3) (ret := (some .int)) (by decide +kernel) rfl ?_
  intro p e s m args below meth c s₁ B hml hv
  obtain ⟨rfl, hw⟩ := hv
  have hx := B.exec
  have hb := B.bytes
  have hr := B.returns
  have hts0 := atoms_spec (ws := Cond.code yJ3_checkIndex_8e157 cJ3_checkIndex_8e157 3 (some .int) :: WS) B.pre
  have hts : ∀ w ∈ WS, w.before _ s = true := fun w hw => hts0 w (List.mem_cons_of_mem _ hw)
  have hown : s.vm.findClass RJ3 = some m.cls := findClass_of_methodNamed B.named
  have hlocks := B.notSynchronized
  have hS : va_S (fun _ => False) s.heap s.heap [] := va_S.rf
  rcases hv0 with rfl | ⟨t0, rfl⟩
  · have hl := lv_entry ([.int i, .int n, .null]) (n := 3) (Nat.le_of_ble_eq_true rfl)
    rw [lg_entry_eq]
    generalize (lg_sl ([.int i, .int n, .null]) ++ List.replicate (3 - (lg_sl ([.int i, .int n, .null])).length) Slot.unset).toArray = ls at hl ⊢
    have hl : lv_has ls 3 [(0, .int i), (1, .int n), (2, .null)] := hl
    refine lv_iload_n hx hb dJpr_0 rfl (lv_at hl 0 rfl) ?_
    refine lv_if_lt (tgt := 9) hx hb dJpr_1 rfl (fun z => absurd z h0) (fun _ => ?_)
    refine lv_iload_n hx hb dJpr_4 rfl (lv_at hl 0 rfl) ?_
    refine lv_iload_n hx hb dJpr_5 rfl (lv_at hl 1 rfl) ?_
    refine lv_icmp_lt (tgt := 16) hx hb dJpr_6 rfl (fun _ => ?_) (fun z => absurd h1 z)
    refine lv_iload_n hx hb dJpr_16 rfl (lv_at hl 0 rfl) ?_
    exact W.iret (v := i) hx hb hr (fun t ht hW => ⟨rfl, ht⟩) (fun q h => by cases h) dJpr_17
  · have hl := lv_entry ([.int i, .int n, .ref t0]) (n := 3) (Nat.le_of_ble_eq_true rfl)
    rw [lg_entry_eq]
    generalize (lg_sl ([.int i, .int n, .ref t0]) ++ List.replicate (3 - (lg_sl ([.int i, .int n, .ref t0])).length) Slot.unset).toArray = ls at hl ⊢
    have hl : lv_has ls 3 [(0, .int i), (1, .int n), (2, .ref t0)] := hl
    refine lv_iload_n hx hb dJpr_0 rfl (lv_at hl 0 rfl) ?_
    refine lv_if_lt (tgt := 9) hx hb dJpr_1 rfl (fun z => absurd z h0) (fun _ => ?_)
    refine lv_iload_n hx hb dJpr_4 rfl (lv_at hl 0 rfl) ?_
    refine lv_iload_n hx hb dJpr_5 rfl (lv_at hl 1 rfl) ?_
    refine lv_icmp_lt (tgt := 16) hx hb dJpr_6 rfl (fun _ => ?_) (fun z => absurd h1 z)
    refine lv_iload_n hx hb dJpr_16 rfl (lv_at hl 0 rfl) ?_
    exact W.iret (v := i) hx hb hr (fun t ht hW => ⟨rfl, ht⟩) (fun q h => by cases h) dJpr_17
set_option maxHeartbeats 2000000 in
theorem tM_chk (l : Launch) {i n : Int32} (h0 : ¬ i < 0) (h1 : i < n) : Met l yJ0_checkIndex_df160 (Cond.code yJ0_checkIndex_df160 cJ0_checkIndex_df160 2 none :: WS) { frames := 1, cells := 0, slots := 0, locals := 22 } (va_Pc [.int i, .int n] (tF)) (tQv) 0 0 (fun _ => False) := by
  refine Met.ofWF (cc := cJ0_checkIndex_df160) (maxL := 2) (ret := none) (by decide +kernel) rfl ?_
  intro p e s m args below meth c s₁ B hml hv
  obtain ⟨rfl, hw⟩ := hv
  have hx := B.exec
  have hb := B.bytes
  have hr := B.returns
  have hts0 := atoms_spec (ws := Cond.code yJ0_checkIndex_df160 cJ0_checkIndex_df160 2 none :: WS) B.pre
  have hts : ∀ w ∈ WS, w.before _ s = true := fun w hw => hts0 w (List.mem_cons_of_mem _ hw)
  have hown : s.vm.findClass RJ0 = some m.cls := findClass_of_methodNamed B.named
  have hlocks := B.notSynchronized
  have hS : va_S (fun _ => False) s.heap s.heap [] := va_S.rf
  have hl := lv_entry ([.int i, .int n]) (n := 2) (Nat.le_of_ble_eq_true rfl)
  rw [lg_entry_eq]
  generalize (lg_sl ([.int i, .int n]) ++ List.replicate (2 - (lg_sl ([.int i, .int n])).length) Slot.unset).toArray = ls at hl ⊢
  have hl : lv_has ls 2 [(0, .int i), (1, .int n)] := hl
  refine lv_iload_n hx hb dJci_0 rfl (lv_at hl 0 rfl) ?_
  refine lv_iload_n hx hb dJci_1 rfl (lv_at hl 1 rfl) ?_
  rcases hw with hZ | ⟨t0, hZ⟩
  · refine va_gets hx hb hZ hS hown (hts _ wJfo) (fun x hx => hx) dJci_2 ?_
    refine t_callI (pc2 := 8) (W.runS (As := [.int i, .int n, .null]) (rest := []) ⟨hx, hb, hml, hown, hts⟩ (tM_pre l (v := .null) (Or.inl rfl) h0 h1) (va_cwS 3 hts (tG_app wJpr_c (tQ3 wJpr_l wJpr_s wJin3)) rfl rfl rfl (by decide +kernel) ⟨(Nat.le_of_ble_eq_true rfl), (Nat.le_of_ble_eq_true rfl)⟩) ⟨fun a U g mk q => q, fun U hU hW => ⟨rfl, trivial⟩⟩ rfl rfl hl.1 rfl (lv_room (Nat.le_of_ble_eq_true rfl)) dJci_5 ⟨Nat.zero_le _, Nat.zero_le _⟩) rfl ?_
    refine lv_pop hx hb dJci_8 rfl ?_
    exact W.vret hx hb hr (fun t ht hW => ⟨rfl, ht⟩) (fun q h => by cases h) dJci_9
  · refine va_gets hx hb hZ hS hown (hts _ wJfo) (fun x hx => hx) dJci_2 ?_
    refine t_callI (pc2 := 8) (W.runS (As := [.int i, .int n, .ref t0]) (rest := []) ⟨hx, hb, hml, hown, hts⟩ (tM_pre l (v := .ref t0) (Or.inr ⟨t0, rfl⟩) h0 h1) (va_cwS 3 hts (tG_app wJpr_c (tQ3 wJpr_l wJpr_s wJin3)) rfl rfl rfl (by decide +kernel) ⟨(Nat.le_of_ble_eq_true rfl), (Nat.le_of_ble_eq_true rfl)⟩) ⟨fun a U g mk q => q, fun U hU hW => ⟨rfl, trivial⟩⟩ rfl rfl hl.1 rfl (lv_room (Nat.le_of_ble_eq_true rfl)) dJci_5 ⟨Nat.zero_le _, Nat.zero_le _⟩) rfl ?_
    refine lv_pop hx hb dJci_8 rfl ?_
    exact W.vret hx hb hr (fun t ht hW => ⟨rfl, ht⟩) (fun q h => by cases h) dJci_9
theorem t_chr {b : Int32} (h0 : 0 ≤ b) (h1 : b < 128) : ((b &&& 255).toUInt32 % 65536).toInt32 = b ∧ narrow .char (.int b) = .int b := by
  have h : ∀ k : Nat, k < 128 → ((Int32.ofNat k &&& 255).toUInt32 % 65536).toInt32 = Int32.ofNat k ∧ narrow .char (.int (Int32.ofNat k)) = .int (Int32.ofNat k) := by decide +kernel
  have e0 : 0 ≤ b.toInt := by simpa using Int32.le_iff_toInt_le.mp h0
  have e1 : b.toInt < 128 := by simpa using Int32.lt_iff_toInt_lt.mp h1
  have e : b = Int32.ofNat b.toInt.toNat := by
    apply Int32.toInt_inj.mp
    rw [Int32.toInt_ofNat_of_lt (by omega)]
    omega
  rw [e]
  exact h _ (by omega)
theorem t_in {j : Int32} {n : Nat} (h0 : ¬ j < 0) (h1 : j.toNatClampNeg < n) (h2 : n < 2 ^ 31) : j < Int32.ofNat n := by
  have e0 : 0 ≤ j.toInt := by
    have := Int32.not_lt.mp h0
    simpa using Int32.le_iff_toInt_le.mp this
  have e1 : j.toInt.toNat < n := h1
  rw [Int32.lt_iff_toInt_lt, Int32.toInt_ofNat_of_lt h2]
  omega
theorem t_shr0 (x : Int32) : x >>> ((0 : Int32) &&& 31) = x := by
  rw [show (0 : Int32) &&& 31 = 0 by decide]
  simp
set_option maxHeartbeats 2000000 in
theorem tM_l1 (l : Launch) {wd : List Int32} {v : Nat} {j x : Int32} (hwl : wd.length < 2 ^ 31) (hb8 : ∀ b ∈ wd, 0 ≤ b ∧ b < 128) (h0 : ¬ j < 0) (hxj : wd[j.toNatClampNeg]? = some x) : Met l yJ1_charAt_3b067 (Cond.code yJ1_charAt_3b067 cJ1_charAt_3b067 2 (some .char) :: WS) { frames := 2, cells := 0, slots := 0, locals := 43 } (va_Pc [.ref v, .int j] (tT wd v)) (QcRead x) 0 0 (fun _ => False) := by
  refine Met.ofWF (cc := cJ1_charAt_3b067) (maxL := 2) (ret := (some .char)) (by decide +kernel) rfl ?_
  intro p e s m args below meth c s₁ B hml hv
  obtain ⟨rfl, hw⟩ := hv
  have hx := B.exec
  have hb := B.bytes
  have hr := B.returns
  have hts0 := atoms_spec (ws := Cond.code yJ1_charAt_3b067 cJ1_charAt_3b067 2 (some .char) :: WS) B.pre
  have hts : ∀ w ∈ WS, w.before _ s = true := fun w hw => hts0 w (List.mem_cons_of_mem _ hw)
  have hown : s.vm.findClass RJ1 = some m.cls := findClass_of_methodNamed B.named
  have hlocks := B.notSynchronized
  have hS : va_S (fun _ => False) s.heap s.heap [] := va_S.rf
  have hlt : j.toNatClampNeg < wd.length := (List.getElem?_eq_some_iff.mp hxj).1
  have hxm : x ∈ wd := List.mem_of_getElem? hxj
  have hj : (fun j => Value.int (wd.getD j 0)) j.toNatClampNeg = .int x := by
    show Value.int (wd.getD j.toNatClampNeg 0) = .int x
    rw [List.getD_eq_getElem?_getD, hxj]
    rfl
  have hl := lv_entry ([.ref v, .int j]) (n := 2) (Nat.le_of_ble_eq_true rfl)
  rw [lg_entry_eq]
  generalize (lg_sl ([.ref v, .int j]) ++ List.replicate (2 - (lg_sl ([.ref v, .int j])).length) Slot.unset).toArray = ls at hl ⊢
  have hl : lv_has ls 2 [(0, .ref v), (1, .int j)] := hl
  refine lv_iload_n hx hb dJl1_0 rfl (lv_at hl 1 rfl) ?_
  refine lv_aload_n hx hb dJl1_1 rfl (lv_at hl 0 rfl) ?_
  refine va_tlen hx hb hw.1 hS rfl dJl1_2 ?_
  refine t_callV (pc2 := 6) (W.runS (As := [.int j, .int (Int32.ofNat wd.length)]) (rest := []) ⟨hx, hb, hml, hown, hts⟩ (tM_chk l h0 (t_in h0 hlt hwl)) (va_cwS 2 hts (tG_app wJci_c (tQ3 wJci_l wJci_s wJin)) rfl rfl rfl (by decide +kernel) ⟨(Nat.le_of_ble_eq_true rfl), (Nat.le_of_ble_eq_true rfl)⟩) ⟨tF.blind, fun U hU hW => ⟨rfl, tF.moved hW.alike hU hw.2⟩⟩ rfl rfl hl.1 rfl (lv_room (Nat.le_of_ble_eq_true rfl)) dJl1_3 ⟨Nat.zero_le _, Nat.zero_le _⟩) rfl ?_
  refine lv_aload_n hx hb dJl1_6 rfl (lv_at hl 0 rfl) ?_
  refine lv_iload_n hx hb dJl1_7 rfl (lv_at hl 1 rfl) ?_
  refine va_tb hx hb hw.1 hS (fun z => z.elim h0 (fun z => by omega)) hj dJl1_8 ?_
  refine lv_sipush (v := 255) hx hb dJl1_9 (by decide) ?_
  refine lv_iand hx hb dJl1_12 ?_
  refine lv_i2c hx hb dJl1_13 (t_chr (hb8 x hxm).1 (hb8 x hxm).2).1 ?_
  exact W.zret (v := x) hx hb hr (t_chr (hb8 x hxm).1 (hb8 x hxm).2).2 (fun t ht hW => ⟨rfl, ht⟩) (fun q h => by cases h) dJl1_14
set_option maxHeartbeats 2000000 in
theorem tM_coder (l : Launch) {wd : List Int32} {a v : Nat} : Met l yJ0_coder_7d493 (Cond.code yJ0_coder_7d493 cJ0_coder_7d493 1 (some .byte) :: WS) { frames := 0, cells := 0, slots := 0, locals := 0 } (va_Pc [.ref a] (tS wd a v)) (QcRead 0) 0 0 (fun _ => False) := by
  refine Met.ofWF (cc := cJ0_coder_7d493) (maxL := 1) (ret := (some .byte)) (by decide +kernel) rfl ?_
  intro p e s m args below meth c s₁ B hml hv
  obtain ⟨rfl, hw⟩ := hv
  have hx := B.exec
  have hb := B.bytes
  have hr := B.returns
  have hts0 := atoms_spec (ws := Cond.code yJ0_coder_7d493 cJ0_coder_7d493 1 (some .byte) :: WS) B.pre
  have hts : ∀ w ∈ WS, w.before _ s = true := fun w hw => hts0 w (List.mem_cons_of_mem _ hw)
  have hown : s.vm.findClass RJ0 = some m.cls := findClass_of_methodNamed B.named
  have hlocks := B.notSynchronized
  have hS : va_S (fun _ => False) s.heap s.heap [] := va_S.rf
  have hl := lv_entry ([.ref a]) (n := 1) (Nat.le_of_ble_eq_true rfl)
  rw [lg_entry_eq]
  generalize (lg_sl ([.ref a]) ++ List.replicate (1 - (lg_sl ([.ref a])).length) Slot.unset).toArray = ls at hl ⊢
  have hl : lv_has ls 1 [(0, .ref a)] := hl
  refine va_gets hx hb hw.2.2.2.2.1 hS hown (hts _ wJcs) (fun x hx => hx) dJco_0 ?_
  refine lv_if_eq (tgt := 13) hx hb dJco_3 rfl (fun z => absurd z (by decide)) (fun _ => ?_)
  refine lv_aload_n hx hb dJco_6 rfl (lv_at hl 0 rfl) ?_
  refine vk_getf hx hb hw.2.1 hS hown (hts _ wJfc) (fun x hx => hx) dJco_7 ?_
  refine lv_goto (tgt := 14) hx hb dJco_10 rfl ?_
  exact W.zret (v := 0) hx hb hr (by decide) (fun t ht hW => ⟨rfl, ht⟩) (fun q h => by cases h) dJco_14
set_option maxHeartbeats 2000000 in
theorem tM_lat (l : Launch) {wd : List Int32} {a v : Nat} : Met l yJ0_isLatin1_aae02 (Cond.code yJ0_isLatin1_aae02 cJ0_isLatin1_aae02 1 (some .boolean) :: WS) { frames := 0, cells := 0, slots := 0, locals := 0 } (va_Pc [.ref a] (tS wd a v)) (QcRead 1) 0 0 (fun _ => False) := by
  refine Met.ofWF (cc := cJ0_isLatin1_aae02) (maxL := 1) (ret := (some .boolean)) (by decide +kernel) rfl ?_
  intro p e s m args below meth c s₁ B hml hv
  obtain ⟨rfl, hw⟩ := hv
  have hx := B.exec
  have hb := B.bytes
  have hr := B.returns
  have hts0 := atoms_spec (ws := Cond.code yJ0_isLatin1_aae02 cJ0_isLatin1_aae02 1 (some .boolean) :: WS) B.pre
  have hts : ∀ w ∈ WS, w.before _ s = true := fun w hw => hts0 w (List.mem_cons_of_mem _ hw)
  have hown : s.vm.findClass RJ0 = some m.cls := findClass_of_methodNamed B.named
  have hlocks := B.notSynchronized
  have hS : va_S (fun _ => False) s.heap s.heap [] := va_S.rf
  have hl := lv_entry ([.ref a]) (n := 1) (Nat.le_of_ble_eq_true rfl)
  rw [lg_entry_eq]
  generalize (lg_sl ([.ref a]) ++ List.replicate (1 - (lg_sl ([.ref a])).length) Slot.unset).toArray = ls at hl ⊢
  have hl : lv_has ls 1 [(0, .ref a)] := hl
  refine va_gets hx hb hw.2.2.2.2.1 hS hown (hts _ wJcs) (fun x hx => hx) dJla_0 ?_
  refine lv_if_eq (tgt := 17) hx hb dJla_3 rfl (fun z => absurd z (by decide)) (fun _ => ?_)
  refine lv_aload_n hx hb dJla_6 rfl (lv_at hl 0 rfl) ?_
  refine vk_getf hx hb hw.2.1 hS hown (hts _ wJfc) (fun x hx => hx) dJla_7 ?_
  refine lv_if_ne (tgt := 17) hx hb dJla_10 rfl (fun z => absurd rfl z) (fun _ => ?_)
  refine lv_iconst (v := 1) hx hb dJla_13 (by decide) ?_
  refine lv_goto (tgt := 18) hx hb dJla_14 rfl ?_
  exact W.zret (v := 1) hx hb hr (by decide) (fun t ht hW => ⟨rfl, ht⟩) (fun q h => by cases h) dJla_18
set_option maxHeartbeats 2000000 in
theorem tM_len (l : Launch) {wd : List Int32} {a v : Nat} : Met l yJ0_length_8abf5 (Cond.code yJ0_length_8abf5 cJ0_length_8abf5 1 (some .int) :: WS) { frames := 1, cells := 0, slots := 0, locals := 20 } (va_Pc [.ref a] (tS wd a v)) (QcRead (Int32.ofNat wd.length)) 0 0 (fun _ => False) := by
  refine Met.ofWF (cc := cJ0_length_8abf5) (maxL := 1) (ret := (some .int)) (by decide +kernel) rfl ?_
  intro p e s m args below meth c s₁ B hml hv
  obtain ⟨rfl, hw⟩ := hv
  have hx := B.exec
  have hb := B.bytes
  have hr := B.returns
  have hts0 := atoms_spec (ws := Cond.code yJ0_length_8abf5 cJ0_length_8abf5 1 (some .int) :: WS) B.pre
  have hts : ∀ w ∈ WS, w.before _ s = true := fun w hw => hts0 w (List.mem_cons_of_mem _ hw)
  have hown : s.vm.findClass RJ0 = some m.cls := findClass_of_methodNamed B.named
  have hlocks := B.notSynchronized
  have hS : va_S (fun _ => False) s.heap s.heap [] := va_S.rf
  have hl := lv_entry ([.ref a]) (n := 1) (Nat.le_of_ble_eq_true rfl)
  rw [lg_entry_eq]
  generalize (lg_sl ([.ref a]) ++ List.replicate (1 - (lg_sl ([.ref a])).length) Slot.unset).toArray = ls at hl ⊢
  have hl : lv_has ls 1 [(0, .ref a)] := hl
  refine lv_aload_n hx hb dJle_0 rfl (lv_at hl 0 rfl) ?_
  refine vk_getf hx hb hw.2.2.1 hS hown (hts _ wJfv) (fun x hx => hx) dJle_1 ?_
  refine va_tlen hx hb hw.2.2.2.1 hS rfl dJle_4 ?_
  refine lv_aload_n hx hb dJle_5 rfl (lv_at hl 0 rfl) ?_
  refine t_callI (pc2 := 9) (W.runV (As := []) (rest := [.int (Int32.ofNat wd.length)]) (b := a) (C := RJ0) ⟨hx, hb, hml, hown, hts⟩ (tM_coder l) (cwV 0 hts (tG_app wJco_c (tQ4 wJco_l wJco_i wJco_s wJin)) rfl rfl rfl (by decide +kernel) ⟨(Nat.le_of_ble_eq_true rfl), (Nat.le_of_ble_eq_true rfl)⟩) ⟨tS.blind, tS.recv hw, fun U hU hW => ⟨rfl, tS.moved hW.alike hU hw⟩⟩ rfl rfl hl.1 rfl (lv_room (Nat.le_of_ble_eq_true rfl)) dJle_6 ⟨Nat.zero_le _, Nat.zero_le _⟩) rfl ?_
  refine lv_ishr hx hb dJle_9 ?_
  rw [t_shr0]
  exact W.iret (v := Int32.ofNat wd.length) hx hb hr (fun t ht hW => ⟨rfl, ht⟩) (fun q h => by cases h) dJle_10
set_option maxHeartbeats 2000000 in
theorem tM_char (l : Launch) {wd : List Int32} {a v : Nat} {j x : Int32} (hwl : wd.length < 2 ^ 31) (hb8 : ∀ b ∈ wd, 0 ≤ b ∧ b < 128) (h0 : ¬ j < 0) (hxj : wd[j.toNatClampNeg]? = some x) : Met l yJ0_charAt_5068e (Cond.code yJ0_charAt_5068e cJ0_charAt_5068e 2 (some .char) :: WS) { frames := 3, cells := 0, slots := 0, locals := 64 } (va_Pc [.ref a, .int j] (tS wd a v)) (QcRead x) 0 0 (fun _ => False) := by
  refine Met.ofWF (cc := cJ0_charAt_5068e) (maxL := 2) (ret := (some .char)) (by decide +kernel) rfl ?_
  intro p e s m args below meth c s₁ B hml hv
  obtain ⟨rfl, hw⟩ := hv
  have hx := B.exec
  have hb := B.bytes
  have hr := B.returns
  have hts0 := atoms_spec (ws := Cond.code yJ0_charAt_5068e cJ0_charAt_5068e 2 (some .char) :: WS) B.pre
  have hts : ∀ w ∈ WS, w.before _ s = true := fun w hw => hts0 w (List.mem_cons_of_mem _ hw)
  have hown : s.vm.findClass RJ0 = some m.cls := findClass_of_methodNamed B.named
  have hlocks := B.notSynchronized
  have hS : va_S (fun _ => False) s.heap s.heap [] := va_S.rf
  have hxm : x ∈ wd := List.mem_of_getElem? hxj
  have hl := lv_entry ([.ref a, .int j]) (n := 2) (Nat.le_of_ble_eq_true rfl)
  rw [lg_entry_eq]
  generalize (lg_sl ([.ref a, .int j]) ++ List.replicate (2 - (lg_sl ([.ref a, .int j])).length) Slot.unset).toArray = ls at hl ⊢
  have hl : lv_has ls 2 [(0, .ref a), (1, .int j)] := hl
  refine lv_aload_n hx hb dJch_0 rfl (lv_at hl 0 rfl) ?_
  refine t_callI (pc2 := 4) (W.runV (As := []) (rest := []) (b := a) (C := RJ0) ⟨hx, hb, hml, hown, hts⟩ (tM_lat l) (cwV 0 hts (tG_app wJla_c (tQ4 wJla_l wJla_i wJla_s wJin)) rfl rfl rfl (by decide +kernel) ⟨(Nat.le_of_ble_eq_true rfl), (Nat.le_of_ble_eq_true rfl)⟩) ⟨tS.blind, tS.recv hw, fun U hU hW => ⟨rfl, tS.moved hW.alike hU hw⟩⟩ rfl rfl hl.1 rfl (lv_room (Nat.le_of_ble_eq_true rfl)) dJch_1 ⟨Nat.zero_le _, Nat.zero_le _⟩) rfl ?_
  refine lv_if_eq (tgt := 16) hx hb dJch_4 rfl (fun z => absurd z (by decide)) (fun _ => ?_)
  refine lv_aload_n hx hb dJch_7 rfl (lv_at hl 0 rfl) ?_
  refine vk_getf hx hb hw.2.2.1 hS hown (hts _ wJfv) (fun x hx => hx) dJch_8 ?_
  refine lv_iload_n hx hb dJch_11 rfl (lv_at hl 1 rfl) ?_
  refine t_callI (pc2 := 15) (W.runS (As := [.ref v, .int j]) (rest := []) ⟨hx, hb, hml, hown, hts⟩ (tM_l1 l hwl hb8 h0 hxj) (va_cwS 2 hts (tG_app wJl1_c (tQ3 wJl1_l wJl1_s wJin1)) rfl rfl rfl (by decide +kernel) ⟨(Nat.le_of_ble_eq_true rfl), (Nat.le_of_ble_eq_true rfl)⟩) ⟨tT.blind, fun U hU hW => ⟨rfl, tT.moved hW.alike hU ⟨hw.2.2.2.1, hw.2.2.2.2.2⟩⟩⟩ rfl rfl hl.1 rfl (lv_room (Nat.le_of_ble_eq_true rfl)) dJch_12 ⟨Nat.zero_le _, Nat.zero_le _⟩) rfl ?_
  exact W.zret (v := x) hx hb hr (t_chr (hb8 x hxm).1 (hb8 x hxm).2).2 (fun t ht hW => ⟨rfl, ht⟩) (fun q h => by cases h) dJch_15
/-- WORDS as every caller finds it -/
theorem tS_of {wd : List Int32} {tx : String} {a : Nat} {A : Nat → Prop} {s : State} {H : Heap} {locs : List Loc} (h : aStr wd tx a A s) (hS : va_S A s.heap H locs) : (∃ v : Nat, ∀ U : State, U.heap = H → s.WarmedH U.vm → tS wd a v U) ∧ ∃ cell : Cell, H[a]? = some cell ∧ cell.vm.isStatics = false ∧ s.vm.findClass RJ0 = some cell.cls := by
  obtain ⟨-, ⟨adV, h2⟩, h3, h4⟩ := h
  refine ⟨⟨adV 0, fun U hU hW => ?_⟩, vk_recv (i := 0) h2 (by decide) hS⟩
  obtain ⟨k1, k2, k3, k4⟩ := h2.1 0 (by decide)
  have q : ∀ q : Nat, q < s.heap.size → ¬ A q → U.heap[q]? = s.heap[q]? := fun q z1 z2 => by rw [hU]; exact hS.2.1 q z1 z2
  have f : ∀ q : Nat, (fun _ : Nat => False) q → A q := fun _ z => z.elim
  exact ⟨((k1.kept q).moved hW.alike).narrow f, ((k2.kept q).moved hW.alike).narrow f, ((k3.kept q).moved hW.alike).narrow f, ((k4.kept q).moved hW.alike).narrow f, ((h3.kept q).moved hW.alike).narrow f, ((h4.kept q).moved hW.alike).narrow f⟩
section AS4S
variable {p : Program} {l : Launch} {e : Env} {R : Room} {s : State} {m : MethodId} {args : Array Value} {below : List Frame} {meth : Method} {c : Code} {H : Heap} {locs : List Loc} {cells slots : Nat} {Q : State → Prop} {y pc h len : Nat} {raw : Instr} {D : va_G} {tyc : FieldType → ClassId} {lsR : Array Slot} {st : List Value} {r : Nat → Nat} {M : aM} {A : Nat → Prop} {ls : List Value} {q d : Nat}

set_option maxHeartbeats 2000000 in
theorem as_strlen {wd : List Int32} {tx : String} (hwl : wd.length < 2 ^ 31) (C : aCx p s m args meth c y D tyc) {i0 : Nat} {st0 : List Value} (hk : aLkR y pc (.invokeinterface 4 i0) h raw len = true) (hd : decode (mB y) pc = .ok (raw, len)) (hsz : lsR.size = c.maxLocals) (hR : aRel D tyc r M A s.heap H locs) (hA : ∀ q, s.heap.size ≤ q → A q) (hstr : aStr wd tx (r aSTR) A s) (hce : cells ≤ R.cells) (hsl : slots ≤ R.slots) (hfr : 4 ≤ R.frames) (hlo : 120 ≤ R.locals) (hcat : aCat st0 ≤ 8) (kk : W p l e R s m args below meth c H locs (cells) (slots) Q (F0 m (pc + len) lsR (.int (Int32.ofNat wd.length) :: aVs r st0))) : W p l e R s m args below meth c H locs (cells) (slots) Q (F0 m (pc) lsR (.ref (r aSTR) :: aVs r st0)) := by
  obtain ⟨hx, hb, hml, hown, hts, hK, hnm, hne, hao, hao2⟩ := C
  obtain ⟨⟨v, hU⟩, hrecv⟩ := tS_of hstr hR.2.2.1
  simp only [aLkR] at hk
  split at hk
  · simp only [Bool.and_eq_true, decide_eq_true_eq] at hk
    obtain ⟨rfl, h1⟩ := hk
    refine t_callI (pc2 := pc + 3) (W.runV (As := []) (rest := aVs r st0) (b := r aSTR) (C := RJ0) (nL := c.maxLocals) ⟨hx, hb, rfl, hown, hts⟩ (tM_len l (wd := wd) (a := r aSTR) (v := v)) (cwV 0 hts (tG_app wJle_c (tQ4 (aHit_in h1) wJle_i wJle_s wJin)) rfl rfl rfl (by decide +kernel) ⟨by show 1 + 1 ≤ R.frames; omega, by show 8 + (1 + 11) + 20 ≤ R.locals; omega⟩) ⟨tS.blind, hrecv, fun U h2 hW => ⟨rfl, hU U h2 hW⟩⟩ rfl rfl hsz rfl (lv_room (by rw [aVs_cat]; exact hcat)) hd ⟨hce, hsl⟩) rfl kk
  · cases hk
set_option maxHeartbeats 2000000 in
theorem as_strchar {wd : List Int32} {tx : String} (hb8 : ∀ b ∈ wd, 0 ≤ b ∧ b < 128) (hwl : wd.length < 2 ^ 31) (C : aCx p s m args meth c y D tyc) {i0 : Nat} {st0 : List Value} {j x : Int32} (hk : aLkR y pc (.invokeinterface 5 i0) h raw len = true) (hd : decode (mB y) pc = .ok (raw, len)) (hsz : lsR.size = c.maxLocals) (hR : aRel D tyc r M A s.heap H locs) (hA : ∀ q, s.heap.size ≤ q → A q) (hstr : aStr wd tx (r aSTR) A s) (hce : cells ≤ R.cells) (hsl : slots ≤ R.slots) (hfr : 4 ≤ R.frames) (hlo : 120 ≤ R.locals) (hcat : aCat st0 ≤ 8) (hj : ¬ j < 0) (hx : wd[j.toNatClampNeg]? = some x) (kk : W p l e R s m args below meth c H locs (cells) (slots) Q (F0 m (pc + len) lsR (.int x :: aVs r st0))) : W p l e R s m args below meth c H locs (cells) (slots) Q (F0 m (pc) lsR (.int j :: .ref (r aSTR) :: aVs r st0)) := by
  obtain ⟨hx', hb, hml, hown, hts, hK, hnm, hne, hao, hao2⟩ := C
  obtain ⟨⟨v, hU⟩, hrecv⟩ := tS_of hstr hR.2.2.1
  simp only [aLkR] at hk
  split at hk
  · simp only [Bool.and_eq_true, decide_eq_true_eq] at hk
    obtain ⟨rfl, h1⟩ := hk
    refine t_callI (pc2 := pc + 3) (W.runV (As := [.int j]) (rest := aVs r st0) (b := r aSTR) (C := RJ0) (nL := c.maxLocals) ⟨hx', hb, rfl, hown, hts⟩ (tM_char l (wd := wd) (a := r aSTR) (v := v) hwl hb8 hj hx) (cwV 1 hts (tG_app wJch_c (tQ4 (aHit_in h1) wJch_i wJch_s wJin)) rfl rfl rfl (by decide +kernel) ⟨by show 3 + 1 ≤ R.frames; omega, by show 8 + (2 + 11) + 64 ≤ R.locals; omega⟩) ⟨tS.blind, hrecv, fun U h2 hW => ⟨rfl, hU U h2 hW⟩⟩ rfl rfl hsz rfl (lv_room (by rw [aVs_cat]; exact hcat)) hd ⟨hce, hsl⟩) rfl kk
  · cases hk
end AS4S
