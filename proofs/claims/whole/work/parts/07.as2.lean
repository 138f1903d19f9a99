/-! CELLS: fields and arrays of the world -/
def aLy : List (List Nat) := [[2049, 2051, 2053], [2003, 2005, 2007, 2009, 2011, 2013, 2015], [1046, 1048, 1050, 1052], [1067, 1069, 1071, 1073, 1075, 1077, 1079, 1081, 1083], [2029, 2031, 2033], [2078, 2080, 2082, 2084, 2086, 2088, 2090], [1183, 1185, 1187, 1189, 1191, 1193, 1195, 1197, 1199, 1201, 1203, 1205, 1207, 1209, 1211, 1213, 1215], [1108, 1110, 1112, 1114], [2115, 2117, 2119, 2121, 2123, 2125, 2127, 2129, 2131, 2133, 2135, 2137, 2139, 2141, 2143, 2145, 2147, 2149], [5102, 5104, 5106, 5108, 5110, 5112, 5114, 5116, 5118, 5120, 5122, 5124, 5126, 5128, 5130, 5132, 5134, 5136, 5138, 5140, 5142, 5144, 5146, 5148, 5150, 5152, 5154, 5156, 5158, 5160, 5162, 5164, 5166, 5168, 5170, 5172, 5174, 5176, 5178, 5180, 5182, 5184, 5186, 5188, 5190, 5192, 5194, 5196, 5198, 5200, 5202, 5204, 5206, 5208, 5210, 5212, 5214, 5216, 5218, 5220, 5222, 5224, 5226, 5228, 5230, 5232, 5234, 5236, 5238, 6000, 6002, 6004, 6006, 6008, 6010, 6012, 6014, 6016, 6018, 6020, 6022, 6024, 6026, 6028, 6030, 6032, 6034, 6036, 6038, 6040, 6042, 6044, 6046, 6048, 6050, 6052, 6054, 6056, 6058, 6060, 6062, 6064, 6066, 6068, 6070, 6072, 6074, 6076, 6078]]
theorem aCi {P : Nat → Prop} (h0 : P 0) (h1 : P 1) (h2 : P 2) (h3 : P 3) (h4 : P 4) (h5 : P 5) (h6 : P 6) (h7 : P 7) (h8 : P 8) (h9 : P 9) {ci : Nat} (h : ci < 10) : P ci := by
  rcases (show ci = 0 ∨ ci = 1 ∨ ci = 2 ∨ ci = 3 ∨ ci = 4 ∨ ci = 5 ∨ ci = 6 ∨ ci = 7 ∨ ci = 8 ∨ ci = 9 by omega) with rfl | rfl | rfl | rfl | rfl | rfl | rfl | rfl | rfl | rfl <;> assumption
theorem aT_cl {ci : Nat} (h : ci < 10) : vwCl[ci]? = some ((aT ci).1, (aT ci).2.1, (aT ci).2.2) := aCi (P := fun ci => vwCl[ci]? = some ((aT ci).1, (aT ci).2.1, (aT ci).2.2)) rfl rfl rfl rfl rfl rfl rfl rfl rfl rfl h
theorem aT_N {ci : Nat} (h : ci < 10) : (aT ci).2.2 = aNF ci := aCi (P := fun ci => (aT ci).2.2 = aNF ci) rfl rfl rfl rfl rfl rfl rfl rfl rfl rfl h
theorem aT_ty {ci : Nat} (h : ci < 10) : ∀ k, k < (aT ci).2.2 → parseFieldDescriptor ((aT ci).2.1 k).2.2.1 = some (aTy ci k) := aCi (P := fun ci => ∀ k, k < (aT ci).2.2 → parseFieldDescriptor ((aT ci).2.1 k).2.2.1 = some (aTy ci k)) tyX0_ok tyX1_ok tyX2_ok tyX3_ok tyX4_ok tyX5_ok tyX6_ok tyX7_ok tyX8_ok tyX9_ok h
theorem aT_nm {ci : Nat} (h : ci < 10) : ∀ a, a < (aT ci).2.2 → ∀ b, b < (aT ci).2.2 → a ≠ b → ((aT ci).2.1 a).2.1 ≠ ((aT ci).2.1 b).2.1 := aCi (P := fun ci => ∀ a, a < (aT ci).2.2 → ∀ b, b < (aT ci).2.2 → a ≠ b → ((aT ci).2.1 a).2.1 ≠ ((aT ci).2.1 b).2.1) nmX0 nmX1 nmX2 nmX3 nmX4 nmX5 nmX6 nmX7 nmX8 nmX9 h
def aLyOk (ci : Nat) : Bool := (List.range (aT ci).2.2).all (fun k => aHit (((aLy[ci]?).getD [])[k]?.getD 0) (u_lay (aT ci).1 (aT ci).2.1 k))
theorem aLy_0 : aLyOk 0 = true := by decide +kernel
theorem aLy_1 : aLyOk 1 = true := by decide +kernel
theorem aLy_2 : aLyOk 2 = true := by decide +kernel
theorem aLy_3 : aLyOk 3 = true := by decide +kernel
theorem aLy_4 : aLyOk 4 = true := by decide +kernel
theorem aLy_5 : aLyOk 5 = true := by decide +kernel
theorem aLy_6 : aLyOk 6 = true := by decide +kernel
theorem aLy_7 : aLyOk 7 = true := by decide +kernel
theorem aLy_8 : aLyOk 8 = true := by decide +kernel
theorem aLy_9 : aLyOk 9 = true := by decide +kernel
theorem aT_in {ci : Nat} (h : ci < 10) : ∀ w ∈ u_ws (aT ci).1 (aT ci).2.1 (aT ci).2.2, w ∈ WS := by
  have h1 : aLyOk ci = true := aCi (P := fun ci => aLyOk ci = true) aLy_0 aLy_1 aLy_2 aLy_3 aLy_4 aLy_5 aLy_6 aLy_7 aLy_8 aLy_9 h
  intro w hw
  obtain ⟨k, hk, rfl⟩ := List.mem_map.mp hw
  exact aHit_in (List.all_eq_true.mp h1 k hk)
section AS2
variable {p : Program} {l : Launch} {e : Env} {R : Room} {s : State} {m : MethodId} {args : Array Value} {below : List Frame} {meth : Method} {c : Code} {H : Heap} {locs : List Loc} {cells slots : Nat} {Q : State → Prop} {y pc h len : Nat} {raw : Instr} {D : va_G} {tyc : FieldType → ClassId} {lsR : Array Slot} {st : List Value} {r : Nat → Nat} {M : aM} {A : Nat → Prop} {ls : List Value} {q : Nat}

theorem aFs_get {r : Nat → Nat} {M : aM} {q ci k : Nat} (hk : k < aNF ci) : ((List.range (aNF ci)).map (fun k => aV r (aFld M q ci k)))[k]? = some (aV r (aFld M q ci k)) := by
  rw [List.getElem?_map, List.getElem?_range hk]; rfl
theorem aFs_set {r : Nat → Nat} {M M2 : aM} {q ci k : Nat} {v : Value} (hk : k < aNF ci) (hv : v = aV r (aFld M2 q ci k)) (ho : ∀ j, j ≠ k → aFld M2 q ci j = aFld M q ci j) : ((List.range (aNF ci)).map (fun k => aV r (aFld M q ci k))).set k v = (List.range (aNF ci)).map (fun k => aV r (aFld M2 q ci k)) := by
  apply List.ext_getElem?
  intro i
  rw [List.getElem?_set, List.length_map, List.length_range]
  by_cases hi : i < aNF ci
  · rw [aFs_get hi, aFs_get hi]
    by_cases e : k = i
    · subst e
      rw [if_pos rfl, if_pos hk, hv]
    · rw [if_neg e, ho i (fun z => e z.symm)]
  · have h1 : ∀ M : aM, ((List.range (aNF ci)).map (fun k => aV r (aFld M q ci k)))[i]? = none := fun M => List.getElem?_eq_none (by simp; omega)
    rw [h1, h1]
    by_cases e : k = i
    · subst e; exact absurd hk hi
    · rw [if_neg e]
theorem aUp_row {α : Type} (f : Nat → Nat → α) (q k : Nat) (v : α) {a : Nat} (h : a ≠ q) : aUp f q k v a = f a := by
  funext b; simp [aUp, h]
theorem aUp_at {α : Type} (f : Nat → Nat → α) (q k : Nat) (v : α) : aUp f q k v q k = v := by simp [aUp]
theorem aUp_ne {α : Type} (f : Nat → Nat → α) (q k : Nat) (v : α) {j : Nat} (h : j ≠ k) : aUp f q k v q j = f q j := by simp [aUp, h]
theorem aRow_row {α : Type} (f : Nat → Nat → α) (q : Nat) (v : Nat → α) {a : Nat} (h : a ≠ q) : aRow f q v a = f a := by
  funext b; simp [aRow, h]
theorem aRow_at {α : Type} (f : Nat → Nat → α) (q : Nat) (v : Nat → α) : aRow f q v q = v := by funext b; simp [aRow]
theorem aFld_row {M M2 : aM} {q ci k : Nat} (h1 : M2.2.1 q = M.2.1 q) (h2 : M2.2.2.1 q = M.2.2.1 q) (h3 : M2.2.2.2 q = M.2.2.2 q) : aFld M2 q ci k = aFld M q ci k := by
  simp only [aFld, h1, h2, h3]
theorem aCell_row {tyc : FieldType → ClassId} {r : Nat → Nat} {M M2 : aM} {q : Nat} {sh : aSh} (h1 : M2.2.1 q = M.2.1 q) (h2 : M2.2.2.1 q = M.2.2.1 q) (h3 : M2.2.2.2 q = M.2.2.2 q) : aCell tyc r M2 q sh = aCell tyc r M q sh := by
  unfold aCell
  simp only [h1, h2, h3, aFld_row h1 h2 h3]
theorem as_getfield (C : aCx p s m args meth c y D tyc) {f : Nat} (hk : aLkR y pc (.getfield f) h raw len = true) (hd : decode (mB y) pc = .ok (raw, len)) (hR : aRel D tyc r M A s.heap H locs) (hs : M.1[q]? = some (none, f / 256)) (hf : f % 256 < aNF (f / 256)) (kk : W p l e R s m args below meth c H locs (cells) (slots) Q (F0 m (pc + len) lsR (aV r (aFld M q (f / 256) (f % 256)) :: st))) : W p l e R s m args below meth c H locs (cells) (slots) Q (F0 m (pc) lsR (.ref (r q) :: st)) := by
  obtain ⟨hx, hb, hml, hown, hts, hK, hnm, hne, hao, hao2⟩ := C
  simp only [aLkR] at hk
  split at hk
  · simp only [Bool.and_eq_true, decide_eq_true_eq] at hk
    obtain ⟨⟨rfl, hc⟩, h1⟩ := hk
    exact va_get (Ts := WS) (D := D) hx hb hts (aT_in hc) hown hK hR.1 q (aW_get hs) (aT_cl hc) (f % 256) (by rw [aT_N hc]; exact hf) (hts _ (aHit_in h1)) (fun x hx => hx) (aFs_get hf) hd kk
  · cases hk
theorem as_putfield (C : aCx p s m args meth c y D tyc) {f : Nat} {v : Value} {M2 : aM} (hk : aLkR y pc (.putfield f) h raw len = true) (hd : decode (mB y) pc = .ok (raw, len)) (hR : aRel D tyc r M A s.heap H locs)  (hs : M.1[q]? = some (none, f / 256)) (hf : f % 256 < aNF (f / 256)) (h1M : M2.1 = M.1) (hn : narrow (aTy (f / 256) (f % 256)) v = v) (hfit : fits (aTy (f / 256) (f % 256)) v = true) (hv : v = aV r (aFld M2 q (f / 256) (f % 256))) (ho : ∀ j, j ≠ f % 256 → aFld M2 q (f / 256) j = aFld M q (f / 256) j) (hr : ∀ k, k ≠ q → M2.2.1 k = M.2.1 k ∧ M2.2.2.1 k = M.2.2.1 k ∧ M2.2.2.2 k = M.2.2.2 k) (hok : aOkM M2) (kk : ∀ (H1 : Heap) (locs1 : List Loc), aRel D tyc r (M2) A s.heap H1 locs1 → W p l e R s m args below meth c H1 locs1 (cells) (slots) Q (F0 m (pc + len) lsR (st))) : W p l e R s m args below meth c H locs (cells) (slots) Q (F0 m (pc) lsR (v :: .ref (r q) :: st)) := by
  obtain ⟨hx, hb, hml, hown, hts, hK, hnm, hne, hao, hao2⟩ := C
  simp only [aLkR] at hk
  split at hk
  · simp only [Bool.and_eq_true, Bool.or_eq_true, decide_eq_true_eq] at hk
    obtain ⟨⟨⟨rfl, hc⟩, h1⟩, h2⟩ := hk
    have hset : (aW tyc r M).set q (r q, .inr (f / 256, ((List.range (aNF (f / 256))).map (fun k => aV r (aFld M q (f / 256) k))).set (f % 256) v)) = aW tyc r M2 := aW_set hs h1M (by
        rw [aFs_set hf hv ho]; rfl) (fun k sk hk => aCell_row (hr k hk).1 (hr k hk).2.1 (hr k hk).2.2)
    have kk2 : ∀ (H1 : Heap) (locs1 : List Loc), va_P D vwCl ((aW tyc r M).set q (r q, .inr (f / 256, ((List.range (aNF (f / 256))).map (fun k => aV r (aFld M q (f / 256) k))).set (f % 256) v))) H1 → va_D A ((aW tyc r M).set q (r q, .inr (f / 256, ((List.range (aNF (f / 256))).map (fun k => aV r (aFld M q (f / 256) k))).set (f % 256) v))) → va_S A s.heap H1 locs1 → W p l e R s m args below meth c H1 locs1 cells slots Q (F0 m (pc + 3) lsR st) := by
      rw [hset]
      intro H1 locs1 a1 a2 a3
      exact kk H1 locs1 ⟨a1, a2, a3, hok⟩
    rcases h2 with h2 | ⟨h2, h3⟩
    · exact va_put (Ts := WS) (D := D) (ty := aTy (f / 256) (f % 256)) hx hb hts (aT_in hc) (aTy (f / 256)) (aT_ty hc) (aT_nm hc) hown hK hR.1 hR.2.1 hR.2.2.1 q (aW_get hs) (aT_cl hc) (f % 256) (by rw [aT_N hc]; exact hf) (hts _ (aHit_in h1)) (fun x hx => hx) h2 (aT_ty hc _ (by rw [aT_N hc]; exact hf)) hn hfit (by rw [List.length_map, List.length_range]; exact hf) hd kk2
    · by_cases hfin : ((aT (f / 256)).2.1 (f % 256)).2.2.2 = true
      · exact va_putF (Ts := WS) (D := D) (ty := aTy (f / 256) (f % 256)) hx hb hts (aT_in hc) (aTy (f / 256)) (aT_ty hc) (aT_nm hc) hown hK hR.1 hR.2.1 hR.2.2.1 q (aW_get hs) (aT_cl hc) (f % 256) (by rw [aT_N hc]; exact hf) (hts _ (aHit_in h1)) (fun x hx => hx) hfin (hnm.trans h2) h3 (aT_ty hc _ (by rw [aT_N hc]; exact hf)) hn hfit (by rw [List.length_map, List.length_range]; exact hf) hd kk2
      · exact va_put (Ts := WS) (D := D) (ty := aTy (f / 256) (f % 256)) hx hb hts (aT_in hc) (aTy (f / 256)) (aT_ty hc) (aT_nm hc) hown hK hR.1 hR.2.1 hR.2.2.1 q (aW_get hs) (aT_cl hc) (f % 256) (by rw [aT_N hc]; exact hf) (hts _ (aHit_in h1)) (fun x hx => hx) (by simpa using hfin) (aT_ty hc _ (by rw [aT_N hc]; exact hf)) hn hfit (by rw [List.length_map, List.length_range]; exact hf) hd kk2
  · cases hk
theorem as_iaload (C : aCx p s m args meth c y D tyc) {n : Nat} {j : Int32} (hk : aLkR y pc (.iaload) h raw len = true) (hd : decode (mB y) pc = .ok (raw, len)) (hR : aRel D tyc r M A s.heap H locs) (hs : M.1[q]? = some (some .int, n)) (hin : ¬ (j < 0 ∨ n ≤ j.toNatClampNeg)) (kk : W p l e R s m args below meth c H locs (cells) (slots) Q (F0 m (pc + len) lsR (.int (M.2.1 q j.toNatClampNeg) :: st))) : W p l e R s m args below meth c H locs (cells) (slots) Q (F0 m (pc) lsR (.int j :: .ref (r q) :: st)) := by
  obtain ⟨hx, hb, hml, hown, hts, hK, hnm, hne, hao, hao2⟩ := C
  simp only [aLkR, Bool.and_eq_true, decide_eq_true_eq] at hk
  obtain ⟨⟨-, rfl⟩, rfl⟩ := hk
  exact va_iald (D := D) hx hb hK hR.1 q 0 (aW_get hs) rfl hin hd kk
theorem as_caload (C : aCx p s m args meth c y D tyc) {n : Nat} {j : Int32} (hk : aLkR y pc (.caload) h raw len = true) (hd : decode (mB y) pc = .ok (raw, len)) (hR : aRel D tyc r M A s.heap H locs) (hs : M.1[q]? = some (some .char, n)) (hin : ¬ (j < 0 ∨ n ≤ j.toNatClampNeg)) (kk : W p l e R s m args below meth c H locs (cells) (slots) Q (F0 m (pc + len) lsR (.int (M.2.1 q j.toNatClampNeg) :: st))) : W p l e R s m args below meth c H locs (cells) (slots) Q (F0 m (pc) lsR (.int j :: .ref (r q) :: st)) := by
  obtain ⟨hx, hb, hml, hown, hts, hK, hnm, hne, hao, hao2⟩ := C
  simp only [aLkR, Bool.and_eq_true, decide_eq_true_eq] at hk
  obtain ⟨rfl, rfl⟩ := hk
  exact va_cald (D := D) hx hb hK hR.1 q 1 (aW_get hs) rfl hin hd kk
theorem as_laload (C : aCx p s m args meth c y D tyc) {n : Nat} {j : Int32} (hk : aLkR y pc (.laload) h raw len = true) (hd : decode (mB y) pc = .ok (raw, len)) (hR : aRel D tyc r M A s.heap H locs) (hs : M.1[q]? = some (some .long, n)) (hin : ¬ (j < 0 ∨ n ≤ j.toNatClampNeg)) (kk : W p l e R s m args below meth c H locs (cells) (slots) Q (F0 m (pc + len) lsR (.long (M.2.2.1 q j.toNatClampNeg) :: st))) : W p l e R s m args below meth c H locs (cells) (slots) Q (F0 m (pc) lsR (.int j :: .ref (r q) :: st)) := by
  obtain ⟨hx, hb, hml, hown, hts, hK, hnm, hne, hao, hao2⟩ := C
  simp only [aLkR, Bool.and_eq_true, decide_eq_true_eq] at hk
  obtain ⟨rfl, rfl⟩ := hk
  exact va_lald (D := D) hx hb hK hR.1 q 2 (aW_get hs) rfl hin hd kk
theorem as_aaload_o (C : aCx p s m args meth c y D tyc) {n : Nat} {j : Int32} {ty : FieldType} {Cn : String} (hty : ty = .object Cn ∧ Cn = RX1 ∨ ty = .array .int) (hk : aLkR y pc .aaload h raw len = true) (hd : decode (mB y) pc = .ok (raw, len)) (hR : aRel D tyc r M A s.heap H locs)  (hs : M.1[q]? = some (some ty, n)) (hin : ¬ (j < 0 ∨ n ≤ j.toNatClampNeg)) (kk : W p l e R s m args below meth c H locs (cells) (slots) Q (F0 m (pc + len) lsR (aV r (aRf (M.2.2.2 q j.toNatClampNeg)) :: st))) : W p l e R s m args below meth c H locs (cells) (slots) Q (F0 m (pc) lsR (.int j :: .ref (r q) :: st)) := by
  obtain ⟨hx, hb, hml, hown, hts, hK, hnm, hne, hao, hao2⟩ := C
  simp only [aLkR, Bool.and_eq_true, decide_eq_true_eq] at hk
  obtain ⟨rfl, rfl⟩ := hk
  rw [aRf_map] at kk
  rcases hty with ⟨rfl, rfl⟩ | rfl
  · exact va_aldq (D := D) (C := RX1) hx hb hK hR.1 q 3 (aW_get hs) rfl hin hd kk
  · have hlt : j.toNatClampNeg < n := Nat.not_le.mp fun z => hin (Or.inr z)
    exact W.aald (v := va_rf ((M.2.2.2 q j.toNatClampNeg).map r)) (ty := .array .int) hx hb (hR.1 q _ (aW_get hs)) ((hK.2 4 _ rfl).1 n (fun j => va_rf ((M.2.2.2 q j).map r))) rfl (fun z => by cases z) (by show ¬ (j < 0 ∨ (arrV _ _ _).slots.size ≤ _); rw [arrV_size]; exact hin) (by show (arrV _ _ _).slots[_]? = _; rw [arrV_read _ _ hlt]) rfl rfl hd kk
theorem as_iastore (C : aCx p s m args meth c y D tyc) {n : Nat} {j : Int32} {x : Int32} (hk : aLkR y pc (.iastore) h raw len = true) (hd : decode (mB y) pc = .ok (raw, len)) (hR : aRel D tyc r M A s.heap H locs) (hs : M.1[q]? = some (some .int, n)) (hin : ¬ (j < 0 ∨ n ≤ j.toNatClampNeg)) (kk : ∀ (H1 : Heap) (locs1 : List Loc), aRel D tyc r ((M.1, aUp M.2.1 q j.toNatClampNeg x, M.2.2.1, M.2.2.2)) A s.heap H1 locs1 → W p l e R s m args below meth c H1 locs1 (cells) (slots) Q (F0 m (pc + len) lsR (st))) : W p l e R s m args below meth c H locs (cells) (slots) Q (F0 m (pc) lsR (.int x :: .int j :: .ref (r q) :: st)) := by
  obtain ⟨hx, hb, hml, hown, hts, hK, hnm, hne, hao, hao2⟩ := C
  simp only [aLkR, Bool.and_eq_true, decide_eq_true_eq] at hk
  obtain ⟨rfl, rfl⟩ := hk
  have hset : (aW tyc r M).set q (r q, .inl (tyc .int, n, .inl (upd (M.2.1 q) j.toNatClampNeg x))) = aW tyc r (M.1, aUp M.2.1 q j.toNatClampNeg x, M.2.2.1, M.2.2.2) := aW_set hs rfl (by
      have e : upd (M.2.1 q) j.toNatClampNeg x = aUp M.2.1 q j.toNatClampNeg x q := by
        funext b
        simp [upd, aUp]
      rw [e]; rfl) (fun k sk hk => by
        refine aCell_row ?_ ?_ ?_ <;> first | rfl | exact aUp_row _ _ _ _ hk)
  refine va_iast (D := D) hx hb hK hR.1 hR.2.1 hR.2.2.1 q 0 (aW_get hs) rfl hin hd ?_
  rw [hset]
  intro H1 locs1 a1 a2 a3
  exact kk H1 locs1 ⟨a1, a2, a3, hR.2.2.2⟩
theorem as_castore (C : aCx p s m args meth c y D tyc) {n : Nat} {j : Int32} {x : Int32} (hk : aLkR y pc (.castore) h raw len = true) (hd : decode (mB y) pc = .ok (raw, len)) (hR : aRel D tyc r M A s.heap H locs) (hs : M.1[q]? = some (some .char, n)) (hin : ¬ (j < 0 ∨ n ≤ j.toNatClampNeg)) (kk : ∀ (H1 : Heap) (locs1 : List Loc), aRel D tyc r ((M.1, aUp M.2.1 q j.toNatClampNeg (vp_nar .char x), M.2.2.1, M.2.2.2)) A s.heap H1 locs1 → W p l e R s m args below meth c H1 locs1 (cells) (slots) Q (F0 m (pc + len) lsR (st))) : W p l e R s m args below meth c H locs (cells) (slots) Q (F0 m (pc) lsR (.int x :: .int j :: .ref (r q) :: st)) := by
  obtain ⟨hx, hb, hml, hown, hts, hK, hnm, hne, hao, hao2⟩ := C
  simp only [aLkR, Bool.and_eq_true, decide_eq_true_eq] at hk
  obtain ⟨rfl, rfl⟩ := hk
  have hset : (aW tyc r M).set q (r q, .inl (tyc .char, n, .inl (upd (M.2.1 q) j.toNatClampNeg (vp_nar .char x)))) = aW tyc r (M.1, aUp M.2.1 q j.toNatClampNeg (vp_nar .char x), M.2.2.1, M.2.2.2) := aW_set hs rfl (by
      have e : upd (M.2.1 q) j.toNatClampNeg (vp_nar .char x) = aUp M.2.1 q j.toNatClampNeg (vp_nar .char x) q := by
        funext b
        simp [upd, aUp]
      rw [e]; rfl) (fun k sk hk => by
        refine aCell_row ?_ ?_ ?_ <;> first | rfl | exact aUp_row _ _ _ _ hk)
  refine va_cast (D := D) hx hb hK hR.1 hR.2.1 hR.2.2.1 q 1 (aW_get hs) rfl hin hd ?_
  rw [hset]
  intro H1 locs1 a1 a2 a3
  exact kk H1 locs1 ⟨a1, a2, a3, hR.2.2.2⟩
theorem as_lastore (C : aCx p s m args meth c y D tyc) {n : Nat} {j : Int32} {x : Int64} (hk : aLkR y pc (.lastore) h raw len = true) (hd : decode (mB y) pc = .ok (raw, len)) (hR : aRel D tyc r M A s.heap H locs) (hs : M.1[q]? = some (some .long, n)) (hin : ¬ (j < 0 ∨ n ≤ j.toNatClampNeg)) (kk : ∀ (H1 : Heap) (locs1 : List Loc), aRel D tyc r ((M.1, M.2.1, aUp M.2.2.1 q j.toNatClampNeg x, M.2.2.2)) A s.heap H1 locs1 → W p l e R s m args below meth c H1 locs1 (cells) (slots) Q (F0 m (pc + len) lsR (st))) : W p l e R s m args below meth c H locs (cells) (slots) Q (F0 m (pc) lsR (.long x :: .int j :: .ref (r q) :: st)) := by
  obtain ⟨hx, hb, hml, hown, hts, hK, hnm, hne, hao, hao2⟩ := C
  simp only [aLkR, Bool.and_eq_true, decide_eq_true_eq] at hk
  obtain ⟨rfl, rfl⟩ := hk
  have hset : (aW tyc r M).set q (r q, .inl (tyc .long, n, .inr (.inl (vp_updL (M.2.2.1 q) j.toNatClampNeg x)))) = aW tyc r (M.1, M.2.1, aUp M.2.2.1 q j.toNatClampNeg x, M.2.2.2) := aW_set hs rfl (by
      have e : vp_updL (M.2.2.1 q) j.toNatClampNeg x = aUp M.2.2.1 q j.toNatClampNeg x q := by
        funext b
        simp [vp_updL, aUp]
      rw [e]; rfl) (fun k sk hk => by
        refine aCell_row ?_ ?_ ?_ <;> first | rfl | exact aUp_row _ _ _ _ hk)
  refine va_last (D := D) hx hb hK hR.1 hR.2.1 hR.2.2.1 q 2 (aW_get hs) rfl hin hd ?_
  rw [hset]
  intro H1 locs1 a1 a2 a3
  exact kk H1 locs1 ⟨a1, a2, a3, hR.2.2.2⟩
theorem as_aastore (C : aCx p s m args meth c y D tyc) {n x ci : Nat} {j : Int32} {Cn : String} (hk : aLkR y pc (.aastore) h raw len = true) (hd : decode (mB y) pc = .ok (raw, len)) (hR : aRel D tyc r M A s.heap H locs) (hs : M.1[q]? = some (some (.object Cn), n)) (hC : Cn = RX1) (hin : ¬ (j < 0 ∨ n ≤ j.toNatClampNeg)) (hs2 : M.1[x]? = some (none, 1)) (kk : ∀ (H1 : Heap) (locs1 : List Loc), aRel D tyc r ((M.1, M.2.1, M.2.2.1, aUp M.2.2.2 q j.toNatClampNeg (some x))) A s.heap H1 locs1 → W p l e R s m args below meth c H1 locs1 (cells) (slots) Q (F0 m (pc + len) lsR (st))) : W p l e R s m args below meth c H locs (cells) (slots) Q (F0 m (pc) lsR (.ref (r x) :: .int j :: .ref (r q) :: st)) := by
  obtain ⟨hx, hb, hml, hown, hts, hK, hnm, hne, hao, hao2⟩ := C
  simp only [aLkR, Bool.and_eq_true, decide_eq_true_eq] at hk
  obtain ⟨rfl, rfl⟩ := hk
  subst hC
  have hset : (aW tyc r M).set q (r q, .inl (tyc (.object RX1), n, .inr (.inr (.inr (.inr (va_up (fun j => (M.2.2.2 q j).map r) j.toNatClampNeg (some (r x)))))))) = aW tyc r (M.1, M.2.1, M.2.2.1, aUp M.2.2.2 q j.toNatClampNeg (some x)) := aW_set hs rfl (by
      have e : va_up (fun j => (M.2.2.2 q j).map r) j.toNatClampNeg (some (r x)) = fun b => (aUp M.2.2.2 q j.toNatClampNeg (some x) q b).map r := by
        funext b
        by_cases hb : b = j.toNatClampNeg <;> simp [va_up, aUp, hb]
      rw [e]; rfl) (fun k sk hk => by
        refine aCell_row ?_ ?_ ?_ <;> first | rfl | exact aUp_row _ _ _ _ hk)
  refine va_astq (D := D) (r := (RX1, TX1, 7)) hx hb hK hR.1 hR.2.1 hR.2.2.1 q 3 x 1 (aW_get hs) rfl (aW_get hs2) rfl hin hd ?_
  rw [hset]
  intro H1 locs1 a1 a2 a3
  refine kk H1 locs1 ⟨a1, a2, a3, ?_, hR.2.2.2.2⟩
  intro a b z h1
  simp only [aUp] at h1
  split at h1
  · cases h1
    exact Or.inl (List.getElem?_eq_some_iff.mp hs2).1
  · exact hR.2.2.2.1 a b z h1
theorem as_alen_i (C : aCx p s m args meth c y D tyc) {n : Nat} (hk : aLkR y pc (.arraylength) h raw len = true) (hd : decode (mB y) pc = .ok (raw, len)) (hR : aRel D tyc r M A s.heap H locs) (hs : M.1[q]? = some (some .int, n)) (kk : W p l e R s m args below meth c H locs (cells) (slots) Q (F0 m (pc + len) lsR (.int (Int32.ofNat n) :: st))) : W p l e R s m args below meth c H locs (cells) (slots) Q (F0 m (pc) lsR (.ref (r q) :: st)) := by
  obtain ⟨hx, hb, hml, hown, hts, hK, hnm, hne, hao, hao2⟩ := C
  simp only [aLkR, Bool.and_eq_true, decide_eq_true_eq] at hk
  obtain ⟨rfl, rfl⟩ := hk
  exact va_alen (D := D) hx hb hK hR.1 q 0 (aW_get hs) rfl rfl hd kk
theorem as_alen_c (C : aCx p s m args meth c y D tyc) {n : Nat} (hk : aLkR y pc (.arraylength) h raw len = true) (hd : decode (mB y) pc = .ok (raw, len)) (hR : aRel D tyc r M A s.heap H locs) (hs : M.1[q]? = some (some .char, n)) (kk : W p l e R s m args below meth c H locs (cells) (slots) Q (F0 m (pc + len) lsR (.int (Int32.ofNat n) :: st))) : W p l e R s m args below meth c H locs (cells) (slots) Q (F0 m (pc) lsR (.ref (r q) :: st)) := by
  obtain ⟨hx, hb, hml, hown, hts, hK, hnm, hne, hao, hao2⟩ := C
  simp only [aLkR, Bool.and_eq_true, decide_eq_true_eq] at hk
  obtain ⟨rfl, rfl⟩ := hk
  exact va_alen (D := D) hx hb hK hR.1 q 1 (aW_get hs) rfl rfl hd kk
end AS2
