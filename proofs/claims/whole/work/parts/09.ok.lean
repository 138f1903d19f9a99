/-! what a step keeps: cells don't go, references stay among them, locals keep their number -/
theorem aOkM_upR {M : aM} {q k x : Nat} (h : aOkM M) (hx : x < M.1.length ∨ x = aSTR ∨ x = aSCR) : aOkM (M.1, M.2.1, M.2.2.1, aUp M.2.2.2 q k (some x)) := by
  refine ⟨fun a b z hz => ?_, h.2⟩
  have hz : aUp M.2.2.2 q k (some x) a b = some z := hz
  simp only [aUp] at hz
  split at hz
  · cases hz; exact hx
  · exact h.1 a b z hz
def aKeep (ls : List Value) (M : aM) (ls2 st2 : List Value) (M2 : aM) : Prop := M.1.length ≤ M2.1.length ∧ aSz M.1 ≤ aSz M2.1 ∧ ls2.length = ls.length ∧ aOkM M2 ∧ aOkL M2.1.length ls2 ∧ aOkL M2.1.length st2
theorem aKeep_same {ls st2 : List Value} {M : aM} (hM : aOkM M) (hl : aOkL M.1.length ls) (hs : aOkL M.1.length st2) : aKeep ls M ls st2 M := ⟨Nat.le_refl _, Nat.le_refl _, rfl, hM, hl, hs⟩
theorem aKeep_ls {ls ls2 st2 : List Value} {M : aM} (hM : aOkM M) (hn : ls2.length = ls.length) (hl : aOkL M.1.length ls2) (hs : aOkL M.1.length st2) : aKeep ls M ls2 st2 M := ⟨Nat.le_refl _, Nat.le_refl _, hn, hM, hl, hs⟩
theorem aKeep_I {ls st2 : List Value} {M : aM} {I : Nat → Nat → Int32} {L : Nat → Nat → Int64} (hM : aOkM M) (hl : aOkL M.1.length ls) (hs : aOkL M.1.length st2) : aKeep ls M ls st2 (M.1, I, L, M.2.2.2) := ⟨Nat.le_refl _, Nat.le_refl _, rfl, hM, hl, hs⟩
theorem aKeep_R {ls st2 : List Value} {M : aM} {q k x : Nat} (hM : aOkM M) (hl : aOkL M.1.length ls) (hs : aOkL M.1.length st2) (hx : x < M.1.length ∨ x = aSTR ∨ x = aSCR) : aKeep ls M ls st2 (M.1, M.2.1, M.2.2.1, aUp M.2.2.2 q k (some x)) := ⟨Nat.le_refl _, Nat.le_refl _, rfl, aOkM_upR hM hx, hl, hs⟩
theorem aKeep_new {ls st2 : List Value} {M M2 : aM} {L : List aSh} (h1 : M2.1 = M.1 ++ L) (hle : M.1.length + L.length ≤ 1000000) (hR : ∀ a b z, M2.2.2.2 a b = some z → z < M.1.length + L.length ∨ z = aSTR ∨ z = aSCR) (hl : aOkL M.1.length ls) (hs : aOkL (M.1.length + L.length) st2) : aKeep ls M ls st2 M2 := by
  have e : M2.1.length = M.1.length + L.length := by rw [h1, List.length_append]
  refine ⟨by omega, by rw [h1, aSz_app]; omega, rfl, ⟨fun a b z hz => by rw [e]; exact hR a b z hz, by omega⟩, aOkL_mono hl (by omega), by rw [e]; exact hs⟩
theorem aOk_of_mem {n : Nat} {v : Value} {r : List Value} (h : aOkL n (v :: r)) : aOk n v ∧ aOkL n r := aOkL_cons.mp h
theorem aRow_none {f : Nat → Nat → Option Nat} {n m a b z : Nat} (hf : ∀ a b z, f a b = some z → z < n ∨ z = aSTR ∨ z = aSCR) (hnm : n ≤ m) (q : Nat) (h : aRow f q (fun _ => none) a b = some z) : z < m ∨ z = aSTR ∨ z = aSCR := by
  simp only [aRow] at h
  split at h
  · cases h
  · exact (hf a b z h).imp (fun w => Nat.lt_of_lt_of_le w hnm) id
theorem aKeep_multi {ls r : List Value} {M : aM} {n k : Int32} (hM : aOkM M) (hl : aOkL M.1.length ls) (hs : aOkL M.1.length r) (hq : ¬ (n < 0 ∨ k < 0 ∨ 1000 ≤ n.toNatClampNeg ∨ 1000000 ≤ k.toNatClampNeg ∨ 1000000 ≤ M.1.length + n.toNatClampNeg)) : aKeep ls M ls (.ref M.1.length :: r) ((M.1 ++ [(some (.array .int), n.toNatClampNeg)]) ++ List.replicate n.toNatClampNeg (some .int, k.toNatClampNeg), (fun a b => if M.1.length < a ∧ a ≤ M.1.length + n.toNatClampNeg then 0 else M.2.1 a b), M.2.2.1, aRow M.2.2.2 M.1.length (fun j => if j < n.toNatClampNeg then some (M.1.length + 1 + j) else none)) := by
  have e : ([((some (.array .int), n.toNatClampNeg) : aSh)] ++ List.replicate n.toNatClampNeg ((some .int, k.toNatClampNeg) : aSh)).length = n.toNatClampNeg + 1 := by simp
  refine aKeep_new (L := [(some (.array .int), n.toNatClampNeg)] ++ List.replicate n.toNatClampNeg (some .int, k.toNatClampNeg)) (List.append_assoc _ _ _) (by rw [e]; omega) (fun a b z hz => ?_) hl (aOkL_cons.mpr ⟨aOk_ref (Or.inl (by rw [e]; omega)), aOkL_mono hs (by omega)⟩)
  have hz : aRow M.2.2.2 M.1.length (fun j => if j < n.toNatClampNeg then some (M.1.length + 1 + j) else none) a b = some z := hz
  rw [e]
  simp only [aRow] at hz
  split at hz
  · split at hz
    · cases hz; exact Or.inl (by omega)
    · cases hz
  · exact (hM.1 a b z hz).imp (fun w => by omega) id
set_option maxHeartbeats 4000000 in
theorem aSt_ok {sc : Option (Nat × (Nat → Int32))} {wd : List Int32} {d : Nat} {i : Instr} {ls st ls2 st2 : List Value} {M M2 : aM} (h : aSt sc wd d i ls st M = some (ls2, st2, M2)) (hM : aOkM M) (hl : aOkL M.1.length ls) (hs : aOkL M.1.length st) : aKeep ls M ls2 st2 M2 := by
  unfold aSt at h
  split at h
  all_goals (repeat' split at h)
  all_goals (first | (cases h; done) | (simp only [Option.some.injEq, Prod.mk.injEq] at h; obtain ⟨rfl, rfl, rfl⟩ := h))
  all_goals (try simp only [aOkL_cons] at hs)
  all_goals first
    | exact aKeep_same hM hl hs.2
    | exact aKeep_same hM hl (by simp only [aOkL_cons]; first | exact ⟨aOk_int, hs⟩ | exact ⟨aOk_long, hs⟩ | exact ⟨aOk_int, hs.2⟩ | exact ⟨aOk_long, hs.2⟩ | exact ⟨aOk_int, hs.2.2⟩ | exact ⟨aOk_long, hs.2.2⟩ | exact ⟨aOk_ref (Or.inr (Or.inl rfl)), hs⟩ | exact ⟨hs.1, hs.1, hs.2⟩ | exact hs.2 | exact ⟨hs.1, hs.2.1, hs.1, hs.2.1, hs.2.2⟩ | exact ⟨aOkL_get hl (by assumption), hs⟩ | exact ⟨aFld_ok hM _ _ _, hs.2⟩ | exact ⟨aOk_rf hM _ _, hs.2.2⟩)
    | exact aKeep_ls hM (aSto_len _ _ _) (aOkL_sto _ hl hs.1) hs.2
    | exact aKeep_ls hM (aStoL_len _ _ _) (aOkL_stoL _ hl hs.1) hs.2
    | exact aKeep_ls hM (by simp) (aOkL_set _ hl aOk_int) hs
    | exact aKeep_I hM hl (by first | exact hs.2.2 | exact hs.2.2.2 | exact hs.2.2.2.2.2)
    | exact aKeep_R hM hl (by first | exact hs.2.2 | exact hs.2.2.2) (hs.1 _ rfl)
    | (refine aKeep_new (L := [_]) rfl (by simp; omega) (fun a b z hz => (hM.1 a b z hz).imp (fun w => Nat.lt_succ_of_lt w) id) hl (aOkL_cons.mpr ⟨aOk_ref (Or.inl (by simp)), aOkL_mono hs.2 (by omega)⟩))
    | (refine aKeep_new (L := [_]) rfl (by simp; omega) (fun a b z hz => aRow_none hM.1 (by omega) _ hz) hl (aOkL_cons.mpr ⟨aOk_ref (Or.inl (by simp)), aOkL_mono (by first | exact hs.2 | exact hs) (by omega)⟩))
    | exact aKeep_multi hM hl hs.2.2 (by assumption)
    | skip
