/-! what the readers do to a text, in plain words: places are Ints, T the bytes, e the length -/
def scn (p : Int → Bool) (e : Int) : Nat → Int → Int
  | 0, a => a
  | n + 1, a => if a < e ∧ p a = true then scn p e n (a + 1) else a
def scan (p : Int → Bool) (e a : Int) : Int := scn p e (e - a).toNat a
theorem scan_step {p : Int → Bool} {e a : Int} (h : a < e) (hp : p a = true) : scan p e a = scan p e (a + 1) := by
  unfold scan
  rw [show (e - a).toNat = (e - (a + 1)).toNat + 1 by omega]
  simp only [scn]
  rw [if_pos ⟨h, hp⟩]
theorem scan_stop {p : Int → Bool} {e a : Int} (h : ¬ (a < e ∧ p a = true)) : scan p e a = a := by
  unfold scan
  cases (e - a).toNat with
  | zero => rfl
  | succ n => simp only [scn]; rw [if_neg h]
theorem scn_spec {p : Int → Bool} {e : Int} : ∀ (n : Nat) (a : Int), (e - a).toNat = n → a ≤ scn p e n a ∧ (a ≤ e → scn p e n a ≤ e) ∧ (∀ j, a ≤ j → j < scn p e n a → p j = true) ∧ (scn p e n a < e → p (scn p e n a) = false)
  | 0, a, h => ⟨by simp only [scn]; omega, fun h => h, fun j h1 h2 => by simp only [scn] at h2; omega, fun h1 => by simp only [scn] at h1; omega⟩
  | n + 1, a, h => by
    have ih := scn_spec (p := p) (e := e) n (a + 1) (by omega)
    simp only [scn]
    by_cases hc : a < e ∧ p a = true
    · rw [if_pos hc]
      refine ⟨by omega, fun _ => ih.2.1 (by omega), fun j h1 h2 => ?_, ih.2.2.2⟩
      by_cases hj : j = a
      · rw [hj]; exact hc.2
      · exact ih.2.2.1 j (by omega) h2
    · rw [if_neg hc]
      refine ⟨Int.le_refl _, fun h => h, fun j h1 h2 => by omega, fun h1 => ?_⟩
      cases hp : p a with
      | false => rfl
      | true => exact absurd ⟨h1, hp⟩ hc
theorem scan_ge {p : Int → Bool} {e a : Int} : a ≤ scan p e a := (scn_spec _ a rfl).1
theorem scan_le {p : Int → Bool} {e a : Int} (h : a ≤ e) : scan p e a ≤ e := (scn_spec _ a rfl).2.1 h
theorem scan_all {p : Int → Bool} {e a j : Int} (h1 : a ≤ j) (h2 : j < scan p e a) : p j = true := (scn_spec _ a rfl).2.2.1 j h1 h2
theorem scan_end {p : Int → Bool} {e a : Int} (h : scan p e a < e) : p (scan p e a) = false := (scn_spec _ a rfl).2.2.2 h
def isBl (T : Int → Int) (a : Int) : Bool := decide (T a = 10 ∨ T a = 32)
def isLe (T : Int → Int) (a : Int) : Bool := decide (97 ≤ T a ∧ T a ≤ 122)
def isDi (T : Int → Int) (a : Int) : Bool := decide (48 ≤ T a ∧ T a ≤ 57)
abbrev skip (T : Int → Int) (e a : Int) : Int := scan (isBl T) e a
abbrev wend (T : Int → Int) (e a : Int) : Int := scan (isLe T) e a
abbrev dend (T : Int → Int) (e a : Int) : Int := scan (isDi T) e a
def lkc (T : Int → Int) (e a : Int) : Int := if a < e then T a else -1
theorem skip_step {T : Int → Int} {e a : Int} (h : a < e ∧ (T a = 10 ∨ T a = 32)) : skip T e a = skip T e (a + 1) := scan_step h.1 (by simp only [isBl]; exact decide_eq_true h.2)
theorem skip_stop {T : Int → Int} {e a : Int} (h : ¬ (a < e ∧ (T a = 10 ∨ T a = 32))) : skip T e a = a := scan_stop (fun z => h ⟨z.1, of_decide_eq_true z.2⟩)
theorem skip_skip {T : Int → Int} {e a : Int} : skip T e (skip T e a) = skip T e a := by
  apply scan_stop
  intro z
  rw [scan_end z.1] at z
  cases z.2
theorem wend_step {T : Int → Int} {e a : Int} (h : a < e ∧ (97 ≤ T a ∧ T a ≤ 122)) : wend T e a = wend T e (a + 1) := scan_step h.1 (decide_eq_true h.2)
theorem wend_stop {T : Int → Int} {e a : Int} (h : ¬ (a < e ∧ (97 ≤ T a ∧ T a ≤ 122))) : wend T e a = a := scan_stop (fun z => h ⟨z.1, of_decide_eq_true z.2⟩)
theorem dend_step {T : Int → Int} {e a : Int} (h : a < e ∧ (48 ≤ T a ∧ T a ≤ 57)) : dend T e a = dend T e (a + 1) := scan_step h.1 (decide_eq_true h.2)
theorem dend_stop {T : Int → Int} {e a : Int} (h : ¬ (a < e ∧ (48 ≤ T a ∧ T a ≤ 57))) : dend T e a = a := scan_stop (fun z => h ⟨z.1, of_decide_eq_true z.2⟩)
/-! the reference's reader: at, ended, bad, badPlace, numberPlace, namePlace over the rest of the cells -/
def oP (I : aFI) (a en b bp np nm : Int) : aFI := fun q k => if q = 157 ∧ k = 2 then iI a else if q = 157 ∧ k = 4 then iI en else if q = 157 ∧ k = 5 then iI b else if q = 157 ∧ k = 6 then iI bp else if q = 157 ∧ k = 10 then iI np else if q = 157 ∧ k = 43 then iI nm else I q k
section MP
variable {I : aFI} {a en b bp np nm x : Int}
theorem oP_at : aUp (oP I a en b bp np nm) 157 2 (iI x) = oP I x en b bp np nm := by
  funext q k; unfold aUp oP; by_cases h : q = 157 ∧ k = 2 <;> simp only [h, if_true, if_false, and_self] 
theorem oP_en : aUp (oP I a en b bp np nm) 157 4 (iI x) = oP I a x b bp np nm := by
  funext q k; unfold aUp oP; by_cases h : q = 157 ∧ k = 4
  · obtain ⟨rfl, rfl⟩ := h; rfl
  · simp only [h, if_false]
theorem oP_bad : aUp (oP I a en b bp np nm) 157 5 (iI x) = oP I a en x bp np nm := by
  funext q k; unfold aUp oP; by_cases h : q = 157 ∧ k = 5
  · obtain ⟨rfl, rfl⟩ := h; rfl
  · simp only [h, if_false]
theorem oP_bp : aUp (oP I a en b bp np nm) 157 6 (iI x) = oP I a en b x np nm := by
  funext q k; unfold aUp oP; by_cases h : q = 157 ∧ k = 6
  · obtain ⟨rfl, rfl⟩ := h; rfl
  · simp only [h, if_false]
theorem oP_np : aUp (oP I a en b bp np nm) 157 10 (iI x) = oP I a en b bp x nm := by
  funext q k; unfold aUp oP; by_cases h : q = 157 ∧ k = 10
  · obtain ⟨rfl, rfl⟩ := h; rfl
  · simp only [h, if_false]
theorem oP_nm : aUp (oP I a en b bp np nm) 157 43 (iI x) = oP I a en b bp np x := by
  funext q k; unfold aUp oP; by_cases h : q = 157 ∧ k = 43
  · obtain ⟨rfl, rfl⟩ := h; rfl
  · simp only [h, if_false]
theorem oP_out {q k : Nat} {v : Int32} (h : ¬ (q = 157 ∧ (k = 2 ∨ k = 4 ∨ k = 5 ∨ k = 6 ∨ k = 10 ∨ k = 43))) : aUp (oP I a en b bp np nm) q k v = oP (aUp I q k v) a en b bp np nm := by
  funext q2 k2
  unfold aUp oP
  by_cases h2 : q2 = q ∧ k2 = k
  · obtain ⟨rfl, rfl⟩ := h2
    simp only [and_self, if_true]
    rw [if_neg (fun z => h ⟨z.1, Or.inl z.2⟩), if_neg (fun z => h ⟨z.1, Or.inr (Or.inl z.2)⟩), if_neg (fun z => h ⟨z.1, Or.inr (Or.inr (Or.inl z.2))⟩), if_neg (fun z => h ⟨z.1, Or.inr (Or.inr (Or.inr (Or.inl z.2)))⟩), if_neg (fun z => h ⟨z.1, Or.inr (Or.inr (Or.inr (Or.inr (Or.inl z.2))))⟩), if_neg (fun z => h ⟨z.1, Or.inr (Or.inr (Or.inr (Or.inr (Or.inr z.2))))⟩)]
  · simp only [h2, if_false]
end MP
def oB (I : aFI) (T : Int → Int) (e : Int) : Prop := I 157 3 = iI e ∧ (∀ j : Int, 0 ≤ j → j < 1600 → I 158 j.toNat = iI (T j)) ∧ (0 ≤ e ∧ e ≤ 1600) ∧ ∀ j : Int, 0 ≤ T j ∧ T j < 256
