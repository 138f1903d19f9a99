/-! PURE: the text as marks: state (where the next is looked for, where the last word or number ended) -/
section TOK
variable (T : Int → Int) (n : Int)
def wids : List Nat := [160, 161, 162, 163, 164, 165, 166, 167, 168, 169, 170, 171, 172, 173, 174, 175, 176, 177, 178, 179, 180, 181, 182, 183, 184, 185, 186, 187, 188, 189, 190, 191, 208, 209, 210, 211, 212, 213]
/-- a word's letters -/
def wrd (p : Int) : List Int := (List.range (wend T n p - p).toNat).map (fun j => T (p + (j : Nat)))
def wkL (l : List Int) : List Nat → Int → Int
  | [], c => c
  | w :: r, c => if l = WL w then c else wkL l r (c + 1)
/-- the mark of a word -/
def wkC (l : List Int) : Int := wkL l wids 300
def tkN (s : Int × Int) : Int × Int := if isLe T (skip T n s.1) = true then (wend T n (skip T n s.1), wend T n (skip T n s.1)) else if isDi T (skip T n s.1) = true then (dend T n (skip T n s.1), dend T n (skip T n s.1)) else (skip T n s.1 + 1, s.2)
def tkS : Nat → Int × Int
  | 0 => (0, -1)
  | j + 1 => if skip T n (tkS j).1 < n then tkN T n (tkS j) else tkS j
def tkP (j : Nat) : Int := skip T n (tkS T n j).1
def tkK (j : Nat) : Int := if n ≤ tkP T n j then 341 else if isLe T (tkP T n j) = true then (if tkP T n j = (tkS T n j).2 then 340 else wkC (wrd T n (tkP T n j))) else if isDi T (tkP T n j) = true then (if tkP T n j = (tkS T n j).2 then 340 else 339) else T (tkP T n j)
def tkZ (j : Nat) : Int := if n ≤ tkP T n j then 0 else if isLe T (tkP T n j) = true then wend T n (tkP T n j) - tkP T n j else if isDi T (tkP T n j) = true then (if 4 < dend T n (tkP T n j) - tkP T n j then -1 else nval T n (tkP T n j)) else 1
end TOK
/-- the mark that a word of the reference's asks for -/
def wcode (q : Nat) : Int := wkC (WL q)
section TK2
variable {T : Int → Int} {n : Int}
theorem wkL_ge {l : List Int} : ∀ (r : List Nat) (c : Int), c ≤ wkL l r c ∧ wkL l r c ≤ c + r.length
  | [], c => by unfold wkL; simp
  | w :: r, c => by
    have h := wkL_ge (l := l) r (c + 1)
    unfold wkL
    rw [List.length_cons]
    split <;> omega
theorem wkL_eq {l l2 : List Int} : ∀ (r : List Nat) (c : Int), wkL l2 r c < c + r.length → wkL l r c = wkL l2 r c → l = l2
  | [], c, h, _ => by unfold wkL at h; simp at h
  | w :: r, c, h, he => by
    rw [List.length_cons] at h
    have h1 := wkL_ge (l := l) r (c + 1)
    have h2 := wkL_ge (l := l2) r (c + 1)
    unfold wkL at h he
    by_cases hl : l = WL w
    · rw [if_pos hl] at he
      by_cases hl2 : l2 = WL w
      · rw [hl, hl2]
      · rw [if_neg hl2] at he; omega
    · rw [if_neg hl] at he
      by_cases hl2 : l2 = WL w
      · rw [if_pos hl2] at he; omega
      · rw [if_neg hl2] at he h
        exact wkL_eq r (c + 1) (by omega) he
theorem wcode_ok : (List.range 72).all (fun i => decide (¬ (i ≤ 31 ∨ (48 ≤ i ∧ i ≤ 71)) ∨ (wcode (160 + i) < 338 ∧ 300 ≤ wcode (160 + i)))) = true := by decide +kernel
theorem wcode_rg {q : Nat} (h : isWd q) : 300 ≤ wcode q ∧ wcode q < 338 := by
  have h1 := h
  unfold isWd at h1
  have h2 := List.all_eq_true.mp wcode_ok (q - 160) (List.mem_range.mpr (by omega))
  rw [decide_eq_true_eq, show 160 + (q - 160) = q by omega] at h2
  rcases h2 with h2 | h2
  · exfalso; omega
  · exact h2.symm
theorem wkC_rg {l : List Int} : 300 ≤ wkC l ∧ wkC l ≤ 338 := wkL_ge (l := l) wids 300
theorem wkC_wd {l : List Int} {q : Nat} (h : isWd q) : wkC l = wcode q ↔ l = WL q := by
  constructor
  · intro he
    have h1 := wcode_rg h
    exact wkL_eq wids 300 (show wkL (WL q) wids 300 < 300 + 38 by unfold wcode wkC at h1; omega) he
  · intro h; exact congrArg wkC h
/-- the words that are the language's own -/
theorem own_ok : (List.range 32).all (fun i => decide (wcode (160 + i) = 300 + (i : Int))) = true := by decide +kernel
theorem wcode_own {q : Nat} (h : 160 ≤ q ∧ q ≤ 191) : wcode q = 140 + (q : Int) := by
  have h2 := List.all_eq_true.mp own_ok (q - 160) (List.mem_range.mpr (by omega))
  rw [decide_eq_true_eq, show 160 + (q - 160) = q by omega] at h2
  rw [h2]; omega
theorem wrd_wm {p : Int} {q : Nat} : wm T n p (WL q).length (Wf q) = true ↔ wrd T n p = WL q := by
  have hge : p ≤ wend T n p := scan_ge
  rw [wm_iff]
  constructor
  · rintro ⟨h1, h2⟩
    apply List.ext_getElem?
    intro i
    unfold wrd
    rw [List.getElem?_map]
    by_cases hi : i < (WL q).length
    · rw [List.getElem?_range (by omega), List.getElem?_eq_getElem hi]
      have h3 := h2 (i : Int) (by omega) (by omega)
      simp only [Option.map_some]
      rw [h3]
      unfold Wf
      rw [Int.toNat_natCast, List.getElem?_eq_getElem hi]; rfl
    · rw [List.getElem?_eq_none (by rw [List.length_range]; omega), List.getElem?_eq_none (by omega)]; rfl
  · intro h
    have hl : (wend T n p - p).toNat = (WL q).length := by rw [← h]; unfold wrd; rw [List.length_map, List.length_range]
    refine ⟨by omega, fun j h1 h2 => ?_⟩
    have h3 : (wrd T n p)[j.toNat]? = (WL q)[j.toNat]? := by rw [h]
    unfold wrd at h3
    rw [List.getElem?_map, List.getElem?_range (by omega)] at h3
    unfold Wf
    rw [← h3]
    simp only [Option.map_some, Option.getD_some]
    rw [Int.toNat_of_nonneg h1]
variable {j : Nat}
/-- where the marks' states lie -/
theorem tkS_rg (hn : 0 ≤ n) : ∀ j : Nat, (0 ≤ (tkS T n j).1 ∧ (tkS T n j).1 ≤ n) ∧ (-1 ≤ (tkS T n j).2 ∧ (tkS T n j).2 ≤ (tkS T n j).1)
  | 0 => by unfold tkS; simp; omega
  | j + 1 => by
    have ih := tkS_rg hn j
    unfold tkS
    split
    · rename_i hq
      have h1 : (tkS T n j).1 ≤ skip T n (tkS T n j).1 := scan_ge
      unfold tkN
      split
      · have h2 : skip T n (tkS T n j).1 ≤ wend T n (skip T n (tkS T n j).1) := scan_ge
        have h3 : wend T n (skip T n (tkS T n j).1) ≤ n := scan_le (by omega)
        exact ⟨⟨by show 0 ≤ wend _ _ _; omega, h3⟩, ⟨by show -1 ≤ wend _ _ _; omega, Int.le_refl _⟩⟩
      · split
        · have h2 : skip T n (tkS T n j).1 ≤ dend T n (skip T n (tkS T n j).1) := scan_ge
          have h3 : dend T n (skip T n (tkS T n j).1) ≤ n := scan_le (by omega)
          exact ⟨⟨by show 0 ≤ dend _ _ _; omega, h3⟩, ⟨by show -1 ≤ dend _ _ _; omega, Int.le_refl _⟩⟩
        · exact ⟨⟨by show 0 ≤ _ + 1; omega, by show _ + 1 ≤ n; omega⟩, ⟨ih.2.1, by show _ ≤ skip _ _ _ + 1; omega⟩⟩
    · exact ih
theorem tkP_rg (hn : 0 ≤ n) : 0 ≤ tkP T n j ∧ tkP T n j ≤ n := by
  have h := (tkS_rg (T := T) hn j).1
  have h1 : (tkS T n j).1 ≤ skip T n (tkS T n j).1 := scan_ge
  have h2 : skip T n (tkS T n j).1 ≤ n := scan_le h.2
  unfold tkP; omega
/-- at a mark's place stands no blank -/
theorem tkP_nb (h : tkP T n j < n) : ¬ (T (tkP T n j) = 10 ∨ T (tkP T n j) = 32) := by
  have h1 := scan_end (p := isBl T) (e := n) (a := (tkS T n j).1) h
  exact fun z => Bool.noConfusion ((decide_eq_true z).symm.trans h1)
theorem tkP_sk : skip T n (tkP T n j) = tkP T n j := skip_skip
theorem isLe_iff {a : Int} : isLe T a = true ↔ 97 ≤ T a ∧ T a ≤ 122 := decide_eq_true_iff
theorem isDi_iff {a : Int} : isDi T a = true ↔ 48 ≤ T a ∧ T a ≤ 57 := decide_eq_true_iff
/-- what a mark says of the octet at its place -/
theorem tkK_sign (hT : ∀ j : Int, 0 ≤ T j ∧ T j < 256) {c : Int} (hc : 0 ≤ c ∧ c < 256) (h1 : ¬ (97 ≤ c ∧ c ≤ 122)) (h2 : ¬ (48 ≤ c ∧ c ≤ 57)) : tkK T n j = c ↔ lkc T n (tkP T n j) = c := by
  have hw := wkC_rg (l := wrd T n (tkP T n j))
  have ht := hT (tkP T n j)
  unfold tkK lkc
  by_cases hp : tkP T n j < n
  · rw [if_neg (by omega), if_pos hp]
    by_cases hl : isLe T (tkP T n j) = true
    · have := isLe_iff.mp hl
      rw [if_pos hl]
      constructor
      · intro z; split at z <;> omega
      · intro z; omega
    · rw [if_neg hl]
      by_cases hd : isDi T (tkP T n j) = true
      · have := isDi_iff.mp hd
        rw [if_pos hd]
        constructor
        · intro z; split at z <;> omega
        · intro z; omega
      · rw [if_neg hd]
  · rw [if_pos (by omega), if_neg hp]; omega
theorem tkK_end (hT : ∀ j : Int, 0 ≤ T j ∧ T j < 256) : tkK T n j = 341 ↔ lkc T n (tkP T n j) = -1 := by
  have hw := wkC_rg (l := wrd T n (tkP T n j))
  have ht := hT (tkP T n j)
  unfold tkK lkc
  by_cases hp : tkP T n j < n
  · rw [if_neg (by omega), if_pos hp]
    constructor
    · intro z; (repeat' split at z) <;> omega
    · intro z; omega
  · rw [if_pos (by omega), if_neg hp]; omega
theorem tkK_word (hT : ∀ j : Int, 0 ≤ T j ∧ T j < 256) (hn : 0 ≤ n ∧ n ≤ 1600) {q : Nat} (hq : isWd q) : tkK T n j = wcode q ↔ atW T n (tkS T n j).2 (tkP T n j) q = true := by
  have hr := wcode_rg hq
  have hpr := tkP_rg (T := T) (j := j) hn.1
  have ht := hT (tkP T n j)
  have hwl : wend T n (tkP T n j) ≤ n := scan_le hpr.2
  unfold atW hereB tkK
  by_cases hp : tkP T n j < n
  · rw [if_neg (by omega), decide_eq_true hp, Bool.true_and]
    by_cases hl : isLe T (tkP T n j) = true
    · rw [if_pos hl, hl, Bool.true_and]
      by_cases he : tkP T n j = (tkS T n j).2
      · rw [if_pos he, decide_eq_false (fun z => z he), Bool.false_and]
        constructor
        · intro z; omega
        · intro z; cases z
      · rw [if_neg he, decide_eq_true he, Bool.true_and, wrd_wm]
        exact wkC_wd hq
    · rw [if_neg hl]
      have hlf : isLe T (tkP T n j) = false := by cases h : isLe T (tkP T n j); rfl; exact absurd h hl
      rw [hlf, Bool.false_and]
      constructor
      · intro z
        exfalso
        split at z
        · split at z <;> omega
        · omega
      · intro z; cases z
  · rw [if_pos (by omega), decide_eq_false hp, Bool.false_and]
    constructor
    · intro z; omega
    · intro z; cases z
theorem tkK_dig (hT : ∀ j : Int, 0 ≤ T j ∧ T j < 256) : tkK T n j = 339 ↔ digAt T n (tkS T n j).2 (tkP T n j) = true := by
  have hw := wkC_rg (l := wrd T n (tkP T n j))
  have ht := hT (tkP T n j)
  unfold digAt tkK
  rw [decide_eq_true_iff]
  by_cases hp : tkP T n j < n
  · rw [if_neg (by omega)]
    by_cases hl : isLe T (tkP T n j) = true
    · have := isLe_iff.mp hl
      rw [if_pos hl]
      constructor
      · intro z; exfalso; split at z <;> omega
      · intro z; omega
    · rw [if_neg hl]
      by_cases hd : isDi T (tkP T n j) = true
      · have hd2 := isDi_iff.mp hd
        rw [if_pos hd]
        by_cases he : tkP T n j = (tkS T n j).2
        · rw [if_pos he]; constructor
          · intro z; omega
          · intro z; exact absurd he z.2.2
        · rw [if_neg he]; exact ⟨fun _ => ⟨hp, hd2, he⟩, fun _ => rfl⟩
      · rw [if_neg hd]
        constructor
        · intro z; omega
        · intro z; exact absurd (isDi_iff.mpr z.2.1) hd
  · rw [if_pos (by omega)]
    constructor
    · intro z; omega
    · intro z; omega
theorem ownB_iff {en p : Int} : ownB T n en p = true ↔ ∃ q : Nat, (160 ≤ q ∧ q ≤ 191) ∧ atW T n en p q = true := by
  unfold ownB
  simp only [Bool.or_eq_true]
  constructor
  · intro h
    rcases h with ((((((((((((((((((((((((((((((h | h) | h) | h) | h) | h) | h) | h) | h) | h) | h) | h) | h) | h) | h) | h) | h) | h) | h) | h) | h) | h) | h) | h) | h) | h) | h) | h) | h) | h) | h) | h <;> exact ⟨_, by omega, h⟩
  · rintro ⟨q, h1, h2⟩
    obtain ⟨i, hi, rfl⟩ : ∃ i : Nat, i < 32 ∧ q = 160 + i := ⟨q - 160, by omega, by omega⟩
    have : i = 0 ∨ i = 1 ∨ i = 2 ∨ i = 3 ∨ i = 4 ∨ i = 5 ∨ i = 6 ∨ i = 7 ∨ i = 8 ∨ i = 9 ∨ i = 10 ∨ i = 11 ∨ i = 12 ∨ i = 13 ∨ i = 14 ∨ i = 15 ∨ i = 16 ∨ i = 17 ∨ i = 18 ∨ i = 19 ∨ i = 20 ∨ i = 21 ∨ i = 22 ∨ i = 23 ∨ i = 24 ∨ i = 25 ∨ i = 26 ∨ i = 27 ∨ i = 28 ∨ i = 29 ∨ i = 30 ∨ i = 31 := by omega
    rcases this with rfl | rfl | rfl | rfl | rfl | rfl | rfl | rfl | rfl | rfl | rfl | rfl | rfl | rfl | rfl | rfl | rfl | rfl | rfl | rfl | rfl | rfl | rfl | rfl | rfl | rfl | rfl | rfl | rfl | rfl | rfl | rfl <;> simp [h2]
theorem tkK_name (hT : ∀ j : Int, 0 ≤ T j ∧ T j < 256) (hn : 0 ≤ n ∧ n ≤ 1600) : (332 ≤ tkK T n j ∧ tkK T n j ≤ 338) ↔ nmAt T n (tkS T n j).2 (tkP T n j) = true := by
  have hw := wkC_rg (l := wrd T n (tkP T n j))
  have ht := hT (tkP T n j)
  have hown : ownB T n (tkS T n j).2 (tkP T n j) = true ↔ 300 ≤ tkK T n j ∧ tkK T n j ≤ 331 := by
    rw [ownB_iff]
    constructor
    · rintro ⟨q, h1, h2⟩
      have h3 := (tkK_word hT hn (j := j) (q := q) (Or.inl h1)).mpr h2
      rw [h3, wcode_own h1]; omega
    · intro h
      refine ⟨(tkK T n j - 140).toNat, by omega, ?_⟩
      refine (tkK_word hT hn (Or.inl (by omega))).mp ?_
      rw [wcode_own (by omega)]; omega
  unfold nmAt
  rw [Bool.and_eq_true, decide_eq_true_iff, Bool.not_eq_true']
  have hno : ownB T n (tkS T n j).2 (tkP T n j) = false ↔ ¬ (300 ≤ tkK T n j ∧ tkK T n j ≤ 331) := by
    rw [← hown]; cases ownB T n (tkS T n j).2 (tkP T n j) <;> simp
  rw [hno]
  have hk : tkK T n j = if n ≤ tkP T n j then 341 else if isLe T (tkP T n j) = true then (if tkP T n j = (tkS T n j).2 then 340 else wkC (wrd T n (tkP T n j))) else if isDi T (tkP T n j) = true then (if tkP T n j = (tkS T n j).2 then 340 else 339) else T (tkP T n j) := rfl
  by_cases hp : tkP T n j < n
  · rw [if_neg (by omega)] at hk
    by_cases hl : isLe T (tkP T n j) = true
    · have hl2 := isLe_iff.mp hl
      rw [if_pos hl] at hk
      by_cases he : tkP T n j = (tkS T n j).2
      · rw [if_pos he] at hk
        constructor
        · intro z; omega
        · intro z; exact absurd he z.1.2.2
      · rw [if_neg he] at hk
        constructor
        · intro z; exact ⟨⟨hp, hl2, he⟩, by omega⟩
        · intro z; omega
    · rw [if_neg hl] at hk
      constructor
      · intro z; exfalso
        split at hk
        · split at hk <;> omega
        · omega
      · intro z; exact absurd (isLe_iff.mpr z.1.2.1) hl
  · rw [if_pos (by omega)] at hk
    constructor
    · intro z; omega
    · intro z; omega
/-- the next state -/
theorem tkS_word (h : tkP T n j < n) (hl : isLe T (tkP T n j) = true) : tkS T n (j + 1) = (wend T n (tkP T n j), wend T n (tkP T n j)) := by
  show (if tkP T n j < n then (if isLe T (tkP T n j) = true then (wend T n (tkP T n j), wend T n (tkP T n j)) else if isDi T (tkP T n j) = true then (dend T n (tkP T n j), dend T n (tkP T n j)) else (tkP T n j + 1, (tkS T n j).2)) else tkS T n j) = _
  rw [if_pos h, if_pos hl]
theorem tkS_dig (h : tkP T n j < n) (hd : isDi T (tkP T n j) = true) : tkS T n (j + 1) = (dend T n (tkP T n j), dend T n (tkP T n j)) := by
  have hl : ¬ isLe T (tkP T n j) = true := by rw [isLe_iff]; have := isDi_iff.mp hd; omega
  show (if tkP T n j < n then (if isLe T (tkP T n j) = true then (wend T n (tkP T n j), wend T n (tkP T n j)) else if isDi T (tkP T n j) = true then (dend T n (tkP T n j), dend T n (tkP T n j)) else (tkP T n j + 1, (tkS T n j).2)) else tkS T n j) = _
  rw [if_pos h, if_neg hl, if_pos hd]
theorem tkS_sign (h : tkP T n j < n) (hl : ¬ isLe T (tkP T n j) = true) (hd : ¬ isDi T (tkP T n j) = true) : tkS T n (j + 1) = (tkP T n j + 1, (tkS T n j).2) := by
  show (if tkP T n j < n then (if isLe T (tkP T n j) = true then (wend T n (tkP T n j), wend T n (tkP T n j)) else if isDi T (tkP T n j) = true then (dend T n (tkP T n j), dend T n (tkP T n j)) else (tkP T n j + 1, (tkS T n j).2)) else tkS T n j) = _
  rw [if_pos h, if_neg hl, if_neg hd]
end TK2
