/-! both sides: image (p83.py) -/
/-- a row's octets so far -/
def picL (I : aFI) (c : Nat) (P : List Int) : Prop := ∀ k : Nat, k < P.length → I c k = iI (P.getD k 0)
theorem getD_app1 {P : List Int} {v : Int} {k : Nat} (h : k < P.length) : (P ++ [v]).getD k 0 = P.getD k 0 := by
  simp [List.getD, List.getElem?_append, h]
theorem getD_app2 {P : List Int} {v : Int} : (P ++ [v]).getD P.length 0 = v := by
  simp [List.getD]
theorem picL.app {I : aFI} {c : Nat} {P : List Int} {v : Int} (h : picL I c P) : picL (aUp I c P.length (iI v)) c (P ++ [v]) := by
  intro k hk
  rw [List.length_append, List.length_singleton] at hk
  by_cases hkl : k = P.length
  · subst hkl; rw [getD_app2]; exact up_eq
  · rw [up_ne (by omega), getD_app1 (by omega)]; exact h k (by omega)
theorem picL.fr {I I2 : aFI} {c : Nat} {P : List Int} (h : picL I c P) (h0 : ∀ k : Nat, I2 c k = I c k) : picL I2 c P := fun k hk => (h0 k).trans (h k hk)
/-- the check sum -/
def ckF (f : Nat → Int) : Nat → Int
  | 0 => 31
  | k + 1 => (3 * ckF f k + f k) % 251
theorem ckF_rg {f : Nat → Int} : ∀ k : Nat, 0 ≤ ckF f k ∧ ckF f k ≤ 250
  | 0 => by unfold ckF; omega
  | k + 1 => by unfold ckF; omega
theorem ckF_same {f g : Nat → Int} : ∀ n : Nat, (∀ k : Nat, k < n → f k = g k) → ckF f n = ckF g n
  | 0, _ => rfl
  | n + 1, h => by unfold ckF; rw [ckF_same n (fun k hk => h k (by omega)), h n (by omega)]
def imH (X : Lk) : Nat → List Int
  | 0 => []
  | k + 1 => imH X k ++ [X3 X k / 256] ++ [X3 X k % 256]
def imD (X : Lk) : Nat → List Int
  | 0 => imH X 3
  | i + 1 => imD X i ++ [if tb X.2.2.2.1 i = true then 1 else 0] ++ [X.2.2.2.2.1 i / 256] ++ [X.2.2.2.2.1 i % 256] ++ [X.2.2.2.2.2 i]
def imZ (D : Nat → Int → Int) (X : Lk) : List Int := imD X (D 1 2).toNat ++ [ckF (fun k => (imD X (D 1 2).toNat).getD k 0) (imD X (D 1 2).toNat).length]
theorem imH_len {X : Lk} : ∀ k : Nat, (imH X k).length = 2 * k
  | 0 => rfl
  | k + 1 => by unfold imH; rw [List.length_append, List.length_append, imH_len k]; simp only [List.length_singleton]; omega
theorem imD_len {X : Lk} : ∀ i : Nat, (imD X i).length = 6 + 4 * i
  | 0 => imH_len 3
  | i + 1 => by unfold imD; rw [List.length_append, List.length_append, List.length_append, List.length_append, imD_len i]; simp only [List.length_singleton]; omega
/-- all are octets -/
def oct8 (P : List Int) : Prop := ∀ v ∈ P, 0 ≤ v ∧ v ≤ 255
theorem oct8.app {P : List Int} {v : Int} (h : oct8 P) (hv : 0 ≤ v ∧ v ≤ 255) : oct8 (P ++ [v]) := fun x hx => by
  rcases List.mem_append.mp hx with z | z
  · exact h x z
  · rw [List.mem_singleton.mp z]; exact hv
theorem oct8.at {P : List Int} (h : oct8 P) (k : Nat) : 0 ≤ P.getD k 0 ∧ P.getD k 0 ≤ 255 := by
  by_cases hk : k < P.length
  · have : P.getD k 0 = P[k] := by simp [List.getD, hk]
    rw [this]; exact h _ (List.getElem_mem hk)
  · have : P.getD k 0 = 0 := by simp [List.getD, List.getElem?_eq_none (by omega : P.length ≤ k)]
    omega
abbrev imOK (X : Lk) : Prop := (0 ≤ X.1 ∧ X.1 ≤ 9999) ∧ (0 ≤ X.2.1 ∧ X.2.1 ≤ 9999) ∧ (0 ≤ X.2.2.1 ∧ X.2.2.1 ≤ 9999) ∧ ∀ j : Int, 0 ≤ j → j < 8 → (0 ≤ X.2.2.2.2.1 j ∧ X.2.2.2.2.1 j ≤ 9999) ∧ (0 ≤ X.2.2.2.2.2 j ∧ X.2.2.2.2.2 j ≤ 99)
theorem X3_rg {X : Lk} (h : imOK X) (j : Int) : 0 ≤ X3 X j ∧ X3 X j ≤ 9999 := by
  have h1 := h.1
  have h2 := h.2.1
  have h3 := h.2.2.1
  unfold X3; split <;> (try split) <;> omega
theorem imH_oct {X : Lk} (h : imOK X) : ∀ k : Nat, oct8 (imH X k)
  | 0 => fun v hv => (by cases hv)
  | k + 1 => by
    have hx := X3_rg h k
    exact ((imH_oct h k).app (by omega)).app (by omega)
theorem imD_oct {X : Lk} (h : imOK X) : ∀ i : Nat, i ≤ 8 → oct8 (imD X i)
  | 0, _ => imH_oct h 3
  | i + 1, hi => by
    have hx := h.2.2.2 i (by omega) (by omega)
    exact ((((imD_oct h i (by omega)).app (by split <;> omega)).app (by omega)).app (by omega)).app (by omega)
theorem shr8_ok : (List.range 10000).all (fun v => decide (iI (v : Nat) >>> (iI 8 &&& 31) = iI ((v / 256 : Nat) : Int))) = true := by decide +kernel
theorem shr8 {v : Int} (h : 0 ≤ v ∧ v ≤ 9999) : iI v >>> (iI 8 &&& 31) = iI (v / 256) := by
  have h1 := of_decide_eq_true (List.all_eq_true.mp shr8_ok v.toNat (List.mem_range.mpr (by omega)))
  rw [Int.toNat_of_nonneg h.1] at h1
  rw [h1]; exact congrArg iI (by omega)
theorem and8 {v : Int} (h : 0 ≤ v ∧ v ≤ 9999) : iI v &&& iI 255 = iI (v % 256) := by
  have h1 : iI ((v.toNat : Nat) : Int) &&& iI ((255 : Nat) : Int) = iI ((v.toNat &&& 255 : Nat) : Int) := iI_and _ _
  rw [Int.toNat_of_nonneg h.1] at h1
  refine h1.trans (congrArg iI ?_)
  rw [show (255 : Nat) = 2 ^ 8 - 1 from rfl, Nat.and_two_pow_sub_one_eq_mod]
  omega
set_option maxHeartbeats 2000000 in
theorem t_ck235_1 {d : Nat} {I : aFI} {L : aFL} {Q : aPo} {sh : Nat} {su : Option Nat} {f : Nat → Int} {m : Nat} (hm : m ≤ 39) (hf : ∀ k : Nat, k < m → I 235 k = iI (f k)) (hr : ∀ k : Nat, k < m → 0 ≤ f k ∧ f k ≤ 255) : ∀ (n : Nat) (i : Nat), m + 1 - i < n → (i ≤ m) → (Q (some (.int (iI (ckF f m)))) I L (aR sh su)) → aWp none d 247 5 [.ref 235, .int (iI (m : Int)), .int (iI (ckF f i)), .int (iI (i : Int))] [] I L (aR sh su) Q := by
  intro n
  induction n with
  | zero => intro i h; omega
  | succ n ih =>
    intro i hn2 h1 k
    have hcr := ckF_rg (f := f) i
    refine w_iload c_247_5 rfl ?_
    refine w_iload c_247_6 rfl ?_
    refine z_ic_ge c_247_7 (by first | exact aRg_of _ | (unfold aRg; omega)) (by first | exact aRg_of _ | (unfold aRg; omega)) (fun h1_ => ?_) (fun h1_ => ?_)
    · refine w_iload c_247_28 rfl ?_
      refine z_ret c_247_29 rfl ?_
      have e9 : i = m := by omega
      subst e9
      exact k
    · refine z_push c_247_10 ?_
      refine w_iload c_247_11 rfl ?_
      refine z_imul c_247_12 ?_
      refine w_aload c_247_13 rfl ?_
      refine w_iload c_247_14 rfl ?_
      have hfr := hr i (by omega)
      refine z_iaload c_247_15 sp_235 (by omega) (by first | decide | omega) (hf i (by omega)) ?_
      refine z_iadd c_247_16 ?_
      refine z_push c_247_17 ?_
      refine z_irem c_247_20 (by omega) (by omega) ?_
      refine w_istore c_247_21 (Nat.le_of_ble_eq_true rfl) rfl ?_
      refine z_iinc c_247_22 rfl rfl ?_
      refine w_goto c_247_25 ?_
      have hA := ih (i + 1) (by omega) (by omega) k
      exact hA

set_option maxHeartbeats 1000000 in
theorem t_ck235 {d : Nat} {I : aFI} {L : aFL} {Q : aPo} {sh : Nat} {su : Option Nat} {f : Nat → Int} {m : Nat} (hm : m ≤ 39) (hf : ∀ k : Nat, k < m → I 235 k = iI (f k)) (hr : ∀ k : Nat, k < m → 0 ≤ f k ∧ f k ≤ 255) (k : Q (some (.int (iI (ckF f m)))) I L (aR sh su)) : aWp none d 247 0 [.ref 235, .int (iI (m : Int)), .null, .null] [] I L (aR sh su) Q := by
  refine z_push c_247_0 ?_
  refine w_istore c_247_2 (Nat.le_of_ble_eq_true rfl) rfl ?_
  refine z_push c_247_3 ?_
  refine w_istore c_247_4 (Nat.le_of_ble_eq_true rfl) rfl ?_
  exact t_ck235_1 hm hf hr _ 0 (Nat.lt_succ_self _) (by omega) k

set_option maxHeartbeats 2000000 in
theorem t_ck158_1 {d : Nat} {I : aFI} {L : aFL} {Q : aPo} {sh : Nat} {su : Option Nat} {f : Nat → Int} {m : Nat} (hm : m ≤ 1600) (hf : ∀ k : Nat, k < m → I 158 k = iI (f k)) (hr : ∀ k : Nat, k < m → 0 ≤ f k ∧ f k ≤ 255) : ∀ (n : Nat) (i : Nat), m + 1 - i < n → (i ≤ m) → (Q (some (.int (iI (ckF f m)))) I L (aR sh su)) → aWp none d 247 5 [.ref 158, .int (iI (m : Int)), .int (iI (ckF f i)), .int (iI (i : Int))] [] I L (aR sh su) Q := by
  intro n
  induction n with
  | zero => intro i h; omega
  | succ n ih =>
    intro i hn2 h1 k
    have hcr := ckF_rg (f := f) i
    refine w_iload c_247_5 rfl ?_
    refine w_iload c_247_6 rfl ?_
    refine z_ic_ge c_247_7 (by first | exact aRg_of _ | (unfold aRg; omega)) (by first | exact aRg_of _ | (unfold aRg; omega)) (fun h1_ => ?_) (fun h1_ => ?_)
    · refine w_iload c_247_28 rfl ?_
      refine z_ret c_247_29 rfl ?_
      have e9 : i = m := by omega
      subst e9
      exact k
    · refine z_push c_247_10 ?_
      refine w_iload c_247_11 rfl ?_
      refine z_imul c_247_12 ?_
      refine w_aload c_247_13 rfl ?_
      refine w_iload c_247_14 rfl ?_
      have hfr := hr i (by omega)
      refine z_iaload c_247_15 sp_158 (by omega) (by first | decide | omega) (hf i (by omega)) ?_
      refine z_iadd c_247_16 ?_
      refine z_push c_247_17 ?_
      refine z_irem c_247_20 (by omega) (by omega) ?_
      refine w_istore c_247_21 (Nat.le_of_ble_eq_true rfl) rfl ?_
      refine z_iinc c_247_22 rfl rfl ?_
      refine w_goto c_247_25 ?_
      have hA := ih (i + 1) (by omega) (by omega) k
      exact hA

set_option maxHeartbeats 1000000 in
theorem t_ck158 {d : Nat} {I : aFI} {L : aFL} {Q : aPo} {sh : Nat} {su : Option Nat} {f : Nat → Int} {m : Nat} (hm : m ≤ 1600) (hf : ∀ k : Nat, k < m → I 158 k = iI (f k)) (hr : ∀ k : Nat, k < m → 0 ≤ f k ∧ f k ≤ 255) (k : Q (some (.int (iI (ckF f m)))) I L (aR sh su)) : aWp none d 247 0 [.ref 158, .int (iI (m : Int)), .null, .null] [] I L (aR sh su) Q := by
  refine z_push c_247_0 ?_
  refine w_istore c_247_2 (Nat.le_of_ble_eq_true rfl) rfl ?_
  refine z_push c_247_3 ?_
  refine w_istore c_247_4 (Nat.le_of_ble_eq_true rfl) rfl ?_
  exact t_ck158_1 hm hf hr _ 0 (Nat.lt_succ_self _) (by omega) k

set_option maxHeartbeats 2000000 in
theorem tc_ck155_1 {d : Nat} {I : aFI} {L : aFL} {Q : aPo} {sh : Nat} {su : Option Nat} {f : Nat → Int} {m : Nat} (hm : m ≤ 39) (hf : ∀ k : Nat, k < m → I 155 k = iI (f k)) (hr : ∀ k : Nat, k < m → 0 ≤ f k ∧ f k ≤ 255) : ∀ (n : Nat) (i : Nat), m + 1 - i < n → (i ≤ m) → (Q (some (.int (iI (ckF f m)))) I L (aR sh su)) → aWp none d 126 5 [.ref 155, .int (iI (m : Int)), .int (iI (ckF f i)), .int (iI (i : Int))] [] I L (aR sh su) Q := by
  intro n
  induction n with
  | zero => intro i h; omega
  | succ n ih =>
    intro i hn2 h1 k
    have hcr := ckF_rg (f := f) i
    refine w_iload c_126_5 rfl ?_
    refine w_iload c_126_6 rfl ?_
    refine z_ic_ge c_126_7 (by first | exact aRg_of _ | (unfold aRg; omega)) (by first | exact aRg_of _ | (unfold aRg; omega)) (fun h1_ => ?_) (fun h1_ => ?_)
    · refine w_iload c_126_34 rfl ?_
      refine z_ret c_126_35 rfl ?_
      have e9 : i = m := by omega
      subst e9
      exact k
    · refine w_iload c_126_10 rfl ?_
      refine w_aload c_126_11 rfl ?_
      refine w_alen_i c_126_12 sp_155 (iI_nat _) ?_
      refine z_ic_ge c_126_13 (by first | exact aRg_of _ | (unfold aRg; omega)) (by first | exact aRg_of _ | (unfold aRg; omega)) (fun h2_ => ?_) (fun h2_ => ?_)
      · refine w_iload c_126_34 rfl ?_
        refine z_ret c_126_35 rfl ?_
        have e9 : i = m := by omega
        subst e9
        exact k
      · refine z_push c_126_16 ?_
        refine w_iload c_126_17 rfl ?_
        refine z_imul c_126_18 ?_
        refine w_aload c_126_19 rfl ?_
        refine w_iload c_126_20 rfl ?_
        have hfr := hr i (by omega)
        refine z_iaload c_126_21 sp_155 (by omega) (by first | decide | omega) (hf i (by omega)) ?_
        refine z_iadd c_126_22 ?_
        refine z_push c_126_23 ?_
        refine z_irem c_126_26 (by omega) (by omega) ?_
        refine w_istore c_126_27 (Nat.le_of_ble_eq_true rfl) rfl ?_
        refine z_iinc c_126_28 rfl rfl ?_
        refine w_goto c_126_31 ?_
        have hA := ih (i + 1) (by omega) (by omega) k
        exact hA

set_option maxHeartbeats 1000000 in
theorem tc_ck155 {d : Nat} {I : aFI} {L : aFL} {Q : aPo} {sh : Nat} {su : Option Nat} {f : Nat → Int} {m : Nat} (hm : m ≤ 39) (hf : ∀ k : Nat, k < m → I 155 k = iI (f k)) (hr : ∀ k : Nat, k < m → 0 ≤ f k ∧ f k ≤ 255) (k : Q (some (.int (iI (ckF f m)))) I L (aR sh su)) : aWp none d 126 0 [.ref 155, .int (iI (m : Int)), .null, .null] [] I L (aR sh su) Q := by
  refine z_push c_126_0 ?_
  refine w_istore c_126_2 (Nat.le_of_ble_eq_true rfl) rfl ?_
  refine z_push c_126_3 ?_
  refine w_istore c_126_4 (Nat.le_of_ble_eq_true rfl) rfl ?_
  exact tc_ck155_1 hm hf hr _ 0 (Nat.lt_succ_self _) (by omega) k

set_option maxHeartbeats 2000000 in
theorem tc_ck1_1 {d : Nat} {I : aFI} {L : aFL} {Q : aPo} {sh : Nat} {su : Option Nat} {f : Nat → Int} {m : Nat} (hm : m ≤ 1600) (hf : ∀ k : Nat, k < m → I 1 k = iI (f k)) (hr : ∀ k : Nat, k < m → 0 ≤ f k ∧ f k ≤ 255) : ∀ (n : Nat) (i : Nat), m + 1 - i < n → (i ≤ m) → (Q (some (.int (iI (ckF f m)))) I L (aR sh su)) → aWp none d 126 5 [.ref 1, .int (iI (m : Int)), .int (iI (ckF f i)), .int (iI (i : Int))] [] I L (aR sh su) Q := by
  intro n
  induction n with
  | zero => intro i h; omega
  | succ n ih =>
    intro i hn2 h1 k
    have hcr := ckF_rg (f := f) i
    refine w_iload c_126_5 rfl ?_
    refine w_iload c_126_6 rfl ?_
    refine z_ic_ge c_126_7 (by first | exact aRg_of _ | (unfold aRg; omega)) (by first | exact aRg_of _ | (unfold aRg; omega)) (fun h1_ => ?_) (fun h1_ => ?_)
    · refine w_iload c_126_34 rfl ?_
      refine z_ret c_126_35 rfl ?_
      have e9 : i = m := by omega
      subst e9
      exact k
    · refine w_iload c_126_10 rfl ?_
      refine w_aload c_126_11 rfl ?_
      refine w_alen_i c_126_12 sp_1 (iI_nat _) ?_
      refine z_ic_ge c_126_13 (by first | exact aRg_of _ | (unfold aRg; omega)) (by first | exact aRg_of _ | (unfold aRg; omega)) (fun h2_ => ?_) (fun h2_ => ?_)
      · refine w_iload c_126_34 rfl ?_
        refine z_ret c_126_35 rfl ?_
        have e9 : i = m := by omega
        subst e9
        exact k
      · refine z_push c_126_16 ?_
        refine w_iload c_126_17 rfl ?_
        refine z_imul c_126_18 ?_
        refine w_aload c_126_19 rfl ?_
        refine w_iload c_126_20 rfl ?_
        have hfr := hr i (by omega)
        refine z_iaload c_126_21 sp_1 (by omega) (by first | decide | omega) (hf i (by omega)) ?_
        refine z_iadd c_126_22 ?_
        refine z_push c_126_23 ?_
        refine z_irem c_126_26 (by omega) (by omega) ?_
        refine w_istore c_126_27 (Nat.le_of_ble_eq_true rfl) rfl ?_
        refine z_iinc c_126_28 rfl rfl ?_
        refine w_goto c_126_31 ?_
        have hA := ih (i + 1) (by omega) (by omega) k
        exact hA

set_option maxHeartbeats 1000000 in
theorem tc_ck1 {d : Nat} {I : aFI} {L : aFL} {Q : aPo} {sh : Nat} {su : Option Nat} {f : Nat → Int} {m : Nat} (hm : m ≤ 1600) (hf : ∀ k : Nat, k < m → I 1 k = iI (f k)) (hr : ∀ k : Nat, k < m → 0 ≤ f k ∧ f k ≤ 255) (k : Q (some (.int (iI (ckF f m)))) I L (aR sh su)) : aWp none d 126 0 [.ref 1, .int (iI (m : Int)), .null, .null] [] I L (aR sh su) Q := by
  refine z_push c_126_0 ?_
  refine w_istore c_126_2 (Nat.le_of_ble_eq_true rfl) rfl ?_
  refine z_push c_126_3 ?_
  refine w_istore c_126_4 (Nat.le_of_ble_eq_true rfl) rfl ?_
  exact tc_ck1_1 hm hf hr _ 0 (Nat.lt_succ_self _) (by omega) k

abbrev POct : Nat → Nat → Prop := fun q k => (q = 157 ∧ k = 108) ∨ q = 235
abbrev PPic : Nat → Nat → Prop := fun q k => (q = 0 ∧ k = 13) ∨ q = 155
set_option maxHeartbeats 1000000 in
theorem t_writes {d : Nat} {I : aFI} {L : aFL} {Q : aPo} {sh : Nat} {su : Option Nat} {P : List Int} {v : Int} (hn : I 157 108 = iI (P.length : Int)) (hP : picL I 235 P) (hl : P.length < 39) (k : ∀ I2 : aFI, I2 157 108 = iI ((P ++ [v]).length : Int) → picL I2 235 (P ++ [v]) → frG POct I I2 → Q none I2 L (aR sh su)) : aWp none d 248 0 [.ref 157, .int (iI v)] [] I L (aR sh su) Q := by
  refine w_aload c_248_0 rfl ?_
  refine w_getR c_248_1 sp_157 (by decide) rfl pr_157_107 ?_
  refine w_aload c_248_4 rfl ?_
  refine z_getZ c_248_5 sp_157 (by decide) rfl hn ?_
  refine w_iload c_248_8 rfl ?_
  refine z_iastore c_248_9 sp_235 (by omega) (by decide) ?_
  refine upG_k (frG.rf (P := POct) (I := I)) (Or.inr rfl) (fun I1 hi hF1 => ?_)
  have hP1 : picL I1 235 (P ++ [v]) := by rw [hi]; exact hP.app
  have hn1 : I1 157 108 = iI (P.length : Int) := by rw [hi]; exact (up_ne (by omega)).trans hn
  refine w_aload c_248_10 rfl ?_
  refine w_dup c_248_11 rfl ?_
  refine z_getZ c_248_12 sp_157 (by decide) rfl hn1 ?_
  refine z_push c_248_15 ?_
  refine z_iadd c_248_16 ?_
  refine z_putZ c_248_17 sp_157 (by decide) rfl ?_
  refine upG_k hF1 (Or.inl ⟨rfl, rfl⟩) (fun I2 hi2 hF2 => ?_)
  refine z_retv c_248_20 ?_
  exact k I2 (by rw [hi2]; exact up_eq.trans (congrArg iI (by rw [List.length_append, List.length_singleton]; omega))) (hP1.fr (fun k => by rw [hi2]; exact up_ne (by omega))) hF2

set_option maxHeartbeats 1000000 in
theorem tc_putOctet {d : Nat} {I : aFI} {L : aFL} {Q : aPo} {sh : Nat} {su : Option Nat} {P : List Int} {v : Int} (hn : I 0 13 = iI (P.length : Int)) (hP : picL I 155 P) (hl : P.length < 39) (k : ∀ I2 : aFI, I2 0 13 = iI ((P ++ [v]).length : Int) → picL I2 155 (P ++ [v]) → frG PPic I I2 → Q none I2 L (aR sh su)) : aWp none d 124 0 [.ref 0, .int (iI v)] [] I L (aR sh su) Q := by
  refine w_aload c_124_0 rfl ?_
  refine z_getZ c_124_1 sp_0 (by decide) rfl hn ?_
  refine z_push c_124_4 ?_
  refine z_ic_ge c_124_6 (by first | exact aRg_of _ | (unfold aRg; omega)) (by first | exact aRg_of _ | (unfold aRg; omega)) (fun h1_ => ?_) (fun h1_ => ?_)
  · exfalso; omega
  refine w_aload c_124_9 rfl ?_
  refine w_getR c_124_10 sp_0 (by decide) rfl pr_0_12 ?_
  refine w_aload c_124_13 rfl ?_
  refine z_getZ c_124_14 sp_0 (by decide) rfl hn ?_
  refine w_iload c_124_17 rfl ?_
  refine z_iastore c_124_18 sp_155 (by omega) (by decide) ?_
  refine upG_k (frG.rf (P := PPic) (I := I)) (Or.inr rfl) (fun I1 hi hF1 => ?_)
  have hP1 : picL I1 155 (P ++ [v]) := by rw [hi]; exact hP.app
  have hn1 : I1 0 13 = iI (P.length : Int) := by rw [hi]; exact (up_ne (by omega)).trans hn
  refine w_aload c_124_19 rfl ?_
  refine w_dup c_124_20 rfl ?_
  refine z_getZ c_124_21 sp_0 (by decide) rfl hn1 ?_
  refine z_push c_124_24 ?_
  refine z_iadd c_124_25 ?_
  refine z_putZ c_124_26 sp_0 (by decide) rfl ?_
  refine upG_k hF1 (Or.inl ⟨rfl, rfl⟩) (fun I2 hi2 hF2 => ?_)
  refine z_retv c_124_29 ?_
  exact k I2 (by rw [hi2]; exact up_eq.trans (congrArg iI (by rw [List.length_append, List.length_singleton]; omega))) (hP1.fr (fun k => by rw [hi2]; exact up_ne (by omega))) hF2

set_option maxHeartbeats 1000000 in
theorem t_writesTwo {d : Nat} {I : aFI} {L : aFL} {Q : aPo} {sh : Nat} {su : Option Nat} {P : List Int} {v : Int} (hv : 0 ≤ v ∧ v ≤ 9999) (hn : I 157 108 = iI (P.length : Int)) (hP : picL I 235 P) (hl : P.length < 38) (hd : 1 ≤ d) (k : ∀ I2 : aFI, I2 157 108 = iI ((P ++ [v / 256] ++ [v % 256]).length : Int) → picL I2 235 (P ++ [v / 256] ++ [v % 256]) → frG POct I I2 → Q none I2 L (aR sh su)) : aWp none d 249 0 [.ref 157, .int (iI v)] [] I L (aR sh su) Q := by
  refine w_aload c_249_0 rfl ?_
  refine w_iload c_249_1 rfl ?_
  refine z_push c_249_2 ?_
  refine z_idiv c_249_5 (by omega) (by omega) ?_
  refine wc_248 c_249_6 sp_157 (Nat.le_of_ble_eq_true rfl) (by omega) ?_
  refine t_writes hn hP (by omega) (fun I1 hn1 hP1 hF1 => ?_)
  refine r_v ?_
  refine w_aload c_249_9 rfl ?_
  refine w_iload c_249_10 rfl ?_
  refine z_push c_249_11 ?_
  refine z_irem c_249_14 (by omega) (by omega) ?_
  refine wc_248 c_249_15 sp_157 (Nat.le_of_ble_eq_true rfl) (by omega) ?_
  refine t_writes hn1 hP1 (by rw [List.length_append, List.length_singleton]; omega) (fun I2 hn2 hP2 hF2 => ?_)
  refine r_v ?_
  refine z_retv c_249_18 ?_
  exact k I2 hn2 hP2 (hF1.tr hF2)

set_option maxHeartbeats 1000000 in
theorem tc_putPair {d : Nat} {I : aFI} {L : aFL} {Q : aPo} {sh : Nat} {su : Option Nat} {P : List Int} {v : Int} (hv : 0 ≤ v ∧ v ≤ 9999) (hn : I 0 13 = iI (P.length : Int)) (hP : picL I 155 P) (hl : P.length < 38) (hd : 1 ≤ d) (k : ∀ I2 : aFI, I2 0 13 = iI ((P ++ [v / 256] ++ [v % 256]).length : Int) → picL I2 155 (P ++ [v / 256] ++ [v % 256]) → frG PPic I I2 → Q none I2 L (aR sh su)) : aWp none d 125 0 [.ref 0, .int (iI v)] [] I L (aR sh su) Q := by
  refine w_aload c_125_0 rfl ?_
  refine w_iload c_125_1 rfl ?_
  refine z_push c_125_2 ?_
  refine w_ishr c_125_4 (shr8 hv) ?_
  refine wc_124 c_125_5 sp_0 (Nat.le_of_ble_eq_true rfl) (by omega) ?_
  refine tc_putOctet hn hP (by omega) (fun I1 hn1 hP1 hF1 => ?_)
  refine r_v ?_
  refine w_aload c_125_8 rfl ?_
  refine w_iload c_125_9 rfl ?_
  refine z_push c_125_10 ?_
  refine w_iand c_125_13 (and8 hv) ?_
  refine wc_124 c_125_14 sp_0 (Nat.le_of_ble_eq_true rfl) (by omega) ?_
  refine tc_putOctet hn1 hP1 (by rw [List.length_append, List.length_singleton]; omega) (fun I2 hn2 hP2 hF2 => ?_)
  refine r_v ?_
  refine z_retv c_125_17 ?_
  exact k I2 hn2 hP2 (hF1.tr hF2)

theorem rS.oc {I I0 : aFI} {D : Nat → Int → Int} {cd : Nat → Option (List Int)} {X : Lk} (h : rS I0 D cd X) (hF : frG POct I0 I) : rS I D cd X := ⟨h.1.fr (fun q k z1 z2 => hF q k (by omega)) (hF 157 56 (by decide)), h.2.fr (fun k z => hF 202 k (by omega))⟩
set_option maxHeartbeats 2000000 in
theorem t_image_1 {d : Nat} {I0 : aFI} {L : aFL} {Q : aPo} {sh : Nat} {su : Option Nat} {D : Nat → Int → Int} {cd : Nat → Option (List Int)} {X : Lk} (hS : wfS D cd) (hR0 : rS I0 D cd X) (him : imOK X) (hd : 3 ≤ d) : ∀ (n : Nat) (i : Nat) (I : aFI), 4 - i < n → (i ≤ 3) → (I 157 108 = iI ((imH X i).length : Int)) → (picL I 235 (imH X i)) → (frG POct I0 I) → (∀ I2 : aFI, I2 157 108 = iI ((imH X 3).length : Int) → picL I2 235 (imH X 3) → frG POct I0 I2 → aWp none d 250 28 [.ref 157, .int (iI ((3 : Nat) : Int))] [] I2 L (aR sh su) Q) → aWp none d 250 7 [.ref 157, .int (iI (i : Int))] [] I L (aR sh su) Q := by
  intro n
  induction n with
  | zero => intro i I h; omega
  | succ n ih =>
    intro i I hn2 h1 hn hP hF k
    have hR := hR0.oc hF
    refine w_iload c_250_7 rfl ?_
    refine z_push c_250_8 ?_
    refine z_ic_ge c_250_9 (by first | exact aRg_of _ | (unfold aRg; omega)) (by first | exact aRg_of _ | (unfold aRg; omega)) (fun h1_ => ?_) (fun h1_ => ?_)
    · have e9 : i = 3 := by omega
      subst e9
      exact k I hn hP hF
    · refine w_aload c_250_12 rfl ?_
      refine w_aload c_250_13 rfl ?_
      refine w_getR c_250_14 sp_157 (by decide) rfl pr_157_58 ?_
      refine w_iload c_250_17 rfl ?_
      refine z_iaload c_250_18 sp_202 (by omega) (by first | decide | omega) (rX3 hR.2 (by omega) (by omega)) ?_
      refine wc_249 c_250_19 sp_157 (Nat.le_of_ble_eq_true rfl) (by omega) ?_
      refine t_writesTwo (X3_rg him i) hn hP (by rw [imH_len]; omega) (by omega) (fun I2 hn2 hP2 hF2 => ?_)
      refine r_v ?_
      refine z_iinc c_250_22 rfl rfl ?_
      refine w_goto c_250_25 ?_
      exact ih (i + 1) I2 (by omega) (by omega) hn2 hP2 (hF.tr hF2) k

set_option maxHeartbeats 2000000 in
theorem t_image_2 {d : Nat} {I0 : aFI} {L : aFL} {Q : aPo} {sh : Nat} {su : Option Nat} {D : Nat → Int → Int} {cd : Nat → Option (List Int)} {X : Lk} (hS : wfS D cd) (hR0 : rS I0 D cd X) (him : imOK X) (hd : 3 ≤ d) : ∀ (n : Nat) (i : Nat) (I : aFI), (D 1 2).toNat + 1 - i < n → ((i : Int) ≤ D 1 2) → (I 157 108 = iI ((imD X i).length : Int)) → (picL I 235 (imD X i)) → (frG POct I0 I) → (∀ I2 : aFI, I2 157 108 = iI ((imZ D X).length : Int) → picL I2 235 (imZ D X) → frG POct I0 I2 → Q (some (.int (iI ((imZ D X).length : Int)))) I2 L (aR sh su)) → aWp none d 250 30 [.ref 157, .int (iI (i : Int))] [] I L (aR sh su) Q := by
  intro n
  induction n with
  | zero => intro i I h; omega
  | succ n ih =>
    intro i I hn2 h1 hn hP hF k
    have hdd := hS.n
    have hR := hR0.oc hF
    refine w_iload c_250_30 rfl ?_
    refine w_aload c_250_31 rfl ?_
    refine wc_161 c_250_32 sp_157 (Nat.le_of_ble_eq_true rfl) (by omega) ?_
    refine t_deedMany hR.1.1 ?_
    refine r_i ?_
    refine z_ic_ge c_250_35 (by first | exact aRg_of _ | (unfold aRg; omega)) (by first | exact aRg_of _ | (unfold aRg; omega)) (fun h1_ => ?_) (fun h1_ => ?_)
    · refine w_aload c_250_79 rfl ?_
      refine w_aload c_250_80 rfl ?_
      refine w_getR c_250_81 sp_157 (by decide) rfl pr_157_107 ?_
      refine w_aload c_250_84 rfl ?_
      refine z_getZ c_250_85 sp_157 (by decide) rfl hn ?_
      refine wc_247 c_250_88 (Nat.le_of_ble_eq_true rfl) (by omega) ?_
      refine t_ck235 (f := fun k => (imD X i).getD k 0) (by rw [imD_len]; omega) hP (fun k _ => (imD_oct him i (by omega)).at k) ?_
      refine r_i ?_
      refine wc_248 c_250_91 sp_157 (Nat.le_of_ble_eq_true rfl) (by omega) ?_
      refine t_writes hn hP (by simp only [List.length_append, List.length_singleton, imD_len]; omega) (fun I1 hn1 hP1 hF1 => ?_)
      refine r_v ?_
      refine w_aload c_250_94 rfl ?_
      refine z_getZ c_250_95 sp_157 (by decide) rfl hn1 ?_
      refine z_ret c_250_98 rfl ?_
      have e9 : (D 1 2).toNat = i := by omega
      have hA := k I1
      unfold imZ at hA
      rw [e9] at hA
      exact hA hn1 hP1 (hF.tr hF1)
    · refine w_aload c_250_38 rfl ?_
      refine w_aload c_250_39 rfl ?_
      refine w_iload c_250_40 rfl ?_
      refine wc_163 c_250_41 sp_157 (Nat.le_of_ble_eq_true rfl) (by omega) ?_
      refine t_isWritten hR.2 ⟨by omega, by omega⟩ ?_
      refine r_i ?_
      refine b_if_eq c_250_44 (fun h2_ => ?_) (fun h2_ => ?_)
      · refine z_push c_250_51 ?_
        refine wc_248 c_250_52 sp_157 (Nat.le_of_ble_eq_true rfl) (by omega) ?_
        have hvv : (0 : Int) = (if tb X.2.2.2.1 (i : Int) = true then 1 else 0) := by rw [if_neg (by simp only [*]; exact Bool.noConfusion)]
        refine t_writes (v := (0 : Int)) hn hP (by simp only [List.length_append, List.length_singleton, imD_len]; omega) (fun I1 hn1 hP1 hF1 => ?_)
        rw [hvv] at hn1 hP1
        have hR1 := hR.oc hF1
        refine r_v ?_
        refine w_aload c_250_55 rfl ?_
        refine w_aload c_250_56 rfl ?_
        refine w_iload c_250_57 rfl ?_
        refine wc_164 c_250_58 sp_157 (Nat.le_of_ble_eq_true rfl) (by omega) ?_
        have hxi := him.2.2.2 i (by omega) (by omega)
        refine t_inkOf hR1.2 ⟨by omega, by omega⟩ ?_
        refine r_i ?_
        refine wc_249 c_250_61 sp_157 (Nat.le_of_ble_eq_true rfl) (by omega) ?_
        refine t_writesTwo (by omega) hn1 hP1 (by simp only [List.length_append, List.length_singleton, imD_len]; omega) (by omega) (fun I2 hn2 hP2 hF2 => ?_)
        have hR2 := hR1.oc hF2
        refine r_v ?_
        refine w_aload c_250_64 rfl ?_
        refine w_aload c_250_65 rfl ?_
        refine w_iload c_250_66 rfl ?_
        refine wc_165 c_250_67 sp_157 (Nat.le_of_ble_eq_true rfl) (by omega) ?_
        refine t_ageOf hR2.2 ⟨by omega, by omega⟩ ?_
        refine r_i ?_
        refine wc_248 c_250_70 sp_157 (Nat.le_of_ble_eq_true rfl) (by omega) ?_
        refine t_writes hn2 hP2 (by simp only [List.length_append, List.length_singleton, imD_len]; omega) (fun I3 hn3 hP3 hF3 => ?_)
        refine r_v ?_
        refine z_iinc c_250_73 rfl rfl ?_
        refine w_goto c_250_76 ?_
        exact ih (i + 1) I3 (by omega) (by omega) hn3 hP3 (((hF.tr hF1).tr hF2).tr hF3) k
      · refine z_push c_250_47 ?_
        refine w_goto c_250_48 ?_
        refine wc_248 c_250_52 sp_157 (Nat.le_of_ble_eq_true rfl) (by omega) ?_
        have hvv : (1 : Int) = (if tb X.2.2.2.1 (i : Int) = true then 1 else 0) := by rw [if_pos (by assumption)]
        refine t_writes (v := (1 : Int)) hn hP (by simp only [List.length_append, List.length_singleton, imD_len]; omega) (fun I1 hn1 hP1 hF1 => ?_)
        rw [hvv] at hn1 hP1
        have hR1 := hR.oc hF1
        refine r_v ?_
        refine w_aload c_250_55 rfl ?_
        refine w_aload c_250_56 rfl ?_
        refine w_iload c_250_57 rfl ?_
        refine wc_164 c_250_58 sp_157 (Nat.le_of_ble_eq_true rfl) (by omega) ?_
        have hxi := him.2.2.2 i (by omega) (by omega)
        refine t_inkOf hR1.2 ⟨by omega, by omega⟩ ?_
        refine r_i ?_
        refine wc_249 c_250_61 sp_157 (Nat.le_of_ble_eq_true rfl) (by omega) ?_
        refine t_writesTwo (by omega) hn1 hP1 (by simp only [List.length_append, List.length_singleton, imD_len]; omega) (by omega) (fun I2 hn2 hP2 hF2 => ?_)
        have hR2 := hR1.oc hF2
        refine r_v ?_
        refine w_aload c_250_64 rfl ?_
        refine w_aload c_250_65 rfl ?_
        refine w_iload c_250_66 rfl ?_
        refine wc_165 c_250_67 sp_157 (Nat.le_of_ble_eq_true rfl) (by omega) ?_
        refine t_ageOf hR2.2 ⟨by omega, by omega⟩ ?_
        refine r_i ?_
        refine wc_248 c_250_70 sp_157 (Nat.le_of_ble_eq_true rfl) (by omega) ?_
        refine t_writes hn2 hP2 (by simp only [List.length_append, List.length_singleton, imD_len]; omega) (fun I3 hn3 hP3 hF3 => ?_)
        refine r_v ?_
        refine z_iinc c_250_73 rfl rfl ?_
        refine w_goto c_250_76 ?_
        exact ih (i + 1) I3 (by omega) (by omega) hn3 hP3 (((hF.tr hF1).tr hF2).tr hF3) k

set_option maxHeartbeats 1000000 in
theorem t_image {d : Nat} {I : aFI} {L : aFL} {Q : aPo} {sh : Nat} {su : Option Nat} {D : Nat → Int → Int} {cd : Nat → Option (List Int)} {X : Lk} (hS : wfS D cd) (hR0 : rS I D cd X) (him : imOK X) (hd : 3 ≤ d) (k : ∀ I2 : aFI, I2 157 108 = iI ((imZ D X).length : Int) → picL I2 235 (imZ D X) → frG POct I I2 → Q (some (.int (iI ((imZ D X).length : Int)))) I2 L (aR sh su)) : aWp none d 250 0 [.ref 157, .null] [] I L (aR sh su) Q := by
  refine w_aload c_250_0 rfl ?_
  refine z_push c_250_1 ?_
  refine z_putZ c_250_2 sp_157 (by decide) rfl ?_
  refine upG_k (frG.rf (P := POct) (I := I)) (Or.inl ⟨rfl, rfl⟩) (fun I1 hi hF1 => ?_)
  have hdd := hS.n
  refine z_push c_250_5 ?_
  refine w_istore c_250_6 (Nat.le_of_ble_eq_true rfl) rfl ?_
  refine t_image_1 hS (hR0.oc hF1) him hd _ 0 I1 (Nat.lt_succ_self _) (by omega) (by rw [hi]; exact up_eq) (fun k hk => absurd hk (Nat.not_lt_zero _)) frG.rf (fun I2 hn2 hP2 hF2 => ?_)
  refine z_push c_250_28 ?_
  refine w_istore c_250_29 (Nat.le_of_ble_eq_true rfl) rfl ?_
  exact t_image_2 hS (hR0.oc (hF1.tr hF2)) him hd _ 0 I2 (Nat.lt_succ_self _) (by omega) hn2 hP2 frG.rf (fun I3 h1 h2 h3 => k I3 h1 h2 ((hF1.tr hF2).tr h3))

theorem cW.pc {I I0 : aFI} {sh : Nat} {D : Nat → Int → Int} {cd : Nat → Option (List Int)} (h : cW I0 sh D cd) (hsh : sh = 8 ∨ sh = 22) (hF : frG PPic I0 I) : cW I sh D cd := h.fr (fun p k z1 z2 => hF p k (by omega))
theorem isLk.pcx {I I0 : aFI} {kc : Int} {X : Lk} (h : lkX I0 36 kc X) (hF : frG PPic I0 I) : lkX I 36 kc X := h.fr (fun p k z1 z2 => hF p k (by omega))
set_option maxHeartbeats 2000000 in
theorem tc_image_2 {d : Nat} {I0 : aFI} {L : aFL} {Q : aPo} {sh : Nat} {su : Option Nat} {D : Nat → Int → Int} {cd : Nat → Option (List Int)} {X : Lk} {kc : Int} (hsh : sh = 8 ∨ sh = 22) (hS : wfS D cd) (hW0 : cW I0 sh D cd) (hL0 : lkX I0 36 kc X) (him : imOK X) (hw8 : X.2.2.2.1 < 256) (hd : 3 ≤ d) : ∀ (n : Nat) (i : Nat) (I : aFI), (D 1 2).toNat + 1 - i < n → ((i : Int) ≤ D 1 2) → (I 0 13 = iI ((imD X i).length : Int)) → (picL I 155 (imD X i)) → (frG PPic I0 I) → (∀ I2 : aFI, I2 0 13 = iI ((imZ D X).length : Int) → picL I2 155 (imZ D X) → frG PPic I0 I2 → Q (some (.int (iI ((imZ D X).length : Int)))) I2 L (aR sh su)) → aWp none d 104 40 [.ref 0, .int (iI (i : Int))] [] I L (aR sh su) Q := by
  intro n
  induction n with
  | zero => intro i I h; omega
  | succ n ih =>
    intro i I hn2 h1 hn hP hF k
    have hdd := hS.n
    have hW := hW0.pc hsh hF
    have hL := isLk.pcx hL0 hF
    refine w_iload c_104_40 rfl ?_
    refine w_aload c_104_41 rfl ?_
    refine w_getR c_104_42 sp_0 (by decide) rfl pr_0_3 ?_
    refine w_getR c_104_45 (sps_0 hsh) (by decide) rfl (prs_4 hsh) ?_
    refine z_push c_104_48 ?_
    refine z_iaload c_104_49 (sps_1 hsh) (by omega) (by first | decide | omega) (hW.1.a 1 (by omega) (by omega)) ?_
    refine z_ic_ge c_104_50 (by first | exact aRg_of _ | (unfold aRg; omega)) (by first | exact aRg_of _ | (unfold aRg; omega)) (fun h1_ => ?_) (fun h1_ => ?_)
    · refine w_aload c_104_105 rfl ?_
      refine w_aload c_104_106 rfl ?_
      refine w_getR c_104_107 sp_0 (by decide) rfl pr_0_12 ?_
      refine w_aload c_104_110 rfl ?_
      refine z_getZ c_104_111 sp_0 (by decide) rfl hn ?_
      refine wc_126 c_104_114 (Nat.le_of_ble_eq_true rfl) (by omega) ?_
      refine tc_ck155 (f := fun k => (imD X i).getD k 0) (by rw [imD_len]; omega) hP (fun k _ => (imD_oct him i (by omega)).at k) ?_
      refine r_i ?_
      refine wc_124 c_104_117 sp_0 (Nat.le_of_ble_eq_true rfl) (by omega) ?_
      refine tc_putOctet hn hP (by simp only [List.length_append, List.length_singleton, imD_len]; omega) (fun I1 hn1 hP1 hF1 => ?_)
      refine r_v ?_
      refine w_aload c_104_120 rfl ?_
      refine z_getZ c_104_121 sp_0 (by decide) rfl hn1 ?_
      refine z_ret c_104_124 rfl ?_
      have e9 : (D 1 2).toNat = i := by omega
      have hA := k I1
      unfold imZ at hA
      rw [e9] at hA
      exact hA hn1 hP1 (hF.tr hF1)
    · refine w_aload c_104_53 rfl ?_
      refine w_aload c_104_54 rfl ?_
      refine w_getR c_104_55 sp_0 (by decide) rfl pr_0_5 ?_
      refine w_iload c_104_58 rfl ?_
      refine wc_8 c_104_59 sp_36 (Nat.le_of_ble_eq_true rfl) (by omega) ?_
      refine tc_isWritten aLk_36 hL hw8 ⟨by omega, by omega⟩ ?_
      refine r_i ?_
      refine b_if_eq c_104_62 (fun h2_ => ?_) (fun h2_ => ?_)
      · refine z_push c_104_69 ?_
        refine wc_124 c_104_70 sp_0 (Nat.le_of_ble_eq_true rfl) (by omega) ?_
        have hvv : (0 : Int) = (if tb X.2.2.2.1 (i : Int) = true then 1 else 0) := by rw [if_neg (by simp only [*]; exact Bool.noConfusion)]
        refine tc_putOctet (v := (0 : Int)) hn hP (by simp only [List.length_append, List.length_singleton, imD_len]; omega) (fun I1 hn1 hP1 hF1 => ?_)
        rw [hvv] at hn1 hP1
        have hL1 := isLk.pcx hL hF1
        have hxi := him.2.2.2 i (by omega) (by omega)
        refine r_v ?_
        refine w_aload c_104_73 rfl ?_
        refine w_aload c_104_74 rfl ?_
        refine w_getR c_104_75 sp_0 (by decide) rfl pr_0_5 ?_
        refine w_getR c_104_78 sp_36 (by decide) rfl pr_36_5 ?_
        refine w_iload c_104_81 rfl ?_
        refine z_iaload c_104_82 sp_37 (by omega) (by first | decide | omega) (hL1.2.2.2.2.2 _ (by omega) (by omega)).1 ?_
        refine wc_125 c_104_83 sp_0 (Nat.le_of_ble_eq_true rfl) (by omega) ?_
        refine tc_putPair (by omega) hn1 hP1 (by simp only [List.length_append, List.length_singleton, imD_len]; omega) (by omega) (fun I2 hn2 hP2 hF2 => ?_)
        have hL2 := isLk.pcx hL1 hF2
        refine r_v ?_
        refine w_aload c_104_86 rfl ?_
        refine w_aload c_104_87 rfl ?_
        refine w_getR c_104_88 sp_0 (by decide) rfl pr_0_5 ?_
        refine w_getR c_104_91 sp_36 (by decide) rfl pr_36_6 ?_
        refine w_iload c_104_94 rfl ?_
        refine z_iaload c_104_95 sp_38 (by omega) (by first | decide | omega) (hL2.2.2.2.2.2 _ (by omega) (by omega)).2 ?_
        refine wc_124 c_104_96 sp_0 (Nat.le_of_ble_eq_true rfl) (by omega) ?_
        refine tc_putOctet hn2 hP2 (by simp only [List.length_append, List.length_singleton, imD_len]; omega) (fun I3 hn3 hP3 hF3 => ?_)
        refine r_v ?_
        refine z_iinc c_104_99 rfl rfl ?_
        refine w_goto c_104_102 ?_
        exact ih (i + 1) I3 (by omega) (by omega) hn3 hP3 (((hF.tr hF1).tr hF2).tr hF3) k
      · refine z_push c_104_65 ?_
        refine w_goto c_104_66 ?_
        refine wc_124 c_104_70 sp_0 (Nat.le_of_ble_eq_true rfl) (by omega) ?_
        have hvv : (1 : Int) = (if tb X.2.2.2.1 (i : Int) = true then 1 else 0) := by rw [if_pos (by assumption)]
        refine tc_putOctet (v := (1 : Int)) hn hP (by simp only [List.length_append, List.length_singleton, imD_len]; omega) (fun I1 hn1 hP1 hF1 => ?_)
        rw [hvv] at hn1 hP1
        have hL1 := isLk.pcx hL hF1
        have hxi := him.2.2.2 i (by omega) (by omega)
        refine r_v ?_
        refine w_aload c_104_73 rfl ?_
        refine w_aload c_104_74 rfl ?_
        refine w_getR c_104_75 sp_0 (by decide) rfl pr_0_5 ?_
        refine w_getR c_104_78 sp_36 (by decide) rfl pr_36_5 ?_
        refine w_iload c_104_81 rfl ?_
        refine z_iaload c_104_82 sp_37 (by omega) (by first | decide | omega) (hL1.2.2.2.2.2 _ (by omega) (by omega)).1 ?_
        refine wc_125 c_104_83 sp_0 (Nat.le_of_ble_eq_true rfl) (by omega) ?_
        refine tc_putPair (by omega) hn1 hP1 (by simp only [List.length_append, List.length_singleton, imD_len]; omega) (by omega) (fun I2 hn2 hP2 hF2 => ?_)
        have hL2 := isLk.pcx hL1 hF2
        refine r_v ?_
        refine w_aload c_104_86 rfl ?_
        refine w_aload c_104_87 rfl ?_
        refine w_getR c_104_88 sp_0 (by decide) rfl pr_0_5 ?_
        refine w_getR c_104_91 sp_36 (by decide) rfl pr_36_6 ?_
        refine w_iload c_104_94 rfl ?_
        refine z_iaload c_104_95 sp_38 (by omega) (by first | decide | omega) (hL2.2.2.2.2.2 _ (by omega) (by omega)).2 ?_
        refine wc_124 c_104_96 sp_0 (Nat.le_of_ble_eq_true rfl) (by omega) ?_
        refine tc_putOctet hn2 hP2 (by simp only [List.length_append, List.length_singleton, imD_len]; omega) (fun I3 hn3 hP3 hF3 => ?_)
        refine r_v ?_
        refine z_iinc c_104_99 rfl rfl ?_
        refine w_goto c_104_102 ?_
        exact ih (i + 1) I3 (by omega) (by omega) hn3 hP3 (((hF.tr hF1).tr hF2).tr hF3) k

set_option maxHeartbeats 1000000 in
theorem tc_image {d : Nat} {I : aFI} {L : aFL} {Q : aPo} {sh : Nat} {su : Option Nat} {D : Nat → Int → Int} {cd : Nat → Option (List Int)} {X : Lk} {kc : Int} (hsh : sh = 8 ∨ sh = 22) (hS : wfS D cd) (hW0 : cW I sh D cd) (hL0 : lkX I 36 kc X) (him : imOK X) (hw8 : X.2.2.2.1 < 256) (hd : 3 ≤ d) (k : ∀ I2 : aFI, I2 0 13 = iI ((imZ D X).length : Int) → picL I2 155 (imZ D X) → frG PPic I I2 → Q (some (.int (iI ((imZ D X).length : Int)))) I2 L (aR sh su)) : aWp none d 104 0 [.ref 0, .null] [] I L (aR sh su) Q := by
  have hm1 := him.1
  have hm2 := him.2.1
  have hm3 := him.2.2.1
  have hdd := hS.n
  refine w_aload c_104_0 rfl ?_
  refine z_push c_104_1 ?_
  refine z_putZ c_104_2 sp_0 (by decide) rfl ?_
  refine upG_k (frG.rf (P := PPic) (I := I)) (Or.inl ⟨rfl, rfl⟩) (fun I1 hi hF1 => ?_)
  have hL1 := isLk.pcx hL0 hF1
  have hn1 : I1 0 13 = iI ((imH X 0).length : Int) := by rw [hi]; exact up_eq
  have hP1 : picL I1 155 (imH X 0) := fun k hk => absurd hk (Nat.not_lt_zero _)
  refine w_aload c_104_5 rfl ?_
  refine w_aload c_104_6 rfl ?_
  refine w_getR c_104_7 sp_0 (by decide) rfl pr_0_5 ?_
  refine z_getZ c_104_10 sp_36 (by decide) rfl hL1.1 ?_
  refine wc_125 c_104_13 sp_0 (Nat.le_of_ble_eq_true rfl) (by omega) ?_
  refine tc_putPair (P := imH X 0) (by omega) hn1 hP1 (by rw [imH_len]; decide) (by omega) (fun I2 hn2 hP2 hF2 => ?_)
  have hL2 := isLk.pcx hL1 hF2
  refine r_v ?_
  refine w_aload c_104_16 rfl ?_
  refine w_aload c_104_17 rfl ?_
  refine w_getR c_104_18 sp_0 (by decide) rfl pr_0_5 ?_
  refine z_getZ c_104_21 sp_36 (by decide) rfl hL2.2.1 ?_
  refine wc_125 c_104_24 sp_0 (Nat.le_of_ble_eq_true rfl) (by omega) ?_
  refine tc_putPair (P := imH X 1) (by omega) hn2 hP2 (by rw [imH_len]; decide) (by omega) (fun I3 hn3 hP3 hF3 => ?_)
  have hL3 := isLk.pcx hL2 hF3
  refine r_v ?_
  refine w_aload c_104_27 rfl ?_
  refine w_aload c_104_28 rfl ?_
  refine w_getR c_104_29 sp_0 (by decide) rfl pr_0_5 ?_
  refine z_getZ c_104_32 sp_36 (by decide) rfl hL3.2.2.1 ?_
  refine wc_125 c_104_35 sp_0 (Nat.le_of_ble_eq_true rfl) (by omega) ?_
  refine tc_putPair (P := imH X 2) (by omega) hn3 hP3 (by rw [imH_len]; decide) (by omega) (fun I4 hn4 hP4 hF4 => ?_)
  have hL4 := isLk.pcx hL3 hF4
  refine r_v ?_
  refine z_push c_104_38 ?_
  refine w_istore c_104_39 (Nat.le_of_ble_eq_true rfl) rfl ?_
  exact tc_image_2 hsh hS (hW0.pc hsh (((hF1.tr hF2).tr hF3).tr hF4)) hL4 him hw8 hd _ 0 I4 (Nat.lt_succ_self _) (by omega) hn4 hP4 frG.rf (fun I5 h1 h2 h3 => k I5 h1 h2 ((((hF1.tr hF2).tr hF3).tr hF4).tr h3))

