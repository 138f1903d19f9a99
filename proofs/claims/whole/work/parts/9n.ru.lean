/-! PURE: a rule or a question read by both (9n) -/
theorem cAt_inv {C : Int → Int} : ∀ {l1 l2 : List Int} {k : Int}, cAt C k (l1 ++ l2) → cAt C k l1 ∧ cAt C (k + l1.length) l2
  | [], l2, k, h => ⟨trivial, by simpa using h⟩
  | m :: r, l2, k, h => by
    have h2 := cAt_inv (l1 := r) h.2
    refine ⟨⟨h.1, h2.1⟩, ?_⟩
    have hl : ((m :: r).length : Int) = r.length + 1 := by simp
    rw [hl, show k + ((r.length : Int) + 1) = k + 1 + r.length by omega]; exact h2.2
theorem cRl_rev {C : Int → Int} {lo : Int} : ∀ r : List Int, cAt C lo r.reverse → cRl C lo r.length = r.map cmap
  | [], _ => rfl
  | x :: r, h => by
    rw [List.reverse_cons] at h
    have h2 := cAt_inv h
    rw [List.length_reverse] at h2
    rw [List.length_cons]
    show cmap (C (lo + r.length)) :: cRl C lo r.length = _
    rw [cRl_rev r h2.1, h2.2.1]; rfl
theorem cAt_rl {C : Int → Int} {lo : Int} {l : List Int} (h : cAt C lo l) : cRl C lo l.length = (l.map cmap).reverse := by
  have := cRl_rev (C := C) (lo := lo) l.reverse (by rw [List.reverse_reverse]; exact h)
  rw [List.length_reverse] at this
  rw [this, List.map_reverse]
theorem okM_map {rl : Int} : ∀ {l : List Int}, (∀ x ∈ l, okM rl x) → (l.map cmap).map ucm = l
  | [], _ => rfl
  | x :: r, h => by
    rw [List.map_cons, List.map_cons, ucm_cmap (h x List.mem_cons_self), okM_map (fun y hy => h y (List.mem_cons_of_mem x hy))]
theorem tkZ_rg {T : Int → Int} {n : Int} (hn : 0 ≤ n ∧ n ≤ 1600) (j : Nat) : tkZ T n j = -1 ∨ (0 ≤ tkZ T n j ∧ tkZ T n j ≤ 9999) := by
  have hpr := tkP_rg (T := T) (n := n) (j := j) hn.1
  have h1 : wend T n (tkP T n j) ≤ n := scan_le hpr.2
  have h2 : tkP T n j ≤ wend T n (tkP T n j) := scan_ge
  have h3 : tkP T n j ≤ dend T n (tkP T n j) := scan_ge
  unfold tkZ
  split
  · omega
  · split
    · omega
    · split
      · split
        · omega
        · rename_i h4
          have h5 := nv_rg (T := T) (p := tkP T n j) (dend T n (tkP T n j) - tkP T n j).toNat (by omega) (fun i h3 h4 => isDi_iff.mp (scan_all (p := isDi T) (e := n) (a := tkP T n j) (by omega) (show tkP T n j + i < dend T n (tkP T n j) by omega)))
          unfold nval; omega
      · omega
abbrev tK (T : Int → Int) (n : Int) : Int → Int := fun j => tkK T n j.toNat
abbrev tPl (T : Int → Int) (n : Int) : Int → Int := fun j => tkP T n j.toNat
abbrev tZ (T : Int → Int) (n : Int) : Int → Int := fun j => tkZ T n j.toNat
def rlQ (K PL Z : Nat → Int) (tk : Int) (t : Bool) (j : Nat) : Oc := if t = true then rmT K PL Z tk 1700 0 j [] [] 0 else rm K PL Z tk (1700 - j) 0 j [] [] 0
def rdQ (K PL SZ : Int → Int) (rl : Int) (t : Bool) (S : Rs) : Rs := if t = true then rTest K PL SZ rl S else rSum K PL SZ rl S
def rulP (rl : Int) (t : Bool) (S U : Rs) (R : Oc) : Prop := (¬ U.f = 0 → R.1 = U.f ∧ R.2.1 = U.pl) ∧ (U.f = 0 → R.1 = 0 ∧ (R.2.2.1 : Int) = U.a ∧ ∃ l : List Int, gt rl 0 S U l ∧ R.2.2.2.1.reverse.map ucm = l ∧ (∀ c ∈ R.2.2.2.1, cmap (ucm c) = c) ∧ tyC l [] [t] ∧ R.2.2.2.1.reverse = l.map cmap)
theorem rul_fin {rl : Int} {t : Bool} {S U : Rs} {R : Oc} {l : List Int} (hR : R = (0, 0, U.a.toNat, oL S.ln U, S.op)) (ha : 0 ≤ U.a) (hg : gt rl 0 S U l) (ht : tyC l [] [t]) : R.1 = 0 ∧ (R.2.2.1 : Int) = U.a ∧ ∃ l : List Int, gt rl 0 S U l ∧ R.2.2.2.1.reverse.map ucm = l ∧ (∀ c ∈ R.2.2.2.1, cmap (ucm c) = c) ∧ tyC l [] [t] ∧ R.2.2.2.1.reverse = l.map cmap := by
  have hO : oL S.ln U = (l.map cmap).reverse := by
    unfold oL
    rw [show (U.ln - S.ln).toNat = l.length by have := hg.1; omega]
    exact cAt_rl hg.2.2.2.1
  subst hR
  refine ⟨rfl, ?_, l, hg, ?_, fun c hc => ?_, ht, ?_⟩
  · show ((U.a.toNat : Nat) : Int) = U.a; omega
  · show (oL S.ln U).reverse.map ucm = l
    rw [hO, List.reverse_reverse]; exact okM_map hg.2.2.2.2.1
  · have hc : c ∈ oL S.ln U := hc
    rw [hO, List.mem_reverse, List.mem_map] at hc
    obtain ⟨x, h1, rfl⟩ := hc
    rw [ucm_cmap (hg.2.2.2.2.1 x h1)]
  · show (oL S.ln U).reverse = _
    rw [hO, List.reverse_reverse]
theorem rul_s {K PL SZ : Int → Int} {rl tk N : Int} (hr : (rl = 0 ∧ tk = 0) ∨ (rl = 1 ∧ tk = 1) ∨ (rl = 2 ∧ tk = 0) ∨ (rl = 3 ∧ tk = 2)) (hS : ∀ j : Int, SZ j = -1 ∨ (0 ≤ SZ j ∧ SZ j ≤ 9999)) (hN : N ≤ 1601) (hK : ∀ j : Int, 0 ≤ j → j < N → (K j = 341 ↔ j = N - 1)) {S : Rs} (hg : gS N S) (hf : S.f = 0) (hop : S.op = 0) (hln : S.ln ≤ S.a) {j f g : Nat} (hj : (j : Int) = S.a) (hfj : N ≤ f + j) (hgg : 16 * (N - S.a) + 10 < g) : rulP rl false S (rd K PL SZ rl g 3 S) (RM K PL SZ tk f 0 j [] [] 0) := by
  have hb := hg
  unfold gS at hb
  have h0 : oL S.ln S = [] := by unfold oL; rw [Int.sub_self]; rfl
  have hA := aAll (lo := S.ln) (PL := PL) hr hS hN hK g
  have hp : pre N S.ln S f j := ⟨hg, hf, Int.le_refl _, hln, hj, by omega⟩
  have h := sumEnd hK hA.2.2.1 hp (by omega)
  rw [h0, hop] at h
  have hty := rd_ty (rl := rl) (PL := PL) hS hN hK g 3 S hg hln (by decide) (by simp only [rk]; omega)
  refine ⟨h.1, fun z => ?_⟩
  obtain ⟨l, h1, h2⟩ := hty z
  have hrg := rd_g (PL := PL) (SZ := SZ) (rl := rl) hK g 3 S hg (by decide) (by simp only [rk]; omega)
  exact rul_fin (S := S) ((h.2 z).2.2.2.trans (by rw [hop])) hrg.1.1.1 h1 (h2 [] (by simp only [tyK, List.length_nil]; omega))
theorem rul_t {K PL SZ : Int → Int} {rl tk N : Int} (hr : (rl = 0 ∧ tk = 0) ∨ (rl = 1 ∧ tk = 1) ∨ (rl = 2 ∧ tk = 0) ∨ (rl = 3 ∧ tk = 2)) (hS : ∀ j : Int, SZ j = -1 ∨ (0 ≤ SZ j ∧ SZ j ≤ 9999)) (hN : N ≤ 1601) (hK : ∀ j : Int, 0 ≤ j → j < N → (K j = 341 ↔ j = N - 1)) {S : Rs} (hg : gS N S) (hf : S.f = 0) (hop : S.op = 0) (hln : S.ln ≤ S.a) {j f g : Nat} (hj : (j : Int) = S.a) (hfj : N ≤ f) (hgg : 16 * (N - S.a) + 10 < g) : rulP rl true S (rd K PL SZ rl g 8 S) (RTm K PL SZ tk f 0 j [] [] 0) := by
  have hb := hg
  unfold gS at hb
  have h0 : oL S.ln S = [] := by unfold oL; rw [Int.sub_self]; rfl
  have hp : pre N S.ln S f j := ⟨hg, hf, Int.le_refl _, hln, hj, by omega⟩
  have hB := bAll (lo := S.ln) (PL := PL) hr hS hN hK g
  have h := hB.2.2.1 S f j [] hp ⟨by omega, fun v hv => by cases hv⟩
  rw [h0, hop] at h
  have hty := rd_ty (rl := rl) (PL := PL) hS hN hK g 8 S hg hln (by decide) (by simp only [rk]; omega)
  have hrg := rd_g (PL := PL) (SZ := SZ) (rl := rl) hK g 8 S hg (by decide) (by simp only [rk]; omega)
  refine ⟨h.1.1, fun z => ?_⟩
  obtain ⟨l, h1, h2⟩ := hty z
  obtain ⟨a1, a2, f2, j2, a3, a4, a5⟩ := h.1.2 z
  have hk := h.2 z
  have hrb := hrg.1.1
  obtain ⟨f3, rfl⟩ : ∃ f3 : Nat, f2 = f3 + 1 := ⟨f2 - 1, by omega⟩
  have he : RTm K PL SZ tk (f3 + 1) 1 j2 [] (oL S.ln (rd K PL SZ rl g 8 S)) 0 = (0, 0, j2, oL S.ln (rd K PL SZ rl g 8 S), 0) := rmT1_end (by rw [a3]; exact hk.1) (by rw [a3]; exact hk.2)
  have a5 := a5.tr (oe.of he)
  have a6 := a5.2.2 a5.1
  refine rul_fin (S := S) (a6.trans ?_) hrb.1 h1 (h2 [] (by simp only [tyK, List.length_nil]; omega))
  rw [show j2 = (rd K PL SZ rl g 8 S).a.toNat by omega, hop]
theorem rdQ_f {K PL SZ : Int → Int} {rl : Int} {S : Rs} : rdQ K PL SZ rl false S = rSum K PL SZ rl S := if_neg Bool.false_ne_true
theorem rdQ_t {K PL SZ : Int → Int} {rl : Int} {S : Rs} : rdQ K PL SZ rl true S = rTest K PL SZ rl S := if_pos rfl
theorem rSum_d {K PL SZ : Int → Int} {rl : Int} {S : Rs} : rSum K PL SZ rl S = rd K PL SZ rl 30000 3 S := rfl
theorem rTest_d {K PL SZ : Int → Int} {rl : Int} {S : Rs} : rTest K PL SZ rl S = rd K PL SZ rl 30000 8 S := rfl
theorem rlQ_f {K PL Z : Nat → Int} {tk : Int} {j : Nat} : rlQ K PL Z tk false j = rm K PL Z tk (1700 - j) 0 j [] [] 0 := if_neg Bool.false_ne_true
theorem rlQ_t {K PL Z : Nat → Int} {tk : Int} {j : Nat} : rlQ K PL Z tk true j = rmT K PL Z tk 1700 0 j [] [] 0 := if_pos rfl
theorem RM_d {T : Int → Int} {n tk : Int} {f m j : Nat} {U O : List Int} {op : Int} : RM (tK T n) (tPl T n) (tZ T n) tk f m j U O op = rm (tkK T n) (tkP T n) (tkZ T n) tk f m j U O op := rfl
theorem RTm_d {T : Int → Int} {n tk : Int} {f m j : Nat} {U O : List Int} {op : Int} : RTm (tK T n) (tPl T n) (tZ T n) tk f m j U O op = rmT (tkK T n) (tkP T n) (tkZ T n) tk f m j U O op := rfl
theorem rul {T : Int → Int} {n : Int} (hn : 0 ≤ n ∧ n ≤ 1600) {rl tk N : Int} (hr : (rl = 0 ∧ tk = 0) ∨ (rl = 1 ∧ tk = 1) ∨ (rl = 2 ∧ tk = 0) ∨ (rl = 3 ∧ tk = 2)) (hN : N ≤ 1601) (hK : ∀ j : Int, 0 ≤ j → j < N → (tK T n j = 341 ↔ j = N - 1)) {S : Rs} (hg : gS N S) (hf : S.f = 0) (hop : S.op = 0) (hln : S.ln ≤ S.a) {j : Nat} (hj : (j : Int) = S.a) (t : Bool) : rulP rl t S (rdQ (tK T n) (tPl T n) (tZ T n) rl t S) (rlQ (tkK T n) (tkP T n) (tkZ T n) tk t j) := by
  have hS : ∀ j : Int, tZ T n j = -1 ∨ (0 ≤ tZ T n j ∧ tZ T n j ≤ 9999) := fun j => tkZ_rg hn _
  have hb := hg.1
  cases t
  · rw [rdQ_f, rSum_d, rlQ_f, ← RM_d]
    exact rul_s hr hS hN hK hg hf hop hln hj (by omega) (by omega)
  · rw [rdQ_t, rTest_d, rlQ_t, ← RTm_d]
    exact rul_t hr hS hN hK hg hf hop hln hj (by omega) (by omega)
