/-! the start keeps the invariant -/
theorem inv0 {I1 : aFI} {L1 : aFL} (hC : okC I1 = true) (hL : L1 0 17 = lI 1) (hT : rw0 I1 1 1600 = true) : Inv (J0 I1) (LF (aRow L1 157 (fun _ => 0))) 8 := by
  unfold okC at hC
  simp only [Bool.and_eq_true, decide_eq_true_eq] at hC
  obtain ⟨⟨⟨⟨⟨hz, h15⟩, hm⟩, h37⟩, h38⟩, h156⟩ := hC
  have Z : ∀ q k : Nat, (q, k) ∈ [(8,0),(8,1),(8,2),(8,3),(8,14),(8,16),(9,0),(9,1),(9,2),(36,0),(36,1),(36,2),(36,3),(36,4),(42,1),(0,1),(44,1),(44,2),(0,13),(2,7)] → q < 157 → J0 I1 q k = 0 := fun q k h1 h2 => (J_c h2).trans (zr_at hz h1)
  have Mn : ∀ q k : Nat, (q, k) ∈ [(20,0),(20,1),(20,2),(2,8),(0,14),(0,15)] → q < 157 → J0 I1 q k = iI (-1) := fun q k h1 h2 => (J_c h2).trans (of_decide_eq_true (List.all_eq_true.mp hm (q, k) h1))
  have N : ∀ k : Nat, (157, k) ∈ [(157, 1), (157, 7), (157, 56), (157, 61), (157, 70), (157, 71), (157, 108), (192, 3), (192, 4), (192, 5), (194, 5)] → J0 I1 157 k = 0 := fun k h1 => J_157 (of_decide_eq_true (List.all_eq_true.mp ic_n (157, k) h1))
  have N2 : ∀ q k : Nat, (q, k) ∈ [(157, 1), (157, 7), (157, 56), (157, 61), (157, 70), (157, 71), (157, 108), (192, 3), (192, 4), (192, 5), (194, 5)] → q ∈ [158, 159, 192, 194, 198, 202] → J0 I1 q k = 0 := fun q k h1 h2 => J_z (of_decide_eq_true (List.all_eq_true.mp ic_n (q, k) h1)) (List.all_eq_true.mp ic_z q h2)
  have M2 : ∀ k : Nat, (157, k) ∈ [(157, 8), (157, 67), (157, 68)] → J0 I1 157 k = iI (-1) := fun k h1 => J_v (of_decide_eq_true (List.all_eq_true.mp ic_m (157, k) h1))
  have R2 : ∀ k : Nat, J0 I1 202 k = 0 := fun k => J_z (lk3_no ic_158.2.2 k) (List.all_eq_true.mp ic_z 202 (by decide))
  have R8 : ∀ k : Nat, J0 I1 158 k = 0 := fun k => J_z (lk3_no ic_158.1 k) (List.all_eq_true.mp ic_z 158 (by decide))
  have R9 : ∀ k : Nat, J0 I1 159 k = 0 := fun k => J_z (lk3_no ic_158.2.1 k) (List.all_eq_true.mp ic_z 159 (by decide))
  have z0 : ((0 : Int32).toInt : Int) = 0 := by decide
  have D0 : ∀ (k : Nat) (j : Int), J0 I1 (8 + k) j.toNat = 0 → (J0 I1 (8 + k) j.toNat).toInt = 0 := fun k j h => by rw [h]; exact z0
  have h815 : J0 I1 8 15 = 1 := (J_c (by decide)).trans h15
  have d10 : (J0 I1 9 0).toInt = 0 := by rw [Z 9 0 (by decide) (by decide)]; exact z0
  have d11 : (J0 I1 9 1).toInt = 0 := by rw [Z 9 1 (by decide) (by decide)]; exact z0
  have d12 : (J0 I1 9 2).toInt = 0 := by rw [Z 9 2 (by decide) (by decide)]; exact z0
  have d00 : (J0 I1 8 0).toInt = 0 := by rw [Z 8 0 (by decide) (by decide)]; exact z0
  have d01 : (J0 I1 8 1).toInt = 0 := by rw [Z 8 1 (by decide) (by decide)]; exact z0
  have d14 : (J0 I1 8 14).toInt = 0 := by rw [Z 8 14 (by decide) (by decide)]; exact z0
  have d15 : (J0 I1 8 15).toInt = 1 := by rw [h815]; decide
  have d16 : (J0 I1 8 16).toInt = 0 := by rw [Z 8 16 (by decide) (by decide)]; exact z0
  obtain ⟨D, hD⟩ : ∃ D : Nat → Int → Int, D = fun k j => (J0 I1 (8 + k) j.toNat).toInt := ⟨_, rfl⟩
  have e10 : D 1 0 = 0 := by rw [hD]; exact d10
  have e11 : D 1 1 = 0 := by rw [hD]; exact d11
  have e12 : D 1 2 = 0 := by rw [hD]; exact d12
  have e00 : D 0 0 = 0 := by rw [hD]; exact d00
  have e01 : D 0 1 = 0 := by rw [hD]; exact d01
  have e14 : D 0 14 = 0 := by rw [hD]; exact d14
  have e15 : D 0 15 = 1 := by rw [hD]; exact d15
  have e16 : D 0 16 = 0 := by rw [hD]; exact d16
  have hS : wfS D (fun _ => none) := ⟨by omega, by omega, fun j a b => by omega, fun j a b => by omega, fun j a b => by omega, fun r _ l h => by cases h⟩
  have hat : ∀ (k : Nat) (j : Int), J0 I1 (8 + k) j.toNat = iI (D k j) := fun k j => by rw [hD]; exact iI_of _
  refine ⟨Or.inl rfl, D, fun _ => none, (0, 0, 0, 0, fun _ => 0, fun _ => 0), fun _ _ => 0, 0, fun _ => 0, 0, 0, 0, 0, [], 1, fun _ => 0, 0, ⟨⟨hS, fun k hk i a b => ?_, trivial⟩, fun j => ?_, fun z => by omega⟩, ?_, ?_, ?_, ?_, ?_, ?_, ?_⟩
  · exfalso
    rcases (show k = 0 ∨ k = 1 ∨ k = 2 by omega) with rfl | rfl | rfl
    · have b : i < D 1 0 := b; omega
    · have b : i < D 1 1 := b; omega
    · have b : i < D 1 2 := b; omega
  · rw [hD]; exact aRg_of _
  · exact ⟨⟨by decide, by decide, by decide, by decide, fun j _ _ => ⟨⟨Int.le_refl 0, (by decide : (0 : Int) ≤ 9999)⟩, ⟨Int.le_refl 0, (by decide : (0 : Int) ≤ 99)⟩⟩⟩, by decide, Nat.two_pow_pos _, fun z => by omega, by decide, by decide⟩
  · refine ⟨⟨⟨?_, ⟨hat 0 1, hat 0 2, hat 0 3, hat 0 14, hat 0 15, hat 0 16⟩, fun k j _ _ _ => hat k j⟩, fun r hr => Or.inl ⟨rfl, ?_⟩⟩, ⟨Z 36 0 (by decide) (by decide), Z 36 1 (by decide) (by decide), Z 36 2 (by decide) (by decide), Z 36 3 (by decide) (by decide), Z 36 4 (by decide) (by decide), fun j a b => ⟨(J_c (by decide)).trans (rw0_at h37 (by omega)), (J_c (by decide)).trans (rw0_at h38 (by omega))⟩⟩, fun i j a b => by omega, ?_⟩
    · rw [Z 8 0 (by decide) (by decide), decide_eq_false (by omega)]; rfl
    · rcases (show r = 0 ∨ r = 1 ∨ r = 2 by omega) with rfl | rfl | rfl
      · exact Mn 20 0 (by decide) (by decide)
      · exact Mn 20 1 (by decide) (by decide)
      · exact Mn 20 2 (by decide) (by decide)
    · rw [Z 42 1 (by decide) (by decide)]; decide
  · refine ⟨⟨⟨⟨⟨?_, ?_, ?_⟩, ?_, ⟨?_, fun z => by omega, ?_⟩, ?_, fun j a b => by omega, fun j a b => by omega, fun j a b => by omega⟩, fun z => by omega⟩, R2 0, R2 1, R2 2, fun j a b => ⟨?_, R2 _, R2 _⟩⟩, R2 27, fun i j e a b => by omega, fun k hk i a b => ?_, fun q hq j a b => ?_, ?_⟩
    · rw [e10]; exact N2 192 3 (by decide) (by decide)
    · rw [e11]; exact N2 192 4 (by decide) (by decide)
    · rw [e12]; exact N2 192 5 (by decide) (by decide)
    · rw [e01]; exact N2 194 5 (by decide) (by decide)
    · rw [e14]; exact J_v icn_8.1
    · rw [e16]; exact J_v icn_8.2.2
    · rw [N 56 (by decide), decide_eq_false (by omega)]; rfl
    · rw [show tb 0 j = false from Nat.zero_testBit _]; exact R2 _
    · exfalso
      rcases (show k = 0 ∨ k = 1 ∨ k = 2 by omega) with rfl | rfl | rfl
      · have b : i < D 1 0 := b; omega
      · have b : i < D 1 1 := b; omega
      · have b : i < D 1 2 := b; omega
    · have hq2 := hq
      unfold isWd at hq2
      have h1 := List.all_eq_true.mp icW q (List.mem_range.mpr (by omega))
      simp only [Bool.or_eq_true, decide_eq_true_eq] at h1
      rcases h1 with h1 | h1
      · exact absurd hq2 h1
      · have h2 := of_decide_eq_true (List.all_eq_true.mp h1 j.toNat (List.mem_range.mpr (by omega)))
        rw [J_v h2, Int.toNat_of_nonneg a]
    · exact N 61 (by decide)
  · exact ⟨Z 0 1 (by decide) (by decide), N 1 (by decide), by decide, fun j a b => (J_c (by decide)).trans (rw0_at hT (by omega)), fun j a b => R8 _, fun _ => ⟨Int.le_refl 0, (by decide : (0 : Int) ≤ 255)⟩⟩
  · exact ⟨⟨Z 44 1 (by decide) (by decide), Z 44 2 (by decide) (by decide), N 71 (by decide), N 70 (by decide)⟩, by decide, by decide, by decide, rfl, trivial⟩
  · refine ⟨fun k hk => (R9 k).trans ((J_c (by decide)).trans (rw0_at h156 hk)).symm, ⟨(N 7 (by decide)).trans (Z 2 7 (by decide) (by decide)).symm, (M2 8 (by decide)).trans (Mn 2 8 (by decide) (by decide)).symm⟩, ⟨(M2 67 (by decide)).trans (Mn 0 14 (by decide) (by decide)).symm, (M2 68 (by decide)).trans (Mn 0 15 (by decide) (by decide)).symm⟩, ⟨?_, rfl⟩, by decide, by decide⟩
    exact hL
  · exact ⟨Z 0 13 (by decide) (by decide), N 108 (by decide), by decide, fun j a b => by omega, fun j a b => by omega⟩
