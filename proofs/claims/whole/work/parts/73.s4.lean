/-! both sides: thinned (p73.py) -/
theorem sumT_cnt {m : Int} {t : Nat} : ∀ n : Nat, sumT m t n = m * ((cntB t n : Nat) : Int)
  | 0 => (Int.mul_zero m).symm
  | n + 1 => by
    simp only [sumT, cntB]
    rw [sumT_cnt n]
    split
    · rw [Int.natCast_add, Int.mul_add]; simp
    · simp
theorem popc_le2 {n w : Nat} (hn : n ≤ 8) (hw : w < 2 ^ n) : popc w ≤ n := by rw [← cntB_eq hn hw]; exact cntB_le w n
/-- buckets before the dam, with some brooks giving more -/
def thB (D : Nat → Int → Int) (X : Lk) (more : Int) (t : Nat) : Int := X.2.1 + sumB (D 3) 0 (D 1 0).toNat + sumT more t (D 1 0).toNat
def thH (D : Nat → Int → Int) (X : Lk) (more bu dr : Int) (t : Nat) : Bool := decide (flB D (thB D X more t) = bu) && (decide (dr = -1) || decide (dk (flB D (thB D X more t)) (flG D (thB D X more t) (X.2.2.1 + sumB (D 4) 0 (D 1 0).toNat)) = dr))
def thF (D : Nat → Int → Int) (X : Lk) (more bu dr : Int) : Nat → Nat × Nat × Nat
  | 0 => (0, 2 ^ (D 1 0).toNat - 1, 0)
  | t + 1 => if thH D X more bu dr t = true then ((thF D X more bu dr t).1 + 1, (thF D X more bu dr t).2.1 &&& t, (thF D X more bu dr t).2.2 ||| t) else thF D X more bu dr t
theorem thF_rg {D : Nat → Int → Int} {X : Lk} {more bu dr : Int} (h8 : D 1 0 ≤ 8) : ∀ t : Nat, t ≤ 256 → (thF D X more bu dr t).1 ≤ t ∧ (thF D X more bu dr t).2.1 < 256 ∧ (thF D X more bu dr t).2.2 < 256
  | 0, _ => by
    have h1 : 2 ^ (D 1 0).toNat ≤ 2 ^ 8 := Nat.pow_le_pow_right (by omega) (by omega)
    unfold thF; refine ⟨Nat.le_refl 0, ?_, by show 0 < 256; omega⟩
    show 2 ^ (D 1 0).toNat - 1 < 256
    omega
  | t + 1, ht => by
    have h := thF_rg (X := X) (more := more) (bu := bu) (dr := dr) h8 t (by omega)
    unfold thF
    split
    · exact ⟨by show _ + 1 ≤ _; omega, Nat.lt_of_le_of_lt Nat.and_le_left h.2.1, or_lt (n := 8) h.2.2 (by omega)⟩
    · exact ⟨by omega, h.2⟩
theorem thF_all {D : Nat → Int → Int} {X : Lk} {more bu dr : Int} : ∀ t : Nat, (thF D X more bu dr t).1 = 0 → (thF D X more bu dr t).2.1 = 2 ^ (D 1 0).toNat - 1
  | 0, _ => rfl
  | t + 1, h => by
    unfold thF at h ⊢
    split
    · rename_i hc; rw [if_pos hc] at h; exact absurd h (Nat.succ_ne_zero _)
    · rename_i hc; rw [if_neg hc] at h; exact thF_all t h
def thinZ (D : Nat → Int → Int) (X : Lk) (more bu dr v : Int) : Int := if ((D 0 0 = 1 ∧ 1 ≤ more ∧ more ≤ 999) ∧ (0 ≤ bu ∧ bu ≤ 9999) ∧ (dr = -1 ∨ 0 ≤ dr ∧ dr ≤ 9999)) ∧ (0 ≤ v ∧ v ≤ 2) ∧ ¬ X.1 = 999 then (if v = 0 then ((thF D X more bu dr (2 ^ (D 1 0).toNat)).1 : Int) else if v = 1 then (if (thF D X more bu dr (2 ^ (D 1 0).toNat)).1 = 0 then 0 else ((thF D X more bu dr (2 ^ (D 1 0).toNat)).2.1 : Int)) else ((thF D X more bu dr (2 ^ (D 1 0).toNat)).2.2 : Int)) else -1
theorem isLk.fPL {I0 I : aFI} {kc : Int} {X : Lk} (h : lkX I0 36 kc X) (hF : frP (PL 39) I0 I) : lkX I 36 kc X := h.fr (fun p k h1 h2 => hF p k (by show ¬ (p = 43 ∨ (39 ≤ p ∧ p ≤ 41)); omega))
theorem and_m1 {a : Nat} (h : a < 256) : iI (-1) &&& iI (a : Int) = iI (a : Int) := by
  have h1 : (List.range 256).all (fun a => decide (iI (-1) &&& iI ((a : Nat) : Int) = iI ((a : Nat) : Int))) = true := by decide +kernel
  exact of_decide_eq_true (List.all_eq_true.mp h1 a (List.mem_range.mpr h))
theorem pw_and {n t : Nat} (h : t < 2 ^ n) : (2 ^ n - 1) &&& t = t := by rw [Nat.and_comm, Nat.and_two_pow_sub_one_eq_mod, Nat.mod_eq_of_lt h]
set_option maxHeartbeats 1000000 in
theorem tc_isNoAmount {d : Nat} {I : aFI} {L : aFL} {R : aFR} {Q : aPo} {v : Int} (rv : -2147483648 ≤ v ∧ v < 2147483648) (k : Q (some (.int (aBo (decide (v < 0 ∨ 9999 < v))))) I L R) : aWp none d 113 0 [.int (iI v)] [] I L R Q := by
  refine w_iload c_113_0 rfl ?_
  refine z_if_lt c_113_1 (by first | exact aRg_of _ | (unfold aRg; omega)) (fun h1_ => ?_) (fun h1_ => ?_)
  · refine z_push c_113_11 ?_
    refine w_goto c_113_12 ?_
    refine z_ret1 c_113_16 rfl ?_
    exact q_b k (decide_eq_true (by omega))
  · refine w_iload c_113_4 rfl ?_
    refine z_push c_113_5 ?_
    refine z_ic_le c_113_8 (by first | exact aRg_of _ | (unfold aRg; omega)) (by first | exact aRg_of _ | (unfold aRg; omega)) (fun h2_ => ?_) (fun h2_ => ?_)
    · refine z_push c_113_15 ?_
      refine z_ret0 c_113_16 rfl ?_
      exact q_b k (decide_eq_false (by omega))
    · refine z_push c_113_11 ?_
      refine w_goto c_113_12 ?_
      refine z_ret1 c_113_16 rfl ?_
      exact q_b k (decide_eq_true (by omega))

set_option maxHeartbeats 2000000 in
theorem t_thinned_1 {d : Nat} {I0 : aFI} {L0 : aFL} {Q : aPo} {sh : Nat} {su : Option Nat} {D : Nat → Int → Int} {cd : Nat → Option (List Int)} {X : Lk} {more bu dr v : Int} (hS : wfS D cd) (hR0 : rS I0 D cd X) (hX : lkOK X) (hc0 : ∀ k : Nat, k < 27 → I0 203 k = I0 202 k) (hm : 1 ≤ more ∧ more ≤ 999) (hbu : 0 ≤ bu ∧ bu ≤ 9999) (hdr : dr = -1 ∨ 0 ≤ dr ∧ dr ≤ 9999) (hd : 5 ≤ d) : ∀ (n : Nat) (t : Nat) (I : aFI) (L : aFL) (v9 : Value), 2 ^ (D 1 0).toNat - t < n → (t ≤ 2 ^ (D 1 0).toNat) → (rS I D cd X) → (frG PT2 I0 I) → (frG LK L0 L) → (∀ (I2 : aFI) (L2 : aFL) (v9 : Value), rS I2 D cd X → frG PT2 I0 I2 → frG LK L0 L2 → aWp none d 203 182 [.ref 157, .int (iI more), .int (iI bu), .int (iI dr), .int (iI v), .int (iI (((thF D X more bu dr (2 ^ (D 1 0).toNat)).1 : Nat) : Int)), .int (iI (((thF D X more bu dr (2 ^ (D 1 0).toNat)).2.1 : Nat) : Int)), .int (iI (((thF D X more bu dr (2 ^ (D 1 0).toNat)).2.2 : Nat) : Int)), .int (iI ((2 ^ (D 1 0).toNat : Nat) : Int)), v9] [] I2 L2 (aR sh su) Q) → aWp none d 203 98 [.ref 157, .int (iI more), .int (iI bu), .int (iI dr), .int (iI v), .int (iI (((thF D X more bu dr t).1 : Nat) : Int)), .int (iI (((thF D X more bu dr t).2.1 : Nat) : Int)), .int (iI (((thF D X more bu dr t).2.2 : Nat) : Int)), .int (iI (t : Int)), v9] [] I L (aR sh su) Q := by
  intro n
  induction n with
  | zero => intro t I L v9 h; omega
  | succ n ih =>
    intro t I L v9 hn2 h1 hR hF hG k
    have hdd := hS.n
    have hpw := pw_rg (n := D 1 0) (by omega)
    have hx := hX.2
    have hrg := thF_rg (D := D) (X := X) (more := more) (bu := bu) (dr := dr) (by omega) t (by omega)
    have hs3 := sumB_rg (f := D 3) (dry := 0) (m := (D 1 0).toNat) (fun j z1 z2 => (hS.br z1 (by omega)).1) (D 1 0).toNat (by omega)
    have hs4 := sumB_rg (f := D 4) (dry := 0) (m := (D 1 0).toNat) (fun j z1 z2 => (hS.br z1 (by omega)).2) (D 1 0).toNat (by omega)
    have hs5 := sumT_rg (t := t) (m := more) (by omega) (D 1 0).toNat
    have htb : X.2.1 + sumB (D 3) 0 (D 1 0).toNat + sumT more t (D 1 0).toNat = thB D X more t := rfl
    have hfb := flB_rg (b := thB D X more t) hS (by omega)
    have hfg := flG_rg (b := thB D X more t) (g := X.2.2.1 + sumB (D 4) 0 (D 1 0).toNat) hS (by omega) (by omega)
    have hhh := hS.h
    have hkr := dk_rg (b := flB D (thB D X more t)) (g := flG D (thB D X more t) (X.2.2.1 + sumB (D 4) 0 (D 1 0).toNat))
    have hst : thF D X more bu dr (t + 1) = if thH D X more bu dr t = true then ((thF D X more bu dr t).1 + 1, (thF D X more bu dr t).2.1 &&& t, (thF D X more bu dr t).2.2 ||| t) else thF D X more bu dr t := rfl
    refine w_iload c_203_98 rfl ?_
    refine z_push c_203_100 ?_
    refine w_aload c_203_101 rfl ?_
    refine wc_159 c_203_102 sp_157 (Nat.le_of_ble_eq_true rfl) (by omega) ?_
    refine t_brookMany hR.1.1 ?_
    refine r_i ?_
    refine w_ishl c_203_105 (shl1 (by omega)) ?_
    refine z_ic_ge c_203_106 (by first | exact aRg_of _ | (unfold aRg; omega)) (by first | exact aRg_of _ | (unfold aRg; omega)) (fun h1_ => ?_) (fun h1_ => ?_)
    · have e9 : t = 2 ^ (D 1 0).toNat := by omega
      subst e9
      exact k I L _ hR hF hG
    · refine w_aload c_203_109 rfl ?_
      refine z_push c_203_110 ?_
      refine w_iload c_203_111 rfl ?_
      refine w_iload c_203_113 rfl ?_
      refine wc_175 c_203_114 sp_157 (Nat.le_of_ble_eq_true rfl) (by omega) ?_
      refine t_seasonGoes (dry := 0) (thn := t) hS hR hX (by decide) (by omega) (by omega) (iI_of _) (by omega) (fun I2 L2 hx2 hov2 hF2 hG2 => ?_)
      rw [htb] at hx2
      have hxb : I2 202 1 = iI (flB D (thB D X more t)) := hx2.2.1
      have hxg : I2 202 2 = iI (flG D (thB D X more t) (X.2.2.1 + sumB (D 4) 0 (D 1 0).toNat)) := hx2.2.2.1
      refine r_v ?_
      refine w_aload c_203_117 rfl ?_
      refine w_getR c_203_118 sp_157 (by decide) rfl pr_157_58 ?_
      refine z_push c_203_121 ?_
      refine z_iaload c_203_122 sp_202 (by omega) (by first | decide | omega) hxb ?_
      refine w_iload c_203_123 rfl ?_
      refine z_ic_ne c_203_124 (by first | exact aRg_of _ | (unfold aRg; omega)) (by first | exact aRg_of _ | (unfold aRg; omega)) (fun h2_ => ?_) (fun h2_ => ?_)
      · refine z_push c_203_144 ?_
        refine w_istore c_203_145 (Nat.le_of_ble_eq_true rfl) rfl ?_
        refine w_aload c_203_147 rfl ?_
        refine wc_179 c_203_148 sp_157 (Nat.le_of_ble_eq_true rfl) (by omega) ?_
        refine t_triesAnew (fun I3 hb1 hb3 => ?_)
        have hR3 : rS I3 D cd X := ⟨(hR.1.pt hF2).fr (fun q k z1 z2 => hb3 q k (by omega)) (hb3 157 56 (by decide)), hR0.2.fr (fun k hk => by rw [hb1 k hk, hF2 203 k (by omega), hF 203 k (by omega)]; exact hc0 k hk)⟩
        have hF3 : frG PT2 I0 I3 := (hF.tr (PT.t2 hF2)).tr (hb3.mono (fun q k z => Or.inr (Or.inr (Or.inr z))))
        refine r_v ?_
        refine w_iload c_203_151 rfl ?_
        refine z_if_ne c_203_153 (by first | exact aRg_of _ | (unfold aRg; omega)) (fun h3_ => absurd h3_ (by decide)) (fun h3_ => ?_)
        refine w_goto c_203_156 ?_
        refine z_iinc c_203_176 rfl rfl ?_
        refine w_goto c_203_179 ?_
        have hh : ¬ thH D X more bu dr t = true := by
          unfold thH
          simp only [Bool.and_eq_true, Bool.or_eq_true, decide_eq_true_eq]
          omega
        rw [if_neg hh] at hst
        have hA := ih (t + 1) I3 L2 (.int (iI 0)) (by omega) (by omega) hR3 hF3 (hG.tr hG2) k
        rw [hst] at hA
        exact hA
      · refine w_iload c_203_127 rfl ?_
        refine z_push c_203_128 ?_
        refine z_ic_eq c_203_129 (by first | exact aRg_of _ | (unfold aRg; omega)) (by first | exact aRg_of _ | (unfold aRg; omega)) (fun h4_ => ?_) (fun h4_ => ?_)
        · refine z_push c_203_140 ?_
          refine w_goto c_203_141 ?_
          refine w_istore c_203_145 (Nat.le_of_ble_eq_true rfl) rfl ?_
          refine w_aload c_203_147 rfl ?_
          refine wc_179 c_203_148 sp_157 (Nat.le_of_ble_eq_true rfl) (by omega) ?_
          refine t_triesAnew (fun I3 hb1 hb3 => ?_)
          have hR3 : rS I3 D cd X := ⟨(hR.1.pt hF2).fr (fun q k z1 z2 => hb3 q k (by omega)) (hb3 157 56 (by decide)), hR0.2.fr (fun k hk => by rw [hb1 k hk, hF2 203 k (by omega), hF 203 k (by omega)]; exact hc0 k hk)⟩
          have hF3 : frG PT2 I0 I3 := (hF.tr (PT.t2 hF2)).tr (hb3.mono (fun q k z => Or.inr (Or.inr (Or.inr z))))
          refine r_v ?_
          refine w_iload c_203_151 rfl ?_
          refine z_if_ne c_203_153 (by first | exact aRg_of _ | (unfold aRg; omega)) (fun h5_ => ?_) (fun h5_ => absurd (by decide) h5_)
          refine z_iinc c_203_159 rfl rfl ?_
          refine w_iload c_203_162 rfl ?_
          refine w_iload c_203_164 rfl ?_
          refine w_iand c_203_166 (iI_and _ _) ?_
          refine w_istore c_203_167 (Nat.le_of_ble_eq_true rfl) rfl ?_
          refine w_iload c_203_169 rfl ?_
          refine w_iload c_203_171 rfl ?_
          refine w_ior c_203_173 (iI_or _ _) ?_
          refine w_istore c_203_174 (Nat.le_of_ble_eq_true rfl) rfl ?_
          refine z_iinc c_203_176 rfl rfl ?_
          refine w_goto c_203_179 ?_
          have hh : thH D X more bu dr t = true := by
            unfold thH
            first
            | (rw [decide_eq_true (by omega), decide_eq_true (by omega)]; rfl)
            | (rw [decide_eq_true (by omega), decide_eq_true (p := dk _ _ = dr) (by omega), Bool.or_true]; rfl)
          rw [if_pos hh] at hst
          have hA := ih (t + 1) I3 L2 (.int (iI 1)) (by omega) (by omega) hR3 hF3 (hG.tr hG2) k
          rw [hst] at hA
          exact hA
        · refine w_aload c_203_132 rfl ?_
          refine wc_169 c_203_133 sp_157 (Nat.le_of_ble_eq_true rfl) (by omega) ?_
          refine t_darkNow (by omega) hxb hxg (by omega) (by omega) ?_
          refine r_i ?_
          refine w_iload c_203_136 rfl ?_
          refine z_ic_ne c_203_137 (by first | exact aRg_of _ | (unfold aRg; omega)) (by first | exact aRg_of _ | (unfold aRg; omega)) (fun h6_ => ?_) (fun h6_ => ?_)
          · refine z_push c_203_144 ?_
            refine w_istore c_203_145 (Nat.le_of_ble_eq_true rfl) rfl ?_
            refine w_aload c_203_147 rfl ?_
            refine wc_179 c_203_148 sp_157 (Nat.le_of_ble_eq_true rfl) (by omega) ?_
            refine t_triesAnew (fun I3 hb1 hb3 => ?_)
            have hR3 : rS I3 D cd X := ⟨(hR.1.pt hF2).fr (fun q k z1 z2 => hb3 q k (by omega)) (hb3 157 56 (by decide)), hR0.2.fr (fun k hk => by rw [hb1 k hk, hF2 203 k (by omega), hF 203 k (by omega)]; exact hc0 k hk)⟩
            have hF3 : frG PT2 I0 I3 := (hF.tr (PT.t2 hF2)).tr (hb3.mono (fun q k z => Or.inr (Or.inr (Or.inr z))))
            refine r_v ?_
            refine w_iload c_203_151 rfl ?_
            refine z_if_ne c_203_153 (by first | exact aRg_of _ | (unfold aRg; omega)) (fun h7_ => absurd h7_ (by decide)) (fun h7_ => ?_)
            refine w_goto c_203_156 ?_
            refine z_iinc c_203_176 rfl rfl ?_
            refine w_goto c_203_179 ?_
            have hh : ¬ thH D X more bu dr t = true := by
              unfold thH
              simp only [Bool.and_eq_true, Bool.or_eq_true, decide_eq_true_eq]
              omega
            rw [if_neg hh] at hst
            have hA := ih (t + 1) I3 L2 (.int (iI 0)) (by omega) (by omega) hR3 hF3 (hG.tr hG2) k
            rw [hst] at hA
            exact hA
          · refine z_push c_203_140 ?_
            refine w_goto c_203_141 ?_
            refine w_istore c_203_145 (Nat.le_of_ble_eq_true rfl) rfl ?_
            refine w_aload c_203_147 rfl ?_
            refine wc_179 c_203_148 sp_157 (Nat.le_of_ble_eq_true rfl) (by omega) ?_
            refine t_triesAnew (fun I3 hb1 hb3 => ?_)
            have hR3 : rS I3 D cd X := ⟨(hR.1.pt hF2).fr (fun q k z1 z2 => hb3 q k (by omega)) (hb3 157 56 (by decide)), hR0.2.fr (fun k hk => by rw [hb1 k hk, hF2 203 k (by omega), hF 203 k (by omega)]; exact hc0 k hk)⟩
            have hF3 : frG PT2 I0 I3 := (hF.tr (PT.t2 hF2)).tr (hb3.mono (fun q k z => Or.inr (Or.inr (Or.inr z))))
            refine r_v ?_
            refine w_iload c_203_151 rfl ?_
            refine z_if_ne c_203_153 (by first | exact aRg_of _ | (unfold aRg; omega)) (fun h8_ => ?_) (fun h8_ => absurd (by decide) h8_)
            refine z_iinc c_203_159 rfl rfl ?_
            refine w_iload c_203_162 rfl ?_
            refine w_iload c_203_164 rfl ?_
            refine w_iand c_203_166 (iI_and _ _) ?_
            refine w_istore c_203_167 (Nat.le_of_ble_eq_true rfl) rfl ?_
            refine w_iload c_203_169 rfl ?_
            refine w_iload c_203_171 rfl ?_
            refine w_ior c_203_173 (iI_or _ _) ?_
            refine w_istore c_203_174 (Nat.le_of_ble_eq_true rfl) rfl ?_
            refine z_iinc c_203_176 rfl rfl ?_
            refine w_goto c_203_179 ?_
            have hh : thH D X more bu dr t = true := by
              unfold thH
              first
              | (rw [decide_eq_true (by omega), decide_eq_true (by omega)]; rfl)
              | (rw [decide_eq_true (by omega), decide_eq_true (p := dk _ _ = dr) (by omega), Bool.or_true]; rfl)
            rw [if_pos hh] at hst
            have hA := ih (t + 1) I3 L2 (.int (iI 1)) (by omega) (by omega) hR3 hF3 (hG.tr hG2) k
            rw [hst] at hA
            exact hA

set_option maxHeartbeats 1000000 in
theorem t_thinned {d : Nat} {I : aFI} {L : aFL} {Q : aPo} {sh : Nat} {su : Option Nat} {D : Nat → Int → Int} {cd : Nat → Option (List Int)} {X : Lk} {more bu dr v : Int} (hS : wfS D cd) (hR : rS I D cd X) (hX : lkOK X) (rmore : -2147483648 ≤ more ∧ more < 2147483648) (rbu : -2147483648 ≤ bu ∧ bu < 2147483648) (rdr : -2147483648 ≤ dr ∧ dr < 2147483648) (rv : -2147483648 ≤ v ∧ v < 2147483648) (hs : X.1 ≤ 999) (hth : I 157 61 = aBo false) (hd : 7 ≤ d) (k : ∀ (I2 : aFI) (L2 : aFL), frG PE I I2 → frG LK L L2 → Q (some (.int (iI (thinZ D X more bu dr v)))) I2 L2 (aR sh su)) : aWp none d 203 0 [.ref 157, .int (iI more), .int (iI bu), .int (iI dr), .int (iI v), .null, .null, .null, .null, .null] [] I L (aR sh su) Q := by
  have hdd := hS.n
  have hx1 := hX.1
  have hx2 := hX.2.1
  have hx3 := hX.2.2.1
  have hx4 := hX.2.2.2.1
  have hpw := pw_rg (n := D 1 0) (by omega)
  refine w_aload c_203_0 rfl ?_
  refine z_getB c_203_1 sp_157 (by decide) rfl hR.1.1.2.2.2.1 ?_
  refine b_if_eq c_203_4 (fun h1_ => ?_) (fun h1_ => ?_)
  · refine z_push c_203_73 ?_
    refine z_ret c_203_74 rfl ?_
    refine q_i (k _ _ frG.rf frG.rf) ?_
    unfold thinZ
    rw [if_neg (by simp only [decide_eq_true_eq, decide_eq_false_iff_not] at *; omega)]
  · refine w_iload c_203_7 rfl ?_
    refine z_i2l c_203_8 (by first | exact aRg_of _ | (unfold aRg; omega)) ?_
    refine z_pushl c_203_9 ?_
    refine z_pushl c_203_10 ?_
    refine wc_130 c_203_13 (Nat.le_of_ble_eq_true rfl) (by omega) ?_
    refine t_isIn (by first | exact aRl_of _ | (unfold aRl; omega)) (by first | exact aRl_of _ | (unfold aRl; omega)) (by first | exact aRl_of _ | (unfold aRl; omega)) ?_
    refine r_i ?_
    refine b_if_eq c_203_16 (fun h2_ => ?_) (fun h2_ => ?_)
    · refine z_push c_203_73 ?_
      refine z_ret c_203_74 rfl ?_
      refine q_i (k _ _ frG.rf frG.rf) ?_
      unfold thinZ
      rw [if_neg (by simp only [decide_eq_true_eq, decide_eq_false_iff_not] at *; omega)]
    · refine w_iload c_203_19 rfl ?_
      refine z_i2l c_203_20 (by first | exact aRg_of _ | (unfold aRg; omega)) ?_
      refine z_pushl c_203_21 ?_
      refine z_pushl c_203_22 ?_
      refine wc_130 c_203_25 (Nat.le_of_ble_eq_true rfl) (by omega) ?_
      refine t_isIn (by first | exact aRl_of _ | (unfold aRl; omega)) (by first | exact aRl_of _ | (unfold aRl; omega)) (by first | exact aRl_of _ | (unfold aRl; omega)) ?_
      refine r_i ?_
      refine b_if_eq c_203_28 (fun h3_ => ?_) (fun h3_ => ?_)
      · refine z_push c_203_73 ?_
        refine z_ret c_203_74 rfl ?_
        refine q_i (k _ _ frG.rf frG.rf) ?_
        unfold thinZ
        rw [if_neg (by simp only [decide_eq_true_eq, decide_eq_false_iff_not] at *; omega)]
      · refine w_iload c_203_31 rfl ?_
        refine z_push c_203_32 ?_
        refine z_ic_eq c_203_33 (by first | exact aRg_of _ | (unfold aRg; omega)) (by first | exact aRg_of _ | (unfold aRg; omega)) (fun h4_ => ?_) (fun h4_ => ?_)
        · refine w_iload c_203_48 rfl ?_
          refine z_i2l c_203_50 (by first | exact aRg_of _ | (unfold aRg; omega)) ?_
          refine z_pushl c_203_51 ?_
          refine z_pushl c_203_52 ?_
          refine wc_130 c_203_55 (Nat.le_of_ble_eq_true rfl) (by omega) ?_
          refine t_isIn (by first | exact aRl_of _ | (unfold aRl; omega)) (by first | exact aRl_of _ | (unfold aRl; omega)) (by first | exact aRl_of _ | (unfold aRl; omega)) ?_
          refine r_i ?_
          refine b_if_eq c_203_58 (fun h5_ => ?_) (fun h5_ => ?_)
          · refine z_push c_203_73 ?_
            refine z_ret c_203_74 rfl ?_
            refine q_i (k _ _ frG.rf frG.rf) ?_
            unfold thinZ
            rw [if_neg (by simp only [decide_eq_true_eq, decide_eq_false_iff_not] at *; omega)]
          · refine w_aload c_203_61 rfl ?_
            refine w_getR c_203_62 sp_157 (by decide) rfl pr_157_58 ?_
            refine z_push c_203_65 ?_
            refine z_iaload c_203_66 sp_202 (by omega) (by first | decide | omega) hR.2.1 ?_
            refine z_push c_203_67 ?_
            refine z_ic_ne c_203_70 (by first | exact aRg_of _ | (unfold aRg; omega)) (by first | exact aRg_of _ | (unfold aRg; omega)) (fun h6_ => ?_) (fun h6_ => ?_)
            · simp only [decide_eq_true_eq, decide_eq_false_iff_not] at *
              refine z_push c_203_75 ?_
              refine w_istore c_203_76 (Nat.le_of_ble_eq_true rfl) rfl ?_
              refine z_push c_203_78 ?_
              refine w_aload c_203_79 rfl ?_
              refine wc_159 c_203_80 sp_157 (Nat.le_of_ble_eq_true rfl) (by omega) ?_
              refine t_brookMany hR.1.1 ?_
              refine r_i ?_
              refine w_ishl c_203_83 (shl1 (by omega)) ?_
              refine z_push c_203_84 ?_
              refine z_isub c_203_85 ?_
              refine w_istore c_203_86 (Nat.le_of_ble_eq_true rfl) rfl ?_
              refine z_push c_203_88 ?_
              refine w_istore c_203_89 (Nat.le_of_ble_eq_true rfl) rfl ?_
              refine w_aload c_203_91 rfl ?_
              refine wc_177 c_203_92 sp_157 (Nat.le_of_ble_eq_true rfl) (by omega) ?_
              refine t_putsAside (fun I1 hp1 hp2 hp3 => ?_)
              have hR1 := hR.aside hp3
              refine r_v ?_
              refine z_push c_203_95 ?_
              refine w_istore c_203_96 (Nat.le_of_ble_eq_true rfl) rfl ?_
              have hcc : ((D 0 0 = 1 ∧ 1 ≤ more ∧ more ≤ 999) ∧ (0 ≤ bu ∧ bu ≤ 9999) ∧ (dr = -1 ∨ 0 ≤ dr ∧ dr ≤ 9999)) ∧ (0 ≤ v ∧ v ≤ 2) ∧ ¬ X.1 = 999 := by omega
              rw [show ((2 ^ (D 1 0).toNat : Nat) : Int) - 1 = ((2 ^ (D 1 0).toNat - 1 : Nat) : Int) by omega]
              refine t_thinned_1 (more := more) (bu := bu) (dr := dr) (v := v) hS hR1 hX (fun k hk => (hp1 k hk).trans (hp3 202 k (by omega)).symm) (by omega) (by omega) (by omega) (by omega) _ 0 I1 L _ (Nat.lt_succ_self _) (by omega) hR1 frG.rf frG.rf (fun I2 L2 v9 hR2 hF2 hG2 => ?_)
              have hrg := thF_rg (D := D) (X := X) (more := more) (bu := bu) (dr := dr) (by omega) (2 ^ (D 1 0).toNat) (by omega)
              refine w_aload c_203_182 rfl ?_
              refine wc_178 c_203_183 sp_157 (Nat.le_of_ble_eq_true rfl) (by omega) ?_
              refine t_takesBack (fun I3 hb1 hb2 hb3 => ?_)
              refine r_v ?_
              refine w_iload c_203_186 rfl ?_
              refine z_if_ne c_203_188 (by first | exact aRg_of _ | (unfold aRg; omega)) (fun h31_ => ?_) (fun h31_ => ?_)
              · refine w_iload c_203_196 rfl ?_
                refine z_push c_203_198 ?_
                refine z_ic_ne c_203_199 (by first | exact aRg_of _ | (unfold aRg; omega)) (by first | exact aRg_of _ | (unfold aRg; omega)) (fun h32_ => ?_) (fun h32_ => ?_)
                · refine w_iload c_203_216 rfl ?_
                  refine z_ret c_203_218 rfl ?_
                  refine q_i (k _ _ (back_fr hp3 hp1 hF2 hb3 hb1 hth hb2) hG2) ?_
                  unfold thinZ; rw [if_pos hcc]
                  (repeat (first | rw [if_pos (by omega)] | rw [if_neg (by omega)]))
                · refine w_iload c_203_202 rfl ?_
                  refine z_if_ne c_203_204 (by first | exact aRg_of _ | (unfold aRg; omega)) (fun h33_ => ?_) (fun h33_ => ?_)
                  · refine w_iload c_203_211 rfl ?_
                    refine w_goto c_203_213 ?_
                    refine z_ret c_203_218 rfl ?_
                    refine q_i (k _ _ (back_fr hp3 hp1 hF2 hb3 hb1 hth hb2) hG2) ?_
                    unfold thinZ; rw [if_pos hcc]
                    (repeat (first | rw [if_pos (by omega)] | rw [if_neg (by omega)]))
                  · refine z_push c_203_207 ?_
                    refine w_goto c_203_208 ?_
                    refine z_ret c_203_218 rfl ?_
                    refine q_i (k _ _ (back_fr hp3 hp1 hF2 hb3 hb1 hth hb2) hG2) ?_
                    unfold thinZ; rw [if_pos hcc]
                    (repeat (first | rw [if_pos (by omega)] | rw [if_neg (by omega)]))
              · refine w_iload c_203_191 rfl ?_
                refine w_goto c_203_193 ?_
                refine z_ret c_203_218 rfl ?_
                refine q_i (k _ _ (back_fr hp3 hp1 hF2 hb3 hb1 hth hb2) hG2) ?_
                unfold thinZ; rw [if_pos hcc]
                (repeat (first | rw [if_pos (by omega)] | rw [if_neg (by omega)]))
            · refine z_push c_203_73 ?_
              refine z_ret c_203_74 rfl ?_
              refine q_i (k _ _ frG.rf frG.rf) ?_
              unfold thinZ
              rw [if_neg (by simp only [decide_eq_true_eq, decide_eq_false_iff_not] at *; omega)]
        · refine w_iload c_203_36 rfl ?_
          refine z_i2l c_203_37 (by first | exact aRg_of _ | (unfold aRg; omega)) ?_
          refine z_pushl c_203_38 ?_
          refine z_pushl c_203_39 ?_
          refine wc_130 c_203_42 (Nat.le_of_ble_eq_true rfl) (by omega) ?_
          refine t_isIn (by first | exact aRl_of _ | (unfold aRl; omega)) (by first | exact aRl_of _ | (unfold aRl; omega)) (by first | exact aRl_of _ | (unfold aRl; omega)) ?_
          refine r_i ?_
          refine b_if_eq c_203_45 (fun h7_ => ?_) (fun h7_ => ?_)
          · refine z_push c_203_73 ?_
            refine z_ret c_203_74 rfl ?_
            refine q_i (k _ _ frG.rf frG.rf) ?_
            unfold thinZ
            rw [if_neg (by simp only [decide_eq_true_eq, decide_eq_false_iff_not] at *; omega)]
          · refine w_iload c_203_48 rfl ?_
            refine z_i2l c_203_50 (by first | exact aRg_of _ | (unfold aRg; omega)) ?_
            refine z_pushl c_203_51 ?_
            refine z_pushl c_203_52 ?_
            refine wc_130 c_203_55 (Nat.le_of_ble_eq_true rfl) (by omega) ?_
            refine t_isIn (by first | exact aRl_of _ | (unfold aRl; omega)) (by first | exact aRl_of _ | (unfold aRl; omega)) (by first | exact aRl_of _ | (unfold aRl; omega)) ?_
            refine r_i ?_
            refine b_if_eq c_203_58 (fun h8_ => ?_) (fun h8_ => ?_)
            · refine z_push c_203_73 ?_
              refine z_ret c_203_74 rfl ?_
              refine q_i (k _ _ frG.rf frG.rf) ?_
              unfold thinZ
              rw [if_neg (by simp only [decide_eq_true_eq, decide_eq_false_iff_not] at *; omega)]
            · refine w_aload c_203_61 rfl ?_
              refine w_getR c_203_62 sp_157 (by decide) rfl pr_157_58 ?_
              refine z_push c_203_65 ?_
              refine z_iaload c_203_66 sp_202 (by omega) (by first | decide | omega) hR.2.1 ?_
              refine z_push c_203_67 ?_
              refine z_ic_ne c_203_70 (by first | exact aRg_of _ | (unfold aRg; omega)) (by first | exact aRg_of _ | (unfold aRg; omega)) (fun h9_ => ?_) (fun h9_ => ?_)
              · simp only [decide_eq_true_eq, decide_eq_false_iff_not] at *
                refine z_push c_203_75 ?_
                refine w_istore c_203_76 (Nat.le_of_ble_eq_true rfl) rfl ?_
                refine z_push c_203_78 ?_
                refine w_aload c_203_79 rfl ?_
                refine wc_159 c_203_80 sp_157 (Nat.le_of_ble_eq_true rfl) (by omega) ?_
                refine t_brookMany hR.1.1 ?_
                refine r_i ?_
                refine w_ishl c_203_83 (shl1 (by omega)) ?_
                refine z_push c_203_84 ?_
                refine z_isub c_203_85 ?_
                refine w_istore c_203_86 (Nat.le_of_ble_eq_true rfl) rfl ?_
                refine z_push c_203_88 ?_
                refine w_istore c_203_89 (Nat.le_of_ble_eq_true rfl) rfl ?_
                refine w_aload c_203_91 rfl ?_
                refine wc_177 c_203_92 sp_157 (Nat.le_of_ble_eq_true rfl) (by omega) ?_
                refine t_putsAside (fun I1 hp1 hp2 hp3 => ?_)
                have hR1 := hR.aside hp3
                refine r_v ?_
                refine z_push c_203_95 ?_
                refine w_istore c_203_96 (Nat.le_of_ble_eq_true rfl) rfl ?_
                have hcc : ((D 0 0 = 1 ∧ 1 ≤ more ∧ more ≤ 999) ∧ (0 ≤ bu ∧ bu ≤ 9999) ∧ (dr = -1 ∨ 0 ≤ dr ∧ dr ≤ 9999)) ∧ (0 ≤ v ∧ v ≤ 2) ∧ ¬ X.1 = 999 := by omega
                rw [show ((2 ^ (D 1 0).toNat : Nat) : Int) - 1 = ((2 ^ (D 1 0).toNat - 1 : Nat) : Int) by omega]
                refine t_thinned_1 (more := more) (bu := bu) (dr := dr) (v := v) hS hR1 hX (fun k hk => (hp1 k hk).trans (hp3 202 k (by omega)).symm) (by omega) (by omega) (by omega) (by omega) _ 0 I1 L _ (Nat.lt_succ_self _) (by omega) hR1 frG.rf frG.rf (fun I2 L2 v9 hR2 hF2 hG2 => ?_)
                have hrg := thF_rg (D := D) (X := X) (more := more) (bu := bu) (dr := dr) (by omega) (2 ^ (D 1 0).toNat) (by omega)
                refine w_aload c_203_182 rfl ?_
                refine wc_178 c_203_183 sp_157 (Nat.le_of_ble_eq_true rfl) (by omega) ?_
                refine t_takesBack (fun I3 hb1 hb2 hb3 => ?_)
                refine r_v ?_
                refine w_iload c_203_186 rfl ?_
                refine z_if_ne c_203_188 (by first | exact aRg_of _ | (unfold aRg; omega)) (fun h31_ => ?_) (fun h31_ => ?_)
                · refine w_iload c_203_196 rfl ?_
                  refine z_push c_203_198 ?_
                  refine z_ic_ne c_203_199 (by first | exact aRg_of _ | (unfold aRg; omega)) (by first | exact aRg_of _ | (unfold aRg; omega)) (fun h32_ => ?_) (fun h32_ => ?_)
                  · refine w_iload c_203_216 rfl ?_
                    refine z_ret c_203_218 rfl ?_
                    refine q_i (k _ _ (back_fr hp3 hp1 hF2 hb3 hb1 hth hb2) hG2) ?_
                    unfold thinZ; rw [if_pos hcc]
                    (repeat (first | rw [if_pos (by omega)] | rw [if_neg (by omega)]))
                  · refine w_iload c_203_202 rfl ?_
                    refine z_if_ne c_203_204 (by first | exact aRg_of _ | (unfold aRg; omega)) (fun h33_ => ?_) (fun h33_ => ?_)
                    · refine w_iload c_203_211 rfl ?_
                      refine w_goto c_203_213 ?_
                      refine z_ret c_203_218 rfl ?_
                      refine q_i (k _ _ (back_fr hp3 hp1 hF2 hb3 hb1 hth hb2) hG2) ?_
                      unfold thinZ; rw [if_pos hcc]
                      (repeat (first | rw [if_pos (by omega)] | rw [if_neg (by omega)]))
                    · refine z_push c_203_207 ?_
                      refine w_goto c_203_208 ?_
                      refine z_ret c_203_218 rfl ?_
                      refine q_i (k _ _ (back_fr hp3 hp1 hF2 hb3 hb1 hth hb2) hG2) ?_
                      unfold thinZ; rw [if_pos hcc]
                      (repeat (first | rw [if_pos (by omega)] | rw [if_neg (by omega)]))
                · refine w_iload c_203_191 rfl ?_
                  refine w_goto c_203_193 ?_
                  refine z_ret c_203_218 rfl ?_
                  refine q_i (k _ _ (back_fr hp3 hp1 hF2 hb3 hb1 hth hb2) hG2) ?_
                  unfold thinZ; rw [if_pos hcc]
                  (repeat (first | rw [if_pos (by omega)] | rw [if_neg (by omega)]))
              · refine z_push c_203_73 ?_
                refine z_ret c_203_74 rfl ?_
                refine q_i (k _ _ frG.rf frG.rf) ?_
                unfold thinZ
                rw [if_neg (by simp only [decide_eq_true_eq, decide_eq_false_iff_not] at *; omega)]

set_option maxHeartbeats 2000000 in
theorem tc_thinned_1 {d : Nat} {I0 : aFI} {L : aFL} {Q : aPo} {sh : Nat} {su : Option Nat} {D : Nat → Int → Int} {cd : Nat → Option (List Int)} {X : Lk} {kc more bu dr v : Int} (hsh : sh = 8 ∨ sh = 22) (hS : wfS D cd) (hW0 : cW I0 sh D cd) (hL0 : lkX I0 36 kc X) (hX : lkOK X) (hb9 : X.2.1 ≤ 9999) (hm : 1 ≤ more ∧ more ≤ 999) (hbu : 0 ≤ bu ∧ bu ≤ 9999) (hdr : dr = -1 ∨ 0 ≤ dr ∧ dr ≤ 9999) (hd : 4 ≤ d) : ∀ (n : Nat) (t : Nat) (a6 : Int32) (I : aFI), 2 ^ (D 1 0).toNat - t < n → (t ≤ 2 ^ (D 1 0).toNat) → (a6 = (if (thF D X more bu dr t).1 = 0 then iI (-1) else iI (((thF D X more bu dr t).2.1 : Nat) : Int))) → (frP (PL 39) I0 I) → (∀ I2 : aFI, frP (PL 39) I0 I2 → aWp none d 93 190 [.ref 0, .int (iI more), .int (iI bu), .int (iI dr), .int (iI v), .int (iI (((thF D X more bu dr (2 ^ (D 1 0).toNat)).1 : Nat) : Int)), .int (if (thF D X more bu dr (2 ^ (D 1 0).toNat)).1 = 0 then iI (-1) else iI (((thF D X more bu dr (2 ^ (D 1 0).toNat)).2.1 : Nat) : Int)), .int (iI (((thF D X more bu dr (2 ^ (D 1 0).toNat)).2.2 : Nat) : Int)), .int (iI ((2 ^ (D 1 0).toNat : Nat) : Int))] [] I2 L (aR sh su) Q) → aWp none d 93 81 [.ref 0, .int (iI more), .int (iI bu), .int (iI dr), .int (iI v), .int (iI (((thF D X more bu dr t).1 : Nat) : Int)), .int a6, .int (iI (((thF D X more bu dr t).2.2 : Nat) : Int)), .int (iI (t : Int))] [] I L (aR sh su) Q := by
  intro n
  induction n with
  | zero => intro t a6 I h; omega
  | succ n ih =>
    intro t a6 I hn2 h1 ha hF k
    have hdd := hS.n
    have hpw := pw_rg (n := D 1 0) (by omega)
    have hx := hX.2
    have hrg := thF_rg (D := D) (X := X) (more := more) (bu := bu) (dr := dr) (by omega) t (by omega)
    have hs3 := sumB_rg (f := D 3) (dry := 0) (m := (D 1 0).toNat) (fun j z1 z2 => (hS.br z1 (by omega)).1) (D 1 0).toNat (by omega)
    have hs4 := sumB_rg (f := D 4) (dry := 0) (m := (D 1 0).toNat) (fun j z1 z2 => (hS.br z1 (by omega)).2) (D 1 0).toNat (by omega)
    have hs5 := sumT_rg (t := t) (m := more) (by omega) (D 1 0).toNat
    have htb : X.2.1 + sumB (D 3) 0 (D 1 0).toNat + sumT more t (D 1 0).toNat = thB D X more t := rfl
    have hfb := flB_rg (b := thB D X more t) hS (by omega)
    have hfg := flG_rg (b := thB D X more t) (g := X.2.2.1 + sumB (D 4) 0 (D 1 0).toNat) hS (by omega) (by omega)
    have hhh := hS.h
    have hkr := dk_rg (b := flB D (thB D X more t)) (g := flG D (thB D X more t) (X.2.2.1 + sumB (D 4) 0 (D 1 0).toNat))
    have hst : thF D X more bu dr (t + 1) = if thH D X more bu dr t = true then ((thF D X more bu dr t).1 + 1, (thF D X more bu dr t).2.1 &&& t, (thF D X more bu dr t).2.2 ||| t) else thF D X more bu dr t := rfl
    have hW := hW0.fL hsh aLk_39 hF
    have hL := isLk.fPL hL0 hF
    have hlt : t < 2 ^ (D 1 0).toNat → popc t ≤ (D 1 0).toNat ∧ sumT more t (D 1 0).toNat = more * ((popc t : Nat) : Int) := fun h => ⟨popc_le2 (by omega) h, by rw [sumT_cnt, cntB_eq (by omega) h]⟩
    have hfall := thF_all (D := D) (X := X) (more := more) (bu := bu) (dr := dr) t
    refine w_iload c_93_81 rfl ?_
    refine z_push c_93_83 ?_
    refine w_aload c_93_84 rfl ?_
    refine w_getR c_93_85 sp_0 (by decide) rfl pr_0_3 ?_
    refine w_getR c_93_88 (sps_0 hsh) (by decide) rfl (prs_4 hsh) ?_
    refine z_push c_93_91 ?_
    refine z_iaload c_93_92 (sps_1 hsh) (by omega) (by first | decide | omega) (hW.1.a 1 (by omega) (by omega)) ?_
    refine w_ishl c_93_93 (shl1 (by omega)) ?_
    refine z_ic_ge c_93_94 (by first | exact aRg_of _ | (unfold aRg; omega)) (by first | exact aRg_of _ | (unfold aRg; omega)) (fun h1_ => ?_) (fun h1_ => ?_)
    · have e9 : t = 2 ^ (D 1 0).toNat := by omega
      subst e9
      subst ha
      exact k I hF
    · refine w_aload c_93_97 rfl ?_
      refine w_getR c_93_98 sp_0 (by decide) rfl pr_0_6 ?_
      refine w_aload c_93_101 rfl ?_
      refine w_getR c_93_102 sp_0 (by decide) rfl pr_0_5 ?_
      refine wc_6 c_93_105 sp_39 (Nat.le_of_ble_eq_true rfl) (by omega) ?_
      obtain ⟨hpo, hsu⟩ := hlt (by omega)
      refine tc_copyOf aLk_39 aLk_36 (by decide) hL (by omega) (fun I1 hL1 hF1 => ?_)
      replace hF1 : frP (PL 39) I0 I1 := hF.tr (hF1.mono (fun q hq => Or.inr hq))
      refine r_v ?_
      refine w_aload c_93_108 rfl ?_
      refine w_getR c_93_109 sp_0 (by decide) rfl pr_0_6 ?_
      refine w_dup c_93_112 rfl ?_
      refine z_getZ c_93_113 sp_39 (by decide) rfl hL1.2.1 ?_
      refine w_iload c_93_116 rfl ?_
      refine w_iload c_93_117 rfl ?_
      refine wc_257 c_93_119 (Nat.le_of_ble_eq_true rfl) (by omega) ?_
      refine t_bitCount (by omega) ?_
      refine r_i ?_
      refine z_imul c_93_122 ?_
      refine z_iadd c_93_123 ?_
      refine z_putZ c_93_124 sp_39 (by decide) rfl ?_
      refine up_k hF1 (Or.inr ⟨by omega, by omega⟩) (fun I2 hi hF2 => ?_)
      have hL2 := hi ▸ hL1.pb (v := X.2.1 + more * ((popc t : Nat) : Int))
      have hW2 := hW0.fL hsh aLk_39 hF2
      refine w_aload c_93_127 rfl ?_
      refine w_getR c_93_128 sp_0 (by decide) rfl pr_0_7 ?_
      refine w_aload c_93_131 rfl ?_
      refine w_getR c_93_132 sp_0 (by decide) rfl pr_0_6 ?_
      refine z_push c_93_135 ?_
      refine wc_53 c_93_136 sp_42 (Nat.le_of_ble_eq_true rfl) (by omega) ?_
      refine tc_fill (dry := 0) hsh aLk_39 hS hW2 (by omega) (by omega) (by decide) hL2 (by omega) (fun I4 hL4 hF4 => ?_)
      rw [show X.2.1 + more * ((popc t : Nat) : Int) + sumB (D 3) 0 (D 1 0).toNat = thB D X more t by unfold thB; omega] at hL4
      replace hF4 := hF2.tr hF4
      refine r_i ?_
      refine w_pop c_93_139 rfl ?_
      refine w_aload c_93_140 rfl ?_
      refine w_getR c_93_141 sp_0 (by decide) rfl pr_0_6 ?_
      refine z_getZ c_93_144 sp_39 (by decide) rfl hL4.2.1 ?_
      refine w_iload c_93_147 rfl ?_
      refine z_ic_ne c_93_148 (by first | exact aRg_of _ | (unfold aRg; omega)) (by first | exact aRg_of _ | (unfold aRg; omega)) (fun h2_ => ?_) (fun h2_ => ?_)
      · refine z_iinc c_93_184 rfl rfl ?_
        refine w_goto c_93_187 ?_
        have hh : ¬ thH D X more bu dr t = true := by
          unfold thH
          simp only [Bool.and_eq_true, Bool.or_eq_true, decide_eq_true_eq]
          omega
        rw [if_neg hh] at hst
        have hA := ih (t + 1) a6 I4 (by omega) (by omega) (by rw [hst]; exact ha) hF4 k
        rw [hst] at hA
        exact hA
      · refine w_iload c_93_151 rfl ?_
        refine z_push c_93_152 ?_
        refine z_ic_eq c_93_153 (by first | exact aRg_of _ | (unfold aRg; omega)) (by first | exact aRg_of _ | (unfold aRg; omega)) (fun h3_ => ?_) (fun h3_ => ?_)
        · refine z_iinc c_93_167 rfl rfl ?_
          refine w_iload c_93_170 rfl ?_
          refine w_iload c_93_172 rfl ?_
          refine w_iand c_93_174 rfl ?_
          refine w_istore c_93_175 (Nat.le_of_ble_eq_true rfl) rfl ?_
          refine w_iload c_93_177 rfl ?_
          refine w_iload c_93_179 rfl ?_
          refine w_ior c_93_181 (iI_or _ _) ?_
          refine w_istore c_93_182 (Nat.le_of_ble_eq_true rfl) rfl ?_
          refine z_iinc c_93_184 rfl rfl ?_
          refine w_goto c_93_187 ?_
          have hh : thH D X more bu dr t = true := by
            unfold thH
            first
            | (rw [decide_eq_true (by omega), decide_eq_true (by omega)]; rfl)
            | (rw [decide_eq_true (by omega), decide_eq_true (p := dk _ _ = dr) (by omega), Bool.or_true]; rfl)
          rw [if_pos hh] at hst
          have hA := ih (t + 1) (a6 &&& iI (t : Int)) I4 (by omega) (by omega) (by rw [hst, if_neg (show ¬ (thF D X more bu dr t).1 + 1 = 0 from Nat.succ_ne_zero _), ha]; show _ = iI ((((thF D X more bu dr t).2.1 &&& t : Nat)) : Int); split; (rename_i hz; rw [and_m1 (by omega), hfall hz, pw_and (by omega)]); exact iI_and _ _) hF4 k
          rw [hst] at hA
          exact hA
        · refine w_aload c_93_156 rfl ?_
          refine w_getR c_93_157 sp_0 (by decide) rfl pr_0_6 ?_
          refine wc_7 c_93_160 sp_39 (Nat.le_of_ble_eq_true rfl) (by omega) ?_
          refine tc_darkness aLk_39 hL4.2.1 hL4.2.2.1 (by omega) (by omega) ?_
          refine r_i ?_
          refine w_iload c_93_163 rfl ?_
          refine z_ic_ne c_93_164 (by first | exact aRg_of _ | (unfold aRg; omega)) (by first | exact aRg_of _ | (unfold aRg; omega)) (fun h4_ => ?_) (fun h4_ => ?_)
          · refine z_iinc c_93_184 rfl rfl ?_
            refine w_goto c_93_187 ?_
            have hh : ¬ thH D X more bu dr t = true := by
              unfold thH
              simp only [Bool.and_eq_true, Bool.or_eq_true, decide_eq_true_eq]
              omega
            rw [if_neg hh] at hst
            have hA := ih (t + 1) a6 I4 (by omega) (by omega) (by rw [hst]; exact ha) hF4 k
            rw [hst] at hA
            exact hA
          · refine z_iinc c_93_167 rfl rfl ?_
            refine w_iload c_93_170 rfl ?_
            refine w_iload c_93_172 rfl ?_
            refine w_iand c_93_174 rfl ?_
            refine w_istore c_93_175 (Nat.le_of_ble_eq_true rfl) rfl ?_
            refine w_iload c_93_177 rfl ?_
            refine w_iload c_93_179 rfl ?_
            refine w_ior c_93_181 (iI_or _ _) ?_
            refine w_istore c_93_182 (Nat.le_of_ble_eq_true rfl) rfl ?_
            refine z_iinc c_93_184 rfl rfl ?_
            refine w_goto c_93_187 ?_
            have hh : thH D X more bu dr t = true := by
              unfold thH
              first
              | (rw [decide_eq_true (by omega), decide_eq_true (by omega)]; rfl)
              | (rw [decide_eq_true (by omega), decide_eq_true (p := dk _ _ = dr) (by omega), Bool.or_true]; rfl)
            rw [if_pos hh] at hst
            have hA := ih (t + 1) (a6 &&& iI (t : Int)) I4 (by omega) (by omega) (by rw [hst, if_neg (show ¬ (thF D X more bu dr t).1 + 1 = 0 from Nat.succ_ne_zero _), ha]; show _ = iI ((((thF D X more bu dr t).2.1 &&& t : Nat)) : Int); split; (rename_i hz; rw [and_m1 (by omega), hfall hz, pw_and (by omega)]); exact iI_and _ _) hF4 k
            rw [hst] at hA
            exact hA

set_option maxHeartbeats 1000000 in
theorem tc_thinned {d : Nat} {I : aFI} {L : aFL} {Q : aPo} {sh : Nat} {su : Option Nat} {D : Nat → Int → Int} {cd : Nat → Option (List Int)} {X : Lk} {kc : Int} (hsh : sh = 8 ∨ sh = 22) (hS : wfS D cd) (hW : cW I sh D cd) (hL : lkX I 36 kc X) (hX : lkOK X) {more bu dr v : Int} (rmore : -2147483648 ≤ more ∧ more < 2147483648) (rbu : -2147483648 ≤ bu ∧ bu < 2147483648) (rdr : -2147483648 ≤ dr ∧ dr < 2147483648) (rv : -2147483648 ≤ v ∧ v < 2147483648) (hs : X.1 ≤ 999) (hb9 : X.2.1 ≤ 9999) (hd : 5 ≤ d) (k : ∀ I2 : aFI, frP (PL 39) I I2 → Q (some (.int (iI (thinZ D X more bu dr v)))) I2 L (aR sh su)) : aWp none d 93 0 [.ref 0, .int (iI more), .int (iI bu), .int (iI dr), .int (iI v), .null, .null, .null, .null] [] I L (aR sh su) Q := by
  have hdd := hS.n
  have hx1 := hX.1
  have hx2 := hX.2.1
  have hx3 := hX.2.2.1
  have hx4 := hX.2.2.2.1
  have hpw := pw_rg (n := D 1 0) (by omega)
  refine w_aload c_93_0 rfl ?_
  refine w_getR c_93_1 sp_0 (by decide) rfl pr_0_3 ?_
  refine z_getB c_93_4 (sps_0 hsh) (by decide) rfl hW.1.1 ?_
  refine b_if_eq c_93_7 (fun h1_ => ?_) (fun h1_ => ?_)
  · refine z_push c_93_34 ?_
    refine z_ret c_93_35 rfl ?_
    refine q_i (k _ frP.rf) ?_
    unfold thinZ
    rw [if_neg (by simp only [decide_eq_true_eq, decide_eq_false_iff_not] at *; omega)]
  · refine w_iload c_93_10 rfl ?_
    refine z_if_lt c_93_12 (by first | exact aRg_of _ | (unfold aRg; omega)) (fun h2_ => ?_) (fun h2_ => ?_)
    · refine z_push c_93_34 ?_
      refine z_ret c_93_35 rfl ?_
      refine q_i (k _ frP.rf) ?_
      unfold thinZ
      rw [if_neg (by simp only [decide_eq_true_eq, decide_eq_false_iff_not] at *; omega)]
    · refine w_iload c_93_15 rfl ?_
      refine z_push c_93_17 ?_
      refine z_ic_gt c_93_18 (by first | exact aRg_of _ | (unfold aRg; omega)) (by first | exact aRg_of _ | (unfold aRg; omega)) (fun h3_ => ?_) (fun h3_ => ?_)
      · refine z_push c_93_34 ?_
        refine z_ret c_93_35 rfl ?_
        refine q_i (k _ frP.rf) ?_
        unfold thinZ
        rw [if_neg (by simp only [decide_eq_true_eq, decide_eq_false_iff_not] at *; omega)]
      · refine w_aload c_93_21 rfl ?_
        refine w_getR c_93_22 sp_0 (by decide) rfl pr_0_5 ?_
        refine z_getZ c_93_25 sp_36 (by decide) rfl hL.1 ?_
        refine z_push c_93_28 ?_
        refine z_ic_lt c_93_31 (by first | exact aRg_of _ | (unfold aRg; omega)) (by first | exact aRg_of _ | (unfold aRg; omega)) (fun h4_ => ?_) (fun h4_ => ?_)
        · refine w_iload c_93_36 rfl ?_
          refine z_push c_93_37 ?_
          refine z_ic_lt c_93_38 (by first | exact aRg_of _ | (unfold aRg; omega)) (by first | exact aRg_of _ | (unfold aRg; omega)) (fun h5_ => ?_) (fun h5_ => ?_)
          · refine z_push c_93_67 ?_
            refine z_ret c_93_68 rfl ?_
            refine q_i (k _ frP.rf) ?_
            unfold thinZ
            rw [if_neg (by simp only [decide_eq_true_eq, decide_eq_false_iff_not] at *; omega)]
          · refine w_iload c_93_41 rfl ?_
            refine z_push c_93_42 ?_
            refine z_ic_gt c_93_45 (by first | exact aRg_of _ | (unfold aRg; omega)) (by first | exact aRg_of _ | (unfold aRg; omega)) (fun h6_ => ?_) (fun h6_ => ?_)
            · refine z_push c_93_67 ?_
              refine z_ret c_93_68 rfl ?_
              refine q_i (k _ frP.rf) ?_
              unfold thinZ
              rw [if_neg (by simp only [decide_eq_true_eq, decide_eq_false_iff_not] at *; omega)]
            · refine w_iload c_93_48 rfl ?_
              refine wc_113 c_93_49 (Nat.le_of_ble_eq_true rfl) (by omega) ?_
              refine tc_isNoAmount (by omega) ?_
              refine r_i ?_
              refine b_if_ne c_93_52 (fun h7_ => ?_) (fun h7_ => ?_)
              · refine z_push c_93_67 ?_
                refine z_ret c_93_68 rfl ?_
                refine q_i (k _ frP.rf) ?_
                unfold thinZ
                rw [if_neg (by simp only [decide_eq_true_eq, decide_eq_false_iff_not] at *; omega)]
              · refine w_iload c_93_55 rfl ?_
                refine z_push c_93_56 ?_
                refine z_ic_eq c_93_57 (by first | exact aRg_of _ | (unfold aRg; omega)) (by first | exact aRg_of _ | (unfold aRg; omega)) (fun h8_ => ?_) (fun h8_ => ?_)
                · simp only [decide_eq_true_eq, decide_eq_false_iff_not] at *
                  refine z_push c_93_69 ?_
                  refine w_istore c_93_70 (Nat.le_of_ble_eq_true rfl) rfl ?_
                  refine z_push c_93_72 ?_
                  refine w_istore c_93_73 (Nat.le_of_ble_eq_true rfl) rfl ?_
                  refine z_push c_93_75 ?_
                  refine w_istore c_93_76 (Nat.le_of_ble_eq_true rfl) rfl ?_
                  refine z_push c_93_78 ?_
                  refine w_istore c_93_79 (Nat.le_of_ble_eq_true rfl) rfl ?_
                  have hcc : ((D 0 0 = 1 ∧ 1 ≤ more ∧ more ≤ 999) ∧ (0 ≤ bu ∧ bu ≤ 9999) ∧ (dr = -1 ∨ 0 ≤ dr ∧ dr ≤ 9999)) ∧ (0 ≤ v ∧ v ≤ 2) ∧ ¬ X.1 = 999 := by omega
                  refine tc_thinned_1 (more := more) (bu := bu) (dr := dr) (v := v) hsh hS hW hL hX hb9 (by omega) (by omega) (by omega) (by omega) _ 0 _ I (Nat.lt_succ_self _) (by omega) rfl frP.rf (fun I2 hF2 => ?_)
                  have hrg := thF_rg (D := D) (X := X) (more := more) (bu := bu) (dr := dr) (by omega) (2 ^ (D 1 0).toNat) (by omega)
                  refine w_iload c_93_190 rfl ?_
                  rcases (show (v = 0) ∨ (v = 1) ∨ (¬ v = 0 ∧ ¬ v = 1) by omega) with h31_ | h31_ | h31_
                  · refine z_lsw c_93_192 (by first | exact aRg_of _ | (unfold aRg; omega)) (pc2 := 220) (by rcases h31_ with rfl <;> rfl) ?_
                    refine w_iload c_93_220 rfl ?_
                    refine z_ret c_93_222 rfl ?_
                    refine q_i (k _ hF2) ?_
                    try subst h31_
                    unfold thinZ; rw [if_pos hcc]
                    (repeat (first | rw [if_pos (by omega)] | rw [if_neg (by omega)]))
                  · refine z_lsw c_93_192 (by first | exact aRg_of _ | (unfold aRg; omega)) (pc2 := 223) (by rcases h31_ with rfl <;> rfl) ?_
                    refine w_iload c_93_223 rfl ?_
                    refine z_if_ne c_93_225 (by first | exact aRg_of _ | (unfold aRg; omega)) (fun h32_ => ?_) (fun h32_ => ?_)
                    · rw [if_neg (by omega)]
                      refine w_iload c_93_232 rfl ?_
                      refine z_ret c_93_234 rfl ?_
                      refine q_i (k _ hF2) ?_
                      try subst h31_
                      unfold thinZ; rw [if_pos hcc]
                      (repeat (first | rw [if_pos (by omega)] | rw [if_neg (by omega)]))
                    · refine z_push c_93_228 ?_
                      refine w_goto c_93_229 ?_
                      refine z_ret c_93_234 rfl ?_
                      refine q_i (k _ hF2) ?_
                      try subst h31_
                      unfold thinZ; rw [if_pos hcc]
                      (repeat (first | rw [if_pos (by omega)] | rw [if_neg (by omega)]))
                  · refine z_lsw c_93_192 (by first | exact aRg_of _ | (unfold aRg; omega)) (pc2 := 235) (by simp only [aLks]; repeat (first | rw [if_neg (by omega)] | rfl)) ?_
                    refine w_iload c_93_235 rfl ?_
                    refine z_ret c_93_237 rfl ?_
                    refine q_i (k _ hF2) ?_
                    try subst h31_
                    unfold thinZ; rw [if_pos hcc]
                    (repeat (first | rw [if_pos (by omega)] | rw [if_neg (by omega)]))
                · refine w_iload c_93_60 rfl ?_
                  refine wc_113 c_93_61 (Nat.le_of_ble_eq_true rfl) (by omega) ?_
                  refine tc_isNoAmount (by omega) ?_
                  refine r_i ?_
                  refine b_if_eq c_93_64 (fun h9_ => ?_) (fun h9_ => ?_)
                  · simp only [decide_eq_true_eq, decide_eq_false_iff_not] at *
                    refine z_push c_93_69 ?_
                    refine w_istore c_93_70 (Nat.le_of_ble_eq_true rfl) rfl ?_
                    refine z_push c_93_72 ?_
                    refine w_istore c_93_73 (Nat.le_of_ble_eq_true rfl) rfl ?_
                    refine z_push c_93_75 ?_
                    refine w_istore c_93_76 (Nat.le_of_ble_eq_true rfl) rfl ?_
                    refine z_push c_93_78 ?_
                    refine w_istore c_93_79 (Nat.le_of_ble_eq_true rfl) rfl ?_
                    have hcc : ((D 0 0 = 1 ∧ 1 ≤ more ∧ more ≤ 999) ∧ (0 ≤ bu ∧ bu ≤ 9999) ∧ (dr = -1 ∨ 0 ≤ dr ∧ dr ≤ 9999)) ∧ (0 ≤ v ∧ v ≤ 2) ∧ ¬ X.1 = 999 := by omega
                    refine tc_thinned_1 (more := more) (bu := bu) (dr := dr) (v := v) hsh hS hW hL hX hb9 (by omega) (by omega) (by omega) (by omega) _ 0 _ I (Nat.lt_succ_self _) (by omega) rfl frP.rf (fun I2 hF2 => ?_)
                    have hrg := thF_rg (D := D) (X := X) (more := more) (bu := bu) (dr := dr) (by omega) (2 ^ (D 1 0).toNat) (by omega)
                    refine w_iload c_93_190 rfl ?_
                    rcases (show (v = 0) ∨ (v = 1) ∨ (¬ v = 0 ∧ ¬ v = 1) by omega) with h31_ | h31_ | h31_
                    · refine z_lsw c_93_192 (by first | exact aRg_of _ | (unfold aRg; omega)) (pc2 := 220) (by rcases h31_ with rfl <;> rfl) ?_
                      refine w_iload c_93_220 rfl ?_
                      refine z_ret c_93_222 rfl ?_
                      refine q_i (k _ hF2) ?_
                      try subst h31_
                      unfold thinZ; rw [if_pos hcc]
                      (repeat (first | rw [if_pos (by omega)] | rw [if_neg (by omega)]))
                    · refine z_lsw c_93_192 (by first | exact aRg_of _ | (unfold aRg; omega)) (pc2 := 223) (by rcases h31_ with rfl <;> rfl) ?_
                      refine w_iload c_93_223 rfl ?_
                      refine z_if_ne c_93_225 (by first | exact aRg_of _ | (unfold aRg; omega)) (fun h32_ => ?_) (fun h32_ => ?_)
                      · rw [if_neg (by omega)]
                        refine w_iload c_93_232 rfl ?_
                        refine z_ret c_93_234 rfl ?_
                        refine q_i (k _ hF2) ?_
                        try subst h31_
                        unfold thinZ; rw [if_pos hcc]
                        (repeat (first | rw [if_pos (by omega)] | rw [if_neg (by omega)]))
                      · refine z_push c_93_228 ?_
                        refine w_goto c_93_229 ?_
                        refine z_ret c_93_234 rfl ?_
                        refine q_i (k _ hF2) ?_
                        try subst h31_
                        unfold thinZ; rw [if_pos hcc]
                        (repeat (first | rw [if_pos (by omega)] | rw [if_neg (by omega)]))
                    · refine z_lsw c_93_192 (by first | exact aRg_of _ | (unfold aRg; omega)) (pc2 := 235) (by simp only [aLks]; repeat (first | rw [if_neg (by omega)] | rfl)) ?_
                      refine w_iload c_93_235 rfl ?_
                      refine z_ret c_93_237 rfl ?_
                      refine q_i (k _ hF2) ?_
                      try subst h31_
                      unfold thinZ; rw [if_pos hcc]
                      (repeat (first | rw [if_pos (by omega)] | rw [if_neg (by omega)]))
                  · refine z_push c_93_67 ?_
                    refine z_ret c_93_68 rfl ?_
                    refine q_i (k _ frP.rf) ?_
                    unfold thinZ
                    rw [if_neg (by simp only [decide_eq_true_eq, decide_eq_false_iff_not] at *; omega)]
        · refine z_push c_93_34 ?_
          refine z_ret c_93_35 rfl ?_
          refine q_i (k _ frP.rf) ?_
          unfold thinZ
          rw [if_neg (by simp only [decide_eq_true_eq, decide_eq_false_iff_not] at *; omega)]

