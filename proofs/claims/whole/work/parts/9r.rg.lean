/-! the reference: what was told stands (p9r.py) -/
set_option maxHeartbeats 2000000 in
theorem t_sd_7 {d : Nat} {L : aFL} {Q : aPo} {sh : Nat} {su : Option Nat} {I0 : aFI} (kk : ∀ I2 : aFI, (∀ p : Nat, p < 3 → I2 192 (3 + p) = I0 192 p ∧ I2 194 (3 + p) = I0 194 p ∧ I2 198 (3 + p) = I0 198 p ∧ I2 199 (3 + p) = I0 199 p ∧ I2 200 (3 + p) = I0 200 p) → frG (fun a k => (a = 192 ∨ a = 194 ∨ a = 198 ∨ a = 199 ∨ a = 200) ∧ 3 ≤ k ∧ k < 6) I0 I2 → aWp none d 157 88 [.ref 157, .int (iI 3)] [] I2 L (aR sh su) Q) : ∀ (fz : Nat) (i : Int) (I : aFI), (3 - i).toNat < fz → (0 ≤ i) → (i ≤ 3) → (∀ p : Nat, (p : Int) < i → I 192 (3 + p) = I0 192 p ∧ I 194 (3 + p) = I0 194 p ∧ I 198 (3 + p) = I0 198 p ∧ I 199 (3 + p) = I0 199 p ∧ I 200 (3 + p) = I0 200 p) → (frG (fun a k => (a = 192 ∨ a = 194 ∨ a = 198 ∨ a = 199 ∨ a = 200) ∧ 3 ≤ k ∧ k < 6) I0 I) → aWp none d 157 7 [.ref 157, .int (iI i)] [] I L (aR sh su) Q := by
  intro fz
  induction fz with
  | zero => intro i I h; omega
  | succ fz ih =>
    intro i I hn2 h0 h1 hp hF
    refine w_iload c_157_7 rfl ?_
    refine z_push c_157_8 ?_
    refine z_ic_ge c_157_9 (by first | exact aRg_of _ | (unfold aRg; omega)) (by first | exact aRg_of _ | (unfold aRg; omega)) (fun h1_ => ?_) (fun h1_ => ?_)
    · have hi : i = 3 := by omega
      subst hi
      exact kk I (fun p hp2 => hp p (by omega)) hF
    · refine w_aload c_157_12 rfl ?_
      refine w_getR c_157_13 sp_157 (by decide) rfl pr_157_44 ?_
      refine z_push c_157_16 ?_
      refine w_iload c_157_17 rfl ?_
      refine z_iadd c_157_18 ?_
      refine w_aload c_157_19 rfl ?_
      refine w_getR c_157_20 sp_157 (by decide) rfl pr_157_44 ?_
      refine w_iload c_157_23 rfl ?_
      refine z_iaload c_157_24 sp_192 (by omega) (by first | decide | omega) ((hF 192 _ (by omega)).trans (iI_of _)) ?_
      refine z_iastore c_157_25 sp_192 (by omega) (by decide) ?_
      refine upG_k hF (by omega) (fun I1 e1 hF1 => ?_)
      refine w_aload c_157_26 rfl ?_
      refine w_getR c_157_27 sp_157 (by decide) rfl pr_157_46 ?_
      refine z_push c_157_30 ?_
      refine w_iload c_157_31 rfl ?_
      refine z_iadd c_157_32 ?_
      refine w_aload c_157_33 rfl ?_
      refine w_getR c_157_34 sp_157 (by decide) rfl pr_157_46 ?_
      refine w_iload c_157_37 rfl ?_
      refine z_iaload c_157_38 sp_194 (by omega) (by first | decide | omega) ((hF1 194 _ (by omega)).trans (iI_of _)) ?_
      refine z_iastore c_157_39 sp_194 (by omega) (by decide) ?_
      refine upG_k hF1 (by omega) (fun I2 e2 hF2 => ?_)
      refine w_aload c_157_40 rfl ?_
      refine w_getR c_157_41 sp_157 (by decide) rfl pr_157_50 ?_
      refine z_push c_157_44 ?_
      refine w_iload c_157_45 rfl ?_
      refine z_iadd c_157_46 ?_
      refine w_aload c_157_47 rfl ?_
      refine w_getR c_157_48 sp_157 (by decide) rfl pr_157_50 ?_
      refine w_iload c_157_51 rfl ?_
      refine z_iaload c_157_52 sp_198 (by omega) (by first | decide | omega) ((hF2 198 _ (by omega)).trans (iI_of _)) ?_
      refine z_iastore c_157_53 sp_198 (by omega) (by decide) ?_
      refine upG_k hF2 (by omega) (fun I3 e3 hF3 => ?_)
      refine w_aload c_157_54 rfl ?_
      refine w_getR c_157_55 sp_157 (by decide) rfl pr_157_51 ?_
      refine z_push c_157_58 ?_
      refine w_iload c_157_59 rfl ?_
      refine z_iadd c_157_60 ?_
      refine w_aload c_157_61 rfl ?_
      refine w_getR c_157_62 sp_157 (by decide) rfl pr_157_51 ?_
      refine w_iload c_157_65 rfl ?_
      refine z_iaload c_157_66 sp_199 (by omega) (by first | decide | omega) ((hF3 199 _ (by omega)).trans (iI_of _)) ?_
      refine z_iastore c_157_67 sp_199 (by omega) (by decide) ?_
      refine upG_k hF3 (by omega) (fun I4 e4 hF4 => ?_)
      refine w_aload c_157_68 rfl ?_
      refine w_getR c_157_69 sp_157 (by decide) rfl pr_157_52 ?_
      refine z_push c_157_72 ?_
      refine w_iload c_157_73 rfl ?_
      refine z_iadd c_157_74 ?_
      refine w_aload c_157_75 rfl ?_
      refine w_getR c_157_76 sp_157 (by decide) rfl pr_157_52 ?_
      refine w_iload c_157_79 rfl ?_
      refine z_iaload c_157_80 sp_200 (by omega) (by first | decide | omega) ((hF4 200 _ (by omega)).trans (iI_of _)) ?_
      refine z_iastore c_157_81 sp_200 (by omega) (by decide) ?_
      refine upG_k hF4 (by omega) (fun I5 e5 hF5 => ?_)
      refine z_iinc c_157_82 rfl rfl ?_
      refine w_goto c_157_85 ?_
      refine ih (i + 1) I5 (by omega) (by omega) (by omega) (fun p hp2 => ?_) hF5
      by_cases hpi : (p : Int) = i
      · exact ⟨by rw [e5, up_ne (by omega), e4, up_ne (by omega), e3, up_ne (by omega), e2, up_ne (by omega), e1, show 3 + p = (3 + i).toNat by omega, up_eq, show i.toNat = p by omega]; exact (iI_of _).symm, by rw [e5, up_ne (by omega), e4, up_ne (by omega), e3, up_ne (by omega), e2, show 3 + p = (3 + i).toNat by omega, up_eq, show i.toNat = p by omega]; exact (iI_of _).symm, by rw [e5, up_ne (by omega), e4, up_ne (by omega), e3, show 3 + p = (3 + i).toNat by omega, up_eq, show i.toNat = p by omega]; exact (iI_of _).symm, by rw [e5, up_ne (by omega), e4, show 3 + p = (3 + i).toNat by omega, up_eq, show i.toNat = p by omega]; exact (iI_of _).symm, by rw [e5, show 3 + p = (3 + i).toNat by omega, up_eq, show i.toNat = p by omega]; exact (iI_of _).symm⟩
      · have hq := hp p (by omega)
        exact ⟨by rw [e5, up_ne (by omega), e4, up_ne (by omega), e3, up_ne (by omega), e2, up_ne (by omega), e1, up_ne (by omega)]; exact hq.1, by rw [e5, up_ne (by omega), e4, up_ne (by omega), e3, up_ne (by omega), e2, up_ne (by omega), e1, up_ne (by omega)]; exact hq.2.1, by rw [e5, up_ne (by omega), e4, up_ne (by omega), e3, up_ne (by omega), e2, up_ne (by omega), e1, up_ne (by omega)]; exact hq.2.2.1, by rw [e5, up_ne (by omega), e4, up_ne (by omega), e3, up_ne (by omega), e2, up_ne (by omega), e1, up_ne (by omega)]; exact hq.2.2.2.1, by rw [e5, up_ne (by omega), e4, up_ne (by omega), e3, up_ne (by omega), e2, up_ne (by omega), e1, up_ne (by omega)]; exact hq.2.2.2.2⟩

set_option maxHeartbeats 2000000 in
theorem t_sd_119 {d : Nat} {L : aFL} {Q : aPo} {sh : Nat} {su : Option Nat} {I0 : aFI} (kk : ∀ I2 : aFI, (∀ p : Nat, p < 12 → I2 195 (12 + p) = I0 195 p) → frG (fun a k => (a = 195) ∧ 12 ≤ k ∧ k < 24) I0 I2 → aWp none d 157 146 [.ref 157, .int (iI 12)] [] I2 L (aR sh su) Q) : ∀ (fz : Nat) (i : Int) (I : aFI), (12 - i).toNat < fz → (0 ≤ i) → (i ≤ 12) → (∀ p : Nat, (p : Int) < i → I 195 (12 + p) = I0 195 p) → (frG (fun a k => (a = 195) ∧ 12 ≤ k ∧ k < 24) I0 I) → aWp none d 157 119 [.ref 157, .int (iI i)] [] I L (aR sh su) Q := by
  intro fz
  induction fz with
  | zero => intro i I h; omega
  | succ fz ih =>
    intro i I hn2 h0 h1 hp hF
    refine w_iload c_157_119 rfl ?_
    refine z_push c_157_120 ?_
    refine z_ic_ge c_157_122 (by first | exact aRg_of _ | (unfold aRg; omega)) (by first | exact aRg_of _ | (unfold aRg; omega)) (fun h1_ => ?_) (fun h1_ => ?_)
    · have hi : i = 12 := by omega
      subst hi
      exact kk I (fun p hp2 => hp p (by omega)) hF
    · refine w_aload c_157_125 rfl ?_
      refine w_getR c_157_126 sp_157 (by decide) rfl pr_157_47 ?_
      refine z_push c_157_129 ?_
      refine w_iload c_157_131 rfl ?_
      refine z_iadd c_157_132 ?_
      refine w_aload c_157_133 rfl ?_
      refine w_getR c_157_134 sp_157 (by decide) rfl pr_157_47 ?_
      refine w_iload c_157_137 rfl ?_
      refine z_iaload c_157_138 sp_195 (by omega) (by first | decide | omega) ((hF 195 _ (by omega)).trans (iI_of _)) ?_
      refine z_iastore c_157_139 sp_195 (by omega) (by decide) ?_
      refine upG_k hF (by omega) (fun I1 e1 hF1 => ?_)
      refine z_iinc c_157_140 rfl rfl ?_
      refine w_goto c_157_143 ?_
      refine ih (i + 1) I1 (by omega) (by omega) (by omega) (fun p hp2 => ?_) hF1
      by_cases hpi : (p : Int) = i
      · exact (by rw [e1, show 12 + p = (12 + i).toNat by omega, up_eq, show i.toNat = p by omega]; exact (iI_of _).symm)
      · have hq := hp p (by omega)
        exact (by rw [e1, up_ne (by omega)]; exact hq)

set_option maxHeartbeats 2000000 in
theorem t_sd_148 {d : Nat} {L : aFL} {Q : aPo} {sh : Nat} {su : Option Nat} {I0 : aFI} (kk : ∀ I2 : aFI, (∀ p : Nat, p < 6 → I2 196 (6 + p) = I0 196 p) → frG (fun a k => (a = 196) ∧ 6 ≤ k ∧ k < 12) I0 I2 → aWp none d 157 175 [.ref 157, .int (iI 6)] [] I2 L (aR sh su) Q) : ∀ (fz : Nat) (i : Int) (I : aFI), (6 - i).toNat < fz → (0 ≤ i) → (i ≤ 6) → (∀ p : Nat, (p : Int) < i → I 196 (6 + p) = I0 196 p) → (frG (fun a k => (a = 196) ∧ 6 ≤ k ∧ k < 12) I0 I) → aWp none d 157 148 [.ref 157, .int (iI i)] [] I L (aR sh su) Q := by
  intro fz
  induction fz with
  | zero => intro i I h; omega
  | succ fz ih =>
    intro i I hn2 h0 h1 hp hF
    refine w_iload c_157_148 rfl ?_
    refine z_push c_157_149 ?_
    refine z_ic_ge c_157_151 (by first | exact aRg_of _ | (unfold aRg; omega)) (by first | exact aRg_of _ | (unfold aRg; omega)) (fun h1_ => ?_) (fun h1_ => ?_)
    · have hi : i = 6 := by omega
      subst hi
      exact kk I (fun p hp2 => hp p (by omega)) hF
    · refine w_aload c_157_154 rfl ?_
      refine w_getR c_157_155 sp_157 (by decide) rfl pr_157_48 ?_
      refine z_push c_157_158 ?_
      refine w_iload c_157_160 rfl ?_
      refine z_iadd c_157_161 ?_
      refine w_aload c_157_162 rfl ?_
      refine w_getR c_157_163 sp_157 (by decide) rfl pr_157_48 ?_
      refine w_iload c_157_166 rfl ?_
      refine z_iaload c_157_167 sp_196 (by omega) (by first | decide | omega) ((hF 196 _ (by omega)).trans (iI_of _)) ?_
      refine z_iastore c_157_168 sp_196 (by omega) (by decide) ?_
      refine upG_k hF (by omega) (fun I1 e1 hF1 => ?_)
      refine z_iinc c_157_169 rfl rfl ?_
      refine w_goto c_157_172 ?_
      refine ih (i + 1) I1 (by omega) (by omega) (by omega) (fun p hp2 => ?_) hF1
      by_cases hpi : (p : Int) = i
      · exact (by rw [e1, show 6 + p = (6 + i).toNat by omega, up_eq, show i.toNat = p by omega]; exact (iI_of _).symm)
      · have hq := hp p (by omega)
        exact (by rw [e1, up_ne (by omega)]; exact hq)

set_option maxHeartbeats 2000000 in
theorem t_sd_177 {d : Nat} {L : aFL} {Q : aPo} {sh : Nat} {su : Option Nat} {I0 : aFI} (kk : ∀ I2 : aFI, (∀ p : Nat, p < 32 → I2 197 (32 + p) = I0 197 p) → frG (fun a k => (a = 197) ∧ 32 ≤ k ∧ k < 64) I0 I2 → aWp none d 157 204 [.ref 157, .int (iI 32)] [] I2 L (aR sh su) Q) : ∀ (fz : Nat) (i : Int) (I : aFI), (32 - i).toNat < fz → (0 ≤ i) → (i ≤ 32) → (∀ p : Nat, (p : Int) < i → I 197 (32 + p) = I0 197 p) → (frG (fun a k => (a = 197) ∧ 32 ≤ k ∧ k < 64) I0 I) → aWp none d 157 177 [.ref 157, .int (iI i)] [] I L (aR sh su) Q := by
  intro fz
  induction fz with
  | zero => intro i I h; omega
  | succ fz ih =>
    intro i I hn2 h0 h1 hp hF
    refine w_iload c_157_177 rfl ?_
    refine z_push c_157_178 ?_
    refine z_ic_ge c_157_180 (by first | exact aRg_of _ | (unfold aRg; omega)) (by first | exact aRg_of _ | (unfold aRg; omega)) (fun h1_ => ?_) (fun h1_ => ?_)
    · have hi : i = 32 := by omega
      subst hi
      exact kk I (fun p hp2 => hp p (by omega)) hF
    · refine w_aload c_157_183 rfl ?_
      refine w_getR c_157_184 sp_157 (by decide) rfl pr_157_49 ?_
      refine z_push c_157_187 ?_
      refine w_iload c_157_189 rfl ?_
      refine z_iadd c_157_190 ?_
      refine w_aload c_157_191 rfl ?_
      refine w_getR c_157_192 sp_157 (by decide) rfl pr_157_49 ?_
      refine w_iload c_157_195 rfl ?_
      refine z_iaload c_157_196 sp_197 (by omega) (by first | decide | omega) ((hF 197 _ (by omega)).trans (iI_of _)) ?_
      refine z_iastore c_157_197 sp_197 (by omega) (by decide) ?_
      refine upG_k hF (by omega) (fun I1 e1 hF1 => ?_)
      refine z_iinc c_157_198 rfl rfl ?_
      refine w_goto c_157_201 ?_
      refine ih (i + 1) I1 (by omega) (by omega) (by omega) (fun p hp2 => ?_) hF1
      by_cases hpi : (p : Int) = i
      · exact (by rw [e1, show 32 + p = (32 + i).toNat by omega, up_eq, show i.toNat = p by omega]; exact (iI_of _).symm)
      · have hq := hp p (by omega)
        exact (by rw [e1, up_ne (by omega)]; exact hq)

set_option maxHeartbeats 2000000 in
theorem t_sd_90 {d : Nat} {Q : aPo} {sh : Nat} {su : Option Nat} {L0 : aFL} {I : aFI} (kk : ∀ L2 : aFL, (∀ p : Nat, p < 24 → L2 193 (24 + p) = L0 193 p) → frG (fun a k => a = 193 ∧ 24 ≤ k ∧ k < 48) L0 L2 → aWp none d 157 117 [.ref 157, .int (iI 24)] [] I L2 (aR sh su) Q) : ∀ (fz : Nat) (i : Int) (L : aFL), (24 - i).toNat < fz → (0 ≤ i) → (i ≤ 24) → (∀ p : Nat, (p : Int) < i → L 193 (24 + p) = L0 193 p) → (frG (fun a k => a = 193 ∧ 24 ≤ k ∧ k < 48) L0 L) → aWp none d 157 90 [.ref 157, .int (iI i)] [] I L (aR sh su) Q := by
  intro fz
  induction fz with
  | zero => intro i L h; omega
  | succ fz ih =>
    intro i L hn2 h0 h1 hp hF
    refine w_iload c_157_90 rfl ?_
    refine z_push c_157_91 ?_
    refine z_ic_ge c_157_93 (by first | exact aRg_of _ | (unfold aRg; omega)) (by first | exact aRg_of _ | (unfold aRg; omega)) (fun h1_ => ?_) (fun h1_ => ?_)
    · have hi : i = 24 := by omega
      subst hi
      exact kk L (fun p hp2 => hp p (by omega)) hF
    · refine w_aload c_157_96 rfl ?_
      refine w_getR c_157_97 sp_157 (by decide) rfl pr_157_45 ?_
      refine z_push c_157_100 ?_
      refine w_iload c_157_102 rfl ?_
      refine z_iadd c_157_103 ?_
      refine w_aload c_157_104 rfl ?_
      refine w_getR c_157_105 sp_157 (by decide) rfl pr_157_45 ?_
      refine w_iload c_157_108 rfl ?_
      refine z_laload c_157_109 sp_193 (by omega) (by first | decide | omega) ((hF 193 _ (by omega)).trans (lI_of _)) ?_
      refine z_lastore c_157_110 sp_193 (by omega) (by decide) ?_
      refine upL_k hF (by omega) (fun L1 e1 hF1 => ?_)
      refine z_iinc c_157_111 rfl rfl ?_
      refine w_goto c_157_114 ?_
      refine ih (i + 1) L1 (by omega) (by omega) (by omega) (fun p hp2 => ?_) hF1
      by_cases hpi : (p : Int) = i
      · rw [e1, show 24 + p = (24 + i).toNat by omega, upL_eq, show i.toNat = p by omega]; exact (lI_of _).symm
      · rw [e1, upL_ne (by omega)]; exact hp p (by omega)

set_option maxHeartbeats 2000000 in
theorem t_sd_206 {d : Nat} {L : aFL} {Q : aPo} {sh : Nat} {su : Option Nat} {I0 : aFI} {m : Int} (hm : 0 ≤ m ∧ m ≤ 1600) (hc : I0 157 54 = iI m) (kk : ∀ I2 : aFI, (∀ p : Nat, (p : Int) < m → I2 201 (1600 + p) = I0 201 p) → frG (fun a k => a = 201 ∧ 1600 ≤ k ∧ k < 3200) I0 I2 → aWp none d 157 236 [.ref 157, .int (iI m)] [] I2 L (aR sh su) Q) : ∀ (fz : Nat) (i : Int) (I : aFI), (m - i).toNat < fz → (0 ≤ i) → (i ≤ m) → (∀ p : Nat, (p : Int) < i → I 201 (1600 + p) = I0 201 p) → (frG (fun a k => a = 201 ∧ 1600 ≤ k ∧ k < 3200) I0 I) → aWp none d 157 206 [.ref 157, .int (iI i)] [] I L (aR sh su) Q := by
  intro fz
  induction fz with
  | zero => intro i I h; omega
  | succ fz ih =>
    intro i I hn2 h0 h1 hp hF
    refine w_iload c_157_206 rfl ?_
    refine w_aload c_157_207 rfl ?_
    refine z_getZ c_157_208 sp_157 (by decide) rfl ((hF 157 54 (by omega)).trans hc) ?_
    refine z_ic_ge c_157_211 (by first | exact aRg_of _ | (unfold aRg; omega)) (by first | exact aRg_of _ | (unfold aRg; omega)) (fun h1_ => ?_) (fun h1_ => ?_)
    · have hi : i = m := by omega
      subst hi
      exact kk I (fun p hp2 => hp p (by omega)) hF
    · refine w_aload c_157_214 rfl ?_
      refine w_getR c_157_215 sp_157 (by decide) rfl pr_157_53 ?_
      refine z_push c_157_218 ?_
      refine w_iload c_157_221 rfl ?_
      refine z_iadd c_157_222 ?_
      refine w_aload c_157_223 rfl ?_
      refine w_getR c_157_224 sp_157 (by decide) rfl pr_157_53 ?_
      refine w_iload c_157_227 rfl ?_
      refine z_iaload c_157_228 sp_201 (by omega) (by first | decide | omega) ((hF 201 _ (by omega)).trans (iI_of _)) ?_
      refine z_iastore c_157_229 sp_201 (by omega) (by decide) ?_
      refine upG_k hF (by omega) (fun I1 e1 hF1 => ?_)
      refine z_iinc c_157_230 rfl rfl ?_
      refine w_goto c_157_233 ?_
      refine ih (i + 1) I1 (by omega) (by omega) (by omega) (fun p hp2 => ?_) hF1
      by_cases hpi : (p : Int) = i
      · rw [e1, show 1600 + p = (1600 + i).toNat by omega, up_eq, show i.toNat = p by omega]; exact (iI_of _).symm
      · rw [e1, up_ne (by omega)]; exact hp p (by omega)

set_option maxHeartbeats 2000000 in
theorem t_sd_238 {d : Nat} {L : aFL} {Q : aPo} {sh : Nat} {su : Option Nat} {I0 : aFI} (kk : ∀ I2 : aFI, (∀ p : Nat, p < 188 → I2 202 p = iI 0) → frG (fun a k => a = 202 ∧ k < 188) I0 I2 → aWp none d 157 258 [.ref 157, .int (iI 188)] [] I2 L (aR sh su) Q) : ∀ (fz : Nat) (i : Int) (I : aFI), (188 - i).toNat < fz → (0 ≤ i) → (i ≤ 188) → (∀ p : Nat, (p : Int) < i → I 202 p = iI 0) → (frG (fun a k => a = 202 ∧ k < 188) I0 I) → aWp none d 157 238 [.ref 157, .int (iI i)] [] I L (aR sh su) Q := by
  intro fz
  induction fz with
  | zero => intro i I h; omega
  | succ fz ih =>
    intro i I hn2 h0 h1 hp hF
    refine w_iload c_157_238 rfl ?_
    refine z_push c_157_239 ?_
    refine z_ic_ge c_157_242 (by first | exact aRg_of _ | (unfold aRg; omega)) (by first | exact aRg_of _ | (unfold aRg; omega)) (fun h1_ => ?_) (fun h1_ => ?_)
    · have hi : i = 188 := by omega
      subst hi
      exact kk I (fun p hp2 => hp p (by omega)) hF
    · refine w_aload c_157_245 rfl ?_
      refine w_getR c_157_246 sp_157 (by decide) rfl pr_157_58 ?_
      refine w_iload c_157_249 rfl ?_
      refine z_push c_157_250 ?_
      refine z_iastore c_157_251 sp_202 (by omega) (by decide) ?_
      refine upG_k hF (by omega) (fun I1 e1 hF1 => ?_)
      refine z_iinc c_157_252 rfl rfl ?_
      refine w_goto c_157_255 ?_
      refine ih (i + 1) I1 (by omega) (by omega) (by omega) (fun p hp2 => ?_) hF1
      by_cases hpi : (p : Int) = i
      · rw [e1, show p = i.toNat by omega, up_eq]
      · rw [e1, up_ne (by omega)]; exact hp p (by omega)

set_option maxHeartbeats 2000000 in
theorem t_sd_284 {d : Nat} {L : aFL} {Q : aPo} {sh : Nat} {su : Option Nat} {I0 : aFI} (kk : ∀ I2 : aFI, (∀ p : Nat, p < 8 → I2 202 (5 + 3 * p) = iI 99) → frG (fun a k => a = 202 ∧ k < 27 ∧ ∃ q : Nat, k = 5 + 3 * q) I0 I2 → aWp none d 157 310 [.ref 157, .int (iI 8)] [] I2 L (aR sh su) Q) : ∀ (fz : Nat) (i : Int) (I : aFI), (8 - i).toNat < fz → (0 ≤ i) → (i ≤ 8) → (∀ p : Nat, (p : Int) < i → I 202 (5 + 3 * p) = iI 99) → (frG (fun a k => a = 202 ∧ k < 27 ∧ ∃ q : Nat, k = 5 + 3 * q) I0 I) → aWp none d 157 284 [.ref 157, .int (iI i)] [] I L (aR sh su) Q := by
  intro fz
  induction fz with
  | zero => intro i I h; omega
  | succ fz ih =>
    intro i I hn2 h0 h1 hp hF
    refine w_iload c_157_284 rfl ?_
    refine z_push c_157_285 ?_
    refine z_ic_ge c_157_287 (by first | exact aRg_of _ | (unfold aRg; omega)) (by first | exact aRg_of _ | (unfold aRg; omega)) (fun h1_ => ?_) (fun h1_ => ?_)
    · have hi : i = 8 := by omega
      subst hi
      exact kk I (fun p hp2 => hp p (by omega)) hF
    · refine w_aload c_157_290 rfl ?_
      refine w_getR c_157_291 sp_157 (by decide) rfl pr_157_58 ?_
      refine z_push c_157_294 ?_
      refine z_push c_157_295 ?_
      refine w_iload c_157_296 rfl ?_
      refine z_imul c_157_297 ?_
      refine z_iadd c_157_298 ?_
      refine z_push c_157_299 ?_
      refine z_iadd c_157_300 ?_
      refine z_push c_157_301 ?_
      refine z_iastore c_157_303 sp_202 (by omega) (by decide) ?_
      refine upG_k hF ⟨rfl, by omega, i.toNat, by omega⟩ (fun I1 e1 hF1 => ?_)
      refine z_iinc c_157_304 rfl rfl ?_
      refine w_goto c_157_307 ?_
      refine ih (i + 1) I1 (by omega) (by omega) (by omega) (fun p hp2 => ?_) hF1
      by_cases hpi : (p : Int) = i
      · rw [e1, show 5 + 3 * p = (3 + 3 * i + 2).toNat by omega, up_eq]
      · rw [e1, up_ne (by omega)]; exact hp p (by omega)

abbrev PSt : Nat → Nat → Prop := fun q k => (q = 157 ∧ (k = 56 ∨ k = 67 ∨ k = 68 ∨ k = 70)) ∨ ((q = 192 ∨ q = 194 ∨ q = 198 ∨ q = 199 ∨ q = 200) ∧ 3 ≤ k ∧ k < 6) ∨ (q = 195 ∧ 12 ≤ k ∧ k < 24) ∨ (q = 196 ∧ 6 ≤ k ∧ k < 12) ∨ (q = 197 ∧ 32 ≤ k ∧ k < 64) ∨ (q = 201 ∧ 1600 ≤ k ∧ k < 3200) ∨ (q = 202 ∧ k < 188)
abbrev PStl : Nat → Nat → Prop := fun q k => q = 193 ∧ 24 ≤ k ∧ k < 48
/-- the names of the shore that stands -/
def rNms (L : aFL) (D : Nat → Int → Int) : Prop := ∀ k : Nat, k < 3 → ∀ i : Int, 0 ≤ i → i < D 1 k → L 193 (24 + 8 * k + i).toNat = lI (nmR D k i)
def X0 (D : Nat → Int → Int) : Lk := (0, D 0 2, D 0 3, 0, (fun _ => 0), (fun _ => 99))
theorem rcAt_of {I I2 : aFI} {m : Int} (h : ∀ p : Nat, (p : Int) < m → I2 201 (1600 + p) = I 201 p) : ∀ {l : List Int} {f : Int}, 0 ≤ f → f + l.length ≤ m → rc1 I f l → rcAt I2 f l
  | [], _, _, _, _ => trivial
  | x :: r, f, h0, h1, h2 => by
    have hl : ((x :: r).length : Int) = r.length + 1 := by simp
    refine ⟨?_, rcAt_of h (by omega) (by omega) h2.2⟩
    rw [show (1600 + f).toNat = 1600 + f.toNat by omega, h f.toNat (by omega)]; exact h2.1
set_option maxHeartbeats 2000000 in
theorem t_stands {d : Nat} {I : aFI} {L : aFL} {Q : aPo} {sh : Nat} {su : Option Nat} {D : Nat → Int → Int} {cd : Nat → Option (List Int)} {m : Int} (hR : rB I L D cd m) (hm : m ≤ 1600) (hD : wfP D cd) (k : ∀ (I2 : aFI) (L2 : aFL), rW I2 D cd → rNms L2 D → rX I2 202 (X0 D) → I2 202 27 = iI 0 → I2 157 70 = iI 0 → I2 157 67 = iI (-1) → I2 157 68 = iI (-1) → frG PSt I I2 → frG PStl L L2 → Q none I2 L2 (aR sh su)) : aWp none d 157 0 [.ref 157, .null] [] I L (aR sh su) Q := by
  refine w_aload c_157_0 rfl ?_
  refine z_push c_157_1 ?_
  refine z_putB (b := true) c_157_2 sp_157 (by decide) rfl ?_
  refine upG_k (frG.rf (P := PSt) (I := I)) (by decide) (fun I1 e1 hF1 => ?_)
  refine z_push c_157_5 ?_
  refine w_istore c_157_6 (Nat.le_of_ble_eq_true rfl) rfl ?_
  refine t_sd_7 (I0 := I1) ?_ _ 0 I1 (Nat.lt_succ_self _) (by decide) (by decide) (fun p hp => by omega) frG.rf
  intro I2 c2 hG2
  have hF2 : frG PSt I I2 := hF1.tr (hG2.mono (fun q k z => by omega))
  refine z_push c_157_88 ?_
  refine w_istore c_157_89 (Nat.le_of_ble_eq_true rfl) rfl ?_
  refine t_sd_90 (L0 := L) (I := I2) ?_ _ 0 L (Nat.lt_succ_self _) (by decide) (by decide) (fun p hp => by omega) frG.rf
  intro L2 cl hGl
  have hFl : frG PStl L L2 := hGl
  refine z_push c_157_117 ?_
  refine w_istore c_157_118 (Nat.le_of_ble_eq_true rfl) rfl ?_
  refine t_sd_119 (I0 := I2) ?_ _ 0 I2 (Nat.lt_succ_self _) (by decide) (by decide) (fun p hp => by omega) frG.rf
  intro I3 c3 hG3
  have hF3 : frG PSt I I3 := hF2.tr (hG3.mono (fun q k z => by omega))
  refine z_push c_157_146 ?_
  refine w_istore c_157_147 (Nat.le_of_ble_eq_true rfl) rfl ?_
  refine t_sd_148 (I0 := I3) ?_ _ 0 I3 (Nat.lt_succ_self _) (by decide) (by decide) (fun p hp => by omega) frG.rf
  intro I4 c4 hG4
  have hF4 : frG PSt I I4 := hF3.tr (hG4.mono (fun q k z => by omega))
  refine z_push c_157_175 ?_
  refine w_istore c_157_176 (Nat.le_of_ble_eq_true rfl) rfl ?_
  refine t_sd_177 (I0 := I4) ?_ _ 0 I4 (Nat.lt_succ_self _) (by decide) (by decide) (fun p hp => by omega) frG.rf
  intro I5 c5 hG5
  have hF5 : frG PSt I I5 := hF4.tr (hG5.mono (fun q k z => by omega))
  refine z_push c_157_204 ?_
  refine w_istore c_157_205 (Nat.le_of_ble_eq_true rfl) rfl ?_
  refine t_sd_206 (I0 := I5) (m := m) ⟨hR.2.2.2.1, hm⟩ ((hF5 157 54 (by decide)).trans hR.2.2.1) ?_ _ 0 I5 (Nat.lt_succ_self _) (by decide) hR.2.2.2.1 (fun p hp => by omega) frG.rf
  intro I6 c6 hG6
  have hF6 : frG PSt I I6 := hF5.tr (hG6.mono (fun q k z => by omega))
  refine z_push c_157_236 ?_
  refine w_istore c_157_237 (Nat.le_of_ble_eq_true rfl) rfl ?_
  refine t_sd_238 (I0 := I6) ?_ _ 0 I6 (Nat.lt_succ_self _) (by decide) (by decide) (fun p hp => by omega) frG.rf
  intro I7 c7 hG7
  have hF7 : frG PSt I I7 := hF6.tr (hG7.mono (fun q k z => by omega))
  refine w_aload c_157_258 rfl ?_
  refine w_getR c_157_259 sp_157 (by decide) rfl pr_157_58 ?_
  refine z_push c_157_262 ?_
  refine w_aload c_157_263 rfl ?_
  refine w_getR c_157_264 sp_157 (by decide) rfl pr_157_46 ?_
  refine z_push c_157_267 ?_
  refine z_iaload c_157_268 sp_194 (by omega) (by first | decide | omega) ((hF7 194 0 (by decide)).trans hR.2.1.1.1) ?_
  refine z_iastore c_157_269 sp_202 (by omega) (by decide) ?_
  refine upG_k hF7 (by decide) (fun I8 e8 hF8 => ?_)
  refine w_aload c_157_270 rfl ?_
  refine w_getR c_157_271 sp_157 (by decide) rfl pr_157_58 ?_
  refine z_push c_157_274 ?_
  refine w_aload c_157_275 rfl ?_
  refine w_getR c_157_276 sp_157 (by decide) rfl pr_157_46 ?_
  refine z_push c_157_279 ?_
  refine z_iaload c_157_280 sp_194 (by omega) (by first | decide | omega) ((hF8 194 1 (by decide)).trans hR.2.1.1.2.1) ?_
  refine z_iastore c_157_281 sp_202 (by omega) (by decide) ?_
  refine upG_k hF8 (by decide) (fun I9 e9 hF9 => ?_)
  refine z_push c_157_282 ?_
  refine w_istore c_157_283 (Nat.le_of_ble_eq_true rfl) rfl ?_
  refine t_sd_284 (I0 := I9) ?_ _ 0 I9 (Nat.lt_succ_self _) (by decide) (by decide) (fun p hp => by omega) frG.rf
  intro Ia ca hGa
  have hFa : frG PSt I Ia := hF9.tr (hGa.mono (fun q k z => by omega))
  refine w_aload c_157_310 rfl ?_
  refine z_push c_157_311 ?_
  refine z_putZ c_157_312 sp_157 (by decide) rfl ?_
  refine upG_k hFa (by decide) (fun Ib eb hFb => ?_)
  refine w_aload c_157_315 rfl ?_
  refine z_push c_157_316 ?_
  refine z_putZ c_157_317 sp_157 (by decide) rfl ?_
  refine upG_k hFb (by decide) (fun Ic ec hFc => ?_)
  refine w_aload c_157_320 rfl ?_
  refine z_push c_157_321 ?_
  refine z_putZ c_157_322 sp_157 (by decide) rfl ?_
  refine upG_k hFc (by decide) (fun Id ed hFd => ?_)
  refine z_retv c_157_325 ?_
  have hna : ∀ k : Nat, k < 27 → ¬ (∃ q : Nat, k = 5 + 3 * q) → Ia 202 k = I9 202 k := fun k hk hq => hGa 202 k (fun z => hq z.2.2)
  have hx : ∀ q k : Nat, ¬ q = 157 → ¬ q = 202 → Id q k = I6 q k := fun q k h1 h2 => by
    rw [ed, up_ne (by omega), ec, up_ne (by omega), eb, up_ne (by omega), hGa q k (by omega), e9, up_ne (by omega), e8, up_ne (by omega), hG7 q k (by omega)]
  have h2 : ∀ k : Nat, Id 202 k = Ia 202 k := fun k => by rw [ed, up_ne (by omega), ec, up_ne (by omega), eb, up_ne (by omega)]
  have hd2 := hD.1.n
  have hl := hR.2.1
  have hc2 : ∀ p : Nat, p < 3 → (Id 192 (3 + p) = I 192 p ∧ Id 194 (3 + p) = I 194 p ∧ Id 198 (3 + p) = I 198 p ∧ Id 199 (3 + p) = I 199 p ∧ Id 200 (3 + p) = I 200 p) := fun p hp => by
    have := c2 p hp
    have g : ∀ q : Nat, (q = 192 ∨ q = 194 ∨ q = 198 ∨ q = 199 ∨ q = 200) → Id q (3 + p) = I2 q (3 + p) := fun q hq => by
      rw [hx q _ (by omega) (by omega), hG6 q _ (by omega), hG5 q _ (by omega), hG4 q _ (by omega), hG3 q _ (by omega)]
    have g2 : ∀ q : Nat, ¬ q = 157 → I1 q p = I q p := fun q hq => by rw [e1]; exact up_ne (by omega)
    rw [g 192 (by decide), g 194 (by decide), g 198 (by decide), g 199 (by decide), g 200 (by decide), this.1, this.2.1, this.2.2.1, this.2.2.2.1, this.2.2.2.2, g2 192 (by decide), g2 194 (by decide), g2 198 (by decide), g2 199 (by decide), g2 200 (by decide)]
    exact ⟨rfl, rfl, rfl, rfl, rfl⟩
  have c0 := hc2 0 (by decide)
  have c1 := hc2 1 (by decide)
  have cc2 := hc2 2 (by decide)
  refine k Id L2 ⟨⟨⟨?_, ?_, ?_⟩, ?_, ⟨?_, ?_, ?_⟩, ?_, fun i a b => ?_, fun i a b => ?_, fun i a b => ?_⟩, fun _ r hr => ?_⟩ (fun q hq i a b => ?_) ⟨?_, ?_, ?_, fun i a b => ⟨?_, ?_, ?_⟩⟩ ?_ ?_ ?_ ?_ hFd hFl
  · exact c0.1.trans (hR.1.n (k := 0) (e := 0) (by decide) rfl)
  · exact c1.1.trans (hR.1.n (k := 1) (e := 1) (by decide) rfl)
  · exact cc2.1.trans (hR.1.n (k := 2) (e := 2) (by decide) rfl)
  · exact cc2.2.1.trans hl.1.2.2
  · exact c0.2.2.1.trans hl.2.1.1
  · exact fun _ => c1.2.2.1.trans hl.2.1.2.1
  · exact cc2.2.2.1.trans hl.2.1.2.2
  · rw [ed, up_ne (by decide), ec, up_ne (by decide), eb, up_ne (by decide), hGa 157 _ (by omega), e9, up_ne (by decide), e8, up_ne (by decide), hG7 157 _ (by omega), hG6 157 _ (by omega), hG5 157 _ (by omega), hG4 157 _ (by omega), hG3 157 _ (by omega), hG2 157 _ (by omega), e1, up_eq, decide_eq_true hD.2.2.1]
  · have h195 : ∀ p : Nat, p < 12 → Id 195 (12 + p) = I 195 p := fun p hp => by
      rw [hx 195 _ (by decide) (by decide), hG6 195 _ (by omega), hG5 195 _ (by omega), hG4 195 _ (by omega), c3 p hp, hG2 195 _ (by omega), e1, up_ne (by omega)]
    have h5 := hl.2.2.1 i a b
    rw [show (12 + 2 * i).toNat = 12 + (2 * i).toNat by omega, show (13 + 2 * i).toNat = 12 + (2 * i + 1).toNat by omega, h195 _ (by omega), h195 _ (by omega)]
    exact h5
  · rw [show (6 + i).toNat = 6 + i.toNat by omega, hx 196 _ (by decide) (by decide), hG6 196 _ (by omega), hG5 196 _ (by omega), c4 _ (by omega), hG3 196 _ (by omega), hG2 196 _ (by omega), e1, up_ne (by omega)]
    exact hl.2.2.2.1 i a b
  · have h197 : ∀ p : Nat, p < 32 → Id 197 (32 + p) = I 197 p := fun p hp => by
      rw [hx 197 _ (by decide) (by decide), hG6 197 _ (by omega), c5 p hp, hG4 197 _ (by omega), hG3 197 _ (by omega), hG2 197 _ (by omega), e1, up_ne (by omega)]
    have h5 := hl.2.2.2.2 i a b
    rw [show (32 + 4 * i).toNat = 32 + (4 * i).toNat by omega, show (33 + 4 * i).toNat = 32 + (4 * i + 1).toNat by omega, show (34 + 4 * i).toNat = 32 + (4 * i + 2).toNat by omega, show (35 + 4 * i).toNat = 32 + (4 * i + 3).toNat by omega, h197 _ (by omega), h197 _ (by omega), h197 _ (by omega), h197 _ (by omega)]
    exact h5
  · have cr := hc2 r hr
    rcases hR.2.2.2.2 r hr with ⟨p1, p2⟩ | ⟨l2, f2, p1, p2, p3, p4, p5⟩
    · exact Or.inl ⟨p1, cr.2.2.2.1.trans p2⟩
    · refine Or.inr ⟨l2, f2, p1, ⟨p2.1, by omega⟩, cr.2.2.2.1.trans p3, cr.2.2.2.2.trans p4, rcAt_of (fun p hp => ?_) p2.1 p2.2 p5⟩
      rw [hx 201 _ (by decide) (by decide), c6 p hp, hG5 201 _ (by omega), hG4 201 _ (by omega), hG3 201 _ (by omega), hG2 201 _ (by omega), e1, up_ne (by omega)]
  · have hq8 := (hR.1 q hq).2.1
    have hq8 : 0 ≤ D 1 q ∧ D 1 q ≤ 8 := hq8
    rw [show (24 + 8 * (q : Int) + i).toNat = 24 + (8 * (q : Int) + i).toNat by omega, cl _ (by omega)]
    exact hR.1.nm hq a b rfl
  · rw [h2, hna 0 (by decide) (by rintro ⟨q, h⟩; omega), e9, up_ne (by decide), e8, up_ne (by decide)]; exact c7 0 (by decide)
  · rw [h2, hna 1 (by decide) (by rintro ⟨q, h⟩; omega), e9, up_ne (by decide), e8]; exact up_eq
  · rw [h2, hna 2 (by decide) (by rintro ⟨q, h⟩; omega), e9]; exact up_eq
  · rw [h2, hna _ (by omega) (by rintro ⟨q, h⟩; omega), e9, up_ne (by omega), e8, up_ne (by omega), c7 _ (by omega)]
    simp [X0, tb]
  · rw [h2, hna _ (by omega) (by rintro ⟨q, h⟩; omega), e9, up_ne (by omega), e8, up_ne (by omega), c7 _ (by omega)]; rfl
  · rw [h2, show (5 + 3 * i).toNat = 5 + 3 * i.toNat by omega, ca _ (by omega)]; rfl
  · rw [h2, hGa 202 27 (by omega), e9, up_ne (by decide), e8, up_ne (by decide)]; exact c7 27 (by decide)
  · rw [ed, up_ne (by decide), ec, up_ne (by decide), eb]; exact up_eq
  · rw [ed, up_ne (by decide), ec]; exact up_eq
  · rw [ed]; exact up_eq

