theorem lk_129_0 : aC_129_0.all (aLk 129) = true := by decide +kernel
theorem lk_129_1 : aC_129_1.all (aLk 129) = true := by decide +kernel
theorem lk_129_2 : aC_129_2.all (aLk 129) = true := by decide +kernel
theorem lk_129_3 : aC_129_3.all (aLk 129) = true := by decide +kernel
theorem lk_129_4 : aC_129_4.all (aLk 129) = true := by decide +kernel
theorem lk_129_5 : aC_129_5.all (aLk 129) = true := by decide +kernel
theorem lk_129_6 : aC_129_6.all (aLk 129) = true := by decide +kernel
theorem lk_129_7 : aC_129_7.all (aLk 129) = true := by decide +kernel
theorem lk_129_8 : aC_129_8.all (aLk 129) = true := by decide +kernel
theorem lk_129 : aLkA 129 = true := by
  show (aC_129_0 ++ (aC_129_1 ++ (aC_129_2 ++ (aC_129_3 ++ (aC_129_4 ++ (aC_129_5 ++ (aC_129_6 ++ (aC_129_7 ++ (aC_129_8))))))))).all (aLk 129) = true
  simp only [List.all_append, Bool.and_eq_true]
  exact ⟨lk_129_0, ⟨lk_129_1, ⟨lk_129_2, ⟨lk_129_3, ⟨lk_129_4, ⟨lk_129_5, ⟨lk_129_6, ⟨lk_129_7, lk_129_8⟩⟩⟩⟩⟩⟩⟩⟩
