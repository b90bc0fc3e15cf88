/-! THE PURE PART, part 9: methods that only look. Own work. -/
theorem zB_0 {P_z : Prop} [Decidable P_z] : zB P_z = 0 ↔ ¬ P_z := by
  by_cases h_z : P_z
  · rw [zB_t h_z]; simp [h_z]
  · rw [zB_f h_z]; simp [h_z]
theorem isT_zB {P_z : Prop} [Decidable P_z] : isT (zB P_z) := by
  by_cases h_z : P_z
  · rw [zB_t h_z]; exact Or.inr rfl
  · rw [zB_f h_z]; exact Or.inl rfl
section BS
variable {G : Env0} {Q : Option AV → Mem → Prop} {M : Mem}
theorem X_isBetween {x_z y_z w_z : Int} (h_z : Q (some (a_i (zB (y_z ≤ x_z ∧ x_z ≤ w_z)))) M) : Call G J_X_isBetween [a_i x_z, a_i y_z, a_i w_z] M Q := by
  simp only [E_X_isBetween, B_15_0, B_15_14, B_15_15]
  repeat' (first | intro _ | apply And.intro)
  all_goals first | exact Or.inl rfl | exact Or.inr rfl | (rw [zB_t (by omega)] at h_z; exact h_z) | (rw [zB_f (by omega)] at h_z; exact h_z)
theorem X_isSmallLetter {x_z : Int} (h_z : Q (some (a_i (zB (97 ≤ x_z ∧ x_z ≤ 122)))) M) : Call G J_Rd_isSmallLetter [a_i x_z] M Q := by
  simp only [E_Rd_isSmallLetter, B_24_0, B_24_16, B_24_17]
  repeat' (first | intro _ | apply And.intro)
  all_goals first | exact Or.inl rfl | exact Or.inr rfl | (rw [zB_t (by omega)] at h_z; exact h_z) | (rw [zB_f (by omega)] at h_z; exact h_z)
theorem X_isStream {x_z : Int} (h_z : Q (some (a_i (zB (-1 ≤ x_z ∧ x_z ≤ 5)))) M) : Call G J_X_isStream [a_i x_z] M Q := by
  rw [E_X_isStream, B_14_0]
  refine X_isBetween ?_
  simp only [Option.toList_some, List.append_nil, B_14_6]
  exact ⟨isT_zB, h_z⟩
theorem X_isName {x_z : Int} (h_z : Q (some (a_i (zB (0 ≤ x_z ∧ x_z ≤ 7)))) M) : Call G J_X_isName [a_i x_z] M Q := by
  rw [E_X_isName, B_27_0]
  refine X_isBetween ?_
  simp only [Option.toList_some, List.append_nil, B_27_7]
  exact ⟨isT_zB, h_z⟩
theorem X_isForm {x_z : Int} (h_z : Q (some (a_i (zB (0 ≤ x_z ∧ x_z ≤ 5)))) M) : Call G J_X_isForm [a_i x_z] M Q := by
  rw [E_X_isForm, B_59_0]
  refine X_isBetween ?_
  simp only [Option.toList_some, List.append_nil, B_59_6]
  exact ⟨isT_zB, h_z⟩
theorem X_isSpan {x_z y_z : Int} (h_z : Q (some (a_i (zB (-99 ≤ x_z ∧ x_z < y_z ∧ y_z ≤ 99)))) M) : Call G J_X_isSpan [a_i x_z, a_i y_z] M Q := by
  rw [E_X_isSpan, B_60_0]
  refine X_isBetween ?_
  simp only [Option.toList_some, List.append_nil, B_60_8, B_60_26, B_60_27, zB_0]
  repeat' (first | intro _ | apply And.intro)
  all_goals first | exact Or.inl rfl | exact Or.inr rfl | (rw [zB_t (by omega)] at h_z; exact h_z) | (rw [zB_f (by omega)] at h_z; exact h_z)
theorem X_isResource {x_z y_z : Int} (h_z : Q (some (a_i (zB ((x_z = 1 ∧ 0 ≤ y_z ∧ y_z ≤ 15) ∨ (x_z = 2 ∧ 0 ≤ y_z ∧ y_z ≤ 5))))) M) : Call G J_X_isResource [a_i x_z, a_i y_z] M Q := by
  rw [E_X_isResource, B_64_0]
  refine ⟨fun c1_z => ?_, fun c1_z => ?_⟩
  · rw [B_64_13]
    refine ⟨fun c2_z => ?_, fun c2_z => ?_⟩
    · rw [B_64_29, B_64_30]
      rw [zB_f (by omega)] at h_z
      exact ⟨Or.inl rfl, h_z⟩
    · refine X_isForm ?_
      simp only [Option.toList_some, List.append_nil, B_64_22, B_64_29, B_64_30, zB_0]
      repeat' (first | intro _ | apply And.intro)
      all_goals first | exact Or.inl rfl | exact Or.inr rfl | (rw [zB_t (by omega)] at h_z; exact h_z) | (rw [zB_f (by omega)] at h_z; exact h_z)
  · refine X_isBetween ?_
    simp only [Option.toList_some, List.append_nil, B_64_12]
    refine ⟨isT_zB, ?_⟩
    have e_z : zB ((x_z = 1 ∧ 0 ≤ y_z ∧ y_z ≤ 15) ∨ (x_z = 2 ∧ 0 ≤ y_z ∧ y_z ≤ 5)) = zB (0 ≤ y_z ∧ y_z ≤ 15) := by
      by_cases c2_z : 0 ≤ y_z ∧ y_z ≤ 15
      · rw [zB_t c2_z, zB_t (by omega)]
      · rw [zB_f c2_z, zB_f (by omega)]
    rw [e_z] at h_z
    exact h_z
end BS
