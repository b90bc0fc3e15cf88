/-! THE PURE PART, part 9: methods that only look. Own work. -/
def zB (P_z : Prop) [Decidable P_z] : Int := if P_z then 1 else 0
theorem zB_t {P_z : Prop} [Decidable P_z] (h_z : P_z) : zB P_z = 1 := if_pos h_z
theorem zB_f {P_z : Prop} [Decidable P_z] (h_z : ¬ P_z) : zB P_z = 0 := if_neg h_z
section AS
variable {G : Env0} {Q : Option AV → Mem → Prop} {M : Mem}
theorem X_isDigit {x_z : Int} (h_z : Q (some (a_i (zB (48 ≤ x_z ∧ x_z ≤ 57)))) M) : Call G J_Rd_isDigit [a_i x_z] M Q := by
  rw [E_Rd_isDigit, B_23_0]
  refine ⟨fun h1 => ?_, fun h1 => ⟨fun h2 => ?_, fun h2 => ?_⟩⟩
  · rw [B_23_16, B_23_17]
    rw [zB_f (by omega)] at h_z
    exact ⟨Or.inl rfl, h_z⟩
  · rw [B_23_16, B_23_17]
    rw [zB_f (by omega)] at h_z
    exact ⟨Or.inl rfl, h_z⟩
  · rw [B_23_17]
    rw [zB_t (by omega)] at h_z
    exact ⟨Or.inr rfl, h_z⟩
theorem X_isNumberSign {x_z : Int} (h_z : Q (some (a_i (zB ((48 ≤ x_z ∧ x_z ≤ 57) ∨ x_z = 45 ∨ x_z = 47)))) M) : Call G J_Rd_isNumberSign [a_i x_z] M Q := by
  rw [E_Rd_isNumberSign, B_22_0]
  refine X_isDigit ?_
  rw [show (some (a_i (zB (48 ≤ x_z ∧ x_z ≤ 57)))).toList ++ [] = [a_i (zB (48 ≤ x_z ∧ x_z ≤ 57))] from rfl, B_22_4, B_22_19, B_22_23, B_22_24, B_22_24]
  by_cases c1_z : 48 ≤ x_z ∧ x_z ≤ 57
  · rw [zB_t (by omega)] at h_z
    rw [zB_t c1_z]
    exact ⟨fun _ => ⟨Or.inr rfl, h_z⟩, fun q_z => absurd (by decide) q_z⟩
  · rw [zB_f c1_z]
    refine ⟨fun q_z => absurd rfl q_z, fun _ => ⟨fun h1 => ?_, fun h1 => ⟨fun h2 => ?_, fun h2 => ?_⟩⟩⟩
    · rw [zB_t (by omega)] at h_z
      exact ⟨Or.inr rfl, h_z⟩
    · rw [zB_f (by omega)] at h_z
      exact ⟨Or.inl rfl, h_z⟩
    · rw [zB_t (by omega)] at h_z
      exact ⟨Or.inr rfl, h_z⟩
end AS
