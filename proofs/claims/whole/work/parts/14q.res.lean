/-! THE PURE PART, part 14: the model asks for a color's name. Own work. -/
section AN
variable {G : Env0} {Q : Option AV → Mem → Prop} {M T : Mem} {c s m r : Nat}
theorem X_isResC {v_z : Int} (hs : ShM T m) (v0_z : 0 ≤ v_z) (v1_z : v_z ≤ 1000) (hf : ∀ qq : Option AV → Mem → Prop, qq (some (a_i v_z)) T → Call G J_M_found [a_r m] T qq) (h_z : Q (some (a_i (if v_z / 100 = 1 then 1 else 0))) T) : Call G J_M_isResource [a_r m, a_i 12] T Q := by
  have d1_z : Int.tdiv v_z 100 = v_z / 100 := Int.tdiv_eq_ediv_of_nonneg v0_z
  have b1 : inI (v_z / 100) := ⟨by omega, by omega⟩
  have go_z : At G 212 4 [a_r m, a_i 12, a_u] [a_i v_z] T Q := by
    by_cases c0_z : v_z / 100 = 1
    · rw [if_pos c0_z] at h_z
      simp (disch := omega) only [B_212_4, d1_z, b1, c0_z, B_212_24, inI, inL, isT, kInt, kByt, true_and, and_true, an_t, im_t, im_f, or_true, true_or, true_imp_iff, false_imp_iff, not_true_eq_false, not_false_eq_true, gK_uI, gK_uL, gK_uR, gK_uCI, gK_uCL, gN_uI, gN_uL, gN_uR, gN_uCI, gN_uCL, gR_uI, gR_uL, gR_uCI, gR_uCL, gI_uL, gI_uR, gI_uCL, gL_uI, gL_uR, gL_uCI, gz_uI, gz_uL, gz_uR, gz_uCI, gz_uCL, gs_uI, gs_uL, gs_uR, gs_uCI, gs_uCL, rI_at, rL_at, rR_at, rI_ne, rL_ne, rR_ne, rI_nk, rL_nk, rR_nk, rI_eq, rL_eq, rR_eq, Option.toList_some, Option.toList_none, List.cons_append, List.nil_append, List.append_nil, zc_eq, zc_lt, zc_le, zc_ge, zc_gt]
      all_goals exact h_z
    · rw [if_neg c0_z] at h_z
      simp (disch := omega) only [B_212_4, d1_z, b1, c0_z, B_212_23, B_212_24, inI, inL, isT, kInt, kByt, true_and, and_true, an_t, im_t, im_f, or_true, true_or, true_imp_iff, false_imp_iff, not_true_eq_false, not_false_eq_true, gK_uI, gK_uL, gK_uR, gK_uCI, gK_uCL, gN_uI, gN_uL, gN_uR, gN_uCI, gN_uCL, gR_uI, gR_uL, gR_uCI, gR_uCL, gI_uL, gI_uR, gI_uCL, gL_uI, gL_uR, gL_uCI, gz_uI, gz_uL, gz_uR, gz_uCI, gz_uCL, gs_uI, gs_uL, gs_uR, gs_uCI, gs_uCL, rI_at, rL_at, rR_at, rI_ne, rL_ne, rR_ne, rI_nk, rL_nk, rR_nk, rI_eq, rL_eq, rR_eq, Option.toList_some, Option.toList_none, List.cons_append, List.nil_append, List.append_nil, zc_eq, zc_lt, zc_le, zc_ge, zc_gt]
      all_goals exact h_z
  have ff_z := hf (fun r M2_z => At G 212 4 [a_r m, a_i 12, a_u] r.toList M2_z Q) go_z
  simp (disch := omega) only [E_M_isResource, B_212_0, hs.u, inI, inL, isT, kInt, kByt, true_and, and_true, an_t, im_t, im_f, or_true, true_or, true_imp_iff, false_imp_iff, not_true_eq_false, not_false_eq_true, gK_uI, gK_uL, gK_uR, gK_uCI, gK_uCL, gN_uI, gN_uL, gN_uR, gN_uCI, gN_uCL, gR_uI, gR_uL, gR_uCI, gR_uCL, gI_uL, gI_uR, gI_uCL, gL_uI, gL_uR, gL_uCI, gz_uI, gz_uL, gz_uR, gz_uCI, gz_uCL, gs_uI, gs_uL, gs_uR, gs_uCI, gs_uCL, rI_at, rL_at, rR_at, rI_ne, rL_ne, rR_ne, rI_nk, rL_nk, rR_nk, rI_eq, rL_eq, rR_eq, Option.toList_some, Option.toList_none, List.cons_append, List.nil_append, List.append_nil, zc_eq, zc_lt, zc_le, zc_ge, zc_gt]
  all_goals exact ff_z
end AN
