/-! THE PURE PART, part 14: the model's check of what ends a path, and its end. Own work. -/
section AH
variable {G : Env0} {Q : Option AV → Mem → Prop} {M T : Mem} {c s m r : Nat}
theorem X_tooF {k_z : Nat} (hs : ShM T m) (hk : k_z = 9 ∨ k_z = 10) (h1 : (gI T m 35 = 30 ∨ (0 < gI T m 27 ∧ gI T (m + 6) 13 = 6)) → Q (some (a_i 1)) T) (h0 : ¬ (gI T m 35 = 30 ∨ (0 < gI T m 27 ∧ gI T (m + 6) 13 = 6)) → Q (some (a_i 0)) T) : Call G J_M_isTooMuch [a_r m, a_i (k_z : Int)] T Q := by
  have hcall : At G 215 230 [a_r m, a_i (k_z : Int)] [] T Q := by
    by_cases c1_z : gI T m 35 = 30
    · have hh := h1 (Or.inl c1_z)
      simp (disch := omega) only [B_215_230, hs.u, c1_z, B_215_258, B_215_263, inI, inL, isT, kInt, kByt, true_and, and_true, an_t, im_t, im_f, or_true, true_or, true_imp_iff, false_imp_iff, not_true_eq_false, not_false_eq_true, gK_uI, gK_uL, gK_uR, gK_uCI, gK_uCL, gN_uI, gN_uL, gN_uR, gN_uCI, gN_uCL, gR_uI, gR_uL, gR_uCI, gR_uCL, gI_uL, gI_uR, gI_uCL, gL_uI, gL_uR, gL_uCI, gz_uI, gz_uL, gz_uR, gz_uCI, gz_uCL, gs_uI, gs_uL, gs_uR, gs_uCI, gs_uCL, rI_at, rL_at, rR_at, rI_ne, rL_ne, rR_ne, rI_nk, rL_nk, rR_nk, rI_eq, rL_eq, rR_eq, Option.toList_some, Option.toList_none, List.cons_append, List.nil_append, List.append_nil, zc_eq, zc_lt, zc_le, zc_ge, zc_gt]
      all_goals exact hh
    · by_cases c2_z : gI T m 27 ≤ 0
      · have hh := h0 (fun q_z => by omega)
        simp (disch := omega) only [B_215_230, hs.u, c1_z, c2_z, B_215_262, B_215_263, inI, inL, isT, kInt, kByt, true_and, and_true, an_t, im_t, im_f, or_true, true_or, true_imp_iff, false_imp_iff, not_true_eq_false, not_false_eq_true, gK_uI, gK_uL, gK_uR, gK_uCI, gK_uCL, gN_uI, gN_uL, gN_uR, gN_uCI, gN_uCL, gR_uI, gR_uL, gR_uCI, gR_uCL, gI_uL, gI_uR, gI_uCL, gL_uI, gL_uR, gL_uCI, gz_uI, gz_uL, gz_uR, gz_uCI, gz_uCL, gs_uI, gs_uL, gs_uR, gs_uCI, gs_uCL, rI_at, rL_at, rR_at, rI_ne, rL_ne, rR_ne, rI_nk, rL_nk, rR_nk, rI_eq, rL_eq, rR_eq, Option.toList_some, Option.toList_none, List.cons_append, List.nil_append, List.append_nil, zc_eq, zc_lt, zc_le, zc_ge, zc_gt]
        all_goals exact hh
      · by_cases c3_z : gI T (m + 6) 13 = 6
        · have hh := h1 (Or.inr ⟨by omega, c3_z⟩)
          simp (disch := omega) only [B_215_230, hs.u, c1_z, c2_z, c3_z, B_215_258, B_215_263, inI, inL, isT, kInt, kByt, true_and, and_true, an_t, im_t, im_f, or_true, true_or, true_imp_iff, false_imp_iff, not_true_eq_false, not_false_eq_true, gK_uI, gK_uL, gK_uR, gK_uCI, gK_uCL, gN_uI, gN_uL, gN_uR, gN_uCI, gN_uCL, gR_uI, gR_uL, gR_uCI, gR_uCL, gI_uL, gI_uR, gI_uCL, gL_uI, gL_uR, gL_uCI, gz_uI, gz_uL, gz_uR, gz_uCI, gz_uCL, gs_uI, gs_uL, gs_uR, gs_uCI, gs_uCL, rI_at, rL_at, rR_at, rI_ne, rL_ne, rR_ne, rI_nk, rL_nk, rR_nk, rI_eq, rL_eq, rR_eq, Option.toList_some, Option.toList_none, List.cons_append, List.nil_append, List.append_nil, zc_eq, zc_lt, zc_le, zc_ge, zc_gt]
          all_goals exact hh
        · have hh := h0 (fun q_z => by omega)
          simp (disch := omega) only [B_215_230, hs.u, c1_z, c2_z, c3_z, B_215_262, B_215_263, inI, inL, isT, kInt, kByt, true_and, and_true, an_t, im_t, im_f, or_true, true_or, true_imp_iff, false_imp_iff, not_true_eq_false, not_false_eq_true, gK_uI, gK_uL, gK_uR, gK_uCI, gK_uCL, gN_uI, gN_uL, gN_uR, gN_uCI, gN_uCL, gR_uI, gR_uL, gR_uCI, gR_uCL, gI_uL, gI_uR, gI_uCL, gL_uI, gL_uR, gL_uCI, gz_uI, gz_uL, gz_uR, gz_uCI, gz_uCL, gs_uI, gs_uL, gs_uR, gs_uCI, gs_uCL, rI_at, rL_at, rR_at, rI_ne, rL_ne, rR_ne, rI_nk, rL_nk, rR_nk, rI_eq, rL_eq, rR_eq, Option.toList_some, Option.toList_none, List.cons_append, List.nil_append, List.append_nil, zc_eq, zc_lt, zc_le, zc_ge, zc_gt]
          all_goals exact hh
  rw [E_M_isTooMuch, B_215_0]
  rcases hk with hk | hk <;> subst hk <;> simp (disch := omega) only [Int.cast_ofNat_Int, inI, inL, isT, kInt, kByt, true_and, and_true, an_t, im_t, im_f, or_true, true_or, true_imp_iff, false_imp_iff, not_true_eq_false, not_false_eq_true, gK_uI, gK_uL, gK_uR, gK_uCI, gK_uCL, gN_uI, gN_uL, gN_uR, gN_uCI, gN_uCL, gR_uI, gR_uL, gR_uCI, gR_uCL, gI_uL, gI_uR, gI_uCL, gL_uI, gL_uR, gL_uCI, gz_uI, gz_uL, gz_uR, gz_uCI, gz_uCL, gs_uI, gs_uL, gs_uR, gs_uCI, gs_uCL, rI_at, rL_at, rR_at, rI_ne, rL_ne, rR_ne, rI_nk, rL_nk, rR_nk, rI_eq, rL_eq, rR_eq, Option.toList_some, Option.toList_none, List.cons_append, List.nil_append, List.append_nil, zc_eq, zc_lt, zc_le, zc_ge, zc_gt] at hcall ⊢ <;> exact hcall
theorem X_tooD (hs : ShM T m) (h1 : (0 < gI T m 27 ∧ gI T (m + 6) 13 = 6) → Q (some (a_i 1)) T) (h0 : ¬ (0 < gI T m 27 ∧ gI T (m + 6) 13 = 6) → Q (some (a_i 0)) T) : Call G J_M_isTooMuch [a_r m, a_i 11] T Q := by
  have hcall : At G 215 264 [a_r m, a_i 11] [] T Q := by
    by_cases c2_z : gI T m 27 ≤ 0
    · have hh := h0 (fun q_z => by omega)
      simp (disch := omega) only [B_215_264, hs.u, c2_z, B_215_287, B_215_288, inI, inL, isT, kInt, kByt, true_and, and_true, an_t, im_t, im_f, or_true, true_or, true_imp_iff, false_imp_iff, not_true_eq_false, not_false_eq_true, gK_uI, gK_uL, gK_uR, gK_uCI, gK_uCL, gN_uI, gN_uL, gN_uR, gN_uCI, gN_uCL, gR_uI, gR_uL, gR_uCI, gR_uCL, gI_uL, gI_uR, gI_uCL, gL_uI, gL_uR, gL_uCI, gz_uI, gz_uL, gz_uR, gz_uCI, gz_uCL, gs_uI, gs_uL, gs_uR, gs_uCI, gs_uCL, rI_at, rL_at, rR_at, rI_ne, rL_ne, rR_ne, rI_nk, rL_nk, rR_nk, rI_eq, rL_eq, rR_eq, Option.toList_some, Option.toList_none, List.cons_append, List.nil_append, List.append_nil, zc_eq, zc_lt, zc_le, zc_ge, zc_gt]
      all_goals exact hh
    · by_cases c3_z : gI T (m + 6) 13 = 6
      · have hh := h1 ⟨by omega, c3_z⟩
        simp (disch := omega) only [B_215_264, hs.u, c2_z, c3_z, B_215_288, inI, inL, isT, kInt, kByt, true_and, and_true, an_t, im_t, im_f, or_true, true_or, true_imp_iff, false_imp_iff, not_true_eq_false, not_false_eq_true, gK_uI, gK_uL, gK_uR, gK_uCI, gK_uCL, gN_uI, gN_uL, gN_uR, gN_uCI, gN_uCL, gR_uI, gR_uL, gR_uCI, gR_uCL, gI_uL, gI_uR, gI_uCL, gL_uI, gL_uR, gL_uCI, gz_uI, gz_uL, gz_uR, gz_uCI, gz_uCL, gs_uI, gs_uL, gs_uR, gs_uCI, gs_uCL, rI_at, rL_at, rR_at, rI_ne, rL_ne, rR_ne, rI_nk, rL_nk, rR_nk, rI_eq, rL_eq, rR_eq, Option.toList_some, Option.toList_none, List.cons_append, List.nil_append, List.append_nil, zc_eq, zc_lt, zc_le, zc_ge, zc_gt]
        all_goals exact hh
      · have hh := h0 (fun q_z => by omega)
        simp (disch := omega) only [B_215_264, hs.u, c2_z, c3_z, B_215_287, B_215_288, inI, inL, isT, kInt, kByt, true_and, and_true, an_t, im_t, im_f, or_true, true_or, true_imp_iff, false_imp_iff, not_true_eq_false, not_false_eq_true, gK_uI, gK_uL, gK_uR, gK_uCI, gK_uCL, gN_uI, gN_uL, gN_uR, gN_uCI, gN_uCL, gR_uI, gR_uL, gR_uCI, gR_uCL, gI_uL, gI_uR, gI_uCL, gL_uI, gL_uR, gL_uCI, gz_uI, gz_uL, gz_uR, gz_uCI, gz_uCL, gs_uI, gs_uL, gs_uR, gs_uCI, gs_uCL, rI_at, rL_at, rR_at, rI_ne, rL_ne, rR_ne, rI_nk, rL_nk, rR_nk, rI_eq, rL_eq, rR_eq, Option.toList_some, Option.toList_none, List.cons_append, List.nil_append, List.append_nil, zc_eq, zc_lt, zc_le, zc_ge, zc_gt]
        all_goals exact hh
  rw [E_M_isTooMuch, B_215_0]
  simp (disch := omega) only [inI, inL, isT, kInt, kByt, true_and, and_true, an_t, im_t, im_f, or_true, true_or, true_imp_iff, false_imp_iff, not_true_eq_false, not_false_eq_true, gK_uI, gK_uL, gK_uR, gK_uCI, gK_uCL, gN_uI, gN_uL, gN_uR, gN_uCI, gN_uCL, gR_uI, gR_uL, gR_uCI, gR_uCL, gI_uL, gI_uR, gI_uCL, gL_uI, gL_uR, gL_uCI, gz_uI, gz_uL, gz_uR, gz_uCI, gz_uCL, gs_uI, gs_uL, gs_uR, gs_uCI, gs_uCL, rI_at, rL_at, rR_at, rI_ne, rL_ne, rR_ne, rI_nk, rL_nk, rR_nk, rI_eq, rL_eq, rR_eq, Option.toList_some, Option.toList_none, List.cons_append, List.nil_append, List.append_nil, zc_eq, zc_lt, zc_le, zc_ge, zc_gt]
  all_goals exact hcall
/-- the class's check of what ends a path: it may be full -/
theorem X_endFull {k_z : Nat} {tp x_z tk u_z : Int} {g_z : Nat} (hs : ShMa M c) (ho : OpF G M) (hk : k_z = 9 ∨ k_z = 10 ∨ k_z = 11) (ht : gI M c 12 = tp) (t0_z : 0 ≤ tp) (t1_z : tp < 35) (hgg : c + 42 + 3 * tp.toNat = g_z) (hu : gI M (c + 4) 7 = u_z) (hu1 : u_z = 0 ∨ u_z = 1) (h6 : ((u_z = 1 ∧ 6 ≤ gI M g_z 2) ∨ (k_z ≠ 11 ∧ 30 ≤ gI M (c + 3) 8)) → Q (some (a_i 6)) M) (h0 : ¬ ((u_z = 1 ∧ 6 ≤ gI M g_z 2) ∨ (k_z ≠ 11 ∧ 30 ≤ gI M (c + 3) 8)) → At G 108 65 [a_r c, a_r (G.2 (3 + k_z)), a_i x_z, a_i tk, a_i (if k_z = 11 then 0 else 1), a_i u_z, a_r g_z, a_u] [] M Q) : Call G J_Ma_endPath [a_r c, a_r (G.2 (3 + k_z)), a_i x_z, a_i tk] M Q := by
  have sG := hs.gr (d_z := tp) t0_z t1_z
  rw [hgg] at sG
  obtain ⟨sG1, sG2⟩ := sG
  have sP : ShPa M (c + 4) := hs.2.1
  have sI : ShIt M (c + 3) (c + 4) := hs.2.2.1
  have n14_z : G.2 (3 + k_z) = G.2 14 ↔ k_z = 11 := ⟨fun q_z => ho.inj (by omega) (by decide) (show G.2 (3 + k_z) = G.2 (3 + 11) from q_z), fun q_z => by subst q_z; rfl⟩
  have gf := fun qq => X_grFull (G := G) (Q := qq) sG2
  have fi := fun qq => X_itFull (G := G) (Q := qq) sI
  have mid_z : At G 108 47 [a_r c, a_r (G.2 (3 + k_z)), a_i x_z, a_i tk, a_i (if k_z = 11 then 0 else 1), a_i u_z, a_r g_z, a_u] [] M Q ∨ (u_z = 1 ∧ 6 ≤ gI M g_z 2) := by
    by_cases cu : u_z = 1 ∧ 6 ≤ gI M g_z 2
    · exact Or.inr cu
    · refine Or.inl ?_
      by_cases ck : k_z = 11
      · subst ck
        have hh := h0 (fun q_z => q_z.elim cu (fun y_z => y_z.1 rfl))
        rw [if_pos rfl] at hh ⊢
        simp (disch := omega) only [B_108_47, inI, inL, isT, kInt, kByt, true_and, and_true, an_t, im_t, im_f, or_true, true_or, true_imp_iff, false_imp_iff, not_true_eq_false, not_false_eq_true, gK_uI, gK_uL, gK_uR, gK_uCI, gK_uCL, gN_uI, gN_uL, gN_uR, gN_uCI, gN_uCL, gR_uI, gR_uL, gR_uCI, gR_uCL, gI_uL, gI_uR, gI_uCL, gL_uI, gL_uR, gL_uCI, gz_uI, gz_uL, gz_uR, gz_uCI, gz_uCL, gs_uI, gs_uL, gs_uR, gs_uCI, gs_uCL, rI_at, rL_at, rR_at, rI_ne, rL_ne, rR_ne, rI_nk, rL_nk, rR_nk, rI_eq, rL_eq, rR_eq, Option.toList_some, Option.toList_none, List.cons_append, List.nil_append, List.append_nil, zc_eq, zc_lt, zc_le, zc_ge, zc_gt]
        all_goals exact hh
      · by_cases ci : 30 ≤ gI M (c + 3) 8
        · have hh := h6 (Or.inr ⟨ck, ci⟩)
          have z_z := zB_t ci
          rw [if_neg ck]
          simp (disch := omega) only [B_108_47, hs.1.u, sI.u, fi, z_z, B_108_59, B_108_62, inI, inL, isT, kInt, kByt, true_and, and_true, an_t, im_t, im_f, or_true, true_or, true_imp_iff, false_imp_iff, not_true_eq_false, not_false_eq_true, gK_uI, gK_uL, gK_uR, gK_uCI, gK_uCL, gN_uI, gN_uL, gN_uR, gN_uCI, gN_uCL, gR_uI, gR_uL, gR_uCI, gR_uCL, gI_uL, gI_uR, gI_uCL, gL_uI, gL_uR, gL_uCI, gz_uI, gz_uL, gz_uR, gz_uCI, gz_uCL, gs_uI, gs_uL, gs_uR, gs_uCI, gs_uCL, rI_at, rL_at, rR_at, rI_ne, rL_ne, rR_ne, rI_nk, rL_nk, rR_nk, rI_eq, rL_eq, rR_eq, Option.toList_some, Option.toList_none, List.cons_append, List.nil_append, List.append_nil, zc_eq, zc_lt, zc_le, zc_ge, zc_gt]
          all_goals exact hh
        · have hh := h0 (fun q_z => q_z.elim cu (fun y_z => ci y_z.2))
          have z_z := zB_f ci
          rw [if_neg ck] at hh ⊢
          simp (disch := omega) only [B_108_47, hs.1.u, sI.u, fi, z_z, B_108_59, inI, inL, isT, kInt, kByt, true_and, and_true, an_t, im_t, im_f, or_true, true_or, true_imp_iff, false_imp_iff, not_true_eq_false, not_false_eq_true, gK_uI, gK_uL, gK_uR, gK_uCI, gK_uCL, gN_uI, gN_uL, gN_uR, gN_uCI, gN_uCL, gR_uI, gR_uL, gR_uCI, gR_uCL, gI_uL, gI_uR, gI_uCL, gL_uI, gL_uR, gL_uCI, gz_uI, gz_uL, gz_uR, gz_uCI, gz_uCL, gs_uI, gs_uL, gs_uR, gs_uCI, gs_uCL, rI_at, rL_at, rR_at, rI_ne, rL_ne, rR_ne, rI_nk, rL_nk, rR_nk, rI_eq, rL_eq, rR_eq, Option.toList_some, Option.toList_none, List.cons_append, List.nil_append, List.append_nil, zc_eq, zc_lt, zc_le, zc_ge, zc_gt]
          all_goals exact hh
  have go_z : At G 108 12 [a_r c, a_r (G.2 (3 + k_z)), a_i x_z, a_i tk, a_u, a_u, a_u, a_u] [a_i (if k_z = 11 then 0 else 1)] M Q := by
    generalize (if k_z = 11 then (0 : Int) else 1) = pt at *
    rcases hu1 with u0 | u1_z
    · subst u0
      have md := mid_z.resolve_right (fun q_z => absurd q_z.1 (by decide))
      simp (disch := omega) only [B_108_12, hs.1.u, sP.u, ht, sG1, hu, inI, inL, isT, kInt, kByt, true_and, and_true, an_t, im_t, im_f, or_true, true_or, true_imp_iff, false_imp_iff, not_true_eq_false, not_false_eq_true, gK_uI, gK_uL, gK_uR, gK_uCI, gK_uCL, gN_uI, gN_uL, gN_uR, gN_uCI, gN_uCL, gR_uI, gR_uL, gR_uCI, gR_uCL, gI_uL, gI_uR, gI_uCL, gL_uI, gL_uR, gL_uCI, gz_uI, gz_uL, gz_uR, gz_uCI, gz_uCL, gs_uI, gs_uL, gs_uR, gs_uCI, gs_uCL, rI_at, rL_at, rR_at, rI_ne, rL_ne, rR_ne, rI_nk, rL_nk, rR_nk, rI_eq, rL_eq, rR_eq, Option.toList_some, Option.toList_none, List.cons_append, List.nil_append, List.append_nil, zc_eq, zc_lt, zc_le, zc_ge, zc_gt]
      all_goals exact md
    · subst u1_z
      by_cases cf_z : 6 ≤ gI M g_z 2
      · have hh := h6 (Or.inl ⟨rfl, cf_z⟩)
        have z_z := zB_t cf_z
        simp (disch := omega) only [B_108_12, hs.1.u, sP.u, ht, sG1, hu, sG2.u, gf, z_z, B_108_44, B_108_62, inI, inL, isT, kInt, kByt, true_and, and_true, an_t, im_t, im_f, or_true, true_or, true_imp_iff, false_imp_iff, not_true_eq_false, not_false_eq_true, gK_uI, gK_uL, gK_uR, gK_uCI, gK_uCL, gN_uI, gN_uL, gN_uR, gN_uCI, gN_uCL, gR_uI, gR_uL, gR_uCI, gR_uCL, gI_uL, gI_uR, gI_uCL, gL_uI, gL_uR, gL_uCI, gz_uI, gz_uL, gz_uR, gz_uCI, gz_uCL, gs_uI, gs_uL, gs_uR, gs_uCI, gs_uCL, rI_at, rL_at, rR_at, rI_ne, rL_ne, rR_ne, rI_nk, rL_nk, rR_nk, rI_eq, rL_eq, rR_eq, Option.toList_some, Option.toList_none, List.cons_append, List.nil_append, List.append_nil, zc_eq, zc_lt, zc_le, zc_ge, zc_gt]
        all_goals exact hh
      · have md := mid_z.resolve_right (fun q_z => cf_z q_z.2)
        have z_z := zB_f cf_z
        simp (disch := omega) only [B_108_12, hs.1.u, sP.u, ht, sG1, hu, sG2.u, gf, z_z, B_108_44, inI, inL, isT, kInt, kByt, true_and, and_true, an_t, im_t, im_f, or_true, true_or, true_imp_iff, false_imp_iff, not_true_eq_false, not_false_eq_true, gK_uI, gK_uL, gK_uR, gK_uCI, gK_uCL, gN_uI, gN_uL, gN_uR, gN_uCI, gN_uCL, gR_uI, gR_uL, gR_uCI, gR_uCL, gI_uL, gI_uR, gI_uCL, gL_uI, gL_uR, gL_uCI, gz_uI, gz_uL, gz_uR, gz_uCI, gz_uCL, gs_uI, gs_uL, gs_uR, gs_uCI, gs_uCL, rI_at, rL_at, rR_at, rI_ne, rL_ne, rR_ne, rI_nk, rL_nk, rR_nk, rI_eq, rL_eq, rR_eq, Option.toList_some, Option.toList_none, List.cons_append, List.nil_append, List.append_nil, zc_eq, zc_lt, zc_le, zc_ge, zc_gt]
        all_goals exact md
  by_cases ck : k_z = 11
  · subst ck
    rw [if_pos rfl] at go_z
    simp (disch := omega) only [E_Ma_endPath, B_108_0, B_108_11, inI, inL, isT, kInt, kByt, true_and, and_true, an_t, im_t, im_f, or_true, true_or, true_imp_iff, false_imp_iff, not_true_eq_false, not_false_eq_true, gK_uI, gK_uL, gK_uR, gK_uCI, gK_uCL, gN_uI, gN_uL, gN_uR, gN_uCI, gN_uCL, gR_uI, gR_uL, gR_uCI, gR_uCL, gI_uL, gI_uR, gI_uCL, gL_uI, gL_uR, gL_uCI, gz_uI, gz_uL, gz_uR, gz_uCI, gz_uCL, gs_uI, gs_uL, gs_uR, gs_uCI, gs_uCL, rI_at, rL_at, rR_at, rI_ne, rL_ne, rR_ne, rI_nk, rL_nk, rR_nk, rI_eq, rL_eq, rR_eq, Option.toList_some, Option.toList_none, List.cons_append, List.nil_append, List.append_nil, zc_eq, zc_lt, zc_le, zc_ge, zc_gt]
    all_goals exact go_z
  · rw [if_neg ck] at go_z
    have n14' : ¬ G.2 (3 + k_z) = G.2 14 := fun q_z => ck (n14_z.mp q_z)
    simp (disch := omega) only [E_Ma_endPath, B_108_0, n14', inI, inL, isT, kInt, kByt, true_and, and_true, an_t, im_t, im_f, or_true, true_or, true_imp_iff, false_imp_iff, not_true_eq_false, not_false_eq_true, gK_uI, gK_uL, gK_uR, gK_uCI, gK_uCL, gN_uI, gN_uL, gN_uR, gN_uCI, gN_uCL, gR_uI, gR_uL, gR_uCI, gR_uCL, gI_uL, gI_uR, gI_uCL, gL_uI, gL_uR, gL_uCI, gz_uI, gz_uL, gz_uR, gz_uCI, gz_uCL, gs_uI, gs_uL, gs_uR, gs_uCI, gs_uCL, rI_at, rL_at, rR_at, rI_ne, rL_ne, rR_ne, rI_nk, rL_nk, rR_nk, rI_eq, rL_eq, rR_eq, Option.toList_some, Option.toList_none, List.cons_append, List.nil_append, List.append_nil, zc_eq, zc_lt, zc_le, zc_ge, zc_gt]
    all_goals exact go_z
end AH
