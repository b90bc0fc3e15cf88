/-! THE PURE PART, part 14: the model finds the resource of a name. Own work. -/
section AL
variable {G : Env0} {Q : Option AV → Mem → Prop} {M T : Mem} {c s m r : Nat}
theorem found_loop {d_z : Nat} {w_z u_z : Int} (hs : ShM T m) (hl : gI T m 36 = (d_z : Int)) (hw : gI T (m + 19) d_z = w_z) (l1 : d_z < 5) (w0_z : 1 ≤ w_z) (w1_z : w_z ≤ 16) (hu : gI T (m + 20) (16 * d_z + w_z - 1) = u_z) (u0 : 0 ≤ u_z) (u1_z : u_z ≤ 7) (st_z : ∀ l : Nat, l < 5 → l ≤ d_z → 0 ≤ gI T (m + 17) l ∧ gI T (m + 17) l ≤ 6) : ∀ n_z : Nat, n_z ≤ d_z + 1 → Q (some (a_i (lk (fun l => gI T (m + 1) (1157 + 8 * gI T (m + 17) l + u_z)) n_z))) T → At G 213 7 [a_r m, a_i 0, a_i ((n_z : Int) - 1)] [] T Q := by
  intro n_z
  induction n_z with
  | zero =>
    intro hn hq
    have hh : Q (some (a_i 0)) T := hq
    rw [B_213_7]
    simp (disch := omega) only [B_213_51, inI, inL, isT, kInt, kByt, true_and, and_true, an_t, im_t, im_f, or_true, true_or, true_imp_iff, false_imp_iff, not_true_eq_false, not_false_eq_true, gK_uI, gK_uL, gK_uR, gK_uCI, gK_uCL, gN_uI, gN_uL, gN_uR, gN_uCI, gN_uCL, gR_uI, gR_uL, gR_uCI, gR_uCL, gI_uL, gI_uR, gI_uCL, gL_uI, gL_uR, gL_uCI, gz_uI, gz_uL, gz_uR, gz_uCI, gz_uCL, gs_uI, gs_uL, gs_uR, gs_uCI, gs_uCL, rI_at, rL_at, rR_at, rI_ne, rL_ne, rR_ne, rI_nk, rL_nk, rR_nk, rI_eq, rL_eq, rR_eq, Option.toList_some, Option.toList_none, List.cons_append, List.nil_append, List.append_nil, zc_eq, zc_lt, zc_le, zc_ge, zc_gt]
    all_goals exact hh
  | succ n_z ih_z =>
    intro hn hq
    have s1_z := st_z n_z (by omega) (by omega)
    have tt := fun qq => X_topE (G := G) (Q := qq) (M := T) (m := m) (k_z := 0) hs hl hw (by omega) (by omega) (by omega) w1_z (by omega) (by omega)
    rw [Int.sub_zero] at tt
    have e1_z : (((n_z + 1 : Nat) : Int)) - 1 = (n_z : Int) := by omega
    rw [e1_z]
    have hlk : lk (fun l => gI T (m + 1) (1157 + 8 * gI T (m + 17) l + u_z)) (n_z + 1) = if gI T (m + 1) (1157 + 8 * gI T (m + 17) n_z + u_z) = 0 then lk (fun l => gI T (m + 1) (1157 + 8 * gI T (m + 17) l + u_z)) n_z else gI T (m + 1) (1157 + 8 * gI T (m + 17) n_z + u_z) := rfl
    rw [hlk] at hq
    have go_z : At G 213 7 [a_r m, a_i (gI T (m + 1) (1157 + 8 * gI T (m + 17) n_z + u_z)), a_i ((n_z : Int) + (-1))] [] T Q := by
      by_cases c0_z : gI T (m + 1) (1157 + 8 * gI T (m + 17) n_z + u_z) = 0
      · rw [if_pos c0_z] at hq
        rw [c0_z, show (n_z : Int) + (-1) = (n_z : Int) - 1 from by omega]
        exact ih_z (by omega) hq
      · rw [if_neg c0_z] at hq
        generalize gI T (m + 1) (1157 + 8 * gI T (m + 17) n_z + u_z) = v_z at *
        rw [B_213_7]
        by_cases cn : (n_z : Int) + (-1) < 0
        · simp (disch := omega) only [B_213_51, cn, inI, inL, isT, kInt, kByt, true_and, and_true, an_t, im_t, im_f, or_true, true_or, true_imp_iff, false_imp_iff, not_true_eq_false, not_false_eq_true, gK_uI, gK_uL, gK_uR, gK_uCI, gK_uCL, gN_uI, gN_uL, gN_uR, gN_uCI, gN_uCL, gR_uI, gR_uL, gR_uCI, gR_uCL, gI_uL, gI_uR, gI_uCL, gL_uI, gL_uR, gL_uCI, gz_uI, gz_uL, gz_uR, gz_uCI, gz_uCL, gs_uI, gs_uL, gs_uR, gs_uCI, gs_uCL, rI_at, rL_at, rR_at, rI_ne, rL_ne, rR_ne, rI_nk, rL_nk, rR_nk, rI_eq, rL_eq, rR_eq, Option.toList_some, Option.toList_none, List.cons_append, List.nil_append, List.append_nil, zc_eq, zc_lt, zc_le, zc_ge, zc_gt]
          all_goals exact hq
        · simp (disch := omega) only [B_213_51, cn, c0_z, inI, inL, isT, kInt, kByt, true_and, and_true, an_t, im_t, im_f, or_true, true_or, true_imp_iff, false_imp_iff, not_true_eq_false, not_false_eq_true, gK_uI, gK_uL, gK_uR, gK_uCI, gK_uCL, gN_uI, gN_uL, gN_uR, gN_uCI, gN_uCL, gR_uI, gR_uL, gR_uCI, gR_uCL, gI_uL, gI_uR, gI_uCL, gL_uI, gL_uR, gL_uCI, gz_uI, gz_uL, gz_uR, gz_uCI, gz_uCL, gs_uI, gs_uL, gs_uR, gs_uCI, gs_uCL, rI_at, rL_at, rR_at, rI_ne, rL_ne, rR_ne, rI_nk, rL_nk, rR_nk, rI_eq, rL_eq, rR_eq, Option.toList_some, Option.toList_none, List.cons_append, List.nil_append, List.append_nil, zc_eq, zc_lt, zc_le, zc_ge, zc_gt]
          all_goals exact hq
    rw [B_213_7]
    simp (disch := omega) only [hs.u, tt, B_213_41, hu, inI, inL, isT, kInt, kByt, true_and, and_true, an_t, im_t, im_f, or_true, true_or, true_imp_iff, false_imp_iff, not_true_eq_false, not_false_eq_true, gK_uI, gK_uL, gK_uR, gK_uCI, gK_uCL, gN_uI, gN_uL, gN_uR, gN_uCI, gN_uCL, gR_uI, gR_uL, gR_uCI, gR_uCL, gI_uL, gI_uR, gI_uCL, gL_uI, gL_uR, gL_uCI, gz_uI, gz_uL, gz_uR, gz_uCI, gz_uCL, gs_uI, gs_uL, gs_uR, gs_uCI, gs_uCL, rI_at, rL_at, rR_at, rI_ne, rL_ne, rR_ne, rI_nk, rL_nk, rR_nk, rI_eq, rL_eq, rR_eq, Option.toList_some, Option.toList_none, List.cons_append, List.nil_append, List.append_nil, zc_eq, zc_lt, zc_le, zc_ge, zc_gt]
    all_goals exact go_z
theorem X_found {d_z : Nat} {w_z u_z : Int} (hs : ShM T m) (hl : gI T m 36 = (d_z : Int)) (hw : gI T (m + 19) d_z = w_z) (l1 : d_z < 5) (w0_z : 1 ≤ w_z) (w1_z : w_z ≤ 16) (hu : gI T (m + 20) (16 * d_z + w_z - 1) = u_z) (u0 : 0 ≤ u_z) (u1_z : u_z ≤ 7) (st_z : ∀ l : Nat, l < 5 → l ≤ d_z → 0 ≤ gI T (m + 17) l ∧ gI T (m + 17) l ≤ 6) (h_z : Q (some (a_i (lk (fun l => gI T (m + 1) (1157 + 8 * gI T (m + 17) l + u_z)) (d_z + 1)))) T) : Call G J_M_found [a_r m] T Q := by
  have lp := found_loop (G := G) (Q := Q) hs hl hw l1 w0_z w1_z hu u0 u1_z st_z (d_z + 1) (Nat.le_refl _) h_z
  rw [show ((d_z + 1 : Nat) : Int) - 1 = (d_z : Int) from by omega] at lp
  simp (disch := omega) only [E_M_found, B_213_0, hs.u, hl, inI, inL, isT, kInt, kByt, true_and, and_true, an_t, im_t, im_f, or_true, true_or, true_imp_iff, false_imp_iff, not_true_eq_false, not_false_eq_true, gK_uI, gK_uL, gK_uR, gK_uCI, gK_uCL, gN_uI, gN_uL, gN_uR, gN_uCI, gN_uCL, gR_uI, gR_uL, gR_uCI, gR_uCL, gI_uL, gI_uR, gI_uCL, gL_uI, gL_uR, gL_uCI, gz_uI, gz_uL, gz_uR, gz_uCI, gz_uCL, gs_uI, gs_uL, gs_uR, gs_uCI, gs_uCL, rI_at, rL_at, rR_at, rI_ne, rL_ne, rR_ne, rI_nk, rL_nk, rR_nk, rI_eq, rL_eq, rR_eq, Option.toList_some, Option.toList_none, List.cons_append, List.nil_append, List.append_nil, zc_eq, zc_lt, zc_le, zc_ge, zc_gt]
  all_goals exact lp
end AL
