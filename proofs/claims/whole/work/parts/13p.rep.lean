/-! THE PURE PART, part 13: repeat. Own work (partly written by a program of its own). -/
section FB
variable {G : Env0} {Q : Option AV → Mem → Prop} {M T : Mem} {c s m r : Nat}
theorem nextOf_loop {d_z j_z q_z : Nat} {x_z n_z : Int} (hs : ShM T m) (hl : gI T m 36 = (d_z : Int)) (l1 : d_z < 5) (hx : gI T (m + 17) d_z = x_z) (x0_z : 0 ≤ x_z) (x1_z : x_z ≤ 6) (hwf : ∀ k_z, k_z < n_z.toNat → legal (cdm T m x_z k_z) (scan (cdm T m x_z) k_z)) (hn : n_z < 160) (hP : Par (cdm T m x_z) j_z q_z) (hq : (q_z : Int) < n_z) (h_z : Q (some (a_i (q_z : Int))) T) : ∀ (f_z k_z : Nat), q_z - k_z = f_z → j_z ≤ k_z → k_z ≤ q_z → At G 239 4 [a_r m, a_i (j_z : Int), a_i ((nrp (scan (cdm T m x_z) (k_z + 1)).1 : Int) - nrp (scan (cdm T m x_z) j_z).1), a_i (k_z : Int)] [] T Q := by
  intro f_z
  induction f_z with
  | zero =>
    intro k_z hf k0_z k1_z
    have : k_z = q_z := by omega
    subst this
    have e_z : (nrp (scan (cdm T m x_z) (k_z + 1)).1 : Int) - nrp (scan (cdm T m x_z) j_z).1 = 0 := by
      have e1_z : scan (cdm T m x_z) (k_z + 1) = stepF (cdm T m x_z k_z) k_z (scan (cdm T m x_z) k_z) := rfl
      rw [e1_z, hP.2.1, stepF_next, hP.2.2]
      show ((nrp (scan (cdm T m x_z) j_z).1 : Nat) : Int) - _ = 0
      omega
    rw [e_z, B_239_4]
    simp (disch := omega) only [B_239_46, inI, inL, isT, kInt, kByt, true_and, and_true, an_t, im_t, im_f, or_true, true_or, true_imp_iff, false_imp_iff, not_true_eq_false, not_false_eq_true, gK_uI, gK_uL, gK_uR, gK_uCI, gK_uCL, gN_uI, gN_uL, gN_uR, gN_uCI, gN_uCL, gR_uI, gR_uL, gR_uCI, gR_uCL, gI_uL, gI_uR, gI_uCL, gL_uI, gL_uR, gL_uCI, gz_uI, gz_uL, gz_uR, gz_uCI, gz_uCL, gs_uI, gs_uL, gs_uR, gs_uCI, gs_uCL, rI_at, rL_at, rR_at, rI_ne, rL_ne, rR_ne, rI_nk, rL_nk, rR_nk, rI_eq, rL_eq, rR_eq, Option.toList_some, Option.toList_none, List.cons_append, List.nil_append, List.append_nil, zc_eq, zc_lt, zc_le, zc_ge, zc_gt]
    all_goals exact h_z
  | succ f_z ih_z =>
    intro k_z hf k0_z k1_z
    obtain ⟨X_z, hX⟩ := par_mid hP (q_z - (k_z + 1)) (k_z + 1) (by omega) (by omega)
    have hb_z := (hst hwf (k_z + 1) (by omega)).2.2
    have hb2 := (hst hwf j_z (by omega)).2.2
    have hb3 := (hst hwf (k_z + 2) (by omega)).2.2
    have e1_z : nrp (scan (cdm T m x_z) (k_z + 1)).1 = nrp X_z + (nrp (scan (cdm T m x_z) j_z).1 + 1) := by
      rw [hX, nrp_app]
      rfl
    have e2_z := nrp_step (hwf (k_z + 1) (by omega))
    have hT_z := fun qq => X_tokenAt (G := G) (Q := qq) (M := T) (m := m) (k_z := (k_z : Int) + 1) hs (by omega) (by omega) (by rw [hl, hx]; omega) (by rw [hl, hx]; omega) (by omega) (by omega)
    have et : gI T (m + 1) (161 * gI T (m + 17) (gI T m 36) + 1 + ((k_z : Int) + 1)) = cdm T m x_z (k_z + 1) := by
      unfold cdm
      rw [hl, hx]
      rfl
    rw [et] at hT_z
    have hh := ih_z (k_z + 1) (by omega) (by omega) (by omega)
    rw [show ((k_z + 1 : Nat) : Int) = (k_z : Int) + 1 from by omega, show k_z + 1 + 1 = k_z + 2 from rfl] at hh
    rw [show k_z + 1 + 1 = k_z + 2 from rfl] at e2_z
    have F1_z : 1 ≤ (nrp (scan (cdm T m x_z) (k_z + 1)).1 : Int) - nrp (scan (cdm T m x_z) j_z).1 ∧ (nrp (scan (cdm T m x_z) (k_z + 1)).1 : Int) - nrp (scan (cdm T m x_z) j_z).1 ≤ 3 := by omega
    generalize (nrp (scan (cdm T m x_z) (k_z + 2)).1 : Int) = n2_z at *
    generalize hn1 : (nrp (scan (cdm T m x_z) (k_z + 1)).1 : Int) = n1_z at *
    generalize (nrp (scan (cdm T m x_z) j_z).1 : Int) = n0_z at *
    generalize cdm T m x_z (k_z + 1) = cd at *
    rw [B_239_4]
    by_cases c14_z : cd = 14
    · rw [if_pos c14_z] at e2_z
      rw [show n2_z - n0_z = n1_z - n0_z + 1 from by omega] at hh
      simp (disch := omega) only [hs.u, hT_z, B_239_17, B_239_41, c14_z, not_true_eq_false, inI, inL, isT, kInt, kByt, true_and, and_true, an_t, im_t, im_f, or_true, true_or, true_imp_iff, false_imp_iff, not_true_eq_false, not_false_eq_true, gK_uI, gK_uL, gK_uR, gK_uCI, gK_uCL, gN_uI, gN_uL, gN_uR, gN_uCI, gN_uCL, gR_uI, gR_uL, gR_uCI, gR_uCL, gI_uL, gI_uR, gI_uCL, gL_uI, gL_uR, gL_uCI, gz_uI, gz_uL, gz_uR, gz_uCI, gz_uCL, gs_uI, gs_uL, gs_uR, gs_uCI, gs_uCL, rI_at, rL_at, rR_at, rI_ne, rL_ne, rR_ne, rI_nk, rL_nk, rR_nk, rI_eq, rL_eq, rR_eq, Option.toList_some, Option.toList_none, List.cons_append, List.nil_append, List.append_nil, zc_eq, zc_lt, zc_le, zc_ge, zc_gt]
      all_goals exact hh
    · rw [if_neg c14_z] at e2_z
      by_cases c15_z : cd = 15
      · rw [if_pos c15_z] at e2_z
        rw [show n2_z - n0_z = n1_z - n0_z + -1 from by omega] at hh
        simp (disch := omega) only [hs.u, hT_z, B_239_17, B_239_26, B_239_31, B_239_41, c15_z, not_true_eq_false, inI, inL, isT, kInt, kByt, true_and, and_true, an_t, im_t, im_f, or_true, true_or, true_imp_iff, false_imp_iff, not_true_eq_false, not_false_eq_true, gK_uI, gK_uL, gK_uR, gK_uCI, gK_uCL, gN_uI, gN_uL, gN_uR, gN_uCI, gN_uCL, gR_uI, gR_uL, gR_uCI, gR_uCL, gI_uL, gI_uR, gI_uCL, gL_uI, gL_uR, gL_uCI, gz_uI, gz_uL, gz_uR, gz_uCI, gz_uCL, gs_uI, gs_uL, gs_uR, gs_uCI, gs_uCL, rI_at, rL_at, rR_at, rI_ne, rL_ne, rR_ne, rI_nk, rL_nk, rR_nk, rI_eq, rL_eq, rR_eq, Option.toList_some, Option.toList_none, List.cons_append, List.nil_append, List.append_nil, zc_eq, zc_lt, zc_le, zc_ge, zc_gt]
        all_goals exact hh
      · rw [if_neg c15_z] at e2_z
        rw [show n2_z - n0_z = n1_z - n0_z + 0 from by omega] at hh
        simp (disch := omega) only [hs.u, hT_z, B_239_17, B_239_26, B_239_31, B_239_40, B_239_41, c14_z, c15_z, not_false_eq_true, inI, inL, isT, kInt, kByt, true_and, and_true, an_t, im_t, im_f, or_true, true_or, true_imp_iff, false_imp_iff, not_true_eq_false, not_false_eq_true, gK_uI, gK_uL, gK_uR, gK_uCI, gK_uCL, gN_uI, gN_uL, gN_uR, gN_uCI, gN_uCL, gR_uI, gR_uL, gR_uCI, gR_uCL, gI_uL, gI_uR, gI_uCL, gL_uI, gL_uR, gL_uCI, gz_uI, gz_uL, gz_uR, gz_uCI, gz_uCL, gs_uI, gs_uL, gs_uR, gs_uCI, gs_uCL, rI_at, rL_at, rR_at, rI_ne, rL_ne, rR_ne, rI_nk, rL_nk, rR_nk, rI_eq, rL_eq, rR_eq, Option.toList_some, Option.toList_none, List.cons_append, List.nil_append, List.append_nil, zc_eq, zc_lt, zc_le, zc_ge, zc_gt]
        all_goals exact hh
theorem X_nextOf {d_z j_z q_z : Nat} {x_z n_z : Int} (hs : ShM T m) (hl : gI T m 36 = (d_z : Int)) (l1 : d_z < 5) (hx : gI T (m + 17) d_z = x_z) (x0_z : 0 ≤ x_z) (x1_z : x_z ≤ 6) (hwf : ∀ k_z, k_z < n_z.toNat → legal (cdm T m x_z k_z) (scan (cdm T m x_z) k_z)) (hn : n_z < 160) (hP : Par (cdm T m x_z) j_z q_z) (hq : (q_z : Int) < n_z) (h_z : Q (some (a_i (q_z : Int))) T) : Call G J_M_nextOf [a_r m, a_i (j_z : Int)] T Q := by
  have hh := nextOf_loop (G := G) hs hl l1 hx x0_z x1_z hwf hn hP hq h_z (q_z - j_z) j_z rfl (Nat.le_refl _) (Nat.le_of_lt hP.1)
  have hst1 := (hst hwf q_z (by omega)).1
  rw [hP.2.2] at hst1
  have e_z : (nrp (scan (cdm T m x_z) (j_z + 1)).1 : Int) - nrp (scan (cdm T m x_z) j_z).1 = 1 := by
    rw [hst1.2.2.1]
    show ((nrp (scan (cdm T m x_z) j_z).1 + 1 : Nat) : Int) - _ = 1
    omega
  rw [e_z] at hh
  rw [E_M_nextOf, B_239_0]
  exact hh
theorem X_repeats0 {d_z q_z : Nat} {x_z n_z tk : Int} (hs : ShM T m) (hl : gI T m 36 = (d_z : Int)) (l1 : d_z < 5) (hx : gI T (m + 17) d_z = x_z) (x0_z : 0 ≤ x_z) (x1_z : x_z ≤ 6) (hwf : ∀ k_z, k_z < n_z.toNat → legal (cdm T m x_z k_z) (scan (cdm T m x_z) k_z)) (hn : n_z < 160) (hpc : gI T (m + 18) d_z = tk) (t0_z : 0 ≤ tk) (hP : Par (cdm T m x_z) tk.toNat q_z) (hq : (q_z : Int) < n_z) (h_z : Q none (uI T (m + 18) d_z (q_z : Int))) : Call G J_M_repeats [a_r m, a_i 0] T Q := by
  have hN_z : Call G J_M_nextOf [a_r m, a_i tk] T (fun r M2_z => At G 238 25 [a_r m, a_i 0, a_u] (r.toList ++ [a_i (d_z : Int), a_r (m + 18)]) M2_z Q) := by
    have := X_nextOf (G := G) (Q := fun r M2_z => At G 238 25 [a_r m, a_i 0, a_u] (r.toList ++ [a_i (d_z : Int), a_r (m + 18)]) M2_z Q) hs hl l1 hx x0_z x1_z hwf hn hP hq (by
      simp (disch := omega) only [B_238_25, B_238_83, hs.u, inI, inL, isT, kInt, kByt, true_and, and_true, an_t, im_t, im_f, or_true, true_or, true_imp_iff, false_imp_iff, not_true_eq_false, not_false_eq_true, gK_uI, gK_uL, gK_uR, gK_uCI, gK_uCL, gN_uI, gN_uL, gN_uR, gN_uCI, gN_uCL, gR_uI, gR_uL, gR_uCI, gR_uCL, gI_uL, gI_uR, gI_uCL, gL_uI, gL_uR, gL_uCI, gz_uI, gz_uL, gz_uR, gz_uCI, gz_uCL, gs_uI, gs_uL, gs_uR, gs_uCI, gs_uCL, rI_at, rL_at, rR_at, rI_ne, rL_ne, rR_ne, rI_nk, rL_nk, rR_nk, rI_eq, rL_eq, rR_eq, Option.toList_some, Option.toList_none, List.cons_append, List.nil_append, List.append_nil, zc_eq, zc_lt, zc_le, zc_ge, zc_gt]
      exact h_z)
    rw [Int.toNat_of_nonneg t0_z] at this
    exact this
  simp (disch := omega) only [E_M_repeats, B_238_0, hs.u, hl, hpc, not_true_eq_false, inI, inL, isT, kInt, kByt, true_and, and_true, an_t, im_t, im_f, or_true, true_or, true_imp_iff, false_imp_iff, not_true_eq_false, not_false_eq_true, gK_uI, gK_uL, gK_uR, gK_uCI, gK_uCL, gN_uI, gN_uL, gN_uR, gN_uCI, gN_uCL, gR_uI, gR_uL, gR_uCI, gR_uCL, gI_uL, gI_uR, gI_uCL, gL_uI, gL_uR, gL_uCI, gz_uI, gz_uL, gz_uR, gz_uCI, gz_uCL, gs_uI, gs_uL, gs_uR, gs_uCI, gs_uCL, rI_at, rL_at, rR_at, rI_ne, rL_ne, rR_ne, rI_nk, rL_nk, rR_nk, rI_eq, rL_eq, rR_eq]
  exact hN_z
theorem X_repeats1 {d_z : Nat} {v_z tk w_z : Int} (hs : ShM T m) (hl : gI T m 36 = (d_z : Int)) (l1 : d_z < 5) (hpc : gI T (m + 18) d_z = tk) (hw : gI T (m + 22) d_z = w_z) (w0_z : 0 ≤ w_z) (w1_z : w_z < 3) (v0_z : 0 < v_z) (v1_z : v_z ≤ 9) (h_z : Q none (uI (uI (uI T (m + 23) (3 * d_z + w_z) tk) (m + 24) (3 * d_z + w_z) (v_z - 1)) (m + 22) d_z (w_z + 1))) : Call G J_M_repeats [a_r m, a_i v_z] T Q := by
  simp (disch := omega) only [E_M_repeats, B_238_0, B_238_25, B_238_29, B_238_70, B_238_83, hs.u, hl, hpc, hw, inI, inL, isT, kInt, kByt, true_and, and_true, an_t, im_t, im_f, or_true, true_or, true_imp_iff, false_imp_iff, not_true_eq_false, not_false_eq_true, gK_uI, gK_uL, gK_uR, gK_uCI, gK_uCL, gN_uI, gN_uL, gN_uR, gN_uCI, gN_uCL, gR_uI, gR_uL, gR_uCI, gR_uCL, gI_uL, gI_uR, gI_uCL, gL_uI, gL_uR, gL_uCI, gz_uI, gz_uL, gz_uR, gz_uCI, gz_uCL, gs_uI, gs_uL, gs_uR, gs_uCI, gs_uCL, rI_at, rL_at, rR_at, rI_ne, rL_ne, rR_ne, rI_nk, rL_nk, rR_nk, rI_eq, rL_eq, rR_eq, Option.toList_some, Option.toList_none, List.cons_append, List.nil_append, List.append_nil, zc_eq, zc_lt, zc_le, zc_ge, zc_gt]
  all_goals exact h_z
theorem X_doesR {d_z : Nat} {w_z v_z : Int} (hs : ShM T m) (hl : gI T m 36 = (d_z : Int)) (hw : gI T (m + 19) d_z = w_z) (l1 : d_z < 5) (w0_z : 1 ≤ w_z) (w1_z : w_z ≤ 16) (hv : gI T (m + 20) (16 * d_z + w_z - 1) = v_z) (h_z : Call G J_M_repeats [a_r m, a_i v_z] (uI T (m + 19) d_z (w_z - 1)) (fun r M2_z => At G 228 335 [a_r m, a_i 14, a_i 1, a_i v_z, a_i v_z, a_u] r.toList M2_z Q)) : Call G J_M_does [a_r m, a_i 14] T Q := by
  have n17 := fun qq => X_needed (G := G) (T := T) (Q := qq) (k_z := 14) (by omega) (by omega)
  rw [show need 14 = 1 from by decide] at n17
  have tt := fun qq => X_topE (G := G) (Q := qq) (M := T) (m := m) (k_z := 0) hs hl hw (by omega) (by omega) (by omega) (by omega) (by omega) (by omega)
  rw [Int.sub_zero] at tt
  simp (disch := omega) only [E_M_does, B_228_0, n17, B_228_4, B_228_19, tt, hv, hs.u, B_228_24, B_228_54, B_228_55, Y_inF (x_z := 14) (y_z := 16) (w_z := 18) (by omega), B_228_65, B_228_74, B_228_330, hl, hw, not_true_eq_false, inI, inL, isT, kInt, kByt, true_and, and_true, an_t, im_t, im_f, or_true, true_or, true_imp_iff, false_imp_iff, not_true_eq_false, not_false_eq_true, gK_uI, gK_uL, gK_uR, gK_uCI, gK_uCL, gN_uI, gN_uL, gN_uR, gN_uCI, gN_uCL, gR_uI, gR_uL, gR_uCI, gR_uCL, gI_uL, gI_uR, gI_uCL, gL_uI, gL_uR, gL_uCI, gz_uI, gz_uL, gz_uR, gz_uCI, gz_uCL, gs_uI, gs_uL, gs_uR, gs_uCI, gs_uCL, rI_at, rL_at, rR_at, rI_ne, rL_ne, rR_ne, rI_nk, rL_nk, rR_nk, rI_eq, rL_eq, rR_eq, Option.toList_some, Option.toList_none, List.cons_append, List.nil_append, List.append_nil, zc_eq, zc_lt, zc_le, zc_ge, zc_gt]
  all_goals exact h_z
theorem op_repeat {E_z i_z x_z n_z tk : Int} {d_z p_z : Nat} (h_z : Rel G M T c s m E_z) (hd_z : gI M c 11 = (d_z : Int)) (hx : gI M (c + 22 + 4 * d_z) 4 = x_z - 1) (htk : gI M (c + 22 + 4 * d_z) 5 = tk) (hp : gR M (c + 22 + 4 * d_z) 3 = p_z) (hn : gI M p_z 3 = n_z) (hlt : tk < n_z) (hop : gR M (p_z + 1) tk = G.2 (3 + 14)) (i0_z : 0 ≤ i_z) (i1_z : i_z + 1 < 1000000) (hN_z : Nxt G c s m M E_z i_z Q) (hEr : Err G c s m M E_z Q) : HC G c s i_z M Q := by
  refine op_pre (k_z := 14) h_z hd_z hx htk hp hn hlt (by decide) (by decide) hop i0_z i1_z hEr (fun hb_z hw hg => ?_)
  have h0 := h_z
  obtain ⟨r1_z, r2, r3, ⟨r4, r5_z, r6, r7⟩, r8, r9, r10, r11, r12, r13, ⟨r14, r15, r16⟩, r17⟩ := h_z
  obtain ⟨g1, g2, g3_z, w0_z, w1_z, g6⟩ := h0.opn hd_z
  have nd : need ((14 : Nat) : Int) = 1 := by decide
  rw [nd] at hw
  have hs1 : ShMa (uI M (c + 22 + 4 * d_z) 5 (tk + 1)) c := r1_z
  have ho1 : OpF G (uI M (c + 22 + 4 * d_z) 5 (tk + 1)) := OpF.out r3 ((OutC.refl c M).uI _ _ (by omega)) r6 r4
  have f2_z : ShFr (uI M (c + 22 + 4 * d_z) 5 (tk + 1)) (c + 22 + 4 * d_z) := (r1_z.2.2.2.1 d_z g1).2
  have e13_z : gI (uI M (c + 22 + 4 * d_z) 5 (tk + 1)) c 13 = gI M c 13 := by rw [rI_ne (by omega)]
  have es6 : gI (uI M (c + 22 + 4 * d_z) 5 (tk + 1)) s 6 = gI M s 6 := by rw [rI_ne (by omega)]
  have ew : gI (uI M (c + 22 + 4 * d_z) 5 (tk + 1)) (c + 22 + 4 * d_z) 6 = gI M (c + 22 + 4 * d_z) 6 := by rw [rI_nk (by decide)]
  have hK4 : gK (uI M (c + 22 + 4 * d_z) 5 (tk + 1)) s = 4 := r8.1.1
  generalize hwd : gI M (c + 22 + 4 * d_z) 6 = w_z at *
  have hv1 : ∀ i_z, 0 ≤ i_z → i_z < w_z → NV (gL (uI M (c + 22 + 4 * d_z) 5 (tk + 1)) (c + 22 + 4 * d_z + 1) i_z) ∨ fd (gL (uI M (c + 22 + 4 * d_z) 5 (tk + 1)) (c + 22 + 4 * d_z + 1) i_z) = 0 := fun i_z i0_z i1_z => by
    rcases (g6 i_z i0_z i1_z).2.2 with q_z | q_z
    · exact Or.inl q_z
    · exact Or.inr q_z.1
  have hg := hg (by omega)
  have nva := hg 0 (by omega) (by rw [nd]; omega)
  rw [Int.sub_zero] at nva
  generalize ha_z : gL M (c + 22 + 4 * d_z + 1) (w_z - 1) = va at *
  have hP0 := fun qq => X_peek (G := G) (Q := qq) (x_z := 0) f2_z (by decide) (by omega) (by omega)
  have hR := fun qq => X_remove (G := G) (Q := qq) (x_z := 1) f2_z (by decide) (by omega) (by omega)
  rw [ew, Int.sub_zero] at hP0
  rw [ew] at hR
  have ha' : gL (uI M (c + 22 + 4 * d_z) 5 (tk + 1)) (c + 22 + 4 * d_z + 1) (w_z - 1) = va := ha_z
  rw [ha'] at hP0
  have hNu := fun qq => X_numerator (G := G) (Q := qq) (M := uI M (c + 22 + 4 * d_z) 5 (tk + 1)) (p_z := va) ⟨by have := nva.1; omega, by have := nva.2.1; omega⟩
  have hIn := fun qq => X_isIntUpTo (G := G) (Q := qq) (M := uI M (c + 22 + 4 * d_z) 5 (tk + 1)) (p_z := va) (x_z := 9) (by have := nva.2.2.2; omega) ⟨by have := nva.1; omega, by have := nva.2.1; omega⟩
  have mod : ∀ T', Rel G M T' c s m E_z → ShM T' m ∧ gI T' m 36 = (d_z : Int) ∧ gI T' (m + 19) d_z = w_z ∧ gI T' m 49 ≠ gI T' (m + 1) 1215 ∧ gI T' (m + 20) (16 * d_z + w_z - 1) = fu va ∧ gI T' (m + 21) (16 * d_z + w_z - 1) = fd va ∧ (∀ qq : Option AV → Mem → Prop, qq (some (a_i (zB (fd va = 1 ∧ 0 ≤ fu va ∧ fu va ≤ 9)))) T' → Call G J_M_areOperands [a_r m, a_i ((14 : Nat) : Int)] T' qq) ∧ ∀ i_z : Int, 0 ≤ i_z → i_z < w_z → OpR (gI T' (m + 20) (16 * d_z + i_z)) (gI T' (m + 21) (16 * d_z + i_z)) (gL M (c + 22 + 4 * d_z + 1) i_z) := by
    intro T' h'
    obtain ⟨k1_z, k2_z, k3_z, -, -, k6_z⟩ := h'.opn hd_z
    obtain ⟨q1_z, q2_z, q3_z, -, q8_z, q9_z, -⟩ := h'
    have hb' : gI T' m 49 ≠ gI T' (m + 1) 1215 := by
      have := q9_z.1
      have := q8_z.2.2.2.2.2.2.1
      omega
    rw [hwd] at k3_z k6_z
    have oa := k6_z (w_z - 1) (by omega) (by omega)
    rw [ha_z, show (16 : Int) * d_z + (w_z - 1) = 16 * d_z + w_z - 1 from by omega] at oa
    refine ⟨q2_z, k2_z, k3_z, hb', oa.1, oa.2.1, fun qq hqq => ?_, k6_z⟩
    have hI := fun qq => X_isInteger (G := G) (M := T') (Q := qq) (x_z := 0) (y_z := 9) q2_z k2_z k3_z (by omega) (by omega) (by omega) (by omega)
    rw [oa.1, oa.2.1] at hI
    have hN_z := fun qq => X_needed (G := G) (T := T') (Q := qq) (k_z := 14) (by decide) (by decide)
    rw [show need 14 = 1 from by decide] at hN_z
    generalize hzz : zB (fd va = 1 ∧ 0 ≤ fu va ∧ fu va ≤ 9) = zz at *
    have z01 : zz = 0 ∨ zz = 1 := by
      rw [← hzz]
      exact isT_zB
    simp (disch := omega) only [E_M_areOperands, B_207_0, Int.cast_ofNat_Int, hN_z, B_207_4, B_207_20, B_207_92, B_207_99, q2_z.u, k2_z, k3_z, hI, inI, inL, isT, kInt, kByt, true_and, and_true, an_t, im_t, im_f, or_true, true_or, true_imp_iff, false_imp_iff, not_true_eq_false, not_false_eq_true, gK_uI, gK_uL, gK_uR, gK_uCI, gK_uCL, gN_uI, gN_uL, gN_uR, gN_uCI, gN_uCL, gR_uI, gR_uL, gR_uCI, gR_uCL, gI_uL, gI_uR, gI_uCL, gL_uI, gL_uR, gL_uCI, gz_uI, gz_uL, gz_uR, gz_uCI, gz_uCL, gs_uI, gs_uL, gs_uR, gs_uCI, gs_uCL, rI_at, rL_at, rR_at, rI_ne, rL_ne, rR_ne, rI_nk, rL_nk, rR_nk, rI_eq, rL_eq, rR_eq, Option.toList_some, Option.toList_none, List.cons_append, List.nil_append, List.append_nil, zc_eq, zc_lt, zc_le, zc_ge, zc_gt]
    all_goals exact hqq
  by_cases cI : fd va = 1 ∧ 0 ≤ fu va ∧ fu va ≤ 9
  · rw [zB_t cI] at hIn
    obtain ⟨ci1, ci2, ci3⟩ := cI
    generalize hv : fu va = v_z at *
    -- the class, up to the loop
    have cls_z : ∀ qq : Option AV → Mem → Prop, Call G J_Fr_beginLoop [a_r (c + 22 + 4 * d_z), a_i tk, a_i v_z] (uI (uI M (c + 22 + 4 * d_z) 5 (tk + 1)) (c + 22 + 4 * d_z) 6 (w_z - 1)) (fun r M2_z => r = none ∧ qq (some (a_i 0)) M2_z) → Call G J_Ma_perform [a_r c, a_r (G.2 (3 + 14)), a_r (c + 22 + 4 * d_z), a_i tk] (uI M (c + 22 + 4 * d_z) 5 (tk + 1)) qq := by
      intro qq hh
      refine perf_go (k_z := 14) hs1 ho1 r5_z hK4 f2_z (by decide) (by rw [e13_z, es6]; exact hb_z) ew w0_z w1_z hv1 (by rw [nd]; exact hw) (fun q_z => hg) ?_
      have sm_z := ho1.1
      have s17 : gI (uI M (c + 22 + 4 * d_z) 5 (tk + 1)) (G.2 1) 14 = 2 := sm_z.2.2 14 (by decide)
      rw [B_86_33]
      simp (disch := omega) only [sm_z.1, sm_z.2.1, s17, Int.cast_ofNat_Int, B_86_226, hs1.1.u, E_Ma_repeat, B_121_0, f2_z.u, hP0, B_121_5, hIn, B_121_10, B_121_15, B_121_20, hNu, B_121_23, hR, B_121_29, inI, inL, isT, kInt, kByt, true_and, and_true, an_t, im_t, im_f, or_true, true_or, true_imp_iff, false_imp_iff, not_true_eq_false, not_false_eq_true, gK_uI, gK_uL, gK_uR, gK_uCI, gK_uCL, gN_uI, gN_uL, gN_uR, gN_uCI, gN_uCL, gR_uI, gR_uL, gR_uCI, gR_uCL, gI_uL, gI_uR, gI_uCL, gL_uI, gL_uR, gL_uCI, gz_uI, gz_uL, gz_uR, gz_uCI, gz_uCL, gs_uI, gs_uL, gs_uR, gs_uCI, gs_uCL, rI_at, rL_at, rR_at, rI_ne, rL_ne, rR_ne, rI_nk, rL_nk, rR_nk, rI_eq, rL_eq, rR_eq, Option.toList_some, Option.toList_none, List.cons_append, List.nil_append, List.append_nil, zc_eq, zc_lt, zc_le, zc_ge, zc_gt]
      refine Call.weak hh (fun r M2_z hq => ?_)
      obtain ⟨eq, hq⟩ := hq
      subst eq
      simp (disch := omega) only [B_121_35, B_86_232, inI, inL, isT, kInt, kByt, true_and, and_true, an_t, im_t, im_f, or_true, true_or, true_imp_iff, false_imp_iff, not_true_eq_false, not_false_eq_true, gK_uI, gK_uL, gK_uR, gK_uCI, gK_uCL, gN_uI, gN_uL, gN_uR, gN_uCI, gN_uCL, gR_uI, gR_uL, gR_uCI, gR_uCL, gI_uL, gI_uR, gI_uCL, gL_uI, gL_uR, gL_uCI, gz_uI, gz_uL, gz_uR, gz_uCI, gz_uCL, gs_uI, gs_uL, gs_uR, gs_uCI, gs_uCL, rI_at, rL_at, rR_at, rI_ne, rL_ne, rR_ne, rI_nk, rL_nk, rR_nk, rI_eq, rL_eq, rR_eq, Option.toList_some, Option.toList_none, List.cons_append, List.nil_append, List.append_nil, zc_eq, zc_lt, zc_le, zc_ge, zc_gt]
      exact hq
    have wrg : ∀ T', Rel G M T' c s m E_z → ∀ qq : Option AV → Mem → Prop, (∀ T1, Sy T' T1 m → T1 = uI T' m 16 0 → qq (some (a_i 0)) T1) → Call G J_M_wrong [a_r m, a_i ((14 : Nat) : Int)] T' qq := by
      intro T' h' qq hqq
      obtain ⟨m1_z, m2_z, m3_z, m4_z, m5_z, m6_z, m7_z, -⟩ := mod T' h'
      rw [zB_t ⟨ci1, ci2, ci3⟩] at m7_z
      refine wr_plain (x_z := x_z) (n_z := n_z) (tk := tk) (p_z := p_z) h' hd_z hb_z (by decide) (by decide) m7_z (fun q_z hq => ?_) (hqq _ (sy_fl0 _ _) rfl)
      simp (disch := omega) only [E_M_isTooMuch, B_215_0, B_215_399, Int.cast_ofNat_Int, inI, inL, isT, kInt, kByt, true_and, and_true, an_t, im_t, im_f, or_true, true_or, true_imp_iff, false_imp_iff, not_true_eq_false, not_false_eq_true, gK_uI, gK_uL, gK_uR, gK_uCI, gK_uCL, gN_uI, gN_uL, gN_uR, gN_uCI, gN_uCL, gR_uI, gR_uL, gR_uCI, gR_uCL, gI_uL, gI_uR, gI_uCL, gL_uI, gL_uR, gL_uCI, gz_uI, gz_uL, gz_uR, gz_uCI, gz_uCL, gs_uI, gs_uL, gs_uR, gs_uCI, gs_uCL, rI_at, rL_at, rR_at, rI_ne, rL_ne, rR_ne, rI_nk, rL_nk, rR_nk, rI_eq, rL_eq, rR_eq, Option.toList_some, Option.toList_none, List.cons_append, List.nil_append, List.append_nil, zc_eq, zc_lt, zc_le, zc_ge, zc_gt]
      all_goals exact hq
    -- the stream there
    have str_z : ∀ T', Rel G M T' c s m E_z → ∃ L_z : Stk, Top G M T' s m (c + 22 + 4 * d_z) d_z x_z n_z tk p_z ∧ cdm T' m x_z tk.toNat = 14 ∧ scan (cdm T' m x_z) tk.toNat = (L_z, false) ∧ scan (cdm T' m x_z) (tk.toNat + 1) = ((true, tk.toNat) :: L_z, false) ∧ nrp L_z < 3 ∧ WfP (cdm T' m x_z) n_z.toNat ∧ FrL M T' s m (c + 22 + 4 * d_z) d_z tk ∧ LpO L_z (gI M (c + 22 + 4 * d_z) 7) (fun i_z => gI T' (m + 23) (3 * d_z + i_z)) ∧ (∃ q_z : Nat, (q_z : Int) < n_z ∧ gI M (p_z + 3) tk = (q_z : Int) ∧ Par (cdm T' m x_z) tk.toNat q_z) ∧ sc M T' m (c + 22 + 4 * d_z) d_z = (L_z, false) := by
      intro T' h'
      obtain ⟨b1, b2, b3, b4⟩ := h'.code hd_z hx htk hp hn hlt (k_z := 14) (by decide) hop
      obtain ⟨-, pg⟩ := h'.topM hd_z hx htk hp hn
      obtain ⟨-, -, -, -, -, -, q10_z, -⟩ := h'
      obtain ⟨k1_z, k2_z, kF, kP_z⟩ := q10_z.get hd_z
      have u_z := b1
      obtain ⟨u1_z, u2_z, u3, u4_z, u5, u6, u7, u8, u9, u10, u11, u12, u13, u14, u15, u16, u17⟩ := u_z
      rw [u10] at kF
      obtain ⟨-, -, hl14, -⟩ := b3
      obtain ⟨z1, z2⟩ := hl14 rfl
      have hsc : sc M T' m (c + 22 + 4 * d_z) d_z = scan (cdm T' m x_z) tk.toNat := by unfold sc; rw [u3, u9]
      rw [hsc] at z1 z2
      have hs0 : scan (cdm T' m x_z) tk.toNat = ((scan (cdm T' m x_z) tk.toNat).1, false) := by rw [← z1]
      have hs2 : scan (cdm T' m x_z) (tk.toNat + 1) = ((true, tk.toNat) :: (scan (cdm T' m x_z) tk.toNat).1, false) := by
        show stepF (cdm T' m x_z tk.toNat) tk.toNat (scan (cdm T' m x_z) tk.toNat) = _
        rw [b2]
        unfold stepF
        rw [if_neg (by decide), if_pos (by decide), z1]
      have kF0 := kF
      obtain ⟨-, -, -, -, -, -, -, m8_z⟩ := kF
      rw [u3] at m8_z
      obtain ⟨-, -, -, -, -, -, pq_z⟩ := pg
      obtain ⟨q_z, y1, y2, y3⟩ := pq_z tk.toNat (by omega) b2
      rw [Int.toNat_of_nonneg u11] at y2
      exact ⟨_, b1, b2, hs0, hs2, z2, b4, kF0, m8_z, ⟨q_z, by omega, y2, y3⟩, by rw [hsc]; exact hs0⟩
    obtain ⟨L0_z, ht0, -, -, -, l3, -, F0_z, lp0, ⟨q0, y1, y2, y3⟩, -⟩ := str_z T h0
    have l7 := lp0.num
    obtain ⟨-, -, -, -, -, -, F7, -⟩ := F0_z
    obtain ⟨t1_z, t2_z, t3_z, t4_z, t5_z, t6, t7, t8, t9, t10, t11, t12, t13, t14, t15, t16, t17⟩ := ht0
    have f3_z : ShFr (uI (uI M (c + 22 + 4 * d_z) 5 (tk + 1)) (c + 22 + 4 * d_z) 6 (w_z - 1)) (c + 22 + 4 * d_z) := f2_z
    have pgs : ShPg (uI (uI M (c + 22 + 4 * d_z) 5 (tk + 1)) (c + 22 + 4 * d_z) 6 (w_z - 1)) p_z := by
      have hrp := r7 x_z (by omega) (by omega)
      have e0_z := (r10.2.1 d_z (by omega)).2.1.1
      rw [t3_z, t7] at e0_z
      rw [← e0_z] at hrp
      have hpp := hrp.resolve_left t14
      unfold ShPg ShPgx
      rw [rI_ne (by omega), rI_ne (by omega)]
      exact t15
    have hrp2 : c + 147 ≤ p_z := by
      have hrp := r7 x_z (by omega) (by omega)
      have e0_z := (r10.2.1 d_z (by omega)).2.1.1
      rw [t3_z, t7] at e0_z
      rw [← e0_z] at hrp
      exact hrp.resolve_left t14
    generalize hlw : gI M (c + 22 + 4 * d_z) 7 = lw at *
    by_cases cv : v_z = 0
    · -- no times: on behind the next
      have ep : gI (uI (uI M (c + 22 + 4 * d_z) 5 (tk + 1)) (c + 22 + 4 * d_z) 6 (w_z - 1)) (p_z + 3) tk = (q0 : Int) := by
        rw [rI_ne (by omega), rI_ne (by omega)]
        exact y2
      have ep3 : gI (uI (uI M (c + 22 + 4 * d_z) 5 (tk + 1)) (c + 22 + 4 * d_z) 6 (w_z - 1)) p_z 3 = n_z := by
        rw [rI_ne (by omega), rI_ne (by omega)]
        exact t16
      have hB_z := fun qq => X_beginLoop0 (G := G) (Q := qq) (x_z := tk) (t_z := v_z) f3_z t7 pgs t11 (by omega) (by omega) (by omega) (by omega)
      rw [ep] at hB_z
      refine op_okF (wk_z := 200 * lft (gI M (c + 22 + 4 * d_z + 3)) lw + (n_z - (q0 + 1)) + 1) (Mp := uI (uI (uI M (c + 22 + 4 * d_z) 5 (tk + 1)) (c + 22 + 4 * d_z) 6 (w_z - 1)) (c + 22 + 4 * d_z) 5 (q0 + 1)) (PT_z := fun T' T1 => T1 = uI T' m 16 0) h0 hd_z hx htk hp hn hlt (by decide) (by decide) hop i0_z i1_z hb_z hN_z (fun qq hqq => cls_z qq ((hB_z _).mpr ⟨rfl, hqq⟩)) ((((Ex.refl _ M).uI _ _ (by omega)).uI _ _ (by omega)).uI _ _ (by omega)) (by simp (disch := omega) only [gK_uI, gK_uL, gK_uR, gK_uCI, gK_uCL, gN_uI, gN_uL, gN_uR, gN_uCI, gN_uCL, gR_uI, gR_uL, gR_uCI, gR_uCL, gI_uL, gI_uR, gI_uCL, gL_uI, gL_uR, gL_uCI, gz_uI, gz_uL, gz_uR, gz_uCI, gz_uCL, gs_uI, gs_uL, gs_uR, gs_uCI, gs_uCL, rI_at, rL_at, rR_at, rI_ne, rL_ne, rR_ne, rI_nk, rL_nk, rR_nk, rI_eq, rL_eq, rR_eq]) (by rw [hlw]; have := y3.1; omega) wrg (fun T' h' T1 hy hPT => ?_)
      subst hPT
      obtain ⟨m1_z, m2_z, m3_z, m4_z, m5_z, m6_z, m7_z, k6_z⟩ := mod T' h'
      obtain ⟨L_z, b1, b2, b3, b4, b5, b6, b7, b8, ⟨q', z1, z2, z3⟩, b10⟩ := str_z T' h'
      have qe : q' = q0 := by omega
      subst qe
      obtain ⟨u1_z, u2_z, u3, u4_z, u5, u6, u7, u8, u9, u10, u11, u12, u13, u14, u15, u16, u17⟩ := b1
      refine ⟨uI (uI (trcT (uI T' m 16 0) m (x_z - 1) tk d_z) (m + 19) d_z (w_z - 1)) (m + 18) d_z q', fun qq hqq => ?_, ((Ex.refl _ _).uI _ _ (by omega)).uI _ _ (by omega), by rw [rI_at]; omega, fun l l0 l1 => ?_, fun i_z i0_z i1_z => ?_, fun i_z i0_z i1_z => ?_, ?_⟩
      · have hm2 : ShM (trcT (uI T' m 16 0) m (x_z - 1) tk d_z) m := m1_z
        have e36 : gI (trcT (uI T' m 16 0) m (x_z - 1) tk d_z) m 36 = (d_z : Int) := by
          rw [trc_f _ (by decide), rI_nk (by decide)]
          exact m2_z
        have e19_z : gI (trcT (uI T' m 16 0) m (x_z - 1) tk d_z) (m + 19) d_z = w_z := by
          rw [trc_r (by omega) (by omega), rI_ne (by omega)]
          exact m3_z
        have e20 : gI (trcT (uI T' m 16 0) m (x_z - 1) tk d_z) (m + 20) (16 * d_z + w_z - 1) = v_z := by
          rw [trc_r (by omega) (by omega), rI_ne (by omega)]
          exact m5_z
        have e17_z : gI (trcT (uI T' m 16 0) m (x_z - 1) tk d_z) (m + 17) d_z = x_z := by
          rw [trc_r (by omega) (by omega), rI_ne (by omega)]
          exact u3
        have e18_z : gI (trcT (uI T' m 16 0) m (x_z - 1) tk d_z) (m + 18) d_z = tk := by
          rw [trc_r (by omega) (by omega), rI_ne (by omega)]
          exact u10
        have ec : cdm (uI (trcT (uI T' m 16 0) m (x_z - 1) tk d_z) (m + 19) d_z (w_z - 1)) m x_z = cdm T' m x_z := by
          funext k
          unfold cdm
          rw [rI_ne (by omega), trc_r (by omega) (by omega), rI_ne (by omega)]
        subst cv
        refine X_doesR hm2 e36 e19_z g1 hw w1_z e20 ?_
        refine X_repeats0 (n_z := n_z) (tk := tk) (q_z := q') hm2 (by rw [rI_ne (by omega)]; exact e36) g1 (by rw [rI_ne (by omega)]; exact e17_z) u4_z u5 (by rw [ec]; exact b6.1) u13 (by rw [rI_ne (by omega)]; exact e18_z) u11 (by rw [ec]; exact z3) z1 ?_
        simp only [B_228_335, B_228_353, Option.toList_some, Option.toList_none, List.cons_append, List.nil_append, List.append_nil]
        exact hqq
      · rw [rI_nk (by omega), rI_ne (by omega), rI_ne (by omega), rI_nk (by omega), rI_ne (by omega), rI_ne (by omega), trc_r (by omega) (by omega), trc_r (by omega) (by omega), trc_r (by omega) (by omega), rI_ne (by omega), rI_ne (by omega), rI_ne (by omega)]
        exact ⟨rfl, rfl, rfl⟩
      · rw [rI_ne (by omega), rI_ne (by omega), rI_ne (by omega), rI_ne (by omega), trc_r (by omega) (by omega), trc_r (by omega) (by omega), rI_ne (by omega), rI_ne (by omega)]
        exact ⟨rfl, rfl⟩
      · rw [rI_ne (by omega), rI_ne (by omega), rI_ne (by omega), rI_ne (by omega), trc_r (by omega) (by omega), trc_r (by omega) (by omega), rI_ne (by omega), rI_ne (by omega)]
        exact ⟨rfl, rfl⟩
      · have e18_z : gI (uI (uI (trcT (uI T' m 16 0) m (x_z - 1) tk d_z) (m + 19) d_z (w_z - 1)) (m + 18) d_z q') (m + 18) d_z = (q' : Int) := rI_at
        rw [e18_z]
        have rowT : ∀ a_z, a_z ≠ m → a_z ≠ m + 25 → a_z ≠ m + 18 → a_z ≠ m + 19 → gI (uI (uI (uI (trcT (uI T' m 16 0) m (x_z - 1) tk d_z) (m + 19) d_z (w_z - 1)) (m + 18) d_z q') (m + 18) d_z (q' + 1)) a_z = gI T' a_z := fun a_z n0_z n1_z n2_z n3_z => by
          rw [rI_ne n2_z, rI_ne n2_z, rI_ne n3_z, trc_r n0_z n1_z, rI_ne n0_z]
        have e19_z : gI (uI (uI (uI (trcT (uI T' m 16 0) m (x_z - 1) tk d_z) (m + 19) d_z (w_z - 1)) (m + 18) d_z q') (m + 18) d_z (q' + 1)) (m + 19) d_z = w_z - 1 := by
          rw [rI_ne (by omega), rI_ne (by omega), rI_at]
        generalize uI (uI (uI (trcT (uI T' m 16 0) m (x_z - 1) tk d_z) (m + 19) d_z (w_z - 1)) (m + 18) d_z q') (m + 18) d_z (q' + 1) = T4 at *
        have r1' := rowT (m + 1) (by omega) (by omega) (by omega) (by omega)
        have r17' := rowT (m + 17) (by omega) (by omega) (by omega) (by omega)
        have ec : cdm T4 m x_z = cdm T' m x_z := by
          funext k
          unfold cdm
          rw [r1']
        have c5_z : gI (uI (uI (uI M (c + 22 + 4 * d_z) 5 (tk + 1)) (c + 22 + 4 * d_z) 6 (w_z - 1)) (c + 22 + 4 * d_z) 5 (q' + 1)) (c + 22 + 4 * d_z) 5 = (q' : Int) + 1 := rI_at
        have qn : scan (cdm T' m x_z) (q' + 1) = (L_z, false) := by
          show stepF (cdm T' m x_z q') q' (scan (cdm T' m x_z) q') = _
          rw [z3.2.1, stepF_next, z3.2.2, b3]
          rfl
        have hsc : sc (uI (uI (uI M (c + 22 + 4 * d_z) 5 (tk + 1)) (c + 22 + 4 * d_z) 6 (w_z - 1)) (c + 22 + 4 * d_z) 5 (q' + 1)) T4 m (c + 22 + 4 * d_z) d_z = (L_z, false) := by
          unfold sc
          rw [c5_z, r17', u3, ec, show ((q' : Int) + 1).toNat = q' + 1 from by omega]
          exact qn
        refine ⟨?_, by rw [hsc, b10], by rw [hsc, b10], ?_⟩
        · obtain ⟨v1_z, v2, v3, v4_z, v5, v6, v7, v8⟩ := b7
          unfold lnm at v2
          unfold FrL lnm
          unfold lnm at u8
          rw [r17', r1', rowT (m + 20) (by omega) (by omega) (by omega) (by omega), rowT (m + 21) (by omega) (by omega) (by omega) (by omega), rowT (m + 22) (by omega) (by omega) (by omega) (by omega), rowT (m + 23) (by omega) (by omega) (by omega) (by omega), rowT (m + 24) (by omega) (by omega) (by omega) (by omega), e19_z, u3, ec, c5_z]
          rw [u3] at v1_z v2
          rw [hlw] at v6 v7
          simp (disch := omega) only [gK_uI, gK_uL, gK_uR, gK_uCI, gK_uCL, gN_uI, gN_uL, gN_uR, gN_uCI, gN_uCL, gR_uI, gR_uL, gR_uCI, gR_uCL, gI_uL, gI_uR, gI_uCL, gL_uI, gL_uR, gL_uCI, gz_uI, gz_uL, gz_uR, gz_uCI, gz_uCL, gs_uI, gs_uL, gs_uR, gs_uCI, gs_uCL, rI_at, rL_at, rR_at, rI_ne, rL_ne, rR_ne, rI_nk, rL_nk, rR_nk, rI_eq, rL_eq, rR_eq, hlw]
          refine ⟨v1_z, v2, ⟨trivial, by omega, by omega⟩, ⟨trivial, by omega, by omega⟩, fun i_z i0_z i1_z => k6_z i_z i0_z (by omega), v6, v7, ?_⟩
          rw [show ((q' : Int) + 1).toNat = q' + 1 from by omega, qn]
          exact b8
        · unfold wrk lnm
          unfold lnm at u8
          rw [r17', r1', u3, u8, c5_z]
          simp (disch := omega) only [gK_uI, gK_uL, gK_uR, gK_uCI, gK_uCL, gN_uI, gN_uL, gN_uR, gN_uCI, gN_uCL, gR_uI, gR_uL, gR_uCI, gR_uCL, gI_uL, gI_uR, gI_uCL, gL_uI, gL_uR, gL_uCI, gz_uI, gz_uL, gz_uR, gz_uCI, gz_uCL, gs_uI, gs_uL, gs_uR, gs_uCI, gs_uCL, rI_at, rL_at, rR_at, rI_ne, rL_ne, rR_ne, rI_nk, rL_nk, rR_nk, rI_eq, rL_eq, rR_eq, hlw]
    · have hB_z := fun qq => X_beginLoop1 (G := G) (Q := qq) (x_z := tk) (t_z := v_z) f3_z t11 (by omega) (by omega) (by rw [rI_nk (by decide), rI_nk (by decide)]; omega) (by rw [rI_nk (by decide), rI_nk (by decide)]; omega)
      have e7_z : gI (uI (uI M (c + 22 + 4 * d_z) 5 (tk + 1)) (c + 22 + 4 * d_z) 6 (w_z - 1)) (c + 22 + 4 * d_z) 7 = lw := by
        rw [rI_nk (by decide), rI_nk (by decide)]
        exact hlw
      rw [e7_z] at hB_z
      refine op_okF (wk_z := 200 * (lft (gI M (c + 22 + 4 * d_z + 3)) lw + v_z) + (n_z - (tk + 1)) + 1) (Mp := uI (uI (uI (uI (uI M (c + 22 + 4 * d_z) 5 (tk + 1)) (c + 22 + 4 * d_z) 6 (w_z - 1)) (c + 22 + 4 * d_z + 2) lw (tk + 1)) (c + 22 + 4 * d_z + 3) lw v_z) (c + 22 + 4 * d_z) 7 (lw + 1)) (PT_z := fun T' T1 => T1 = uI T' m 16 0) h0 hd_z hx htk hp hn hlt (by decide) (by decide) hop i0_z i1_z hb_z hN_z (fun qq hqq => cls_z qq ((hB_z _).mpr ⟨rfl, hqq⟩)) ((((((Ex.refl _ M).uI _ _ (by omega)).uI _ _ (by omega)).uI _ _ (by omega)).uI _ _ (by omega)).uI _ _ (by omega)) (by simp (disch := omega) only [gK_uI, gK_uL, gK_uR, gK_uCI, gK_uCL, gN_uI, gN_uL, gN_uR, gN_uCI, gN_uCL, gR_uI, gR_uL, gR_uCI, gR_uCL, gI_uL, gI_uR, gI_uCL, gL_uI, gL_uR, gL_uCI, gz_uI, gz_uL, gz_uR, gz_uCI, gz_uCL, gs_uI, gs_uL, gs_uR, gs_uCI, gs_uCL, rI_at, rL_at, rR_at, rI_ne, rL_ne, rR_ne, rI_nk, rL_nk, rR_nk, rI_eq, rL_eq, rR_eq]) (by rw [hlw]; omega) wrg (fun T' h' T1 hy hPT => ?_)
      subst hPT
      obtain ⟨m1_z, m2_z, m3_z, m4_z, m5_z, m6_z, m7_z, k6_z⟩ := mod T' h'
      obtain ⟨L_z, b1, b2, b3, b4, b5, b6, b7, b8, -, b10⟩ := str_z T' h'
      obtain ⟨u1_z, u2_z, u3, u4_z, u5, u6, u7, u8, u9, u10, u11, u12, u13, u14, u15, u16, u17⟩ := b1
      obtain ⟨v1_z, v2, v3, v4_z, v5, v6, v7, v8⟩ := b7
      rw [hlw] at v6 v7
      refine ⟨uI (uI (uI (uI (trcT (uI T' m 16 0) m (x_z - 1) tk d_z) (m + 19) d_z (w_z - 1)) (m + 23) (3 * d_z + lw) tk) (m + 24) (3 * d_z + lw) (v_z - 1)) (m + 22) d_z (lw + 1), fun qq hqq => ?_, ((((Ex.refl _ _).uI _ _ (by omega)).uI _ _ (by omega)).uI _ _ (by omega)).uI _ _ (by omega), ?_, fun l l0 l1 => ?_, fun i_z i0_z i1_z => ?_, fun i_z i0_z i1_z => ?_, ?_⟩
      · have hm2 : ShM (trcT (uI T' m 16 0) m (x_z - 1) tk d_z) m := m1_z
        have e36 : gI (trcT (uI T' m 16 0) m (x_z - 1) tk d_z) m 36 = (d_z : Int) := by
          rw [trc_f _ (by decide), rI_nk (by decide)]
          exact m2_z
        have e19_z : gI (trcT (uI T' m 16 0) m (x_z - 1) tk d_z) (m + 19) d_z = w_z := by
          rw [trc_r (by omega) (by omega), rI_ne (by omega)]
          exact m3_z
        have e20 : gI (trcT (uI T' m 16 0) m (x_z - 1) tk d_z) (m + 20) (16 * d_z + w_z - 1) = v_z := by
          rw [trc_r (by omega) (by omega), rI_ne (by omega)]
          exact m5_z
        have e22_z : gI (trcT (uI T' m 16 0) m (x_z - 1) tk d_z) (m + 22) d_z = lw := by
          rw [trc_r (by omega) (by omega), rI_ne (by omega)]
          exact v6.1.symm
        have e18_z : gI (trcT (uI T' m 16 0) m (x_z - 1) tk d_z) (m + 18) d_z = tk := by
          rw [trc_r (by omega) (by omega), rI_ne (by omega)]
          exact u10
        refine X_doesR hm2 e36 e19_z g1 hw w1_z e20 ?_
        refine X_repeats1 (tk := tk) (w_z := lw) hm2 (by rw [rI_ne (by omega)]; exact e36) g1 (by rw [rI_ne (by omega)]; exact e18_z) (by rw [rI_ne (by omega)]; exact e22_z) (by omega) (by omega) (by omega) (by omega) ?_
        simp only [B_228_335, B_228_353, Option.toList_some, Option.toList_none, List.cons_append, List.nil_append, List.append_nil]
        exact hqq
      · rw [rI_ne (by omega), rI_ne (by omega), rI_ne (by omega), rI_ne (by omega), trc_r (by omega) (by omega), rI_ne (by omega), u10]
        omega
      · simp (disch := omega) only [gK_uI, gK_uL, gK_uR, gK_uCI, gK_uCL, gN_uI, gN_uL, gN_uR, gN_uCI, gN_uCL, gR_uI, gR_uL, gR_uCI, gR_uCL, gI_uL, gI_uR, gI_uCL, gL_uI, gL_uR, gL_uCI, gz_uI, gz_uL, gz_uR, gz_uCI, gz_uCL, gs_uI, gs_uL, gs_uR, gs_uCI, gs_uCL, rI_at, rL_at, rR_at, rI_ne, rL_ne, rR_ne, rI_nk, rL_nk, rR_nk, rI_eq, rL_eq, rR_eq]
        rw [trc_r (by omega) (by omega), trc_r (by omega) (by omega), trc_r (by omega) (by omega), rI_ne (by omega), rI_ne (by omega), rI_ne (by omega)]
        exact ⟨rfl, rfl, rfl⟩
      · simp (disch := omega) only [gK_uI, gK_uL, gK_uR, gK_uCI, gK_uCL, gN_uI, gN_uL, gN_uR, gN_uCI, gN_uCL, gR_uI, gR_uL, gR_uCI, gR_uCL, gI_uL, gI_uR, gI_uCL, gL_uI, gL_uR, gL_uCI, gz_uI, gz_uL, gz_uR, gz_uCI, gz_uCL, gs_uI, gs_uL, gs_uR, gs_uCI, gs_uCL, rI_at, rL_at, rR_at, rI_ne, rL_ne, rR_ne, rI_nk, rL_nk, rR_nk, rI_eq, rL_eq, rR_eq]
        rw [trc_r (by omega) (by omega), trc_r (by omega) (by omega), rI_ne (by omega), rI_ne (by omega)]
        exact ⟨rfl, rfl⟩
      · simp (disch := omega) only [gK_uI, gK_uL, gK_uR, gK_uCI, gK_uCL, gN_uI, gN_uL, gN_uR, gN_uCI, gN_uCL, gR_uI, gR_uL, gR_uCI, gR_uCL, gI_uL, gI_uR, gI_uCL, gL_uI, gL_uR, gL_uCI, gz_uI, gz_uL, gz_uR, gz_uCI, gz_uCL, gs_uI, gs_uL, gs_uR, gs_uCI, gs_uCL, rI_at, rL_at, rR_at, rI_ne, rL_ne, rR_ne, rI_nk, rL_nk, rR_nk, rI_eq, rL_eq, rR_eq]
        rw [trc_r (by omega) (by omega), trc_r (by omega) (by omega), rI_ne (by omega), rI_ne (by omega)]
        exact ⟨rfl, rfl⟩
      · have e18_z : gI (uI (uI (uI (uI (trcT (uI T' m 16 0) m (x_z - 1) tk d_z) (m + 19) d_z (w_z - 1)) (m + 23) (3 * d_z + lw) tk) (m + 24) (3 * d_z + lw) (v_z - 1)) (m + 22) d_z (lw + 1)) (m + 18) d_z = tk := by
          rw [rI_ne (by omega), rI_ne (by omega), rI_ne (by omega), rI_ne (by omega), trc_r (by omega) (by omega), rI_ne (by omega), u10]
        rw [e18_z]
        have rowT : ∀ a_z, a_z ≠ m → a_z ≠ m + 25 → a_z ≠ m + 18 → a_z ≠ m + 19 → a_z ≠ m + 22 → a_z ≠ m + 23 → a_z ≠ m + 24 → gI (uI (uI (uI (uI (uI (trcT (uI T' m 16 0) m (x_z - 1) tk d_z) (m + 19) d_z (w_z - 1)) (m + 23) (3 * d_z + lw) tk) (m + 24) (3 * d_z + lw) (v_z - 1)) (m + 22) d_z (lw + 1)) (m + 18) d_z (tk + 1)) a_z = gI T' a_z := fun a_z n0_z n1_z n2_z n3_z n4_z n5_z n6_z => by
          rw [rI_ne n2_z, rI_ne n4_z, rI_ne n6_z, rI_ne n5_z, rI_ne n3_z, trc_r n0_z n1_z, rI_ne n0_z]
        have e19_z : gI (uI (uI (uI (uI (uI (trcT (uI T' m 16 0) m (x_z - 1) tk d_z) (m + 19) d_z (w_z - 1)) (m + 23) (3 * d_z + lw) tk) (m + 24) (3 * d_z + lw) (v_z - 1)) (m + 22) d_z (lw + 1)) (m + 18) d_z (tk + 1)) (m + 19) d_z = w_z - 1 := by
          rw [rI_ne (by omega), rI_ne (by omega), rI_ne (by omega), rI_ne (by omega), rI_at]
        have e22_z : gI (uI (uI (uI (uI (uI (trcT (uI T' m 16 0) m (x_z - 1) tk d_z) (m + 19) d_z (w_z - 1)) (m + 23) (3 * d_z + lw) tk) (m + 24) (3 * d_z + lw) (v_z - 1)) (m + 22) d_z (lw + 1)) (m + 18) d_z (tk + 1)) (m + 22) d_z = lw + 1 := by
          rw [rI_ne (by omega), rI_at]
        have e23_z : gI (uI (uI (uI (uI (uI (trcT (uI T' m 16 0) m (x_z - 1) tk d_z) (m + 19) d_z (w_z - 1)) (m + 23) (3 * d_z + lw) tk) (m + 24) (3 * d_z + lw) (v_z - 1)) (m + 22) d_z (lw + 1)) (m + 18) d_z (tk + 1)) (m + 23) = upf (gI T' (m + 23)) (3 * d_z + lw) tk := by
          rw [rI_ne (by omega), rI_ne (by omega), rI_ne (by omega), rI_row, rI_ne (by omega), trc_r (by omega) (by omega), rI_ne (by omega)]
        have e24_z : gI (uI (uI (uI (uI (uI (trcT (uI T' m 16 0) m (x_z - 1) tk d_z) (m + 19) d_z (w_z - 1)) (m + 23) (3 * d_z + lw) tk) (m + 24) (3 * d_z + lw) (v_z - 1)) (m + 22) d_z (lw + 1)) (m + 18) d_z (tk + 1)) (m + 24) = upf (gI T' (m + 24)) (3 * d_z + lw) (v_z - 1) := by
          rw [rI_ne (by omega), rI_ne (by omega), rI_row, rI_ne (by omega), rI_ne (by omega), trc_r (by omega) (by omega), rI_ne (by omega)]
        generalize uI (uI (uI (uI (uI (trcT (uI T' m 16 0) m (x_z - 1) tk d_z) (m + 19) d_z (w_z - 1)) (m + 23) (3 * d_z + lw) tk) (m + 24) (3 * d_z + lw) (v_z - 1)) (m + 22) d_z (lw + 1)) (m + 18) d_z (tk + 1) = T4 at *
        have r1' := rowT (m + 1) (by omega) (by omega) (by omega) (by omega) (by omega) (by omega) (by omega)
        have r17' := rowT (m + 17) (by omega) (by omega) (by omega) (by omega) (by omega) (by omega) (by omega)
        have ec : cdm T4 m x_z = cdm T' m x_z := by
          funext k
          unfold cdm
          rw [r1']
        have c5_z : gI (uI (uI (uI (uI (uI M (c + 22 + 4 * d_z) 5 (tk + 1)) (c + 22 + 4 * d_z) 6 (w_z - 1)) (c + 22 + 4 * d_z + 2) lw (tk + 1)) (c + 22 + 4 * d_z + 3) lw v_z) (c + 22 + 4 * d_z) 7 (lw + 1)) (c + 22 + 4 * d_z) 5 = tk + 1 := by simp (disch := omega) only [gK_uI, gK_uL, gK_uR, gK_uCI, gK_uCL, gN_uI, gN_uL, gN_uR, gN_uCI, gN_uCL, gR_uI, gR_uL, gR_uCI, gR_uCL, gI_uL, gI_uR, gI_uCL, gL_uI, gL_uR, gL_uCI, gz_uI, gz_uL, gz_uR, gz_uCI, gz_uCL, gs_uI, gs_uL, gs_uR, gs_uCI, gs_uCL, rI_at, rL_at, rR_at, rI_ne, rL_ne, rR_ne, rI_nk, rL_nk, rR_nk, rI_eq, rL_eq, rR_eq]
        have c7_z : gI (uI (uI (uI (uI (uI M (c + 22 + 4 * d_z) 5 (tk + 1)) (c + 22 + 4 * d_z) 6 (w_z - 1)) (c + 22 + 4 * d_z + 2) lw (tk + 1)) (c + 22 + 4 * d_z + 3) lw v_z) (c + 22 + 4 * d_z) 7 (lw + 1)) (c + 22 + 4 * d_z) 7 = lw + 1 := rI_at
        have c3_z : gI (uI (uI (uI (uI (uI M (c + 22 + 4 * d_z) 5 (tk + 1)) (c + 22 + 4 * d_z) 6 (w_z - 1)) (c + 22 + 4 * d_z + 2) lw (tk + 1)) (c + 22 + 4 * d_z + 3) lw v_z) (c + 22 + 4 * d_z) 7 (lw + 1)) (c + 22 + 4 * d_z + 3) = upf (gI M (c + 22 + 4 * d_z + 3)) lw v_z := by
          rw [rI_ne (by omega), rI_row, rI_ne (by omega), rI_ne (by omega), rI_ne (by omega)]
        have hsc : sc (uI (uI (uI (uI (uI M (c + 22 + 4 * d_z) 5 (tk + 1)) (c + 22 + 4 * d_z) 6 (w_z - 1)) (c + 22 + 4 * d_z + 2) lw (tk + 1)) (c + 22 + 4 * d_z + 3) lw v_z) (c + 22 + 4 * d_z) 7 (lw + 1)) T4 m (c + 22 + 4 * d_z) d_z = ((true, tk.toNat) :: L_z, false) := by
          unfold sc
          rw [c5_z, r17', u3, ec, show (tk + 1).toNat = tk.toNat + 1 from by omega]
          exact b4
        refine ⟨?_, by rw [hsc, b10]; rfl, by rw [hsc, b10], ?_⟩
        · unfold lnm at v2
          unfold FrL lnm
          unfold lnm at u8
          rw [r17', r1', rowT (m + 20) (by omega) (by omega) (by omega) (by omega) (by omega) (by omega) (by omega), rowT (m + 21) (by omega) (by omega) (by omega) (by omega) (by omega) (by omega) (by omega), e22_z, e23_z, e24_z, e19_z, u3, ec, c5_z, c7_z, c3_z]
          rw [u3] at v1_z v2
          simp (disch := omega) only [gK_uI, gK_uL, gK_uR, gK_uCI, gK_uCL, gN_uI, gN_uL, gN_uR, gN_uCI, gN_uCL, gR_uI, gR_uL, gR_uCI, gR_uCL, gI_uL, gI_uR, gI_uCL, gL_uI, gL_uR, gL_uCI, gz_uI, gz_uL, gz_uR, gz_uCI, gz_uCL, gs_uI, gs_uL, gs_uR, gs_uCI, gs_uCL, rI_at, rL_at, rR_at, rI_ne, rL_ne, rR_ne, rI_nk, rL_nk, rR_nk, rI_eq, rL_eq, rR_eq]
          refine ⟨v1_z, v2, ⟨trivial, by omega, by omega⟩, ⟨trivial, by omega, by omega⟩, fun i_z i0_z i1_z => k6_z i_z i0_z (by omega), ⟨trivial, by omega, by omega⟩, fun i_z i0_z i1_z => ?_, ?_⟩
          · by_cases ci : i_z = lw
            · subst ci
              rw [upf_at, upf_at, upf_at]
              simp (disch := omega) only [gK_uI, gK_uL, gK_uR, gK_uCI, gK_uCL, gN_uI, gN_uL, gN_uR, gN_uCI, gN_uCL, gR_uI, gR_uL, gR_uCI, gR_uCL, gI_uL, gI_uR, gI_uCL, gL_uI, gL_uR, gL_uCI, gz_uI, gz_uL, gz_uR, gz_uCI, gz_uCL, gs_uI, gs_uL, gs_uR, gs_uCI, gs_uCL, rI_at, rL_at, rR_at, rI_ne, rL_ne, rR_ne, rI_nk, rL_nk, rR_nk, rI_eq, rL_eq, rR_eq]
              exact ⟨trivial, by omega, by omega, by omega⟩
            · obtain ⟨a1_z, a2, a3, a4⟩ := v7 i_z i0_z (by omega)
              rw [upf_ne _ _ (by omega), upf_ne _ _ (by omega), upf_ne _ _ (by omega)]
              simp (disch := omega) only [gK_uI, gK_uL, gK_uR, gK_uCI, gK_uCL, gN_uI, gN_uL, gN_uR, gN_uCI, gN_uCL, gR_uI, gR_uL, gR_uCI, gR_uCL, gI_uL, gI_uR, gI_uCL, gL_uI, gL_uR, gL_uCI, gz_uI, gz_uL, gz_uR, gz_uCI, gz_uCL, gs_uI, gs_uL, gs_uR, gs_uCI, gs_uCL, rI_at, rL_at, rR_at, rI_ne, rL_ne, rR_ne, rI_nk, rL_nk, rR_nk, rI_eq, rL_eq, rR_eq]
              exact ⟨a1_z, a2, a3, a4⟩
          · rw [show (tk + 1).toNat = tk.toNat + 1 from by omega, b4]
            refine ⟨?_, ?_⟩
            · show upf (gI T' (m + 23)) (3 * d_z + lw) tk (3 * d_z + (lw + 1 - 1)) = (tk.toNat : Int)
              rw [show (3 : Int) * d_z + (lw + 1 - 1) = 3 * d_z + lw from by omega, upf_at, Int.toNat_of_nonneg t11]
            · rw [show lw + 1 - 1 = lw from by omega]
              exact LpO.congr (fun i_z i0_z i1_z => (upf_ne _ _ (by omega)).symm) b8
        · have l2 := lft_push (f_z := gI M (c + 22 + 4 * d_z + 3)) (g_z := upf (gI M (c + 22 + 4 * d_z + 3)) lw v_z) (w_z := lw) (by omega) (by omega) (fun i_z i0_z i1_z => upf_ne _ _ (by omega))
          rw [upf_at] at l2
          unfold wrk lnm
          unfold lnm at u8
          rw [r17', r1', u3, u8, c5_z, c7_z, c3_z, l2]
  · rw [zB_f cI] at hIn
    refine op_err h0 hd_z hx htk hp hn hlt (by decide) (by decide) hop i0_z i1_z (e_z := 2) (by decide) hEr (fun qq hqq => ?_) (fun T' h' qq hqq => ?_)
    · have hh := hqq _ (Ex.refl _ _)
      refine perf_go (k_z := 14) hs1 ho1 r5_z hK4 f2_z (by decide) (by rw [e13_z, es6]; exact hb_z) ew w0_z w1_z hv1 (by rw [nd]; exact hw) (fun q_z => hg) ?_
      have sm_z := ho1.1
      have s17 : gI (uI M (c + 22 + 4 * d_z) 5 (tk + 1)) (G.2 1) 14 = 2 := sm_z.2.2 14 (by decide)
      rw [B_86_33]
      simp (disch := omega) only [sm_z.1, sm_z.2.1, s17, Int.cast_ofNat_Int, B_86_226, hs1.1.u, E_Ma_repeat, B_121_0, f2_z.u, hP0, B_121_5, hIn, B_121_10, B_86_232, inI, inL, isT, kInt, kByt, true_and, and_true, an_t, im_t, im_f, or_true, true_or, true_imp_iff, false_imp_iff, not_true_eq_false, not_false_eq_true, gK_uI, gK_uL, gK_uR, gK_uCI, gK_uCL, gN_uI, gN_uL, gN_uR, gN_uCI, gN_uCL, gR_uI, gR_uL, gR_uCI, gR_uCL, gI_uL, gI_uR, gI_uCL, gL_uI, gL_uR, gL_uCI, gz_uI, gz_uL, gz_uR, gz_uCI, gz_uCL, gs_uI, gs_uL, gs_uR, gs_uCI, gs_uCL, rI_at, rL_at, rR_at, rI_ne, rL_ne, rR_ne, rI_nk, rL_nk, rR_nk, rI_eq, rL_eq, rR_eq, Option.toList_some, Option.toList_none, List.cons_append, List.nil_append, List.append_nil, zc_eq, zc_lt, zc_le, zc_ge, zc_gt]
      all_goals exact hh
    · obtain ⟨m1_z, m2_z, m3_z, m4_z, m5_z, m6_z, m7_z, -⟩ := mod T' h'
      rw [zB_f cI] at m7_z
      exact X_wrongO m1_z m4_z m7_z (hqq T' (Sy.refl _ _))
end FB
