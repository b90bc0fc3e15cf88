/-! THE PURE PART, part 14: draw, the model's checks. Own work. -/
theorem low_one {v_z : Int} (h_z : v_z.natAbs ≤ 1000000) : low v_z 1 = pk v_z 1 := by
  have e1_z : nu v_z 1 = v_z := by
    unfold nu
    rw [if_neg (by decide), Int.gcd_one_right]
    show v_z / 1 = v_z
    omega
  have e2_z : nd v_z 1 = 1 := by
    unfold nd
    rw [if_neg (by decide), Int.gcd_one_right]
    decide
  have hl : lok v_z 1 := by
    unfold lok
    rw [e1_z, e2_z]
    exact ⟨by omega, by omega, by decide⟩
  unfold low
  rw [if_pos hl, e1_z, e2_z]
section AT
variable {G : Env0} {Q : Option AV → Mem → Prop} {M T : Mem} {c s m r : Nat}
theorem exT_loop {d_z : Nat} {f_z : Int} (hs : ShM T m) (hl : gI T m 36 = (d_z : Int)) (l1 : d_z < 5) (f0_z : 0 ≤ f_z) (f1_z : f_z ≤ 100) (h_z : ∀ z_z : Int, ((z_z = 1 ∧ ∃ l : Nat, 1 ≤ l ∧ l ≤ d_z ∧ gI T (m + 17) l = f_z + 1) ∨ (z_z = 0 ∧ ∀ l : Nat, 1 ≤ l → l ≤ d_z → gI T (m + 17) l ≠ f_z + 1)) → Q (some (a_i z_z)) T) : ∀ (n_z j_z : Nat) (z_z : Int), d_z + 1 - j_z = n_z → 1 ≤ j_z → j_z ≤ d_z + 1 → ((z_z = 1 ∧ ∃ l : Nat, 1 ≤ l ∧ l < j_z ∧ gI T (m + 17) l = f_z + 1) ∨ (z_z = 0 ∧ ∀ l : Nat, 1 ≤ l → l < j_z → gI T (m + 17) l ≠ f_z + 1)) → At G 214 4 [a_r m, a_i f_z, a_i z_z, a_i (j_z : Int)] [] T Q := by
  intro n_z
  induction n_z with
  | zero =>
    intro j_z z_z hj j0 j1 hz
    have hh := h_z z_z (by
      rcases hz with ⟨z1, l, a_z, b_z, e_z⟩ | ⟨z1, q_z⟩
      · exact Or.inl ⟨z1, l, a_z, by omega, e_z⟩
      · exact Or.inr ⟨z1, fun l a_z b_z => q_z l a_z (by omega)⟩)
    have iz : isT z_z := by
      rcases hz with ⟨z1, -⟩ | ⟨z1, -⟩
      · exact Or.inr z1
      · exact Or.inl z1
    rw [B_214_4]
    simp (disch := omega) only [hs.u, hl, B_214_40, iz, inI, inL, isT, kInt, kByt, true_and, and_true, an_t, im_t, im_f, or_true, true_or, true_imp_iff, false_imp_iff, not_true_eq_false, not_false_eq_true, gK_uI, gK_uL, gK_uR, gK_uCI, gK_uCL, gN_uI, gN_uL, gN_uR, gN_uCI, gN_uCL, gR_uI, gR_uL, gR_uCI, gR_uCL, gI_uL, gI_uR, gI_uCL, gL_uI, gL_uR, gL_uCI, gz_uI, gz_uL, gz_uR, gz_uCI, gz_uCL, gs_uI, gs_uL, gs_uR, gs_uCI, gs_uCL, rI_at, rL_at, rR_at, rI_ne, rL_ne, rR_ne, rI_nk, rL_nk, rR_nk, rI_eq, rL_eq, rR_eq, Option.toList_some, Option.toList_none, List.cons_append, List.nil_append, List.append_nil, zc_eq, zc_lt, zc_le, zc_ge, zc_gt]
    all_goals first | exact hh | exact iz | exact ⟨iz, hh⟩
  | succ n_z ih_z =>
    intro j_z z_z hj j0 j1 hz
    rw [B_214_4]
    rcases hz with ⟨z1, l, a_z, b_z, e_z⟩ | ⟨z1, q_z⟩
    · have hh := ih_z (j_z + 1) 1 (by omega) (by omega) (by omega) (Or.inl ⟨rfl, l, a_z, by omega, e_z⟩)
      rw [show ((j_z + 1 : Nat) : Int) = (j_z : Int) + 1 from by omega] at hh
      subst z1
      simp (disch := omega) only [hs.u, hl, B_214_28, B_214_33, inI, inL, isT, kInt, kByt, true_and, and_true, an_t, im_t, im_f, or_true, true_or, true_imp_iff, false_imp_iff, not_true_eq_false, not_false_eq_true, gK_uI, gK_uL, gK_uR, gK_uCI, gK_uCL, gN_uI, gN_uL, gN_uR, gN_uCI, gN_uCL, gR_uI, gR_uL, gR_uCI, gR_uCL, gI_uL, gI_uR, gI_uCL, gL_uI, gL_uR, gL_uCI, gz_uI, gz_uL, gz_uR, gz_uCI, gz_uCL, gs_uI, gs_uL, gs_uR, gs_uCI, gs_uCL, rI_at, rL_at, rR_at, rI_ne, rL_ne, rR_ne, rI_nk, rL_nk, rR_nk, rI_eq, rL_eq, rR_eq, Option.toList_some, Option.toList_none, List.cons_append, List.nil_append, List.append_nil, zc_eq, zc_lt, zc_le, zc_ge, zc_gt]
      all_goals exact hh
    · subst z1
      by_cases c1_z : gI T (m + 17) j_z = f_z + 1
      · have hh := ih_z (j_z + 1) 1 (by omega) (by omega) (by omega) (Or.inl ⟨rfl, j_z, j0, by omega, c1_z⟩)
        rw [show ((j_z + 1 : Nat) : Int) = (j_z : Int) + 1 from by omega] at hh
        simp (disch := omega) only [hs.u, hl, c1_z, B_214_28, B_214_33, inI, inL, isT, kInt, kByt, true_and, and_true, an_t, im_t, im_f, or_true, true_or, true_imp_iff, false_imp_iff, not_true_eq_false, not_false_eq_true, gK_uI, gK_uL, gK_uR, gK_uCI, gK_uCL, gN_uI, gN_uL, gN_uR, gN_uCI, gN_uCL, gR_uI, gR_uL, gR_uCI, gR_uCL, gI_uL, gI_uR, gI_uCL, gL_uI, gL_uR, gL_uCI, gz_uI, gz_uL, gz_uR, gz_uCI, gz_uCL, gs_uI, gs_uL, gs_uR, gs_uCI, gs_uCL, rI_at, rL_at, rR_at, rI_ne, rL_ne, rR_ne, rI_nk, rL_nk, rR_nk, rI_eq, rL_eq, rR_eq, Option.toList_some, Option.toList_none, List.cons_append, List.nil_append, List.append_nil, zc_eq, zc_lt, zc_le, zc_ge, zc_gt]
        all_goals exact hh
      · have hh := ih_z (j_z + 1) 0 (by omega) (by omega) (by omega) (Or.inr ⟨rfl, fun l a_z b_z => by
          by_cases e_z : l = j_z
          · rw [e_z]
            exact c1_z
          · exact q_z l a_z (by omega)⟩)
        rw [show ((j_z + 1 : Nat) : Int) = (j_z : Int) + 1 from by omega] at hh
        simp (disch := omega) only [hs.u, hl, c1_z, B_214_32, B_214_33, inI, inL, isT, kInt, kByt, true_and, and_true, an_t, im_t, im_f, or_true, true_or, true_imp_iff, false_imp_iff, not_true_eq_false, not_false_eq_true, gK_uI, gK_uL, gK_uR, gK_uCI, gK_uCL, gN_uI, gN_uL, gN_uR, gN_uCI, gN_uCL, gR_uI, gR_uL, gR_uCI, gR_uCL, gI_uL, gI_uR, gI_uCL, gL_uI, gL_uR, gL_uCI, gz_uI, gz_uL, gz_uR, gz_uCI, gz_uCL, gs_uI, gs_uL, gs_uR, gs_uCI, gs_uCL, rI_at, rL_at, rR_at, rI_ne, rL_ne, rR_ne, rI_nk, rL_nk, rR_nk, rI_eq, rL_eq, rR_eq, Option.toList_some, Option.toList_none, List.cons_append, List.nil_append, List.append_nil, zc_eq, zc_lt, zc_le, zc_ge, zc_gt]
        all_goals exact hh
theorem X_isExecT {d_z : Nat} {f_z : Int} (hs : ShM T m) (hl : gI T m 36 = (d_z : Int)) (l1 : d_z < 5) (f0_z : 0 ≤ f_z) (f1_z : f_z ≤ 100) (h_z : ∀ z_z : Int, ((z_z = 1 ∧ ∃ l : Nat, 1 ≤ l ∧ l ≤ d_z ∧ gI T (m + 17) l = f_z + 1) ∨ (z_z = 0 ∧ ∀ l : Nat, 1 ≤ l → l ≤ d_z → gI T (m + 17) l ≠ f_z + 1)) → Q (some (a_i z_z)) T) : Call G J_M_isExecuted [a_r m, a_i f_z] T Q := by
  have hh := exT_loop (G := G) hs hl l1 f0_z f1_z h_z d_z 1 0 (by omega) (by omega) (by omega) (Or.inr ⟨rfl, fun l a_z b_z => by omega⟩)
  rw [E_M_isExecuted, B_214_0]
  exact hh
theorem X_isResD {v_z : Int} (hs : ShM T m) (v0_z : 0 ≤ v_z) (v1_z : v_z ≤ 205) (hf : ∀ qq : Option AV → Mem → Prop, qq (some (a_i v_z)) T → Call G J_M_found [a_r m] T qq) (h1 : v_z / 100 = 2 → 0 ≤ gI T (m + 1) (161 * (v_z % 100 + 1)) → Q (some (a_i 1)) T) (h0 : ¬ (v_z / 100 = 2 ∧ 0 ≤ gI T (m + 1) (161 * (v_z % 100 + 1))) → Q (some (a_i 0)) T) : Call G J_M_isResource [a_r m, a_i 13] T Q := by
  have d1_z : Int.tdiv v_z 100 = v_z / 100 := Int.tdiv_eq_ediv_of_nonneg v0_z
  have d2_z : Int.tmod v_z 100 = v_z % 100 := Int.tmod_eq_emod_of_nonneg v0_z
  have z_z : (0 : Int) + 161 * (v_z % 100 + 1) = 161 * (v_z % 100 + 1) := by omega
  have go_z : At G 212 4 [a_r m, a_i 13, a_u] [a_i v_z] T Q := by
    by_cases c0_z : v_z / 100 = 2
    · have e2_z : v_z % 100 = v_z - 200 := by omega
      rw [e2_z] at h1 h0 z_z d2_z
      have ii : inI (2 : Int) := ⟨by decide, by decide⟩
      by_cases c1_z : 0 ≤ gI T (m + 1) (161 * (v_z - 200 + 1))
      · have hh := h1 c0_z c1_z
        simp (disch := omega) only [B_212_4, B_212_25, d1_z, c0_z, d2_z, z_z, hs.u, B_212_58, inI, inL, isT, kInt, kByt, true_and, and_true, an_t, im_t, im_f, or_true, true_or, true_imp_iff, false_imp_iff, not_true_eq_false, not_false_eq_true, gK_uI, gK_uL, gK_uR, gK_uCI, gK_uCL, gN_uI, gN_uL, gN_uR, gN_uCI, gN_uCL, gR_uI, gR_uL, gR_uCI, gR_uCL, gI_uL, gI_uR, gI_uCL, gL_uI, gL_uR, gL_uCI, gz_uI, gz_uL, gz_uR, gz_uCI, gz_uCL, gs_uI, gs_uL, gs_uR, gs_uCI, gs_uCL, rI_at, rL_at, rR_at, rI_ne, rL_ne, rR_ne, rI_nk, rL_nk, rR_nk, rI_eq, rL_eq, rR_eq, Option.toList_some, Option.toList_none, List.cons_append, List.nil_append, List.append_nil, zc_eq, zc_lt, zc_le, zc_ge, zc_gt]
        all_goals exact hh
      · have hh := h0 (fun q_z => c1_z q_z.2)
        simp (disch := omega) only [B_212_4, B_212_25, d1_z, c0_z, d2_z, z_z, hs.u, B_212_57, B_212_58, inI, inL, isT, kInt, kByt, true_and, and_true, an_t, im_t, im_f, or_true, true_or, true_imp_iff, false_imp_iff, not_true_eq_false, not_false_eq_true, gK_uI, gK_uL, gK_uR, gK_uCI, gK_uCL, gN_uI, gN_uL, gN_uR, gN_uCI, gN_uCL, gR_uI, gR_uL, gR_uCI, gR_uCL, gI_uL, gI_uR, gI_uCL, gL_uI, gL_uR, gL_uCI, gz_uI, gz_uL, gz_uR, gz_uCI, gz_uCL, gs_uI, gs_uL, gs_uR, gs_uCI, gs_uCL, rI_at, rL_at, rR_at, rI_ne, rL_ne, rR_ne, rI_nk, rL_nk, rR_nk, rI_eq, rL_eq, rR_eq, Option.toList_some, Option.toList_none, List.cons_append, List.nil_append, List.append_nil, zc_eq, zc_lt, zc_le, zc_ge, zc_gt]
        all_goals exact hh
    · have hh := h0 (fun q_z => c0_z q_z.1)
      have b1 : inI (v_z / 100) := ⟨by omega, by omega⟩
      simp (disch := omega) only [B_212_4, B_212_25, d1_z, b1, c0_z, B_212_57, B_212_58, inI, inL, isT, kInt, kByt, true_and, and_true, an_t, im_t, im_f, or_true, true_or, true_imp_iff, false_imp_iff, not_true_eq_false, not_false_eq_true, gK_uI, gK_uL, gK_uR, gK_uCI, gK_uCL, gN_uI, gN_uL, gN_uR, gN_uCI, gN_uCL, gR_uI, gR_uL, gR_uCI, gR_uCL, gI_uL, gI_uR, gI_uCL, gL_uI, gL_uR, gL_uCI, gz_uI, gz_uL, gz_uR, gz_uCI, gz_uCL, gs_uI, gs_uL, gs_uR, gs_uCI, gs_uCL, rI_at, rL_at, rR_at, rI_ne, rL_ne, rR_ne, rI_nk, rL_nk, rR_nk, rI_eq, rL_eq, rR_eq, Option.toList_some, Option.toList_none, List.cons_append, List.nil_append, List.append_nil, zc_eq, zc_lt, zc_le, zc_ge, zc_gt]
      all_goals exact hh
  have ff_z := hf (fun r M2_z => At G 212 4 [a_r m, a_i 13, a_u] r.toList M2_z Q) go_z
  simp (disch := omega) only [E_M_isResource, B_212_0, hs.u, inI, inL, isT, kInt, kByt, true_and, and_true, an_t, im_t, im_f, or_true, true_or, true_imp_iff, false_imp_iff, not_true_eq_false, not_false_eq_true, gK_uI, gK_uL, gK_uR, gK_uCI, gK_uCL, gN_uI, gN_uL, gN_uR, gN_uCI, gN_uCL, gR_uI, gR_uL, gR_uCI, gR_uCL, gI_uL, gI_uR, gI_uCL, gL_uI, gL_uR, gL_uCI, gz_uI, gz_uL, gz_uR, gz_uCI, gz_uCL, gs_uI, gs_uL, gs_uR, gs_uCI, gs_uCL, rI_at, rL_at, rR_at, rI_ne, rL_ne, rR_ne, rI_nk, rL_nk, rR_nk, rI_eq, rL_eq, rR_eq, Option.toList_some, Option.toList_none, List.cons_append, List.nil_append, List.append_nil, zc_eq, zc_lt, zc_le, zc_ge, zc_gt]
  all_goals exact ff_z
/-- the box of a form, in the model -/
theorem X_boxToo {f_z b0 b1 b2 b3 n_z : Int} {mt_z : Int → Int} (hs : ShM T m) (f0_z : 0 ≤ f_z) (f1_z : f_z ≤ 5) (hg : GV T m mt_z) (hfl : gI T m 16 = 0) (e0_z : gI T (m + 1) (1127 + 5 * f_z + 1) = b0) (e1_z : gI T (m + 1) (1127 + 5 * f_z + 2) = b1) (e2_z : gI T (m + 1) (1127 + 5 * f_z + 3) = b2) (e3_z : gI T (m + 1) (1127 + 5 * f_z + 4) = b3) (r0 : b0.natAbs ≤ 99) (r1_z : b1.natAbs ≤ 99) (r2 : b2.natAbs ≤ 99) (r3 : b3.natAbs ≤ 99) (hn : gI T (m + 6) 13 = n_z)
    (hno : gI T (m + 1) (1127 + 5 * f_z) = 0 → Q (some (a_i 0)) T) (hbox : gI T (m + 1) (1127 + 5 * f_z) ≠ 0 → ∀ T1, Sy T T1 m → CnO T1 m mt_z (pk b0 1) (pk b1 1) (pk b2 1) (pk b3 1) → Q (some (a_i (if n_z = 6 then 1 else 0))) T1) : Call G J_M_isBoxTooMuch [a_r m, a_i f_z] T Q := by
  have nv : ∀ b_z : Int, b_z.natAbs ≤ 99 → NV (pk b_z 1) ∧ b_z = fu (pk b_z 1) ∧ 1 = fd (pk b_z 1) := fun b_z hb_z => ⟨nv_pk ⟨by omega, by omega, by decide, by decide⟩, (fu_pk (by decide) (by decide)).symm, (fd_pk (by decide) (by decide)).symm⟩
  have sm_z : ∀ b_z : Int, b_z.natAbs ≤ 99 → sml b_z 1 := fun b_z hb_z => ⟨by omega, by decide, by decide⟩
  by_cases c0_z : gI T (m + 1) (1127 + 5 * f_z) = 0
  · have hh := hno c0_z
    simp (disch := omega) only [E_M_isBoxTooMuch, B_226_0, hs.u, c0_z, inI, inL, isT, kInt, kByt, true_and, and_true, an_t, im_t, im_f, or_true, true_or, true_imp_iff, false_imp_iff, not_true_eq_false, not_false_eq_true, gK_uI, gK_uL, gK_uR, gK_uCI, gK_uCL, gN_uI, gN_uL, gN_uR, gN_uCI, gN_uCL, gR_uI, gR_uL, gR_uCI, gR_uCL, gI_uL, gI_uR, gI_uCL, gL_uI, gL_uR, gL_uCI, gz_uI, gz_uL, gz_uR, gz_uCI, gz_uCL, gs_uI, gs_uL, gs_uR, gs_uCI, gs_uCL, rI_at, rL_at, rR_at, rI_ne, rL_ne, rR_ne, rI_nk, rL_nk, rR_nk, rI_eq, rL_eq, rR_eq, Option.toList_some, Option.toList_none, List.cons_append, List.nil_append, List.append_nil, zc_eq, zc_lt, zc_le, zc_ge, zc_gt]
    all_goals exact hh
  · have hb_z := hbox c0_z
    have hy0 : Sy T (uL (uL T m 14 b3) m 15 1) m := ((Sy.refl T m).uL _ _).uL _ _
    have hs0 : ShM (uL (uL T m 14 b3) m 15 1) m := hy0.sh hs
    have l14 : gL (uL (uL T m 14 b3) m 15 1) m 14 = b3 := by rw [rL_nk (by decide), rL_at]
    have l15 : gL (uL (uL T m 14 b3) m 15 1) m 15 = 1 := rL_at
    have x4_z : 1127 + 5 * f_z + 4 = 1127 + 5 * f_z + 4 := rfl
    have ii : gI (uL (uL T m 14 b3) m 15 1) = gI T := rfl
    have rr : gR (uL (uL T m 14 b3) m 15 1) = gR T := rfl
    have kk : gK (uL (uL T m 14 b3) m 15 1) = gK T := rfl
    have nn : gN (uL (uL T m 14 b3) m 15 1) = gN T := rfl
    have rec_z : Call G J_M_rectangle [a_r m, a_l b0, a_l 1, a_l b1, a_l 1, a_l b2, a_l 1] (uL (uL T m 14 b3) m 15 1) (fun q_z T1 => At G 226 71 [a_r m, a_i f_z, a_i (1127 + 5 * f_z)] q_z.toList T1 Q) := by
      refine X_rectangle (x0_z := pk b0 1) (y0 := pk b1 1) (x1_z := pk b2 1) (y1 := pk b3 1) hs0 (hg.sy hy0) (Or.inl hfl) (fun _ => ⟨nv b0 r0, nv b1 r1_z, nv b2 r2, (nv b3 r3).1, l14.trans (nv b3 r3).2.1, l15.trans (nv b3 r3).2.2⟩) (sm_z b0 r0) (sm_z b1 r1_z) (Or.inr ⟨sm_z b2 r2, by rw [l14, l15]; exact sml_big (sm_z b3 r3)⟩) (fun T1 hy hC => ?_)
      have hyy := hy0.trans hy
      have hs1 := hyy.sh hs
      have hc_z : CnO T1 m mt_z (pk b0 1) (pk b1 1) (pk b2 1) (pk b3 1) := by
        rcases hC with ⟨a1_z, a2, a3, a4⟩ | ⟨a1_z, a2⟩
        · exact Or.inl ⟨a1_z, a3, a4⟩
        · refine Or.inr ⟨a1_z, ?_⟩
          rcases a2 with a2 | a2
          · rw [ii] at a2
            omega
          · exact a2
      have hh := hb_z T1 hyy hc_z
      have en : gI T1 (m + 6) 13 = n_z := by rw [hyy.row (by omega) (by omega) (by omega) (by omega)]; exact hn
      by_cases c6_z : n_z = 6
      · rw [if_pos c6_z] at hh
        simp (disch := omega) only [B_226_71, hs1.u, en, c6_z, B_226_88, inI, inL, isT, kInt, kByt, true_and, and_true, an_t, im_t, im_f, or_true, true_or, true_imp_iff, false_imp_iff, not_true_eq_false, not_false_eq_true, gK_uI, gK_uL, gK_uR, gK_uCI, gK_uCL, gN_uI, gN_uL, gN_uR, gN_uCI, gN_uCL, gR_uI, gR_uL, gR_uCI, gR_uCL, gI_uL, gI_uR, gI_uCL, gL_uI, gL_uR, gL_uCI, gz_uI, gz_uL, gz_uR, gz_uCI, gz_uCL, gs_uI, gs_uL, gs_uR, gs_uCI, gs_uCL, rI_at, rL_at, rR_at, rI_ne, rL_ne, rR_ne, rI_nk, rL_nk, rR_nk, rI_eq, rL_eq, rR_eq, Option.toList_some, Option.toList_none, List.cons_append, List.nil_append, List.append_nil, zc_eq, zc_lt, zc_le, zc_ge, zc_gt]
        all_goals exact hh
      · rw [if_neg c6_z] at hh
        simp (disch := omega) only [B_226_71, hs1.u, en, c6_z, B_226_87, B_226_88, inI, inL, isT, kInt, kByt, true_and, and_true, an_t, im_t, im_f, or_true, true_or, true_imp_iff, false_imp_iff, not_true_eq_false, not_false_eq_true, gK_uI, gK_uL, gK_uR, gK_uCI, gK_uCL, gN_uI, gN_uL, gN_uR, gN_uCI, gN_uCL, gR_uI, gR_uL, gR_uCI, gR_uCL, gI_uL, gI_uR, gI_uCL, gL_uI, gL_uR, gL_uCI, gz_uI, gz_uL, gz_uR, gz_uCI, gz_uCL, gs_uI, gs_uL, gs_uR, gs_uCI, gs_uCL, rI_at, rL_at, rR_at, rI_ne, rL_ne, rR_ne, rI_nk, rL_nk, rR_nk, rI_eq, rL_eq, rR_eq, Option.toList_some, Option.toList_none, List.cons_append, List.nil_append, List.append_nil, zc_eq, zc_lt, zc_le, zc_ge, zc_gt]
        all_goals exact hh
    simp (disch := omega) only [E_M_isBoxTooMuch, B_226_0, hs.u, c0_z, B_226_19, e3_z, B_226_37, ii, rr, kk, nn, e0_z, e1_z, e2_z, inI, inL, isT, kInt, kByt, true_and, and_true, an_t, im_t, im_f, or_true, true_or, true_imp_iff, false_imp_iff, not_true_eq_false, not_false_eq_true, gK_uI, gK_uL, gK_uR, gK_uCI, gK_uCL, gN_uI, gN_uL, gN_uR, gN_uCI, gN_uCL, gR_uI, gR_uL, gR_uCI, gR_uCL, gI_uL, gI_uR, gI_uCL, gL_uI, gL_uR, gL_uCI, gz_uI, gz_uL, gz_uR, gz_uCI, gz_uCL, gs_uI, gs_uL, gs_uR, gs_uCI, gs_uCL, rI_at, rL_at, rR_at, rI_ne, rL_ne, rR_ne, rI_nk, rL_nk, rR_nk, rI_eq, rL_eq, rR_eq, Option.toList_some, Option.toList_none, List.cons_append, List.nil_append, List.append_nil, zc_eq, zc_lt, zc_le, zc_ge, zc_gt]
    all_goals exact rec_z
end AT
