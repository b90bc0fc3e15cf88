/-! THE PURE PART, part 15: the model begins a run. Own work. -/
def g0 (k_z : Int) : Int := if k_z = 0 ∨ k_z = 3 ∨ (6 ≤ k_z ∧ k_z ≤ 12) then 1 else 0
def PrT (T T' : Mem) (m : Nat) : Prop := OutM m T T' ∧ (∀ a_z, a_z ≠ m → a_z ≠ m + 6 → a_z ≠ m + 17 → a_z ≠ m + 18 → a_z ≠ m + 19 → a_z ≠ m + 22 → gI T' a_z = gI T a_z) ∧ (gI T' m 45 = 1 ∧ gI T' m 46 = 0 ∧ gI T' m 49 = 0 ∧ gI T' m 50 = 0 ∧ gI T' m 35 = 0 ∧ gI T' m 33 = 0 ∧ gI T' m 19 = 0 ∧ gI T' m 25 = 0 ∧ gI T' m 26 = 0 ∧ gI T' m 27 = 0 ∧ gI T' m 36 = 0) ∧ (gI T' m 2 = gI T m 2 ∧ gI T' m 4 = gI T m 4) ∧ (∀ k_z, 0 ≤ k_z → k_z < 20 → gI T' (m + 6) k_z = g0 k_z) ∧ gI T' (m + 17) 0 = 0 ∧ gI T' (m + 18) 0 = 0 ∧ gI T' (m + 19) 0 = 0 ∧ gI T' (m + 22) 0 = 0
section BG
variable {G : Env0} {Q : Option AV → Mem → Prop} {M T : Mem} {c s m : Nat}
theorem g0_loop {T0_z : Mem} (hs0 : ShM T0_z m) (h_z : ∀ T1, Ex (fun r_z => r_z = m + 6) T0_z T1 → (∀ k_z, 0 ≤ k_z → k_z < 20 → gI T1 (m + 6) k_z = g0 k_z) → At G 197 96 [a_r m, a_i 20] [] T1 Q) : ∀ (n_z : Nat) (i_z : Int) (T1 : Mem), (20 - i_z).toNat = n_z → 0 ≤ i_z → i_z ≤ 20 → Ex (fun r_z => r_z = m + 6) T0_z T1 → (∀ k_z, 0 ≤ k_z → k_z < i_z → gI T1 (m + 6) k_z = g0 k_z) → At G 197 53 [a_r m, a_i i_z] [] T1 Q := by
  intro n_z
  induction n_z with
  | zero =>
    intro i_z T1 hn i0_z i1_z hE hk
    have e_z : i_z = 20 := by omega
    subst e_z
    have hh := h_z T1 hE hk
    rw [B_197_53]
    simp (disch := omega) only [inI, inL, isT, kInt, kByt, true_and, and_true, an_t, im_t, im_f, or_true, true_or, true_imp_iff, false_imp_iff, not_true_eq_false, not_false_eq_true, gK_uI, gK_uL, gK_uR, gK_uCI, gK_uCL, gN_uI, gN_uL, gN_uR, gN_uCI, gN_uCL, gR_uI, gR_uL, gR_uCI, gR_uCL, gI_uL, gI_uR, gI_uCL, gL_uI, gL_uR, gL_uCI, gz_uI, gz_uL, gz_uR, gz_uCI, gz_uCL, gs_uI, gs_uL, gs_uR, gs_uCI, gs_uCL, rI_at, rL_at, rR_at, rI_ne, rL_ne, rR_ne, rI_nk, rL_nk, rR_nk, rI_eq, rL_eq, rR_eq, Option.toList_some, Option.toList_none, List.cons_append, List.nil_append, List.append_nil, zc_eq, zc_lt, zc_le, zc_ge, zc_gt]
    all_goals exact hh
  | succ n_z ih_z =>
    intro i_z T1 hn i0_z i1_z hE hk
    have hs1 : ShM T1 m := Ex.sh hE hs0
    have go_z : ∀ v_z : Int, v_z = g0 i_z → At G 197 89 [a_r m, a_i i_z] [a_i v_z, a_i i_z, a_r (m + 6)] T1 Q := fun v_z hv => by
      have hh := ih_z (i_z + 1) (uI T1 (m + 6) i_z v_z) (by omega) (by omega) (by omega) (hE.uI _ _ rfl) (fun k_z k0_z k1_z => by
        by_cases e_z : k_z = i_z
        · subst e_z
          rw [rI_at]
          exact hv
        · rw [rI_nk e_z]
          exact hk k_z k0_z (by omega))
      simp (disch := omega) only [B_197_89, hs1.u, inI, inL, isT, kInt, kByt, true_and, and_true, an_t, im_t, im_f, or_true, true_or, true_imp_iff, false_imp_iff, not_true_eq_false, not_false_eq_true, gK_uI, gK_uL, gK_uR, gK_uCI, gK_uCL, gN_uI, gN_uL, gN_uR, gN_uCI, gN_uCL, gR_uI, gR_uL, gR_uCI, gR_uCL, gI_uL, gI_uR, gI_uCL, gL_uI, gL_uR, gL_uCI, gz_uI, gz_uL, gz_uR, gz_uCI, gz_uCL, gs_uI, gs_uL, gs_uR, gs_uCI, gs_uCL, rI_at, rL_at, rR_at, rI_ne, rL_ne, rR_ne, rI_nk, rL_nk, rR_nk, rI_eq, rL_eq, rR_eq, Option.toList_some, Option.toList_none, List.cons_append, List.nil_append, List.append_nil, zc_eq, zc_lt, zc_le, zc_ge, zc_gt]
      all_goals exact hh
    rw [B_197_53]
    by_cases c0_z : i_z = 0
    · have hh := go_z 1 (by rw [c0_z]; decide)
      subst c0_z
      simp (disch := omega) only [hs1.u, B_197_84, inI, inL, isT, kInt, kByt, true_and, and_true, an_t, im_t, im_f, or_true, true_or, true_imp_iff, false_imp_iff, not_true_eq_false, not_false_eq_true, gK_uI, gK_uL, gK_uR, gK_uCI, gK_uCL, gN_uI, gN_uL, gN_uR, gN_uCI, gN_uCL, gR_uI, gR_uL, gR_uCI, gR_uCL, gI_uL, gI_uR, gI_uCL, gL_uI, gL_uR, gL_uCI, gz_uI, gz_uL, gz_uR, gz_uCI, gz_uCL, gs_uI, gs_uL, gs_uR, gs_uCI, gs_uCL, rI_at, rL_at, rR_at, rI_ne, rL_ne, rR_ne, rI_nk, rL_nk, rR_nk, rI_eq, rL_eq, rR_eq, Option.toList_some, Option.toList_none, List.cons_append, List.nil_append, List.append_nil, zc_eq, zc_lt, zc_le, zc_ge, zc_gt]
      all_goals exact hh
    · by_cases c3_z : i_z = 3
      · have hh := go_z 1 (by rw [c3_z]; decide)
        subst c3_z
        simp (disch := omega) only [hs1.u, B_197_84, inI, inL, isT, kInt, kByt, true_and, and_true, an_t, im_t, im_f, or_true, true_or, true_imp_iff, false_imp_iff, not_true_eq_false, not_false_eq_true, gK_uI, gK_uL, gK_uR, gK_uCI, gK_uCL, gN_uI, gN_uL, gN_uR, gN_uCI, gN_uCL, gR_uI, gR_uL, gR_uCI, gR_uCL, gI_uL, gI_uR, gI_uCL, gL_uI, gL_uR, gL_uCI, gz_uI, gz_uL, gz_uR, gz_uCI, gz_uCL, gs_uI, gs_uL, gs_uR, gs_uCI, gs_uCL, rI_at, rL_at, rR_at, rI_ne, rL_ne, rR_ne, rI_nk, rL_nk, rR_nk, rI_eq, rL_eq, rR_eq, Option.toList_some, Option.toList_none, List.cons_append, List.nil_append, List.append_nil, zc_eq, zc_lt, zc_le, zc_ge, zc_gt]
        all_goals exact hh
      · by_cases c6_z : 6 ≤ i_z ∧ i_z ≤ 12
        · have hh := go_z 1 (by unfold g0; rw [if_pos (by omega)])
          have y_z := fun qq => Y_in (G := G) (M := T1) (Q := qq) (x_z := i_z) (y_z := 6) (w_z := 12)
          rw [zB_t c6_z] at y_z
          simp (disch := omega) only [hs1.u, c0_z, c3_z, y_z, B_197_81, B_197_84, inI, inL, isT, kInt, kByt, true_and, and_true, an_t, im_t, im_f, or_true, true_or, true_imp_iff, false_imp_iff, not_true_eq_false, not_false_eq_true, gK_uI, gK_uL, gK_uR, gK_uCI, gK_uCL, gN_uI, gN_uL, gN_uR, gN_uCI, gN_uCL, gR_uI, gR_uL, gR_uCI, gR_uCL, gI_uL, gI_uR, gI_uCL, gL_uI, gL_uR, gL_uCI, gz_uI, gz_uL, gz_uR, gz_uCI, gz_uCL, gs_uI, gs_uL, gs_uR, gs_uCI, gs_uCL, rI_at, rL_at, rR_at, rI_ne, rL_ne, rR_ne, rI_nk, rL_nk, rR_nk, rI_eq, rL_eq, rR_eq, Option.toList_some, Option.toList_none, List.cons_append, List.nil_append, List.append_nil, zc_eq, zc_lt, zc_le, zc_ge, zc_gt]
          all_goals exact hh
        · have hh := go_z 0 (by unfold g0; rw [if_neg (by omega)])
          have y_z := fun qq => Y_in (G := G) (M := T1) (Q := qq) (x_z := i_z) (y_z := 6) (w_z := 12)
          rw [zB_f c6_z] at y_z
          simp (disch := omega) only [hs1.u, c0_z, c3_z, y_z, B_197_81, B_197_88, inI, inL, isT, kInt, kByt, true_and, and_true, an_t, im_t, im_f, or_true, true_or, true_imp_iff, false_imp_iff, not_true_eq_false, not_false_eq_true, gK_uI, gK_uL, gK_uR, gK_uCI, gK_uCL, gN_uI, gN_uL, gN_uR, gN_uCI, gN_uCL, gR_uI, gR_uL, gR_uCI, gR_uCL, gI_uL, gI_uR, gI_uCL, gL_uI, gL_uR, gL_uCI, gz_uI, gz_uL, gz_uR, gz_uCI, gz_uCL, gs_uI, gs_uL, gs_uR, gs_uCI, gs_uCL, rI_at, rL_at, rR_at, rI_ne, rL_ne, rR_ne, rI_nk, rL_nk, rR_nk, rI_eq, rL_eq, rR_eq, Option.toList_some, Option.toList_none, List.cons_append, List.nil_append, List.append_nil, zc_eq, zc_lt, zc_le, zc_ge, zc_gt]
          all_goals exact hh
theorem X_runT0 (hs : ShM T m) (h0 : 0 ≤ gI T (m + 1) 0) (h_z : ∀ T1, PrT T T1 m → At G 197 131 [a_r m, a_i 1] [] T1 Q) : Call G J_M_run [a_r m] T Q := by
  obtain ⟨T0_z, e0_z⟩ : ∃ T0_z, T0_z = uI (uI (uI (uI (uI (uI (uI (uI (uI (uI T m 45 1) m 46 0) m 49 0) m 50 0) m 35 0) m 33 0) m 19 0) m 25 0) m 26 0) m 27 0 := ⟨_, rfl⟩
  have hE0 : Ex (fun r_z => r_z = m) T T0_z := by
    rw [e0_z]
    exact ((((((((((Ex.refl (fun r_z => r_z = m) T).uI _ _ rfl).uI _ _ rfl).uI _ _ rfl).uI _ _ rfl).uI _ _ rfl).uI _ _ rfl).uI _ _ rfl).uI _ _ rfl).uI _ _ rfl).uI _ _ rfl
  have hs0 : ShM T0_z m := Ex.sh hE0 hs
  have f0_z : gI T0_z m 45 = 1 ∧ gI T0_z m 46 = 0 ∧ gI T0_z m 49 = 0 ∧ gI T0_z m 50 = 0 ∧ gI T0_z m 35 = 0 ∧ gI T0_z m 33 = 0 ∧ gI T0_z m 19 = 0 ∧ gI T0_z m 25 = 0 ∧ gI T0_z m 26 = 0 ∧ gI T0_z m 27 = 0 ∧ gI T0_z m 2 = gI T m 2 ∧ gI T0_z m 4 = gI T m 4 := by
    rw [e0_z]
    simp only [rI_nk, rI_at, ne_eq, Int.reduceEq, not_false_eq_true, and_true, true_and]
  have lp : At G 197 53 [a_r m, a_i 0] [] T0_z Q := by
    refine g0_loop hs0 (fun T1 hE hk => ?_) 20 0 T0_z rfl (by decide) (by decide) (Ex.refl _ _) (fun k_z k0_z k1_z => by omega)
    have hs1 : ShM T1 m := Ex.sh hE hs0
    have m1_z : gI T1 m = gI T0_z m := (hE.2.2.2.2.2 m (by omega)).1
    have oE : OutM m T (uI (uI (uI (uI (uI T1 m 36 0) (m + 17) 0 0) (m + 18) 0 0) (m + 19) 0 0) (m + 22) 0 0) := (((((hE0.mono (fun a_z ha_z => by omega)).trans (hE.mono (fun a_z ha_z => by omega))).uI _ _ (by omega)).uI _ _ (by omega)).uI _ _ (by omega)).uI _ _ (by omega) |>.uI _ _ (by omega)
    have fin_z := h_z (uI (uI (uI (uI (uI T1 m 36 0) (m + 17) 0 0) (m + 18) 0 0) (m + 19) 0 0) (m + 22) 0 0) ?_
    · simp (disch := omega) only [B_197_96, hs1.u, B_197_108, B_197_122, inI, inL, isT, kInt, kByt, true_and, and_true, an_t, im_t, im_f, or_true, true_or, true_imp_iff, false_imp_iff, not_true_eq_false, not_false_eq_true, gK_uI, gK_uL, gK_uR, gK_uCI, gK_uCL, gN_uI, gN_uL, gN_uR, gN_uCI, gN_uCL, gR_uI, gR_uL, gR_uCI, gR_uCL, gI_uL, gI_uR, gI_uCL, gL_uI, gL_uR, gL_uCI, gz_uI, gz_uL, gz_uR, gz_uCI, gz_uCL, gs_uI, gs_uL, gs_uR, gs_uCI, gs_uCL, rI_at, rL_at, rR_at, rI_ne, rL_ne, rR_ne, rI_nk, rL_nk, rR_nk, rI_eq, rL_eq, rR_eq, Option.toList_some, Option.toList_none, List.cons_append, List.nil_append, List.append_nil, zc_eq, zc_lt, zc_le, zc_ge, zc_gt]
      all_goals exact fin_z
    · obtain ⟨a1_z, a2, a3, a4, a5, a6, a7, a8, a9, a10, a11, a12⟩ := f0_z
      have fm : ∀ j_z, j_z ≠ 36 → gI (uI (uI (uI (uI (uI T1 m 36 0) (m + 17) 0 0) (m + 18) 0 0) (m + 19) 0 0) (m + 22) 0 0) m j_z = gI T0_z m j_z := fun j_z n0_z => by
        rw [rI_ne (by omega), rI_ne (by omega), rI_ne (by omega), rI_ne (by omega), rI_nk n0_z, m1_z]
      refine ⟨oE, fun a_z n0_z n1_z n2_z n3_z n4_z n5_z => ?_, ⟨?_, ?_, ?_, ?_, ?_, ?_, ?_, ?_, ?_, ?_, ?_⟩, ⟨?_, ?_⟩, fun k_z k0_z k1_z => ?_, ?_, ?_, ?_, rI_at⟩
      · rw [rI_ne n5_z, rI_ne n4_z, rI_ne n3_z, rI_ne n2_z, rI_ne n0_z, (hE.2.2.2.2.2 a_z n1_z).1, (hE0.2.2.2.2.2 a_z n0_z).1]
      · rw [fm 45 (by decide)]; exact a1_z
      · rw [fm 46 (by decide)]; exact a2
      · rw [fm 49 (by decide)]; exact a3
      · rw [fm 50 (by decide)]; exact a4
      · rw [fm 35 (by decide)]; exact a5
      · rw [fm 33 (by decide)]; exact a6
      · rw [fm 19 (by decide)]; exact a7
      · rw [fm 25 (by decide)]; exact a8
      · rw [fm 26 (by decide)]; exact a9
      · rw [fm 27 (by decide)]; exact a10
      · rw [rI_ne (by omega), rI_ne (by omega), rI_ne (by omega), rI_ne (by omega), rI_at]
      · rw [fm 2 (by decide)]; exact a11
      · rw [fm 4 (by decide)]; exact a12
      · rw [rI_ne (by omega), rI_ne (by omega), rI_ne (by omega), rI_ne (by omega), rI_ne (by omega)]
        exact hk k_z k0_z k1_z
      · rw [rI_ne (by omega), rI_ne (by omega), rI_ne (by omega), rI_at]
      · rw [rI_ne (by omega), rI_ne (by omega), rI_at]
      · rw [rI_ne (by omega), rI_at]
  have hsB : ShM (uI (uI (uI (uI (uI (uI (uI T m 45 1) m 46 0) m 49 0) m 50 0) m 35 0) m 33 0) m 19 0) m := hs
  have em := fun qq => X_empties (G := G) (Q := qq) hsB
  rw [← e0_z] at em
  simp (disch := omega) only [E_M_run, B_197_0, hs.u, h0, B_197_12, B_197_22, B_197_32, B_197_42, em, B_197_51, gK_uI, gR_uI, inI, inL, isT, kInt, kByt, true_and, and_true, an_t, im_t, im_f, or_true, true_or, true_imp_iff, false_imp_iff, not_true_eq_false, not_false_eq_true, Option.toList_some, Option.toList_none, List.cons_append, List.nil_append, List.append_nil, zc_eq, zc_lt, zc_le, zc_ge, zc_gt]
  all_goals exact lp
end BG
