/-! THE PURE PART, part 16: the model saves its row. Own work. -/
section CE
variable {G : Env0} {Q : Option AV → Mem → Prop} {M : Mem} {m : Nat}
theorem ms_loop2 {M0 : Mem} {n_z : Int} (hs0 : ShM M0 m) (hn : gI M0 m 2 = n_z) (n0_z : 0 ≤ n_z) (n1_z : n_z < 6) (h_z : ∀ M1_z, Ex (fun r_z => r_z = m + 2) M0 M1_z → (∀ k_z, 0 ≤ k_z → k_z < 1216 → gI M1_z (m + 2) (1216 * n_z + k_z) = gI M0 (m + 1) k_z) → (∀ j_z, j_z < 1216 * n_z → gI M1_z (m + 2) j_z = gI M0 (m + 2) j_z) → Q none (uI M1_z m 2 (n_z + 1))) : ∀ (k_z : Nat) (i_z : Int) (M1_z : Mem), (1216 - i_z).toNat = k_z → 0 ≤ i_z → i_z ≤ 1216 → Ex (fun r_z => r_z = m + 2) M0 M1_z → (∀ k_z, 0 ≤ k_z → k_z < i_z → gI M1_z (m + 2) (1216 * n_z + k_z) = gI M0 (m + 1) k_z) → (∀ j_z, j_z < 1216 * n_z → gI M1_z (m + 2) j_z = gI M0 (m + 2) j_z) → At G 185 52 [a_r m, a_i i_z] [] M1_z Q := by
  intro k_z
  induction k_z with
  | zero =>
    intro i_z M1_z hk i0_z i1_z hE hx hy
    have e_z : i_z = 1216 := by omega
    subst e_z
    have hs1 : ShM M1_z m := Ex.sh hE hs0
    have hn1 : gI M1_z m 2 = n_z := by rw [(hE.2.2.2.2.2 m (by omega)).1]; exact hn
    have hh := h_z M1_z hE hx hy
    rw [B_185_52]
    simp (disch := omega) only [B_185_86, hs1.u, hn1, inI, inL, isT, kInt, kByt, true_and, and_true, an_t, im_t, im_f, or_true, true_or, true_imp_iff, false_imp_iff, not_true_eq_false, not_false_eq_true, gK_uI, gK_uL, gK_uR, gK_uCI, gK_uCL, gN_uI, gN_uL, gN_uR, gN_uCI, gN_uCL, gR_uI, gR_uL, gR_uCI, gR_uCL, gI_uL, gI_uR, gI_uCL, gL_uI, gL_uR, gL_uCI, gz_uI, gz_uL, gz_uR, gz_uCI, gz_uCL, gs_uI, gs_uL, gs_uR, gs_uCI, gs_uCL, rI_at, rL_at, rR_at, rI_ne, rL_ne, rR_ne, rI_nk, rL_nk, rR_nk, rI_eq, rL_eq, rR_eq, Option.toList_some, Option.toList_none, List.cons_append, List.nil_append, List.append_nil, zc_eq, zc_lt, zc_le, zc_ge, zc_gt]
    all_goals exact hh
  | succ k_z ih_z =>
    intro i_z M1_z hk i0_z i1_z hE hx hy
    have hs1 : ShM M1_z m := Ex.sh hE hs0
    have hn1 : gI M1_z m 2 = n_z := by rw [(hE.2.2.2.2.2 m (by omega)).1]; exact hn
    have r1_z : gI M1_z (m + 1) = gI M0 (m + 1) := (hE.2.2.2.2.2 _ (by omega)).1
    have hh := ih_z (i_z + 1) (uI M1_z (m + 2) (1216 * n_z + i_z) (gI M1_z (m + 1) i_z)) (by omega) (by omega) (by omega) (hE.uI _ _ rfl) (fun x_z x0_z x1_z => by
      by_cases e_z : x_z = i_z
      · subst e_z
        rw [rI_at, r1_z]
      · rw [rI_nk (by omega)]
        exact hx x_z x0_z (by omega)) (fun j_z hj => by rw [rI_nk (by omega)]; exact hy j_z hj)
    rw [B_185_52]
    simp (disch := omega) only [hs1.u, hn1, inI, inL, isT, kInt, kByt, true_and, and_true, an_t, im_t, im_f, or_true, true_or, true_imp_iff, false_imp_iff, not_true_eq_false, not_false_eq_true, gK_uI, gK_uL, gK_uR, gK_uCI, gK_uCL, gN_uI, gN_uL, gN_uR, gN_uCI, gN_uCL, gR_uI, gR_uL, gR_uCI, gR_uCL, gI_uL, gI_uR, gI_uCL, gL_uI, gL_uR, gL_uCI, gz_uI, gz_uL, gz_uR, gz_uCI, gz_uCL, gs_uI, gs_uL, gs_uR, gs_uCI, gs_uCL, rI_at, rL_at, rR_at, rI_ne, rL_ne, rR_ne, rI_nk, rL_nk, rR_nk, rI_eq, rL_eq, rR_eq, Option.toList_some, Option.toList_none, List.cons_append, List.nil_append, List.append_nil, zc_eq, zc_lt, zc_le, zc_ge, zc_gt]
    all_goals exact hh
theorem ms_loop1 {M0 : Mem} (hs0 : ShM M0 m) (hn : gI M0 m 2 = 6) (h_z : ∀ M1_z, Ex (fun r_z => r_z = m + 2) M0 M1_z → (∀ k_z, 0 ≤ k_z → k_z < 6080 → gI M1_z (m + 2) k_z = gI M0 (m + 2) (k_z + 1216)) → At G 185 50 [a_r m, a_i 6080] [] (uI M1_z m 2 5) Q) : ∀ (k_z : Nat) (i_z : Int) (M1_z : Mem), (6080 - i_z).toNat = k_z → 0 ≤ i_z → i_z ≤ 6080 → Ex (fun r_z => r_z = m + 2) M0 M1_z → (∀ k_z, 0 ≤ k_z → k_z < i_z → gI M1_z (m + 2) k_z = gI M0 (m + 2) (k_z + 1216)) → (∀ k_z, i_z ≤ k_z → gI M1_z (m + 2) k_z = gI M0 (m + 2) k_z) → At G 185 11 [a_r m, a_i i_z] [] M1_z Q := by
  intro k_z
  induction k_z with
  | zero =>
    intro i_z M1_z hk i0_z i1_z hE hx hy
    have e_z : i_z = 6080 := by omega
    subst e_z
    have hs1 : ShM M1_z m := Ex.sh hE hs0
    have hn1 : gI M1_z m 2 = 6 := by rw [(hE.2.2.2.2.2 m (by omega)).1]; exact hn
    have hh := h_z M1_z hE hx
    have e5_z : (6 : Int) - 1 = 5 := by decide
    rw [B_185_11]
    simp (disch := omega) only [B_185_40, hs1.u, hn1, e5_z, inI, inL, isT, kInt, kByt, true_and, and_true, an_t, im_t, im_f, or_true, true_or, true_imp_iff, false_imp_iff, not_true_eq_false, not_false_eq_true, gK_uI, gK_uL, gK_uR, gK_uCI, gK_uCL, gN_uI, gN_uL, gN_uR, gN_uCI, gN_uCL, gR_uI, gR_uL, gR_uCI, gR_uCL, gI_uL, gI_uR, gI_uCL, gL_uI, gL_uR, gL_uCI, gz_uI, gz_uL, gz_uR, gz_uCI, gz_uCL, gs_uI, gs_uL, gs_uR, gs_uCI, gs_uCL, rI_at, rL_at, rR_at, rI_ne, rL_ne, rR_ne, rI_nk, rL_nk, rR_nk, rI_eq, rL_eq, rR_eq, Option.toList_some, Option.toList_none, List.cons_append, List.nil_append, List.append_nil, zc_eq, zc_lt, zc_le, zc_ge, zc_gt]
    all_goals exact hh
  | succ k_z ih_z =>
    intro i_z M1_z hk i0_z i1_z hE hx hy
    have hs1 : ShM M1_z m := Ex.sh hE hs0
    have hh := ih_z (i_z + 1) (uI M1_z (m + 2) i_z (gI M1_z (m + 2) (i_z + 1216))) (by omega) (by omega) (by omega) (hE.uI _ _ rfl) (fun x_z x0_z x1_z => by
      by_cases e_z : x_z = i_z
      · subst e_z
        rw [rI_at, hy (x_z + 1216) (by omega)]
      · rw [rI_nk e_z]
        exact hx x_z x0_z (by omega)) (fun j_z hj => by rw [rI_nk (by omega)]; exact hy j_z (by omega))
    rw [B_185_11]
    simp (disch := omega) only [hs1.u, inI, inL, isT, kInt, kByt, true_and, and_true, an_t, im_t, im_f, or_true, true_or, true_imp_iff, false_imp_iff, not_true_eq_false, not_false_eq_true, gK_uI, gK_uL, gK_uR, gK_uCI, gK_uCL, gN_uI, gN_uL, gN_uR, gN_uCI, gN_uCL, gR_uI, gR_uL, gR_uCI, gR_uCL, gI_uL, gI_uR, gI_uCL, gL_uI, gL_uR, gL_uCI, gz_uI, gz_uL, gz_uR, gz_uCI, gz_uCL, gs_uI, gs_uL, gs_uR, gs_uCI, gs_uCL, rI_at, rL_at, rR_at, rI_ne, rL_ne, rR_ne, rI_nk, rL_nk, rR_nk, rI_eq, rL_eq, rR_eq, Option.toList_some, Option.toList_none, List.cons_append, List.nil_append, List.append_nil, zc_eq, zc_lt, zc_le, zc_ge, zc_gt]
    all_goals exact hh
theorem X_Msave {n_z : Nat} {f_z : Int → Int} {ps_z : Nat → Int → Int} {tl : Int} {tx : Int → Int} (hM_z : MoI M m n_z f_z ps_z tl tx) (n6_z : n_z ≤ 6) (h_z : ∀ M', Ex (fun r_z => r_z = m ∨ r_z = m + 2) M M' → (∀ j_z, j_z ≠ 2 → gI M' m j_z = gI M m j_z) → MoI M' m (svN n_z) f_z (svP n_z ps_z f_z) tl tx → Q none M') : Call G J_M_save [a_r m] M Q := by
  obtain ⟨a1_z, a2, a3, a4, a5, a6⟩ := hM_z
  by_cases c6_z : n_z = 6
  · subst c6_z
    have lp : At G 185 11 [a_r m, a_i 0] [] M Q := by
      refine ms_loop1 a1_z a2 (fun M1_z hE hx => ?_) 6080 0 M rfl (by decide) (by decide) (Ex.refl _ _) (fun x_z x0_z x1_z => by omega) (fun _ _ => rfl)
      have hs1' : ShM M1_z m := Ex.sh hE a1_z
      have hs1 : ShM (uI M1_z m 2 5) m := hs1'
      have lp2 : At G 185 52 [a_r m, a_i 0] [] (uI M1_z m 2 5) Q := by
        refine ms_loop2 (n_z := 5) hs1 rI_at (by decide) (by decide) (fun M2_z hE2 hx2 hy2 => ?_) 1216 0 _ rfl (by decide) (by decide) (Ex.refl _ _) (fun x_z x0_z x1_z => by omega) (fun _ _ => rfl)
        have r2 : ∀ a_z, a_z ≠ m → a_z ≠ m + 2 → gI M2_z a_z = gI M a_z := fun a_z q0 q1_z => by rw [(hE2.2.2.2.2.2 a_z q1_z).1, rI_ne q0, (hE.2.2.2.2.2 a_z q1_z).1]
        have rm : ∀ j_z, j_z ≠ 2 → gI M2_z m j_z = gI M m j_z := fun j_z q_z => by rw [(hE2.2.2.2.2.2 m (by omega)).1, rI_nk q_z, (hE.2.2.2.2.2 m (by omega)).1]
        have e6_z : (5 : Int) + 1 = 6 := by decide
        have oE : Ex (fun r_z => r_z = m ∨ r_z = m + 2) M (uI M2_z m 2 (5 + 1)) := Ex.uI (Ex.trans (Ex.uI (P_z := fun r_z => r_z = m ∨ r_z = m + 2) (hE.mono (fun a_z q_z => Or.inr q_z)) 2 5 (Or.inl rfl)) (hE2.mono (fun a_z q_z => Or.inr q_z))) 2 (5 + 1) (Or.inl rfl)
        refine h_z _ oE (fun j_z q_z => by rw [rI_nk q_z]; exact rm j_z q_z) ⟨show ShM M2_z m from Ex.sh hE2 hs1, by rw [rI_at]; rfl, by rw [rI_ne (by omega), r2 _ (by omega) (by omega)]; exact a3, fun i_z hi_z k_z k0_z k1_z => ?_, by rw [rI_nk (by decide), rm 4 (by decide)]; exact a5, fun i_z i0_z i1_z => by rw [rI_ne (by omega), r2 _ (by omega) (by omega)]; exact a6 i_z i0_z i1_z⟩
        have hi6 : i_z < 6 := hi_z
        rw [rI_ne (by omega)]
        show _ = psA (fun i_z => ps_z (i_z + 1)) 5 f_z i_z k_z
        unfold psA
        by_cases c5_z : i_z = 5
        · subst c5_z
          rw [if_pos rfl]
          have q_z := hx2 k_z k0_z k1_z
          rw [rI_ne (by omega), (hE.2.2.2.2.2 (m + 1) (by omega)).1, a3] at q_z
          exact q_z
        · rw [if_neg c5_z, hy2 _ (by omega), rI_ne (by omega), hx _ (by omega) (by omega), show (1216 * (i_z : Int) + k_z + 1216) = 1216 * ((i_z + 1 : Nat) : Int) + k_z from by omega]
          exact a4 (i_z + 1) (by omega) k_z k0_z k1_z
      rw [B_185_50]
      exact lp2
    have q6_z : gI M m 2 = 6 := a2
    simp (disch := omega) only [E_M_save, B_185_0, a1_z.u, q6_z, not_true_eq_false, inI, inL, isT, kInt, kByt, true_and, and_true, an_t, im_t, im_f, or_true, true_or, true_imp_iff, false_imp_iff, not_true_eq_false, not_false_eq_true, gK_uI, gK_uL, gK_uR, gK_uCI, gK_uCL, gN_uI, gN_uL, gN_uR, gN_uCI, gN_uCL, gR_uI, gR_uL, gR_uCI, gR_uCL, gI_uL, gI_uR, gI_uCL, gL_uI, gL_uR, gL_uCI, gz_uI, gz_uL, gz_uR, gz_uCI, gz_uCL, gs_uI, gs_uL, gs_uR, gs_uCI, gs_uCL, rI_at, rL_at, rR_at, rI_ne, rL_ne, rR_ne, rI_nk, rL_nk, rR_nk, rI_eq, rL_eq, rR_eq, Option.toList_some, Option.toList_none, List.cons_append, List.nil_append, List.append_nil, zc_eq, zc_lt, zc_le, zc_ge, zc_gt]
    all_goals exact lp
  · have lp2 : At G 185 52 [a_r m, a_i 0] [] M Q := by
      refine ms_loop2 (n_z := (n_z : Int)) a1_z a2 (by omega) (by omega) (fun M2_z hE2 hx2 hy2 => ?_) 1216 0 _ rfl (by decide) (by decide) (Ex.refl _ _) (fun x_z x0_z x1_z => by omega) (fun _ _ => rfl)
      have r2 : ∀ a_z, a_z ≠ m + 2 → gI M2_z a_z = gI M a_z := fun a_z q1_z => (hE2.2.2.2.2.2 a_z q1_z).1
      have oE : Ex (fun r_z => r_z = m ∨ r_z = m + 2) M (uI M2_z m 2 ((n_z : Int) + 1)) := Ex.uI (P_z := fun r_z => r_z = m ∨ r_z = m + 2) (hE2.mono (fun a_z q_z => Or.inr q_z)) 2 _ (Or.inl rfl)
      refine h_z _ oE (fun j_z q_z => by rw [rI_nk q_z, r2 m (by omega)]) ⟨show ShM M2_z m from Ex.sh hE2 a1_z, by rw [rI_at]; unfold svN; rw [if_neg c6_z]; omega, by rw [rI_ne (by omega), r2 _ (by omega)]; exact a3, fun i_z hi_z k_z k0_z k1_z => ?_, by rw [rI_nk (by decide), r2 m (by omega)]; exact a5, fun i_z i0_z i1_z => by rw [rI_ne (by omega), r2 _ (by omega)]; exact a6 i_z i0_z i1_z⟩
      unfold svN at hi_z
      rw [if_neg c6_z] at hi_z
      unfold svP
      rw [if_neg c6_z, rI_ne (by omega)]
      unfold psA
      by_cases c5_z : i_z = n_z
      · subst c5_z
        rw [if_pos rfl, hx2 k_z k0_z k1_z, a3]
      · rw [if_neg c5_z, hy2 _ (by omega)]
        exact a4 i_z (by omega) k_z k0_z k1_z
    have q6_z : ¬ gI M m 2 = 6 := by omega
    simp (disch := omega) only [E_M_save, B_185_0, a1_z.u, q6_z, B_185_50, not_false_eq_true, inI, inL, isT, kInt, kByt, true_and, and_true, an_t, im_t, im_f, or_true, true_or, true_imp_iff, false_imp_iff, not_true_eq_false, not_false_eq_true, gK_uI, gK_uL, gK_uR, gK_uCI, gK_uCL, gN_uI, gN_uL, gN_uR, gN_uCI, gN_uCL, gR_uI, gR_uL, gR_uCI, gR_uCL, gI_uL, gI_uR, gI_uCL, gL_uI, gL_uR, gL_uCI, gz_uI, gz_uL, gz_uR, gz_uCI, gz_uCL, gs_uI, gs_uL, gs_uR, gs_uCI, gs_uCL, rI_at, rL_at, rR_at, rI_ne, rL_ne, rR_ne, rI_nk, rL_nk, rR_nk, rI_eq, rL_eq, rR_eq, Option.toList_some, Option.toList_none, List.cons_append, List.nil_append, List.append_nil]
    all_goals exact lp2
end CE
