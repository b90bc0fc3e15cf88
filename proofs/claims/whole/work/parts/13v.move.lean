/-! THE PURE PART, part 13: a point is added. Own work. -/
section MB
variable {G : Env0} {Q : Option AV → Mem → Prop} {M T : Mem} {c s m r : Nat}
/-- the pool with one more point -/
def pAdd1 (M : Mem) (p_z : Nat) (k_z x_z y_z b_z : Int) : Mem := uI (uI (uI (uI M (p_z + 1) k_z x_z) (p_z + 2) k_z y_z) (p_z + 3) k_z b_z) p_z 6 (k_z + 1)
theorem X_padd {k_z x_z y_z b_z : Int} (hs : ShPa M r) (hk : gI M r 6 = k_z) (k0_z : 0 ≤ k_z) (k1_z : k_z < 800) (hb_z : b_z = 0 ∨ b_z = 1) : Call G J_Pa_add [a_r r, a_i x_z, a_i y_z, a_i b_z] M Q ↔ Q none (pAdd1 M r k_z x_z y_z b_z) := by
  unfold pAdd1
  simp (disch := omega) only [E_Pa_add, B_103_0, B_103_37, B_103_57, hs.u, hk, inI, inL, isT, kInt, kByt, true_and, and_true, an_t, im_t, im_f, or_true, true_or, true_imp_iff, false_imp_iff, not_true_eq_false, not_false_eq_true, gK_uI, gK_uL, gK_uR, gK_uCI, gK_uCL, gN_uI, gN_uL, gN_uR, gN_uCI, gN_uCL, gR_uI, gR_uL, gR_uCI, gR_uCL, gI_uL, gI_uR, gI_uCL, gL_uI, gL_uR, gL_uCI, gz_uI, gz_uL, gz_uR, gz_uCI, gz_uCL, gs_uI, gs_uL, gs_uR, gs_uCI, gs_uCL, rI_at, rL_at, rR_at, rI_ne, rL_ne, rR_ne, rI_nk, rL_nk, rR_nk, rI_eq, rL_eq, rR_eq, Option.toList_some, Option.toList_none, List.cons_append, List.nil_append, List.append_nil, zc_eq, zc_lt, zc_le, zc_ge, zc_gt]
theorem six_b (v_z : Int) : -16000 ≤ six v_z ∧ six v_z ≤ 16001 := by
  unfold six
  split
  · omega
  · split <;> omega
/-- the class adds a point, or finds it too far -/
theorem X_addPt {w_z v1_z v0_z tp e_z n_z k_z b_z X_z Y : Int} {g_z : Nat} (hs : ShMa M c) (hf : ShFr M r) (hw : gI M r 6 = w_z) (w0_z : 2 ≤ w_z) (w1_z : w_z ≤ 16) (o1 : gL M (r + 1) (w_z - 2) = v1_z) (o0_z : gL M (r + 1) (w_z - 1) = v0_z) (n1_z : NV v1_z) (n0_z : NV v0_z) (ht : gI M c 12 = tp) (t0_z : 0 ≤ tp) (t1_z : tp < 35) (hg : c + 42 + 3 * tp.toNat = g_z) (hm_z : ∀ i_z : Int, 0 ≤ i_z → i_z < 6 → NV (gL M (g_z + 1) i_z)) (hX : dv (gL M (g_z + 1)) v1_z v0_z 0 = X_z) (hY : dv (gL M (g_z + 1)) v1_z v0_z 1 = Y) (he : gI M (c + 4) 5 = e_z) (e0_z : 0 ≤ e_z) (e1_z : e_z ≤ 200) (hk : gI M (c + 4) 6 = k_z) (k0_z : 0 ≤ k_z) (k1_z : k_z < 800) (hn : gI M (c + 4 + 4) e_z = k_z - n_z) (n2_z : 0 ≤ n_z) (n3_z : n_z ≤ k_z) (hb_z : b_z = 0 ∨ b_z = 1)
    (h6 : (n_z = 24 ∨ X_z = 16001 ∨ Y = 16001) → n_z ≤ 24 → Q (some (a_i 6)) M) (h0 : ¬ (n_z = 24 ∨ X_z = 16001 ∨ Y = 16001) → Q (some (a_i 0)) (uI (pAdd1 M (c + 4) k_z X_z Y b_z) r 6 (w_z - 2))) (n4_z : n_z ≤ 24) (hr : r ≠ c + 4 ∧ r ≠ c + 5 ∧ r ≠ c + 6 ∧ r ≠ c + 7) : Call G J_Ma_addPoint [a_r c, a_r r, a_i b_z] M Q := by
  have sG := hs.gr (d_z := tp) t0_z t1_z
  rw [hg] at sG
  obtain ⟨sG1, sG2⟩ := sG
  have sP : ShPa M (c + 4) := hs.2.1
  have hP0 := fun qq => X_peek (G := G) (Q := qq) (x_z := 0) hf (by decide) (by omega) (by omega)
  have hP1 := fun qq => X_peek (G := G) (Q := qq) (x_z := 1) hf (by decide) (by omega) (by omega)
  rw [hw, Int.sub_zero, o0_z] at hP0
  rw [hw, show w_z - 1 - 1 = w_z - 2 from by omega, o1] at hP1
  have hpp := fun qq => X_presentPts (G := G) (Q := qq) (M := M) (r := c + 4) sP (by omega) (by omega) (by rw [he, hn]; omega) (by rw [he, hn]; omega) (by omega) (by omega)
  rw [he, hk, hn] at hpp
  have tail_z : At G 97 47 [a_r c, a_r r, a_i b_z, a_i X_z, a_u] [a_i Y] M Q := by
    simp (disch := omega) only [B_97_47, hs.1.u, sP.u, hpp, inI, inL, isT, kInt, kByt, true_and, and_true, an_t, im_t, im_f, or_true, true_or, true_imp_iff, false_imp_iff, not_true_eq_false, not_false_eq_true, gK_uI, gK_uL, gK_uR, gK_uCI, gK_uCL, gN_uI, gN_uL, gN_uR, gN_uCI, gN_uCL, gR_uI, gR_uL, gR_uCI, gR_uCL, gI_uL, gI_uR, gI_uCL, gL_uI, gL_uR, gL_uCI, gz_uI, gz_uL, gz_uR, gz_uCI, gz_uCL, gs_uI, gs_uL, gs_uR, gs_uCI, gs_uCL, rI_at, rL_at, rR_at, rI_ne, rL_ne, rR_ne, rI_nk, rL_nk, rR_nk, rI_eq, rL_eq, rR_eq, Option.toList_some, Option.toList_none, List.cons_append, List.nil_append, List.append_nil, zc_eq, zc_lt, zc_le, zc_ge, zc_gt]
    by_cases cc : n_z = 24 ∨ X_z = 16001 ∨ Y = 16001
    · have hh := h6 cc n4_z
      rcases cc with q_z | q_z | q_z
      · subst q_z
        simp (disch := omega) only [B_97_56, B_97_78, inI, inL, isT, kInt, kByt, true_and, and_true, an_t, im_t, im_f, or_true, true_or, true_imp_iff, false_imp_iff, not_true_eq_false, not_false_eq_true, gK_uI, gK_uL, gK_uR, gK_uCI, gK_uCL, gN_uI, gN_uL, gN_uR, gN_uCI, gN_uCL, gR_uI, gR_uL, gR_uCI, gR_uCL, gI_uL, gI_uR, gI_uCL, gL_uI, gL_uR, gL_uCI, gz_uI, gz_uL, gz_uR, gz_uCI, gz_uCL, gs_uI, gs_uL, gs_uR, gs_uCI, gs_uCL, rI_at, rL_at, rR_at, rI_ne, rL_ne, rR_ne, rI_nk, rL_nk, rR_nk, rI_eq, rL_eq, rR_eq, Option.toList_some, Option.toList_none, List.cons_append, List.nil_append, List.append_nil, zc_eq, zc_lt, zc_le, zc_ge, zc_gt]
        all_goals exact hh
      · subst q_z
        by_cases c1_z : 24 < k_z - (k_z - n_z) + 1
        · simp (disch := omega) only [B_97_56, B_97_78, c1_z, inI, inL, isT, kInt, kByt, true_and, and_true, an_t, im_t, im_f, or_true, true_or, true_imp_iff, false_imp_iff, not_true_eq_false, not_false_eq_true, gK_uI, gK_uL, gK_uR, gK_uCI, gK_uCL, gN_uI, gN_uL, gN_uR, gN_uCI, gN_uCL, gR_uI, gR_uL, gR_uCI, gR_uCL, gI_uL, gI_uR, gI_uCL, gL_uI, gL_uR, gL_uCI, gz_uI, gz_uL, gz_uR, gz_uCI, gz_uCL, gs_uI, gs_uL, gs_uR, gs_uCI, gs_uCL, rI_at, rL_at, rR_at, rI_ne, rL_ne, rR_ne, rI_nk, rL_nk, rR_nk, rI_eq, rL_eq, rR_eq, Option.toList_some, Option.toList_none, List.cons_append, List.nil_append, List.append_nil, zc_eq, zc_lt, zc_le, zc_ge, zc_gt]
          all_goals exact hh
        · simp (disch := omega) only [B_97_56, B_97_78, c1_z, inI, inL, isT, kInt, kByt, true_and, and_true, an_t, im_t, im_f, or_true, true_or, true_imp_iff, false_imp_iff, not_true_eq_false, not_false_eq_true, gK_uI, gK_uL, gK_uR, gK_uCI, gK_uCL, gN_uI, gN_uL, gN_uR, gN_uCI, gN_uCL, gR_uI, gR_uL, gR_uCI, gR_uCL, gI_uL, gI_uR, gI_uCL, gL_uI, gL_uR, gL_uCI, gz_uI, gz_uL, gz_uR, gz_uCI, gz_uCL, gs_uI, gs_uL, gs_uR, gs_uCI, gs_uCL, rI_at, rL_at, rR_at, rI_ne, rL_ne, rR_ne, rI_nk, rL_nk, rR_nk, rI_eq, rL_eq, rR_eq, Option.toList_some, Option.toList_none, List.cons_append, List.nil_append, List.append_nil, zc_eq, zc_lt, zc_le, zc_ge, zc_gt]
          all_goals exact hh
      · subst q_z
        by_cases c1_z : 24 < k_z - (k_z - n_z) + 1
        · simp (disch := omega) only [B_97_56, B_97_78, c1_z, inI, inL, isT, kInt, kByt, true_and, and_true, an_t, im_t, im_f, or_true, true_or, true_imp_iff, false_imp_iff, not_true_eq_false, not_false_eq_true, gK_uI, gK_uL, gK_uR, gK_uCI, gK_uCL, gN_uI, gN_uL, gN_uR, gN_uCI, gN_uCL, gR_uI, gR_uL, gR_uCI, gR_uCL, gI_uL, gI_uR, gI_uCL, gL_uI, gL_uR, gL_uCI, gz_uI, gz_uL, gz_uR, gz_uCI, gz_uCL, gs_uI, gs_uL, gs_uR, gs_uCI, gs_uCL, rI_at, rL_at, rR_at, rI_ne, rL_ne, rR_ne, rI_nk, rL_nk, rR_nk, rI_eq, rL_eq, rR_eq, Option.toList_some, Option.toList_none, List.cons_append, List.nil_append, List.append_nil, zc_eq, zc_lt, zc_le, zc_ge, zc_gt]
          all_goals exact hh
        · by_cases c2_z : X_z = 16001
          · simp (disch := omega) only [B_97_56, B_97_78, c1_z, c2_z, inI, inL, isT, kInt, kByt, true_and, and_true, an_t, im_t, im_f, or_true, true_or, true_imp_iff, false_imp_iff, not_true_eq_false, not_false_eq_true, gK_uI, gK_uL, gK_uR, gK_uCI, gK_uCL, gN_uI, gN_uL, gN_uR, gN_uCI, gN_uCL, gR_uI, gR_uL, gR_uCI, gR_uCL, gI_uL, gI_uR, gI_uCL, gL_uI, gL_uR, gL_uCI, gz_uI, gz_uL, gz_uR, gz_uCI, gz_uCL, gs_uI, gs_uL, gs_uR, gs_uCI, gs_uCL, rI_at, rL_at, rR_at, rI_ne, rL_ne, rR_ne, rI_nk, rL_nk, rR_nk, rI_eq, rL_eq, rR_eq, Option.toList_some, Option.toList_none, List.cons_append, List.nil_append, List.append_nil, zc_eq, zc_lt, zc_le, zc_ge, zc_gt]
            all_goals exact hh
          · simp (disch := omega) only [B_97_56, B_97_78, c1_z, c2_z, inI, inL, isT, kInt, kByt, true_and, and_true, an_t, im_t, im_f, or_true, true_or, true_imp_iff, false_imp_iff, not_true_eq_false, not_false_eq_true, gK_uI, gK_uL, gK_uR, gK_uCI, gK_uCL, gN_uI, gN_uL, gN_uR, gN_uCI, gN_uCL, gR_uI, gR_uL, gR_uCI, gR_uCL, gI_uL, gI_uR, gI_uCL, gL_uI, gL_uR, gL_uCI, gz_uI, gz_uL, gz_uR, gz_uCI, gz_uCL, gs_uI, gs_uL, gs_uR, gs_uCI, gs_uCL, rI_at, rL_at, rR_at, rI_ne, rL_ne, rR_ne, rI_nk, rL_nk, rR_nk, rI_eq, rL_eq, rR_eq, Option.toList_some, Option.toList_none, List.cons_append, List.nil_append, List.append_nil, zc_eq, zc_lt, zc_le, zc_ge, zc_gt]
            all_goals exact hh
    · have hh := h0 cc
      have pa := fun qq => X_padd (G := G) (Q := qq) (M := M) (r := c + 4) (x_z := X_z) (y_z := Y) sP hk k0_z k1_z hb_z
      have hf2 : ShFr (pAdd1 M (c + 4) k_z X_z Y b_z) r := hf
      have ew : gI (pAdd1 M (c + 4) k_z X_z Y b_z) r 6 = w_z := by
        unfold pAdd1
        rw [rI_ne (by omega), rI_ne (by omega), rI_ne (by omega), rI_ne (by omega)]
        exact hw
      have re := fun qq => X_remove (G := G) (Q := qq) (M := pAdd1 M (c + 4) k_z X_z Y b_z) (x_z := 2) hf2 (by decide) (by omega) (by omega)
      rw [ew] at re
      simp (disch := omega) only [B_97_56, B_97_81, hs.1.u, sP.u, pa, B_97_92, hf2.u, re, B_97_97, inI, inL, isT, kInt, kByt, true_and, and_true, an_t, im_t, im_f, or_true, true_or, true_imp_iff, false_imp_iff, not_true_eq_false, not_false_eq_true, gK_uI, gK_uL, gK_uR, gK_uCI, gK_uCL, gN_uI, gN_uL, gN_uR, gN_uCI, gN_uCL, gR_uI, gR_uL, gR_uCI, gR_uCL, gI_uL, gI_uR, gI_uCL, gL_uI, gL_uR, gL_uCI, gz_uI, gz_uL, gz_uR, gz_uCI, gz_uCL, gs_uI, gs_uL, gs_uR, gs_uCI, gs_uCL, rI_at, rL_at, rR_at, rI_ne, rL_ne, rR_ne, rI_nk, rL_nk, rR_nk, rI_eq, rL_eq, rR_eq, Option.toList_some, Option.toList_none, List.cons_append, List.nil_append, List.append_nil, zc_eq, zc_lt, zc_le, zc_ge, zc_gt]
      all_goals exact hh
  simp (disch := omega) only [E_Ma_addPoint, B_97_0, hs.1.u, ht, sG1, hf.u, hP1, B_97_14, hP0, B_97_19, sG2.u, inI, inL, isT, kInt, kByt, true_and, and_true, an_t, im_t, im_f, or_true, true_or, true_imp_iff, false_imp_iff, not_true_eq_false, not_false_eq_true, gK_uI, gK_uL, gK_uR, gK_uCI, gK_uCL, gN_uI, gN_uL, gN_uR, gN_uCI, gN_uCL, gR_uI, gR_uL, gR_uCI, gR_uCL, gI_uL, gI_uR, gI_uCL, gL_uI, gL_uR, gL_uCI, gz_uI, gz_uL, gz_uR, gz_uCI, gz_uCL, gs_uI, gs_uL, gs_uR, gs_uCI, gs_uCL, rI_at, rL_at, rR_at, rI_ne, rL_ne, rR_ne, rI_nk, rL_nk, rR_nk, rI_eq, rL_eq, rR_eq, Option.toList_some, Option.toList_none, List.cons_append, List.nil_append, List.append_nil, zc_eq, zc_lt, zc_le, zc_ge, zc_gt]
  refine X_toDevice sG2 (Or.inl rfl) hm_z (Or.inr n1_z) (Or.inr n0_z) ?_
  rw [hX]
  simp (disch := omega) only [B_97_23, hs.1.u, ht, sG1, hf.u, hP1, B_97_38, hP0, B_97_43, sG2.u, inI, inL, isT, kInt, kByt, true_and, and_true, an_t, im_t, im_f, or_true, true_or, true_imp_iff, false_imp_iff, not_true_eq_false, not_false_eq_true, gK_uI, gK_uL, gK_uR, gK_uCI, gK_uCL, gN_uI, gN_uL, gN_uR, gN_uCI, gN_uCL, gR_uI, gR_uL, gR_uCI, gR_uCL, gI_uL, gI_uR, gI_uCL, gL_uI, gL_uR, gL_uCI, gz_uI, gz_uL, gz_uR, gz_uCI, gz_uCL, gs_uI, gs_uL, gs_uR, gs_uCI, gs_uCL, rI_at, rL_at, rR_at, rI_ne, rL_ne, rR_ne, rI_nk, rL_nk, rR_nk, rI_eq, rL_eq, rR_eq, Option.toList_some, Option.toList_none, List.cons_append, List.nil_append, List.append_nil, zc_eq, zc_lt, zc_le, zc_ge, zc_gt]
  refine X_toDevice sG2 (Or.inr rfl) hm_z (Or.inr n1_z) (Or.inr n0_z) ?_
  rw [hY]
  exact tail_z
end MB
