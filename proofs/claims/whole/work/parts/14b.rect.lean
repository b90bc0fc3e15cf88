/-! THE PURE PART, part 14: the class's rectangle. Own work. -/
section AC
variable {G : Env0} {Q : Option AV → Mem → Prop} {M T : Mem} {c s m r : Nat}
theorem pAdd_k (M : Mem) (r : Nat) (x_z y_z z_z : Int) : gK (pAdd M r x_z y_z z_z) = gK M ∧ gN (pAdd M r x_z y_z z_z) = gN M ∧ gR (pAdd M r x_z y_z z_z) = gR M ∧ gL (pAdd M r x_z y_z z_z) = gL M ∧ gz (pAdd M r x_z y_z z_z) = gz M ∧ gs (pAdd M r x_z y_z z_z) = gs M := ⟨rfl, rfl, rfl, rfl, rfl, rfl⟩
theorem pAdd4_k (M : Mem) (r a_z : Nat) : gK (pAdd4 M r a_z) = gK M ∧ gN (pAdd4 M r a_z) = gN M ∧ gR (pAdd4 M r a_z) = gR M ∧ gL (pAdd4 M r a_z) = gL M ∧ gz (pAdd4 M r a_z) = gz M ∧ gs (pAdd4 M r a_z) = gs M := by
  unfold pAdd4
  generalize gI M a_z 0 = x0_z
  generalize gI M a_z 1 = y0
  generalize gI M a_z 2 = x1_z
  generalize gI M a_z 3 = y1
  generalize gI M a_z 4 = x2_z
  generalize gI M a_z 5 = y2
  generalize gI M a_z 6 = x3
  generalize gI M a_z 7 = y3
  obtain ⟨a1_z, a2, a3, a4, a5, a6⟩ := pAdd_k M r x0_z y0 1
  obtain ⟨b1, b2, b3, b4, b5, b6⟩ := pAdd_k (pAdd M r x0_z y0 1) r x1_z y1 0
  obtain ⟨c1_z, c2_z, c3_z, c4_z, c5_z, c6_z⟩ := pAdd_k (pAdd (pAdd M r x0_z y0 1) r x1_z y1 0) r x2_z y2 0
  obtain ⟨d1_z, d2_z, d3_z, d4_z, d5_z, d6_z⟩ := pAdd_k (pAdd (pAdd (pAdd M r x0_z y0 1) r x1_z y1 0) r x2_z y2 0) r x3 y3 0
  exact ⟨d1_z.trans (c1_z.trans (b1.trans a1_z)), d2_z.trans (c2_z.trans (b2.trans a2)), d3_z.trans (c3_z.trans (b3.trans a3)), d4_z.trans (c4_z.trans (b4.trans a4)), d5_z.trans (c5_z.trans (b5.trans a5)), d6_z.trans (c6_z.trans (b6.trans a6))⟩
theorem pAdd4_fr {M : Mem} {q_z r a_z : Nat} (h_z : ShFr M q_z) : ShFr (pAdd4 M r a_z) q_z := by
  obtain ⟨k1_z, k2_z, k3_z, -⟩ := pAdd4_k M r a_z
  unfold ShFr ShFrx
  rw [k1_z, k2_z, k3_z]
  exact h_z
theorem X_addRect {w_z v3 v2 v1_z v0_z tp e_z n_z k_z : Int} {mt_z : Int → Int} {g_z : Nat} (hs : ShMa M c) (hf : ShFr M r) (hw : gI M r 6 = w_z) (w0_z : 4 ≤ w_z) (w1_z : w_z ≤ 16) (o3_z : gL M (r + 1) (w_z - 4) = v3) (o2 : gL M (r + 1) (w_z - 3) = v2) (o1 : gL M (r + 1) (w_z - 2) = v1_z) (o0_z : gL M (r + 1) (w_z - 1) = v0_z) (n3_z : NV v3) (n2_z : NV v2) (n1_z : NV v1_z) (n0_z : NV v0_z) (ht : gI M c 12 = tp) (t0_z : 0 ≤ tp) (t1_z : tp < 35) (hg : c + 42 + 3 * tp.toNat = g_z) (hmt : gL M (g_z + 1) = mt_z) (hm_z : ∀ i_z : Int, 0 ≤ i_z → i_z < 6 → NV (mt_z i_z)) (he : gI M (c + 4) 5 = e_z) (e0_z : 0 ≤ e_z) (e1_z : e_z ≤ 200) (hk : gI M (c + 4) 6 = k_z) (k0_z : 0 ≤ k_z) (k1_z : k_z + 4 ≤ 800) (hn : gI M (c + 4 + 4) e_z = k_z - n_z) (n5_z : 0 ≤ n_z) (n6_z : n_z ≤ k_z) (n4_z : n_z ≤ 24) (hr : r ≠ c + 4 ∧ r ≠ c + 5 ∧ r ≠ c + 6 ∧ r ≠ c + 7 ∧ r ≠ c + 21)
    (h6 : (24 < n_z + 4 ∨ ¬ rGood mt_z v3 v2 (fS v3 v1_z) (fS v2 v0_z)) → ∀ M2_z, Ex (fun a_z => a_z = c + 20 ∨ a_z = c + 21) M M2_z → Q (some (a_i 6)) M2_z) (h0 : ¬ (24 < n_z + 4 ∨ ¬ rGood mt_z v3 v2 (fS v3 v1_z) (fS v2 v0_z)) → ∀ M', Ex (fun a_z => a_z = c + 21) M M' → (∀ k_z j_z : Int, 0 ≤ k_z → k_z < 4 → 0 ≤ j_z → j_z < 2 → gI M' (c + 21) (2 * k_z + j_z) = dv mt_z (pX v3 (fS v3 v1_z) k_z) (pY v2 (fS v2 v0_z) k_z) j_z) → Q (some (a_i 0)) (uI (pAdd4 M' (c + 4) (c + 21)) r 6 (w_z - 4))) : Call G J_Ma_addRect [a_r c, a_r r] M Q := by
  have sP : ShPa M (c + 4) := hs.2.1
  have a21 : gK M (c + 21) = 100 ∧ gN M (c + 21) = 8 := hs.1.u.2.2.2.2.2.2.2.2.2.2.2.2.2.2.2.2.2.2.2.2.2.2
  have hP0 := fun qq => X_peek (G := G) (Q := qq) (x_z := 0) hf (by decide) (by omega) (by omega)
  have hP1 := fun qq => X_peek (G := G) (Q := qq) (x_z := 1) hf (by decide) (by omega) (by omega)
  have hP2 := fun qq => X_peek (G := G) (Q := qq) (x_z := 2) hf (by decide) (by omega) (by omega)
  have hP3 := fun qq => X_peek (G := G) (Q := qq) (x_z := 3) hf (by decide) (by omega) (by omega)
  rw [hw, Int.sub_zero, o0_z] at hP0
  rw [hw, show w_z - 1 - 1 = w_z - 2 from by omega, o1] at hP1
  rw [hw, show w_z - 1 - 2 = w_z - 3 from by omega, o2] at hP2
  rw [hw, show w_z - 1 - 3 = w_z - 4 from by omega, o3_z] at hP3
  have hpp := fun qq => X_presentPts (G := G) (Q := qq) (M := M) (r := c + 4) sP (by omega) (by omega) (by rw [he, hn]; omega) (by rw [he, hn]; omega) (by omega) (by omega)
  rw [he, hk, hn] at hpp
  simp (disch := omega) only [E_Ma_addRect, B_104_0, hf.u, hP3, B_104_5, hP2, B_104_11, hP1, B_104_19, inI, inL, isT, kInt, kByt, true_and, and_true, an_t, im_t, im_f, or_true, true_or, true_imp_iff, false_imp_iff, not_true_eq_false, not_false_eq_true, gK_uI, gK_uL, gK_uR, gK_uCI, gK_uCL, gN_uI, gN_uL, gN_uR, gN_uCI, gN_uCL, gR_uI, gR_uL, gR_uCI, gR_uCL, gI_uL, gI_uR, gI_uCL, gL_uI, gL_uR, gL_uCI, gz_uI, gz_uL, gz_uR, gz_uCI, gz_uCL, gs_uI, gs_uL, gs_uR, gs_uCI, gs_uCL, rI_at, rL_at, rR_at, rI_ne, rL_ne, rR_ne, rI_nk, rL_nk, rR_nk, rI_eq, rL_eq, rR_eq, Option.toList_some, Option.toList_none, List.cons_append, List.nil_append, List.append_nil, zc_eq, zc_lt, zc_le, zc_ge, zc_gt]
  refine X_sum (Or.inr n3_z) (Or.inr n1_z) ?_
  simp (disch := omega) only [B_104_22, hf.u, hP0, B_104_31, inI, inL, isT, kInt, kByt, true_and, and_true, an_t, im_t, im_f, or_true, true_or, true_imp_iff, false_imp_iff, not_true_eq_false, not_false_eq_true, gK_uI, gK_uL, gK_uR, gK_uCI, gK_uCL, gN_uI, gN_uL, gN_uR, gN_uCI, gN_uCL, gR_uI, gR_uL, gR_uCI, gR_uCL, gI_uL, gI_uR, gI_uCL, gL_uI, gL_uR, gL_uCI, gz_uI, gz_uL, gz_uR, gz_uCI, gz_uCL, gs_uI, gs_uL, gs_uR, gs_uCI, gs_uCL, rI_at, rL_at, rR_at, rI_ne, rL_ne, rR_ne, rI_nk, rL_nk, rR_nk, rI_eq, rL_eq, rR_eq, Option.toList_some, Option.toList_none, List.cons_append, List.nil_append, List.append_nil, zc_eq, zc_lt, zc_le, zc_ge, zc_gt]
  refine X_sum (Or.inr n2_z) (Or.inr n0_z) ?_
  have rv1 : RV (fS v3 v1_z) := rv_S (Or.inr n3_z) (Or.inr n1_z)
  have rv2 : RV (fS v2 v0_z) := rv_S (Or.inr n2_z) (Or.inr n0_z)
  generalize hfx : fS v3 v1_z = fx at *
  generalize hfy : fS v2 v0_z = fy at *
  simp (disch := omega) only [B_104_34, hs.1.u, sP.u, hpp, inI, inL, isT, kInt, kByt, true_and, and_true, an_t, im_t, im_f, or_true, true_or, true_imp_iff, false_imp_iff, not_true_eq_false, not_false_eq_true, gK_uI, gK_uL, gK_uR, gK_uCI, gK_uCL, gN_uI, gN_uL, gN_uR, gN_uCI, gN_uCL, gR_uI, gR_uL, gR_uCI, gR_uCL, gI_uL, gI_uR, gI_uCL, gL_uI, gL_uR, gL_uCI, gz_uI, gz_uL, gz_uR, gz_uCI, gz_uCL, gs_uI, gs_uL, gs_uR, gs_uCI, gs_uCL, rI_at, rL_at, rR_at, rI_ne, rL_ne, rR_ne, rI_nk, rL_nk, rR_nk, rI_eq, rL_eq, rR_eq, Option.toList_some, Option.toList_none, List.cons_append, List.nil_append, List.append_nil, zc_eq, zc_lt, zc_le, zc_ge, zc_gt]
  by_cases cc : 24 < n_z + 4
  · have hh := h6 (Or.inl cc) M (Ex.refl _ _)
    simp (disch := omega) only [B_104_43, B_104_64, inI, inL, isT, kInt, kByt, true_and, and_true, an_t, im_t, im_f, or_true, true_or, true_imp_iff, false_imp_iff, not_true_eq_false, not_false_eq_true, gK_uI, gK_uL, gK_uR, gK_uCI, gK_uCL, gN_uI, gN_uL, gN_uR, gN_uCI, gN_uCL, gR_uI, gR_uL, gR_uCI, gR_uCL, gI_uL, gI_uR, gI_uCL, gL_uI, gL_uR, gL_uCI, gz_uI, gz_uL, gz_uR, gz_uCI, gz_uCL, gs_uI, gs_uL, gs_uR, gs_uCI, gs_uCL, rI_at, rL_at, rR_at, rI_ne, rL_ne, rR_ne, rI_nk, rL_nk, rR_nk, rI_eq, rL_eq, rR_eq, Option.toList_some, Option.toList_none, List.cons_append, List.nil_append, List.append_nil, zc_eq, zc_lt, zc_le, zc_ge, zc_gt]
    all_goals exact hh
  · simp (disch := omega) only [B_104_43, hs.1.u, inI, inL, isT, kInt, kByt, true_and, and_true, an_t, im_t, im_f, or_true, true_or, true_imp_iff, false_imp_iff, not_true_eq_false, not_false_eq_true, gK_uI, gK_uL, gK_uR, gK_uCI, gK_uCL, gN_uI, gN_uL, gN_uR, gN_uCI, gN_uCL, gR_uI, gR_uL, gR_uCI, gR_uCL, gI_uL, gI_uR, gI_uCL, gL_uI, gL_uR, gL_uCI, gz_uI, gz_uL, gz_uR, gz_uCI, gz_uCL, gs_uI, gs_uL, gs_uR, gs_uCI, gs_uCL, rI_at, rL_at, rR_at, rI_ne, rL_ne, rR_ne, rI_nk, rL_nk, rR_nk, rI_eq, rL_eq, rR_eq, Option.toList_some, Option.toList_none, List.cons_append, List.nil_append, List.append_nil, zc_eq, zc_lt, zc_le, zc_ge, zc_gt]
    refine X_setCorners hs (by omega) (by omega) (fun i_z i0_z i1_z => by rw [ht, hg, hmt]; exact hm_z i_z i0_z i1_z) (Or.inr n3_z) (Or.inr n2_z) rv1 rv2 (fun M' z_z hE hR hz => ?_)
    rw [ht, hg, hmt] at hR hz
    rcases hz with ⟨z1, hz⟩ | ⟨z1, hz⟩
    · subst z1
      have hh := h0 (fun q_z => q_z.elim (fun y_z => cc y_z) (fun y_z => y_z hz)) M' hE hR
      have hs' : ShMa M' c := hE.ma hs
      have sP' : ShPa M' (c + 4) := hs'.2.1
      have a21' : gK M' (c + 21) = 100 ∧ gN M' (c + 21) = 8 := by
        rw [hE.1, hE.2.1]
        exact a21
      have hk' : gI M' (c + 4) 6 = k_z := by rw [(hE.2.2.2.2.2 (c + 4) (by omega)).1]; exact hk
      have hw' : gI M' r 6 = w_z := by rw [(hE.2.2.2.2.2 r (by omega)).1]; exact hw
      have hf0 : ShFr M' r := by
        have q1_z := hE.1
        have q2_z := hE.2.1
        have q3_z := hE.2.2.1
        unfold ShFr ShFrx
        rw [q1_z, q2_z, q3_z]
        exact hf
      have hf2 : ShFr (pAdd4 M' (c + 4) (c + 21)) r := pAdd4_fr hf0
      have fa := pAdd4_f (M_z := M') (r_z := c + 4) (a_z := c + 21) hk'
      have ew : gI (pAdd4 M' (c + 4) (c + 21)) r 6 = w_z := by
        rw [fa.1 r (by omega) (by omega) (by omega) (by omega)]
        exact hw'
      have re := fun qq => X_remove (G := G) (Q := qq) (M := pAdd4 M' (c + 4) (c + 21)) (x_z := 4) hf2 (by decide) (by omega) (by omega)
      rw [ew] at re
      simp (disch := omega) only [B_104_61, B_104_67, hs'.1.u, sP'.u, inI, inL, isT, kInt, kByt, true_and, and_true, an_t, im_t, im_f, or_true, true_or, true_imp_iff, false_imp_iff, not_true_eq_false, not_false_eq_true, gK_uI, gK_uL, gK_uR, gK_uCI, gK_uCL, gN_uI, gN_uL, gN_uR, gN_uCI, gN_uCL, gR_uI, gR_uL, gR_uCI, gR_uCL, gI_uL, gI_uR, gI_uCL, gL_uI, gL_uR, gL_uCI, gz_uI, gz_uL, gz_uR, gz_uCI, gz_uCL, gs_uI, gs_uL, gs_uR, gs_uCI, gs_uCL, rI_at, rL_at, rR_at, rI_ne, rL_ne, rR_ne, rI_nk, rL_nk, rR_nk, rI_eq, rL_eq, rR_eq, Option.toList_some, Option.toList_none, List.cons_append, List.nil_append, List.append_nil, zc_eq, zc_lt, zc_le, zc_ge, zc_gt]
      refine X_addPart sP' a21' (by omega) (by omega) (by omega) ?_
      simp (disch := omega) only [B_104_78, hf2.u, re, B_104_83, inI, inL, isT, kInt, kByt, true_and, and_true, an_t, im_t, im_f, or_true, true_or, true_imp_iff, false_imp_iff, not_true_eq_false, not_false_eq_true, gK_uI, gK_uL, gK_uR, gK_uCI, gK_uCL, gN_uI, gN_uL, gN_uR, gN_uCI, gN_uCL, gR_uI, gR_uL, gR_uCI, gR_uCL, gI_uL, gI_uR, gI_uCL, gL_uI, gL_uR, gL_uCI, gz_uI, gz_uL, gz_uR, gz_uCI, gz_uCL, gs_uI, gs_uL, gs_uR, gs_uCI, gs_uCL, rI_at, rL_at, rR_at, rI_ne, rL_ne, rR_ne, rI_nk, rL_nk, rR_nk, rI_eq, rL_eq, rR_eq, Option.toList_some, Option.toList_none, List.cons_append, List.nil_append, List.append_nil, zc_eq, zc_lt, zc_le, zc_ge, zc_gt]
      all_goals exact hh
    · subst z1
      have hh := h6 (Or.inr hz) M' (hE.mono (fun a_z ha_z => Or.inr ha_z))
      simp (disch := omega) only [B_104_61, B_104_64, inI, inL, isT, kInt, kByt, true_and, and_true, an_t, im_t, im_f, or_true, true_or, true_imp_iff, false_imp_iff, not_true_eq_false, not_false_eq_true, gK_uI, gK_uL, gK_uR, gK_uCI, gK_uCL, gN_uI, gN_uL, gN_uR, gN_uCI, gN_uCL, gR_uI, gR_uL, gR_uCI, gR_uCL, gI_uL, gI_uR, gI_uCL, gL_uI, gL_uR, gL_uCI, gz_uI, gz_uL, gz_uR, gz_uCI, gz_uCL, gs_uI, gs_uL, gs_uR, gs_uCI, gs_uCL, rI_at, rL_at, rR_at, rI_ne, rL_ne, rR_ne, rI_nk, rL_nk, rR_nk, rI_eq, rL_eq, rR_eq, Option.toList_some, Option.toList_none, List.cons_append, List.nil_append, List.append_nil, zc_eq, zc_lt, zc_le, zc_ge, zc_gt]
      all_goals exact hh
end AC
