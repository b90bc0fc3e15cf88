/-! THE PURE PART, part 17: point and bound, both sides. Own work. -/
section DK
variable {G : Env0} {Q : Option AV → Mem → Prop} {M T : Mem} {c m b r : Nat}
/-- a coordinate of point k_z of item i_z -/
def ptI (M : Mem) (c : Nat) (i_z k_z cd : Int) : Int := if cd = 0 then gI M (c + 5) (gI M (c + 8) (gI M (c + 10) i_z) + k_z) else gI M (c + 6) (gI M (c + 8) (gI M (c + 10) i_z) + k_z)
theorem X_crdI {i_z k_z cd : Int} (sh_z : ShMa M c) (rs : RsR M T c m) (i0_z : 0 ≤ i_z) (i1_z : i_z < gI M (c + 3) 8) (k0_z : 0 ≤ k_z) (k1_z : k_z < npI M c i_z) : Call G J_It_findCoordinate [a_r (c + 3), a_i i_z, a_i k_z, a_i cd] M Q ↔ Q (some (a_i (ptI M c i_z k_z cd))) M := by
  have sI : ShIt M (c + 3) (c + 4) := sh_z.2.2.1
  have sP : ShPa M (c + 4) := sh_z.2.1
  have pt := fun qq => X_points (G := G) (Q := qq) sh_z rs i0_z i1_z
  have hp := it_path rs i0_z i1_z
  obtain ⟨-, ⟨-, t0_z, t1_z, -⟩, -, -, -, -, -, -, ⟨-, -, hE, hL, h33⟩, -⟩ := rs
  unfold npI at k1_z pt
  unfold ptI
  have p0_z := hp.1
  have p1_z := hp.2.1
  have a0_z := hp.2.2.2.2.1
  have a1_z := hp.2.2.2.2.2.1
  clear hp
  generalize hpp : gI M (c + 10) i_z = p_z at *
  have e10_z : gI M (c + 3 + 7) i_z = p_z := hpp
  have st_z := fun qq => X_startOf (G := G) (Q := qq) (x_z := p_z) sP p0_z (by omega)
  have e1_z : gI M (c + 4 + 4) p_z = gI M (c + 8) p_z := rfl
  rw [e1_z] at st_z
  clear e1_z
  generalize gI M (c + 8) p_z = a_z at *
  generalize gI M (c + 8) (p_z + 1) = a2 at *
  by_cases c0_z : cd = 0
  · rw [if_pos c0_z]
    simp (disch := omega) only [E_It_findCoordinate, B_162_0, sI.u, pt, B_162_10, B_162_16, e10_z, sP.u, st_z, B_162_29, c0_z, not_true_eq_false, B_162_60, inI, inL, isT, kInt, kByt, true_and, and_true, an_t, im_t, im_f, or_true, true_or, true_imp_iff, false_imp_iff, not_true_eq_false, not_false_eq_true, gK_uI, gK_uL, gK_uR, gK_uCI, gK_uCL, gN_uI, gN_uL, gN_uR, gN_uCI, gN_uCL, gR_uI, gR_uL, gR_uCI, gR_uCL, gI_uL, gI_uR, gI_uCL, gL_uI, gL_uR, gL_uCI, gz_uI, gz_uL, gz_uR, gz_uCI, gz_uCL, gs_uI, gs_uL, gs_uR, gs_uCI, gs_uCL, rI_at, rL_at, rR_at, rI_ne, rL_ne, rR_ne, rI_nk, rL_nk, rR_nk, rI_eq, rL_eq, rR_eq, Option.toList_some, Option.toList_none, List.cons_append, List.nil_append, List.append_nil, zc_eq, zc_lt, zc_le, zc_ge, zc_gt]
  · rw [if_neg c0_z]
    simp (disch := omega) only [E_It_findCoordinate, B_162_0, sI.u, pt, B_162_10, B_162_16, e10_z, sP.u, st_z, B_162_29, c0_z, not_false_eq_true, B_162_50, B_162_60, inI, inL, isT, kInt, kByt, true_and, and_true, an_t, im_t, im_f, or_true, true_or, true_imp_iff, false_imp_iff, not_true_eq_false, not_false_eq_true, gK_uI, gK_uL, gK_uR, gK_uCI, gK_uCL, gN_uI, gN_uL, gN_uR, gN_uCI, gN_uCL, gR_uI, gR_uL, gR_uCI, gR_uCL, gI_uL, gI_uR, gI_uCL, gL_uI, gL_uR, gL_uCI, gz_uI, gz_uL, gz_uR, gz_uCI, gz_uCL, gs_uI, gs_uL, gs_uR, gs_uCI, gs_uCL, rI_at, rL_at, rR_at, rI_ne, rL_ne, rR_ne, rI_nk, rL_nk, rR_nk, rI_eq, rL_eq, rR_eq, Option.toList_some, Option.toList_none, List.cons_append, List.nil_append, List.append_nil, zc_eq, zc_lt, zc_le, zc_ge, zc_gt]
theorem X_crdN {i_z k_z cd : Int} (sh_z : ShMa M c) (rs : RsR M T c m) (i0_z : 0 ≤ i_z) (i1_z : i_z < gI M (c + 3) 8) (k0_z : 0 ≤ k_z) (k1_z : npI M c i_z ≤ k_z) : Call G J_It_findCoordinate [a_r (c + 3), a_i i_z, a_i k_z, a_i cd] M Q ↔ Q (some (a_i (-10000009))) M := by
  have sI : ShIt M (c + 3) (c + 4) := sh_z.2.2.1
  have pt := fun qq => X_points (G := G) (Q := qq) sh_z rs i0_z i1_z
  simp (disch := omega) only [E_It_findCoordinate, B_162_0, sI.u, pt, B_162_10, B_162_13, inI, inL, isT, kInt, kByt, true_and, and_true, an_t, im_t, im_f, or_true, true_or, true_imp_iff, false_imp_iff, not_true_eq_false, not_false_eq_true, gK_uI, gK_uL, gK_uR, gK_uCI, gK_uCL, gN_uI, gN_uL, gN_uR, gN_uCI, gN_uCL, gR_uI, gR_uL, gR_uCI, gR_uCL, gI_uL, gI_uR, gI_uCL, gL_uI, gL_uR, gL_uCI, gz_uI, gz_uL, gz_uR, gz_uCI, gz_uCL, gs_uI, gs_uL, gs_uR, gs_uCI, gs_uCL, rI_at, rL_at, rR_at, rI_ne, rL_ne, rR_ne, rI_nk, rL_nk, rR_nk, rI_eq, rL_eq, rR_eq, Option.toList_some, Option.toList_none, List.cons_append, List.nil_append, List.append_nil, zc_eq, zc_lt, zc_le, zc_ge, zc_gt]
/-- the model's rows of an item's points -/
theorem pt_mod {i_z : Int} (rs : RsR M T c m) (i0_z : 0 ≤ i_z) (i1_z : i_z < gI M (c + 3) 8) : ∃ q_z : Int, gI T (m + 16) (12 * i_z + 2) = q_z ∧ 0 ≤ q_z ∧ q_z < 200 ∧ gI T (m + 14) q_z = npI M c i_z ∧ 0 < npI M c i_z ∧ npI M c i_z ≤ 24 ∧ (∀ k_z, 0 ≤ k_z → k_z < npI M c i_z → gI T (m + 11) (24 * q_z + k_z) = ptI M c i_z k_z 0 ∧ gI T (m + 12) (24 * q_z + k_z) = ptI M c i_z k_z 1) := by
  have hp := it_path rs i0_z i1_z
  obtain ⟨-, ⟨-, t0_z, t1_z, -⟩, -, -, -, -, -, -, ⟨-, -, hE, hL, h33⟩, -⟩ := rs
  obtain ⟨p0_z, p1_z, q0, q1_z, a0_z, a1_z, a2, a3⟩ := hp
  obtain ⟨n0_z, n24_z, pts, -⟩ := a3
  refine ⟨_, rfl, q0, by omega, a2, ?_, n24_z, fun k_z k0_z k1_z => ?_⟩
  · unfold npI
    omega
  · have := pts k_z k0_z k1_z
    exact ⟨this.1.symm, this.2.1.symm⟩
theorem s_point {x_z y_z z_z : Int} (h_z : Inv G M b) : Same G b J_X_point J_M_point [a_i x_z, a_i y_z, a_i z_z] M := by
  have sX_z := h_z.1.1
  have sM := h_z.ma.1
  have sT := h_z.mo
  have sI : ShIt M (b + 16 + 3) (b + 16 + 4) := h_z.ma.2.2.1
  have m2_z := fun qq => Y_in (G := G) (M := M) (Q := qq) (x_z := z_z) (y_z := 0) (w_z := 1)
  have rf := fun qq v_z => X_refused (G := G) (Q := qq) (i_z := x_z) (v_z := v_z) sT
  by_cases cx : x_z < 0 ∨ y_z < 0 ∨ ¬ (0 ≤ z_z ∧ z_z ≤ 1)
  · -- not a valid call
    have hm_z : ∀ Q : Option AV → Mem → Prop, Q (some (a_i (-10000001))) M → Call G J_M_point (a_r (b + 193) :: [a_i x_z, a_i y_z, a_i z_z]) M Q := by
      intro Q hq
      by_cases c0_z : x_z < 0
      · have e_z : ∀ v_z, refI x_z v_z (gI M (b + 193) 45) (gI M (b + 193) 35) = -10000001 := fun v_z => if_pos (Or.inl c0_z)
        simp only [e_z] at rf
        by_cases c1_z : y_z < 0
        · simp (disch := omega) only [E_M_point, B_257_0, c1_z, B_257_19, B_257_20, sT.u, rf, B_257_23, inI, inL, isT, kInt, kByt, true_and, and_true, an_t, im_t, im_f, or_true, true_or, true_imp_iff, false_imp_iff, not_true_eq_false, not_false_eq_true, gK_uI, gK_uL, gK_uR, gK_uCI, gK_uCL, gN_uI, gN_uL, gN_uR, gN_uCI, gN_uCL, gR_uI, gR_uL, gR_uCI, gR_uCL, gI_uL, gI_uR, gI_uCL, gL_uI, gL_uR, gL_uCI, gz_uI, gz_uL, gz_uR, gz_uCI, gz_uCL, gs_uI, gs_uL, gs_uR, gs_uCI, gs_uCL, rI_at, rL_at, rR_at, rI_ne, rL_ne, rR_ne, rI_nk, rL_nk, rR_nk, rI_eq, rL_eq, rR_eq, Option.toList_some, Option.toList_none, List.cons_append, List.nil_append, List.append_nil, zc_eq, zc_lt, zc_le, zc_ge, zc_gt]
          all_goals exact hq
        · by_cases c2_z : 0 ≤ z_z ∧ z_z ≤ 1
          · rw [zB_t c2_z] at m2_z
            simp (disch := omega) only [E_M_point, B_257_0, c1_z, m2_z, B_257_12, B_257_20, sT.u, rf, B_257_23, inI, inL, isT, kInt, kByt, true_and, and_true, an_t, im_t, im_f, or_true, true_or, true_imp_iff, false_imp_iff, not_true_eq_false, not_false_eq_true, gK_uI, gK_uL, gK_uR, gK_uCI, gK_uCL, gN_uI, gN_uL, gN_uR, gN_uCI, gN_uCL, gR_uI, gR_uL, gR_uCI, gR_uCL, gI_uL, gI_uR, gI_uCL, gL_uI, gL_uR, gL_uCI, gz_uI, gz_uL, gz_uR, gz_uCI, gz_uCL, gs_uI, gs_uL, gs_uR, gs_uCI, gs_uCL, rI_at, rL_at, rR_at, rI_ne, rL_ne, rR_ne, rI_nk, rL_nk, rR_nk, rI_eq, rL_eq, rR_eq, Option.toList_some, Option.toList_none, List.cons_append, List.nil_append, List.append_nil, zc_eq, zc_lt, zc_le, zc_ge, zc_gt]
            all_goals exact hq
          · rw [zB_f c2_z] at m2_z
            simp (disch := omega) only [E_M_point, B_257_0, c1_z, m2_z, B_257_12, B_257_19, B_257_20, sT.u, rf, B_257_23, inI, inL, isT, kInt, kByt, true_and, and_true, an_t, im_t, im_f, or_true, true_or, true_imp_iff, false_imp_iff, not_true_eq_false, not_false_eq_true, gK_uI, gK_uL, gK_uR, gK_uCI, gK_uCL, gN_uI, gN_uL, gN_uR, gN_uCI, gN_uCL, gR_uI, gR_uL, gR_uCI, gR_uCL, gI_uL, gI_uR, gI_uCL, gL_uI, gL_uR, gL_uCI, gz_uI, gz_uL, gz_uR, gz_uCI, gz_uCL, gs_uI, gs_uL, gs_uR, gs_uCI, gs_uCL, rI_at, rL_at, rR_at, rI_ne, rL_ne, rR_ne, rI_nk, rL_nk, rR_nk, rI_eq, rL_eq, rR_eq, Option.toList_some, Option.toList_none, List.cons_append, List.nil_append, List.append_nil, zc_eq, zc_lt, zc_le, zc_ge, zc_gt]
            all_goals exact hq
      · have rf1 := fun qq => rf qq 0
        clear rf
        have e_z : refI x_z 0 (gI M (b + 193) 45) (gI M (b + 193) 35) = -10000001 := if_pos (Or.inr rfl)
        rw [e_z] at rf1
        by_cases c1_z : y_z < 0
        · simp (disch := omega) only [E_M_point, B_257_0, c1_z, B_257_19, B_257_20, sT.u, rf1, B_257_23, inI, inL, isT, kInt, kByt, true_and, and_true, an_t, im_t, im_f, or_true, true_or, true_imp_iff, false_imp_iff, not_true_eq_false, not_false_eq_true, gK_uI, gK_uL, gK_uR, gK_uCI, gK_uCL, gN_uI, gN_uL, gN_uR, gN_uCI, gN_uCL, gR_uI, gR_uL, gR_uCI, gR_uCL, gI_uL, gI_uR, gI_uCL, gL_uI, gL_uR, gL_uCI, gz_uI, gz_uL, gz_uR, gz_uCI, gz_uCL, gs_uI, gs_uL, gs_uR, gs_uCI, gs_uCL, rI_at, rL_at, rR_at, rI_ne, rL_ne, rR_ne, rI_nk, rL_nk, rR_nk, rI_eq, rL_eq, rR_eq, Option.toList_some, Option.toList_none, List.cons_append, List.nil_append, List.append_nil, zc_eq, zc_lt, zc_le, zc_ge, zc_gt]
          all_goals exact hq
        · have c2_z : ¬ (0 ≤ z_z ∧ z_z ≤ 1) := by
            rcases cx with q_z | q_z | q_z
            · exact absurd q_z c0_z
            · exact absurd q_z c1_z
            · exact q_z
          rw [zB_f c2_z] at m2_z
          simp (disch := omega) only [E_M_point, B_257_0, c1_z, m2_z, B_257_12, B_257_19, B_257_20, sT.u, rf1, B_257_23, inI, inL, isT, kInt, kByt, true_and, and_true, an_t, im_t, im_f, or_true, true_or, true_imp_iff, false_imp_iff, not_true_eq_false, not_false_eq_true, gK_uI, gK_uL, gK_uR, gK_uCI, gK_uCL, gN_uI, gN_uL, gN_uR, gN_uCI, gN_uCL, gR_uI, gR_uL, gR_uCI, gR_uCL, gI_uL, gI_uR, gI_uCL, gL_uI, gL_uR, gL_uCI, gz_uI, gz_uL, gz_uR, gz_uCI, gz_uCL, gs_uI, gs_uL, gs_uR, gs_uCI, gs_uCL, rI_at, rL_at, rR_at, rI_ne, rL_ne, rR_ne, rI_nk, rL_nk, rR_nk, rI_eq, rL_eq, rR_eq, Option.toList_some, Option.toList_none, List.cons_append, List.nil_append, List.append_nil, zc_eq, zc_lt, zc_le, zc_ge, zc_gt]
          all_goals exact hq
    refine same_pure (v_z := -10000001) h_z (fun Q hq => ?_) hm_z
    by_cases c0_z : x_z < 0
    · simp (disch := omega) only [E_X_point, B_161_0, c0_z, B_161_17, inI, inL, isT, kInt, kByt, true_and, and_true, an_t, im_t, im_f, or_true, true_or, true_imp_iff, false_imp_iff, not_true_eq_false, not_false_eq_true, gK_uI, gK_uL, gK_uR, gK_uCI, gK_uCL, gN_uI, gN_uL, gN_uR, gN_uCI, gN_uCL, gR_uI, gR_uL, gR_uCI, gR_uCL, gI_uL, gI_uR, gI_uCL, gL_uI, gL_uR, gL_uCI, gz_uI, gz_uL, gz_uR, gz_uCI, gz_uCL, gs_uI, gs_uL, gs_uR, gs_uCI, gs_uCL, rI_at, rL_at, rR_at, rI_ne, rL_ne, rR_ne, rI_nk, rL_nk, rR_nk, rI_eq, rL_eq, rR_eq, Option.toList_some, Option.toList_none, List.cons_append, List.nil_append, List.append_nil, zc_eq, zc_lt, zc_le, zc_ge, zc_gt]
      all_goals exact hq
    · by_cases c1_z : y_z < 0
      · simp (disch := omega) only [E_X_point, B_161_0, c0_z, c1_z, B_161_17, inI, inL, isT, kInt, kByt, true_and, and_true, an_t, im_t, im_f, or_true, true_or, true_imp_iff, false_imp_iff, not_true_eq_false, not_false_eq_true, gK_uI, gK_uL, gK_uR, gK_uCI, gK_uCL, gN_uI, gN_uL, gN_uR, gN_uCI, gN_uCL, gR_uI, gR_uL, gR_uCI, gR_uCL, gI_uL, gI_uR, gI_uCL, gL_uI, gL_uR, gL_uCI, gz_uI, gz_uL, gz_uR, gz_uCI, gz_uCL, gs_uI, gs_uL, gs_uR, gs_uCI, gs_uCL, rI_at, rL_at, rR_at, rI_ne, rL_ne, rR_ne, rI_nk, rL_nk, rR_nk, rI_eq, rL_eq, rR_eq, Option.toList_some, Option.toList_none, List.cons_append, List.nil_append, List.append_nil, zc_eq, zc_lt, zc_le, zc_ge, zc_gt]
        all_goals exact hq
      · have c2_z : ¬ (0 ≤ z_z ∧ z_z ≤ 1) := by
          rcases cx with q_z | q_z | q_z
          · exact absurd q_z c0_z
          · exact absurd q_z c1_z
          · exact q_z
        have m1_z := fun qq => Y_isBetweenF (G := G) (Q := qq) (M := M) (x_z := z_z) (y_z := 0) (w_z := 1) c2_z
        simp (disch := omega) only [E_X_point, B_161_0, c0_z, c1_z, m1_z, B_161_14, not_true_eq_false, B_161_17, inI, inL, isT, kInt, kByt, true_and, and_true, an_t, im_t, im_f, or_true, true_or, true_imp_iff, false_imp_iff, not_true_eq_false, not_false_eq_true, gK_uI, gK_uL, gK_uR, gK_uCI, gK_uCL, gN_uI, gN_uL, gN_uR, gN_uCI, gN_uCL, gR_uI, gR_uL, gR_uCI, gR_uCL, gI_uL, gI_uR, gI_uCL, gL_uI, gL_uR, gL_uCI, gz_uI, gz_uL, gz_uR, gz_uCI, gz_uCL, gs_uI, gs_uL, gs_uR, gs_uCI, gs_uCL, rI_at, rL_at, rR_at, rI_ne, rL_ne, rR_ne, rI_nk, rL_nk, rR_nk, rI_eq, rL_eq, rR_eq, Option.toList_some, Option.toList_none, List.cons_append, List.nil_append, List.append_nil, zc_eq, zc_lt, zc_le, zc_ge, zc_gt]
        all_goals exact hq
  · have c0_z : ¬ x_z < 0 := fun q_z => cx (Or.inl q_z)
    have c1_z : ¬ y_z < 0 := fun q_z => cx (Or.inr (Or.inl q_z))
    have c2_z : 0 ≤ z_z ∧ z_z ≤ 1 := by
      by_cases c : 0 ≤ z_z ∧ z_z ≤ 1
      · exact c
      · exact absurd (Or.inr (Or.inr c)) cx
    clear cx
    have m1_z := fun qq => Y_isBetweenT (G := G) (Q := qq) (M := M) (x_z := z_z) (y_z := 0) (w_z := 1) c2_z
    rw [zB_t c2_z] at m2_z
    have rf1 := fun qq => rf qq 1
    clear rf
    rcases h_z.rn with ⟨r1_z, r2⟩ | ⟨r1_z, r2, rs⟩
    · have e_z : refI x_z 1 (gI M (b + 193) 45) (gI M (b + 193) 35) = -10000002 := by
        unfold refI
        rw [if_neg (by omega), if_pos r2]
      rw [e_z] at rf1
      have mi := fun qq => X_missR (G := G) (Q := qq) (i_z := x_z) sX_z h_z.ma r1_z
      refine same_pure (v_z := -10000002) h_z (fun Q hq => ?_) (fun Q hq => ?_)
      · simp (disch := omega) only [E_X_point, B_161_0, c0_z, c1_z, m1_z, B_161_14, B_161_20, sX_z.u, mi, B_161_25, B_161_48, B_161_50, inI, inL, isT, kInt, kByt, true_and, and_true, an_t, im_t, im_f, or_true, true_or, true_imp_iff, false_imp_iff, not_true_eq_false, not_false_eq_true, gK_uI, gK_uL, gK_uR, gK_uCI, gK_uCL, gN_uI, gN_uL, gN_uR, gN_uCI, gN_uCL, gR_uI, gR_uL, gR_uCI, gR_uCL, gI_uL, gI_uR, gI_uCL, gL_uI, gL_uR, gL_uCI, gz_uI, gz_uL, gz_uR, gz_uCI, gz_uCL, gs_uI, gs_uL, gs_uR, gs_uCI, gs_uCL, rI_at, rL_at, rR_at, rI_ne, rL_ne, rR_ne, rI_nk, rL_nk, rR_nk, rI_eq, rL_eq, rR_eq, Option.toList_some, Option.toList_none, List.cons_append, List.nil_append, List.append_nil, zc_eq, zc_lt, zc_le, zc_ge, zc_gt]
        all_goals exact hq
      · simp (disch := omega) only [E_M_point, B_257_0, c1_z, m2_z, B_257_12, B_257_20, sT.u, rf1, B_257_23, inI, inL, isT, kInt, kByt, true_and, and_true, an_t, im_t, im_f, or_true, true_or, true_imp_iff, false_imp_iff, not_true_eq_false, not_false_eq_true, gK_uI, gK_uL, gK_uR, gK_uCI, gK_uCL, gN_uI, gN_uL, gN_uR, gN_uCI, gN_uCL, gR_uI, gR_uL, gR_uCI, gR_uCL, gI_uL, gI_uR, gI_uCL, gL_uI, gL_uR, gL_uCI, gz_uI, gz_uL, gz_uR, gz_uCI, gz_uCL, gs_uI, gs_uL, gs_uR, gs_uCI, gs_uCL, rI_at, rL_at, rR_at, rI_ne, rL_ne, rR_ne, rI_nk, rL_nk, rR_nk, rI_eq, rL_eq, rR_eq, Option.toList_some, Option.toList_none, List.cons_append, List.nil_append, List.append_nil, zc_eq, zc_lt, zc_le, zc_ge, zc_gt]
        all_goals exact hq
    · have n35 := rs.2.1.1
      by_cases ci : x_z < gI M (b + 16 + 3) 8
      · have e_z : refI x_z 1 (gI M (b + 193) 45) (gI M (b + 193) 35) = 0 := by
          unfold refI
          rw [if_neg (by omega), if_neg (by omega), if_pos (by omega)]
        rw [e_z] at rf1
        have mi := fun qq => X_missT (G := G) (Q := qq) (i_z := x_z) sX_z h_z.ma r1_z ci
        have t1_z := rs.2.1.2.2.1
        obtain ⟨q_z, hq2, q0, q1_z, q14_z, n0_z, n24_z, pts⟩ := pt_mod rs (show 0 ≤ x_z from by omega) ci
        by_cases ck : y_z < npI M (b + 16) x_z
        · have co := fun qq => X_crdI (G := G) (Q := qq) (cd := z_z) h_z.ma rs (show 0 ≤ x_z from by omega) ci (show 0 ≤ y_z from by omega) ck
          obtain ⟨pX, pY⟩ := pts y_z (by omega) ck
          refine same_pure (v_z := ptI M (b + 16) x_z y_z z_z) h_z (fun Q hq => ?_) (fun Q hq => ?_)
          · simp (disch := omega) only [E_X_point, B_161_0, c0_z, c1_z, m1_z, B_161_14, B_161_20, sX_z.u, mi, B_161_25, not_true_eq_false, sM.u, sI.u, co, B_161_45, B_161_50, inI, inL, isT, kInt, kByt, true_and, and_true, an_t, im_t, im_f, or_true, true_or, true_imp_iff, false_imp_iff, not_true_eq_false, not_false_eq_true, gK_uI, gK_uL, gK_uR, gK_uCI, gK_uCL, gN_uI, gN_uL, gN_uR, gN_uCI, gN_uCL, gR_uI, gR_uL, gR_uCI, gR_uCL, gI_uL, gI_uR, gI_uCL, gL_uI, gL_uR, gL_uCI, gz_uI, gz_uL, gz_uR, gz_uCI, gz_uCL, gs_uI, gs_uL, gs_uR, gs_uCI, gs_uCL, rI_at, rL_at, rR_at, rI_ne, rL_ne, rR_ne, rI_nk, rL_nk, rR_nk, rI_eq, rL_eq, rR_eq, Option.toList_some, Option.toList_none, List.cons_append, List.nil_append, List.append_nil, zc_eq, zc_lt, zc_le, zc_ge, zc_gt]
            all_goals exact hq
          · by_cases cz : z_z = 0
            · subst cz
              rw [← pX] at hq
              simp (disch := omega) only [E_M_point, B_257_0, c1_z, m2_z, B_257_12, B_257_20, sT.u, rf1, B_257_23, B_257_33, hq2, q14_z, B_257_60, not_true_eq_false, B_257_91, inI, inL, isT, kInt, kByt, true_and, and_true, an_t, im_t, im_f, or_true, true_or, true_imp_iff, false_imp_iff, not_true_eq_false, not_false_eq_true, gK_uI, gK_uL, gK_uR, gK_uCI, gK_uCL, gN_uI, gN_uL, gN_uR, gN_uCI, gN_uCL, gR_uI, gR_uL, gR_uCI, gR_uCL, gI_uL, gI_uR, gI_uCL, gL_uI, gL_uR, gL_uCI, gz_uI, gz_uL, gz_uR, gz_uCI, gz_uCL, gs_uI, gs_uL, gs_uR, gs_uCI, gs_uCL, rI_at, rL_at, rR_at, rI_ne, rL_ne, rR_ne, rI_nk, rL_nk, rR_nk, rI_eq, rL_eq, rR_eq, Option.toList_some, Option.toList_none, List.cons_append, List.nil_append, List.append_nil, zc_eq, zc_lt, zc_le, zc_ge, zc_gt]
              all_goals exact hq
            · have z1 : z_z = 1 := by omega
              subst z1
              rw [← pY] at hq
              simp (disch := omega) only [E_M_point, B_257_0, c1_z, m2_z, B_257_12, B_257_20, sT.u, rf1, B_257_23, B_257_33, hq2, q14_z, B_257_60, B_257_79, B_257_91, inI, inL, isT, kInt, kByt, true_and, and_true, an_t, im_t, im_f, or_true, true_or, true_imp_iff, false_imp_iff, not_true_eq_false, not_false_eq_true, gK_uI, gK_uL, gK_uR, gK_uCI, gK_uCL, gN_uI, gN_uL, gN_uR, gN_uCI, gN_uCL, gR_uI, gR_uL, gR_uCI, gR_uCL, gI_uL, gI_uR, gI_uCL, gL_uI, gL_uR, gL_uCI, gz_uI, gz_uL, gz_uR, gz_uCI, gz_uCL, gs_uI, gs_uL, gs_uR, gs_uCI, gs_uCL, rI_at, rL_at, rR_at, rI_ne, rL_ne, rR_ne, rI_nk, rL_nk, rR_nk, rI_eq, rL_eq, rR_eq, Option.toList_some, Option.toList_none, List.cons_append, List.nil_append, List.append_nil, zc_eq, zc_lt, zc_le, zc_ge, zc_gt]
              all_goals exact hq
        · have co := fun qq => X_crdN (G := G) (Q := qq) (cd := z_z) h_z.ma rs (show 0 ≤ x_z from by omega) ci (show 0 ≤ y_z from by omega) (by omega)
          refine same_pure (v_z := -10000009) h_z (fun Q hq => ?_) (fun Q hq => ?_)
          · simp (disch := omega) only [E_X_point, B_161_0, c0_z, c1_z, m1_z, B_161_14, B_161_20, sX_z.u, mi, B_161_25, not_true_eq_false, sM.u, sI.u, co, B_161_45, B_161_50, inI, inL, isT, kInt, kByt, true_and, and_true, an_t, im_t, im_f, or_true, true_or, true_imp_iff, false_imp_iff, not_true_eq_false, not_false_eq_true, gK_uI, gK_uL, gK_uR, gK_uCI, gK_uCL, gN_uI, gN_uL, gN_uR, gN_uCI, gN_uCL, gR_uI, gR_uL, gR_uCI, gR_uCL, gI_uL, gI_uR, gI_uCL, gL_uI, gL_uR, gL_uCI, gz_uI, gz_uL, gz_uR, gz_uCI, gz_uCL, gs_uI, gs_uL, gs_uR, gs_uCI, gs_uCL, rI_at, rL_at, rR_at, rI_ne, rL_ne, rR_ne, rI_nk, rL_nk, rR_nk, rI_eq, rL_eq, rR_eq, Option.toList_some, Option.toList_none, List.cons_append, List.nil_append, List.append_nil, zc_eq, zc_lt, zc_le, zc_ge, zc_gt]
            all_goals exact hq
          · simp (disch := omega) only [E_M_point, B_257_0, c1_z, m2_z, B_257_12, B_257_20, sT.u, rf1, B_257_23, B_257_33, hq2, q14_z, inI, inL, isT, kInt, kByt, true_and, and_true, an_t, im_t, im_f, or_true, true_or, true_imp_iff, false_imp_iff, not_true_eq_false, not_false_eq_true, gK_uI, gK_uL, gK_uR, gK_uCI, gK_uCL, gN_uI, gN_uL, gN_uR, gN_uCI, gN_uCL, gR_uI, gR_uL, gR_uCI, gR_uCL, gI_uL, gI_uR, gI_uCL, gL_uI, gL_uR, gL_uCI, gz_uI, gz_uL, gz_uR, gz_uCI, gz_uCL, gs_uI, gs_uL, gs_uR, gs_uCI, gs_uCL, rI_at, rL_at, rR_at, rI_ne, rL_ne, rR_ne, rI_nk, rL_nk, rR_nk, rI_eq, rL_eq, rR_eq, Option.toList_some, Option.toList_none, List.cons_append, List.nil_append, List.append_nil, zc_eq, zc_lt, zc_le, zc_ge, zc_gt]
            all_goals exact hq
      · have e_z : refI x_z 1 (gI M (b + 193) 45) (gI M (b + 193) 35) = -10000009 := by
          unfold refI
          rw [if_neg (by omega), if_neg (by omega), if_neg (by omega)]
        rw [e_z] at rf1
        have mi := fun qq => X_missN (G := G) (Q := qq) (i_z := x_z) sX_z h_z.ma r1_z (by omega)
        refine same_pure (v_z := -10000009) h_z (fun Q hq => ?_) (fun Q hq => ?_)
        · simp (disch := omega) only [E_X_point, B_161_0, c0_z, c1_z, m1_z, B_161_14, B_161_20, sX_z.u, mi, B_161_25, B_161_48, B_161_50, inI, inL, isT, kInt, kByt, true_and, and_true, an_t, im_t, im_f, or_true, true_or, true_imp_iff, false_imp_iff, not_true_eq_false, not_false_eq_true, gK_uI, gK_uL, gK_uR, gK_uCI, gK_uCL, gN_uI, gN_uL, gN_uR, gN_uCI, gN_uCL, gR_uI, gR_uL, gR_uCI, gR_uCL, gI_uL, gI_uR, gI_uCL, gL_uI, gL_uR, gL_uCI, gz_uI, gz_uL, gz_uR, gz_uCI, gz_uCL, gs_uI, gs_uL, gs_uR, gs_uCI, gs_uCL, rI_at, rL_at, rR_at, rI_ne, rL_ne, rR_ne, rI_nk, rL_nk, rR_nk, rI_eq, rL_eq, rR_eq, Option.toList_some, Option.toList_none, List.cons_append, List.nil_append, List.append_nil, zc_eq, zc_lt, zc_le, zc_ge, zc_gt]
          all_goals exact hq
        · simp (disch := omega) only [E_M_point, B_257_0, c1_z, m2_z, B_257_12, B_257_20, sT.u, rf1, B_257_23, inI, inL, isT, kInt, kByt, true_and, and_true, an_t, im_t, im_f, or_true, true_or, true_imp_iff, false_imp_iff, not_true_eq_false, not_false_eq_true, gK_uI, gK_uL, gK_uR, gK_uCI, gK_uCL, gN_uI, gN_uL, gN_uR, gN_uCI, gN_uCL, gR_uI, gR_uL, gR_uCI, gR_uCL, gI_uL, gI_uR, gI_uCL, gL_uI, gL_uR, gL_uCI, gz_uI, gz_uL, gz_uR, gz_uCI, gz_uCL, gs_uI, gs_uL, gs_uR, gs_uCI, gs_uCL, rI_at, rL_at, rR_at, rI_ne, rL_ne, rR_ne, rI_nk, rL_nk, rR_nk, rI_eq, rL_eq, rR_eq, Option.toList_some, Option.toList_none, List.cons_append, List.nil_append, List.append_nil, zc_eq, zc_lt, zc_le, zc_ge, zc_gt]
          all_goals exact hq
/-- the smallest or the greatest of k_z + 1 numbers -/
def bnI (f_z : Nat → Int) (s_z : Int) : Nat → Int
  | 0 => f_z 0
  | k_z + 1 => if (s_z < 2 ∧ f_z (k_z + 1) < bnI f_z s_z k_z) ∨ (2 ≤ s_z ∧ bnI f_z s_z k_z < f_z (k_z + 1)) then f_z (k_z + 1) else bnI f_z s_z k_z
theorem X_side {i_z s_z : Int} (sh_z : ShMa M c) (rs : RsR M T c m) (i0_z : 0 ≤ i_z) (i1_z : i_z < gI M (c + 3) 8) (s0_z : 0 ≤ s_z) (s1_z : s_z ≤ 3) (hQ : Q (some (a_i (bnI (fun k_z => ptI M c i_z k_z (Int.tmod s_z 2)) s_z (npI M c i_z - 1).toNat))) M) : Call G J_It_findSide [a_r (c + 3), a_i i_z, a_i s_z] M Q := by
  have sI : ShIt M (c + 3) (c + 4) := sh_z.2.2.1
  have pt := fun qq => X_points (G := G) (Q := qq) sh_z rs i0_z i1_z
  obtain ⟨q_z, -, -, -, -, n0_z, n24_z, -⟩ := pt_mod rs i0_z i1_z
  have td : inI (Int.tdiv s_z 2) := by
    have := tdv_bd s_z 2
    exact ⟨by omega, by omega⟩
  have co := fun k_z k0_z k1_z qq => X_crdI (G := G) (Q := qq) (k_z := k_z) (cd := Int.tmod s_z 2) sh_z rs i0_z i1_z k0_z k1_z
  generalize hn : npI M c i_z = n_z at *
  have hf : ∀ k_z : Nat, (fun k_z : Nat => ptI M c i_z k_z (Int.tmod s_z 2)) k_z = ptI M c i_z k_z (Int.tmod s_z 2) := fun _ => rfl
  generalize (fun k_z : Nat => ptI M c i_z k_z (Int.tmod s_z 2)) = f_z at *
  have loop_z : ∀ d_z k_z : Nat, (k_z : Int) + 1 + d_z = n_z → ∀ u5 : AV, At G 164 13 [a_r (c + 3), a_i i_z, a_i s_z, a_i (bnI f_z s_z k_z), a_i ((k_z : Int) + 1), u5] [] M Q := by
    intro d_z
    induction d_z with
    | zero =>
      intro k_z hk u5
      have e_z : (n_z - 1).toNat = k_z := by omega
      rw [e_z] at hQ
      simp (disch := omega) only [B_164_13, sI.u, pt, B_164_20, B_164_64, inI, inL, isT, kInt, kByt, true_and, and_true, an_t, im_t, im_f, or_true, true_or, true_imp_iff, false_imp_iff, not_true_eq_false, not_false_eq_true, gK_uI, gK_uL, gK_uR, gK_uCI, gK_uCL, gN_uI, gN_uL, gN_uR, gN_uCI, gN_uCL, gR_uI, gR_uL, gR_uCI, gR_uCL, gI_uL, gI_uR, gI_uCL, gL_uI, gL_uR, gL_uCI, gz_uI, gz_uL, gz_uR, gz_uCI, gz_uCL, gs_uI, gs_uL, gs_uR, gs_uCI, gs_uCL, rI_at, rL_at, rR_at, rI_ne, rL_ne, rR_ne, rI_nk, rL_nk, rR_nk, rI_eq, rL_eq, rR_eq, Option.toList_some, Option.toList_none, List.cons_append, List.nil_append, List.append_nil, zc_eq, zc_lt, zc_le, zc_ge, zc_gt]
      all_goals exact hQ
    | succ d_z ih_z =>
      intro k_z hk u5
      have ck := co ((k_z : Int) + 1) (by omega) (by omega)
      have fk := hf (k_z + 1)
      rw [show ((k_z + 1 : Nat) : Int) = (k_z : Int) + 1 from by omega] at fk
      rw [← fk] at ck
      have eqn : bnI f_z s_z (k_z + 1) = if (s_z < 2 ∧ f_z (k_z + 1) < bnI f_z s_z k_z) ∨ (2 ≤ s_z ∧ bnI f_z s_z k_z < f_z (k_z + 1)) then f_z (k_z + 1) else bnI f_z s_z k_z := rfl
      have go_z := ih_z (k_z + 1) (by omega) (a_i (f_z (k_z + 1)))
      rw [eqn, show ((k_z + 1 : Nat) : Int) + 1 = (k_z : Int) + 1 + 1 from by omega] at go_z
      clear fk hf eqn ih_z
      generalize f_z (k_z + 1) = v_z at *
      generalize bnI f_z s_z k_z = w_z at *
      rw [B_164_13]
      refine ⟨sI.u.1, ?_⟩
      rw [pt]
      by_cases c1_z : s_z < 2
      · by_cases c2_z : v_z < w_z
        · rw [if_pos (Or.inl ⟨c1_z, c2_z⟩)] at go_z
          simp (disch := omega) only [B_164_20, sI.u, td.1, td.2, ck, B_164_33, B_164_55, B_164_58, inI, inL, isT, kInt, kByt, true_and, and_true, an_t, im_t, im_f, or_true, true_or, true_imp_iff, false_imp_iff, not_true_eq_false, not_false_eq_true, gK_uI, gK_uL, gK_uR, gK_uCI, gK_uCL, gN_uI, gN_uL, gN_uR, gN_uCI, gN_uCL, gR_uI, gR_uL, gR_uCI, gR_uCL, gI_uL, gI_uR, gI_uCL, gL_uI, gL_uR, gL_uCI, gz_uI, gz_uL, gz_uR, gz_uCI, gz_uCL, gs_uI, gs_uL, gs_uR, gs_uCI, gs_uCL, rI_at, rL_at, rR_at, rI_ne, rL_ne, rR_ne, rI_nk, rL_nk, rR_nk, rI_eq, rL_eq, rR_eq, Option.toList_some, Option.toList_none, List.cons_append, List.nil_append, List.append_nil, zc_eq, zc_lt, zc_le, zc_ge, zc_gt]
          all_goals exact go_z
        · rw [if_neg (by omega)] at go_z
          simp (disch := omega) only [B_164_20, sI.u, td.1, td.2, ck, B_164_33, B_164_58, inI, inL, isT, kInt, kByt, true_and, and_true, an_t, im_t, im_f, or_true, true_or, true_imp_iff, false_imp_iff, not_true_eq_false, not_false_eq_true, gK_uI, gK_uL, gK_uR, gK_uCI, gK_uCL, gN_uI, gN_uL, gN_uR, gN_uCI, gN_uCL, gR_uI, gR_uL, gR_uCI, gR_uCL, gI_uL, gI_uR, gI_uCL, gL_uI, gL_uR, gL_uCI, gz_uI, gz_uL, gz_uR, gz_uCI, gz_uCL, gs_uI, gs_uL, gs_uR, gs_uCI, gs_uCL, rI_at, rL_at, rR_at, rI_ne, rL_ne, rR_ne, rI_nk, rL_nk, rR_nk, rI_eq, rL_eq, rR_eq, Option.toList_some, Option.toList_none, List.cons_append, List.nil_append, List.append_nil, zc_eq, zc_lt, zc_le, zc_ge, zc_gt]
          all_goals exact go_z
      · by_cases c2_z : w_z < v_z
        · rw [if_pos (Or.inr ⟨by omega, c2_z⟩)] at go_z
          simp (disch := omega) only [B_164_20, sI.u, td.1, td.2, ck, B_164_33, B_164_49, B_164_55, B_164_58, inI, inL, isT, kInt, kByt, true_and, and_true, an_t, im_t, im_f, or_true, true_or, true_imp_iff, false_imp_iff, not_true_eq_false, not_false_eq_true, gK_uI, gK_uL, gK_uR, gK_uCI, gK_uCL, gN_uI, gN_uL, gN_uR, gN_uCI, gN_uCL, gR_uI, gR_uL, gR_uCI, gR_uCL, gI_uL, gI_uR, gI_uCL, gL_uI, gL_uR, gL_uCI, gz_uI, gz_uL, gz_uR, gz_uCI, gz_uCL, gs_uI, gs_uL, gs_uR, gs_uCI, gs_uCL, rI_at, rL_at, rR_at, rI_ne, rL_ne, rR_ne, rI_nk, rL_nk, rR_nk, rI_eq, rL_eq, rR_eq, Option.toList_some, Option.toList_none, List.cons_append, List.nil_append, List.append_nil, zc_eq, zc_lt, zc_le, zc_ge, zc_gt]
          all_goals exact go_z
        · rw [if_neg (by omega)] at go_z
          simp (disch := omega) only [B_164_20, sI.u, td.1, td.2, ck, B_164_33, B_164_49, B_164_58, inI, inL, isT, kInt, kByt, true_and, and_true, an_t, im_t, im_f, or_true, true_or, true_imp_iff, false_imp_iff, not_true_eq_false, not_false_eq_true, gK_uI, gK_uL, gK_uR, gK_uCI, gK_uCL, gN_uI, gN_uL, gN_uR, gN_uCI, gN_uCL, gR_uI, gR_uL, gR_uCI, gR_uCL, gI_uL, gI_uR, gI_uCL, gL_uI, gL_uR, gL_uCI, gz_uI, gz_uL, gz_uR, gz_uCI, gz_uCL, gs_uI, gs_uL, gs_uR, gs_uCI, gs_uCL, rI_at, rL_at, rR_at, rI_ne, rL_ne, rR_ne, rI_nk, rL_nk, rR_nk, rI_eq, rL_eq, rR_eq, Option.toList_some, Option.toList_none, List.cons_append, List.nil_append, List.append_nil, zc_eq, zc_lt, zc_le, zc_ge, zc_gt]
          all_goals exact go_z
  have l0 := loop_z (n_z - 1).toNat 0 (by omega) a_u
  have c0_z := co 0 (by omega) (by omega)
  have f0_z : bnI f_z s_z 0 = ptI M c i_z 0 (Int.tmod s_z 2) := hf 0
  rw [f0_z, show ((0 : Nat) : Int) + 1 = 1 from by omega] at l0
  simp (disch := omega) only [E_It_findSide, B_164_0, sI.u, td.1, td.2, c0_z, B_164_9, inI, inL, isT, kInt, kByt, true_and, and_true, an_t, im_t, im_f, or_true, true_or, true_imp_iff, false_imp_iff, not_true_eq_false, not_false_eq_true, gK_uI, gK_uL, gK_uR, gK_uCI, gK_uCL, gN_uI, gN_uL, gN_uR, gN_uCI, gN_uCL, gR_uI, gR_uL, gR_uCI, gR_uCL, gI_uL, gI_uR, gI_uCL, gL_uI, gL_uR, gL_uCI, gz_uI, gz_uL, gz_uR, gz_uCI, gz_uCL, gs_uI, gs_uL, gs_uR, gs_uCI, gs_uCL, rI_at, rL_at, rR_at, rI_ne, rL_ne, rR_ne, rI_nk, rL_nk, rR_nk, rI_eq, rL_eq, rR_eq, Option.toList_some, Option.toList_none, List.cons_append, List.nil_append, List.append_nil, zc_eq, zc_lt, zc_le, zc_ge, zc_gt]
  all_goals exact l0
theorem X_mSide {i_z s_z no_z : Int} (sm_z : ShM T m) (rs : RsR M T c m) (i0_z : 0 ≤ i_z) (i1_z : i_z < gI M (c + 3) 8) (s0_z : 0 ≤ s_z) (s1_z : s_z ≤ 3) (hQ : Q (some (a_i (bnI (fun k_z => ptI M c i_z k_z (Int.tmod s_z 2)) s_z (npI M c i_z - 1).toNat))) T) : At G 258 18 [a_r m, a_i i_z, a_i s_z, a_i no_z, a_u, a_u, a_u, a_u] [] T Q := by
  have t1_z := rs.2.1.2.2.1
  obtain ⟨q_z, hq2, q0, q1_z, q14_z, n0_z, n24_z, pts⟩ := pt_mod rs i0_z i1_z
  have td : inI (Int.tdiv s_z 2) := by
    have := tdv_bd s_z 2
    exact ⟨by omega, by omega⟩
  generalize hn : npI M c i_z = n_z at *
  have hf : ∀ k_z : Nat, (k_z : Int) < n_z → (fun k_z : Nat => ptI M c i_z k_z (Int.tmod s_z 2)) k_z = if Int.tmod s_z 2 = 0 then gI T (m + 11) (24 * q_z + k_z) else gI T (m + 12) (24 * q_z + k_z) := fun k_z hk => by
    obtain ⟨e1_z, e2_z⟩ := pts k_z (by omega) hk
    by_cases c0_z : Int.tmod s_z 2 = 0
    · rw [if_pos c0_z, e1_z, c0_z]
    · rw [if_neg c0_z, e2_z]
      show ptI M c i_z k_z (Int.tmod s_z 2) = ptI M c i_z k_z 1
      unfold ptI
      rw [if_neg c0_z, if_neg (by decide)]
  generalize (fun k_z : Nat => ptI M c i_z k_z (Int.tmod s_z 2)) = f_z at *
  -- one step
  have step : ∀ k_z : Nat, (k_z : Int) < n_z → ∀ w_z : Int, ∀ u7 : AV, ∀ go_z : At G 258 37 [a_r m, a_i i_z, a_i s_z, a_i no_z, a_i q_z, a_i (if k_z = 0 ∨ (s_z < 2 ∧ f_z k_z < w_z) ∨ (2 ≤ s_z ∧ w_z < f_z k_z) then f_z k_z else w_z), a_i ((k_z : Int) + 1), a_i (f_z k_z)] [] T Q, At G 258 37 [a_r m, a_i i_z, a_i s_z, a_i no_z, a_i q_z, a_i w_z, a_i (k_z : Int), u7] [] T Q := by
    intro k_z hk w_z u7 go_z
    have fk := hf k_z hk
    have at84 : At G 258 84 [a_r m, a_i i_z, a_i s_z, a_i no_z, a_i q_z, a_i w_z, a_i (k_z : Int), u7] [a_i (f_z k_z)] T Q := by
      clear fk hf pts
      generalize f_z k_z = v_z at *
      by_cases k0_z : k_z = 0
      · rw [if_pos (Or.inl k0_z)] at go_z
        simp (disch := omega) only [B_258_84, B_258_113, B_258_120, inI, inL, isT, kInt, kByt, true_and, and_true, an_t, im_t, im_f, or_true, true_or, true_imp_iff, false_imp_iff, not_true_eq_false, not_false_eq_true, gK_uI, gK_uL, gK_uR, gK_uCI, gK_uCL, gN_uI, gN_uL, gN_uR, gN_uCI, gN_uCL, gR_uI, gR_uL, gR_uCI, gR_uCL, gI_uL, gI_uR, gI_uCL, gL_uI, gL_uR, gL_uCI, gz_uI, gz_uL, gz_uR, gz_uCI, gz_uCL, gs_uI, gs_uL, gs_uR, gs_uCI, gs_uCL, rI_at, rL_at, rR_at, rI_ne, rL_ne, rR_ne, rI_nk, rL_nk, rR_nk, rI_eq, rL_eq, rR_eq, Option.toList_some, Option.toList_none, List.cons_append, List.nil_append, List.append_nil, zc_eq, zc_lt, zc_le, zc_ge, zc_gt]
        all_goals exact go_z
      · by_cases c1_z : s_z < 2
        · by_cases c2_z : v_z < w_z
          · rw [if_pos (Or.inr (Or.inl ⟨c1_z, c2_z⟩))] at go_z
            simp (disch := omega) only [B_258_84, B_258_113, B_258_120, inI, inL, isT, kInt, kByt, true_and, and_true, an_t, im_t, im_f, or_true, true_or, true_imp_iff, false_imp_iff, not_true_eq_false, not_false_eq_true, gK_uI, gK_uL, gK_uR, gK_uCI, gK_uCL, gN_uI, gN_uL, gN_uR, gN_uCI, gN_uCL, gR_uI, gR_uL, gR_uCI, gR_uCL, gI_uL, gI_uR, gI_uCL, gL_uI, gL_uR, gL_uCI, gz_uI, gz_uL, gz_uR, gz_uCI, gz_uCL, gs_uI, gs_uL, gs_uR, gs_uCI, gs_uCL, rI_at, rL_at, rR_at, rI_ne, rL_ne, rR_ne, rI_nk, rL_nk, rR_nk, rI_eq, rL_eq, rR_eq, Option.toList_some, Option.toList_none, List.cons_append, List.nil_append, List.append_nil, zc_eq, zc_lt, zc_le, zc_ge, zc_gt]
            all_goals exact go_z
          · rw [if_neg (by omega)] at go_z
            simp (disch := omega) only [B_258_84, B_258_118, B_258_120, inI, inL, isT, kInt, kByt, true_and, and_true, an_t, im_t, im_f, or_true, true_or, true_imp_iff, false_imp_iff, not_true_eq_false, not_false_eq_true, gK_uI, gK_uL, gK_uR, gK_uCI, gK_uCL, gN_uI, gN_uL, gN_uR, gN_uCI, gN_uCL, gR_uI, gR_uL, gR_uCI, gR_uCL, gI_uL, gI_uR, gI_uCL, gL_uI, gL_uR, gL_uCI, gz_uI, gz_uL, gz_uR, gz_uCI, gz_uCL, gs_uI, gs_uL, gs_uR, gs_uCI, gs_uCL, rI_at, rL_at, rR_at, rI_ne, rL_ne, rR_ne, rI_nk, rL_nk, rR_nk, rI_eq, rL_eq, rR_eq, Option.toList_some, Option.toList_none, List.cons_append, List.nil_append, List.append_nil, zc_eq, zc_lt, zc_le, zc_ge, zc_gt]
            all_goals exact go_z
        · by_cases c2_z : w_z < v_z
          · rw [if_pos (Or.inr (Or.inr ⟨by omega, c2_z⟩))] at go_z
            simp (disch := omega) only [B_258_84, B_258_106, B_258_113, B_258_120, inI, inL, isT, kInt, kByt, true_and, and_true, an_t, im_t, im_f, or_true, true_or, true_imp_iff, false_imp_iff, not_true_eq_false, not_false_eq_true, gK_uI, gK_uL, gK_uR, gK_uCI, gK_uCL, gN_uI, gN_uL, gN_uR, gN_uCI, gN_uCL, gR_uI, gR_uL, gR_uCI, gR_uCL, gI_uL, gI_uR, gI_uCL, gL_uI, gL_uR, gL_uCI, gz_uI, gz_uL, gz_uR, gz_uCI, gz_uCL, gs_uI, gs_uL, gs_uR, gs_uCI, gs_uCL, rI_at, rL_at, rR_at, rI_ne, rL_ne, rR_ne, rI_nk, rL_nk, rR_nk, rI_eq, rL_eq, rR_eq, Option.toList_some, Option.toList_none, List.cons_append, List.nil_append, List.append_nil, zc_eq, zc_lt, zc_le, zc_ge, zc_gt]
            all_goals exact go_z
          · rw [if_neg (by omega)] at go_z
            simp (disch := omega) only [B_258_84, B_258_106, B_258_118, B_258_120, inI, inL, isT, kInt, kByt, true_and, and_true, an_t, im_t, im_f, or_true, true_or, true_imp_iff, false_imp_iff, not_true_eq_false, not_false_eq_true, gK_uI, gK_uL, gK_uR, gK_uCI, gK_uCL, gN_uI, gN_uL, gN_uR, gN_uCI, gN_uCL, gR_uI, gR_uL, gR_uCI, gR_uCL, gI_uL, gI_uR, gI_uCL, gL_uI, gL_uR, gL_uCI, gz_uI, gz_uL, gz_uR, gz_uCI, gz_uCL, gs_uI, gs_uL, gs_uR, gs_uCI, gs_uCL, rI_at, rL_at, rR_at, rI_ne, rL_ne, rR_ne, rI_nk, rL_nk, rR_nk, rI_eq, rL_eq, rR_eq, Option.toList_some, Option.toList_none, List.cons_append, List.nil_append, List.append_nil, zc_eq, zc_lt, zc_le, zc_ge, zc_gt]
            all_goals exact go_z
    by_cases c0_z : Int.tmod s_z 2 = 0
    · rw [if_pos c0_z] at fk
      rw [fk] at at84
      simp (disch := omega) only [B_258_37, sm_z.u, q14_z, td.1, td.2, c0_z, not_true_eq_false, inI, inL, isT, kInt, kByt, true_and, and_true, an_t, im_t, im_f, or_true, true_or, true_imp_iff, false_imp_iff, not_true_eq_false, not_false_eq_true, gK_uI, gK_uL, gK_uR, gK_uCI, gK_uCL, gN_uI, gN_uL, gN_uR, gN_uCI, gN_uCL, gR_uI, gR_uL, gR_uCI, gR_uCL, gI_uL, gI_uR, gI_uCL, gL_uI, gL_uR, gL_uCI, gz_uI, gz_uL, gz_uR, gz_uCI, gz_uCL, gs_uI, gs_uL, gs_uR, gs_uCI, gs_uCL, rI_at, rL_at, rR_at, rI_ne, rL_ne, rR_ne, rI_nk, rL_nk, rR_nk, rI_eq, rL_eq, rR_eq, Option.toList_some, Option.toList_none, List.cons_append, List.nil_append, List.append_nil, zc_eq, zc_lt, zc_le, zc_ge, zc_gt]
      all_goals exact at84
    · rw [if_neg c0_z] at fk
      rw [fk] at at84
      simp (disch := omega) only [B_258_37, sm_z.u, q14_z, td.1, td.2, c0_z, not_false_eq_true, B_258_71, inI, inL, isT, kInt, kByt, true_and, and_true, an_t, im_t, im_f, or_true, true_or, true_imp_iff, false_imp_iff, not_true_eq_false, not_false_eq_true, gK_uI, gK_uL, gK_uR, gK_uCI, gK_uCL, gN_uI, gN_uL, gN_uR, gN_uCI, gN_uCL, gR_uI, gR_uL, gR_uCI, gR_uCL, gI_uL, gI_uR, gI_uCL, gL_uI, gL_uR, gL_uCI, gz_uI, gz_uL, gz_uR, gz_uCI, gz_uCL, gs_uI, gs_uL, gs_uR, gs_uCI, gs_uCL, rI_at, rL_at, rR_at, rI_ne, rL_ne, rR_ne, rI_nk, rL_nk, rR_nk, rI_eq, rL_eq, rR_eq, Option.toList_some, Option.toList_none, List.cons_append, List.nil_append, List.append_nil, zc_eq, zc_lt, zc_le, zc_ge, zc_gt]
      all_goals exact at84
  have loop_z : ∀ d_z k_z : Nat, (k_z : Int) + 1 + d_z = n_z → ∀ u7 : AV, At G 258 37 [a_r m, a_i i_z, a_i s_z, a_i no_z, a_i q_z, a_i (bnI f_z s_z k_z), a_i ((k_z : Int) + 1), u7] [] T Q := by
    intro d_z
    induction d_z with
    | zero =>
      intro k_z hk u7
      have e_z : (n_z - 1).toNat = k_z := by omega
      rw [e_z] at hQ
      simp (disch := omega) only [B_258_37, sm_z.u, q14_z, B_258_128, inI, inL, isT, kInt, kByt, true_and, and_true, an_t, im_t, im_f, or_true, true_or, true_imp_iff, false_imp_iff, not_true_eq_false, not_false_eq_true, gK_uI, gK_uL, gK_uR, gK_uCI, gK_uCL, gN_uI, gN_uL, gN_uR, gN_uCI, gN_uCL, gR_uI, gR_uL, gR_uCI, gR_uCL, gI_uL, gI_uR, gI_uCL, gL_uI, gL_uR, gL_uCI, gz_uI, gz_uL, gz_uR, gz_uCI, gz_uCL, gs_uI, gs_uL, gs_uR, gs_uCI, gs_uCL, rI_at, rL_at, rR_at, rI_ne, rL_ne, rR_ne, rI_nk, rL_nk, rR_nk, rI_eq, rL_eq, rR_eq, Option.toList_some, Option.toList_none, List.cons_append, List.nil_append, List.append_nil, zc_eq, zc_lt, zc_le, zc_ge, zc_gt]
      all_goals exact hQ
    | succ d_z ih_z =>
      intro k_z hk u7
      have go_z := ih_z (k_z + 1) (by omega) (a_i (f_z (k_z + 1)))
      have eqn : bnI f_z s_z (k_z + 1) = if (s_z < 2 ∧ f_z (k_z + 1) < bnI f_z s_z k_z) ∨ (2 ≤ s_z ∧ bnI f_z s_z k_z < f_z (k_z + 1)) then f_z (k_z + 1) else bnI f_z s_z k_z := rfl
      rw [eqn] at go_z
      have stp := step (k_z + 1) (by omega) (bnI f_z s_z k_z) u7 (by
        have e_z : (if k_z + 1 = 0 ∨ (s_z < 2 ∧ f_z (k_z + 1) < bnI f_z s_z k_z) ∨ (2 ≤ s_z ∧ bnI f_z s_z k_z < f_z (k_z + 1)) then f_z (k_z + 1) else bnI f_z s_z k_z) = if (s_z < 2 ∧ f_z (k_z + 1) < bnI f_z s_z k_z) ∨ (2 ≤ s_z ∧ bnI f_z s_z k_z < f_z (k_z + 1)) then f_z (k_z + 1) else bnI f_z s_z k_z := by
          by_cases z_z : (s_z < 2 ∧ f_z (k_z + 1) < bnI f_z s_z k_z) ∨ (2 ≤ s_z ∧ bnI f_z s_z k_z < f_z (k_z + 1))
          · rw [if_pos z_z, if_pos (Or.inr z_z)]
          · rw [if_neg z_z, if_neg (fun y_z => y_z.elim (fun y_z => by omega) z_z)]
        rw [e_z]
        exact go_z)
      exact stp
  have s00 := step 0 (by omega) 0 a_u (by
    have l0 := loop_z (n_z - 1).toNat 0 (by omega) (a_i (f_z 0))
    rw [if_pos (Or.inl rfl)]
    exact l0)
  simp (disch := omega) only [B_258_18, sm_z.u, hq2, inI, inL, isT, kInt, kByt, true_and, and_true, an_t, im_t, im_f, or_true, true_or, true_imp_iff, false_imp_iff, not_true_eq_false, not_false_eq_true, gK_uI, gK_uL, gK_uR, gK_uCI, gK_uCL, gN_uI, gN_uL, gN_uR, gN_uCI, gN_uCL, gR_uI, gR_uL, gR_uCI, gR_uCL, gI_uL, gI_uR, gI_uCL, gL_uI, gL_uR, gL_uCI, gz_uI, gz_uL, gz_uR, gz_uCI, gz_uCL, gs_uI, gs_uL, gs_uR, gs_uCI, gs_uCL, rI_at, rL_at, rR_at, rI_ne, rL_ne, rR_ne, rI_nk, rL_nk, rR_nk, rI_eq, rL_eq, rR_eq, Option.toList_some, Option.toList_none, List.cons_append, List.nil_append, List.append_nil, zc_eq, zc_lt, zc_le, zc_ge, zc_gt]
  all_goals exact s00
theorem s_bound {x_z y_z : Int} (h_z : Inv G M b) : Same G b J_X_bound J_M_bound [a_i x_z, a_i y_z] M := by
  have sX_z := h_z.1.1
  have sM := h_z.ma.1
  have sT := h_z.mo
  have sI : ShIt M (b + 16 + 3) (b + 16 + 4) := h_z.ma.2.2.1
  have m2_z := fun qq => Y_in (G := G) (M := M) (Q := qq) (x_z := y_z) (y_z := 0) (w_z := 3)
  have rf := fun qq v_z => X_refused (G := G) (Q := qq) (i_z := x_z) (v_z := v_z) sT
  by_cases cx : x_z < 0
  · have e_z : ∀ v_z, refI x_z v_z (gI M (b + 193) 45) (gI M (b + 193) 35) = -10000001 := fun v_z => if_pos (Or.inl cx)
    simp only [e_z] at rf
    refine same_pure (v_z := -10000001) h_z (fun Q hq => ?_) (fun Q hq => ?_)
    · simp (disch := omega) only [E_X_bound, B_163_0, cx, B_163_13, inI, inL, isT, kInt, kByt, true_and, and_true, an_t, im_t, im_f, or_true, true_or, true_imp_iff, false_imp_iff, not_true_eq_false, not_false_eq_true, gK_uI, gK_uL, gK_uR, gK_uCI, gK_uCL, gN_uI, gN_uL, gN_uR, gN_uCI, gN_uCL, gR_uI, gR_uL, gR_uCI, gR_uCL, gI_uL, gI_uR, gI_uCL, gL_uI, gL_uR, gL_uCI, gz_uI, gz_uL, gz_uR, gz_uCI, gz_uCL, gs_uI, gs_uL, gs_uR, gs_uCI, gs_uCL, rI_at, rL_at, rR_at, rI_ne, rL_ne, rR_ne, rI_nk, rL_nk, rR_nk, rI_eq, rL_eq, rR_eq, Option.toList_some, Option.toList_none, List.cons_append, List.nil_append, List.append_nil, zc_eq, zc_lt, zc_le, zc_ge, zc_gt]
      all_goals exact hq
    · simp (disch := omega) only [E_M_bound, B_258_0, m2_z, B_258_8, sT.u, rf, B_258_11, inI, inL, isT, kInt, kByt, true_and, and_true, an_t, im_t, im_f, or_true, true_or, true_imp_iff, false_imp_iff, not_true_eq_false, not_false_eq_true, gK_uI, gK_uL, gK_uR, gK_uCI, gK_uCL, gN_uI, gN_uL, gN_uR, gN_uCI, gN_uCL, gR_uI, gR_uL, gR_uCI, gR_uCL, gI_uL, gI_uR, gI_uCL, gL_uI, gL_uR, gL_uCI, gz_uI, gz_uL, gz_uR, gz_uCI, gz_uCL, gs_uI, gs_uL, gs_uR, gs_uCI, gs_uCL, rI_at, rL_at, rR_at, rI_ne, rL_ne, rR_ne, rI_nk, rL_nk, rR_nk, rI_eq, rL_eq, rR_eq, Option.toList_some, Option.toList_none, List.cons_append, List.nil_append, List.append_nil, zc_eq, zc_lt, zc_le, zc_ge, zc_gt]
      all_goals exact hq
  · by_cases cy : 0 ≤ y_z ∧ y_z ≤ 3
    · have m1_z := fun qq => Y_isBetweenT (G := G) (Q := qq) (M := M) (x_z := y_z) (y_z := 0) (w_z := 3) cy
      rw [zB_t cy] at m2_z
      have rf1 := fun qq => rf qq 1
      clear rf
      rcases h_z.rn with ⟨r1_z, r2⟩ | ⟨r1_z, r2, rs⟩
      · have e_z : refI x_z 1 (gI M (b + 193) 45) (gI M (b + 193) 35) = -10000002 := by
          unfold refI
          rw [if_neg (by omega), if_pos r2]
        rw [e_z] at rf1
        have mi := fun qq => X_missR (G := G) (Q := qq) (i_z := x_z) sX_z h_z.ma r1_z
        refine same_pure (v_z := -10000002) h_z (fun Q hq => ?_) (fun Q hq => ?_)
        · simp (disch := omega) only [E_X_bound, B_163_0, cx, m1_z, B_163_10, B_163_16, sX_z.u, mi, B_163_21, B_163_41, B_163_42, inI, inL, isT, kInt, kByt, true_and, and_true, an_t, im_t, im_f, or_true, true_or, true_imp_iff, false_imp_iff, not_true_eq_false, not_false_eq_true, gK_uI, gK_uL, gK_uR, gK_uCI, gK_uCL, gN_uI, gN_uL, gN_uR, gN_uCI, gN_uCL, gR_uI, gR_uL, gR_uCI, gR_uCL, gI_uL, gI_uR, gI_uCL, gL_uI, gL_uR, gL_uCI, gz_uI, gz_uL, gz_uR, gz_uCI, gz_uCL, gs_uI, gs_uL, gs_uR, gs_uCI, gs_uCL, rI_at, rL_at, rR_at, rI_ne, rL_ne, rR_ne, rI_nk, rL_nk, rR_nk, rI_eq, rL_eq, rR_eq, Option.toList_some, Option.toList_none, List.cons_append, List.nil_append, List.append_nil, zc_eq, zc_lt, zc_le, zc_ge, zc_gt]
          all_goals exact hq
        · simp (disch := omega) only [E_M_bound, B_258_0, m2_z, B_258_8, sT.u, rf1, B_258_11, inI, inL, isT, kInt, kByt, true_and, and_true, an_t, im_t, im_f, or_true, true_or, true_imp_iff, false_imp_iff, not_true_eq_false, not_false_eq_true, gK_uI, gK_uL, gK_uR, gK_uCI, gK_uCL, gN_uI, gN_uL, gN_uR, gN_uCI, gN_uCL, gR_uI, gR_uL, gR_uCI, gR_uCL, gI_uL, gI_uR, gI_uCL, gL_uI, gL_uR, gL_uCI, gz_uI, gz_uL, gz_uR, gz_uCI, gz_uCL, gs_uI, gs_uL, gs_uR, gs_uCI, gs_uCL, rI_at, rL_at, rR_at, rI_ne, rL_ne, rR_ne, rI_nk, rL_nk, rR_nk, rI_eq, rL_eq, rR_eq, Option.toList_some, Option.toList_none, List.cons_append, List.nil_append, List.append_nil, zc_eq, zc_lt, zc_le, zc_ge, zc_gt]
          all_goals exact hq
      · have n35 := rs.2.1.1
        by_cases ci : x_z < gI M (b + 16 + 3) 8
        · have e_z : refI x_z 1 (gI M (b + 193) 45) (gI M (b + 193) 35) = 0 := by
            unfold refI
            rw [if_neg (by omega), if_neg (by omega), if_pos (by omega)]
          rw [e_z] at rf1
          have mi := fun qq => X_missT (G := G) (Q := qq) (i_z := x_z) sX_z h_z.ma r1_z ci
          refine same_pure (v_z := bnI (fun k_z => ptI M (b + 16) x_z k_z (Int.tmod y_z 2)) y_z (npI M (b + 16) x_z - 1).toNat) h_z (fun Q hq => ?_) (fun Q hq => ?_)
          · have go_z : Call G J_It_findSide [a_r (b + 16 + 3), a_i x_z, a_i y_z] M (fun r M2_z => At G 163 38 [a_r (b + 1), a_i x_z, a_i y_z, a_i 0] r.toList M2_z Q) := by
              refine X_side (T := M) (m := b + 193) h_z.ma rs (by omega) ci cy.1 cy.2 ?_
              generalize bnI (fun k_z => ptI M (b + 16) x_z k_z (Int.tmod y_z 2)) y_z (npI M (b + 16) x_z - 1).toNat = v_z at *
              simp (disch := omega) only [B_163_38, B_163_42, inI, inL, isT, kInt, kByt, true_and, and_true, an_t, im_t, im_f, or_true, true_or, true_imp_iff, false_imp_iff, not_true_eq_false, not_false_eq_true, gK_uI, gK_uL, gK_uR, gK_uCI, gK_uCL, gN_uI, gN_uL, gN_uR, gN_uCI, gN_uCL, gR_uI, gR_uL, gR_uCI, gR_uCL, gI_uL, gI_uR, gI_uCL, gL_uI, gL_uR, gL_uCI, gz_uI, gz_uL, gz_uR, gz_uCI, gz_uCL, gs_uI, gs_uL, gs_uR, gs_uCI, gs_uCL, rI_at, rL_at, rR_at, rI_ne, rL_ne, rR_ne, rI_nk, rL_nk, rR_nk, rI_eq, rL_eq, rR_eq, Option.toList_some, Option.toList_none, List.cons_append, List.nil_append, List.append_nil, zc_eq, zc_lt, zc_le, zc_ge, zc_gt]
              all_goals exact hq
            simp (disch := omega) only [E_X_bound, B_163_0, cx, m1_z, B_163_10, B_163_16, sX_z.u, mi, B_163_21, not_true_eq_false, sM.u, sI.u, inI, inL, isT, kInt, kByt, true_and, and_true, an_t, im_t, im_f, or_true, true_or, true_imp_iff, false_imp_iff, not_true_eq_false, not_false_eq_true, gK_uI, gK_uL, gK_uR, gK_uCI, gK_uCL, gN_uI, gN_uL, gN_uR, gN_uCI, gN_uCL, gR_uI, gR_uL, gR_uCI, gR_uCL, gI_uL, gI_uR, gI_uCL, gL_uI, gL_uR, gL_uCI, gz_uI, gz_uL, gz_uR, gz_uCI, gz_uCL, gs_uI, gs_uL, gs_uR, gs_uCI, gs_uCL, rI_at, rL_at, rR_at, rI_ne, rL_ne, rR_ne, rI_nk, rL_nk, rR_nk, rI_eq, rL_eq, rR_eq, Option.toList_some, Option.toList_none, List.cons_append, List.nil_append, List.append_nil, zc_eq, zc_lt, zc_le, zc_ge, zc_gt]
            all_goals exact go_z
          · have go_z := X_mSide (G := G) (Q := Q) (M := M) (c := b + 16) (i_z := x_z) (s_z := y_z) (no_z := 0) sT rs (by omega) ci cy.1 cy.2 hq
            simp (disch := omega) only [E_M_bound, B_258_0, m2_z, B_258_8, sT.u, rf1, B_258_11, inI, inL, isT, kInt, kByt, true_and, and_true, an_t, im_t, im_f, or_true, true_or, true_imp_iff, false_imp_iff, not_true_eq_false, not_false_eq_true, gK_uI, gK_uL, gK_uR, gK_uCI, gK_uCL, gN_uI, gN_uL, gN_uR, gN_uCI, gN_uCL, gR_uI, gR_uL, gR_uCI, gR_uCL, gI_uL, gI_uR, gI_uCL, gL_uI, gL_uR, gL_uCI, gz_uI, gz_uL, gz_uR, gz_uCI, gz_uCL, gs_uI, gs_uL, gs_uR, gs_uCI, gs_uCL, rI_at, rL_at, rR_at, rI_ne, rL_ne, rR_ne, rI_nk, rL_nk, rR_nk, rI_eq, rL_eq, rR_eq, Option.toList_some, Option.toList_none, List.cons_append, List.nil_append, List.append_nil, zc_eq, zc_lt, zc_le, zc_ge, zc_gt]
            all_goals exact go_z
        · have e_z : refI x_z 1 (gI M (b + 193) 45) (gI M (b + 193) 35) = -10000009 := by
            unfold refI
            rw [if_neg (by omega), if_neg (by omega), if_neg (by omega)]
          rw [e_z] at rf1
          have mi := fun qq => X_missN (G := G) (Q := qq) (i_z := x_z) sX_z h_z.ma r1_z (by omega)
          refine same_pure (v_z := -10000009) h_z (fun Q hq => ?_) (fun Q hq => ?_)
          · simp (disch := omega) only [E_X_bound, B_163_0, cx, m1_z, B_163_10, B_163_16, sX_z.u, mi, B_163_21, B_163_41, B_163_42, inI, inL, isT, kInt, kByt, true_and, and_true, an_t, im_t, im_f, or_true, true_or, true_imp_iff, false_imp_iff, not_true_eq_false, not_false_eq_true, gK_uI, gK_uL, gK_uR, gK_uCI, gK_uCL, gN_uI, gN_uL, gN_uR, gN_uCI, gN_uCL, gR_uI, gR_uL, gR_uCI, gR_uCL, gI_uL, gI_uR, gI_uCL, gL_uI, gL_uR, gL_uCI, gz_uI, gz_uL, gz_uR, gz_uCI, gz_uCL, gs_uI, gs_uL, gs_uR, gs_uCI, gs_uCL, rI_at, rL_at, rR_at, rI_ne, rL_ne, rR_ne, rI_nk, rL_nk, rR_nk, rI_eq, rL_eq, rR_eq, Option.toList_some, Option.toList_none, List.cons_append, List.nil_append, List.append_nil, zc_eq, zc_lt, zc_le, zc_ge, zc_gt]
            all_goals exact hq
          · simp (disch := omega) only [E_M_bound, B_258_0, m2_z, B_258_8, sT.u, rf1, B_258_11, inI, inL, isT, kInt, kByt, true_and, and_true, an_t, im_t, im_f, or_true, true_or, true_imp_iff, false_imp_iff, not_true_eq_false, not_false_eq_true, gK_uI, gK_uL, gK_uR, gK_uCI, gK_uCL, gN_uI, gN_uL, gN_uR, gN_uCI, gN_uCL, gR_uI, gR_uL, gR_uCI, gR_uCL, gI_uL, gI_uR, gI_uCL, gL_uI, gL_uR, gL_uCI, gz_uI, gz_uL, gz_uR, gz_uCI, gz_uCL, gs_uI, gs_uL, gs_uR, gs_uCI, gs_uCL, rI_at, rL_at, rR_at, rI_ne, rL_ne, rR_ne, rI_nk, rL_nk, rR_nk, rI_eq, rL_eq, rR_eq, Option.toList_some, Option.toList_none, List.cons_append, List.nil_append, List.append_nil, zc_eq, zc_lt, zc_le, zc_ge, zc_gt]
            all_goals exact hq
    · have m1_z := fun qq => Y_isBetweenF (G := G) (Q := qq) (M := M) (x_z := y_z) (y_z := 0) (w_z := 3) cy
      rw [zB_f cy] at m2_z
      have rf1 := fun qq => rf qq 0
      clear rf
      have e_z : refI x_z 0 (gI M (b + 193) 45) (gI M (b + 193) 35) = -10000001 := if_pos (Or.inr rfl)
      rw [e_z] at rf1
      refine same_pure (v_z := -10000001) h_z (fun Q hq => ?_) (fun Q hq => ?_)
      · simp (disch := omega) only [E_X_bound, B_163_0, cx, m1_z, B_163_10, not_true_eq_false, B_163_13, inI, inL, isT, kInt, kByt, true_and, and_true, an_t, im_t, im_f, or_true, true_or, true_imp_iff, false_imp_iff, not_true_eq_false, not_false_eq_true, gK_uI, gK_uL, gK_uR, gK_uCI, gK_uCL, gN_uI, gN_uL, gN_uR, gN_uCI, gN_uCL, gR_uI, gR_uL, gR_uCI, gR_uCL, gI_uL, gI_uR, gI_uCL, gL_uI, gL_uR, gL_uCI, gz_uI, gz_uL, gz_uR, gz_uCI, gz_uCL, gs_uI, gs_uL, gs_uR, gs_uCI, gs_uCL, rI_at, rL_at, rR_at, rI_ne, rL_ne, rR_ne, rI_nk, rL_nk, rR_nk, rI_eq, rL_eq, rR_eq, Option.toList_some, Option.toList_none, List.cons_append, List.nil_append, List.append_nil, zc_eq, zc_lt, zc_le, zc_ge, zc_gt]
        all_goals exact hq
      · simp (disch := omega) only [E_M_bound, B_258_0, m2_z, B_258_8, sT.u, rf1, B_258_11, inI, inL, isT, kInt, kByt, true_and, and_true, an_t, im_t, im_f, or_true, true_or, true_imp_iff, false_imp_iff, not_true_eq_false, not_false_eq_true, gK_uI, gK_uL, gK_uR, gK_uCI, gK_uCL, gN_uI, gN_uL, gN_uR, gN_uCI, gN_uCL, gR_uI, gR_uL, gR_uCI, gR_uCL, gI_uL, gI_uR, gI_uCL, gL_uI, gL_uR, gL_uCI, gz_uI, gz_uL, gz_uR, gz_uCI, gz_uCL, gs_uI, gs_uL, gs_uR, gs_uCI, gs_uCL, rI_at, rL_at, rR_at, rI_ne, rL_ne, rR_ne, rI_nk, rL_nk, rR_nk, rI_eq, rL_eq, rR_eq, Option.toList_some, Option.toList_none, List.cons_append, List.nil_append, List.append_nil, zc_eq, zc_lt, zc_le, zc_ge, zc_gt]
        all_goals exact hq
end DK
