/-! THE PURE PART, part 14: draw, the model begins a form. Own work. -/
/-- the model's frame of a form that begins -/
def bgM (T : Mem) (m : Nat) (d_z f_z dp : Int) : Mem := uI (uI (uI (uI (uI (uI T m 36 (d_z + 1)) (m + 17) (d_z + 1) (f_z + 1)) (m + 18) (d_z + 1) (-1)) (m + 19) (d_z + 1) 0) (m + 22) (d_z + 1) 0) m 50 (if d_z + 1 ≤ dp then dp else d_z + 1)
section AV
variable {G : Env0} {Q : Option AV → Mem → Prop} {M T : Mem} {c s m r : Nat}
theorem X_begTail {d_z f_z dp : Int} (hs : ShM T m) (hl : gI T m 36 = d_z) (d0_z : 0 ≤ d_z) (d1_z : d_z < 4) (hp : gI T m 50 = dp) (f0_z : 0 ≤ f_z) (f1_z : f_z ≤ 5) (h_z : Q none (bgM T m d_z f_z dp)) : At G 237 41 [a_r m, a_i f_z] [] T Q := by
  have hs1 : ShM (uI (uI T m 36 (d_z + 1)) (m + 17) (d_z + 1) (f_z + 1)) m := hs
  have a36 : gI (uI (uI T m 36 (d_z + 1)) (m + 17) (d_z + 1) (f_z + 1)) m 36 = d_z + 1 := by rw [rI_ne (by omega), rI_at]
  have a50 : gI (uI (uI T m 36 (d_z + 1)) (m + 17) (d_z + 1) (f_z + 1)) m 50 = dp := by rw [rI_ne (by omega), rI_nk (by decide)]; exact hp
  have go_z : At G 237 63 [a_r m, a_i f_z] [] (uI (uI T m 36 (d_z + 1)) (m + 17) (d_z + 1) (f_z + 1)) Q := by
    unfold bgM at h_z
    generalize uI (uI T m 36 (d_z + 1)) (m + 17) (d_z + 1) (f_z + 1) = T1 at *
    have hs2 : ShM (uI (uI T1 (m + 18) (d_z + 1) (-1)) (m + 19) (d_z + 1) 0) m := hs1
    have b36 : gI (uI (uI T1 (m + 18) (d_z + 1) (-1)) (m + 19) (d_z + 1) 0) m 36 = d_z + 1 := by rw [rI_ne (by omega), rI_ne (by omega)]; exact a36
    have b50 : gI (uI (uI T1 (m + 18) (d_z + 1) (-1)) (m + 19) (d_z + 1) 0) m 50 = dp := by rw [rI_ne (by omega), rI_ne (by omega)]; exact a50
    have g2 : At G 237 83 [a_r m, a_i f_z] [] (uI (uI T1 (m + 18) (d_z + 1) (-1)) (m + 19) (d_z + 1) 0) Q := by
      generalize uI (uI T1 (m + 18) (d_z + 1) (-1)) (m + 19) (d_z + 1) 0 = T2 at *
      have hs3 : ShM (uI T2 (m + 22) (d_z + 1) 0) m := hs2
      have c36_z : gI (uI T2 (m + 22) (d_z + 1) 0) m 36 = d_z + 1 := by rw [rI_ne (by omega)]; exact b36
      have c50 : gI (uI T2 (m + 22) (d_z + 1) 0) m 50 = dp := by rw [rI_ne (by omega)]; exact b50
      by_cases cd : d_z + 1 ≤ dp
      · rw [if_pos cd] at h_z
        simp (disch := omega) only [B_237_83, hs2.u, b36, hs3.u, c36_z, c50, B_237_112, B_237_116, inI, inL, isT, kInt, kByt, true_and, and_true, an_t, im_t, im_f, or_true, true_or, true_imp_iff, false_imp_iff, not_true_eq_false, not_false_eq_true, gK_uI, gK_uL, gK_uR, gK_uCI, gK_uCL, gN_uI, gN_uL, gN_uR, gN_uCI, gN_uCL, gR_uI, gR_uL, gR_uCI, gR_uCL, gI_uL, gI_uR, gI_uCL, gL_uI, gL_uR, gL_uCI, gz_uI, gz_uL, gz_uR, gz_uCI, gz_uCL, gs_uI, gs_uL, gs_uR, gs_uCI, gs_uCL, rI_at, rL_at, rR_at, rI_ne, rL_ne, rR_ne, rI_nk, rL_nk, rR_nk, rI_eq, rL_eq, rR_eq, Option.toList_some, Option.toList_none, List.cons_append, List.nil_append, List.append_nil, zc_eq, zc_lt, zc_le, zc_ge, zc_gt]
        all_goals exact h_z
      · rw [if_neg cd] at h_z
        simp (disch := omega) only [B_237_83, hs2.u, b36, hs3.u, c36_z, c50, B_237_116, inI, inL, isT, kInt, kByt, true_and, and_true, an_t, im_t, im_f, or_true, true_or, true_imp_iff, false_imp_iff, not_true_eq_false, not_false_eq_true, gK_uI, gK_uL, gK_uR, gK_uCI, gK_uCL, gN_uI, gN_uL, gN_uR, gN_uCI, gN_uCL, gR_uI, gR_uL, gR_uCI, gR_uCL, gI_uL, gI_uR, gI_uCL, gL_uI, gL_uR, gL_uCI, gz_uI, gz_uL, gz_uR, gz_uCI, gz_uCL, gs_uI, gs_uL, gs_uR, gs_uCI, gs_uCL, rI_at, rL_at, rR_at, rI_ne, rL_ne, rR_ne, rI_nk, rL_nk, rR_nk, rI_eq, rL_eq, rR_eq, Option.toList_some, Option.toList_none, List.cons_append, List.nil_append, List.append_nil, zc_eq, zc_lt, zc_le, zc_ge, zc_gt]
        all_goals exact h_z
    simp (disch := omega) only [B_237_63, hs1.u, a36, inI, inL, isT, kInt, kByt, true_and, and_true, an_t, im_t, im_f, or_true, true_or, true_imp_iff, false_imp_iff, not_true_eq_false, not_false_eq_true, gK_uI, gK_uL, gK_uR, gK_uCI, gK_uCL, gN_uI, gN_uL, gN_uR, gN_uCI, gN_uCL, gR_uI, gR_uL, gR_uCI, gR_uCL, gI_uL, gI_uR, gI_uCL, gL_uI, gL_uR, gL_uCI, gz_uI, gz_uL, gz_uR, gz_uCI, gz_uCL, gs_uI, gs_uL, gs_uR, gs_uCI, gs_uCL, rI_at, rL_at, rR_at, rI_ne, rL_ne, rR_ne, rI_nk, rL_nk, rR_nk, rI_eq, rL_eq, rR_eq, Option.toList_some, Option.toList_none, List.cons_append, List.nil_append, List.append_nil, zc_eq, zc_lt, zc_le, zc_ge, zc_gt]
    all_goals exact g2
  simp (disch := omega) only [B_237_41, hs.u, hl, inI, inL, isT, kInt, kByt, true_and, and_true, an_t, im_t, im_f, or_true, true_or, true_imp_iff, false_imp_iff, not_true_eq_false, not_false_eq_true, gK_uI, gK_uL, gK_uR, gK_uCI, gK_uCL, gN_uI, gN_uL, gN_uR, gN_uCI, gN_uCL, gR_uI, gR_uL, gR_uCI, gR_uCL, gI_uL, gI_uR, gI_uCL, gL_uI, gL_uR, gL_uCI, gz_uI, gz_uL, gz_uR, gz_uCI, gz_uCL, gs_uI, gs_uL, gs_uR, gs_uCI, gs_uCL, rI_at, rL_at, rR_at, rI_ne, rL_ne, rR_ne, rI_nk, rL_nk, rR_nk, rI_eq, rL_eq, rR_eq, Option.toList_some, Option.toList_none, List.cons_append, List.nil_append, List.append_nil, zc_eq, zc_lt, zc_le, zc_ge, zc_gt]
  all_goals exact go_z
theorem X_boxT {d_z f_z p_z n_z : Int} (hs : ShM T m) (hp : gI T m 33 = p_z) (p0_z : 0 ≤ p_z) (p1_z : p_z < 202) (hn : gI T (m + 6) 13 = n_z) (n0_z : 0 ≤ n_z) (n1_z : n_z < 6) (h_z : ∀ T1, BxT T T1 m p_z n_z → At G 237 41 [a_r m, a_i f_z] [] T1 Q) : Call G J_M_empties [a_r m] T (fun q_z M2_z => At G 237 24 [a_r m, a_i f_z] q_z.toList M2_z Q) := by
  rw [X_empties hs]
  have hsA : ShM (uI (uI (uI T m 25 0) m 26 0) m 27 0) m := hs
  obtain ⟨a1_z, a2, a3, a4, a5, a6⟩ := EnT.e0 (T := T) (T1 := T) rfl
  have a33 : gI (uI (uI (uI T m 25 0) m 26 0) m 27 0) m 33 = p_z := by rw [a2 33 (by decide) (by decide) (by decide)]; exact hp
  generalize uI (uI (uI T m 25 0) m 26 0) m 27 0 = A_z at *
  have ac : Call G J_M_addsCorners [a_r m] A_z (fun q_z M2_z => At G 237 28 [a_r m, a_i f_z] q_z.toList M2_z Q) := by
    refine X_addsCorners (p_z := 0) (q_z := 0) hsA a3 a4 (by decide) (by decide) (by decide) (by decide) (fun B_z hE hj h25 h26 h8 h9 h10 => ?_)
    have hsB : ShM B_z m := Ex.sh (hE.mono (fun a_z ha_z => show m ≤ a_z ∧ a_z < m + 29 by omega)) hsA
    have b33 : gI B_z m 33 = p_z := by rw [hj 33 (by decide) (by decide)]; exact a33
    have br : ∀ a_z, a_z ≠ m → a_z ≠ m + 8 → a_z ≠ m + 9 → a_z ≠ m + 10 → gI B_z a_z = gI T a_z := fun a_z q0 q1_z q2_z q3_z => by rw [(hE.2.2.2.2.2 a_z (by omega)).1, a6 a_z q0]
    have bE : Ex (fun r => r = m ∨ r = m + 6 ∨ (m + 8 ≤ r ∧ r ≤ m + 15)) T B_z := (a1_z.mono (fun a_z ha_z => Or.inl ha_z)).trans (hE.mono (fun a_z ha_z => by omega))
    have bf : ∀ j_z, j_z ≠ 25 → j_z ≠ 26 → j_z ≠ 27 → gI B_z m j_z = gI T m j_z := fun j_z q0 q1_z q2_z => by rw [hj j_z q0 q1_z, a2 j_z q0 q1_z q2_z]
    rw [a6 _ (by omega), a6 _ (by omega)] at h8 h9
    rw [a6 _ (by omega)] at h10
    have kp_z : Call G J_M_keepsPath [a_r m] B_z (fun q_z M2_z => At G 237 33 [a_r m, a_i f_z] (q_z.toList ++ [a_r m]) M2_z Q) := by
      refine X_keepsPath hsB b33 p0_z p1_z (by omega) (by omega) (fun C_z hC h11 h12 h13 => ?_)
      rw [h25] at h11 h12 h13
      have hsC : ShM C_z m := Ex.sh (hC.mono (fun a_z ha_z => show m ≤ a_z ∧ a_z < m + 29 by omega)) hsB
      have cE : Ex (fun r => r = m ∨ r = m + 6 ∨ (m + 8 ≤ r ∧ r ≤ m + 15)) T C_z := bE.trans (hC.mono (fun a_z ha_z => by omega))
      have cr : ∀ a_z, a_z ≠ m + 11 → a_z ≠ m + 12 → a_z ≠ m + 13 → gI C_z a_z = gI B_z a_z := fun a_z q0 q1_z q2_z => (hC.2.2.2.2.2 a_z (by omega)).1
      rw [h25, h26]
      have hsD : ShM (uI (uI (uI C_z (m + 14) p_z (0 + 4)) (m + 15) p_z (0 + 1)) m 33 (p_z + 1)) m := hsC
      have dE : Ex (fun r => r = m ∨ r = m + 6 ∨ (m + 8 ≤ r ∧ r ≤ m + 15)) T (uI (uI (uI C_z (m + 14) p_z (0 + 4)) (m + 15) p_z (0 + 1)) m 33 (p_z + 1)) := ((cE.uI _ _ (by omega)).uI _ _ (by omega)).uI _ _ (by omega)
      have df : ∀ j_z, j_z ≠ 33 → gI (uI (uI (uI C_z (m + 14) p_z (0 + 4)) (m + 15) p_z (0 + 1)) m 33 (p_z + 1)) m j_z = gI B_z m j_z := fun j_z q0 => by rw [rI_nk q0, rI_ne (by omega), rI_ne (by omega), cr m (by omega) (by omega) (by omega)]
      have dr : ∀ a_z, a_z ≠ m → a_z ≠ m + 14 → a_z ≠ m + 15 → gI (uI (uI (uI C_z (m + 14) p_z (0 + 4)) (m + 15) p_z (0 + 1)) m 33 (p_z + 1)) a_z = gI C_z a_z := fun a_z q0 q1_z q2_z => by rw [rI_ne q0, rI_ne q2_z, rI_ne q1_z]
      have d33_z : gI (uI (uI (uI C_z (m + 14) p_z (0 + 4)) (m + 15) p_z (0 + 1)) m 33 (p_z + 1)) m 33 = p_z + 1 := rI_at
      have d14_z : gI (uI (uI (uI C_z (m + 14) p_z (0 + 4)) (m + 15) p_z (0 + 1)) m 33 (p_z + 1)) (m + 14) = upf (gI T (m + 14)) p_z 4 := by
        rw [rI_ne (by omega), rI_ne (by omega), rI_row, cr _ (by omega) (by omega) (by omega), br _ (by omega) (by omega) (by omega) (by omega)]
        rfl
      have d15_z : gI (uI (uI (uI C_z (m + 14) p_z (0 + 4)) (m + 15) p_z (0 + 1)) m 33 (p_z + 1)) (m + 15) = upf (gI T (m + 15)) p_z 1 := by
        rw [rI_ne (by omega), rI_row, rI_ne (by omega), cr _ (by omega) (by omega) (by omega), br _ (by omega) (by omega) (by omega) (by omega)]
        rfl
      have d6_z : gI (uI (uI (uI C_z (m + 14) p_z (0 + 4)) (m + 15) p_z (0 + 1)) m 33 (p_z + 1)) (m + 6) = gI T (m + 6) := by
        rw [dr _ (by omega) (by omega) (by omega), cr _ (by omega) (by omega) (by omega), br _ (by omega) (by omega) (by omega) (by omega)]
      generalize uI (uI (uI C_z (m + 14) p_z (0 + 4)) (m + 15) p_z (0 + 1)) m 33 (p_z + 1) = D_z at *
      have dn : gI D_z (m + 6) 13 = n_z := by rw [d6_z]; exact hn
      have cl_z := fun qq => X_clips (G := G) (Q := qq) (p_z := p_z) (r_z := 0) hsD (by omega) (by omega) (by omega) (by omega)
      rw [dn] at cl_z
      have hsF : ShM (uI (uI D_z (m + 6) (14 + n_z) (2 * p_z + 0)) (m + 6) 13 (n_z + 1)) m := hsD
      have em := fun qq => X_empties (G := G) (Q := qq) hsF
      obtain ⟨z1, z2, z3, z4, z5, z6⟩ := EnT.e0 (T := T) (T1 := uI (uI D_z (m + 6) (14 + n_z) (2 * p_z + 0)) (m + 6) 13 (n_z + 1)) rfl
      have hh := h_z (uI (uI (uI (uI (uI D_z (m + 6) (14 + n_z) (2 * p_z + 0)) (m + 6) 13 (n_z + 1)) m 25 0) m 26 0) m 27 0) ?_
      · simp (disch := omega) only [B_237_33, hsD.u, cl_z, B_237_37, hsF.u, em, inI, inL, isT, kInt, kByt, true_and, and_true, an_t, im_t, im_f, or_true, true_or, true_imp_iff, false_imp_iff, not_true_eq_false, not_false_eq_true, gK_uI, gK_uL, gK_uR, gK_uCI, gK_uCL, gN_uI, gN_uL, gN_uR, gN_uCI, gN_uCL, gR_uI, gR_uL, gR_uCI, gR_uCL, gI_uL, gI_uR, gI_uCL, gL_uI, gL_uR, gL_uCI, gz_uI, gz_uL, gz_uR, gz_uCI, gz_uCL, gs_uI, gs_uL, gs_uR, gs_uCI, gs_uCL, rI_at, rL_at, rR_at, rI_ne, rL_ne, rR_ne, rI_nk, rL_nk, rR_nk, rI_eq, rL_eq, rR_eq, Option.toList_some, Option.toList_none, List.cons_append, List.nil_append, List.append_nil, zc_eq, zc_lt, zc_le, zc_ge, zc_gt]
        all_goals exact hh
      · have fr_z : ∀ a_z, a_z ≠ m → a_z ≠ m + 6 → gI (uI (uI (uI (uI (uI D_z (m + 6) (14 + n_z) (2 * p_z + 0)) (m + 6) 13 (n_z + 1)) m 25 0) m 26 0) m 27 0) a_z = gI D_z a_z := fun a_z q0 q1_z => by rw [z6 a_z q0, rI_ne q1_z, rI_ne q1_z]
        have row8 : ∀ j_z : Int, 0 ≤ j_z → j_z < 4 → gI B_z (m + 8) j_z = gI T (m + 27) j_z ∧ gI B_z (m + 9) j_z = gI T (m + 28) j_z := fun j_z j0 j1 => by
          rw [h8, h9, rc_in _ _ (by omega), rc_in _ _ (by omega), show (0 : Int) + (j_z - 0) = j_z from by omega]
          exact ⟨rfl, rfl⟩
        refine ⟨((dE.uI _ _ (by omega)).uI _ _ (by omega)).trans (z1.mono (fun a_z ha_z => Or.inl ha_z)), fun j_z q0 q1_z q2_z q3_z => ?_, ⟨z3, z4, z5, ?_⟩, ⟨fun j_z j0 j1 => ?_, ?_, fun i_z i1_z => ?_⟩, ?_, ?_, ?_⟩
        · rw [z2 j_z q0 q1_z q2_z, rI_ne (by omega), rI_ne (by omega), df j_z q3_z, bf j_z q0 q1_z q2_z]
        · rw [z2 33 (by decide) (by decide) (by decide), rI_ne (by omega), rI_ne (by omega), d33_z]
        · rw [fr_z _ (by omega) (by omega), fr_z _ (by omega) (by omega), dr _ (by omega) (by omega) (by omega), dr _ (by omega) (by omega) (by omega), h11, h12, rc_in _ _ (by omega), rc_in _ _ (by omega), show (0 : Int) + (24 * p_z + j_z - 24 * p_z) = j_z from by omega]
          exact row8 j_z j0 j1
        · rw [fr_z _ (by omega) (by omega), dr _ (by omega) (by omega) (by omega), h13, rc_in _ _ (by omega), show (0 : Int) + (24 * p_z - 24 * p_z) = 0 from by omega, h10, upf_at]
        · rw [fr_z _ (by omega) (by omega), fr_z _ (by omega) (by omega), fr_z _ (by omega) (by omega), dr _ (by omega) (by omega) (by omega), dr _ (by omega) (by omega) (by omega), dr _ (by omega) (by omega) (by omega), h11, h12, h13, rc_out _ _ (by omega), rc_out _ _ (by omega), rc_out _ _ (by omega), br _ (by omega) (by omega) (by omega) (by omega), br _ (by omega) (by omega) (by omega) (by omega), br _ (by omega) (by omega) (by omega) (by omega)]
          exact ⟨rfl, rfl, rfl⟩
        · rw [fr_z _ (by omega) (by omega), d14_z]
        · rw [fr_z _ (by omega) (by omega), d15_z]
        · rw [z6 _ (by omega), rI_row, rI_row, d6_z, Int.add_zero]
    simp (disch := omega) only [B_237_28, hsB.u, inI, inL, isT, kInt, kByt, true_and, and_true, an_t, im_t, im_f, or_true, true_or, true_imp_iff, false_imp_iff, not_true_eq_false, not_false_eq_true, gK_uI, gK_uL, gK_uR, gK_uCI, gK_uCL, gN_uI, gN_uL, gN_uR, gN_uCI, gN_uCL, gR_uI, gR_uL, gR_uCI, gR_uCL, gI_uL, gI_uR, gI_uCL, gL_uI, gL_uR, gL_uCI, gz_uI, gz_uL, gz_uR, gz_uCI, gz_uCL, gs_uI, gs_uL, gs_uR, gs_uCI, gs_uCL, rI_at, rL_at, rR_at, rI_ne, rL_ne, rR_ne, rI_nk, rL_nk, rR_nk, rI_eq, rL_eq, rR_eq, Option.toList_some, Option.toList_none, List.cons_append, List.nil_append, List.append_nil, zc_eq, zc_lt, zc_le, zc_ge, zc_gt]
    all_goals exact kp_z
  simp (disch := omega) only [B_237_24, hsA.u, inI, inL, isT, kInt, kByt, true_and, and_true, an_t, im_t, im_f, or_true, true_or, true_imp_iff, false_imp_iff, not_true_eq_false, not_false_eq_true, gK_uI, gK_uL, gK_uR, gK_uCI, gK_uCL, gN_uI, gN_uL, gN_uR, gN_uCI, gN_uCL, gR_uI, gR_uL, gR_uCI, gR_uCL, gI_uL, gI_uR, gI_uCL, gL_uI, gL_uR, gL_uCI, gz_uI, gz_uL, gz_uR, gz_uCI, gz_uCL, gs_uI, gs_uL, gs_uR, gs_uCI, gs_uCL, rI_at, rL_at, rR_at, rI_ne, rL_ne, rR_ne, rI_nk, rL_nk, rR_nk, rI_eq, rL_eq, rR_eq, Option.toList_some, Option.toList_none, List.cons_append, List.nil_append, List.append_nil, zc_eq, zc_lt, zc_le, zc_ge, zc_gt]
  all_goals exact ac
theorem X_begins {d_z f_z p_z n_z dp tp : Int} (hs : ShM T m) (hl : gI T m 36 = d_z) (d0_z : 0 ≤ d_z) (d1_z : d_z < 4) (hdp : gI T m 50 = dp) (f0_z : 0 ≤ f_z) (f1_z : f_z ≤ 5) (ht : gI T m 19 = tp) (t0_z : 0 ≤ tp) (t1_z : tp < 40) (hp : gI T m 33 = p_z) (p0_z : 0 ≤ p_z) (p1_z : p_z < 202) (hn : gI T (m + 6) 13 = n_z) (n0_z : 0 ≤ n_z) (n1_z : gI T (m + 1) (1127 + 5 * f_z) = 1 → n_z < 6)
    (h_z : ∀ K_z, Ex (fun r => r = m ∨ r = m + 7) T K_z → (∀ j_z, j_z ≠ 19 → gI K_z m j_z = gI T m j_z) → gI K_z m 19 = tp + 1 → gI K_z (m + 7) = rc (gI T (m + 7)) (20 * tp) (gI T (m + 6)) 0 20 → (gI T (m + 1) (1127 + 5 * f_z) ≠ 1 → Q none (bgM K_z m d_z f_z dp)) ∧ (gI T (m + 1) (1127 + 5 * f_z) = 1 → ∀ T1, BxT K_z T1 m p_z n_z → Q none (bgM T1 m d_z f_z dp))) : Call G J_M_begins [a_r m, a_i f_z] T Q := by
  have kp_z : Call G J_M_keeps [a_r m] T (fun q_z M2_z => At G 237 4 [a_r m, a_i f_z] q_z.toList M2_z Q) := by
    refine X_keeps hs (by omega) (by omega) (fun K_z hE hR => ?_)
    rw [ht] at hR ⊢
    have hsK : ShM K_z m := Ex.sh (hE.mono (fun a_z ha_z => show m ≤ a_z ∧ a_z < m + 29 by omega)) hs
    have hs1 : ShM (uI K_z m 19 (tp + 1)) m := hsK
    have kr : ∀ a_z, a_z ≠ m → a_z ≠ m + 7 → gI (uI K_z m 19 (tp + 1)) a_z = gI T a_z := fun a_z q0 q1_z => by rw [rI_ne q0, (hE.2.2.2.2.2 a_z q1_z).1]
    have kf : ∀ j_z, j_z ≠ 19 → gI (uI K_z m 19 (tp + 1)) m j_z = gI T m j_z := fun j_z q0 => by rw [rI_nk q0, (hE.2.2.2.2.2 m (by omega)).1]
    obtain ⟨hh1, hh2⟩ := h_z (uI K_z m 19 (tp + 1)) ((hE.mono (fun a_z ha_z => Or.inr ha_z)).uI _ _ (Or.inl rfl)) kf rI_at (by rw [rI_ne (by omega)]; exact hR)
    generalize uI K_z m 19 (tp + 1) = K1 at *
    have e1_z := kr (m + 1) (by omega) (by omega)
    by_cases cb : gI T (m + 1) (1127 + 5 * f_z) = 1
    · have cb1 : gI K1 (m + 1) (1127 + 5 * f_z) = 1 := by rw [e1_z]; exact cb
      have bx : Call G J_M_empties [a_r m] K1 (fun q_z M2_z => At G 237 24 [a_r m, a_i f_z] q_z.toList M2_z Q) := X_boxT (d_z := d_z) (f_z := f_z) (p_z := p_z) (n_z := n_z) hs1 (by rw [kf 33 (by decide)]; exact hp) p0_z p1_z (by rw [kr (m + 6) (by omega) (by omega)]; exact hn) n0_z (n1_z cb) (fun T1 hT_z => by
        have hf := hT_z.2.1
        exact X_begTail (Ex.sh (hT_z.1.mono (fun a_z ha_z => show m ≤ a_z ∧ a_z < m + 29 by omega)) hs1) (by rw [hf 36 (by decide) (by decide) (by decide) (by decide), kf 36 (by decide)]; exact hl) d0_z d1_z (by rw [hf 50 (by decide) (by decide) (by decide) (by decide), kf 50 (by decide)]; exact hdp) f0_z f1_z (hh2 cb T1 hT_z))
      simp (disch := omega) only [B_237_4, hs1.u, cb1, not_true_eq_false, inI, inL, isT, kInt, kByt, true_and, and_true, an_t, im_t, im_f, or_true, true_or, true_imp_iff, false_imp_iff, not_true_eq_false, not_false_eq_true, gK_uI, gK_uL, gK_uR, gK_uCI, gK_uCL, gN_uI, gN_uL, gN_uR, gN_uCI, gN_uCL, gR_uI, gR_uL, gR_uCI, gR_uCL, gI_uL, gI_uR, gI_uCL, gL_uI, gL_uR, gL_uCI, gz_uI, gz_uL, gz_uR, gz_uCI, gz_uCL, gs_uI, gs_uL, gs_uR, gs_uCI, gs_uCL, rI_at, rL_at, rR_at, rI_ne, rL_ne, rR_ne, rI_nk, rL_nk, rR_nk, rI_eq, rL_eq, rR_eq, Option.toList_some, Option.toList_none, List.cons_append, List.nil_append, List.append_nil, zc_eq, zc_lt, zc_le, zc_ge, zc_gt]
      all_goals exact bx
    · have cb1 : ¬ gI K1 (m + 1) (1127 + 5 * f_z) = 1 := by rw [e1_z]; exact cb
      have ff_z := X_begTail (G := G) (Q := Q) hs1 (by rw [kf 36 (by decide)]; exact hl) d0_z d1_z (by rw [kf 50 (by decide)]; exact hdp) f0_z f1_z (hh1 cb)
      simp (disch := omega) only [B_237_4, hs1.u, cb1, not_false_eq_true, inI, inL, isT, kInt, kByt, true_and, and_true, an_t, im_t, im_f, or_true, true_or, true_imp_iff, false_imp_iff, not_true_eq_false, not_false_eq_true, gK_uI, gK_uL, gK_uR, gK_uCI, gK_uCL, gN_uI, gN_uL, gN_uR, gN_uCI, gN_uCL, gR_uI, gR_uL, gR_uCI, gR_uCL, gI_uL, gI_uR, gI_uCL, gL_uI, gL_uR, gL_uCI, gz_uI, gz_uL, gz_uR, gz_uCI, gz_uCL, gs_uI, gs_uL, gs_uR, gs_uCI, gs_uCL, rI_at, rL_at, rR_at, rI_ne, rL_ne, rR_ne, rI_nk, rL_nk, rR_nk, rI_eq, rL_eq, rR_eq, Option.toList_some, Option.toList_none, List.cons_append, List.nil_append, List.append_nil, zc_eq, zc_lt, zc_le, zc_ge, zc_gt]
      all_goals exact ff_z
  simp (disch := omega) only [E_M_begins, B_237_0, hs.u, inI, inL, isT, kInt, kByt, true_and, and_true, an_t, im_t, im_f, or_true, true_or, true_imp_iff, false_imp_iff, not_true_eq_false, not_false_eq_true, gK_uI, gK_uL, gK_uR, gK_uCI, gK_uCL, gN_uI, gN_uL, gN_uR, gN_uCI, gN_uCL, gR_uI, gR_uL, gR_uCI, gR_uCL, gI_uL, gI_uR, gI_uCL, gL_uI, gL_uR, gL_uCI, gz_uI, gz_uL, gz_uR, gz_uCI, gz_uCL, gs_uI, gs_uL, gs_uR, gs_uCI, gs_uCL, rI_at, rL_at, rR_at, rI_ne, rL_ne, rR_ne, rI_nk, rL_nk, rR_nk, rI_eq, rL_eq, rR_eq, Option.toList_some, Option.toList_none, List.cons_append, List.nil_append, List.append_nil, zc_eq, zc_lt, zc_le, zc_ge, zc_gt]
  all_goals exact kp_z
theorem X_doesD {d_z : Nat} {w_z up_z f_z v_z : Int} (hs : ShM T m) (hl : gI T m 36 = (d_z : Int)) (hw : gI T (m + 19) d_z = w_z) (l1 : d_z < 5) (w0_z : 1 ≤ w_z) (w1_z : w_z ≤ 16) (hu : gI T (m + 20) (16 * d_z + w_z - 1) = up_z) (hv : v_z = 200 + f_z) (f0_z : 0 ≤ f_z) (f1_z : f_z ≤ 5) (hf : ∀ qq : Option AV → Mem → Prop, qq (some (a_i v_z)) T → Call G J_M_found [a_r m] T qq) (h_z : Call G J_M_begins [a_r m, a_i f_z] (uI T (m + 19) d_z (w_z - 1)) (fun q_z M2_z => q_z = none ∧ Q none M2_z)) : Call G J_M_does [a_r m, a_i 13] T Q := by
  have n17 := fun qq => X_needed (G := G) (T := T) (Q := qq) (k_z := 13) (by omega) (by omega)
  rw [show need 13 = 1 from by decide] at n17
  have tt := fun qq => X_topE (G := G) (Q := qq) (M := T) (m := m) (k_z := 0) hs hl hw (by omega) (by omega) (by omega) (by omega) (by omega) (by omega)
  rw [Int.sub_zero] at tt
  have hh : Call G J_M_begins [a_r m, a_i f_z] (uI T (m + 19) d_z (w_z - 1)) (fun q_z M2_z => At G 228 327 [a_r m, a_i 13, a_i 1, a_i up_z, a_i f_z, a_u] q_z.toList M2_z Q) := Call.weak h_z (fun q_z M2_z hq => by
    obtain ⟨q1_z, q2_z⟩ := hq
    subst q1_z
    simp (disch := omega) only [B_228_327, B_228_353, inI, inL, isT, kInt, kByt, true_and, and_true, an_t, im_t, im_f, or_true, true_or, true_imp_iff, false_imp_iff, not_true_eq_false, not_false_eq_true, gK_uI, gK_uL, gK_uR, gK_uCI, gK_uCL, gN_uI, gN_uL, gN_uR, gN_uCI, gN_uCL, gR_uI, gR_uL, gR_uCI, gR_uCL, gI_uL, gI_uR, gI_uCL, gL_uI, gL_uR, gL_uCI, gz_uI, gz_uL, gz_uR, gz_uCI, gz_uCL, gs_uI, gs_uL, gs_uR, gs_uCI, gs_uCL, rI_at, rL_at, rR_at, rI_ne, rL_ne, rR_ne, rI_nk, rL_nk, rR_nk, rI_eq, rL_eq, rR_eq, Option.toList_some, Option.toList_none, List.cons_append, List.nil_append, List.append_nil, zc_eq, zc_lt, zc_le, zc_ge, zc_gt]
    exact q2_z)
  have fin_z : At G 228 55 [a_r m, a_i 13, a_i 1, a_i up_z, a_u, a_u] [a_i f_z] T Q := by
    simp (disch := omega) only [B_228_55, Y_inF (x_z := 13) (y_z := 16) (w_z := 18) (by omega), B_228_65, B_228_74, B_228_321, hs.u, hl, hw, inI, inL, isT, kInt, kByt, true_and, and_true, an_t, im_t, im_f, or_true, true_or, true_imp_iff, false_imp_iff, not_true_eq_false, not_false_eq_true, gK_uI, gK_uL, gK_uR, gK_uCI, gK_uCL, gN_uI, gN_uL, gN_uR, gN_uCI, gN_uCL, gR_uI, gR_uL, gR_uCI, gR_uCL, gI_uL, gI_uR, gI_uCL, gL_uI, gL_uR, gL_uCI, gz_uI, gz_uL, gz_uR, gz_uCI, gz_uCL, gs_uI, gs_uL, gs_uR, gs_uCI, gs_uCL, rI_at, rL_at, rR_at, rI_ne, rL_ne, rR_ne, rI_nk, rL_nk, rR_nk, rI_eq, rL_eq, rR_eq, Option.toList_some, Option.toList_none, List.cons_append, List.nil_append, List.append_nil, zc_eq, zc_lt, zc_le, zc_ge, zc_gt]
    all_goals exact hh
  have d1_z : Int.tdiv v_z 100 = v_z / 100 := Int.tdiv_eq_ediv_of_nonneg (by omega)
  have d2_z : Int.tmod v_z 100 = f_z := by
    have := Int.tmod_eq_emod_of_nonneg (a := v_z) (b := 100) (by omega)
    omega
  have b1 : inI (v_z / 100) := ⟨by omega, by omega⟩
  have ff_z := hf (fun q_z M2_z => At G 228 48 [a_r m, a_i 13, a_i 1, a_i up_z, a_u, a_u] q_z.toList M2_z Q) (by
    simp (disch := omega) only [B_228_48, d1_z, d2_z, b1, inI, inL, isT, kInt, kByt, true_and, and_true, an_t, im_t, im_f, or_true, true_or, true_imp_iff, false_imp_iff, not_true_eq_false, not_false_eq_true, gK_uI, gK_uL, gK_uR, gK_uCI, gK_uCL, gN_uI, gN_uL, gN_uR, gN_uCI, gN_uCL, gR_uI, gR_uL, gR_uCI, gR_uCL, gI_uL, gI_uR, gI_uCL, gL_uI, gL_uR, gL_uCI, gz_uI, gz_uL, gz_uR, gz_uCI, gz_uCL, gs_uI, gs_uL, gs_uR, gs_uCI, gs_uCL, rI_at, rL_at, rR_at, rI_ne, rL_ne, rR_ne, rI_nk, rL_nk, rR_nk, rI_eq, rL_eq, rR_eq, Option.toList_some, Option.toList_none, List.cons_append, List.nil_append, List.append_nil, zc_eq, zc_lt, zc_le, zc_ge, zc_gt]
    all_goals exact fin_z)
  simp (disch := omega) only [E_M_does, B_228_0, n17, B_228_4, B_228_19, tt, hu, hs.u, B_228_24, B_228_44, inI, inL, isT, kInt, kByt, true_and, and_true, an_t, im_t, im_f, or_true, true_or, true_imp_iff, false_imp_iff, not_true_eq_false, not_false_eq_true, gK_uI, gK_uL, gK_uR, gK_uCI, gK_uCL, gN_uI, gN_uL, gN_uR, gN_uCI, gN_uCL, gR_uI, gR_uL, gR_uCI, gR_uCL, gI_uL, gI_uR, gI_uCL, gL_uI, gL_uR, gL_uCI, gz_uI, gz_uL, gz_uR, gz_uCI, gz_uCL, gs_uI, gs_uL, gs_uR, gs_uCI, gs_uCL, rI_at, rL_at, rR_at, rI_ne, rL_ne, rR_ne, rI_nk, rL_nk, rR_nk, rI_eq, rL_eq, rR_eq, Option.toList_some, Option.toList_none, List.cons_append, List.nil_append, List.append_nil, zc_eq, zc_lt, zc_le, zc_ge, zc_gt]
  all_goals exact ff_z
end AV
