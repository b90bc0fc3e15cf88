/-! THE PURE PART, part 13: the ends of forms and of the page. Own work. -/
theorem GrR.row {M T : Mem} {c m r_z : Nat} {g_z g' : Int → Int} (h_z : GrR M T c m r_z g_z) (eg : ∀ k_z, 0 ≤ k_z → k_z < 20 → g' k_z = g_z k_z) : GrR M T c m r_z g' := by
  refine GrR.fr h_z (Pool.same rfl rfl rfl rfl rfl rfl rfl rfl rfl rfl rfl rfl rfl) rfl rfl rfl eg
section XA
variable {G : Env0} {Q : Option AV → Mem → Prop} {M T : Mem} {c s m : Nat}
theorem step_fin {E_z i_z x_z n_z tk : Int} {p_z : Nat} (h_z : Rel G M T c s m E_z) (hd_z : gI M c 11 = ((0 : Nat) : Int)) (hx : gI M (c + 22 + 4 * 0) 4 = x_z - 1) (htk : gI M (c + 22 + 4 * 0) 5 = tk) (hp : gR M (c + 22 + 4 * 0) 3 = p_z) (hn : gI M p_z 3 = n_z) (hlt : n_z ≤ tk) (i0_z : 0 ≤ i_z) (i1_z : i_z + 1 < 1000000) (hEr : Err G c s m M E_z Q) : HC G c s i_z M Q := by
  have h0 := h_z
  obtain ⟨ht0, hpg⟩ := h_z.topM hd_z hx htk hp hn
  obtain ⟨r1_z, r2, r3, ⟨r4, r5_z, r6, r7⟩, r8, r9, r10, r11, r12, r13, ⟨r14, r15, r16⟩, r17⟩ := h_z
  have e0_z : zB (n_z ≤ tk) = 1 := zB_t hlt
  have hEnd := hEr M 0 (OutC.refl c M) (fun T' h' R_z hR => ?_)
  · refine HC_body r1_z hd_z ht0 i0_z (by omega) (fun u5 u6 u7 => ?_)
    rw [e0_z]
    have d0_z : gI M c 11 = 0 := hd_z
    simp (disch := omega) only [B_73_35, r1_z.1.u, d0_z, B_73_49, B_73_50, E_Ma_leaveForm, B_79_0, B_79_21, B_73_55, B_73_198, inI, inL, isT, kInt, kByt, true_and, and_true, an_t, im_t, im_f, or_true, true_or, true_imp_iff, false_imp_iff, not_true_eq_false, not_false_eq_true, gK_uI, gK_uL, gK_uR, gK_uCI, gK_uCL, gN_uI, gN_uL, gN_uR, gN_uCI, gN_uCL, gR_uI, gR_uL, gR_uCI, gR_uCL, gI_uL, gI_uR, gI_uCL, gL_uI, gL_uR, gL_uCI, gz_uI, gz_uL, gz_uR, gz_uCI, gz_uCL, gs_uI, gs_uL, gs_uR, gs_uCI, gs_uCL, rI_at, rL_at, rR_at, rI_ne, rL_ne, rR_ne, rI_nk, rL_nk, rR_nk, rI_eq, rL_eq, rR_eq, Option.toList_some, Option.toList_none, List.cons_append, List.nil_append, List.append_nil, zc_eq, zc_lt, zc_le, zc_ge, zc_gt]
    rw [B_73_9]
    simp (disch := omega) only [r1_z.1.u, r15, B_73_204, inI, inL, isT, kInt, kByt, true_and, and_true, an_t, im_t, im_f, or_true, true_or, true_imp_iff, false_imp_iff, not_true_eq_false, not_false_eq_true, gK_uI, gK_uL, gK_uR, gK_uCI, gK_uCL, gN_uI, gN_uL, gN_uR, gN_uCI, gN_uCL, gR_uI, gR_uL, gR_uCI, gR_uCL, gI_uL, gI_uR, gI_uCL, gL_uI, gL_uR, gL_uCI, gz_uI, gz_uL, gz_uR, gz_uCI, gz_uCL, gs_uI, gs_uL, gs_uR, gs_uCI, gs_uCL, rI_at, rL_at, rR_at, rI_ne, rL_ne, rR_ne, rI_nk, rL_nk, rR_nk, rI_eq, rL_eq, rR_eq, Option.toList_some, Option.toList_none, List.cons_append, List.nil_append, List.append_nil, zc_eq, zc_lt, zc_le, zc_ge, zc_gt]
    all_goals exact hEnd
  · obtain ⟨a1_z, -⟩ := h'.topM hd_z hx htk hp hn
    have hrs := h'.rs
    obtain ⟨q1_z, q2_z, q3_z, -, q8_z, q9_z, q10_z, q11_z, q12_z, q13_z, ⟨q14_z, q15_z, q16_z⟩, q17_z⟩ := h'
    obtain ⟨u1_z, u2_z, u3, u4_z, u5, u6, u7, u8, u9, u10, u11, u12, u13, u14, u15, u16, u17⟩ := a1_z
    have hh := hR T' (Ex.refl _ _) hrs
    have z_z : (0 : Int) + 161 * x_z = 161 * x_z := by omega
    have en : tk = n_z := by omega
    have u1' : gI T' m 36 = 0 := u1_z
    have u3' : gI T' (m + 17) 0 = x_z := u3
    have u10' : gI T' (m + 18) 0 = tk := u10
    unfold HM
    rw [B_197_131]
    simp (disch := omega) only [q2_z.u, u1', u3', u10', z_z, u17, en, B_197_178, B_197_179, not_true_eq_false, inI, inL, isT, kInt, kByt, true_and, and_true, an_t, im_t, im_f, or_true, true_or, true_imp_iff, false_imp_iff, not_true_eq_false, not_false_eq_true, gK_uI, gK_uL, gK_uR, gK_uCI, gK_uCL, gN_uI, gN_uL, gN_uR, gN_uCI, gN_uCL, gR_uI, gR_uL, gR_uCI, gR_uCL, gI_uL, gI_uR, gI_uCL, gL_uI, gL_uR, gL_uCI, gz_uI, gz_uL, gz_uR, gz_uCI, gz_uCL, gs_uI, gs_uL, gs_uR, gs_uCI, gs_uCL, rI_at, rL_at, rR_at, rI_ne, rL_ne, rR_ne, rI_nk, rL_nk, rR_nk, rI_eq, rL_eq, rR_eq, Option.toList_some, Option.toList_none, List.cons_append, List.nil_append, List.append_nil, zc_eq, zc_lt, zc_le, zc_ge, zc_gt]
    rw [B_197_131]
    simp (disch := omega) only [q2_z.u, q16_z, B_197_268, inI, inL, isT, kInt, kByt, true_and, and_true, an_t, im_t, im_f, or_true, true_or, true_imp_iff, false_imp_iff, not_true_eq_false, not_false_eq_true, gK_uI, gK_uL, gK_uR, gK_uCI, gK_uCL, gN_uI, gN_uL, gN_uR, gN_uCI, gN_uCL, gR_uI, gR_uL, gR_uCI, gR_uCL, gI_uL, gI_uR, gI_uCL, gL_uI, gL_uR, gL_uCI, gz_uI, gz_uL, gz_uR, gz_uCI, gz_uCL, gs_uI, gs_uL, gs_uR, gs_uCI, gs_uCL, rI_at, rL_at, rR_at, rI_ne, rL_ne, rR_ne, rI_nk, rL_nk, rR_nk, rI_eq, rL_eq, rR_eq, Option.toList_some, Option.toList_none, List.cons_append, List.nil_append, List.append_nil, zc_eq, zc_lt, zc_le, zc_ge, zc_gt]
    all_goals exact hh
theorem step_end {E_z i_z x_z n_z tk : Int} {d_z p_z : Nat} (h_z : Rel G M T c s m E_z) (hd_z : gI M c 11 = (d_z : Int)) (hd1 : 1 ≤ d_z) (hx : gI M (c + 22 + 4 * d_z) 4 = x_z - 1) (htk : gI M (c + 22 + 4 * d_z) 5 = tk) (hp : gR M (c + 22 + 4 * d_z) 3 = p_z) (hn : gI M p_z 3 = n_z) (hlt : n_z ≤ tk) (i0_z : 0 ≤ i_z) (i1_z : i_z + 1 < 1000000) (hN_z : Nxt G c s m M E_z i_z Q) : HC G c s i_z M Q := by
  have h0 := h_z
  obtain ⟨ht0, hpg⟩ := h_z.topM hd_z hx htk hp hn
  -- nothing is open at the end
  have ends_z : ∀ T', Rel G M T' c s m E_z → Top G M T' s m (c + 22 + 4 * d_z) d_z x_z n_z tk p_z ∧ sc M T' m (c + 22 + 4 * d_z) d_z = ([], false) ∧ gI M (c + 22 + 4 * d_z) 7 = 0 := by
    intro T' h'
    obtain ⟨a1_z, a2⟩ := h'.topM hd_z hx htk hp hn
    obtain ⟨-, -, -, -, a5, -⟩ := a2
    obtain ⟨-, -, -, -, -, -, q10_z, -⟩ := h'
    obtain ⟨k1_z, k2_z, kF, kP_z⟩ := q10_z.get hd_z
    have u_z := a1_z
    obtain ⟨u1_z, u2_z, u3, u4_z, u5, u6, u7, u8, u9, u10, u11, u12, u13, u14, u15, u16, u17⟩ := u_z
    rw [u10] at kF
    obtain ⟨-, -, -, -, -, ⟨m6_z, m6b, m6c⟩, -, m8_z⟩ := kF
    have en : tk = n_z := by omega
    have hsc : sc M T' m (c + 22 + 4 * d_z) d_z = ([], false) := by
      unfold sc
      rw [u3, u9, en]
      exact a5.2
    rw [u3, en, a5.2] at m8_z
    exact ⟨a1_z, hsc, m8_z⟩
  obtain ⟨r1_z, r2, r3, ⟨r4, r5_z, r6, r7⟩, r8, r9, r10, r11, r12, r13, ⟨r14, r15, r16⟩, r17⟩ := h_z
  have e0_z : zB (n_z ≤ tk) = 1 := zB_t hlt
  have top1_z : 1 ≤ gI M c 12 ∧ gI M c 12 < 35 ∧ d_z < 5 := by
    obtain ⟨⟨y1, y2, y3⟩, y4, y5, B_z, C_z, y6, y7, y8, y9, -⟩ := r10
    have hB_z : ∀ l : Nat, (l : Int) ≤ gI M c 11 → 0 ≤ B_z l := by
      intro l
      induction l with
      | zero => intro _; rw [y6]; exact Int.le_refl 0
      | succ l ih_z =>
        intro hl
        have a_z := ih_z (by omega)
        have b_z := (y8 l (by omega)).1
        omega
    have a_z := hB_z (d_z - 1) (by omega)
    have b_z := (y8 (d_z - 1) (by omega)).1
    rw [show d_z - 1 + 1 = d_z from by omega] at b_z
    rw [hd_z] at y9
    have ed : ((d_z : Int)).toNat = d_z := Int.toNat_natCast d_z
    rw [ed] at y9
    exact ⟨by omega, r11.2.2.1, by omega⟩
  have hLv := fun qq => X_leave (G := G) (Q := qq) r1_z (by omega) (by omega) (by omega) (by omega)
  rw [hd_z] at hLv
  generalize htp : gI M c 12 = tp at *
  have hM2 := hN_z (uI (uI M c 11 ((d_z : Int) - 1)) c 12 (tp - 1)) (E_z - 1) (by omega) (Ex.outC (P_z := fun r_z => c ≤ r_z ∧ r_z < c + 147) (((Ex.refl _ M).uI _ _ (by omega)).uI _ _ (by omega)) (fun r_z hr => hr)) (fun T' h' R_z hR => ?_)
  · refine HC_body r1_z hd_z ht0 i0_z (by omega) (fun u5 u6 u7 => ?_)
    rw [e0_z]
    simp (disch := omega) only [B_73_35, r1_z.1.u, hd_z, B_73_50, hLv, B_73_55, B_73_198, inI, inL, isT, kInt, kByt, true_and, and_true, an_t, im_t, im_f, or_true, true_or, true_imp_iff, false_imp_iff, not_true_eq_false, not_false_eq_true, gK_uI, gK_uL, gK_uR, gK_uCI, gK_uCL, gN_uI, gN_uL, gN_uR, gN_uCI, gN_uCL, gR_uI, gR_uL, gR_uCI, gR_uCL, gI_uL, gI_uR, gI_uCL, gL_uI, gL_uR, gL_uCI, gz_uI, gz_uL, gz_uR, gz_uCI, gz_uCL, gs_uI, gs_uL, gs_uR, gs_uCI, gs_uCL, rI_at, rL_at, rR_at, rI_ne, rL_ne, rR_ne, rI_nk, rL_nk, rR_nk, rI_eq, rL_eq, rR_eq, Option.toList_some, Option.toList_none, List.cons_append, List.nil_append, List.append_nil, zc_eq, zc_lt, zc_le, zc_ge, zc_gt]
    exact hM2 _ _ _ _
  · obtain ⟨a1_z, a2, a3⟩ := ends_z T' h'
    have h'0 := h'
    obtain ⟨q1_z, q2_z, q3_z, ⟨q4_z, q5_z, q6_z, q7_z⟩, q8_z, q9_z, q10_z, q11_z, q12_z, q13_z, ⟨q14_z, q15_z, q16_z⟩, q17_z⟩ := h'
    obtain ⟨k1_z, k2_z, kF, kP_z⟩ := q10_z.get hd_z
    obtain ⟨u1_z, u2_z, u3, u4_z, u5, u6, u7, u8, u9, u10, u11, u12, u13, u14, u15, u16, u17⟩ := a1_z
    obtain ⟨p1_z, p2_z, p3_z, p4_z, p5_z⟩ := q11_z
    rw [htp] at p1_z p2_z p3_z p4_z p5_z
    have z_z : (0 : Int) + 161 * x_z = 161 * x_z := by omega
    have en : tk = n_z := by omega
    obtain ⟨⟨y1, y2, y3⟩, y4, y5, B_z, C_z, y6, y7, y8, y9, y10, y11⟩ := q10_z
    rw [hd_z] at y8 y9 y10 y11 y4
    have ed : ((d_z : Int)).toNat = d_z := Int.toNat_natCast d_z
    rw [ed] at y9 y11
    have yD := y4 (d_z - 1) (by omega)
    rw [if_pos (by omega)] at yD
    obtain ⟨w1_z, w2_z, w3_z⟩ := y8 (d_z - 1) (by omega)
    rw [show d_z - 1 + 1 = d_z from by omega] at w1_z w2_z
    have ec1 : ((d_z - 1 : Nat) : Int) = (d_z : Int) - 1 := by omega
    rw [ec1] at yD w1_z w2_z w3_z
    generalize hpc : gI T' (m + 18) ((d_z : Int) - 1) = pc at *
    have pcb : 0 ≤ pc + 1 ∧ pc + 1 < 1000 := by
      obtain ⟨z1, z2, ⟨z3, z4, z5⟩, -⟩ := yD
      have := (EdR.prog q8_z z1.1 (by omega) z2.2).2.2.2.1
      omega
    have fin_z : ∀ T1, Ex (fun r_z => r_z = m + 6) (uI T' m 19 (gI T' m 19 - 1)) T1 → gI T1 (m + 6) = rc (gI T' (m + 6)) 0 (gI T' (m + 7)) (20 * (gI T' m 19 - 1)) 20 → HM G m (uI (uI T1 m 36 ((d_z : Int) - 1)) (m + 18) ((d_z : Int) - 1) (pc + 1)) R_z := by
      intro T1 hE1 hR6
      have hA : Ex (fun r_z => m ≤ r_z ∧ r_z < m + 29 ∧ ¬ (m + 1 ≤ r_z ∧ r_z ≤ m + 3)) T' (uI T' m 19 (gI T' m 19 - 1)) := (Ex.refl _ T').uI _ _ (by omega)
      have hO : OutM m T' (uI (uI T1 m 36 ((d_z : Int) - 1)) (m + 18) ((d_z : Int) - 1) (pc + 1)) := ((hA.trans (hE1.mono (fun r_z hr => by omega))).uI _ _ (by omega)).uI _ _ (by omega)
      have row_z : ∀ r_z, r_z ≠ m → r_z ≠ m + 6 → r_z ≠ m + 18 → gI (uI (uI T1 m 36 ((d_z : Int) - 1)) (m + 18) ((d_z : Int) - 1) (pc + 1)) r_z = gI T' r_z := fun r_z n1_z n2_z n3_z => by
        rw [rI_ne n3_z, rI_ne n1_z, (hE1.2.2.2.2.2 r_z n2_z).1, rI_ne n1_z]
      have fld : ∀ k_z, k_z ≠ 19 → k_z ≠ 36 → gI (uI (uI T1 m 36 ((d_z : Int) - 1)) (m + 18) ((d_z : Int) - 1) (pc + 1)) m k_z = gI T' m k_z := fun k_z n1_z n2_z => by
        rw [rI_ne (by omega), rI_nk n2_z, (hE1.2.2.2.2.2 m (by omega)).1, rI_nk n1_z]
      have f19 : gI (uI (uI T1 m 36 ((d_z : Int) - 1)) (m + 18) ((d_z : Int) - 1) (pc + 1)) m 19 = tp - 1 := by
        rw [rI_ne (by omega), rI_nk (by decide), (hE1.2.2.2.2.2 m (by omega)).1, rI_at]
        omega
      have f36 : gI (uI (uI T1 m 36 ((d_z : Int) - 1)) (m + 18) ((d_z : Int) - 1) (pc + 1)) m 36 = (d_z : Int) - 1 := by
        rw [rI_ne (by omega), rI_at]
      have r18 : gI (uI (uI T1 m 36 ((d_z : Int) - 1)) (m + 18) ((d_z : Int) - 1) (pc + 1)) (m + 18) = upf (gI T' (m + 18)) ((d_z : Int) - 1) (pc + 1) := by
        rw [rI_row, rI_ne (by omega), (hE1.2.2.2.2.2 (m + 18) (by omega)).1, rI_ne (by omega)]
      have r6' : gI (uI (uI T1 m 36 ((d_z : Int) - 1)) (m + 18) ((d_z : Int) - 1) (pc + 1)) (m + 6) = rc (gI T' (m + 6)) 0 (gI T' (m + 7)) (20 * (tp - 1)) 20 := by
        rw [rI_ne (by omega), rI_ne (by omega), hR6, ← p1_z]
      refine hR _ hO ?_
      have hm2 : ShM (uI (uI T1 m 36 ((d_z : Int) - 1)) (m + 18) ((d_z : Int) - 1) (pc + 1)) m := Ex.sh hO q2_z
      generalize uI (uI T1 m 36 ((d_z : Int) - 1)) (m + 18) ((d_z : Int) - 1) (pc + 1) = T2 at *
      have po : Pool M T' (uI (uI M c 11 ((d_z : Int) - 1)) c 12 (tp - 1)) T2 c m := Pool.same (by simp (disch := omega) only [gK_uI, gK_uL, gK_uR, gK_uCI, gK_uCL, gN_uI, gN_uL, gN_uR, gN_uCI, gN_uCL, gR_uI, gR_uL, gR_uCI, gR_uCL, gI_uL, gI_uR, gI_uCL, gL_uI, gL_uR, gL_uCI, gz_uI, gz_uL, gz_uR, gz_uCI, gz_uCL, gs_uI, gs_uL, gs_uR, gs_uCI, gs_uCL, rI_at, rL_at, rR_at, rI_ne, rL_ne, rR_ne, rI_nk, rL_nk, rR_nk, rI_eq, rL_eq, rR_eq]) (by simp (disch := omega) only [gK_uI, gK_uL, gK_uR, gK_uCI, gK_uCL, gN_uI, gN_uL, gN_uR, gN_uCI, gN_uCL, gR_uI, gR_uL, gR_uCI, gR_uCL, gI_uL, gI_uR, gI_uCL, gL_uI, gL_uR, gL_uCI, gz_uI, gz_uL, gz_uR, gz_uCI, gz_uCL, gs_uI, gs_uL, gs_uR, gs_uCI, gs_uCL, rI_at, rL_at, rR_at, rI_ne, rL_ne, rR_ne, rI_nk, rL_nk, rR_nk, rI_eq, rL_eq, rR_eq]) (by simp (disch := omega) only [gK_uI, gK_uL, gK_uR, gK_uCI, gK_uCL, gN_uI, gN_uL, gN_uR, gN_uCI, gN_uCL, gR_uI, gR_uL, gR_uCI, gR_uCL, gI_uL, gI_uR, gI_uCL, gL_uI, gL_uR, gL_uCI, gz_uI, gz_uL, gz_uR, gz_uCI, gz_uCL, gs_uI, gs_uL, gs_uR, gs_uCI, gs_uCL, rI_at, rL_at, rR_at, rI_ne, rL_ne, rR_ne, rI_nk, rL_nk, rR_nk, rI_eq, rL_eq, rR_eq]) (by simp (disch := omega) only [gK_uI, gK_uL, gK_uR, gK_uCI, gK_uCL, gN_uI, gN_uL, gN_uR, gN_uCI, gN_uCL, gR_uI, gR_uL, gR_uCI, gR_uCL, gI_uL, gI_uR, gI_uCL, gL_uI, gL_uR, gL_uCI, gz_uI, gz_uL, gz_uR, gz_uCI, gz_uCL, gs_uI, gs_uL, gs_uR, gs_uCI, gs_uCL, rI_at, rL_at, rR_at, rI_ne, rL_ne, rR_ne, rI_nk, rL_nk, rR_nk, rI_eq, rL_eq, rR_eq]) (by simp (disch := omega) only [gK_uI, gK_uL, gK_uR, gK_uCI, gK_uCL, gN_uI, gN_uL, gN_uR, gN_uCI, gN_uCL, gR_uI, gR_uL, gR_uCI, gR_uCL, gI_uL, gI_uR, gI_uCL, gL_uI, gL_uR, gL_uCI, gz_uI, gz_uL, gz_uR, gz_uCI, gz_uCL, gs_uI, gs_uL, gs_uR, gs_uCI, gs_uCL, rI_at, rL_at, rR_at, rI_ne, rL_ne, rR_ne, rI_nk, rL_nk, rR_nk, rI_eq, rL_eq, rR_eq]) (by simp (disch := omega) only [gK_uI, gK_uL, gK_uR, gK_uCI, gK_uCL, gN_uI, gN_uL, gN_uR, gN_uCI, gN_uCL, gR_uI, gR_uL, gR_uCI, gR_uCL, gI_uL, gI_uR, gI_uCL, gL_uI, gL_uR, gL_uCI, gz_uI, gz_uL, gz_uR, gz_uCI, gz_uCL, gs_uI, gs_uL, gs_uR, gs_uCI, gs_uCL, rI_at, rL_at, rR_at, rI_ne, rL_ne, rR_ne, rI_nk, rL_nk, rR_nk, rI_eq, rL_eq, rR_eq]) (by simp (disch := omega) only [gK_uI, gK_uL, gK_uR, gK_uCI, gK_uCL, gN_uI, gN_uL, gN_uR, gN_uCI, gN_uCL, gR_uI, gR_uL, gR_uCI, gR_uCL, gI_uL, gI_uR, gI_uCL, gL_uI, gL_uR, gL_uCI, gz_uI, gz_uL, gz_uR, gz_uCI, gz_uCL, gs_uI, gs_uL, gs_uR, gs_uCI, gs_uCL, rI_at, rL_at, rR_at, rI_ne, rL_ne, rR_ne, rI_nk, rL_nk, rR_nk, rI_eq, rL_eq, rR_eq]) (fld _ (by decide) (by decide)) (row_z _ (by omega) (by omega) (by omega)) (row_z _ (by omega) (by omega) (by omega)) (row_z _ (by omega) (by omega) (by omega)) (row_z _ (by omega) (by omega) (by omega)) (row_z _ (by omega) (by omega) (by omega))
      have o : OutC c M (uI (uI M c 11 ((d_z : Int) - 1)) c 12 (tp - 1)) := Ex.outC (P_z := fun r_z => c ≤ r_z ∧ r_z < c + 147) (((Ex.refl _ M).uI _ _ (by omega)).uI _ _ (by omega)) (fun r_z hr => hr)
      have crow : ∀ r_z, r_z ≠ c → gI (uI (uI M c 11 ((d_z : Int) - 1)) c 12 (tp - 1)) r_z = gI M r_z := fun r_z n1_z => by rw [rI_ne n1_z, rI_ne n1_z]
      have c12_z : gI (uI (uI M c 11 ((d_z : Int) - 1)) c 12 (tp - 1)) c 12 = tp - 1 := rI_at
      have c11_z : gI (uI (uI M c 11 ((d_z : Int) - 1)) c 12 (tp - 1)) c 11 = (d_z : Int) - 1 := by rw [rI_nk (by decide), rI_at]
      have cf_z : ∀ k_z, k_z ≠ 11 → k_z ≠ 12 → gI (uI (uI M c 11 ((d_z : Int) - 1)) c 12 (tp - 1)) c k_z = gI M c k_z := fun k_z n1_z n2_z => by rw [rI_nk n2_z, rI_nk n1_z]
      have hs2 : ShMa (uI (uI M c 11 ((d_z : Int) - 1)) c 12 (tp - 1)) c := q1_z
      have eRR : gR (uI (uI M c 11 ((d_z : Int) - 1)) c 12 (tp - 1)) = gR M := rfl
      have eLL : gL (uI (uI M c 11 ((d_z : Int) - 1)) c 12 (tp - 1)) = gL M := rfl
      generalize uI (uI M c 11 ((d_z : Int) - 1)) c 12 (tp - 1) = M2_z at *
      have t1_z := row_z (m + 1) (by omega) (by omega) (by omega)
      have t17 := row_z (m + 17) (by omega) (by omega) (by omega)
      have esc : ∀ l : Nat, (l : Int) < d_z → sc M2_z T2 m (c + 22 + 4 * l) l = sc M T' m (c + 22 + 4 * l) l := by
        intro l hl
        unfold sc cdm
        rw [t1_z, t17, crow _ (by omega)]
      have ewk : ∀ l : Nat, (l : Int) < d_z → wrk M2_z T2 m (c + 22 + 4 * l) l = wrk M T' m (c + 22 + 4 * l) l := by
        intro l hl
        unfold wrk lnm
        rw [t1_z, t17, crow (c + 22 + 4 * l) (by omega), crow (c + 22 + 4 * l + 3) (by omega)]
      have ed1 : ((d_z : Int) - 1).toNat = d_z - 1 := by omega
      refine ⟨hs2, hm2, OpF.out q3_z o q6_z q4_z, ⟨q4_z, by rw [eRR]; exact q5_z, q6_z, by rw [eRR]; exact q7_z⟩, EdR.out q8_z o q4_z q7_z t1_z, TrR.fr q9_z (cf_z _ (by decide) (by decide)) (crow _ (by omega)) (crow _ (by omega)) (crow _ (by omega)) (fld _ (by decide) (by decide)) (row_z _ (by omega) (by omega) (by omega)), ?_, ?_, PaR.fr q12_z (by rw [cf_z _ (by decide) (by decide)]; exact Int.le_refl _) (crow _ (by omega)) (crow _ (by omega)) (crow _ (by omega)) (crow _ (by omega)) (crow _ (by omega)) (crow _ (by omega)) (fld _ (by decide) (by decide)) (fld _ (by decide) (by decide)) (fld _ (by decide) (by decide)) (fld _ (by decide) (by decide)) (row_z _ (by omega) (by omega) (by omega)) (row_z _ (by omega) (by omega) (by omega)) (row_z _ (by omega) (by omega) (by omega)), ItR.fr q13_z po (fun r_z z1 z2 => crow r_z (by omega)) (fld _ (by decide) (by decide)) (row_z _ (by omega) (by omega) (by omega)), ⟨?_, ?_, ?_⟩, ?_⟩
      · refine ⟨⟨by rw [c11_z, f36], by omega, by omega⟩, fun l hl => ?_, by rw [t17]; exact y5, B_z, C_z, y6, y7, fun l hl => ?_, ?_, ?_, ?_⟩
        · rw [c11_z] at hl ⊢
          have key_z := y4 l (by omega)
          rw [if_pos (by omega)] at key_z
          have res : FrL M2_z T2 s m (c + 22 + 4 * l) l (gI T' (m + 18) l + 1) := FrL.fr key_z eRR (crow _ (by omega)) (by rw [eLL]) (crow _ (by omega)) (crow _ (by omega)) t1_z (by rw [t17]) (by rw [row_z (m + 19) (by omega) (by omega) (by omega)]) (fun i_z _ _ => by rw [row_z (m + 20) (by omega) (by omega) (by omega), row_z (m + 21) (by omega) (by omega) (by omega)]; exact ⟨rfl, rfl⟩) (by rw [row_z (m + 22) (by omega) (by omega) (by omega)]) (fun i_z _ _ => by rw [row_z (m + 23) (by omega) (by omega) (by omega), row_z (m + 24) (by omega) (by omega) (by omega)]; exact ⟨rfl, rfl⟩)
          rw [r18]
          by_cases cl_z : (l : Int) = (d_z : Int) - 1
          · rw [if_neg (by omega), cl_z, upf_at, Int.add_zero, ← hpc, ← cl_z]
            exact res
          · rw [if_pos (by omega), upf_ne _ _ cl_z]
            exact res
        · rw [c11_z] at hl
          rw [esc l (by omega), ewk l (by omega)]
          exact y8 l (by omega)
        · rw [c11_z, c12_z, ed1]
          have := esc (d_z - 1) (by omega)
          rw [ec1] at this
          rw [this]
          rw [a2] at y9
          have nz : ((nsv ([], false).1 : Nat) : Int) = 0 := rfl
          rw [nz] at y9
          omega
        · rw [c11_z, ed1]
          have := esc (d_z - 1) (by omega)
          rw [ec1] at this
          rw [this, w3_z, fld 25 (by decide) (by decide)]
          rw [a2] at kP_z
          exact kP_z
        · rw [c11_z, ed1, cf_z 13 (by decide) (by decide)]
          have := ewk (d_z - 1) (by omega)
          rw [ec1] at this
          rw [this]
          have wk_z : wrk M T' m (c + 22 + 4 * d_z) d_z = 1 := by
            unfold wrk
            rw [a3, u3, u8, u9, en]
            have : lft (gI M (c + 22 + 4 * d_z + 3)) 0 = 0 := by simp [lft]
            rw [this]
            omega
          rw [wk_z] at y11
          omega
      · refine ⟨by rw [c12_z, f19], by omega, by omega, ?_, fun t_z ht => ?_⟩
        · rw [c12_z]
          have key_z := p5_z (tp - 1).toNat (by omega)
          refine GrR.fr key_z po (crow _ (by omega)) (by rw [eLL]) (crow _ (by omega)) (fun k_z z1 z2 => ?_)
          rw [r6', rc_in _ _ (by omega)]
          rw [show ((tp - 1).toNat : Int) = tp - 1 from by omega, show 20 * (tp - 1) + (k_z - 0) = 20 * (tp - 1) + k_z from by omega]
        · rw [c12_z] at ht
          exact GrR.fr (p5_z t_z (by omega)) po (crow _ (by omega)) (by rw [eLL]) (crow _ (by omega)) (fun k_z z1 z2 => by rw [row_z (m + 7) (by omega) (by omega) (by omega)])
      · rw [cf_z _ (by decide) (by decide), fld _ (by decide) (by decide)]
        exact q14_z
      · rw [cf_z _ (by decide) (by decide)]
        exact q15_z
      · rw [fld _ (by decide) (by decide)]
        exact q16_z
      · rw [cf_z _ (by decide) (by decide), crow _ (by omega)]
        exact q17_z
    unfold HM at fin_z ⊢
    rw [B_197_131]
    simp (disch := omega) only [q2_z.u, u1_z, u3, u10, z_z, u17, en, B_197_179, not_true_eq_false, inI, inL, isT, kInt, kByt, true_and, and_true, an_t, im_t, im_f, or_true, true_or, true_imp_iff, false_imp_iff, not_true_eq_false, not_false_eq_true, gK_uI, gK_uL, gK_uR, gK_uCI, gK_uCL, gN_uI, gN_uL, gN_uR, gN_uCI, gN_uCL, gR_uI, gR_uL, gR_uCI, gR_uCL, gI_uL, gI_uR, gI_uCL, gL_uI, gL_uR, gL_uCI, gz_uI, gz_uL, gz_uR, gz_uCI, gz_uCL, gs_uI, gs_uL, gs_uR, gs_uCI, gs_uCL, rI_at, rL_at, rR_at, rI_ne, rL_ne, rR_ne, rI_nk, rL_nk, rR_nk, rI_eq, rL_eq, rR_eq, Option.toList_some, Option.toList_none, List.cons_append, List.nil_append, List.append_nil, zc_eq, zc_lt, zc_le, zc_ge, zc_gt]
    refine X_takesBack q2_z (by omega) (by omega) (fun T1 hE1 hR6 => ?_)
    have hh := fin_z T1 hE1 hR6
    have hm1 : ShM T1 m := Ex.sh hE1 q2_z
    have g36 : gI T1 m 36 = (d_z : Int) := by
      rw [(hE1.2.2.2.2.2 m (by omega)).1, rI_nk (by decide)]
      exact u1_z
    have g18 : gI T1 (m + 18) ((d_z : Int) - 1) = pc := by
      rw [(hE1.2.2.2.2.2 (m + 18) (by omega)).1, rI_ne (by omega)]
      exact hpc
    simp (disch := omega) only [B_197_188, hm1.u, g36, g18, B_197_211, inI, inL, isT, kInt, kByt, true_and, and_true, an_t, im_t, im_f, or_true, true_or, true_imp_iff, false_imp_iff, not_true_eq_false, not_false_eq_true, gK_uI, gK_uL, gK_uR, gK_uCI, gK_uCL, gN_uI, gN_uL, gN_uR, gN_uCI, gN_uCL, gR_uI, gR_uL, gR_uCI, gR_uCL, gI_uL, gI_uR, gI_uCL, gL_uI, gL_uR, gL_uCI, gz_uI, gz_uL, gz_uR, gz_uCI, gz_uCL, gs_uI, gs_uL, gs_uR, gs_uCI, gs_uCL, rI_at, rL_at, rR_at, rI_ne, rL_ne, rR_ne, rI_nk, rL_nk, rR_nk, rI_eq, rL_eq, rR_eq, Option.toList_some, Option.toList_none, List.cons_append, List.nil_append, List.append_nil, zc_eq, zc_lt, zc_le, zc_ge, zc_gt]
    all_goals exact hh
end XA
