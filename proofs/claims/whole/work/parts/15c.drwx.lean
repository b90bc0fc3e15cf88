/-! THE PURE PART, part 15: draw in the class. Own work. -/
section AX
variable {G : Env0} {Q : Option AV → Mem → Prop} {M T : Mem} {c s m r : Nat}
theorem X_drawTail {d_z g_z p_z : Nat} {va v_z w_z tp dp f_z e_z kk n_z hb_z : Int} (hs : ShMa M c) (h9 : gR M c 9 = s) (hsa : ShSa M s) (hsc : s + 5 ≤ c) (hw : gI M (c + 22 + 4 * d_z) 6 = w_z) (w0_z : 1 ≤ w_z) (w1_z : w_z ≤ 16) (ht : gI M c 12 = tp) (t0_z : 0 ≤ tp) (t1_z : tp + 1 < 35) (hgg : c + 42 + 3 * tp.toNat = g_z) (hd_z : gI M c 11 = (d_z : Int)) (d4_z : d_z < 4) (hdp : gI M c 14 = dp) (f0_z : 0 ≤ f_z) (f1_z : f_z ≤ 5) (hp : gR M (s + 1) (f_z + 1) = p_z) (hee : gI M (c + 4) 5 = e_z) (e0_z : 0 ≤ e_z) (e1_z : e_z < 200) (hkk : gI M (c + 4) 6 = kk) (k0_z : 0 ≤ kk) (k1_z : kk + 4 ≤ 800) (hn : gI M g_z 2 = n_z) (n0_z : 0 ≤ n_z) (hn1 : hb_z ≠ 0 → n_z < 6)
    (hno : hb_z = 0 → ∀ M3_z, PsF (uI M (c + 22 + 4 * d_z) 6 (w_z - 1)) M3_z c g_z tp → Q (some (a_i 0)) (frB M3_z c (c + 22 + 4 * (d_z + 1)) d_z dp f_z p_z)) (hbx : hb_z ≠ 0 → ∀ M3_z M6_z, PsF (uI M (c + 22 + 4 * d_z) 6 (w_z - 1)) M3_z c g_z tp → PtF M3_z M6_z c (g_z + 3) e_z kk n_z → Q (some (a_i 0)) (frB M6_z c (c + 22 + 4 * (d_z + 1)) d_z dp f_z p_z)) : At G 118 175 [a_r c, a_r (c + 22 + 4 * d_z), a_l va, a_u, a_i v_z, a_i f_z, a_i hb_z] [] M Q := by
  have hf : ShFr M (c + 22 + 4 * d_z) := (hs.2.2.2.1 d_z (by omega)).2
  have hR := fun qq => X_remove (G := G) (Q := qq) (x_z := 1) hf (by decide) (by omega) (by omega)
  rw [hw] at hR
  have hs2 : ShMa (uI M (c + 22 + 4 * d_z) 6 (w_z - 1)) c := hs
  have ed1 : ((d_z : Int) + 1).toNat = d_z + 1 := by omega
  have pu : Call G J_Ma_pushGraphics [a_r c] (uI M (c + 22 + 4 * d_z) 6 (w_z - 1)) (fun q_z M2_z => At G 118 184 [a_r c, a_r (c + 22 + 4 * d_z), a_l va, a_u, a_i v_z, a_i f_z, a_i hb_z] q_z.toList M2_z Q) := by
    refine X_pushF hs2 (by rw [rI_ne (by omega)]; exact ht) t0_z t1_z hgg (fun M3_z hs3 hF => ?_)
    obtain ⟨⟨a1_z, a2, a3, a4, a5⟩, a6, a7, a8, a9, -⟩ := id hF
    have r3 : ∀ a_z, a_z ≠ c → a_z ≠ g_z + 3 → a_z ≠ g_z + 5 → a_z ≠ c + 22 + 4 * d_z → gI M3_z a_z = gI M a_z := fun a_z q0 q1_z q2_z q3_z => by rw [a6 a_z q0 q1_z q2_z, rI_ne q3_z]
    have f3_z : ∀ j_z, j_z ≠ 12 → gI M3_z c j_z = gI M c j_z := fun j_z q0 => by rw [a7 j_z q0, rI_ne (by omega)]
    have h93 : gR M3_z c 9 = s := by rw [a3]; exact h9
    have hsa3 : ShSa M3_z s := by
      unfold ShSa ShSax
      rw [a1_z, a2, a3]
      exact hsa
    have hp3 : gR M3_z (s + 1) (f_z + 1) = p_z := by rw [a3]; exact hp
    have d3_z : gI M3_z c 11 = (d_z : Int) := by rw [f3_z 11 (by decide)]; exact hd_z
    have dp3 : gI M3_z c 14 = dp := by rw [f3_z 14 (by decide)]; exact hdp
    by_cases cb : hb_z = 0
    · have hh := hno cb M3_z hF
      have fin_z := X_drawEnd (G := G) (Q := Q) (r0 := c + 22 + 4 * d_z) (vv := va) (x4_z := v_z) (x6 := hb_z) (u3 := a_u) hs3 h93 hsa3 hsc d3_z (by omega) (by omega) dp3 f0_z f1_z hp3 (by rw [ed1]; exact hh)
      simp (disch := omega) only [B_118_184, cb, not_true_eq_false, inI, inL, isT, kInt, kByt, true_and, and_true, an_t, im_t, im_f, or_true, true_or, true_imp_iff, false_imp_iff, not_true_eq_false, not_false_eq_true, gK_uI, gK_uL, gK_uR, gK_uCI, gK_uCL, gN_uI, gN_uL, gN_uR, gN_uCI, gN_uCL, gR_uI, gR_uL, gR_uCI, gR_uCL, gI_uL, gI_uR, gI_uCL, gL_uI, gL_uR, gL_uCI, gz_uI, gz_uL, gz_uR, gz_uCI, gz_uCL, gs_uI, gs_uL, gs_uR, gs_uCI, gs_uCL, rI_at, rL_at, rR_at, rI_ne, rL_ne, rR_ne, rI_nk, rL_nk, rR_nk, rI_eq, rL_eq, rR_eq, Option.toList_some, Option.toList_none, List.cons_append, List.nil_append, List.append_nil, zc_eq, zc_lt, zc_le, zc_ge, zc_gt] at fin_z ⊢
      all_goals exact fin_z
    · have n6_z := hn1 cb
      have sP3 : ShPa M3_z (c + 4) := hs3.2.1
      have e3_z : gI M3_z (c + 4) 5 = e_z := by rw [r3 _ (by omega) (by omega) (by omega) (by omega)]; exact hee
      have k3_z : gI M3_z (c + 4) 6 = kk := by rw [r3 _ (by omega) (by omega) (by omega) (by omega)]; exact hkk
      have a21 : gK M3_z (c + 21) = 100 ∧ gN M3_z (c + 21) = 8 := by
        have q_z := hs3.1.u
        exact ⟨by simp only [q_z], by simp only [q_z]⟩
      have ap : Call G J_Pa_addPart [a_r (c + 4), a_r (c + 21)] M3_z (fun q_z M2_z => At G 118 200 [a_r c, a_r (c + 22 + 4 * d_z), a_l va, a_u, a_i v_z, a_i f_z, a_i hb_z] q_z.toList M2_z Q) := by
        refine X_addPart sP3 a21 (by omega) (by omega) (by omega) ?_
        obtain ⟨g1, g2, g3_z, g4, g5_z, g6⟩ := pAdd4_k M3_z (c + 4) (c + 21)
        obtain ⟨y1, y2, y3, y4, y5, y6⟩ := pAdd4_f (M_z := M3_z) (r_z := c + 4) (a_z := c + 21) k3_z
        have hs4 : ShMa (pAdd4 M3_z (c + 4) (c + 21)) c := hs3.congr g1 g2 (fun a_z j_z _ _ => by rw [g3_z])
        have key_z : ∀ M6_z, PtF M3_z M6_z c (g_z + 3) e_z kk n_z → At G 118 219 [a_r c, a_r (c + 22 + 4 * d_z), a_l va, a_u, a_i v_z, a_i f_z, a_i hb_z] [] M6_z Q := fun M6_z hP => by
          have hh := hbx cb M3_z M6_z hF hP
          obtain ⟨⟨z1, z2, z3, z4, z5, z6⟩, z7, -⟩ := hP
          have hs6 : ShMa M6_z c := hs3.congr z1 z2 (fun a_z j_z _ _ => by rw [z3])
          have hsa6 : ShSa M6_z s := by
            unfold ShSa ShSax
            rw [z1, z2, z3]
            exact hsa3
          exact X_drawEnd (d_z := (d_z : Int)) (dp := dp) (p_z := p_z) hs6 (by rw [z3]; exact h93) hsa6 hsc (by rw [z7 c (by omega) (by omega) (by omega)]; exact d3_z) (by omega) (by omega) (by rw [z7 c (by omega) (by omega) (by omega)]; exact dp3) f0_z f1_z (by rw [z3]; exact hp3) (by rw [ed1]; exact hh)
        have of_z := fun M1_z M2_z => PtF.of (M := M3_z) (M1_z := M1_z) (M2_z := M2_z) (c := c) (g_z := g_z + 3) (e_z := e_z) (kk := kk) (n_z := n_z) (by omega) k3_z
        have e4_z : gI (pAdd4 M3_z (c + 4) (c + 21)) (c + 4) 5 = e_z := by rw [y2 5 (by decide)]; exact e3_z
        have k4_z : gI (pAdd4 M3_z (c + 4) (c + 21)) (c + 4) 6 = kk + 4 := y3
        have t4_z : gI (pAdd4 M3_z (c + 4) (c + 21)) c 12 = tp + 1 := by rw [y1 c (by omega) (by omega) (by omega) (by omega)]; exact a8
        have n4_z : gI (pAdd4 M3_z (c + 4) (c + 21)) (g_z + 3) 2 = n_z := by rw [y1 _ (by omega) (by omega) (by omega) (by omega), a9, rI_ne (by omega)]; exact hn
        generalize pAdd4 M3_z (c + 4) (c + 21) = A_z at *
        have sPA : ShPa A_z (c + 4) := hs4.2.1
        have pe := fun qq => X_paEnd (G := G) (Q := qq) sPA (by omega) (by omega)
        rw [e4_z, k4_z] at pe
        obtain ⟨B_z, hB_z⟩ : ∃ B_z, B_z = uI (uI (uI (uI A_z (c + 4) 5 (e_z + 1)) (c + 4 + 4) (e_z + 1) (kk + 4)) (c + 4 + 5) (e_z + 1) 0) (c + 4) 7 0 := ⟨_, rfl⟩
        rw [← hB_z] at pe
        obtain ⟨⟨b1, b2, b3, b4, b5, b6⟩, b7, -⟩ := paE_f B_z hB_z
        have hsB : ShMa B_z c := hs4.congr b1 b2 (fun a_z j_z _ _ => by rw [b3])
        obtain ⟨gr1, gr2⟩ := hs4.gr (d_z := tp + 1) (by omega) (by omega)
        have eg : c + 42 + 3 * (tp + 1).toNat = g_z + 3 := by omega
        rw [eg] at gr1 gr2
        have grB_z : ShGr B_z (g_z + 3) := by
          unfold ShGr ShGrx
          rw [b1, b2, b3]
          exact gr2
        have nB_z : gI B_z (g_z + 3) 2 = n_z := by rw [b7 _ (by omega) (by omega) (by omega)]; exact n4_z
        have ac := fun qq => X_addClip (G := G) (Q := qq) (x_z := e_z) grB_z (by omega) (by omega)
        rw [nB_z] at ac
        have fin_z := key_z _ (of_z B_z _ hB_z rfl)
        simp (disch := omega) only [B_118_200, hs4.1.u, t4_z, gr1, sPA.u, pe, B_118_216, grB_z.u, ac, inI, inL, isT, kInt, kByt, true_and, and_true, an_t, im_t, im_f, or_true, true_or, true_imp_iff, false_imp_iff, not_true_eq_false, not_false_eq_true, gK_uI, gK_uL, gK_uR, gK_uCI, gK_uCL, gN_uI, gN_uL, gN_uR, gN_uCI, gN_uCL, gR_uI, gR_uL, gR_uCI, gR_uCL, gI_uL, gI_uR, gI_uCL, gL_uI, gL_uR, gL_uCI, gz_uI, gz_uL, gz_uR, gz_uCI, gz_uCL, gs_uI, gs_uL, gs_uR, gs_uCI, gs_uCL, rI_at, rL_at, rR_at, rI_ne, rL_ne, rR_ne, rI_nk, rL_nk, rR_nk, rI_eq, rL_eq, rR_eq, Option.toList_some, Option.toList_none, List.cons_append, List.nil_append, List.append_nil, zc_eq, zc_lt, zc_le, zc_ge, zc_gt]
        all_goals exact fin_z
      simp (disch := omega) only [B_118_184, cb, not_false_eq_true, hs3.1.u, sP3.u, inI, inL, isT, kInt, kByt, true_and, and_true, an_t, im_t, im_f, or_true, true_or, true_imp_iff, false_imp_iff, not_true_eq_false, not_false_eq_true, gK_uI, gK_uL, gK_uR, gK_uCI, gK_uCL, gN_uI, gN_uL, gN_uR, gN_uCI, gN_uCL, gR_uI, gR_uL, gR_uCI, gR_uCL, gI_uL, gI_uR, gI_uCL, gL_uI, gL_uR, gL_uCI, gz_uI, gz_uL, gz_uR, gz_uCI, gz_uCL, gs_uI, gs_uL, gs_uR, gs_uCI, gs_uCL, rI_at, rL_at, rR_at, rI_ne, rL_ne, rR_ne, rI_nk, rL_nk, rR_nk, rI_eq, rL_eq, rR_eq, Option.toList_some, Option.toList_none, List.cons_append, List.nil_append, List.append_nil, zc_eq, zc_lt, zc_le, zc_ge, zc_gt]
      all_goals exact ap
  simp (disch := omega) only [B_118_175, hf.u, hR, B_118_180, hs2.1.u, inI, inL, isT, kInt, kByt, true_and, and_true, an_t, im_t, im_f, or_true, true_or, true_imp_iff, false_imp_iff, not_true_eq_false, not_false_eq_true, gK_uI, gK_uL, gK_uR, gK_uCI, gK_uCL, gN_uI, gN_uL, gN_uR, gN_uCI, gN_uCL, gR_uI, gR_uL, gR_uCI, gR_uCL, gI_uL, gI_uR, gI_uCL, gL_uI, gL_uR, gL_uCI, gz_uI, gz_uL, gz_uR, gz_uCI, gz_uCL, gs_uI, gs_uL, gs_uR, gs_uCI, gs_uCL, rI_at, rL_at, rR_at, rI_ne, rL_ne, rR_ne, rI_nk, rL_nk, rR_nk, rI_eq, rL_eq, rR_eq, Option.toList_some, Option.toList_none, List.cons_append, List.nil_append, List.append_nil, zc_eq, zc_lt, zc_le, zc_ge, zc_gt]
  all_goals exact pu
end AX
