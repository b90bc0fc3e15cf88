/-! THE PURE PART, part 16: the text; undo. Own work. -/
section CM
variable {G : Env0} {Q : Option AV → Mem → Prop} {M : Mem} {b : Nat}
theorem ClS.ex {P_z : Nat → Prop} {M' : Mem} (h_z : ClS G M b) (o : Ex P_z M M') (hP : ∀ r_z, P_z r_z → b < r_z) : ClS G M' b := by
  obtain ⟨h1, h2, h3, h4, h5, h6, h7, h8, h9, h10⟩ := h_z
  obtain ⟨o1, o2, o3_z, o4_z, o5_z, o6⟩ := o
  have e_z : ∀ a_z, a_z ≤ b → gI M' a_z = gI M a_z := fun a_z ha_z => (o6 a_z (fun q_z => by have := hP a_z q_z; omega)).1
  refine ⟨?_, ?_, ?_, fun j_z hj => ?_, ?_, ?_, ?_, h8, h9, by omega⟩
  · unfold ShX ShXx at h1 ⊢
    rw [o1, o2, o3_z]
    exact h1
  · unfold ShRd ShRdx at h2 ⊢
    rw [o1, o2, o3_z]
    exact h2
  · unfold ShSa ShSax at h3 ⊢
    rw [o1, o2, o3_z]
    exact h3
  · have q_z := h4 j_z hj
    unfold ShSa ShSax at q_z ⊢
    rw [o1, o2, o3_z]
    exact q_z
  · unfold ShMa ShM0 ShM0x ShPa ShPax ShIt ShItx ShFr ShFrx ShGr ShGrx
    rw [o1, o2, o3_z]
    exact h5
  · obtain ⟨q1_z, q2_z⟩ := h6
    unfold OpF
    rw [o1, o2, e_z (G.2 1) (h8 1 (by decide))]
    refine ⟨q1_z, fun i_z hi_z => ?_⟩
    rw [e_z (G.2 (3 + i_z)) (h8 (3 + i_z) (by omega))]
    exact q2_z i_z hi_z
  · obtain ⟨q1_z, q2_z⟩ := h7
    unfold WdF
    rw [o1, o2, o3_z]
    refine ⟨q1_z, fun i_z hi_z => ?_⟩
    obtain ⟨w_z, a_z, w0_z, a0_z, w1_z, w2_z, w3_z, w4_z, w5, w6_z, w7_z⟩ := q2_z i_z hi_z
    exact ⟨w_z, a_z, w0_z, a0_z, w1_z, w2_z, by rw [e_z w_z (by omega)]; exact w3_z, w4_z, w5, w6_z, fun k_z hk => by rw [e_z a_z (by omega)]; exact w7_z k_z hk⟩
theorem EdRow.ex {P_z : Nat → Prop} {M' : Mem} {s_z : Nat} {f_z : Int → Int} (h_z : EdRow G M s_z f_z) (o : Ex P_z M M') (hP : ∀ r_z, P_z r_z → r_z = b + 2 ∨ r_z = b + 3 ∨ (b + 193 ≤ r_z ∧ r_z < b + 222)) (hp : PrB M b s_z) (hs0 : b + 10 ≤ s_z) (hs : s_z + 5 ≤ b + 193) : EdRow G M' s_z f_z ∧ PrB M' b s_z := by
  obtain ⟨o1, o2, o3_z, o4_z, o5_z, o6⟩ := o
  have e_z : ∀ a_z, b + 10 ≤ a_z → a_z < b + 193 → gI M' a_z = gI M a_z := fun a_z h0 ha_z => (o6 a_z (fun q_z => by have := hP a_z q_z; omega)).1
  refine ⟨EdRow.copy h_z ?_ (fun x_z _ _ => by rw [o3_z]) (fun p_z n_z cd q_z ⟨x_z, x0_z, x1_z, x2_z⟩ => ?_) (fun i_z _ _ => by rw [e_z _ (by omega) (by omega)]) (fun i_z _ _ => by rw [e_z _ (by omega) (by omega)]) (fun i_z _ _ => by rw [e_z _ (by omega) (by omega)]) (fun j_z _ => by rw [e_z _ (by omega) (by omega)]), ?_⟩
  · have q_z := h_z.1
    unfold ShSa ShSax at q_z ⊢
    rw [o1, o2, o3_z]
    exact q_z
  · have hp0 : b + 222 ≤ p_z := by
      have q1_z := q_z.1
      rcases hp x_z x0_z x1_z with y_z | y_z
      · omega
      · omega
    have g_z : ∀ a_z, p_z ≤ a_z → gI M' a_z = gI M a_z ∧ gL M' a_z = gL M a_z := fun a_z ha_z => o6 a_z (fun q_z => by have := hP a_z q_z; omega)
    exact PgR.fr q_z o1 o2 ⟨by rw [o3_z], by rw [o3_z]⟩ ⟨(g_z p_z (by omega)).1, (g_z (p_z + 3) (by omega)).1⟩ (g_z (p_z + 2) (by omega)).2
  · unfold PrB
    rw [o1, o3_z, o4_z]
    exact hp
theorem ClE.ex {P_z : Nat → Prop} {M' : Mem} {n_z : Nat} {f_z : Int → Int} {ps_z : Nat → Int → Int} (h_z : ClE G M b n_z f_z ps_z) (o : Ex P_z M M') (hP : ∀ r_z, P_z r_z → r_z = b + 2 ∨ r_z = b + 3 ∨ (b + 193 ≤ r_z ∧ r_z < b + 222)) : ClE G M' b n_z f_z ps_z := by
  obtain ⟨e1_z, e2_z, e3_z, e4_z, e5_z, e6_z, e7_z, e8⟩ := h_z
  have o' := o
  obtain ⟨o1, o2, o3_z, o4_z, o5_z, o6⟩ := o'
  have k_z := EdRow.ex e5_z o hP e7_z (by omega) (by omega)
  have kk : ∀ i_z : Nat, i_z < n_z → EdRow G M' (gR M (b + 15) (i_z : Int)) (ps_z i_z) ∧ PrB M' b (gR M (b + 15) (i_z : Int)) := fun i_z hi_z => by
    obtain ⟨j_z, j6_z, hj⟩ := e3_z i_z (by omega)
    exact EdRow.ex (e6_z i_z hi_z) o hP (e8 i_z hi_z) (by rw [hj]; unfold svA; omega) (by rw [hj]; unfold svA; omega)
  unfold ClE
  rw [o3_z, (o6 (b + 1) (fun q_z => by have := hP _ q_z; omega)).1]
  exact ⟨e1_z, e2_z, e3_z, e4_z, k_z.1, fun i_z hi_z => (kk i_z hi_z).1, k_z.2, fun i_z hi_z => (kk i_z hi_z).2⟩
/-- the end of an edit of the text -/
theorem inv_text {M2_z : Mem} {tl' : Int} {tx' : Int → Int} (h_z : Inv G M b) (oT : Ex (fun r_z => r_z = b + 2 ∨ r_z = b + 3 ∨ r_z = b + 193 ∨ r_z = b + 193 + 3) M M2_z) (fm : ∀ j_z, j_z ≠ 4 → gI M2_z (b + 193) j_z = gI M (b + 193) j_z) (hT_z : ClT M2_z b tl' tx') (h4 : gI M2_z (b + 193) 4 = tl') (h5 : ∀ i_z : Int, 0 ≤ i_z → i_z < tl' → gI M2_z (b + 193 + 3) i_z = tx' i_z) : Inv G M2_z b ∧ gz M2_z = gz M ∧ gs M2_z = gs M := by
  obtain ⟨hS_z, n_z, f_z, ps_z, tl, tx, hE, -, hM_z, hR⟩ := h_z
  have hP : ∀ r_z, (r_z = b + 2 ∨ r_z = b + 3 ∨ r_z = b + 193 ∨ r_z = b + 193 + 3) → r_z = b + 2 ∨ r_z = b + 3 ∨ (b + 193 ≤ r_z ∧ r_z < b + 222) := fun r_z hr => by omega
  have hS2 := hS_z.ex oT (fun r_z hr => by omega)
  have hE2 := hE.ex oT hP
  obtain ⟨t1_z, t2_z, t3_z, t4_z, t5_z, t6⟩ := id oT
  obtain ⟨a1_z, a2, a3, a4, a5, a6⟩ := hM_z
  refine ⟨⟨hS2, n_z, f_z, ps_z, tl', tx', hE2, hT_z, ⟨Ex.sh oT a1_z, by rw [fm 2 (by decide)]; exact a2, by rw [(t6 _ (by omega)).1]; exact a3, fun i_z hi_z k_z k0_z k1_z => by rw [(t6 _ (by omega)).1]; exact a4 i_z hi_z k_z k0_z k1_z, h4, h5⟩, hR.same (fun r_z r0 r1_z => t6 r_z (by omega)) (fun r_z r0 r1_z => (t6 r_z (by omega)).1) (fun j_z hj => fm j_z (by omega))⟩, t4_z, t5_z⟩
theorem s_append {x_z : Int} (h_z : Inv G M b) : Same G b J_X_append J_M_append [a_i x_z] M := by
  have hS_z := h_z.1
  have sX_z := hS_z.1
  have sR := hS_z.2.1
  by_cases cx : 1 ≤ x_z ∧ x_z ≤ 255
  · have hI := h_z
    obtain ⟨-, n_z, f_z, ps_z, tl, tx, hE, hT_z, hM_z, -⟩ := hI
    obtain ⟨q1_z, q2_z, q3_z, q4_z⟩ := hT_z
    obtain ⟨m1_z, -, -, -, m5_z, m6_z⟩ := hM_z
    have b3 := fun M qq => Y_in (G := G) (M := M) (Q := qq) (x_z := x_z) (y_z := 1) (w_z := 255)
    by_cases c6_z : tl = 160
    · refine same_pure (v_z := -10000003) h_z (fun Q hq => ?_) (fun Q hq => ?_)
      · have q1' : gI M (b + 2) 5 = 160 := by omega
        simp (disch := omega) only [E_X_append, B_10_0, B_10_15, sX_z.u, sR.u, E_Rd_add, B_11_0, q1', B_11_17, B_10_23, inI, inL, isT, kInt, kByt, true_and, and_true, an_t, im_t, im_f, or_true, true_or, true_imp_iff, false_imp_iff, not_true_eq_false, not_false_eq_true, gK_uI, gK_uL, gK_uR, gK_uCI, gK_uCL, gN_uI, gN_uL, gN_uR, gN_uCI, gN_uCL, gR_uI, gR_uL, gR_uCI, gR_uCL, gI_uL, gI_uR, gI_uCL, gL_uI, gL_uR, gL_uCI, gz_uI, gz_uL, gz_uR, gz_uCI, gz_uCL, gs_uI, gs_uL, gs_uR, gs_uCI, gs_uCL, rI_at, rL_at, rR_at, rI_ne, rL_ne, rR_ne, rI_nk, rL_nk, rR_nk, rI_eq, rL_eq, rR_eq, Option.toList_some, Option.toList_none, List.cons_append, List.nil_append, List.append_nil, zc_eq, zc_lt, zc_le, zc_ge, zc_gt]
        all_goals exact hq
      · have m5' : gI M (b + 193) 4 = 160 := by omega
        have b3 := b3 M
        rw [zB_t cx] at b3
        simp (disch := omega) only [E_M_append, B_169_0, b3, B_169_8, B_169_14, m1_z.u, m5', inI, inL, isT, kInt, kByt, true_and, and_true, an_t, im_t, im_f, or_true, true_or, true_imp_iff, false_imp_iff, not_true_eq_false, not_false_eq_true, gK_uI, gK_uL, gK_uR, gK_uCI, gK_uCL, gN_uI, gN_uL, gN_uR, gN_uCI, gN_uCL, gR_uI, gR_uL, gR_uCI, gR_uCL, gI_uL, gI_uR, gI_uCL, gL_uI, gL_uR, gL_uCI, gz_uI, gz_uL, gz_uR, gz_uCI, gz_uCL, gs_uI, gs_uL, gs_uR, gs_uCI, gs_uCL, rI_at, rL_at, rR_at, rI_ne, rL_ne, rR_ne, rI_nk, rL_nk, rR_nk, rI_eq, rL_eq, rR_eq, Option.toList_some, Option.toList_none, List.cons_append, List.nil_append, List.append_nil, zc_eq, zc_lt, zc_le, zc_ge, zc_gt]
        all_goals exact hq
    · have go_z : ∀ M1_z, M1_z = uI (uI M (b + 3) tl x_z) (b + 2) 5 (tl + 1) → Call G J_M_append [a_r (b + 193), a_i x_z] M1_z (fun r2 M2_z => r2 = some (a_i (tl + 1)) ∧ Inv G M2_z b ∧ gz M ≤ gz M2_z ∧ gz M2_z ≤ gz M + 10 ∧ gs M2_z ≤ gs M + 1000) := fun M1_z hM1 => by
        have oE : Ex (fun r_z => r_z = b + 2 ∨ r_z = b + 3 ∨ r_z = b + 193 ∨ r_z = b + 193 + 3) M M1_z := by
          rw [hM1]
          exact ((Ex.refl (fun r_z => r_z = b + 2 ∨ r_z = b + 3 ∨ r_z = b + 193 ∨ r_z = b + 193 + 3) M).uI _ _ (Or.inr (Or.inl rfl))).uI _ _ (Or.inl rfl)
        have hs1 : ShM M1_z (b + 193) := Ex.sh oE m1_z
        have m4_z : gI M1_z (b + 193) 4 = tl := by rw [hM1, rI_ne (by omega), rI_ne (by omega)]; exact m5_z
        have b3 := b3 M1_z
        rw [zB_t cx] at b3
        have oE2 : Ex (fun r_z => r_z = b + 2 ∨ r_z = b + 3 ∨ r_z = b + 193 ∨ r_z = b + 193 + 3) M (uI (uI M1_z (b + 193 + 3) tl x_z) (b + 193) 4 (tl + 1)) := (oE.uI _ _ (Or.inr (Or.inr (Or.inr rfl)))).uI _ _ (Or.inr (Or.inr (Or.inl rfl)))
        have r3 : ∀ i_z, gI M1_z (b + 3) i_z = if i_z = tl then x_z else gI M (b + 3) i_z := fun i_z => by
          rw [hM1, rI_ne (by omega)]
          by_cases ci : i_z = tl
          · rw [if_pos ci, ci, rI_at]
          · rw [if_neg ci, rI_nk ci]
        have r5_z : gI M1_z (b + 2) 5 = tl + 1 := by rw [hM1, rI_at]
        have rm : gI M1_z (b + 193 + 3) = gI M (b + 193 + 3) := by rw [hM1, rI_ne (by omega), rI_ne (by omega)]
        have rm0_z : gI M1_z (b + 193) = gI M (b + 193) := by rw [hM1, rI_ne (by omega), rI_ne (by omega)]
        obtain ⟨i1_z, i2_z, i3_z⟩ := inv_text (M2_z := uI (uI M1_z (b + 193 + 3) tl x_z) (b + 193) 4 (tl + 1)) (tl' := tl + 1) (tx' := upf tx tl x_z) h_z oE2 (fun j_z q_z => by rw [rI_nk q_z, rI_ne (by omega), rm0_z]) ⟨by rw [rI_ne (by omega), rI_ne (by omega)]; exact r5_z, by omega, by omega, fun i_z i0_z i1_z => by
          rw [rI_ne (by omega), rI_ne (by omega), r3]
          by_cases ci : i_z = tl
          · rw [if_pos ci, ci, upf_at]
            exact ⟨rfl, cx⟩
          · rw [if_neg ci, upf_ne _ _ ci]
            exact q4_z i_z i0_z (by omega)⟩ rI_at (fun i_z i0_z i1_z => by
          rw [rI_ne (by omega)]
          by_cases ci : i_z = tl
          · rw [ci, rI_at, upf_at]
          · rw [rI_nk ci, rm, upf_ne _ _ ci]
            exact m6_z i_z i0_z (by omega))
        have tln : ¬ tl = 160 := c6_z
        have cl_z : ∀ Q : Option AV → Mem → Prop, Q (some (a_i (tl + 1))) (uI (uI M1_z (b + 193 + 3) tl x_z) (b + 193) 4 (tl + 1)) → Call G J_M_append [a_r (b + 193), a_i x_z] M1_z Q := fun Q hq => by
          simp (disch := omega) only [E_M_append, B_169_0, b3, B_169_8, B_169_14, hs1.u, m4_z, tln, B_169_27, B_169_47, gK_uI, gN_uI, gR_uI, rI_at, rI_ne, rI_nk, inI, inL, isT, kInt, kByt, true_and, and_true, an_t, im_t, im_f, or_true, true_or, true_imp_iff, false_imp_iff, not_true_eq_false, not_false_eq_true, Option.toList_some, Option.toList_none, List.cons_append, List.nil_append, List.append_nil, zc_eq, zc_lt, zc_le, zc_ge, zc_gt]
          all_goals exact hq
        exact cl_z _ ⟨rfl, i1_z, by omega, by omega, by omega⟩
      have gg := go_z _ rfl
      have tl1 : tl < 160 := by omega
      have cl_z : ∀ Q : Option AV → Mem → Prop, Q (some (a_i (tl + 1))) (uI (uI M (b + 3) tl x_z) (b + 2) 5 (tl + 1)) → Call G J_X_append [a_r (b + 1), a_i x_z] M Q := fun Q hq => by
        simp (disch := omega) only [E_X_append, B_10_0, B_10_15, sX_z.u, sR.u, E_Rd_add, B_11_0, q1_z, B_11_19, B_11_39, B_10_23, B_10_29, gK_uI, gN_uI, gR_uI, rI_at, rI_ne, rI_nk, inI, inL, isT, kInt, kByt, true_and, and_true, an_t, im_t, im_f, or_true, true_or, true_imp_iff, false_imp_iff, not_true_eq_false, not_false_eq_true, Option.toList_some, Option.toList_none, List.cons_append, List.nil_append, List.append_nil]
        all_goals exact hq
      exact cl_z _ ⟨tl + 1, rfl, gg⟩
  · refine same_pure (v_z := -10000001) h_z (fun Q hq => ?_) (fun Q hq => ?_)
    · by_cases c1_z : x_z < 1
      · simp (disch := omega) only [E_X_append, B_10_0, c1_z, B_10_12, inI, inL, isT, kInt, kByt, true_and, and_true, an_t, im_t, im_f, or_true, true_or, true_imp_iff, false_imp_iff, not_true_eq_false, not_false_eq_true, gK_uI, gK_uL, gK_uR, gK_uCI, gK_uCL, gN_uI, gN_uL, gN_uR, gN_uCI, gN_uCL, gR_uI, gR_uL, gR_uCI, gR_uCL, gI_uL, gI_uR, gI_uCL, gL_uI, gL_uR, gL_uCI, gz_uI, gz_uL, gz_uR, gz_uCI, gz_uCL, gs_uI, gs_uL, gs_uR, gs_uCI, gs_uCL, rI_at, rL_at, rR_at, rI_ne, rL_ne, rR_ne, rI_nk, rL_nk, rR_nk, rI_eq, rL_eq, rR_eq, Option.toList_some, Option.toList_none, List.cons_append, List.nil_append, List.append_nil, zc_eq, zc_lt, zc_le, zc_ge, zc_gt]
        all_goals exact hq
      · have c2_z : ¬ x_z ≤ 255 := by omega
        simp (disch := omega) only [E_X_append, B_10_0, c1_z, c2_z, B_10_12, inI, inL, isT, kInt, kByt, true_and, and_true, an_t, im_t, im_f, or_true, true_or, true_imp_iff, false_imp_iff, not_true_eq_false, not_false_eq_true, gK_uI, gK_uL, gK_uR, gK_uCI, gK_uCL, gN_uI, gN_uL, gN_uR, gN_uCI, gN_uCL, gR_uI, gR_uL, gR_uCI, gR_uCL, gI_uL, gI_uR, gI_uCL, gL_uI, gL_uR, gL_uCI, gz_uI, gz_uL, gz_uR, gz_uCI, gz_uCL, gs_uI, gs_uL, gs_uR, gs_uCI, gs_uCL, rI_at, rL_at, rR_at, rI_ne, rL_ne, rR_ne, rI_nk, rL_nk, rR_nk, rI_eq, rL_eq, rR_eq, Option.toList_some, Option.toList_none, List.cons_append, List.nil_append, List.append_nil, zc_eq, zc_lt, zc_le, zc_ge, zc_gt]
        all_goals exact hq
    · have b3 := fun qq => Y_in (G := G) (M := M) (Q := qq) (x_z := x_z) (y_z := 1) (w_z := 255)
      rw [zB_f cx] at b3
      simp (disch := omega) only [E_M_append, B_169_0, b3, B_169_8, inI, inL, isT, kInt, kByt, true_and, and_true, an_t, im_t, im_f, or_true, true_or, true_imp_iff, false_imp_iff, not_true_eq_false, not_false_eq_true, gK_uI, gK_uL, gK_uR, gK_uCI, gK_uCL, gN_uI, gN_uL, gN_uR, gN_uCI, gN_uCL, gR_uI, gR_uL, gR_uCI, gR_uCL, gI_uL, gI_uR, gI_uCL, gL_uI, gL_uR, gL_uCI, gz_uI, gz_uL, gz_uR, gz_uCI, gz_uCL, gs_uI, gs_uL, gs_uR, gs_uCI, gs_uCL, rI_at, rL_at, rR_at, rI_ne, rL_ne, rR_ne, rI_nk, rL_nk, rR_nk, rI_eq, rL_eq, rR_eq, Option.toList_some, Option.toList_none, List.cons_append, List.nil_append, List.append_nil, zc_eq, zc_lt, zc_le, zc_ge, zc_gt]
      all_goals exact hq
theorem s_clearBuffer (h_z : Inv G M b) : Same G b J_X_clearBuffer J_M_clearBuffer [] M := by
  have hS_z := h_z.1
  have sX_z := hS_z.1
  have sR := hS_z.2.1
  have hI := h_z
  obtain ⟨-, n_z, f_z, ps_z, tl, tx, hE, hT_z, hM_z, -⟩ := hI
  obtain ⟨q1_z, q2_z, q3_z, q4_z⟩ := hT_z
  obtain ⟨m1_z, -, -, -, m5_z, m6_z⟩ := hM_z
  have oE : Ex (fun r_z => r_z = b + 2 ∨ r_z = b + 3 ∨ r_z = b + 193 ∨ r_z = b + 193 + 3) M (uI (uI M (b + 2) 5 0) (b + 193) 4 0) := ((Ex.refl (fun r_z => r_z = b + 2 ∨ r_z = b + 3 ∨ r_z = b + 193 ∨ r_z = b + 193 + 3) M).uI _ _ (Or.inl rfl)).uI _ _ (Or.inr (Or.inr (Or.inl rfl)))
  obtain ⟨i1_z, i2_z, i3_z⟩ := inv_text (tl' := 0) (tx' := tx) h_z oE (fun j_z q_z => by rw [rI_nk q_z, rI_ne (by omega)]) ⟨by rw [rI_ne (by omega), rI_at], by decide, by decide, fun i_z i0_z i1_z => by omega⟩ rI_at (fun i_z i0_z i1_z => by omega)
  have m1' : ShM (uI M (b + 2) 5 0) (b + 193) := m1_z
  have m5' : gI (uI M (b + 2) 5 0) (b + 193) 4 = tl := by rw [rI_ne (by omega)]; exact m5_z
  have fin_z : Call G J_M_clearBuffer [a_r (b + 193)] (uI M (b + 2) 5 0) (fun r2 M2_z => r2 = some (a_i tl) ∧ Inv G M2_z b ∧ gz M ≤ gz M2_z ∧ gz M2_z ≤ gz M + 10 ∧ gs M2_z ≤ gs M + 1000) := by
    have f2_z : (some (a_i tl) : Option AV) = some (a_i tl) ∧ Inv G (uI (uI M (b + 2) 5 0) (b + 193) 4 0) b ∧ gz M ≤ gz (uI (uI M (b + 2) 5 0) (b + 193) 4 0) ∧ gz (uI (uI M (b + 2) 5 0) (b + 193) 4 0) ≤ gz M + 10 ∧ gs (uI (uI M (b + 2) 5 0) (b + 193) 4 0) ≤ gs M + 1000 := ⟨rfl, i1_z, by omega, by omega, by omega⟩
    rw [E_M_clearBuffer, B_171_0, m5']
    exact ⟨m1_z.1, m1_z.1, trivial, f2_z⟩
  show Call G J_X_clearBuffer [a_r (b + 1)] M _
  rw [E_X_clearBuffer, B_12_0, sX_z.u.2.1, q1_z]
  exact ⟨sX_z.1, sR.1, sX_z.1, sR.1, trivial, tl, rfl, fin_z⟩
end CM
