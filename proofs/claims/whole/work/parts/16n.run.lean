/-! THE PURE PART, part 16: run. Own work. -/
section CO
variable {G : Env0} {Q : Option AV → Mem → Prop} {M : Mem} {b : Nat}
theorem EdRow.outC {M' : Mem} {s_z : Nat} {f_z : Int → Int} (h_z : EdRow G M s_z f_z) (o : OutC (b + 16) M M') (hp : PrB M b s_z) (hs : s_z + 5 ≤ b + 16 ∨ b + 163 ≤ s_z) : EdRow G M' s_z f_z ∧ PrB M' b s_z := by
  obtain ⟨o1, o2, o3_z, o4_z, o5_z⟩ := o
  have e_z : ∀ a_z, s_z ≤ a_z → a_z ≤ s_z + 4 → gI M' a_z = gI M a_z ∧ gL M' a_z = gL M a_z ∧ gR M' a_z = gR M a_z := fun a_z a0_z a1_z => o5_z a_z (by omega)
  refine ⟨EdRow.copy h_z ?_ (fun x_z _ _ => by rw [(e_z (s_z + 1) (by omega) (by omega)).2.2]) (fun p_z n_z cd q_z ⟨x_z, x0_z, x1_z, x2_z⟩ => ?_) (fun i_z _ _ => by rw [(e_z _ (by omega) (by omega)).1]) (fun i_z _ _ => by rw [(e_z _ (by omega) (by omega)).1]) (fun i_z _ _ => by rw [(e_z _ (by omega) (by omega)).1]) (fun j_z _ => by rw [(e_z _ (by omega) (by omega)).1]), ?_⟩
  · have q_z := h_z.1
    unfold ShSa ShSax at q_z ⊢
    rw [o1, o2, (e_z s_z (by omega) (by omega)).2.2]
    exact q_z
  · have hp0 : b + 222 ≤ p_z := by
      have q1_z := q_z.1
      rcases hp x_z x0_z x1_z with y_z | y_z
      · omega
      · omega
    have g_z : ∀ a_z, p_z ≤ a_z → gI M' a_z = gI M a_z ∧ gL M' a_z = gL M a_z ∧ gR M' a_z = gR M a_z := fun a_z ha_z => o5_z a_z (by omega)
    exact PgR.fr q_z o1 o2 ⟨(g_z p_z (by omega)).2.2, (g_z (p_z + 1) (by omega)).2.2⟩ ⟨(g_z p_z (by omega)).1, (g_z (p_z + 3) (by omega)).1⟩ (g_z (p_z + 2) (by omega)).2.1
  · unfold PrB
    rw [o1, o3_z, (e_z (s_z + 1) (by omega) (by omega)).2.2]
    exact hp
theorem ClS.outC {M' : Mem} (h_z : ClS G M b) (o : OutC (b + 16) M M') (hma : ShMa M' (b + 16)) : ClS G M' b := by
  obtain ⟨h1, h2, h3, h4, h5, h6, h7, h8, h9, h10⟩ := h_z
  obtain ⟨o1, o2, o3_z, o4_z, o5_z⟩ := o
  have e_z : ∀ a_z, (a_z < b + 16 ∨ b + 163 ≤ a_z) → gI M' a_z = gI M a_z ∧ gL M' a_z = gL M a_z ∧ gR M' a_z = gR M a_z := fun a_z ha_z => o5_z a_z (by omega)
  refine ⟨?_, ?_, ?_, fun j_z hj => ?_, hma, ?_, ?_, h8, h9, by omega⟩
  · unfold ShX ShXx at h1 ⊢
    rw [o1, o2, (e_z (b + 1) (by omega)).2.2]
    exact h1
  · unfold ShRd ShRdx at h2 ⊢
    rw [o1, o2, (e_z (b + 2) (by omega)).2.2, (e_z (b + 7) (by omega)).2.2]
    exact h2
  · unfold ShSa ShSax at h3 ⊢
    rw [o1, o2, (e_z (b + 10) (by omega)).2.2]
    exact h3
  · have q_z := h4 j_z hj
    unfold ShSa ShSax at q_z ⊢
    rw [o1, o2, (e_z (svA b j_z) (by unfold svA; omega)).2.2]
    exact q_z
  · obtain ⟨q1_z, q2_z⟩ := h6
    unfold OpF
    rw [o1, o2, (e_z (G.2 1) (by have := h8 1 (by decide); omega)).1]
    refine ⟨q1_z, fun i_z hi_z => ?_⟩
    rw [(e_z (G.2 (3 + i_z)) (by have := h8 (3 + i_z) (by omega); omega)).1]
    exact q2_z i_z hi_z
  · obtain ⟨q1_z, q2_z⟩ := h7
    unfold WdF
    rw [o1, o2, (e_z (G.2 0) (by have := h8 0 (by decide); omega)).2.2]
    refine ⟨q1_z, fun i_z hi_z => ?_⟩
    obtain ⟨w_z, a_z, w0_z, a0_z, w1_z, w2_z, w3_z, w4_z, w5, w6_z, w7_z⟩ := q2_z i_z hi_z
    refine ⟨w_z, a_z, w0_z, a0_z, ?_, w2_z, ?_, ?_, w5, w6_z, fun k_z hk => ?_⟩
    · rw [(e_z (G.2 (3 + i_z)) (by have := h8 (3 + i_z) (by omega); omega)).2.2]
      exact w1_z
    · rw [(e_z w_z (by omega)).1]
      exact w3_z
    · rw [(e_z w_z (by omega)).2.2]
      exact w4_z
    · rw [(e_z a_z (by omega)).1]
      exact w7_z k_z hk
theorem ClE.outC {M' : Mem} {n_z : Nat} {f_z : Int → Int} {ps_z : Nat → Int → Int} (h_z : ClE G M b n_z f_z ps_z) (o : OutC (b + 16) M M') : ClE G M' b n_z f_z ps_z := by
  obtain ⟨e1_z, e2_z, e3_z, e4_z, e5_z, e6_z, e7_z, e8⟩ := h_z
  have o' := o
  obtain ⟨o1, o2, o3_z, o4_z, o5_z⟩ := o'
  have k_z := EdRow.outC e5_z o e7_z (by omega)
  have kk : ∀ i_z : Nat, i_z < n_z → EdRow G M' (gR M (b + 15) (i_z : Int)) (ps_z i_z) ∧ PrB M' b (gR M (b + 15) (i_z : Int)) := fun i_z hi_z => by
    obtain ⟨j_z, j6_z, hj⟩ := e3_z i_z (by omega)
    exact EdRow.outC (e6_z i_z hi_z) o (e8 i_z hi_z) (by rw [hj]; unfold svA; omega)
  unfold ClE
  rw [(o5_z (b + 15) (by omega)).2.2, (o5_z (b + 1) (by omega)).1]
  exact ⟨e1_z, e2_z, e3_z, e4_z, k_z.1, fun i_z hi_z => (kk i_z hi_z).1, k_z.2, fun i_z hi_z => (kk i_z hi_z).2⟩
theorem s_run (h_z : Inv G M b) : Same G b J_X_run J_M_run [] M := by
  have hI := h_z
  obtain ⟨hS_z, n_z, f_z, ps_z, tl, tx, hE, hT_z, hM_z, hR⟩ := hI
  have hed : EdR G M M (b + 10) (b + 193) := h_z.ed
  have sX_z := hS_z.1
  have sS := hS_z.2.2.1
  by_cases c0_z : 0 ≤ lnm M (b + 193) 0
  · have pg := hed.prog (x_z := 0) (by decide) (by decide) c0_z
    have np : ¬ gR M (b + 10 + 1) 0 = 0 := pg.1
    have ex_z : Call G J_Ma_execute [a_r (b + 16), a_r (b + 10)] M (fun q_z M2_z => At G 72 26 [a_r (b + 1)] q_z.toList M2_z (fun r_z M1_z => ∃ v_z : Int, r_z = some (a_i v_z) ∧ Call G J_M_run [a_r (b + 193)] M1_z (fun r2 M2_z => r2 = some (a_i v_z) ∧ Inv G M2_z b ∧ gz M ≤ gz M2_z ∧ gz M2_z ≤ gz M + 10 ∧ gs M2_z ≤ gs M + 1000))) := by
      refine run_both (s := b + 10) (m := b + 193) (T := M) hS_z.2.2.2.2.1 hM_z.1 hS_z.2.2.2.2.2.1 (by omega) (fun i_z hi_z => by have := hS_z.2.2.2.2.2.2.2.1 i_z hi_z; omega) (fun x_z x0_z x1_z => ?_) hed hR.1 c0_z (fun M2_z e_z o2 sh2 c10_z t8 sim => ?_)
      · rcases hE.2.2.2.2.2.2.1 x_z x0_z x1_z with q_z | q_z
        · exact Or.inl q_z
        · exact Or.inr (by omega)
      · have o2' := o2
        obtain ⟨o1, o3_z, o4_z, o5_z, o6⟩ := o2'
        have rm : ∀ a_z, b + 193 ≤ a_z → gI M2_z a_z = gI M a_z ∧ gL M2_z a_z = gL M a_z ∧ gR M2_z a_z = gR M a_z := fun a_z ha_z => o6 a_z (by omega)
        have hm2 : ShM M2_z (b + 193) := by
          have q_z := hM_z.1
          unfold ShM ShMx at q_z ⊢
          rw [o1, o3_z, (rm _ (Nat.le_refl _)).2.2]
          exact q_z
        have r1_z : gI M2_z (b + 193 + 1) = gI M (b + 193 + 1) := (rm _ (by omega)).1
        have hed2 : EdR G M M2_z (b + 10) (b + 193) := by
          have q_z : EdRow G M (b + 10) (gI M2_z (b + 193 + 1)) := by
            rw [r1_z]
            exact h_z.ed
          exact q_z
        have c02 : 0 ≤ lnm M2_z (b + 193) 0 := by
          unfold lnm at c0_z ⊢
          rw [r1_z]
          exact c0_z
        have fin_z : Call G J_M_run [a_r (b + 193)] M2_z (fun r2 M3_z => r2 = some (a_i e_z) ∧ Inv G M3_z b ∧ gz M ≤ gz M3_z ∧ gz M3_z ≤ gz M + 10 ∧ gs M3_z ≤ gs M + 1000) := by
          refine sim M2_z hm2 hed2 c02 _ (fun T2 oT f45 f2_z f4_z rs => ?_)
          obtain ⟨t1_z, t2_z, t3_z, t4_z, t5_z, t6⟩ := id oT
          have row_z : ∀ a_z, (a_z < b + 193 ∨ (b + 194 ≤ a_z ∧ a_z ≤ b + 196)) → gI T2 a_z = gI M2_z a_z ∧ gL T2 a_z = gL M2_z a_z := fun a_z ha_z => t6 a_z (by omega)
          have hS2 := (hS_z.outC o2 sh2).ex oT (fun r_z hr => by omega)
          have hE2 := (hE.outC o2).ex oT (fun r_z hr => by omega)
          obtain ⟨m1_z, m2_z, m3_z, m4_z, m5_z, m6_z⟩ := hM_z
          obtain ⟨q1_z, q2_z, q3_z, q4_z⟩ := hT_z
          refine ⟨rfl, ⟨hS2, n_z, f_z, ps_z, tl, tx, hE2, ⟨?_, q2_z, q3_z, fun i_z i0_z i1_z => ?_⟩, ⟨Ex.sh oT hm2, ?_, ?_, fun i_z hi_z k_z k0_z k1_z => ?_, ?_, fun i_z i0_z i1_z => ?_⟩, ⟨fun k_z => ?_, Or.inr ⟨?_, f45, rs.same (fun r_z r0 r1_z => row_z r_z (by omega)) (fun r_z _ _ => rfl) (fun j_z _ => rfl)⟩⟩⟩, by omega, by omega, by omega⟩
          · rw [(row_z _ (by omega)).1, (o6 _ (by omega)).1]
            exact q1_z
          · rw [(row_z _ (by omega)).1, (o6 _ (by omega)).1]
            exact q4_z i_z i0_z i1_z
          · rw [f2_z, (rm _ (by omega)).1]
            exact m2_z
          · rw [(row_z _ (by omega)).1, r1_z]
            exact m3_z
          · rw [(row_z _ (by omega)).1, (rm _ (by omega)).1]
            exact m4_z i_z hi_z k_z k0_z k1_z
          · rw [f4_z, (rm _ (by omega)).1]
            exact m5_z
          · rw [(row_z _ (by omega)).1, (rm _ (by omega)).1]
            exact m6_z i_z i0_z i1_z
          · rw [(row_z _ (by omega)).1]
            exact t8 k_z
          · rw [(row_z _ (by omega)).1]
            exact c10_z
        simp only [Option.toList_some, Option.toList_none, List.cons_append, List.nil_append, List.append_nil]
        rw [B_72_26]
        exact ⟨trivial, e_z, rfl, fin_z⟩
    show Call G J_X_run [a_r (b + 1)] M _
    rw [E_X_run, B_72_0, sX_z.u.2.2.1, sS.u.2.1]
    have kS := sS.u
    refine ⟨sX_z.1, sS.1, by omega, by decide, by omega, fun _ => ?_, fun q_z => absurd q_z np⟩
    rw [B_72_15, sX_z.u.2.2.2.2.1, sX_z.u.2.2.1]
    simp only [List.append_nil]
    exact ⟨sX_z.1, sX_z.1, hS_z.2.2.2.2.1.1.1, ex_z⟩
  · have pr := hed.2.1 0 (by decide) (by decide)
    rcases pr with ⟨q1_z, q2_z⟩ | ⟨q1_z, -⟩
    · refine same_pure (v_z := -10000002) h_z (fun Q hq => ?_) (fun Q hq => ?_)
      · simp (disch := omega) only [E_X_run, B_72_0, sX_z.u, sS.u, q2_z, not_true_eq_false, inI, inL, isT, kInt, kByt, true_and, and_true, an_t, im_t, im_f, or_true, true_or, true_imp_iff, false_imp_iff, not_true_eq_false, not_false_eq_true, gK_uI, gK_uL, gK_uR, gK_uCI, gK_uCL, gN_uI, gN_uL, gN_uR, gN_uCI, gN_uCL, gR_uI, gR_uL, gR_uCI, gR_uCL, gI_uL, gI_uR, gI_uCL, gL_uI, gL_uR, gL_uCI, gz_uI, gz_uL, gz_uR, gz_uCI, gz_uCL, gs_uI, gs_uL, gs_uR, gs_uCI, gs_uCL, rI_at, rL_at, rR_at, rI_ne, rL_ne, rR_ne, rI_nk, rL_nk, rR_nk, rI_eq, rL_eq, rR_eq, Option.toList_some, Option.toList_none, List.cons_append, List.nil_append, List.append_nil, zc_eq, zc_lt, zc_le, zc_ge, zc_gt]
        all_goals exact hq
      · have n0_z : ¬ 0 ≤ gI M (b + 193 + 1) 0 := c0_z
        simp (disch := omega) only [E_M_run, B_197_0, hM_z.1.u, n0_z, inI, inL, isT, kInt, kByt, true_and, and_true, an_t, im_t, im_f, or_true, true_or, true_imp_iff, false_imp_iff, not_true_eq_false, not_false_eq_true, gK_uI, gK_uL, gK_uR, gK_uCI, gK_uCL, gN_uI, gN_uL, gN_uR, gN_uCI, gN_uCL, gR_uI, gR_uL, gR_uCI, gR_uCL, gI_uL, gI_uR, gI_uCL, gL_uI, gL_uR, gL_uCI, gz_uI, gz_uL, gz_uR, gz_uCI, gz_uCL, gs_uI, gs_uL, gs_uR, gs_uCI, gs_uCL, rI_at, rL_at, rR_at, rI_ne, rL_ne, rR_ne, rI_nk, rL_nk, rR_nk, rI_eq, rL_eq, rR_eq, Option.toList_some, Option.toList_none, List.cons_append, List.nil_append, List.append_nil, zc_eq, zc_lt, zc_le, zc_ge, zc_gt]
        all_goals exact hq
    · exact absurd q1_z c0_z
end CO
