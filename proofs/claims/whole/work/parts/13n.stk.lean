/-! THE PURE PART, part 13: close, dup, exch. Own work (partly written by a program of its own). -/
section DB
variable {G : Env0} {Q : Option AV → Mem → Prop} {M T : Mem} {c s m : Nat}
theorem trc_f {T1 : Mem} {x_z tk : Int} {d_z : Nat} (j_z : Int) (h_z : j_z ≠ 49) : gI (trcT T1 m x_z tk d_z) m j_z = gI T1 m j_z := by
  unfold trcT
  rw [rI_nk h_z, rI_ne (by omega), rI_ne (by omega), rI_ne (by omega)]
theorem trc_r {T1 : Mem} {x_z tk : Int} {d_z r_z : Nat} (h_z : r_z ≠ m) (h2 : r_z ≠ m + 25) : gI (trcT T1 m x_z tk d_z) r_z = gI T1 r_z := by
  unfold trcT
  rw [rI_ne h_z, rI_ne h2, rI_ne h2, rI_ne h2]
/-- the model's check says: too much -/
theorem wr_full {E_z x_z n_z tk : Int} {d_z p_z k_z : Nat} {T' : Mem} (h' : Rel G M T' c s m E_z) (hd_z : gI M c 11 = (d_z : Int)) (hb_z : gI M c 13 < gI M s 6) (k1_z : k_z < 22) (kc_z : k_z ≠ 12 ∧ k_z ≠ 13) (ha_z : ∀ qq : Option AV → Mem → Prop, qq (some (a_i 1)) T' → Call G J_M_areOperands [a_r m, a_i (k_z : Int)] T' qq) (ht : ∀ qq : Option AV → Mem → Prop, qq (some (a_i 1)) (uI T' m 16 0) → Call G J_M_isTooMuch [a_r m, a_i (k_z : Int)] (uI T' m 16 0) qq) {qq : Option AV → Mem → Prop} (hq : qq (some (a_i 6)) (uI T' m 16 0)) : Call G J_M_wrong [a_r m, a_i (k_z : Int)] T' qq := by
  obtain ⟨q1_z, q2_z, q3_z, -, q8_z, q9_z, -⟩ := h'
  have hb' : gI T' m 49 ≠ gI T' (m + 1) 1215 := by
    have := q9_z.1
    have := q8_z.2.2.2.2.2.2.1
    omega
  have hm0 : ShM (uI T' m 16 0) m := q2_z
  exact X_wrongN q2_z (by omega) (by omega) (by omega) hb' ha_z (ht _ ⟨1, rfl, hm0, Or.inl rI_at, fun _ => hq, fun q_z => absurd q_z (by decide)⟩)
theorem op_close {E_z i_z x_z n_z tk : Int} {d_z p_z : Nat} (h_z : Rel G M T c s m E_z) (hd_z : gI M c 11 = (d_z : Int)) (hx : gI M (c + 22 + 4 * d_z) 4 = x_z - 1) (htk : gI M (c + 22 + 4 * d_z) 5 = tk) (hp : gR M (c + 22 + 4 * d_z) 3 = p_z) (hn : gI M p_z 3 = n_z) (hlt : tk < n_z) (hop : gR M (p_z + 1) tk = G.2 (3 + 5)) (i0_z : 0 ≤ i_z) (i1_z : i_z + 1 < 1000000) (hN_z : Nxt G c s m M E_z i_z Q) (hEr : Err G c s m M E_z Q) : HC G c s i_z M Q := by
  refine op_pre (k_z := 5) h_z hd_z hx htk hp hn hlt (by decide) (by decide) hop i0_z i1_z hEr (fun hb_z hw _ => ?_)
  have h0 := h_z
  obtain ⟨r1_z, r2, r3, ⟨r4, r5_z, r6, r7⟩, r8, r9, r10, r11, r12, r13, ⟨r14, r15, r16⟩, r17⟩ := h_z
  obtain ⟨g1, g2, g3_z, w0_z, w1_z, g6⟩ := h0.opn hd_z
  have nd : need ((5 : Nat) : Int) = 0 := by decide
  rw [nd] at hw
  have hs1 : ShMa (uI M (c + 22 + 4 * d_z) 5 (tk + 1)) c := r1_z
  have ho1 : OpF G (uI M (c + 22 + 4 * d_z) 5 (tk + 1)) := OpF.out r3 ((OutC.refl c M).uI _ _ (by omega)) r6 r4
  have f2_z : ShFr (uI M (c + 22 + 4 * d_z) 5 (tk + 1)) (c + 22 + 4 * d_z) := (r1_z.2.2.2.1 d_z g1).2
  have e13_z : gI (uI M (c + 22 + 4 * d_z) 5 (tk + 1)) c 13 = gI M c 13 := by rw [rI_ne (by omega)]
  have es6 : gI (uI M (c + 22 + 4 * d_z) 5 (tk + 1)) s 6 = gI M s 6 := by rw [rI_ne (by omega)]
  have ew : gI (uI M (c + 22 + 4 * d_z) 5 (tk + 1)) (c + 22 + 4 * d_z) 6 = gI M (c + 22 + 4 * d_z) 6 := by rw [rI_nk (by decide)]
  have hK4 : gK (uI M (c + 22 + 4 * d_z) 5 (tk + 1)) s = 4 := r8.1.1
  generalize hwd : gI M (c + 22 + 4 * d_z) 6 = w_z at *
  have hv1 : ∀ i_z, 0 ≤ i_z → i_z < w_z → NV (gL (uI M (c + 22 + 4 * d_z) 5 (tk + 1)) (c + 22 + 4 * d_z + 1) i_z) ∨ fd (gL (uI M (c + 22 + 4 * d_z) 5 (tk + 1)) (c + 22 + 4 * d_z + 1) i_z) = 0 := fun i_z i0_z i1_z => by
    rcases (g6 i_z i0_z i1_z).2.2 with q_z | q_z
    · exact Or.inl q_z
    · exact Or.inr q_z.1
  refine op_okN (w_z := w_z) (Mp := uI M (c + 22 + 4 * d_z) 5 (tk + 1)) (PT_z := fun T' T1 => T1 = uI T' m 16 0) h0 hd_z hx htk hp hn hlt (by decide) (by decide) hop i0_z i1_z hb_z hN_z (fun qq hqq => ?_) ((Ex.refl _ M).uI _ _ (by omega)) (by simp (disch := omega) only [gK_uI, gK_uL, gK_uR, gK_uCI, gK_uCL, gN_uI, gN_uL, gN_uR, gN_uCI, gN_uCL, gR_uI, gR_uL, gR_uCI, gR_uCL, gI_uL, gI_uR, gI_uCL, gL_uI, gL_uR, gL_uCI, gz_uI, gz_uL, gz_uR, gz_uCI, gz_uCL, gs_uI, gs_uL, gs_uR, gs_uCI, gs_uCL, rI_at, rL_at, rR_at, rI_ne, rL_ne, rR_ne, rI_nk, rL_nk, rR_nk, rI_eq, rL_eq, rR_eq]) rI_at ew (by omega) (by omega) (by simp (disch := omega) only [gK_uI, gK_uL, gK_uR, gK_uCI, gK_uCL, gN_uI, gN_uL, gN_uR, gN_uCI, gN_uCL, gR_uI, gR_uL, gR_uCI, gR_uCL, gI_uL, gI_uR, gI_uCL, gL_uI, gL_uR, gL_uCI, gz_uI, gz_uL, gz_uR, gz_uCI, gz_uCL, gs_uI, gs_uL, gs_uR, gs_uCI, gs_uCL, rI_at, rL_at, rR_at, rI_ne, rL_ne, rR_ne, rI_nk, rL_nk, rR_nk, rI_eq, rL_eq, rR_eq]) (fun T' h' qq hqq => ?_) (fun T' h' T1 hy hPT => ?_)
  · refine perf_go (k_z := 5) hs1 ho1 r5_z hK4 f2_z (by decide) (by rw [e13_z, es6]; exact hb_z) ew w0_z w1_z hv1 (by rw [nd]; exact hw) (fun q_z => absurd q_z (by decide)) ?_
    · have sm_z := ho1.1
      have s17 : gI (uI M (c + 22 + 4 * d_z) 5 (tk + 1)) (G.2 1) 5 = 8 := sm_z.2.2 5 (by decide)
      rw [B_86_33]
      simp (disch := omega) only [sm_z.1, sm_z.2.1, s17, Int.cast_ofNat_Int, B_86_260, inI, inL, isT, kInt, kByt, true_and, and_true, an_t, im_t, im_f, or_true, true_or, true_imp_iff, false_imp_iff, not_true_eq_false, not_false_eq_true, gK_uI, gK_uL, gK_uR, gK_uCI, gK_uCL, gN_uI, gN_uL, gN_uR, gN_uCI, gN_uCL, gR_uI, gR_uL, gR_uCI, gR_uCL, gI_uL, gI_uR, gI_uCL, gL_uI, gL_uR, gL_uCI, gz_uI, gz_uL, gz_uR, gz_uCI, gz_uCL, gs_uI, gs_uL, gs_uR, gs_uCI, gs_uCL, rI_at, rL_at, rR_at, rI_ne, rL_ne, rR_ne, rI_nk, rL_nk, rR_nk, rI_eq, rL_eq, rR_eq, Option.toList_some, Option.toList_none, List.cons_append, List.nil_append, List.append_nil, zc_eq, zc_lt, zc_le, zc_ge, zc_gt]
      all_goals exact hqq
  · obtain ⟨k1_z, k2_z, k3_z, -, -, k6_z⟩ := h'.opn hd_z
    have q2_z := h'.2.1
    rw [hwd] at k3_z
    refine wr_plain (x_z := x_z) (n_z := n_z) (tk := tk) (p_z := p_z) h' hd_z hb_z (by decide) (by decide) (fun q_z hq => X_areOpsN q2_z k2_z k3_z (by omega) (by omega) w0_z w1_z (by decide) (by decide) (by decide) (by rw [nd]; exact hw) (fun z_z hz => ?_)) (fun q_z hq => ?_) (hqq _ (sy_fl0 _ _) rfl)
    · rcases hz with ⟨z1, -⟩ | ⟨z1, i_z, i0_z, i1_z, -⟩
      · rw [z1]
        exact hq
      · rw [nd] at i1_z
        omega
    · simp (disch := omega) only [E_M_isTooMuch, B_215_0, B_215_399, Int.cast_ofNat_Int, inI, inL, isT, kInt, kByt, true_and, and_true, an_t, im_t, im_f, or_true, true_or, true_imp_iff, false_imp_iff, not_true_eq_false, not_false_eq_true, gK_uI, gK_uL, gK_uR, gK_uCI, gK_uCL, gN_uI, gN_uL, gN_uR, gN_uCI, gN_uCL, gR_uI, gR_uL, gR_uCI, gR_uCL, gI_uL, gI_uR, gI_uCL, gL_uI, gL_uR, gL_uCI, gz_uI, gz_uL, gz_uR, gz_uCI, gz_uCL, gs_uI, gs_uL, gs_uR, gs_uCI, gs_uCL, rI_at, rL_at, rR_at, rI_ne, rL_ne, rR_ne, rI_nk, rL_nk, rR_nk, rI_eq, rL_eq, rR_eq, Option.toList_some, Option.toList_none, List.cons_append, List.nil_append, List.append_nil, zc_eq, zc_lt, zc_le, zc_ge, zc_gt]
      all_goals exact hq
  · subst hPT
    obtain ⟨k1_z, k2_z, k3_z, -, -, k6_z⟩ := h'.opn hd_z
    have q2_z := h'.2.1
    rw [hwd] at k3_z k6_z
    refine ⟨uI (trcT (uI T' m 16 0) m (x_z - 1) tk d_z) (m + 19) d_z (w_z - 0), fun qq hqq => ?_, (Ex.refl _ _).uI _ _ (Or.inl rfl), by rw [rI_at]; omega, fun l l0 l1 => ?_, fun i_z i0_z i1_z => ?_, fun i_z i0_z i1_z => ?_⟩
    · have hm2 : ShM (trcT (uI T' m 16 0) m (x_z - 1) tk d_z) m := q2_z
      have e36 : gI (trcT (uI T' m 16 0) m (x_z - 1) tk d_z) m 36 = (d_z : Int) := by
        rw [trc_f _ (by decide), rI_nk (by decide)]
        exact k2_z
      have e19_z : gI (trcT (uI T' m 16 0) m (x_z - 1) tk d_z) (m + 19) d_z = w_z := by
        rw [trc_r (by omega) (by omega), rI_ne (by omega)]
        exact k3_z
      generalize trcT (uI T' m 16 0) m (x_z - 1) tk d_z = T2 at *
      have n17 := fun qq => X_needed (G := G) (T := T2) (Q := qq) (k_z := 5) (by decide) (by decide)
      rw [show need 5 = 0 from by decide] at n17
      simp (disch := omega) only [E_M_does, B_228_0, n17, B_228_4, B_228_23, hm2.u, Int.cast_ofNat_Int, B_228_24, B_228_54, B_228_55, Y_inF (x_z := 5) (y_z := 16) (w_z := 18) (by decide), B_228_65, B_228_74, B_228_338, B_228_353, e36, e19_z, inI, inL, isT, kInt, kByt, true_and, and_true, an_t, im_t, im_f, or_true, true_or, true_imp_iff, false_imp_iff, not_true_eq_false, not_false_eq_true, gK_uI, gK_uL, gK_uR, gK_uCI, gK_uCL, gN_uI, gN_uL, gN_uR, gN_uCI, gN_uCL, gR_uI, gR_uL, gR_uCI, gR_uCL, gI_uL, gI_uR, gI_uCL, gL_uI, gL_uR, gL_uCI, gz_uI, gz_uL, gz_uR, gz_uCI, gz_uCL, gs_uI, gs_uL, gs_uR, gs_uCI, gs_uCL, rI_at, rL_at, rR_at, rI_ne, rL_ne, rR_ne, rI_nk, rL_nk, rR_nk, rI_eq, rL_eq, rR_eq, Option.toList_some, Option.toList_none, List.cons_append, List.nil_append, List.append_nil, zc_eq, zc_lt, zc_le, zc_ge, zc_gt]
      all_goals exact hqq
    · rw [rI_nk (by omega), trc_r (by omega) (by omega), rI_ne (by omega)]
    · rw [rI_ne (by omega), rI_ne (by omega), trc_r (by omega) (by omega), trc_r (by omega) (by omega), rI_ne (by omega), rI_ne (by omega)]
      exact ⟨rfl, rfl⟩
    · rw [rI_ne (by omega), rI_ne (by omega), trc_r (by omega) (by omega), trc_r (by omega) (by omega), rI_ne (by omega), rI_ne (by omega)]
      exact k6_z i_z i0_z i1_z
theorem op_dup {E_z i_z x_z n_z tk : Int} {d_z p_z : Nat} (h_z : Rel G M T c s m E_z) (hd_z : gI M c 11 = (d_z : Int)) (hx : gI M (c + 22 + 4 * d_z) 4 = x_z - 1) (htk : gI M (c + 22 + 4 * d_z) 5 = tk) (hp : gR M (c + 22 + 4 * d_z) 3 = p_z) (hn : gI M p_z 3 = n_z) (hlt : tk < n_z) (hop : gR M (p_z + 1) tk = G.2 (3 + 16)) (i0_z : 0 ≤ i_z) (i1_z : i_z + 1 < 1000000) (hN_z : Nxt G c s m M E_z i_z Q) (hEr : Err G c s m M E_z Q) : HC G c s i_z M Q := by
  refine op_pre (k_z := 16) h_z hd_z hx htk hp hn hlt (by decide) (by decide) hop i0_z i1_z hEr (fun hb_z hw _ => ?_)
  have h0 := h_z
  obtain ⟨r1_z, r2, r3, ⟨r4, r5_z, r6, r7⟩, r8, r9, r10, r11, r12, r13, ⟨r14, r15, r16⟩, r17⟩ := h_z
  obtain ⟨g1, g2, g3_z, w0_z, w1_z, g6⟩ := h0.opn hd_z
  have nd : need ((16 : Nat) : Int) = 1 := by decide
  rw [nd] at hw
  have hs1 : ShMa (uI M (c + 22 + 4 * d_z) 5 (tk + 1)) c := r1_z
  have ho1 : OpF G (uI M (c + 22 + 4 * d_z) 5 (tk + 1)) := OpF.out r3 ((OutC.refl c M).uI _ _ (by omega)) r6 r4
  have f2_z : ShFr (uI M (c + 22 + 4 * d_z) 5 (tk + 1)) (c + 22 + 4 * d_z) := (r1_z.2.2.2.1 d_z g1).2
  have e13_z : gI (uI M (c + 22 + 4 * d_z) 5 (tk + 1)) c 13 = gI M c 13 := by rw [rI_ne (by omega)]
  have es6 : gI (uI M (c + 22 + 4 * d_z) 5 (tk + 1)) s 6 = gI M s 6 := by rw [rI_ne (by omega)]
  have ew : gI (uI M (c + 22 + 4 * d_z) 5 (tk + 1)) (c + 22 + 4 * d_z) 6 = gI M (c + 22 + 4 * d_z) 6 := by rw [rI_nk (by decide)]
  have hK4 : gK (uI M (c + 22 + 4 * d_z) 5 (tk + 1)) s = 4 := r8.1.1
  generalize hwd : gI M (c + 22 + 4 * d_z) 6 = w_z at *
  have hv1 : ∀ i_z, 0 ≤ i_z → i_z < w_z → NV (gL (uI M (c + 22 + 4 * d_z) 5 (tk + 1)) (c + 22 + 4 * d_z + 1) i_z) ∨ fd (gL (uI M (c + 22 + 4 * d_z) 5 (tk + 1)) (c + 22 + 4 * d_z + 1) i_z) = 0 := fun i_z i0_z i1_z => by
    rcases (g6 i_z i0_z i1_z).2.2 with q_z | q_z
    · exact Or.inl q_z
    · exact Or.inr q_z.1
  by_cases cw_z : w_z < 16
  · generalize hv : gL M (c + 22 + 4 * d_z + 1) (w_z - 1) = v_z at *
    have ov := g6 (w_z - 1) (by omega) (by omega)
    have hP := fun qq => X_peek (G := G) (Q := qq) (x_z := 0) f2_z (by decide) (by omega) (by omega)
    have hU := fun qq => X_push (G := G) (Q := qq) (x_z := v_z) f2_z (by omega) (by omega)
    have hF := fun qq => X_frFull (G := G) (Q := qq) f2_z
    rw [ew, Int.sub_zero] at hP
    have hv' : gL (uI M (c + 22 + 4 * d_z) 5 (tk + 1)) (c + 22 + 4 * d_z + 1) (w_z - 1) = v_z := hv
    rw [hv'] at hP
    rw [ew] at hU hF
    rw [zB_f (by omega)] at hF
    refine op_okN (w_z := w_z + 1) (Mp := uI (uL (uI M (c + 22 + 4 * d_z) 5 (tk + 1)) (c + 22 + 4 * d_z + 1) w_z v_z) (c + 22 + 4 * d_z) 6 (w_z + 1)) (PT_z := fun T' T1 => T1 = uI T' m 16 0) h0 hd_z hx htk hp hn hlt (by decide) (by decide) hop i0_z i1_z hb_z hN_z (fun qq hqq => ?_) ((((Ex.refl _ M).uI _ _ (by omega)).uL _ _ (by omega)).uI _ _ (by omega)) (by simp (disch := omega) only [gK_uI, gK_uL, gK_uR, gK_uCI, gK_uCL, gN_uI, gN_uL, gN_uR, gN_uCI, gN_uCL, gR_uI, gR_uL, gR_uCI, gR_uCL, gI_uL, gI_uR, gI_uCL, gL_uI, gL_uR, gL_uCI, gz_uI, gz_uL, gz_uR, gz_uCI, gz_uCL, gs_uI, gs_uL, gs_uR, gs_uCI, gs_uCL, rI_at, rL_at, rR_at, rI_ne, rL_ne, rR_ne, rI_nk, rL_nk, rR_nk, rI_eq, rL_eq, rR_eq]) (by simp (disch := omega) only [gK_uI, gK_uL, gK_uR, gK_uCI, gK_uCL, gN_uI, gN_uL, gN_uR, gN_uCI, gN_uCL, gR_uI, gR_uL, gR_uCI, gR_uCL, gI_uL, gI_uR, gI_uCL, gL_uI, gL_uR, gL_uCI, gz_uI, gz_uL, gz_uR, gz_uCI, gz_uCL, gs_uI, gs_uL, gs_uR, gs_uCI, gs_uCL, rI_at, rL_at, rR_at, rI_ne, rL_ne, rR_ne, rI_nk, rL_nk, rR_nk, rI_eq, rL_eq, rR_eq]) rI_at (by omega) (by omega) (by simp (disch := omega) only [gK_uI, gK_uL, gK_uR, gK_uCI, gK_uCL, gN_uI, gN_uL, gN_uR, gN_uCI, gN_uCL, gR_uI, gR_uL, gR_uCI, gR_uCL, gI_uL, gI_uR, gI_uCL, gL_uI, gL_uR, gL_uCI, gz_uI, gz_uL, gz_uR, gz_uCI, gz_uCL, gs_uI, gs_uL, gs_uR, gs_uCI, gs_uCL, rI_at, rL_at, rR_at, rI_ne, rL_ne, rR_ne, rI_nk, rL_nk, rR_nk, rI_eq, rL_eq, rR_eq]) (fun T' h' qq hqq => ?_) (fun T' h' T1 hy hPT => ?_)
    · refine perf_go (k_z := 16) hs1 ho1 r5_z hK4 f2_z (by decide) (by rw [e13_z, es6]; exact hb_z) ew w0_z w1_z hv1 (by rw [nd]; exact hw) (fun q_z => absurd q_z (by decide)) ?_
      have sm_z := ho1.1
      have s17 : gI (uI M (c + 22 + 4 * d_z) 5 (tk + 1)) (G.2 1) 16 = 17 := sm_z.2.2 16 (by decide)
      rw [B_86_33]
      simp (disch := omega) only [sm_z.1, sm_z.2.1, s17, Int.cast_ofNat_Int, B_86_233, hs1.1.u, E_Ma_duplicate, B_124_0, f2_z.u, hF, B_124_4, B_124_10, hP, B_124_16, hU, B_124_19, B_86_238, inI, inL, isT, kInt, kByt, true_and, and_true, an_t, im_t, im_f, or_true, true_or, true_imp_iff, false_imp_iff, not_true_eq_false, not_false_eq_true, gK_uI, gK_uL, gK_uR, gK_uCI, gK_uCL, gN_uI, gN_uL, gN_uR, gN_uCI, gN_uCL, gR_uI, gR_uL, gR_uCI, gR_uCL, gI_uL, gI_uR, gI_uCL, gL_uI, gL_uR, gL_uCI, gz_uI, gz_uL, gz_uR, gz_uCI, gz_uCL, gs_uI, gs_uL, gs_uR, gs_uCI, gs_uCL, rI_at, rL_at, rR_at, rI_ne, rL_ne, rR_ne, rI_nk, rL_nk, rR_nk, rI_eq, rL_eq, rR_eq, Option.toList_some, Option.toList_none, List.cons_append, List.nil_append, List.append_nil, zc_eq, zc_lt, zc_le, zc_ge, zc_gt]
      all_goals exact hqq
    · obtain ⟨k1_z, k2_z, k3_z, -, -, k6_z⟩ := h'.opn hd_z
      have q2_z := h'.2.1
      rw [hwd] at k3_z
      refine wr_plain (x_z := x_z) (n_z := n_z) (tk := tk) (p_z := p_z) h' hd_z hb_z (by decide) (by decide) (fun q_z hq => X_areOpsA q2_z k2_z k3_z (by omega) (by omega) (Or.inl rfl) (by rw [nd]; exact hw) hq) (fun q_z hq => ?_) (hqq _ (sy_fl0 _ _) rfl)
      have hm0 : ShM (uI T' m 16 0) m := q2_z
      have e36 : gI (uI T' m 16 0) m 36 = (d_z : Int) := by rw [rI_nk (by decide)]; exact k2_z
      have e19_z : gI (uI T' m 16 0) (m + 19) d_z = w_z := by rw [rI_ne (by omega)]; exact k3_z
      have n16 : ¬ w_z = 16 := by omega
      simp (disch := omega) only [E_M_isTooMuch, B_215_0, B_215_317, B_215_335, B_215_336, hm0.u, e36, e19_z, n16, not_false_eq_true, Int.cast_ofNat_Int, inI, inL, isT, kInt, kByt, true_and, and_true, an_t, im_t, im_f, or_true, true_or, true_imp_iff, false_imp_iff, not_true_eq_false, not_false_eq_true, gK_uI, gK_uL, gK_uR, gK_uCI, gK_uCL, gN_uI, gN_uL, gN_uR, gN_uCI, gN_uCL, gR_uI, gR_uL, gR_uCI, gR_uCL, gI_uL, gI_uR, gI_uCL, gL_uI, gL_uR, gL_uCI, gz_uI, gz_uL, gz_uR, gz_uCI, gz_uCL, gs_uI, gs_uL, gs_uR, gs_uCI, gs_uCL, rI_at, rL_at, rR_at, rI_ne, rL_ne, rR_ne, rI_nk, rL_nk, rR_nk, rI_eq, rL_eq, rR_eq, Option.toList_some, Option.toList_none, List.cons_append, List.nil_append, List.append_nil, zc_eq, zc_lt, zc_le, zc_ge, zc_gt]
      all_goals exact hq
    · subst hPT
      obtain ⟨k1_z, k2_z, k3_z, -, -, k6_z⟩ := h'.opn hd_z
      have q2_z := h'.2.1
      rw [hwd] at k3_z k6_z
      have ou := k6_z (w_z - 1) (by omega) (by omega)
      rw [hv, show (16 : Int) * d_z + (w_z - 1) = 16 * d_z + w_z - 1 from by omega] at ou
      obtain ⟨ou1, ou2, ou3⟩ := ou
      have ib : inI (fu v_z) ∧ inI (fd v_z) := by
        rcases ou3 with z3 | ⟨z3, z4, z5⟩
        · exact ⟨⟨by have := z3.1; omega, by have := z3.2.1; omega⟩, ⟨by have := z3.2.2.1; omega, by have := z3.2.2.2; omega⟩⟩
        · exact ⟨⟨by omega, by omega⟩, ⟨by omega, by omega⟩⟩
      refine ⟨uI (uI (uI (trcT (uI T' m 16 0) m (x_z - 1) tk d_z) (m + 19) d_z (w_z + 1)) (m + 20) (16 * d_z + w_z) (fu v_z)) (m + 21) (16 * d_z + w_z) (fd v_z), fun qq hqq => ?_, (((Ex.refl _ _).uI _ _ (Or.inl rfl)).uI _ _ (Or.inr (Or.inl rfl))).uI _ _ (Or.inr (Or.inr rfl)), ?_, fun l l0 l1 => ?_, fun i_z i0_z i1_z => ?_, fun i_z i0_z i1_z => ?_⟩
      · have hm2 : ShM (trcT (uI T' m 16 0) m (x_z - 1) tk d_z) m := q2_z
        have e36 : gI (trcT (uI T' m 16 0) m (x_z - 1) tk d_z) m 36 = (d_z : Int) := by
          rw [trc_f _ (by decide), rI_nk (by decide)]
          exact k2_z
        have e19_z : gI (trcT (uI T' m 16 0) m (x_z - 1) tk d_z) (m + 19) d_z = w_z := by
          rw [trc_r (by omega) (by omega), rI_ne (by omega)]
          exact k3_z
        have e20 : gI (trcT (uI T' m 16 0) m (x_z - 1) tk d_z) (m + 20) = gI T' (m + 20) := by rw [trc_r (by omega) (by omega), rI_ne (by omega)]
        have e21_z : gI (trcT (uI T' m 16 0) m (x_z - 1) tk d_z) (m + 21) = gI T' (m + 21) := by rw [trc_r (by omega) (by omega), rI_ne (by omega)]
        generalize trcT (uI T' m 16 0) m (x_z - 1) tk d_z = T2 at *
        have n17 := fun qq => X_needed (G := G) (T := T2) (Q := qq) (k_z := 16) (by decide) (by decide)
        rw [show need 16 = 1 from by decide] at n17
        have tt := fun qq => X_topE (G := G) (Q := qq) (M := T2) (m := m) (k_z := 0) hm2 e36 e19_z (by omega) (by omega) (by omega) (by omega) (by omega) (by omega)
        simp only [Int.sub_zero] at tt
        have pu := fun qq => X_pushes (G := G) (Q := qq) (M := T2) (m := m) (a_z := fu v_z) (b_z := fd v_z) hm2 e36 e19_z (by omega) (by omega) (by omega) cw_z ib.1 ib.2
        simp (disch := omega) only [E_M_does, B_228_0, n17, B_228_4, B_228_19, hm2.u, tt, Int.cast_ofNat_Int, B_228_24, B_228_54, B_228_55, Y_inT (x_z := 16) (y_z := 16) (w_z := 18) (by decide), B_228_65, E_M_stacks, B_229_0, B_229_9, B_229_20, e20, e21_z, ou1, ou2, pu, B_229_36, B_229_123, B_228_73, not_true_eq_false, inI, inL, isT, kInt, kByt, true_and, and_true, an_t, im_t, im_f, or_true, true_or, true_imp_iff, false_imp_iff, not_true_eq_false, not_false_eq_true, gK_uI, gK_uL, gK_uR, gK_uCI, gK_uCL, gN_uI, gN_uL, gN_uR, gN_uCI, gN_uCL, gR_uI, gR_uL, gR_uCI, gR_uCL, gI_uL, gI_uR, gI_uCL, gL_uI, gL_uR, gL_uCI, gz_uI, gz_uL, gz_uR, gz_uCI, gz_uCL, gs_uI, gs_uL, gs_uR, gs_uCI, gs_uCL, rI_at, rL_at, rR_at, rI_ne, rL_ne, rR_ne, rI_nk, rL_nk, rR_nk, rI_eq, rL_eq, rR_eq, Option.toList_some, Option.toList_none, List.cons_append, List.nil_append, List.append_nil, zc_eq, zc_lt, zc_le, zc_ge, zc_gt]
        all_goals exact hqq
      · rw [rI_ne (by omega), rI_ne (by omega), rI_at]
      · rw [rI_ne (by omega), rI_ne (by omega), rI_nk (by omega), trc_r (by omega) (by omega), rI_ne (by omega)]
      · rw [rI_ne (by omega), rI_nk (by omega), rI_ne (by omega), rI_nk (by omega), rI_ne (by omega), rI_ne (by omega), trc_r (by omega) (by omega), trc_r (by omega) (by omega), rI_ne (by omega), rI_ne (by omega)]
        exact ⟨rfl, rfl⟩
      · by_cases ci : i_z = w_z
        · subst ci
          rw [rI_ne (by omega), rI_at, rI_at, gL_uI, rL_at]
          exact ⟨rfl, rfl, ou3⟩
        · rw [rI_ne (by omega), rI_nk (by omega), rI_ne (by omega), rI_nk (by omega), rI_ne (by omega), rI_ne (by omega), trc_r (by omega) (by omega), trc_r (by omega) (by omega), rI_ne (by omega), rI_ne (by omega), gL_uI, rL_nk ci]
          exact k6_z i_z i0_z (by omega)
  · have hw16 : w_z = 16 := by omega
    have hF := fun qq => X_frFull (G := G) (Q := qq) f2_z
    rw [ew, zB_t (by omega)] at hF
    refine op_err h0 hd_z hx htk hp hn hlt (by decide) (by decide) hop i0_z i1_z (e_z := 6) (by decide) hEr (fun qq hqq => ?_) (fun T' h' qq hqq => ?_)
    · have hh := hqq _ (Ex.refl _ _)
      refine perf_go (k_z := 16) hs1 ho1 r5_z hK4 f2_z (by decide) (by rw [e13_z, es6]; exact hb_z) ew w0_z w1_z hv1 (by rw [nd]; exact hw) (fun q_z => absurd q_z (by decide)) ?_
      have sm_z := ho1.1
      have s17 : gI (uI M (c + 22 + 4 * d_z) 5 (tk + 1)) (G.2 1) 16 = 17 := sm_z.2.2 16 (by decide)
      rw [B_86_33]
      simp (disch := omega) only [sm_z.1, sm_z.2.1, s17, Int.cast_ofNat_Int, B_86_233, hs1.1.u, E_Ma_duplicate, B_124_0, f2_z.u, hF, B_124_4, B_86_238, inI, inL, isT, kInt, kByt, true_and, and_true, an_t, im_t, im_f, or_true, true_or, true_imp_iff, false_imp_iff, not_true_eq_false, not_false_eq_true, gK_uI, gK_uL, gK_uR, gK_uCI, gK_uCL, gN_uI, gN_uL, gN_uR, gN_uCI, gN_uCL, gR_uI, gR_uL, gR_uCI, gR_uCL, gI_uL, gI_uR, gI_uCL, gL_uI, gL_uR, gL_uCI, gz_uI, gz_uL, gz_uR, gz_uCI, gz_uCL, gs_uI, gs_uL, gs_uR, gs_uCI, gs_uCL, rI_at, rL_at, rR_at, rI_ne, rL_ne, rR_ne, rI_nk, rL_nk, rR_nk, rI_eq, rL_eq, rR_eq, Option.toList_some, Option.toList_none, List.cons_append, List.nil_append, List.append_nil, zc_eq, zc_lt, zc_le, zc_ge, zc_gt]
      all_goals exact hh
    · obtain ⟨k1_z, k2_z, k3_z, -, -, k6_z⟩ := h'.opn hd_z
      have hh' := h'
      obtain ⟨q1_z, q2_z, q3_z, -, q8_z, q9_z, -⟩ := h'
      rw [hwd] at k3_z
      have hm0 : ShM (uI T' m 16 0) m := q2_z
      have e36 : gI (uI T' m 16 0) m 36 = (d_z : Int) := by rw [rI_nk (by decide)]; exact k2_z
      have e19_z : gI (uI T' m 16 0) (m + 19) d_z = w_z := by rw [rI_ne (by omega)]; exact k3_z
      refine wr_full (x_z := x_z) (n_z := n_z) (tk := tk) (p_z := p_z) hh' hd_z hb_z (by decide) (by decide) (fun q_z hq => X_areOpsA q2_z k2_z k3_z (by omega) (by omega) (Or.inl rfl) (by rw [nd]; exact hw) hq) (fun q_z hq => ?_) (hqq _ (sy_fl0 T' m))
      simp (disch := omega) only [E_M_isTooMuch, B_215_0, B_215_317, B_215_336, hm0.u, e36, e19_z, hw16, not_true_eq_false, Int.cast_ofNat_Int, inI, inL, isT, kInt, kByt, true_and, and_true, an_t, im_t, im_f, or_true, true_or, true_imp_iff, false_imp_iff, not_true_eq_false, not_false_eq_true, gK_uI, gK_uL, gK_uR, gK_uCI, gK_uCL, gN_uI, gN_uL, gN_uR, gN_uCI, gN_uCL, gR_uI, gR_uL, gR_uCI, gR_uCL, gI_uL, gI_uR, gI_uCL, gL_uI, gL_uR, gL_uCI, gz_uI, gz_uL, gz_uR, gz_uCI, gz_uCL, gs_uI, gs_uL, gs_uR, gs_uCI, gs_uCL, rI_at, rL_at, rR_at, rI_ne, rL_ne, rR_ne, rI_nk, rL_nk, rR_nk, rI_eq, rL_eq, rR_eq, Option.toList_some, Option.toList_none, List.cons_append, List.nil_append, List.append_nil, zc_eq, zc_lt, zc_le, zc_ge, zc_gt]
      all_goals exact hq
theorem op_exch {E_z i_z x_z n_z tk : Int} {d_z p_z : Nat} (h_z : Rel G M T c s m E_z) (hd_z : gI M c 11 = (d_z : Int)) (hx : gI M (c + 22 + 4 * d_z) 4 = x_z - 1) (htk : gI M (c + 22 + 4 * d_z) 5 = tk) (hp : gR M (c + 22 + 4 * d_z) 3 = p_z) (hn : gI M p_z 3 = n_z) (hlt : tk < n_z) (hop : gR M (p_z + 1) tk = G.2 (3 + 18)) (i0_z : 0 ≤ i_z) (i1_z : i_z + 1 < 1000000) (hN_z : Nxt G c s m M E_z i_z Q) (hEr : Err G c s m M E_z Q) : HC G c s i_z M Q := by
  refine op_pre (k_z := 18) h_z hd_z hx htk hp hn hlt (by decide) (by decide) hop i0_z i1_z hEr (fun hb_z hw _ => ?_)
  have h0 := h_z
  obtain ⟨r1_z, r2, r3, ⟨r4, r5_z, r6, r7⟩, r8, r9, r10, r11, r12, r13, ⟨r14, r15, r16⟩, r17⟩ := h_z
  obtain ⟨g1, g2, g3_z, w0_z, w1_z, g6⟩ := h0.opn hd_z
  have nd : need ((18 : Nat) : Int) = 2 := by decide
  rw [nd] at hw
  have hs1 : ShMa (uI M (c + 22 + 4 * d_z) 5 (tk + 1)) c := r1_z
  have ho1 : OpF G (uI M (c + 22 + 4 * d_z) 5 (tk + 1)) := OpF.out r3 ((OutC.refl c M).uI _ _ (by omega)) r6 r4
  have f2_z : ShFr (uI M (c + 22 + 4 * d_z) 5 (tk + 1)) (c + 22 + 4 * d_z) := (r1_z.2.2.2.1 d_z g1).2
  have e13_z : gI (uI M (c + 22 + 4 * d_z) 5 (tk + 1)) c 13 = gI M c 13 := by rw [rI_ne (by omega)]
  have es6 : gI (uI M (c + 22 + 4 * d_z) 5 (tk + 1)) s 6 = gI M s 6 := by rw [rI_ne (by omega)]
  have ew : gI (uI M (c + 22 + 4 * d_z) 5 (tk + 1)) (c + 22 + 4 * d_z) 6 = gI M (c + 22 + 4 * d_z) 6 := by rw [rI_nk (by decide)]
  have hK4 : gK (uI M (c + 22 + 4 * d_z) 5 (tk + 1)) s = 4 := r8.1.1
  generalize hwd : gI M (c + 22 + 4 * d_z) 6 = w_z at *
  have hv1 : ∀ i_z, 0 ≤ i_z → i_z < w_z → NV (gL (uI M (c + 22 + 4 * d_z) 5 (tk + 1)) (c + 22 + 4 * d_z + 1) i_z) ∨ fd (gL (uI M (c + 22 + 4 * d_z) 5 (tk + 1)) (c + 22 + 4 * d_z + 1) i_z) = 0 := fun i_z i0_z i1_z => by
    rcases (g6 i_z i0_z i1_z).2.2 with q_z | q_z
    · exact Or.inl q_z
    · exact Or.inr q_z.1
  generalize ha_z : gL M (c + 22 + 4 * d_z + 1) (w_z - 1) = va at *
  generalize hv : gL M (c + 22 + 4 * d_z + 1) (w_z - 2) = vb at *
  have oa := g6 (w_z - 1) (by omega) (by omega)
  have ob_z := g6 (w_z - 2) (by omega) (by omega)
  have hP0 := fun qq => X_peek (G := G) (Q := qq) (x_z := 0) f2_z (by decide) (by omega) (by omega)
  have hP1 := fun qq => X_peek (G := G) (Q := qq) (x_z := 1) f2_z (by decide) (by omega) (by omega)
  have hR := fun qq => X_remove (G := G) (Q := qq) (x_z := 2) f2_z (by decide) (by omega) (by omega)
  rw [ew, Int.sub_zero] at hP0
  rw [ew, show w_z - 1 - 1 = w_z - 2 from by omega] at hP1
  rw [ew] at hR
  have ha' : gL (uI M (c + 22 + 4 * d_z) 5 (tk + 1)) (c + 22 + 4 * d_z + 1) (w_z - 1) = va := ha_z
  have hv' : gL (uI M (c + 22 + 4 * d_z) 5 (tk + 1)) (c + 22 + 4 * d_z + 1) (w_z - 2) = vb := hv
  rw [ha'] at hP0
  rw [hv'] at hP1
  have f3_z : ShFr (uI (uI M (c + 22 + 4 * d_z) 5 (tk + 1)) (c + 22 + 4 * d_z) 6 (w_z - 2)) (c + 22 + 4 * d_z) := f2_z
  have z3 : gI (uI (uI M (c + 22 + 4 * d_z) 5 (tk + 1)) (c + 22 + 4 * d_z) 6 (w_z - 2)) (c + 22 + 4 * d_z) 6 = w_z - 2 := rI_at
  have hU1 := fun qq => X_push (G := G) (Q := qq) (x_z := va) f3_z (by omega) (by omega)
  rw [z3, show w_z - 2 + 1 = w_z - 1 from by omega] at hU1
  have f4_z : ShFr (uI (uL (uI (uI M (c + 22 + 4 * d_z) 5 (tk + 1)) (c + 22 + 4 * d_z) 6 (w_z - 2)) (c + 22 + 4 * d_z + 1) (w_z - 2) va) (c + 22 + 4 * d_z) 6 (w_z - 1)) (c + 22 + 4 * d_z) := f2_z
  have z4 : gI (uI (uL (uI (uI M (c + 22 + 4 * d_z) 5 (tk + 1)) (c + 22 + 4 * d_z) 6 (w_z - 2)) (c + 22 + 4 * d_z + 1) (w_z - 2) va) (c + 22 + 4 * d_z) 6 (w_z - 1)) (c + 22 + 4 * d_z) 6 = w_z - 1 := rI_at
  have hU2 := fun qq => X_push (G := G) (Q := qq) (x_z := vb) f4_z (by omega) (by omega)
  rw [z4, show w_z - 1 + 1 = w_z from by omega] at hU2
  refine op_okN (w_z := w_z) (Mp := uI (uL (uI (uL (uI (uI M (c + 22 + 4 * d_z) 5 (tk + 1)) (c + 22 + 4 * d_z) 6 (w_z - 2)) (c + 22 + 4 * d_z + 1) (w_z - 2) va) (c + 22 + 4 * d_z) 6 (w_z - 1)) (c + 22 + 4 * d_z + 1) (w_z - 1) vb) (c + 22 + 4 * d_z) 6 w_z) (PT_z := fun T' T1 => T1 = uI T' m 16 0) h0 hd_z hx htk hp hn hlt (by decide) (by decide) hop i0_z i1_z hb_z hN_z (fun qq hqq => ?_) (((((((Ex.refl _ M).uI _ _ (by omega)).uI _ _ (by omega)).uL _ _ (by omega)).uI _ _ (by omega)).uL _ _ (by omega)).uI _ _ (by omega)) (by simp (disch := omega) only [gK_uI, gK_uL, gK_uR, gK_uCI, gK_uCL, gN_uI, gN_uL, gN_uR, gN_uCI, gN_uCL, gR_uI, gR_uL, gR_uCI, gR_uCL, gI_uL, gI_uR, gI_uCL, gL_uI, gL_uR, gL_uCI, gz_uI, gz_uL, gz_uR, gz_uCI, gz_uCL, gs_uI, gs_uL, gs_uR, gs_uCI, gs_uCL, rI_at, rL_at, rR_at, rI_ne, rL_ne, rR_ne, rI_nk, rL_nk, rR_nk, rI_eq, rL_eq, rR_eq]) (by simp (disch := omega) only [gK_uI, gK_uL, gK_uR, gK_uCI, gK_uCL, gN_uI, gN_uL, gN_uR, gN_uCI, gN_uCL, gR_uI, gR_uL, gR_uCI, gR_uCL, gI_uL, gI_uR, gI_uCL, gL_uI, gL_uR, gL_uCI, gz_uI, gz_uL, gz_uR, gz_uCI, gz_uCL, gs_uI, gs_uL, gs_uR, gs_uCI, gs_uCL, rI_at, rL_at, rR_at, rI_ne, rL_ne, rR_ne, rI_nk, rL_nk, rR_nk, rI_eq, rL_eq, rR_eq]) rI_at (by omega) (by omega) (by simp (disch := omega) only [gK_uI, gK_uL, gK_uR, gK_uCI, gK_uCL, gN_uI, gN_uL, gN_uR, gN_uCI, gN_uCL, gR_uI, gR_uL, gR_uCI, gR_uCL, gI_uL, gI_uR, gI_uCL, gL_uI, gL_uR, gL_uCI, gz_uI, gz_uL, gz_uR, gz_uCI, gz_uCL, gs_uI, gs_uL, gs_uR, gs_uCI, gs_uCL, rI_at, rL_at, rR_at, rI_ne, rL_ne, rR_ne, rI_nk, rL_nk, rR_nk, rI_eq, rL_eq, rR_eq]) (fun T' h' qq hqq => ?_) (fun T' h' T1 hy hPT => ?_)
  · refine perf_go (k_z := 18) hs1 ho1 r5_z hK4 f2_z (by decide) (by rw [e13_z, es6]; exact hb_z) ew w0_z w1_z hv1 (by rw [nd]; exact hw) (fun q_z => absurd q_z (by decide)) ?_
    have sm_z := ho1.1
    have s17 : gI (uI M (c + 22 + 4 * d_z) 5 (tk + 1)) (G.2 1) 18 = 19 := sm_z.2.2 18 (by decide)
    rw [B_86_33]
    simp (disch := omega) only [sm_z.1, sm_z.2.1, s17, Int.cast_ofNat_Int, B_86_246, hs1.1.u, E_Ma_exchange, B_125_0, f2_z.u, hP1, B_125_5, hP0, B_125_11, hR, B_125_18, f3_z.u, hU1, B_125_24, hU2, B_125_29, B_86_251, inI, inL, isT, kInt, kByt, true_and, and_true, an_t, im_t, im_f, or_true, true_or, true_imp_iff, false_imp_iff, not_true_eq_false, not_false_eq_true, gK_uI, gK_uL, gK_uR, gK_uCI, gK_uCL, gN_uI, gN_uL, gN_uR, gN_uCI, gN_uCL, gR_uI, gR_uL, gR_uCI, gR_uCL, gI_uL, gI_uR, gI_uCL, gL_uI, gL_uR, gL_uCI, gz_uI, gz_uL, gz_uR, gz_uCI, gz_uCL, gs_uI, gs_uL, gs_uR, gs_uCI, gs_uCL, rI_at, rL_at, rR_at, rI_ne, rL_ne, rR_ne, rI_nk, rL_nk, rR_nk, rI_eq, rL_eq, rR_eq, Option.toList_some, Option.toList_none, List.cons_append, List.nil_append, List.append_nil, zc_eq, zc_lt, zc_le, zc_ge, zc_gt]
    all_goals exact hqq
  · obtain ⟨k1_z, k2_z, k3_z, -, -, k6_z⟩ := h'.opn hd_z
    have q2_z := h'.2.1
    rw [hwd] at k3_z
    refine wr_plain (x_z := x_z) (n_z := n_z) (tk := tk) (p_z := p_z) h' hd_z hb_z (by decide) (by decide) (fun q_z hq => X_areOpsA q2_z k2_z k3_z (by omega) (by omega) (Or.inr (Or.inr rfl)) (by rw [nd]; exact hw) hq) (fun q_z hq => ?_) (hqq _ (sy_fl0 _ _) rfl)
    simp (disch := omega) only [E_M_isTooMuch, B_215_0, B_215_399, Int.cast_ofNat_Int, inI, inL, isT, kInt, kByt, true_and, and_true, an_t, im_t, im_f, or_true, true_or, true_imp_iff, false_imp_iff, not_true_eq_false, not_false_eq_true, gK_uI, gK_uL, gK_uR, gK_uCI, gK_uCL, gN_uI, gN_uL, gN_uR, gN_uCI, gN_uCL, gR_uI, gR_uL, gR_uCI, gR_uCL, gI_uL, gI_uR, gI_uCL, gL_uI, gL_uR, gL_uCI, gz_uI, gz_uL, gz_uR, gz_uCI, gz_uCL, gs_uI, gs_uL, gs_uR, gs_uCI, gs_uCL, rI_at, rL_at, rR_at, rI_ne, rL_ne, rR_ne, rI_nk, rL_nk, rR_nk, rI_eq, rL_eq, rR_eq, Option.toList_some, Option.toList_none, List.cons_append, List.nil_append, List.append_nil, zc_eq, zc_lt, zc_le, zc_ge, zc_gt]
    all_goals exact hq
  · subst hPT
    obtain ⟨k1_z, k2_z, k3_z, -, -, k6_z⟩ := h'.opn hd_z
    have q2_z := h'.2.1
    rw [hwd] at k3_z k6_z
    have oa := k6_z (w_z - 1) (by omega) (by omega)
    have ob_z := k6_z (w_z - 2) (by omega) (by omega)
    rw [ha_z, show (16 : Int) * d_z + (w_z - 1) = 16 * d_z + w_z - 1 from by omega] at oa
    rw [hv, show (16 : Int) * d_z + (w_z - 2) = 16 * d_z + w_z - 2 from by omega] at ob_z
    obtain ⟨oa1, oa2, oa3⟩ := oa
    obtain ⟨ob1, ob2, ob3⟩ := ob_z
    refine ⟨uI (uI (uI (uI (trcT (uI T' m 16 0) m (x_z - 1) tk d_z) (m + 20) (16 * d_z + w_z - 1) (fu vb)) (m + 21) (16 * d_z + w_z - 1) (fd vb)) (m + 20) (16 * d_z + w_z - 2) (fu va)) (m + 21) (16 * d_z + w_z - 2) (fd va), fun qq hqq => ?_, ((((Ex.refl _ _).uI _ _ (Or.inr (Or.inl rfl))).uI _ _ (Or.inr (Or.inr rfl))).uI _ _ (Or.inr (Or.inl rfl))).uI _ _ (Or.inr (Or.inr rfl)), ?_, fun l l0 l1 => ?_, fun i_z i0_z i1_z => ?_, fun i_z i0_z i1_z => ?_⟩
    · have hm2 : ShM (trcT (uI T' m 16 0) m (x_z - 1) tk d_z) m := q2_z
      have e36 : gI (trcT (uI T' m 16 0) m (x_z - 1) tk d_z) m 36 = (d_z : Int) := by
        rw [trc_f _ (by decide), rI_nk (by decide)]
        exact k2_z
      have e19_z : gI (trcT (uI T' m 16 0) m (x_z - 1) tk d_z) (m + 19) d_z = w_z := by
        rw [trc_r (by omega) (by omega), rI_ne (by omega)]
        exact k3_z
      have e20 : gI (trcT (uI T' m 16 0) m (x_z - 1) tk d_z) (m + 20) = gI T' (m + 20) := by rw [trc_r (by omega) (by omega), rI_ne (by omega)]
      have e21_z : gI (trcT (uI T' m 16 0) m (x_z - 1) tk d_z) (m + 21) = gI T' (m + 21) := by rw [trc_r (by omega) (by omega), rI_ne (by omega)]
      generalize trcT (uI T' m 16 0) m (x_z - 1) tk d_z = T2 at *
      have n17 := fun qq => X_needed (G := G) (T := T2) (Q := qq) (k_z := 18) (by decide) (by decide)
      rw [show need 18 = 2 from by decide] at n17
      have TT : ∀ (k_z : Int) (T3 : Mem) (qq : Option AV → Mem → Prop), ShM T3 m → gI T3 m 36 = (d_z : Int) → gI T3 (m + 19) d_z = w_z → (k_z = 0 ∨ k_z = 1) → (Call G J_M_top [a_r m, a_i k_z] T3 qq ↔ qq (some (a_i (16 * d_z + w_z - 1 - k_z))) T3) := fun k_z T3 qq a1_z a2 a3 a4 => X_topE a1_z a2 a3 (by omega) (by omega) (by omega) (by omega) (by omega) (by omega)
      have t0_z := fun qq => TT 0 T2 qq hm2 e36 e19_z (Or.inl rfl)
      have t1_z := fun qq => TT 1 T2 qq hm2 e36 e19_z (Or.inr rfl)
      have t2_z := fun qq => TT 0 (uI T2 (m + 20) (16 * d_z + w_z - 1) (fu vb)) qq hm2 (by rw [rI_ne (by omega)]; exact e36) (by rw [rI_ne (by omega)]; exact e19_z) (Or.inl rfl)
      have t3_z := fun qq => TT 1 (uI T2 (m + 20) (16 * d_z + w_z - 1) (fu vb)) qq hm2 (by rw [rI_ne (by omega)]; exact e36) (by rw [rI_ne (by omega)]; exact e19_z) (Or.inr rfl)
      have t4_z := fun qq => TT 1 (uI (uI T2 (m + 20) (16 * d_z + w_z - 1) (fu vb)) (m + 21) (16 * d_z + w_z - 1) (fd vb)) qq hm2 (by rw [rI_ne (by omega), rI_ne (by omega)]; exact e36) (by rw [rI_ne (by omega), rI_ne (by omega)]; exact e19_z) (Or.inr rfl)
      have t5_z := fun qq => TT 1 (uI (uI (uI T2 (m + 20) (16 * d_z + w_z - 1) (fu vb)) (m + 21) (16 * d_z + w_z - 1) (fd vb)) (m + 20) (16 * d_z + w_z - 2) (fu va)) qq hm2 (by rw [rI_ne (by omega), rI_ne (by omega), rI_ne (by omega)]; exact e36) (by rw [rI_ne (by omega), rI_ne (by omega), rI_ne (by omega)]; exact e19_z) (Or.inr rfl)
      rw [show (16 : Int) * d_z + w_z - 1 - 1 = 16 * d_z + w_z - 2 from by omega] at t1_z t3_z t4_z t5_z
      rw [Int.sub_zero] at t0_z t2_z
      simp (disch := omega) only [E_M_does, B_228_0, n17, B_228_4, B_228_23, hm2.u, Int.cast_ofNat_Int, B_228_24, B_228_54, B_228_55, Y_inT (x_z := 18) (y_z := 16) (w_z := 18) (by decide), B_228_65, E_M_stacks, B_229_0, t0_z, B_229_9, B_229_20, e20, e21_z, oa1, oa2, ob1, ob2, B_229_39, B_229_54, t1_z, B_229_63, t2_z, B_229_74, t3_z, B_229_83, t4_z, B_229_94, t5_z, B_229_105, B_229_123, B_228_73, not_true_eq_false, inI, inL, isT, kInt, kByt, true_and, and_true, an_t, im_t, im_f, or_true, true_or, true_imp_iff, false_imp_iff, not_true_eq_false, not_false_eq_true, gK_uI, gK_uL, gK_uR, gK_uCI, gK_uCL, gN_uI, gN_uL, gN_uR, gN_uCI, gN_uCL, gR_uI, gR_uL, gR_uCI, gR_uCL, gI_uL, gI_uR, gI_uCL, gL_uI, gL_uR, gL_uCI, gz_uI, gz_uL, gz_uR, gz_uCI, gz_uCL, gs_uI, gs_uL, gs_uR, gs_uCI, gs_uCL, rI_at, rL_at, rR_at, rI_ne, rL_ne, rR_ne, rI_nk, rL_nk, rR_nk, rI_eq, rL_eq, rR_eq, Option.toList_some, Option.toList_none, List.cons_append, List.nil_append, List.append_nil, zc_eq, zc_lt, zc_le, zc_ge, zc_gt]
      all_goals exact hqq
    · rw [rI_ne (by omega), rI_ne (by omega), rI_ne (by omega), rI_ne (by omega), trc_r (by omega) (by omega), rI_ne (by omega)]
      exact k3_z
    · rw [rI_ne (by omega), rI_ne (by omega), rI_ne (by omega), rI_ne (by omega), trc_r (by omega) (by omega), rI_ne (by omega)]
    · simp (disch := omega) only [gK_uI, gK_uL, gK_uR, gK_uCI, gK_uCL, gN_uI, gN_uL, gN_uR, gN_uCI, gN_uCL, gR_uI, gR_uL, gR_uCI, gR_uCL, gI_uL, gI_uR, gI_uCL, gL_uI, gL_uR, gL_uCI, gz_uI, gz_uL, gz_uR, gz_uCI, gz_uCL, gs_uI, gs_uL, gs_uR, gs_uCI, gs_uCL, rI_at, rL_at, rR_at, rI_ne, rL_ne, rR_ne, rI_nk, rL_nk, rR_nk, rI_eq, rL_eq, rR_eq]
      rw [trc_r (by omega) (by omega), trc_r (by omega) (by omega), rI_ne (by omega), rI_ne (by omega)]
      exact ⟨rfl, rfl⟩
    · by_cases ci : i_z = w_z - 1
      · subst ci
        rw [show (16 : Int) * d_z + (w_z - 1) = 16 * d_z + w_z - 1 from by omega]
        simp (disch := omega) only [gK_uI, gK_uL, gK_uR, gK_uCI, gK_uCL, gN_uI, gN_uL, gN_uR, gN_uCI, gN_uCL, gR_uI, gR_uL, gR_uCI, gR_uCL, gI_uL, gI_uR, gI_uCL, gL_uI, gL_uR, gL_uCI, gz_uI, gz_uL, gz_uR, gz_uCI, gz_uCL, gs_uI, gs_uL, gs_uR, gs_uCI, gs_uCL, rI_at, rL_at, rR_at, rI_ne, rL_ne, rR_ne, rI_nk, rL_nk, rR_nk, rI_eq, rL_eq, rR_eq]
        exact ⟨rfl, rfl, ob3⟩
      · by_cases ci2 : i_z = w_z - 2
        · subst ci2
          rw [show (16 : Int) * d_z + (w_z - 2) = 16 * d_z + w_z - 2 from by omega]
          simp (disch := omega) only [gK_uI, gK_uL, gK_uR, gK_uCI, gK_uCL, gN_uI, gN_uL, gN_uR, gN_uCI, gN_uCL, gR_uI, gR_uL, gR_uCI, gR_uCL, gI_uL, gI_uR, gI_uCL, gL_uI, gL_uR, gL_uCI, gz_uI, gz_uL, gz_uR, gz_uCI, gz_uCL, gs_uI, gs_uL, gs_uR, gs_uCI, gs_uCL, rI_at, rL_at, rR_at, rI_ne, rL_ne, rR_ne, rI_nk, rL_nk, rR_nk, rI_eq, rL_eq, rR_eq]
          exact ⟨rfl, rfl, oa3⟩
        · simp (disch := omega) only [gK_uI, gK_uL, gK_uR, gK_uCI, gK_uCL, gN_uI, gN_uL, gN_uR, gN_uCI, gN_uCL, gR_uI, gR_uL, gR_uCI, gR_uCL, gI_uL, gI_uR, gI_uCL, gL_uI, gL_uR, gL_uCI, gz_uI, gz_uL, gz_uR, gz_uCI, gz_uCL, gs_uI, gs_uL, gs_uR, gs_uCI, gs_uCL, rI_at, rL_at, rR_at, rI_ne, rL_ne, rR_ne, rI_nk, rL_nk, rR_nk, rI_eq, rL_eq, rR_eq]
          rw [trc_r (by omega) (by omega), trc_r (by omega) (by omega), rI_ne (by omega), rI_ne (by omega)]
          exact k6_z i_z i0_z i1_z
end DB
