/-! THE PURE PART, part 13: move and line. Own work (partly written by a program of its own). -/
section QB
variable {G : Env0} {Q : Option AV → Mem → Prop} {M T : Mem} {c s m : Nat}
theorem dv_b (mt_z : Int → Int) (x_z y_z j_z : Int) (h_z : dv mt_z x_z y_z j_z ≠ 16001) : (dv mt_z x_z y_z j_z).natAbs ≤ 16000 := by
  have a_z := six_b (fsum mt_z x_z y_z j_z (j_z + 2) (j_z + 4))
  have e_z : dv mt_z x_z y_z j_z = six (fsum mt_z x_z y_z j_z (j_z + 2) (j_z + 4)) := rfl
  rw [← e_z] at a_z
  omega
theorem op_move {E_z i_z x_z n_z tk : Int} {d_z p_z : Nat} (h_z : Rel G M T c s m E_z) (hd_z : gI M c 11 = (d_z : Int)) (hx : gI M (c + 22 + 4 * d_z) 4 = x_z - 1) (htk : gI M (c + 22 + 4 * d_z) 5 = tk) (hp : gR M (c + 22 + 4 * d_z) 3 = p_z) (hn : gI M p_z 3 = n_z) (hlt : tk < n_z) (hop : gR M (p_z + 1) tk = G.2 (3 + 3)) (i0_z : 0 ≤ i_z) (i1_z : i_z + 1 < 1000000) (hN_z : Nxt G c s m M E_z i_z Q) (hEr : Err G c s m M E_z Q) : HC G c s i_z M Q := by
  refine op_pre (k_z := 3) h_z hd_z hx htk hp hn hlt (by decide) (by decide) hop i0_z i1_z hEr (fun hb_z hw hg => ?_)
  have h0 := h_z
  obtain ⟨r1_z, r2, r3, ⟨r4, r5_z, r6, r7⟩, r8, r9, r10, r11, r12, r13, ⟨r14, r15, r16⟩, r17⟩ := h_z
  obtain ⟨g1, g2, g3_z, w0_z, w1_z, g6⟩ := h0.opn hd_z
  have nd : need ((3 : Nat) : Int) = 2 := by decide
  rw [nd] at hw
  have hs1 : ShMa (uI M (c + 22 + 4 * d_z) 5 (tk + 1)) c := r1_z
  have ho1 : OpF G (uI M (c + 22 + 4 * d_z) 5 (tk + 1)) := OpF.out r3 ((OutC.refl c M).uI _ _ (by omega)) r6 r4
  have f2_z : ShFr (uI M (c + 22 + 4 * d_z) 5 (tk + 1)) (c + 22 + 4 * d_z) := (r1_z.2.2.2.1 d_z g1).2
  have e13_z : gI (uI M (c + 22 + 4 * d_z) 5 (tk + 1)) c 13 = gI M c 13 := by rw [rI_ne (by omega)]
  have es6 : gI (uI M (c + 22 + 4 * d_z) 5 (tk + 1)) s 6 = gI M s 6 := by rw [rI_ne (by omega)]
  have ew : gI (uI M (c + 22 + 4 * d_z) 5 (tk + 1)) (c + 22 + 4 * d_z) 6 = gI M (c + 22 + 4 * d_z) 6 := by rw [rI_nk (by decide)]
  have hK4 : gK (uI M (c + 22 + 4 * d_z) 5 (tk + 1)) s = 4 := r8.1.1
  generalize hwd : gI M (c + 22 + 4 * d_z) 6 = w_z at *
  have hv1 : ∀ i_z, 0 ≤ i_z → i_z < w_z → NV (gL (uI M (c + 22 + 4 * d_z) 5 (tk + 1)) (c + 22 + 4 * d_z + 1) i_z) ∨ fd (gL (uI M (c + 22 + 4 * d_z) 5 (tk + 1)) (c + 22 + 4 * d_z + 1) i_z) = 0 := fun i_z i0_z i1_z => by
    rcases (g6 i_z i0_z i1_z).2.2 with q_z | q_z
    · exact Or.inl q_z
    · exact Or.inr q_z.1
  have hg := hg (by omega)
  rw [nd] at hg
  have nv0 := hg 0 (by omega) (by omega)
  have nv1 := hg 1 (by omega) (by omega)
  rw [Int.sub_zero] at nv0
  rw [show w_z - 1 - 1 = w_z - 2 from by omega] at nv1
  generalize ha_z : gL M (c + 22 + 4 * d_z + 1) (w_z - 1) = v0_z at *
  generalize hv : gL M (c + 22 + 4 * d_z + 1) (w_z - 2) = v1_z at *
  -- the graphics state
  have oP := r11
  obtain ⟨oP1, oP2, oP3, oP4, -⟩ := oP
  generalize htp : gI M c 12 = tp at *
  have e12_z : gI (uI M (c + 22 + 4 * d_z) 5 (tk + 1)) c 12 = tp := by rw [rI_ne (by omega)]; exact htp
  generalize hgg : c + 42 + 3 * tp.toNat = g_z at *
  generalize hX : dv (gL M (g_z + 1)) v1_z v0_z 0 = X_z at *
  generalize hY : dv (gL M (g_z + 1)) v1_z v0_z 1 = Y at *
  -- the pool
  have hpa := r12
  obtain ⟨pa1, pa2, pa3, pa4, pa5, -⟩ := hpa
  generalize hee : gI M (c + 4) 5 = e_z at *
  generalize hkk : gI M (c + 4) 6 = kk at *
  obtain ⟨nn, hnn_z⟩ : ∃ nn, nn = kk - gI M (c + 8) e_z := ⟨_, rfl⟩
  have bud := r8.2.2.2.2.2.2
  have n24_z : 0 ≤ nn ∧ nn ≤ 24 := by
    have a_z := pa5.1
    have b_z := pa5.2.1
    omega
  have num_z : ∀ T', Rel G M T' c s m E_z → _ := fun T' h' => Rel.nums h' hd_z hwd hb_z (k_z := 3) (by omega) (by rw [nd]; exact hw) (by
    intro i_z i0_z i1_z
    rw [nd] at i1_z
    exact hg i_z i0_z i1_z)
  have addP_z : ∀ qq : Option AV → Mem → Prop, ((nn = 24 ∨ X_z = 16001 ∨ Y = 16001) → qq (some (a_i 6)) (uI M (c + 22 + 4 * d_z) 5 (tk + 1))) → (¬ (nn = 24 ∨ X_z = 16001 ∨ Y = 16001) → qq (some (a_i 0)) (uI (pAdd1 (uI M (c + 22 + 4 * d_z) 5 (tk + 1)) (c + 4) kk X_z Y 1) (c + 22 + 4 * d_z) 6 (w_z - 2))) → Call G J_Ma_addPoint [a_r c, a_r (c + 22 + 4 * d_z), a_i 1] (uI M (c + 22 + 4 * d_z) 5 (tk + 1)) qq := fun qq q6_z q0 =>
    X_addPt (v1_z := v1_z) (v0_z := v0_z) (tp := tp) (e_z := e_z) (n_z := nn) (k_z := kk) (X_z := X_z) (Y := Y) (g_z := g_z) hs1 f2_z ew hw w1_z hv ha_z nv1 nv0 e12_z oP2 oP3 hgg (fun i_z i0_z i1_z => (oP4.1 i_z i0_z i1_z).1) hX hY (by rw [rI_ne (by omega)]; exact hee) (by omega) (by omega) (by rw [rI_ne (by omega)]; exact hkk) (by omega) (by omega) (by rw [rI_ne (by omega)]; show gI M (c + 8) e_z = _; omega) n24_z.1 (by omega) (by omega) (fun q_z _ => q6_z q_z) q0 n24_z.2 (by omega)
  have wrg : ∀ T', Rel G M T' c s m E_z → ∀ qq : Option AV → Mem → Prop, (∀ T1, Sy T' T1 m → ((nn = 24 ∨ X_z = 16001 ∨ Y = 16001) → qq (some (a_i 6)) T1) ∧ (¬ (nn = 24 ∨ X_z = 16001 ∨ Y = 16001) → gI T1 m 20 = X_z → gI T1 m 21 = Y → qq (some (a_i 0)) T1)) → Call G J_M_wrong [a_r m, a_i 3] T' qq := fun T' h' qq hqq => by
    obtain ⟨m1_z, m2_z, m3_z, m4_z, m5_z, m6_z⟩ := num_z T' h'
    obtain ⟨-, -, -, -, -, -, -, q11_z, q12_z, -⟩ := h'
    have o0_z := m5_z 0 (by omega) (by omega)
    have o1 := m5_z 1 (by omega) (by omega)
    rw [Int.sub_zero, Int.sub_zero, ha_z] at o0_z
    rw [show (16 : Int) * d_z + w_z - 1 - 1 = 16 * d_z + w_z - 2 from by omega, show w_z - 1 - 1 = w_z - 2 from by omega, hv] at o1
    have gv : GV (uI T' m 16 0) m (gL M (g_z + 1)) := by
      have y_z := q11_z.2.2.2.1
      rw [htp, hgg] at y_z
      intro i_z i0_z i1_z
      rw [rI_ne (by omega)]
      exact y_z.1 i_z i0_z i1_z
    have p25_z : gI T' m 25 = nn := by
      have y_z := q12_z.2.2.2.1.2
      rw [hee, hkk] at y_z
      omega
    have hm0 : ShM (uI T' m 16 0) m := m1_z
    refine X_wrongN m1_z (by omega) (by omega) (by omega) m4_z m6_z ?_
    refine X_tooP (k_z := 3) (w_z := w_z) (v1_z := v1_z) (v0_z := v0_z) (mt_z := gL M (g_z + 1)) hm0 (by rw [rI_nk (by decide)]; exact m2_z) (by rw [rI_ne (by omega)]; exact m3_z) g1 hw w1_z (by omega) rI_at gv nv1 nv0 (by rw [rI_ne (by omega)]; exact o1.1) (by rw [rI_ne (by omega)]; exact o1.2) (by rw [rI_ne (by omega)]; exact o0_z.1) (by rw [rI_ne (by omega)]; exact o0_z.2) (fun T1 hy hD => ?_)
    rw [hX, hY] at hD
    have f16 : gI (uI T' m 16 0) m 16 = 0 := rI_at
    have f25 : gI (uI T' m 16 0) m 25 = nn := by rw [rI_nk (by decide)]; exact p25_z
    rw [f25]
    unfold DvO at hD
    rw [f16] at hD
    have hy' : Sy T' T1 m := (sy_fl0 T' m).trans hy
    obtain ⟨w6_z, w0_z⟩ := hqq T1 hy'
    have hs1 := hy'.sh m1_z
    have fl_z : gI T1 m 16 = 0 ∨ gI T1 m 16 = 1 := by
      rcases hD with q_z | q_z
      · exact Or.inl q_z.1
      · exact Or.inr q_z.1
    refine ⟨fun z_z => ⟨1, rfl, hs1, fl_z, fun _ => w6_z (Or.inl z_z), fun q_z => by omega⟩, fun z_z => ⟨0, rfl, hs1, fl_z, fun q_z => w6_z ?_, fun _ q_z => ?_⟩⟩
    · rcases hD with ⟨h1, h2⟩ | ⟨h1, h2⟩
      · omega
      · rcases h2 with h2 | h2
        · omega
        · exact Or.inr h2
    · rcases hD with ⟨h1, -, h3, h4, h5, h6⟩ | ⟨h1, h2⟩
      · exact w0_z (fun y_z => by omega) h5 h6
      · omega
  by_cases bad_z : nn = 24 ∨ X_z = 16001 ∨ Y = 16001
  · refine op_err h0 hd_z hx htk hp hn hlt (by decide) (by decide) hop i0_z i1_z (e_z := 6) (by decide) hEr (fun qq hqq => ?_) (fun T' h' qq hqq => wrg T' h' qq (fun T1 hy => ⟨fun _ => hqq T1 hy, fun q_z => absurd bad_z q_z⟩))
    have hh := hqq _ (Ex.refl _ _)
    refine perf_go (k_z := 3) hs1 ho1 r5_z hK4 f2_z (by decide) (by rw [e13_z, es6]; exact hb_z) ew w0_z w1_z hv1 (by rw [nd]; exact hw) (fun q_z => hg) ?_
    have sm_z := ho1.1
    have s17 : gI (uI M (c + 22 + 4 * d_z) 5 (tk + 1)) (G.2 1) 3 = 5 := sm_z.2.2 3 (by decide)
    have ad := addP_z (fun r_z M2_z => At G 86 175 [a_r c, a_r (G.2 (3 + 3)), a_r (c + 22 + 4 * d_z), a_i tk] r_z.toList M2_z qq) (fun _ => by
      simp (disch := omega) only [B_86_175, inI, inL, isT, kInt, kByt, true_and, and_true, an_t, im_t, im_f, or_true, true_or, true_imp_iff, false_imp_iff, not_true_eq_false, not_false_eq_true, gK_uI, gK_uL, gK_uR, gK_uCI, gK_uCL, gN_uI, gN_uL, gN_uR, gN_uCI, gN_uCL, gR_uI, gR_uL, gR_uCI, gR_uCL, gI_uL, gI_uR, gI_uCL, gL_uI, gL_uR, gL_uCI, gz_uI, gz_uL, gz_uR, gz_uCI, gz_uCL, gs_uI, gs_uL, gs_uR, gs_uCI, gs_uCL, rI_at, rL_at, rR_at, rI_ne, rL_ne, rR_ne, rI_nk, rL_nk, rR_nk, rI_eq, rL_eq, rR_eq, Option.toList_some, Option.toList_none, List.cons_append, List.nil_append, List.append_nil, zc_eq, zc_lt, zc_le, zc_ge, zc_gt]
      exact hh) (fun q_z => absurd bad_z q_z)
    rw [B_86_33]
    simp (disch := omega) only [sm_z.1, sm_z.2.1, s17, Int.cast_ofNat_Int, B_86_158, B_86_171, B_86_172, hs1.1.u, inI, inL, isT, kInt, kByt, true_and, and_true, an_t, im_t, im_f, or_true, true_or, true_imp_iff, false_imp_iff, not_true_eq_false, not_false_eq_true, gK_uI, gK_uL, gK_uR, gK_uCI, gK_uCL, gN_uI, gN_uL, gN_uR, gN_uCI, gN_uCL, gR_uI, gR_uL, gR_uCI, gR_uCL, gI_uL, gI_uR, gI_uCL, gL_uI, gL_uR, gL_uCI, gz_uI, gz_uL, gz_uR, gz_uCI, gz_uCL, gs_uI, gs_uL, gs_uR, gs_uCI, gs_uCL, rI_at, rL_at, rR_at, rI_ne, rL_ne, rR_ne, rI_nk, rL_nk, rR_nk, rI_eq, rL_eq, rR_eq, Option.toList_some, Option.toList_none, List.cons_append, List.nil_append, List.append_nil, zc_eq, zc_lt, zc_le, zc_ge, zc_gt]
    all_goals exact ad
  · have bX_z : X_z.natAbs ≤ 16000 := by
      rw [← hX]
      exact dv_b _ _ _ _ (fun q_z => bad_z (Or.inr (Or.inl (by rw [← hX]; exact q_z))))
    have bY : Y.natAbs ≤ 16000 := by
      rw [← hY]
      exact dv_b _ _ _ _ (fun q_z => bad_z (Or.inr (Or.inr (by rw [← hY]; exact q_z))))
    refine op_run (w_z := w_z - 2) (P_z := fun Mp => Mp = uI (pAdd1 (uI M (c + 22 + 4 * d_z) 5 (tk + 1)) (c + 4) kk X_z Y 1) (c + 22 + 4 * d_z) 6 (w_z - 2)) (PT_z := fun T' T1 => gI T1 m 20 = X_z ∧ gI T1 m 21 = Y) h0 hd_z hx htk hp hn hlt (by decide) (by decide) hop i0_z i1_z hb_z hN_z (by omega) (by omega) (fun qq hqq => ?_) (fun Mp hMp => ?_) (fun T' h' qq hqq => wrg T' h' qq (fun T1 hy => ⟨fun q_z => absurd q_z bad_z, fun _ h5 h6 => hqq T1 hy ⟨h5, h6⟩⟩)) (fun Mp hMp T' h' T1 hy hPT T3 t3_z st_z hst hleg hpa qq hqq => ?_)
    · have hh := hqq _ rfl
      refine perf_go (k_z := 3) hs1 ho1 r5_z hK4 f2_z (by decide) (by rw [e13_z, es6]; exact hb_z) ew w0_z w1_z hv1 (by rw [nd]; exact hw) (fun q_z => hg) ?_
      have sm_z := ho1.1
      have s17 : gI (uI M (c + 22 + 4 * d_z) 5 (tk + 1)) (G.2 1) 3 = 5 := sm_z.2.2 3 (by decide)
      have ad := addP_z (fun r_z M2_z => At G 86 175 [a_r c, a_r (G.2 (3 + 3)), a_r (c + 22 + 4 * d_z), a_i tk] r_z.toList M2_z qq) (fun q_z => absurd q_z bad_z) (fun _ => by
        simp (disch := omega) only [B_86_175, inI, inL, isT, kInt, kByt, true_and, and_true, an_t, im_t, im_f, or_true, true_or, true_imp_iff, false_imp_iff, not_true_eq_false, not_false_eq_true, gK_uI, gK_uL, gK_uR, gK_uCI, gK_uCL, gN_uI, gN_uL, gN_uR, gN_uCI, gN_uCL, gR_uI, gR_uL, gR_uCI, gR_uCL, gI_uL, gI_uR, gI_uCL, gL_uI, gL_uR, gL_uCI, gz_uI, gz_uL, gz_uR, gz_uCI, gz_uCL, gs_uI, gs_uL, gs_uR, gs_uCI, gs_uCL, rI_at, rL_at, rR_at, rI_ne, rL_ne, rR_ne, rI_nk, rL_nk, rR_nk, rI_eq, rL_eq, rR_eq, Option.toList_some, Option.toList_none, List.cons_append, List.nil_append, List.append_nil, zc_eq, zc_lt, zc_le, zc_ge, zc_gt]
        exact hh)
      rw [B_86_33]
      simp (disch := omega) only [sm_z.1, sm_z.2.1, s17, Int.cast_ofNat_Int, B_86_158, B_86_171, B_86_172, hs1.1.u, inI, inL, isT, kInt, kByt, true_and, and_true, an_t, im_t, im_f, or_true, true_or, true_imp_iff, false_imp_iff, not_true_eq_false, not_false_eq_true, gK_uI, gK_uL, gK_uR, gK_uCI, gK_uCL, gN_uI, gN_uL, gN_uR, gN_uCI, gN_uCL, gR_uI, gR_uL, gR_uCI, gR_uCL, gI_uL, gI_uR, gI_uCL, gL_uI, gL_uR, gL_uCI, gz_uI, gz_uL, gz_uR, gz_uCI, gz_uCL, gs_uI, gs_uL, gs_uR, gs_uCI, gs_uCL, rI_at, rL_at, rR_at, rI_ne, rL_ne, rR_ne, rI_nk, rL_nk, rR_nk, rI_eq, rL_eq, rR_eq, Option.toList_some, Option.toList_none, List.cons_append, List.nil_append, List.append_nil, zc_eq, zc_lt, zc_le, zc_ge, zc_gt]
      all_goals exact ad
    · subst hMp
      have o1 : Ex (fun a_z => c ≤ a_z ∧ a_z < c + 147) M (uI (pAdd1 (uI M (c + 22 + 4 * d_z) 5 (tk + 1)) (c + 4) kk X_z Y 1) (c + 22 + 4 * d_z) 6 (w_z - 2)) := ((((((Ex.refl _ M).uI _ _ (by omega)).uI _ _ (by omega)).uI _ _ (by omega)).uI _ _ (by omega)).uI _ _ (by omega)).uI _ _ (by omega)
      unfold pAdd1 at o1 ⊢
      refine ⟨r1_z, rfl, o1.outC (fun r_z hr => hr), fun a_z a0_z a1_z a2 => ⟨?_, rfl⟩, fun a_z a0_z a1_z => ?_, fun j_z hj => ?_, ?_, ?_, ?_, ?_⟩
      · rw [rI_ne a2, rI_ne (by omega), rI_ne (by omega), rI_ne (by omega), rI_ne (by omega), rI_ne a2]
      · rw [rI_ne (by omega), rI_ne (by omega), rI_ne (by omega), rI_ne (by omega), rI_ne (by omega), rI_ne (by omega)]
      · rw [rI_ne (by omega), rI_ne (by omega), rI_ne (by omega), rI_ne (by omega), rI_ne (by omega), rI_ne (by omega)]
      · rw [rI_nk (by decide), rI_ne (by omega), rI_ne (by omega), rI_ne (by omega), rI_ne (by omega), rI_nk (by decide)]
      · rw [rI_nk (by decide), rI_ne (by omega), rI_ne (by omega), rI_ne (by omega), rI_ne (by omega), rI_at]
      · exact rI_at
      · rw [rI_nk (by decide), rI_ne (by omega), rI_ne (by omega), rI_ne (by omega), rI_ne (by omega), rI_nk (by decide)]
    · subst hMp
      obtain ⟨m1_z, m2_z, m3_z, -, -, -⟩ := num_z T' h'
      obtain ⟨-, -, -, -, -, q9_z, -, q11_z, q12_z, q13_z, -⟩ := h'
      exact fin_move hee hkk hnn_z n24_z bad_z bX_z bY (by omega) rfl t3_z hPT m2_z m3_z g1 hw w1_z hleg hpa q11_z q12_z q13_z hqq
theorem op_line {E_z i_z x_z n_z tk : Int} {d_z p_z : Nat} (h_z : Rel G M T c s m E_z) (hd_z : gI M c 11 = (d_z : Int)) (hx : gI M (c + 22 + 4 * d_z) 4 = x_z - 1) (htk : gI M (c + 22 + 4 * d_z) 5 = tk) (hp : gR M (c + 22 + 4 * d_z) 3 = p_z) (hn : gI M p_z 3 = n_z) (hlt : tk < n_z) (hop : gR M (p_z + 1) tk = G.2 (3 + 4)) (i0_z : 0 ≤ i_z) (i1_z : i_z + 1 < 1000000) (hN_z : Nxt G c s m M E_z i_z Q) (hEr : Err G c s m M E_z Q) : HC G c s i_z M Q := by
  refine op_pre (k_z := 4) h_z hd_z hx htk hp hn hlt (by decide) (by decide) hop i0_z i1_z hEr (fun hb_z hw hg => ?_)
  have h0 := h_z
  obtain ⟨r1_z, r2, r3, ⟨r4, r5_z, r6, r7⟩, r8, r9, r10, r11, r12, r13, ⟨r14, r15, r16⟩, r17⟩ := h_z
  obtain ⟨g1, g2, g3_z, w0_z, w1_z, g6⟩ := h0.opn hd_z
  have nd : need ((4 : Nat) : Int) = 2 := by decide
  rw [nd] at hw
  have hs1 : ShMa (uI M (c + 22 + 4 * d_z) 5 (tk + 1)) c := r1_z
  have ho1 : OpF G (uI M (c + 22 + 4 * d_z) 5 (tk + 1)) := OpF.out r3 ((OutC.refl c M).uI _ _ (by omega)) r6 r4
  have f2_z : ShFr (uI M (c + 22 + 4 * d_z) 5 (tk + 1)) (c + 22 + 4 * d_z) := (r1_z.2.2.2.1 d_z g1).2
  have e13_z : gI (uI M (c + 22 + 4 * d_z) 5 (tk + 1)) c 13 = gI M c 13 := by rw [rI_ne (by omega)]
  have es6 : gI (uI M (c + 22 + 4 * d_z) 5 (tk + 1)) s 6 = gI M s 6 := by rw [rI_ne (by omega)]
  have ew : gI (uI M (c + 22 + 4 * d_z) 5 (tk + 1)) (c + 22 + 4 * d_z) 6 = gI M (c + 22 + 4 * d_z) 6 := by rw [rI_nk (by decide)]
  have hK4 : gK (uI M (c + 22 + 4 * d_z) 5 (tk + 1)) s = 4 := r8.1.1
  generalize hwd : gI M (c + 22 + 4 * d_z) 6 = w_z at *
  have hv1 : ∀ i_z, 0 ≤ i_z → i_z < w_z → NV (gL (uI M (c + 22 + 4 * d_z) 5 (tk + 1)) (c + 22 + 4 * d_z + 1) i_z) ∨ fd (gL (uI M (c + 22 + 4 * d_z) 5 (tk + 1)) (c + 22 + 4 * d_z + 1) i_z) = 0 := fun i_z i0_z i1_z => by
    rcases (g6 i_z i0_z i1_z).2.2 with q_z | q_z
    · exact Or.inl q_z
    · exact Or.inr q_z.1
  have hg := hg (by omega)
  rw [nd] at hg
  have nv0 := hg 0 (by omega) (by omega)
  have nv1 := hg 1 (by omega) (by omega)
  rw [Int.sub_zero] at nv0
  rw [show w_z - 1 - 1 = w_z - 2 from by omega] at nv1
  generalize ha_z : gL M (c + 22 + 4 * d_z + 1) (w_z - 1) = v0_z at *
  generalize hv : gL M (c + 22 + 4 * d_z + 1) (w_z - 2) = v1_z at *
  -- the graphics state
  have oP := r11
  obtain ⟨oP1, oP2, oP3, oP4, -⟩ := oP
  generalize htp : gI M c 12 = tp at *
  have e12_z : gI (uI M (c + 22 + 4 * d_z) 5 (tk + 1)) c 12 = tp := by rw [rI_ne (by omega)]; exact htp
  generalize hgg : c + 42 + 3 * tp.toNat = g_z at *
  generalize hX : dv (gL M (g_z + 1)) v1_z v0_z 0 = X_z at *
  generalize hY : dv (gL M (g_z + 1)) v1_z v0_z 1 = Y at *
  -- the pool
  have hpa := r12
  obtain ⟨pa1, pa2, pa3, pa4, pa5, -⟩ := hpa
  generalize hee : gI M (c + 4) 5 = e_z at *
  generalize hkk : gI M (c + 4) 6 = kk at *
  obtain ⟨nn, hnn_z⟩ : ∃ nn, nn = kk - gI M (c + 8) e_z := ⟨_, rfl⟩
  have bud := r8.2.2.2.2.2.2
  have n24_z : 0 ≤ nn ∧ nn ≤ 24 := by
    have a_z := pa5.1
    have b_z := pa5.2.1
    omega
  have num_z : ∀ T', Rel G M T' c s m E_z → _ := fun T' h' => Rel.nums h' hd_z hwd hb_z (k_z := 4) (by omega) (by rw [nd]; exact hw) (by
    intro i_z i0_z i1_z
    rw [nd] at i1_z
    exact hg i_z i0_z i1_z)
  have addP_z : ∀ qq : Option AV → Mem → Prop, ((nn = 24 ∨ X_z = 16001 ∨ Y = 16001) → qq (some (a_i 6)) (uI M (c + 22 + 4 * d_z) 5 (tk + 1))) → (¬ (nn = 24 ∨ X_z = 16001 ∨ Y = 16001) → qq (some (a_i 0)) (uI (pAdd1 (uI M (c + 22 + 4 * d_z) 5 (tk + 1)) (c + 4) kk X_z Y 0) (c + 22 + 4 * d_z) 6 (w_z - 2))) → Call G J_Ma_addPoint [a_r c, a_r (c + 22 + 4 * d_z), a_i 0] (uI M (c + 22 + 4 * d_z) 5 (tk + 1)) qq := fun qq q6_z q0 =>
    X_addPt (v1_z := v1_z) (v0_z := v0_z) (tp := tp) (e_z := e_z) (n_z := nn) (k_z := kk) (X_z := X_z) (Y := Y) (g_z := g_z) hs1 f2_z ew hw w1_z hv ha_z nv1 nv0 e12_z oP2 oP3 hgg (fun i_z i0_z i1_z => (oP4.1 i_z i0_z i1_z).1) hX hY (by rw [rI_ne (by omega)]; exact hee) (by omega) (by omega) (by rw [rI_ne (by omega)]; exact hkk) (by omega) (by omega) (by rw [rI_ne (by omega)]; show gI M (c + 8) e_z = _; omega) n24_z.1 (by omega) (by omega) (fun q_z _ => q6_z q_z) q0 n24_z.2 (by omega)
  have wrg : ∀ T', Rel G M T' c s m E_z → ∀ qq : Option AV → Mem → Prop, (∀ T1, Sy T' T1 m → ((nn = 24 ∨ X_z = 16001 ∨ Y = 16001) → qq (some (a_i 6)) T1) ∧ (¬ (nn = 24 ∨ X_z = 16001 ∨ Y = 16001) → gI T1 m 20 = X_z → gI T1 m 21 = Y → qq (some (a_i 0)) T1)) → Call G J_M_wrong [a_r m, a_i 4] T' qq := fun T' h' qq hqq => by
    obtain ⟨m1_z, m2_z, m3_z, m4_z, m5_z, m6_z⟩ := num_z T' h'
    obtain ⟨-, -, -, -, -, -, -, q11_z, q12_z, -⟩ := h'
    have o0_z := m5_z 0 (by omega) (by omega)
    have o1 := m5_z 1 (by omega) (by omega)
    rw [Int.sub_zero, Int.sub_zero, ha_z] at o0_z
    rw [show (16 : Int) * d_z + w_z - 1 - 1 = 16 * d_z + w_z - 2 from by omega, show w_z - 1 - 1 = w_z - 2 from by omega, hv] at o1
    have gv : GV (uI T' m 16 0) m (gL M (g_z + 1)) := by
      have y_z := q11_z.2.2.2.1
      rw [htp, hgg] at y_z
      intro i_z i0_z i1_z
      rw [rI_ne (by omega)]
      exact y_z.1 i_z i0_z i1_z
    have p25_z : gI T' m 25 = nn := by
      have y_z := q12_z.2.2.2.1.2
      rw [hee, hkk] at y_z
      omega
    have hm0 : ShM (uI T' m 16 0) m := m1_z
    refine X_wrongN m1_z (by omega) (by omega) (by omega) m4_z m6_z ?_
    refine X_tooP (k_z := 4) (w_z := w_z) (v1_z := v1_z) (v0_z := v0_z) (mt_z := gL M (g_z + 1)) hm0 (by rw [rI_nk (by decide)]; exact m2_z) (by rw [rI_ne (by omega)]; exact m3_z) g1 hw w1_z (by omega) rI_at gv nv1 nv0 (by rw [rI_ne (by omega)]; exact o1.1) (by rw [rI_ne (by omega)]; exact o1.2) (by rw [rI_ne (by omega)]; exact o0_z.1) (by rw [rI_ne (by omega)]; exact o0_z.2) (fun T1 hy hD => ?_)
    rw [hX, hY] at hD
    have f16 : gI (uI T' m 16 0) m 16 = 0 := rI_at
    have f25 : gI (uI T' m 16 0) m 25 = nn := by rw [rI_nk (by decide)]; exact p25_z
    rw [f25]
    unfold DvO at hD
    rw [f16] at hD
    have hy' : Sy T' T1 m := (sy_fl0 T' m).trans hy
    obtain ⟨w6_z, w0_z⟩ := hqq T1 hy'
    have hs1 := hy'.sh m1_z
    have fl_z : gI T1 m 16 = 0 ∨ gI T1 m 16 = 1 := by
      rcases hD with q_z | q_z
      · exact Or.inl q_z.1
      · exact Or.inr q_z.1
    refine ⟨fun z_z => ⟨1, rfl, hs1, fl_z, fun _ => w6_z (Or.inl z_z), fun q_z => by omega⟩, fun z_z => ⟨0, rfl, hs1, fl_z, fun q_z => w6_z ?_, fun _ q_z => ?_⟩⟩
    · rcases hD with ⟨h1, h2⟩ | ⟨h1, h2⟩
      · omega
      · rcases h2 with h2 | h2
        · omega
        · exact Or.inr h2
    · rcases hD with ⟨h1, -, h3, h4, h5, h6⟩ | ⟨h1, h2⟩
      · exact w0_z (fun y_z => by omega) h5 h6
      · omega
  by_cases bad_z : nn = 24 ∨ X_z = 16001 ∨ Y = 16001
  · refine op_err h0 hd_z hx htk hp hn hlt (by decide) (by decide) hop i0_z i1_z (e_z := 6) (by decide) hEr (fun qq hqq => ?_) (fun T' h' qq hqq => wrg T' h' qq (fun T1 hy => ⟨fun _ => hqq T1 hy, fun q_z => absurd bad_z q_z⟩))
    have hh := hqq _ (Ex.refl _ _)
    refine perf_go (k_z := 4) hs1 ho1 r5_z hK4 f2_z (by decide) (by rw [e13_z, es6]; exact hb_z) ew w0_z w1_z hv1 (by rw [nd]; exact hw) (fun q_z => hg) ?_
    have sm_z := ho1.1
    have s17 : gI (uI M (c + 22 + 4 * d_z) 5 (tk + 1)) (G.2 1) 4 = 7 := sm_z.2.2 4 (by decide)
    have ad := addP_z (fun r_z M2_z => At G 86 175 [a_r c, a_r (G.2 (3 + 4)), a_r (c + 22 + 4 * d_z), a_i tk] r_z.toList M2_z qq) (fun _ => by
      simp (disch := omega) only [B_86_175, inI, inL, isT, kInt, kByt, true_and, and_true, an_t, im_t, im_f, or_true, true_or, true_imp_iff, false_imp_iff, not_true_eq_false, not_false_eq_true, gK_uI, gK_uL, gK_uR, gK_uCI, gK_uCL, gN_uI, gN_uL, gN_uR, gN_uCI, gN_uCL, gR_uI, gR_uL, gR_uCI, gR_uCL, gI_uL, gI_uR, gI_uCL, gL_uI, gL_uR, gL_uCI, gz_uI, gz_uL, gz_uR, gz_uCI, gz_uCL, gs_uI, gs_uL, gs_uR, gs_uCI, gs_uCL, rI_at, rL_at, rR_at, rI_ne, rL_ne, rR_ne, rI_nk, rL_nk, rR_nk, rI_eq, rL_eq, rR_eq, Option.toList_some, Option.toList_none, List.cons_append, List.nil_append, List.append_nil, zc_eq, zc_lt, zc_le, zc_ge, zc_gt]
      exact hh) (fun q_z => absurd bad_z q_z)
    have ex_z : ¬ G.2 (3 + 4) = G.2 6 := fun q_z => absurd (OpF.inj r3 (i_z := 4) (j_z := 3) (by decide) (by decide) q_z) (by decide)
    rw [B_86_33]
    simp (disch := omega) only [sm_z.1, sm_z.2.1, s17, Int.cast_ofNat_Int, B_86_158, ex_z, B_86_171, B_86_172, hs1.1.u, inI, inL, isT, kInt, kByt, true_and, and_true, an_t, im_t, im_f, or_true, true_or, true_imp_iff, false_imp_iff, not_true_eq_false, not_false_eq_true, gK_uI, gK_uL, gK_uR, gK_uCI, gK_uCL, gN_uI, gN_uL, gN_uR, gN_uCI, gN_uCL, gR_uI, gR_uL, gR_uCI, gR_uCL, gI_uL, gI_uR, gI_uCL, gL_uI, gL_uR, gL_uCI, gz_uI, gz_uL, gz_uR, gz_uCI, gz_uCL, gs_uI, gs_uL, gs_uR, gs_uCI, gs_uCL, rI_at, rL_at, rR_at, rI_ne, rL_ne, rR_ne, rI_nk, rL_nk, rR_nk, rI_eq, rL_eq, rR_eq, Option.toList_some, Option.toList_none, List.cons_append, List.nil_append, List.append_nil, zc_eq, zc_lt, zc_le, zc_ge, zc_gt]
    all_goals exact ad
  · have bX_z : X_z.natAbs ≤ 16000 := by
      rw [← hX]
      exact dv_b _ _ _ _ (fun q_z => bad_z (Or.inr (Or.inl (by rw [← hX]; exact q_z))))
    have bY : Y.natAbs ≤ 16000 := by
      rw [← hY]
      exact dv_b _ _ _ _ (fun q_z => bad_z (Or.inr (Or.inr (by rw [← hY]; exact q_z))))
    refine op_run (w_z := w_z - 2) (P_z := fun Mp => Mp = uI (pAdd1 (uI M (c + 22 + 4 * d_z) 5 (tk + 1)) (c + 4) kk X_z Y 0) (c + 22 + 4 * d_z) 6 (w_z - 2)) (PT_z := fun T' T1 => gI T1 m 20 = X_z ∧ gI T1 m 21 = Y) h0 hd_z hx htk hp hn hlt (by decide) (by decide) hop i0_z i1_z hb_z hN_z (by omega) (by omega) (fun qq hqq => ?_) (fun Mp hMp => ?_) (fun T' h' qq hqq => wrg T' h' qq (fun T1 hy => ⟨fun q_z => absurd q_z bad_z, fun _ h5 h6 => hqq T1 hy ⟨h5, h6⟩⟩)) (fun Mp hMp T' h' T1 hy hPT T3 t3_z st_z hst hleg hpa qq hqq => ?_)
    · have hh := hqq _ rfl
      refine perf_go (k_z := 4) hs1 ho1 r5_z hK4 f2_z (by decide) (by rw [e13_z, es6]; exact hb_z) ew w0_z w1_z hv1 (by rw [nd]; exact hw) (fun q_z => hg) ?_
      have sm_z := ho1.1
      have s17 : gI (uI M (c + 22 + 4 * d_z) 5 (tk + 1)) (G.2 1) 4 = 7 := sm_z.2.2 4 (by decide)
      have ad := addP_z (fun r_z M2_z => At G 86 175 [a_r c, a_r (G.2 (3 + 4)), a_r (c + 22 + 4 * d_z), a_i tk] r_z.toList M2_z qq) (fun q_z => absurd q_z bad_z) (fun _ => by
        simp (disch := omega) only [B_86_175, inI, inL, isT, kInt, kByt, true_and, and_true, an_t, im_t, im_f, or_true, true_or, true_imp_iff, false_imp_iff, not_true_eq_false, not_false_eq_true, gK_uI, gK_uL, gK_uR, gK_uCI, gK_uCL, gN_uI, gN_uL, gN_uR, gN_uCI, gN_uCL, gR_uI, gR_uL, gR_uCI, gR_uCL, gI_uL, gI_uR, gI_uCL, gL_uI, gL_uR, gL_uCI, gz_uI, gz_uL, gz_uR, gz_uCI, gz_uCL, gs_uI, gs_uL, gs_uR, gs_uCI, gs_uCL, rI_at, rL_at, rR_at, rI_ne, rL_ne, rR_ne, rI_nk, rL_nk, rR_nk, rI_eq, rL_eq, rR_eq, Option.toList_some, Option.toList_none, List.cons_append, List.nil_append, List.append_nil, zc_eq, zc_lt, zc_le, zc_ge, zc_gt]
        exact hh)
      have ex_z : ¬ G.2 (3 + 4) = G.2 6 := fun q_z => absurd (OpF.inj r3 (i_z := 4) (j_z := 3) (by decide) (by decide) q_z) (by decide)
      rw [B_86_33]
      simp (disch := omega) only [sm_z.1, sm_z.2.1, s17, Int.cast_ofNat_Int, B_86_158, ex_z, B_86_171, B_86_172, hs1.1.u, inI, inL, isT, kInt, kByt, true_and, and_true, an_t, im_t, im_f, or_true, true_or, true_imp_iff, false_imp_iff, not_true_eq_false, not_false_eq_true, gK_uI, gK_uL, gK_uR, gK_uCI, gK_uCL, gN_uI, gN_uL, gN_uR, gN_uCI, gN_uCL, gR_uI, gR_uL, gR_uCI, gR_uCL, gI_uL, gI_uR, gI_uCL, gL_uI, gL_uR, gL_uCI, gz_uI, gz_uL, gz_uR, gz_uCI, gz_uCL, gs_uI, gs_uL, gs_uR, gs_uCI, gs_uCL, rI_at, rL_at, rR_at, rI_ne, rL_ne, rR_ne, rI_nk, rL_nk, rR_nk, rI_eq, rL_eq, rR_eq, Option.toList_some, Option.toList_none, List.cons_append, List.nil_append, List.append_nil, zc_eq, zc_lt, zc_le, zc_ge, zc_gt]
      all_goals exact ad
    · subst hMp
      have o1 : Ex (fun a_z => c ≤ a_z ∧ a_z < c + 147) M (uI (pAdd1 (uI M (c + 22 + 4 * d_z) 5 (tk + 1)) (c + 4) kk X_z Y 0) (c + 22 + 4 * d_z) 6 (w_z - 2)) := ((((((Ex.refl _ M).uI _ _ (by omega)).uI _ _ (by omega)).uI _ _ (by omega)).uI _ _ (by omega)).uI _ _ (by omega)).uI _ _ (by omega)
      unfold pAdd1 at o1 ⊢
      refine ⟨r1_z, rfl, o1.outC (fun r_z hr => hr), fun a_z a0_z a1_z a2 => ⟨?_, rfl⟩, fun a_z a0_z a1_z => ?_, fun j_z hj => ?_, ?_, ?_, ?_, ?_⟩
      · rw [rI_ne a2, rI_ne (by omega), rI_ne (by omega), rI_ne (by omega), rI_ne (by omega), rI_ne a2]
      · rw [rI_ne (by omega), rI_ne (by omega), rI_ne (by omega), rI_ne (by omega), rI_ne (by omega), rI_ne (by omega)]
      · rw [rI_ne (by omega), rI_ne (by omega), rI_ne (by omega), rI_ne (by omega), rI_ne (by omega), rI_ne (by omega)]
      · rw [rI_nk (by decide), rI_ne (by omega), rI_ne (by omega), rI_ne (by omega), rI_ne (by omega), rI_nk (by decide)]
      · rw [rI_nk (by decide), rI_ne (by omega), rI_ne (by omega), rI_ne (by omega), rI_ne (by omega), rI_at]
      · exact rI_at
      · rw [rI_nk (by decide), rI_ne (by omega), rI_ne (by omega), rI_ne (by omega), rI_ne (by omega), rI_nk (by decide)]
    · subst hMp
      obtain ⟨m1_z, m2_z, m3_z, -, -, -⟩ := num_z T' h'
      obtain ⟨-, -, -, -, -, q9_z, -, q11_z, q12_z, q13_z, -⟩ := h'
      exact fin_line hee hkk hnn_z n24_z bad_z bX_z bY (by omega) rfl t3_z hPT m2_z m3_z g1 hw w1_z hleg hpa q11_z q12_z q13_z hqq
end QB
