/-! THE PURE PART, part 14: rect. Own work (partly written by a program of its own). -/
section QD
variable {G : Env0} {Q : Option AV → Mem → Prop} {M T : Mem} {c s m : Nat}
theorem rGood.b {mt_z : Int → Int} {x0_z y0 x1_z y1 j_z : Int} (h_z : rGood mt_z x0_z y0 x1_z y1) (j0 : 0 ≤ j_z) (j1 : j_z < 4) : (dv mt_z (pX x0_z x1_z j_z) (pY y0 y1 j_z) 0).natAbs ≤ 16000 ∧ (dv mt_z (pX x0_z x1_z j_z) (pY y0 y1 j_z) 1).natAbs ≤ 16000 := ⟨dv_b _ _ _ _ (h_z j_z 0 j0 j1 (by decide) (by decide)), dv_b _ _ _ _ (h_z j_z 1 j0 j1 (by decide) (by decide))⟩
theorem RcM.le {M Mp : Mem} {c d_z : Nat} {tk w_z kk : Int} {X_z Y : Int → Int} (h_z : RcM M Mp c (c + 22 + 4 * d_z) tk w_z kk X_z Y) (hd_z : d_z < 5) (hs : ShMa M c) : LeC M Mp c d_z tk (w_z - 4) := by
  obtain ⟨a1_z, a2, a3, a4, a5, a6, a7, a8, a9, a10, a11, a12, -⟩ := h_z
  refine ⟨?_, a3, ⟨a1_z, a2, a4, a5, fun r_z hr => ⟨a7 r_z (by omega) (by omega) (by omega) (by omega) (by omega) (by omega), a6 r_z (by omega), by rw [a3]⟩⟩, fun a_z a0_z a1_z n_z => ⟨a7 a_z (by omega) (by omega) (by omega) (by omega) (by omega) n_z, a6 a_z (by omega)⟩, fun a_z a0_z a1_z => a7 a_z (by omega) (by omega) (by omega) (by omega) (by omega) (by omega), fun j_z hj => by rw [a7 c (by omega) (by omega) (by omega) (by omega) (by omega) (by omega)], a10 4 (by decide) (by decide), a11, a12, a10 7 (by decide) (by decide)⟩
  unfold ShMa ShM0 ShM0x ShPa ShPax ShIt ShItx ShFr ShFrx ShGr ShGrx
  rw [a1_z, a2, a3]
  exact hs
theorem op_rect {E_z i_z x_z n_z tk : Int} {d_z p_z : Nat} (h_z : Rel G M T c s m E_z) (hd_z : gI M c 11 = (d_z : Int)) (hx : gI M (c + 22 + 4 * d_z) 4 = x_z - 1) (htk : gI M (c + 22 + 4 * d_z) 5 = tk) (hp : gR M (c + 22 + 4 * d_z) 3 = p_z) (hn : gI M p_z 3 = n_z) (hlt : tk < n_z) (hop : gR M (p_z + 1) tk = G.2 (3 + 6)) (i0_z : 0 ≤ i_z) (i1_z : i_z + 1 < 1000000) (hN_z : Nxt G c s m M E_z i_z Q) (hEr : Err G c s m M E_z Q) : HC G c s i_z M Q := by
  refine op_pre (k_z := 6) h_z hd_z hx htk hp hn hlt (by decide) (by decide) hop i0_z i1_z hEr (fun hb_z hw hg => ?_)
  have h0 := h_z
  obtain ⟨r1_z, r2, r3, ⟨r4, r5_z, r6, r7⟩, r8, r9, r10, r11, r12, r13, ⟨r14, r15, r16⟩, r17⟩ := h_z
  obtain ⟨g1, g2, g3_z, w0_z, w1_z, g6⟩ := h0.opn hd_z
  have nd : need ((6 : Nat) : Int) = 4 := by decide
  rw [nd] at hw
  have hs1 : ShMa (uI M (c + 22 + 4 * d_z) 5 (tk + 1)) c := r1_z
  have ho1 : OpF G (uI M (c + 22 + 4 * d_z) 5 (tk + 1)) := OpF.out r3 ((OutC.refl c M).uI _ _ (by omega)) r6 r4
  have f2_z : ShFr (uI M (c + 22 + 4 * d_z) 5 (tk + 1)) (c + 22 + 4 * d_z) := (r1_z.2.2.2.1 d_z g1).2
  have e13_z : gI (uI M (c + 22 + 4 * d_z) 5 (tk + 1)) c 13 = gI M c 13 := by rw [rI_ne (by omega)]
  have es6 : gI (uI M (c + 22 + 4 * d_z) 5 (tk + 1)) s 6 = gI M s 6 := by rw [rI_ne (by omega)]
  have ew : gI (uI M (c + 22 + 4 * d_z) 5 (tk + 1)) (c + 22 + 4 * d_z) 6 = gI M (c + 22 + 4 * d_z) 6 := by rw [rI_nk (by decide)]
  have hK4 : gK (uI M (c + 22 + 4 * d_z) 5 (tk + 1)) s = 4 := r8.1.1
  generalize hwd : gI M (c + 22 + 4 * d_z) 6 = w_z at *
  have hv1 : ∀ i_z, 0 ≤ i_z → i_z < w_z → NV (gL (uI M (c + 22 + 4 * d_z) 5 (tk + 1)) (c + 22 + 4 * d_z + 1) i_z) ∨ fd (gL (uI M (c + 22 + 4 * d_z) 5 (tk + 1)) (c + 22 + 4 * d_z + 1) i_z) = 0 := fun i_z i0_z i1_z => by
    rcases (g6 i_z i0_z i1_z).2.2 with q_z | q_z
    · exact Or.inl q_z
    · exact Or.inr q_z.1
  have hg := hg (by omega)
  rw [nd] at hg
  have nv0 := hg 0 (by omega) (by omega)
  have nv1 := hg 1 (by omega) (by omega)
  have nv2 := hg 2 (by omega) (by omega)
  have nv3 := hg 3 (by omega) (by omega)
  rw [Int.sub_zero] at nv0
  rw [show w_z - 1 - 1 = w_z - 2 from by omega] at nv1
  rw [show w_z - 1 - 2 = w_z - 3 from by omega] at nv2
  rw [show w_z - 1 - 3 = w_z - 4 from by omega] at nv3
  generalize hv0 : gL M (c + 22 + 4 * d_z + 1) (w_z - 1) = v0_z at *
  generalize hv1' : gL M (c + 22 + 4 * d_z + 1) (w_z - 2) = v1_z at *
  generalize hv2 : gL M (c + 22 + 4 * d_z + 1) (w_z - 3) = v2 at *
  generalize hv3 : gL M (c + 22 + 4 * d_z + 1) (w_z - 4) = v3 at *
  -- the graphics state
  have oP := r11
  obtain ⟨oP1, oP2, oP3, oP4, -⟩ := oP
  generalize htp : gI M c 12 = tp at *
  have e12_z : gI (uI M (c + 22 + 4 * d_z) 5 (tk + 1)) c 12 = tp := by rw [rI_ne (by omega)]; exact htp
  generalize hgg : c + 42 + 3 * tp.toNat = g_z at *
  have hm_z := fun i_z i0_z i1_z => (oP4.1 i_z i0_z i1_z).1
  generalize hmt : gL M (g_z + 1) = mt_z at *
  have hmt' : gL (uI M (c + 22 + 4 * d_z) 5 (tk + 1)) (g_z + 1) = mt_z := hmt
  -- the pool
  have hpa := r12
  obtain ⟨pa1, pa2, pa3, pa4, pa5, -⟩ := hpa
  generalize hee : gI M (c + 4) 5 = e_z at *
  generalize hkk : gI M (c + 4) 6 = kk at *
  obtain ⟨nn, hnn_z⟩ : ∃ nn, nn = kk - gI M (c + 8) e_z := ⟨_, rfl⟩
  have bud := r8.2.2.2.2.2.2
  have n24_z : 0 ≤ nn ∧ nn ≤ 24 := by
    have a_z := pa5.1
    have b_z := pa5.2.1
    omega
  have num_z : ∀ T', Rel G M T' c s m E_z → _ := fun T' h' => Rel.nums h' hd_z hwd hb_z (k_z := 6) (by omega) (by rw [nd]; exact hw) (by
    intro i_z i0_z i1_z
    rw [nd] at i1_z
    exact hg i_z i0_z i1_z)
  obtain ⟨BAD, hBAD⟩ : ∃ BAD : Prop, BAD = (24 < nn + 4 ∨ ¬ rGood mt_z v3 v2 (fS v3 v1_z) (fS v2 v0_z)) := ⟨_, rfl⟩
  have addP_z : ∀ qq : Option AV → Mem → Prop, (BAD → ∀ M2_z, Ex (fun a_z => a_z = c + 20 ∨ a_z = c + 21) (uI M (c + 22 + 4 * d_z) 5 (tk + 1)) M2_z → qq (some (a_i 6)) M2_z) → (¬ BAD → ∀ Mp, RcM M Mp c (c + 22 + 4 * d_z) tk w_z kk (fun j_z => dv mt_z (pX v3 (fS v3 v1_z) j_z) (pY v2 (fS v2 v0_z) j_z) 0) (fun j_z => dv mt_z (pX v3 (fS v3 v1_z) j_z) (pY v2 (fS v2 v0_z) j_z) 1) → qq (some (a_i 0)) Mp) → Call G J_Ma_addRect [a_r c, a_r (c + 22 + 4 * d_z)] (uI M (c + 22 + 4 * d_z) 5 (tk + 1)) qq := fun qq q6_z q0 => by
    rw [hBAD] at q6_z q0
    refine X_addRect (v3 := v3) (v2 := v2) (v1_z := v1_z) (v0_z := v0_z) (tp := tp) (e_z := e_z) (n_z := nn) (k_z := kk) (mt_z := mt_z) (g_z := g_z) hs1 f2_z ew hw w1_z hv3 hv2 hv1' hv0 nv3 nv2 nv1 nv0 e12_z oP2 oP3 hgg hmt' hm_z (by rw [rI_ne (by omega)]; exact hee) (by omega) (by omega) (by rw [rI_ne (by omega)]; exact hkk) (by omega) (by omega) (by rw [rI_ne (by omega)]; show gI M (c + 8) e_z = _; omega) n24_z.1 (by omega) n24_z.2 (by omega) q6_z (fun q_z M' hE hR => q0 q_z _ (RcM.of hE (by omega) hkk (fun j_z j0 j1 => ?_) (fun j_z j0 j1 => ?_)))
    · have y_z := hR j_z 0 j0 j1 (by decide) (by decide)
      rw [Int.add_zero] at y_z
      exact y_z
    · exact hR j_z 1 j0 j1 (by decide) (by decide)
  have wrg : ∀ T', Rel G M T' c s m E_z → ∀ qq : Option AV → Mem → Prop, (∀ T1, Sy T' T1 m → (BAD → qq (some (a_i 6)) T1) ∧ (¬ BAD → (∀ k_z, 0 ≤ k_z → k_z < 4 → gI T1 (m + 27) k_z = dv mt_z (pX v3 (fS v3 v1_z) k_z) (pY v2 (fS v2 v0_z) k_z) 0 ∧ gI T1 (m + 28) k_z = dv mt_z (pX v3 (fS v3 v1_z) k_z) (pY v2 (fS v2 v0_z) k_z) 1) → qq (some (a_i 0)) T1)) → Call G J_M_wrong [a_r m, a_i 6] T' qq := fun T' h' qq hqq => by
    obtain ⟨m1_z, m2_z, m3_z, m4_z, m5_z, m6_z⟩ := num_z T' h'
    obtain ⟨-, -, -, -, -, -, -, q11_z, q12_z, -⟩ := h'
    have gv : GV (uI T' m 16 0) m mt_z := by
      have y_z := q11_z.2.2.2.1
      rw [htp, hgg] at y_z
      intro i_z i0_z i1_z
      rw [rI_ne (by omega), ← hmt]
      exact y_z.1 i_z i0_z i1_z
    have p25_z : gI T' m 25 = nn := by
      have y_z := q12_z.2.2.2.1.2
      rw [hee, hkk] at y_z
      omega
    have hm0 : ShM (uI T' m 16 0) m := m1_z
    have ops : ∀ i_z, 0 ≤ i_z → i_z < 4 → gI (uI T' m 16 0) (m + 20) (16 * d_z + w_z - 1 - i_z) = fu (if i_z = 0 then v0_z else if i_z = 1 then v1_z else if i_z = 2 then v2 else v3) ∧ gI (uI T' m 16 0) (m + 21) (16 * d_z + w_z - 1 - i_z) = fd (if i_z = 0 then v0_z else if i_z = 1 then v1_z else if i_z = 2 then v2 else v3) := fun i_z i0_z i1_z => by
      rw [rI_ne (by omega), rI_ne (by omega)]
      have o := m5_z i_z i0_z (by omega)
      have e_z : gL M (c + 22 + 4 * d_z + 1) (w_z - 1 - i_z) = (if i_z = 0 then v0_z else if i_z = 1 then v1_z else if i_z = 2 then v2 else v3) := by
        by_cases c0_z : i_z = 0
        · subst c0_z
          rw [if_pos rfl, Int.sub_zero]
          exact hv0
        · rw [if_neg c0_z]
          by_cases c1_z : i_z = 1
          · subst c1_z
            rw [if_pos rfl, show w_z - 1 - 1 = w_z - 2 from by omega]
            exact hv1'
          · rw [if_neg c1_z]
            by_cases c2_z : i_z = 2
            · subst c2_z
              rw [if_pos rfl, show w_z - 1 - 2 = w_z - 3 from by omega]
              exact hv2
            · rw [if_neg c2_z, show w_z - 1 - i_z = w_z - 4 from by omega]
              exact hv3
      rw [e_z] at o
      exact o
    refine X_wrongN m1_z (by omega) (by omega) (by omega) m4_z m6_z ?_
    refine X_tooR (w_z := w_z) (v3 := v3) (v2 := v2) (v1_z := v1_z) (v0_z := v0_z) (n_z := nn) (mt_z := mt_z) hm0 (by rw [rI_nk (by decide)]; exact m2_z) (by rw [rI_ne (by omega)]; exact m3_z) g1 hw w1_z rI_at gv nv3 nv2 nv1 nv0 (by rw [rI_nk (by decide)]; exact p25_z) n24_z.1 n24_z.2 ops (fun T1 hy hD => ?_)
    have hy' : Sy T' T1 m := (sy_fl0 T' m).trans hy
    obtain ⟨w6_z, w0_z⟩ := hqq T1 hy'
    rw [hBAD] at w6_z w0_z
    have hs1 := hy'.sh m1_z
    have fl_z : gI T1 m 16 = 0 ∨ gI T1 m 16 = 1 := by
      rcases hD with q_z | q_z
      · exact Or.inl q_z.1
      · exact Or.inr q_z.1
    refine ⟨fun z_z => ⟨1, rfl, hs1, fl_z, fun _ => w6_z (Or.inl z_z), fun q_z => by omega⟩, fun z_z => ⟨0, rfl, hs1, fl_z, fun q_z => w6_z ?_, fun _ q_z => ?_⟩⟩
    · rcases hD with ⟨h1, h2⟩ | ⟨h1, h2⟩
      · omega
      · exact Or.inr h2
    · rcases hD with ⟨h1, h3, h4⟩ | ⟨h1, h2⟩
      · exact w0_z (fun y_z => y_z.elim (fun a_z => z_z a_z) (fun a_z => a_z h3)) h4
      · omega
  by_cases bad_z : BAD
  · refine op_err h0 hd_z hx htk hp hn hlt (by decide) (by decide) hop i0_z i1_z (e_z := 6) (by decide) hEr (fun qq hqq => ?_) (fun T' h' qq hqq => wrg T' h' qq (fun T1 hy => ⟨fun _ => hqq T1 hy, fun q_z => absurd bad_z q_z⟩))
    refine perf_go (k_z := 6) hs1 ho1 r5_z hK4 f2_z (by decide) (by rw [e13_z, es6]; exact hb_z) ew w0_z w1_z hv1 (by rw [nd]; exact hw) (fun q_z => hg) ?_
    have sm_z := ho1.1
    have s17 : gI (uI M (c + 22 + 4 * d_z) 5 (tk + 1)) (G.2 1) 6 = 6 := sm_z.2.2 6 (by decide)
    have ad := addP_z (fun r_z M2_z => At G 86 181 [a_r c, a_r (G.2 (3 + 6)), a_r (c + 22 + 4 * d_z), a_i tk] r_z.toList M2_z qq) (fun _ M2_z hE => by
      have hh := hqq M2_z hE
      simp (disch := omega) only [B_86_181, inI, inL, isT, kInt, kByt, true_and, and_true, an_t, im_t, im_f, or_true, true_or, true_imp_iff, false_imp_iff, not_true_eq_false, not_false_eq_true, gK_uI, gK_uL, gK_uR, gK_uCI, gK_uCL, gN_uI, gN_uL, gN_uR, gN_uCI, gN_uCL, gR_uI, gR_uL, gR_uCI, gR_uCL, gI_uL, gI_uR, gI_uCL, gL_uI, gL_uR, gL_uCI, gz_uI, gz_uL, gz_uR, gz_uCI, gz_uCL, gs_uI, gs_uL, gs_uR, gs_uCI, gs_uCL, rI_at, rL_at, rR_at, rI_ne, rL_ne, rR_ne, rI_nk, rL_nk, rR_nk, rI_eq, rL_eq, rR_eq, Option.toList_some, Option.toList_none, List.cons_append, List.nil_append, List.append_nil, zc_eq, zc_lt, zc_le, zc_ge, zc_gt]
      exact hh) (fun q_z => absurd bad_z q_z)
    rw [B_86_33]
    simp (disch := omega) only [sm_z.1, sm_z.2.1, s17, Int.cast_ofNat_Int, B_86_176, hs1.1.u, inI, inL, isT, kInt, kByt, true_and, and_true, an_t, im_t, im_f, or_true, true_or, true_imp_iff, false_imp_iff, not_true_eq_false, not_false_eq_true, gK_uI, gK_uL, gK_uR, gK_uCI, gK_uCL, gN_uI, gN_uL, gN_uR, gN_uCI, gN_uCL, gR_uI, gR_uL, gR_uCI, gR_uCL, gI_uL, gI_uR, gI_uCL, gL_uI, gL_uR, gL_uCI, gz_uI, gz_uL, gz_uR, gz_uCI, gz_uCL, gs_uI, gs_uL, gs_uR, gs_uCI, gs_uCL, rI_at, rL_at, rR_at, rI_ne, rL_ne, rR_ne, rI_nk, rL_nk, rR_nk, rI_eq, rL_eq, rR_eq, Option.toList_some, Option.toList_none, List.cons_append, List.nil_append, List.append_nil, zc_eq, zc_lt, zc_le, zc_ge, zc_gt]
    all_goals exact ad
  · have good_z : ¬ (24 < nn + 4 ∨ ¬ rGood mt_z v3 v2 (fS v3 v1_z) (fS v2 v0_z)) := by
      rw [← hBAD]
      exact bad_z
    have rg : rGood mt_z v3 v2 (fS v3 v1_z) (fS v2 v0_z) := Classical.byContradiction (fun q_z => good_z (Or.inr q_z))
    have n20 : nn + 4 ≤ 24 := by
      have : ¬ 24 < nn + 4 := fun q_z => good_z (Or.inl q_z)
      omega
    refine op_run (w_z := w_z - 4) (P_z := fun Mp => RcM M Mp c (c + 22 + 4 * d_z) tk w_z kk (fun j_z => dv mt_z (pX v3 (fS v3 v1_z) j_z) (pY v2 (fS v2 v0_z) j_z) 0) (fun j_z => dv mt_z (pX v3 (fS v3 v1_z) j_z) (pY v2 (fS v2 v0_z) j_z) 1)) (PT_z := fun T' T1 => ∀ k_z, 0 ≤ k_z → k_z < 4 → gI T1 (m + 27) k_z = dv mt_z (pX v3 (fS v3 v1_z) k_z) (pY v2 (fS v2 v0_z) k_z) 0 ∧ gI T1 (m + 28) k_z = dv mt_z (pX v3 (fS v3 v1_z) k_z) (pY v2 (fS v2 v0_z) k_z) 1) h0 hd_z hx htk hp hn hlt (by decide) (by decide) hop i0_z i1_z hb_z hN_z (by omega) (by omega) (fun qq hqq => ?_) (fun Mp hMp => hMp.le g1 r1_z) (fun T' h' qq hqq => wrg T' h' qq (fun T1 hy => ⟨fun q_z => absurd q_z bad_z, fun _ h5 => hqq T1 hy h5⟩)) (fun Mp hMp T' h' T1 hy hPT T3 t3_z st_z hst hleg hpa qq hqq => ?_)
    · refine perf_go (k_z := 6) hs1 ho1 r5_z hK4 f2_z (by decide) (by rw [e13_z, es6]; exact hb_z) ew w0_z w1_z hv1 (by rw [nd]; exact hw) (fun q_z => hg) ?_
      have sm_z := ho1.1
      have s17 : gI (uI M (c + 22 + 4 * d_z) 5 (tk + 1)) (G.2 1) 6 = 6 := sm_z.2.2 6 (by decide)
      have ad := addP_z (fun r_z M2_z => At G 86 181 [a_r c, a_r (G.2 (3 + 6)), a_r (c + 22 + 4 * d_z), a_i tk] r_z.toList M2_z qq) (fun q_z => absurd q_z bad_z) (fun _ Mp hMp => by
        have hh := hqq Mp hMp
        simp (disch := omega) only [B_86_181, inI, inL, isT, kInt, kByt, true_and, and_true, an_t, im_t, im_f, or_true, true_or, true_imp_iff, false_imp_iff, not_true_eq_false, not_false_eq_true, gK_uI, gK_uL, gK_uR, gK_uCI, gK_uCL, gN_uI, gN_uL, gN_uR, gN_uCI, gN_uCL, gR_uI, gR_uL, gR_uCI, gR_uCL, gI_uL, gI_uR, gI_uCL, gL_uI, gL_uR, gL_uCI, gz_uI, gz_uL, gz_uR, gz_uCI, gz_uCL, gs_uI, gs_uL, gs_uR, gs_uCI, gs_uCL, rI_at, rL_at, rR_at, rI_ne, rL_ne, rR_ne, rI_nk, rL_nk, rR_nk, rI_eq, rL_eq, rR_eq, Option.toList_some, Option.toList_none, List.cons_append, List.nil_append, List.append_nil, zc_eq, zc_lt, zc_le, zc_ge, zc_gt]
        exact hh)
      rw [B_86_33]
      simp (disch := omega) only [sm_z.1, sm_z.2.1, s17, Int.cast_ofNat_Int, B_86_176, hs1.1.u, inI, inL, isT, kInt, kByt, true_and, and_true, an_t, im_t, im_f, or_true, true_or, true_imp_iff, false_imp_iff, not_true_eq_false, not_false_eq_true, gK_uI, gK_uL, gK_uR, gK_uCI, gK_uCL, gN_uI, gN_uL, gN_uR, gN_uCI, gN_uCL, gR_uI, gR_uL, gR_uCI, gR_uCL, gI_uL, gI_uR, gI_uCL, gL_uI, gL_uR, gL_uCI, gz_uI, gz_uL, gz_uR, gz_uCI, gz_uCL, gs_uI, gs_uL, gs_uR, gs_uCI, gs_uCL, rI_at, rL_at, rR_at, rI_ne, rL_ne, rR_ne, rI_nk, rL_nk, rR_nk, rI_eq, rL_eq, rR_eq, Option.toList_some, Option.toList_none, List.cons_append, List.nil_append, List.append_nil, zc_eq, zc_lt, zc_le, zc_ge, zc_gt]
      all_goals exact ad
    · obtain ⟨m1_z, m2_z, m3_z, -, -, -⟩ := num_z T' h'
      obtain ⟨-, -, -, -, -, q9_z, -, q11_z, q12_z, q13_z, -⟩ := h'
      exact fin_rect (nn := nn) hMp hee hkk hnn_z ⟨n24_z.1, n20⟩ (fun j_z j0 j1 => (rg.b j0 j1).1) (fun j_z j0 j1 => (rg.b j0 j1).2) (by omega) rfl t3_z hPT m2_z m3_z g1 hw w1_z hpa q11_z q12_z q13_z hqq
end QD
