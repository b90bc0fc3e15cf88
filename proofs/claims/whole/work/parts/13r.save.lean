/-! THE PURE PART, part 13: save and restore. Own work (partly written by a program of its own). -/
theorem GrR.copy {M T M' T' : Mem} {c m r_z r' : Nat} {g_z g' : Int → Int} (h_z : GrR M T c m r_z g_z) (po : Pool M T M' T' c m) (e1_z : ∀ i_z : Int, 0 ≤ i_z → i_z < 6 → gL M' (r' + 1) i_z = gL M (r_z + 1) i_z) (e2_z : gI M' r' 2 = gI M r_z 2) (e3_z : gI M' r' 3 = gI M r_z 3) (e4_z : ∀ i_z : Int, 0 ≤ i_z → i_z < 6 → gI M' (r' + 2) i_z = gI M (r_z + 2) i_z) (eg : ∀ k_z, 0 ≤ k_z → k_z < 20 → g' k_z = g_z k_z) : GrR M' T' c m r' g' := by
  obtain ⟨h1, h2, h3, h4, h5, h6, h7⟩ := h_z
  unfold GrR
  rw [e2_z, e3_z, eg 12 (by decide) (by decide), eg 13 (by decide) (by decide)]
  refine ⟨fun i_z i0_z i1_z => ?_, h2, h3, h4, h5, h6, fun i_z i0_z i1_z => ?_⟩
  · rw [eg i_z i0_z (by omega), eg (6 + i_z) (by omega) (by omega), e1_z i_z i0_z i1_z]
    exact h1 i_z i0_z i1_z
  · rw [eg (14 + i_z) (by omega) (by omega), e4_z i_z i0_z (by omega)]
    exact ClR.fr (h7 i_z i0_z i1_z) po
section HB
variable {G : Env0} {Q : Option AV → Mem → Prop} {M T : Mem} {c s m : Nat}
/-- the height of the graphics states -/
theorem Rel.topb {E_z : Int} {d_z : Nat} (h_z : Rel G M T c s m E_z) (hd_z : gI M c 11 = (d_z : Int)) : gI M c 12 ≤ 7 * d_z + nsv (sc M T m (c + 22 + 4 * d_z) d_z).1 ∧ (nsv (sc M T m (c + 22 + 4 * d_z) d_z).1 : Int) ≤ gI M c 12 := by
  obtain ⟨-, -, -, -, r8, -, ⟨⟨y1, y2, y3⟩, y4, y5, B_z, C_z, y6, y7, y8, y9, -⟩, -⟩ := h_z
  have hB_z : ∀ l : Nat, (l : Int) ≤ gI M c 11 → 0 ≤ B_z l ∧ B_z l ≤ 7 * l := by
    intro l
    induction l with
    | zero =>
      intro _
      rw [y6]
      omega
    | succ l ih_z =>
      intro hl
      have a_z := ih_z (by omega)
      have b_z := (y8 l (by omega)).1
      obtain ⟨f1_z, f2_z, f3_z, -⟩ := y4 l (by omega)
      have pg := EdR.prog r8 f1_z.1 (by omega) f2_z.2
      have ns : nsv (sc M T m (c + 22 + 4 * l) l).1 ≤ 6 := by
        unfold sc
        exact (hst pg.2.2.2.2.1.1 _ (by omega)).2.1
      omega
  have a_z := hB_z d_z (by omega)
  rw [hd_z] at y9
  rw [Int.toNat_natCast] at y9
  omega
theorem X_doesV0 {d_z : Nat} {w_z : Int} (hs : ShM T m) (hl : gI T m 36 = (d_z : Int)) (hw : gI T (m + 19) d_z = w_z) (l1 : d_z < 5) (w0_z : 0 ≤ w_z) (w1_z : w_z ≤ 16) (h_z : Call G J_M_keeps [a_r m] (uI T (m + 19) d_z (w_z - 0)) (fun r_z M2_z => At G 228 168 [a_r m, a_i 0, a_i 0, a_i 0, a_i 0, a_u] r_z.toList M2_z Q)) : Call G J_M_does [a_r m, a_i 0] T Q := by
  have n17 := fun qq => X_needed (G := G) (T := T) (Q := qq) (k_z := 0) (by omega) (by omega)
  rw [show need 0 = 0 from by decide] at n17
  simp (disch := omega) only [E_M_does, B_228_0, n17, B_228_4, B_228_23, hs.u, B_228_24, B_228_54, B_228_55, Y_inF (x_z := 0) (y_z := 16) (w_z := 18) (by omega), B_228_65, B_228_74, B_228_164, hl, hw, inI, inL, isT, kInt, kByt, true_and, and_true, an_t, im_t, im_f, or_true, true_or, true_imp_iff, false_imp_iff, not_true_eq_false, not_false_eq_true, gK_uI, gK_uL, gK_uR, gK_uCI, gK_uCL, gN_uI, gN_uL, gN_uR, gN_uCI, gN_uCL, gR_uI, gR_uL, gR_uCI, gR_uCL, gI_uL, gI_uR, gI_uCL, gL_uI, gL_uR, gL_uCI, gz_uI, gz_uL, gz_uR, gz_uCI, gz_uCL, gs_uI, gs_uL, gs_uR, gs_uCI, gs_uCL, rI_at, rL_at, rR_at, rI_ne, rL_ne, rR_ne, rI_nk, rL_nk, rR_nk, rI_eq, rL_eq, rR_eq, Option.toList_some, Option.toList_none, List.cons_append, List.nil_append, List.append_nil, zc_eq, zc_lt, zc_le, zc_ge, zc_gt]
  all_goals exact h_z
theorem X_doesV1 {d_z : Nat} {w_z : Int} (hs : ShM T m) (hl : gI T m 36 = (d_z : Int)) (hw : gI T (m + 19) d_z = w_z) (l1 : d_z < 5) (w0_z : 0 ≤ w_z) (w1_z : w_z ≤ 16) (h_z : Call G J_M_takesBack [a_r m] (uI T (m + 19) d_z (w_z - 0)) (fun r_z M2_z => At G 228 175 [a_r m, a_i 1, a_i 0, a_i 0, a_i 0, a_u] r_z.toList M2_z Q)) : Call G J_M_does [a_r m, a_i 1] T Q := by
  have n17 := fun qq => X_needed (G := G) (T := T) (Q := qq) (k_z := 1) (by omega) (by omega)
  rw [show need 1 = 0 from by decide] at n17
  simp (disch := omega) only [E_M_does, B_228_0, n17, B_228_4, B_228_23, hs.u, B_228_24, B_228_54, B_228_55, Y_inF (x_z := 1) (y_z := 16) (w_z := 18) (by omega), B_228_65, B_228_74, B_228_171, hl, hw, inI, inL, isT, kInt, kByt, true_and, and_true, an_t, im_t, im_f, or_true, true_or, true_imp_iff, false_imp_iff, not_true_eq_false, not_false_eq_true, gK_uI, gK_uL, gK_uR, gK_uCI, gK_uCL, gN_uI, gN_uL, gN_uR, gN_uCI, gN_uCL, gR_uI, gR_uL, gR_uCI, gR_uCL, gI_uL, gI_uR, gI_uCL, gL_uI, gL_uR, gL_uCI, gz_uI, gz_uL, gz_uR, gz_uCI, gz_uCL, gs_uI, gs_uL, gs_uR, gs_uCI, gs_uCL, rI_at, rL_at, rR_at, rI_ne, rL_ne, rR_ne, rI_nk, rL_nk, rR_nk, rI_eq, rL_eq, rR_eq, Option.toList_some, Option.toList_none, List.cons_append, List.nil_append, List.append_nil, zc_eq, zc_lt, zc_le, zc_ge, zc_gt]
  all_goals exact h_z
theorem op_save {E_z i_z x_z n_z tk : Int} {d_z p_z : Nat} (h_z : Rel G M T c s m E_z) (hd_z : gI M c 11 = (d_z : Int)) (hx : gI M (c + 22 + 4 * d_z) 4 = x_z - 1) (htk : gI M (c + 22 + 4 * d_z) 5 = tk) (hp : gR M (c + 22 + 4 * d_z) 3 = p_z) (hn : gI M p_z 3 = n_z) (hlt : tk < n_z) (hop : gR M (p_z + 1) tk = G.2 (3 + 0)) (i0_z : 0 ≤ i_z) (i1_z : i_z + 1 < 1000000) (hN_z : Nxt G c s m M E_z i_z Q) (hEr : Err G c s m M E_z Q) : HC G c s i_z M Q := by
  refine op_pre (k_z := 0) h_z hd_z hx htk hp hn hlt (by decide) (by decide) hop i0_z i1_z hEr (fun hb_z hw _ => ?_)
  have h0 := h_z
  obtain ⟨r1_z, r2, r3, ⟨r4, r5_z, r6, r7⟩, r8, r9, r10, r11, r12, r13, ⟨r14, r15, r16⟩, r17⟩ := h_z
  obtain ⟨g1, g2, g3_z, w0_z, w1_z, g6⟩ := h0.opn hd_z
  have nd : need ((0 : Nat) : Int) = 0 := by decide
  rw [nd] at hw
  have hs1 : ShMa (uI M (c + 22 + 4 * d_z) 5 (tk + 1)) c := r1_z
  have ho1 : OpF G (uI M (c + 22 + 4 * d_z) 5 (tk + 1)) := OpF.out r3 ((OutC.refl c M).uI _ _ (by omega)) r6 r4
  have f2_z : ShFr (uI M (c + 22 + 4 * d_z) 5 (tk + 1)) (c + 22 + 4 * d_z) := (r1_z.2.2.2.1 d_z g1).2
  have e13_z : gI (uI M (c + 22 + 4 * d_z) 5 (tk + 1)) c 13 = gI M c 13 := by rw [rI_ne (by omega)]
  have es6 : gI (uI M (c + 22 + 4 * d_z) 5 (tk + 1)) s 6 = gI M s 6 := by rw [rI_ne (by omega)]
  have ew : gI (uI M (c + 22 + 4 * d_z) 5 (tk + 1)) (c + 22 + 4 * d_z) 6 = gI M (c + 22 + 4 * d_z) 6 := by rw [rI_nk (by decide)]
  have hK4 : gK (uI M (c + 22 + 4 * d_z) 5 (tk + 1)) s = 4 := r8.1.1
  generalize hwd : gI M (c + 22 + 4 * d_z) 6 = w_z at *
  have hv1 : ∀ i_z, 0 ≤ i_z → i_z < w_z → NV (gL (uI M (c + 22 + 4 * d_z) 5 (tk + 1)) (c + 22 + 4 * d_z + 1) i_z) ∨ fd (gL (uI M (c + 22 + 4 * d_z) 5 (tk + 1)) (c + 22 + 4 * d_z + 1) i_z) = 0 := fun i_z i0_z i1_z => by
    rcases (g6 i_z i0_z i1_z).2.2 with q_z | q_z
    · exact Or.inl q_z
    · exact Or.inr q_z.1
  generalize htp : gI M c 12 = tp at *
  have e12_z : gI (uI M (c + 22 + 4 * d_z) 5 (tk + 1)) c 12 = tp := by
    rw [rI_ne (by omega)]
    exact htp
  have tpb : 0 ≤ tp ∧ tp + 1 < 35 := by
    have tb_z := h0.topb hd_z
    obtain ⟨b1, b2, b3, b4⟩ := h0.code hd_z hx htk hp hn hlt (k_z := 0) (by decide) hop
    have := (b3.2.1 rfl).2
    rw [htp] at tb_z
    omega
  have hG := fun qq => X_pushGr (G := G) (Q := qq) (M := uI M (c + 22 + 4 * d_z) 5 (tk + 1)) hs1 (by omega) (by omega)
  rw [e12_z] at hG
  have oP := r11.2.2.2
  rw [htp] at oP
  have gcf : gI (uI M (c + 22 + 4 * d_z) 5 (tk + 1)) (c + 42 + 3 * tp.toNat) = gI M (c + 42 + 3 * tp.toNat) := by rw [rI_ne (by omega)]
  rw [gcf] at hG
  generalize hr' : c + 42 + 3 * (tp + 1).toNat = r' at *
  generalize hr : c + 42 + 3 * tp.toNat = r_z at *
  have rr : r' = r_z + 3 ∧ c + 42 ≤ r_z ∧ r' + 2 < c + 147 := by omega
  refine op_ok (E2 := E_z - 2501) (P_z := fun Mp => Mp = uI (uI (uI (uCI (uCL (uI M (c + 22 + 4 * d_z) 5 (tk + 1)) (r' + 1) 0 (r_z + 1) 0 6) (r' + 2) 0 (r_z + 2) 0 6) r' 2 (gI M r_z 2)) r' 3 (gI M r_z 3)) c 12 (tp + 1)) (PT_z := fun T' T1 => T1 = uI T' m 16 0) h0 hd_z hx htk hp hn hlt (by decide) (by decide) hop i0_z i1_z hb_z hN_z (fun qq hqq => ?_) (fun Mp hMp => ?_) (by omega) (fun T' h' qq hqq => ?_) (fun Mp hMp T' h' T1 hy hPT qq hqq => ?_)
  · have hh := hqq _ rfl
    refine perf_go (k_z := 0) hs1 ho1 r5_z hK4 f2_z (by decide) (by rw [e13_z, es6]; exact hb_z) ew w0_z w1_z hv1 (by rw [nd]; exact hw) (fun q_z => absurd q_z (by decide)) ?_
    have sm_z := ho1.1
    have s17 : gI (uI M (c + 22 + 4 * d_z) 5 (tk + 1)) (G.2 1) 0 = 1 := sm_z.2.2 0 (by decide)
    rw [B_86_33]
    simp (disch := omega) only [sm_z.1, sm_z.2.1, s17, Int.cast_ofNat_Int, B_86_140, hs1.1.u, hG, B_86_144, inI, inL, isT, kInt, kByt, true_and, and_true, an_t, im_t, im_f, or_true, true_or, true_imp_iff, false_imp_iff, not_true_eq_false, not_false_eq_true, gK_uI, gK_uL, gK_uR, gK_uCI, gK_uCL, gN_uI, gN_uL, gN_uR, gN_uCI, gN_uCL, gR_uI, gR_uL, gR_uCI, gR_uCL, gI_uL, gI_uR, gI_uCL, gL_uI, gL_uR, gL_uCI, gz_uI, gz_uL, gz_uR, gz_uCI, gz_uCL, gs_uI, gs_uL, gs_uR, gs_uCI, gs_uCL, rI_at, rL_at, rR_at, rI_ne, rL_ne, rR_ne, rI_nk, rL_nk, rR_nk, rI_eq, rL_eq, rR_eq, Option.toList_some, Option.toList_none, List.cons_append, List.nil_append, List.append_nil, zc_eq, zc_lt, zc_le, zc_ge, zc_gt]
    all_goals exact hh
  · subst hMp
    have o1 : Ex (fun a_z => c ≤ a_z ∧ a_z < c + 147) M (uI (uI (uI (uCI (uCL (uI M (c + 22 + 4 * d_z) 5 (tk + 1)) (r' + 1) 0 (r_z + 1) 0 6) (r' + 2) 0 (r_z + 2) 0 6) r' 2 (gI M r_z 2)) r' 3 (gI M r_z 3)) c 12 (tp + 1)) := ((((((Ex.refl _ M).uI _ _ (by omega)).uCL _ _ _ (by omega)).uCI _ _ _ (by omega)).uI _ _ (by omega)).uI _ _ (by omega)).uI _ _ (by omega)
    refine ⟨r1_z, ?_, ?_, o1.outC (fun r_z hr => hr)⟩
    · simp (disch := omega) only [gK_uI, gK_uL, gK_uR, gK_uCI, gK_uCL, gN_uI, gN_uL, gN_uR, gN_uCI, gN_uCL, gR_uI, gR_uL, gR_uCI, gR_uCL, gI_uL, gI_uR, gI_uCL, gL_uI, gL_uR, gL_uCI, gz_uI, gz_uL, gz_uR, gz_uCI, gz_uCL, gs_uI, gs_uL, gs_uR, gs_uCI, gs_uCL, rI_at, rL_at, rR_at, rI_ne, rL_ne, rR_ne, rI_nk, rL_nk, rR_nk, rI_eq, rL_eq, rR_eq, rCI_ne]
      exact hx
    · simp (disch := omega) only [gK_uI, gK_uL, gK_uR, gK_uCI, gK_uCL, gN_uI, gN_uL, gN_uR, gN_uCI, gN_uCL, gR_uI, gR_uL, gR_uCI, gR_uCL, gI_uL, gI_uR, gI_uCL, gL_uI, gL_uR, gL_uCI, gz_uI, gz_uL, gz_uR, gz_uCI, gz_uCL, gs_uI, gs_uL, gs_uR, gs_uCI, gs_uCL, rI_at, rL_at, rR_at, rI_ne, rL_ne, rR_ne, rI_nk, rL_nk, rR_nk, rI_eq, rL_eq, rR_eq, rCI_ne]
  · obtain ⟨k1_z, k2_z, k3_z, -, -, k6_z⟩ := h'.opn hd_z
    have q2_z := h'.2.1
    rw [hwd] at k3_z
    refine wr_plain (x_z := x_z) (n_z := n_z) (tk := tk) (p_z := p_z) h' hd_z hb_z (by decide) (by decide) (fun q_z hq => X_areOpsN q2_z k2_z k3_z (by omega) (by omega) w0_z w1_z (by decide) (by decide) (by decide) (by rw [nd]; exact hw) (fun z_z hz => ?_)) (fun q_z hq => ?_) (hqq _ (sy_fl0 _ _) rfl)
    · rcases hz with ⟨z1, -⟩ | ⟨z1, i_z, i0_z, i1_z, -⟩
      · rw [z1]
        exact hq
      · rw [nd] at i1_z
        omega
    · simp (disch := omega) only [E_M_isTooMuch, B_215_0, B_215_399, Int.cast_ofNat_Int, inI, inL, isT, kInt, kByt, true_and, and_true, an_t, im_t, im_f, or_true, true_or, true_imp_iff, false_imp_iff, not_true_eq_false, not_false_eq_true, gK_uI, gK_uL, gK_uR, gK_uCI, gK_uCL, gN_uI, gN_uL, gN_uR, gN_uCI, gN_uCL, gR_uI, gR_uL, gR_uCI, gR_uCL, gI_uL, gI_uR, gI_uCL, gL_uI, gL_uR, gL_uCI, gz_uI, gz_uL, gz_uR, gz_uCI, gz_uCL, gs_uI, gs_uL, gs_uR, gs_uCI, gs_uCL, rI_at, rL_at, rR_at, rI_ne, rL_ne, rR_ne, rI_nk, rL_nk, rR_nk, rI_eq, rL_eq, rR_eq, Option.toList_some, Option.toList_none, List.cons_append, List.nil_append, List.append_nil, zc_eq, zc_lt, zc_le, zc_ge, zc_gt]
      all_goals exact hq
  · subst hMp
    obtain ⟨k1_z, k2_z, k3_z, -, -, k6_z⟩ := h'.opn hd_z
    rw [hwd] at k3_z k6_z
    obtain ⟨b1, b2, b3, b4⟩ := h'.code hd_z hx htk hp hn hlt (k_z := 0) (by decide) hop
    obtain ⟨u1_z, u2_z, u3, u4_z, u5, u6, u7, u8, u9, u10, u11, u12, u13, u14, u15, u16, u17⟩ := b1
    have h'0 := h'
    have hsc : sc M T' m (c + 22 + 4 * d_z) d_z = scan (cdm T' m x_z) tk.toNat := by unfold sc; rw [u3, u9]
    have topb := h'.topb hd_z
    rw [hsc] at b3 topb
    obtain ⟨q1_z, q2_z, q3_z, -, q8_z, q9_z, q10_z, q11_z, q12_z, q13_z, ⟨q14_z, q15_z, q16_z⟩, q17_z⟩ := h'
    have kP_z := (q10_z.get hd_z).2.2.2
    rw [hsc] at kP_z
    have hm2 : ShM (trcT T1 m (x_z - 1) tk d_z) m := hy.sh q2_z
    have trow : ∀ a_z, a_z ≠ m → a_z ≠ m + 25 → a_z ≠ m + 26 → a_z ≠ m + 27 → a_z ≠ m + 28 → gI (trcT T1 m (x_z - 1) tk d_z) a_z = gI T' a_z := fun a_z n0_z n1_z n2_z n3_z n4_z => by
      rw [trc_r n0_z n1_z]
      exact hy.row n0_z n2_z n3_z n4_z
    have tfld : ∀ j_z, j_z ≠ 49 → j_z ≠ 16 → j_z ≠ 20 → j_z ≠ 21 → gI (trcT T1 m (x_z - 1) tk d_z) m j_z = gI T' m j_z := fun j_z n0_z n1_z n2_z n3_z => by
      rw [trc_f _ n0_z]
      exact hy.fld ⟨n1_z, n2_z, n3_z⟩
    have e36 := tfld 36 (by decide) (by decide) (by decide) (by decide)
    have e19_z := trow (m + 19) (by omega) (by omega) (by omega) (by omega) (by omega)
    obtain ⟨-, bz, -⟩ := b3
    obtain ⟨bz1, bz2⟩ := bz rfl
    have sn : scan (cdm T' m x_z) (tk.toNat + 1) = ((false, tk.toNat) :: (scan (cdm T' m x_z) tk.toNat).1, false) := by
      show stepF (cdm T' m x_z tk.toNat) tk.toNat (scan (cdm T' m x_z) tk.toNat) = _
      rw [b2]
      unfold stepF
      rw [if_pos (show ((0 : Nat) : Int) = 0 from rfl), bz1]
    rw [bz1] at kP_z
    obtain ⟨p1_z, p2_z, p3_z, p4_z, p5_z⟩ := q11_z
    rw [htp] at p1_z p2_z p3_z p4_z p5_z
    rw [hr] at p4_z
    refine X_doesV0 (w_z := w_z) hm2 (e36.trans k2_z) (by rw [e19_z]; exact k3_z) g1 w0_z w1_z ?_
    have f19 : gI (uI (trcT T1 m (x_z - 1) tk d_z) (m + 19) d_z (w_z - 0)) m 19 = tp := by
      rw [rI_ne (by omega), tfld 19 (by decide) (by decide) (by decide) (by decide)]
      exact p1_z.symm
    have f6_z : gI (uI (trcT T1 m (x_z - 1) tk d_z) (m + 19) d_z (w_z - 0)) (m + 6) = gI T' (m + 6) := by
      rw [rI_ne (by omega), trow _ (by omega) (by omega) (by omega) (by omega) (by omega)]
    have f7_z : gI (uI (trcT T1 m (x_z - 1) tk d_z) (m + 19) d_z (w_z - 0)) (m + 7) = gI T' (m + 7) := by
      rw [rI_ne (by omega), trow _ (by omega) (by omega) (by omega) (by omega) (by omega)]
    have kk := X_keeps (G := G) (Q := fun r_z M2_z => At G 228 168 [a_r m, a_i 0, a_i 0, a_i 0, a_i 0, a_u] r_z.toList M2_z qq) (M := uI (trcT T1 m (x_z - 1) tk d_z) (m + 19) d_z (w_z - 0)) (m := m) hm2 (by rw [f19]; omega) (by rw [f19]; omega)
    rw [f19, f6_z, f7_z] at kk
    refine kk (fun K_z hE hR => ?_)
    simp only [B_228_168, B_228_353, Option.toList_some, Option.toList_none, List.cons_append, List.nil_append, List.append_nil]
    have krow : ∀ a_z, a_z ≠ m + 7 → a_z ≠ m + 19 → gI K_z a_z = gI (trcT T1 m (x_z - 1) tk d_z) a_z := fun a_z n0_z n1_z => by rw [(hE.2.2.2.2.2 a_z n0_z).1, rI_ne n1_z]
    have row4 : ∀ a_z, a_z ≠ m → a_z ≠ m + 25 → a_z ≠ m + 26 → a_z ≠ m + 27 → a_z ≠ m + 28 → a_z ≠ m + 7 → a_z ≠ m + 18 → a_z ≠ m + 19 → gI (uI (uI K_z m 19 (tp + 1)) (m + 18) d_z (tk + 1)) a_z = gI T' a_z := fun a_z n0_z n1_z n2_z n3_z n4_z n5_z n6_z n7 => by rw [rI_ne n6_z, rI_ne n0_z, krow a_z n5_z n7, trow a_z n0_z n1_z n2_z n3_z n4_z]
    have fld4 : ∀ j_z, j_z ≠ 49 → j_z ≠ 16 → j_z ≠ 20 → j_z ≠ 21 → j_z ≠ 19 → gI (uI (uI K_z m 19 (tp + 1)) (m + 18) d_z (tk + 1)) m j_z = gI T' m j_z := fun j_z n0_z n1_z n2_z n3_z n4_z => by rw [rI_ne (by omega), rI_nk n4_z, krow m (by omega) (by omega), tfld j_z n0_z n1_z n2_z n3_z]
    have k18 : gI (uI K_z m 19 (tp + 1)) (m + 18) d_z = tk := by
      rw [rI_ne (by omega), krow _ (by omega) (by omega), trow _ (by omega) (by omega) (by omega) (by omega) (by omega)]
      exact u10
    refine hqq _ d_z tk ((((Ex.refl _ _).uI _ _ (by omega)).trans (hE.mono (fun a_z ha_z => by omega))).uI _ _ (by omega)) ?_ ?_ (by omega) (by omega) k18 (by omega) (by omega) ?_
    · rw [rI_nk (by decide), krow m (by omega) (by omega), tfld 46 (by decide) (by decide) (by decide) (by decide)]
      exact q16_z
    · rw [rI_nk (by decide), krow m (by omega) (by omega), e36]
      exact k2_z
    · -- the relation
      have t18 : gI (uI (uI K_z m 19 (tp + 1)) (m + 18) d_z (tk + 1)) (m + 18) = upf (gI T' (m + 18)) d_z (tk + 1) := by
        rw [rI_row, rI_ne (by omega), krow _ (by omega) (by omega), trow _ (by omega) (by omega) (by omega) (by omega) (by omega)]
      have t19 : gI (uI (uI K_z m 19 (tp + 1)) (m + 18) d_z (tk + 1)) (m + 19) = upf (gI T' (m + 19)) d_z w_z := by
        rw [rI_ne (by omega), rI_ne (by omega), (hE.2.2.2.2.2 (m + 19) (by omega)).1, rI_row, trow _ (by omega) (by omega) (by omega) (by omega) (by omega), Int.sub_zero]
      have t7 : gI (uI (uI K_z m 19 (tp + 1)) (m + 18) d_z (tk + 1)) (m + 7) = rc (gI T' (m + 7)) (20 * tp) (gI T' (m + 6)) 0 20 := by
        rw [rI_ne (by omega), rI_ne (by omega), hR]
      have f194 : gI (uI (uI K_z m 19 (tp + 1)) (m + 18) d_z (tk + 1)) m 19 = tp + 1 := by
        rw [rI_ne (by omega), rI_at]
      have t49 : gI (uI (uI K_z m 19 (tp + 1)) (m + 18) d_z (tk + 1)) m 49 = gI (trcT T1 m (x_z - 1) tk d_z) m 49 := by
        rw [rI_ne (by omega), rI_nk (by decide), krow m (by omega) (by omega)]
      have t25 : gI (uI (uI K_z m 19 (tp + 1)) (m + 18) d_z (tk + 1)) (m + 25) = gI (trcT T1 m (x_z - 1) tk d_z) (m + 25) := by
        rw [rI_ne (by omega), rI_ne (by omega), krow _ (by omega) (by omega)]
      have hmK : ShM K_z m := Ex.sh hE hm2
      have hm4 : ShM (uI (uI K_z m 19 (tp + 1)) (m + 18) d_z (tk + 1)) m := hmK
      generalize uI (uI K_z m 19 (tp + 1)) (m + 18) d_z (tk + 1) = T4 at *
      have cr : ∀ a_z, a_z ≠ c → a_z ≠ c + 17 → a_z ≠ c + 18 → a_z ≠ c + 19 → a_z ≠ r' → a_z ≠ r' + 2 → a_z ≠ c + 22 + 4 * d_z → gI (cntM (uI (uI (uI (uCI (uCL (uI M (c + 22 + 4 * d_z) 5 (tk + 1)) (r' + 1) 0 (r_z + 1) 0 6) (r' + 2) 0 (r_z + 2) 0 6) r' 2 (gI M r_z 2)) r' 3 (gI M r_z 3)) c 12 (tp + 1)) c (x_z - 1) tk d_z) a_z = gI M a_z := fun a_z n0_z n1_z n2_z n3_z n4_z n5_z n6_z => by
        rw [cnt_row n0_z n1_z n2_z n3_z, rI_ne n0_z, rI_ne n4_z, rI_ne n4_z, rCI_ne n5_z, gI_uCL, rI_ne n6_z]
      have crL : ∀ a_z, a_z ≠ r' + 1 → gL (cntM (uI (uI (uI (uCI (uCL (uI M (c + 22 + 4 * d_z) 5 (tk + 1)) (r' + 1) 0 (r_z + 1) 0 6) (r' + 2) 0 (r_z + 2) 0 6) r' 2 (gI M r_z 2)) r' 3 (gI M r_z 3)) c 12 (tp + 1)) c (x_z - 1) tk d_z) a_z = gL M a_z := fun a_z n0_z => by
        show gL (uCL (uI M (c + 22 + 4 * d_z) 5 (tk + 1)) (r' + 1) 0 (r_z + 1) 0 6) a_z = _
        rw [rCL_ne n0_z]
        rfl
      have cf_z : ∀ j_z, j_z ≠ 13 → j_z ≠ 15 → j_z ≠ 12 → gI (cntM (uI (uI (uI (uCI (uCL (uI M (c + 22 + 4 * d_z) 5 (tk + 1)) (r' + 1) 0 (r_z + 1) 0 6) (r' + 2) 0 (r_z + 2) 0 6) r' 2 (gI M r_z 2)) r' 3 (gI M r_z 3)) c 12 (tp + 1)) c (x_z - 1) tk d_z) c j_z = gI M c j_z := fun j_z n0_z n1_z n2_z => by
        rw [cnt_fld n0_z n1_z, rI_nk n2_z, rI_ne (by omega), rI_ne (by omega), rCI_ne (by omega), gI_uCL, rI_ne (by omega)]
      have c12_z : gI (cntM (uI (uI (uI (uCI (uCL (uI M (c + 22 + 4 * d_z) 5 (tk + 1)) (r' + 1) 0 (r_z + 1) 0 6) (r' + 2) 0 (r_z + 2) 0 6) r' 2 (gI M r_z 2)) r' 3 (gI M r_z 3)) c 12 (tp + 1)) c (x_z - 1) tk d_z) c 12 = tp + 1 := by
        rw [cnt_fld (by decide) (by decide), rI_at]
      have c13_z : gI (cntM (uI (uI (uI (uCI (uCL (uI M (c + 22 + 4 * d_z) 5 (tk + 1)) (r' + 1) 0 (r_z + 1) 0 6) (r' + 2) 0 (r_z + 2) 0 6) r' 2 (gI M r_z 2)) r' 3 (gI M r_z 3)) c 12 (tp + 1)) c (x_z - 1) tk d_z) c 13 = gI M c 13 + 1 := by
        rw [cnt_13, rI_nk (by decide), rI_ne (by omega), rI_ne (by omega), rCI_ne (by omega), gI_uCL, rI_ne (by omega)]
      have cfr : ∀ j_z, j_z ≠ 5 → gI (cntM (uI (uI (uI (uCI (uCL (uI M (c + 22 + 4 * d_z) 5 (tk + 1)) (r' + 1) 0 (r_z + 1) 0 6) (r' + 2) 0 (r_z + 2) 0 6) r' 2 (gI M r_z 2)) r' 3 (gI M r_z 3)) c 12 (tp + 1)) c (x_z - 1) tk d_z) (c + 22 + 4 * d_z) j_z = gI M (c + 22 + 4 * d_z) j_z := fun j_z n0_z => by
        rw [cnt_row (by omega) (by omega) (by omega) (by omega), rI_ne (by omega), rI_ne (by omega), rI_ne (by omega), rCI_ne (by omega), gI_uCL, rI_nk n0_z]
      have cf5 : gI (cntM (uI (uI (uI (uCI (uCL (uI M (c + 22 + 4 * d_z) 5 (tk + 1)) (r' + 1) 0 (r_z + 1) 0 6) (r' + 2) 0 (r_z + 2) 0 6) r' 2 (gI M r_z 2)) r' 3 (gI M r_z 3)) c 12 (tp + 1)) c (x_z - 1) tk d_z) (c + 22 + 4 * d_z) 5 = tk + 1 := by
        rw [cnt_row (by omega) (by omega) (by omega) (by omega), rI_ne (by omega), rI_ne (by omega), rI_ne (by omega), rCI_ne (by omega), gI_uCL, rI_at]
      have g2' : gI (cntM (uI (uI (uI (uCI (uCL (uI M (c + 22 + 4 * d_z) 5 (tk + 1)) (r' + 1) 0 (r_z + 1) 0 6) (r' + 2) 0 (r_z + 2) 0 6) r' 2 (gI M r_z 2)) r' 3 (gI M r_z 3)) c 12 (tp + 1)) c (x_z - 1) tk d_z) r' 2 = gI M r_z 2 := by
        rw [cnt_row (by omega) (by omega) (by omega) (by omega), rI_ne (by omega), rI_nk (by decide), rI_at]
      have g3' : gI (cntM (uI (uI (uI (uCI (uCL (uI M (c + 22 + 4 * d_z) 5 (tk + 1)) (r' + 1) 0 (r_z + 1) 0 6) (r' + 2) 0 (r_z + 2) 0 6) r' 2 (gI M r_z 2)) r' 3 (gI M r_z 3)) c 12 (tp + 1)) c (x_z - 1) tk d_z) r' 3 = gI M r_z 3 := by
        rw [cnt_row (by omega) (by omega) (by omega) (by omega), rI_ne (by omega), rI_at]
      have gm' : ∀ i_z : Int, 0 ≤ i_z → i_z < 6 → gL (cntM (uI (uI (uI (uCI (uCL (uI M (c + 22 + 4 * d_z) 5 (tk + 1)) (r' + 1) 0 (r_z + 1) 0 6) (r' + 2) 0 (r_z + 2) 0 6) r' 2 (gI M r_z 2)) r' 3 (gI M r_z 3)) c 12 (tp + 1)) c (x_z - 1) tk d_z) (r' + 1) i_z = gL M (r_z + 1) i_z := fun i_z i0_z i1_z => by
        show gL (uCL (uI M (c + 22 + 4 * d_z) 5 (tk + 1)) (r' + 1) 0 (r_z + 1) 0 6) (r' + 1) i_z = _
        rw [rCL_in ⟨rfl, by omega, by omega⟩, show (0 : Int) + (i_z - 0) = i_z from by omega]
        rfl
      have gc' : ∀ i_z : Int, 0 ≤ i_z → i_z < 6 → gI (cntM (uI (uI (uI (uCI (uCL (uI M (c + 22 + 4 * d_z) 5 (tk + 1)) (r' + 1) 0 (r_z + 1) 0 6) (r' + 2) 0 (r_z + 2) 0 6) r' 2 (gI M r_z 2)) r' 3 (gI M r_z 3)) c 12 (tp + 1)) c (x_z - 1) tk d_z) (r' + 2) i_z = gI M (r_z + 2) i_z := fun i_z i0_z i1_z => by
        rw [cnt_row (by omega) (by omega) (by omega) (by omega), rI_ne (by omega), rI_ne (by omega), rI_ne (by omega), rCI_in ⟨rfl, by omega, by omega⟩, show (0 : Int) + (i_z - 0) = i_z from by omega, gI_uCL, rI_ne (by omega)]
      have tr' : TrR (cntM (uI (uI (uI (uCI (uCL (uI M (c + 22 + 4 * d_z) 5 (tk + 1)) (r' + 1) 0 (r_z + 1) 0 6) (r' + 2) 0 (r_z + 2) 0 6) r' 2 (gI M r_z 2)) r' 3 (gI M r_z 3)) c 12 (tp + 1)) c (x_z - 1) tk d_z) T4 c m := TrR.step q9_z (by have := q8_z.2.2.2.2.2.2; omega) (by rw [rI_nk (by decide), rI_ne (by omega), rI_ne (by omega), rCI_ne (by omega), gI_uCL, rI_ne (by omega)]) (by rw [rI_ne (by omega), rI_ne (by omega), rI_ne (by omega), rCI_ne (by omega), gI_uCL, rI_ne (by omega)]) (by rw [rI_ne (by omega), rI_ne (by omega), rI_ne (by omega), rCI_ne (by omega), gI_uCL, rI_ne (by omega)]) (by rw [rI_ne (by omega), rI_ne (by omega), rI_ne (by omega), rCI_ne (by omega), gI_uCL, rI_ne (by omega)]) hy t49 t25
      have oo : OutC c M (cntM (uI (uI (uI (uCI (uCL (uI M (c + 22 + 4 * d_z) 5 (tk + 1)) (r' + 1) 0 (r_z + 1) 0 6) (r' + 2) 0 (r_z + 2) 0 6) r' 2 (gI M r_z 2)) r' 3 (gI M r_z 3)) c 12 (tp + 1)) c (x_z - 1) tk d_z) := Ex.outC (P_z := fun a_z => c ≤ a_z ∧ a_z < c + 147) ((((((((((((Ex.refl _ M).uI _ _ (by omega)).uCL _ _ _ (by omega)).uCI _ _ _ (by omega)).uI _ _ (by omega)).uI _ _ (by omega)).uI _ _ (by omega)).uI _ _ (by omega)).uI _ _ (by omega)).uI _ _ (by omega)).uI _ _ (by omega)).uI _ _ (by omega)) (fun r_z hr => hr)
      have c15_z : gI (cntM (uI (uI (uI (uCI (uCL (uI M (c + 22 + 4 * d_z) 5 (tk + 1)) (r' + 1) 0 (r_z + 1) 0 6) (r' + 2) 0 (r_z + 2) 0 6) r' 2 (gI M r_z 2)) r' 3 (gI M r_z 3)) c 12 (tp + 1)) c (x_z - 1) tk d_z) c 15 = 0 := cnt_15
      have hs2 : ShMa (cntM (uI (uI (uI (uCI (uCL (uI M (c + 22 + 4 * d_z) 5 (tk + 1)) (r' + 1) 0 (r_z + 1) 0 6) (r' + 2) 0 (r_z + 2) 0 6) r' 2 (gI M r_z 2)) r' 3 (gI M r_z 3)) c 12 (tp + 1)) c (x_z - 1) tk d_z) c := r1_z
      have eRR : gR (cntM (uI (uI (uI (uCI (uCL (uI M (c + 22 + 4 * d_z) 5 (tk + 1)) (r' + 1) 0 (r_z + 1) 0 6) (r' + 2) 0 (r_z + 2) 0 6) r' 2 (gI M r_z 2)) r' 3 (gI M r_z 3)) c 12 (tp + 1)) c (x_z - 1) tk d_z) = gR M := rfl
      generalize cntM (uI (uI (uI (uCI (uCL (uI M (c + 22 + 4 * d_z) 5 (tk + 1)) (r' + 1) 0 (r_z + 1) 0 6) (r' + 2) 0 (r_z + 2) 0 6) r' 2 (gI M r_z 2)) r' 3 (gI M r_z 3)) c 12 (tp + 1)) c (x_z - 1) tk d_z = M2_z at *
      have po : Pool M T' M2_z T4 c m := Pool.same (by rw [cr _ (by omega) (by omega) (by omega) (by omega) (by omega) (by omega) (by omega)]) (by rw [cr _ (by omega) (by omega) (by omega) (by omega) (by omega) (by omega) (by omega)]) (cr _ (by omega) (by omega) (by omega) (by omega) (by omega) (by omega) (by omega)) (cr _ (by omega) (by omega) (by omega) (by omega) (by omega) (by omega) (by omega)) (cr _ (by omega) (by omega) (by omega) (by omega) (by omega) (by omega) (by omega)) (cr _ (by omega) (by omega) (by omega) (by omega) (by omega) (by omega) (by omega)) (cr _ (by omega) (by omega) (by omega) (by omega) (by omega) (by omega) (by omega)) (fld4 _ (by decide) (by decide) (by decide) (by decide) (by decide)) (row4 _ (by omega) (by omega) (by omega) (by omega) (by omega) (by omega) (by omega) (by omega)) (row4 _ (by omega) (by omega) (by omega) (by omega) (by omega) (by omega) (by omega) (by omega)) (row4 _ (by omega) (by omega) (by omega) (by omega) (by omega) (by omega) (by omega) (by omega)) (row4 _ (by omega) (by omega) (by omega) (by omega) (by omega) (by omega) (by omega) (by omega)) (row4 _ (by omega) (by omega) (by omega) (by omega) (by omega) (by omega) (by omega) (by omega))
      refine Rel.mk h'0 hs2 hm4 oo (by rw [eRR]) (row4 _ (by omega) (by omega) (by omega) (by omega) (by omega) (by omega) (by omega) (by omega)) tr' ?_ ?_ ?_ ?_ ?_ c15_z ?_ (by omega)
      · refine FrR.adv (x_z := x_z) (n_z := n_z) (tk := tk) (w_z := w_z) q10_z hd_z (cf_z _ (by decide) (by decide) (by decide)) (fld4 _ (by decide) (by decide) (by decide) (by decide) (by decide)) eRR (fun a_z h1 h2 => ⟨cr a_z (by omega) (by omega) (by omega) (by omega) (by omega) (by omega) (by omega), crL a_z (by omega)⟩) (cfr _ (by decide)) htk cf5 (by rw [cfr _ (by decide)]; exact hwd) w0_z (by omega) (cfr _ (by decide)) (crL _ (by omega)) (cr _ (by omega) (by omega) (by omega) (by omega) (by omega) (by omega) (by omega)) (cr _ (by omega) (by omega) (by omega) (by omega) (by omega) (by omega) (by omega)) (row4 _ (by omega) (by omega) (by omega) (by omega) (by omega) (by omega) (by omega) (by omega)) (row4 _ (by omega) (by omega) (by omega) (by omega) (by omega) (by omega) (by omega) (by omega)) t18 t19 (row4 _ (by omega) (by omega) (by omega) (by omega) (by omega) (by omega) (by omega) (by omega)) (row4 _ (by omega) (by omega) (by omega) (by omega) (by omega) (by omega) (by omega) (by omega)) (row4 _ (by omega) (by omega) (by omega) (by omega) (by omega) (by omega) (by omega) (by omega)) (row4 _ (by omega) (by omega) (by omega) (by omega) (by omega) (by omega) (by omega) (by omega)) (row4 _ (by omega) (by omega) (by omega) (by omega) (by omega) (by omega) (by omega) (by omega)) u3 u8 hlt (fun v_z f_z q_z => by rw [sn]; exact q_z) ?_ ?_ (by omega)
        · rw [sn, c12_z, htp]
          show tp + 1 = tp - ((nsv (scan (cdm T' m x_z) tk.toNat).1 : Nat) : Int) + ((nsv (scan (cdm T' m x_z) tk.toNat).1 + 1 : Nat) : Int)
          omega
        · rw [sn, fld4 25 (by decide) (by decide) (by decide) (by decide) (by decide)]
          exact kP_z
      · refine ⟨by rw [c12_z, f194], by omega, by omega, ?_, fun t_z ht => ?_⟩
        · rw [c12_z, hr', row4 (m + 6) (by omega) (by omega) (by omega) (by omega) (by omega) (by omega) (by omega) (by omega)]
          exact GrR.copy p4_z po gm' g2' g3' gc' (fun k_z _ _ => rfl)
        · rw [c12_z] at ht
          rw [t7]
          by_cases ct : (t_z : Int) = tp
          · have er : c + 42 + 3 * t_z = r_z := by omega
            rw [er, ct]
            exact GrR.fr p4_z po (cr _ (by omega) (by omega) (by omega) (by omega) (by omega) (by omega) (by omega)) (crL _ (by omega)) (cr _ (by omega) (by omega) (by omega) (by omega) (by omega) (by omega) (by omega)) (fun k_z k0_z k1_z => by rw [rc_in _ _ (by omega), show (0 : Int) + (20 * tp + k_z - 20 * tp) = k_z from by omega])
          · exact GrR.fr (p5_z t_z (by omega)) po (cr _ (by omega) (by omega) (by omega) (by omega) (by omega) (by omega) (by omega)) (crL _ (by omega)) (cr _ (by omega) (by omega) (by omega) (by omega) (by omega) (by omega) (by omega)) (fun k_z k0_z k1_z => by rw [rc_out _ _ (by omega)])
      · exact PaR.fr q12_z (by omega) (cr _ (by omega) (by omega) (by omega) (by omega) (by omega) (by omega) (by omega)) (cr _ (by omega) (by omega) (by omega) (by omega) (by omega) (by omega) (by omega)) (cr _ (by omega) (by omega) (by omega) (by omega) (by omega) (by omega) (by omega)) (cr _ (by omega) (by omega) (by omega) (by omega) (by omega) (by omega) (by omega)) (cr _ (by omega) (by omega) (by omega) (by omega) (by omega) (by omega) (by omega)) (cr _ (by omega) (by omega) (by omega) (by omega) (by omega) (by omega) (by omega)) (fld4 _ (by decide) (by decide) (by decide) (by decide) (by decide)) (fld4 _ (by decide) (by decide) (by decide) (by decide) (by decide)) (fld4 _ (by decide) (by decide) (by decide) (by decide) (by decide)) (fld4 _ (by decide) (by decide) (by decide) (by decide) (by decide)) (row4 _ (by omega) (by omega) (by omega) (by omega) (by omega) (by omega) (by omega) (by omega)) (row4 _ (by omega) (by omega) (by omega) (by omega) (by omega) (by omega) (by omega) (by omega)) (row4 _ (by omega) (by omega) (by omega) (by omega) (by omega) (by omega) (by omega) (by omega))
      · exact ItR.fr q13_z po (fun a_z h1 h2 => cr a_z (by omega) (by omega) (by omega) (by omega) (by omega) (by omega) (by omega)) (fld4 _ (by decide) (by decide) (by decide) (by decide) (by decide)) (row4 _ (by omega) (by omega) (by omega) (by omega) (by omega) (by omega) (by omega) (by omega))
      · rw [cf_z _ (by decide) (by decide) (by decide), fld4 _ (by decide) (by decide) (by decide) (by decide) (by decide)]
        exact q14_z
      · rw [fld4 _ (by decide) (by decide) (by decide) (by decide) (by decide)]
        exact q16_z
end HB
