/-! THE PURE PART, part 13: clip and xclip. Own work (partly written by a program of its own). -/
section LB
variable {G : Env0} {Q : Option AV → Mem → Prop} {M T : Mem} {c s m : Nat}
theorem X_mark {e_z o : Int} (hs : ShPa M (c + 4)) (e0_z : gI M (c + 4) 5 = e_z) (e1_z : 0 ≤ e_z) (e2_z : e_z < 200) (ho : o = 0 ∨ o = 1) : Call G J_Pa_mark [a_r (c + 4), a_i o] M Q ↔ Q none (uI (uI M (c + 4) 7 1) (c + 9) e_z o) := by
  simp (disch := omega) only [E_Pa_mark, B_107_0, B_107_32, hs.u, e0_z, Nat.add_assoc, inI, inL, isT, kInt, kByt, true_and, and_true, an_t, im_t, im_f, or_true, true_or, true_imp_iff, false_imp_iff, not_true_eq_false, not_false_eq_true, gK_uI, gK_uL, gK_uR, gK_uCI, gK_uCL, gN_uI, gN_uL, gN_uR, gN_uCI, gN_uCL, gR_uI, gR_uL, gR_uCI, gR_uCL, gI_uL, gI_uR, gI_uCL, gL_uI, gL_uR, gL_uCI, gz_uI, gz_uL, gz_uR, gz_uCI, gz_uCL, gs_uI, gs_uL, gs_uR, gs_uCI, gs_uCL, rI_at, rL_at, rR_at, rI_ne, rL_ne, rR_ne, rI_nk, rL_nk, rR_nk, rI_eq, rL_eq, rR_eq, Option.toList_some, Option.toList_none, List.cons_append, List.nil_append, List.append_nil, zc_eq, zc_lt, zc_le, zc_ge, zc_gt]
theorem X_doesV7 {d_z : Nat} {w_z : Int} (hs : ShM T m) (hl : gI T m 36 = (d_z : Int)) (hw : gI T (m + 19) d_z = w_z) (l1 : d_z < 5) (w0_z : 0 ≤ w_z) (w1_z : w_z ≤ 16) (h_z : Q none (uI (uI T (m + 19) d_z (w_z - 0)) m 27 1)) : Call G J_M_does [a_r m, a_i 7] T Q := by
  have n17 := fun qq => X_needed (G := G) (T := T) (Q := qq) (k_z := 7) (by omega) (by omega)
  rw [show need 7 = 0 from by decide] at n17
  simp (disch := omega) only [E_M_does, B_228_0, n17, B_228_4, B_228_23, hs.u, B_228_24, B_228_54, B_228_55, Y_inF (x_z := 7) (y_z := 16) (w_z := 18) (by omega), B_228_65, B_228_74, B_228_283, B_228_294, B_228_295, B_228_353, hl, hw, inI, inL, isT, kInt, kByt, true_and, and_true, an_t, im_t, im_f, or_true, true_or, true_imp_iff, false_imp_iff, not_true_eq_false, not_false_eq_true, gK_uI, gK_uL, gK_uR, gK_uCI, gK_uCL, gN_uI, gN_uL, gN_uR, gN_uCI, gN_uCL, gR_uI, gR_uL, gR_uCI, gR_uCL, gI_uL, gI_uR, gI_uCL, gL_uI, gL_uR, gL_uCI, gz_uI, gz_uL, gz_uR, gz_uCI, gz_uCL, gs_uI, gs_uL, gs_uR, gs_uCI, gs_uCL, rI_at, rL_at, rR_at, rI_ne, rL_ne, rR_ne, rI_nk, rL_nk, rR_nk, rI_eq, rL_eq, rR_eq, Option.toList_some, Option.toList_none, List.cons_append, List.nil_append, List.append_nil, zc_eq, zc_lt, zc_le, zc_ge, zc_gt]
  all_goals exact h_z
theorem op_clip {E_z i_z x_z n_z tk : Int} {d_z p_z : Nat} (h_z : Rel G M T c s m E_z) (hd_z : gI M c 11 = (d_z : Int)) (hx : gI M (c + 22 + 4 * d_z) 4 = x_z - 1) (htk : gI M (c + 22 + 4 * d_z) 5 = tk) (hp : gR M (c + 22 + 4 * d_z) 3 = p_z) (hn : gI M p_z 3 = n_z) (hlt : tk < n_z) (hop : gR M (p_z + 1) tk = G.2 (3 + 7)) (i0_z : 0 ≤ i_z) (i1_z : i_z + 1 < 1000000) (hN_z : Nxt G c s m M E_z i_z Q) (hEr : Err G c s m M E_z Q) : HC G c s i_z M Q := by
  refine op_pre (k_z := 7) h_z hd_z hx htk hp hn hlt (by decide) (by decide) hop i0_z i1_z hEr (fun hb_z hw _ => ?_)
  have h0 := h_z
  obtain ⟨r1_z, r2, r3, ⟨r4, r5_z, r6, r7⟩, r8, r9, r10, r11, r12, r13, ⟨r14, r15, r16⟩, r17⟩ := h_z
  obtain ⟨g1, g2, g3_z, w0_z, w1_z, g6⟩ := h0.opn hd_z
  have nd : need ((7 : Nat) : Int) = 0 := by decide
  rw [nd] at hw
  have hs1 : ShMa (uI M (c + 22 + 4 * d_z) 5 (tk + 1)) c := r1_z
  have ho1 : OpF G (uI M (c + 22 + 4 * d_z) 5 (tk + 1)) := OpF.out r3 ((OutC.refl c M).uI _ _ (by omega)) r6 r4
  have f2_z : ShFr (uI M (c + 22 + 4 * d_z) 5 (tk + 1)) (c + 22 + 4 * d_z) := (r1_z.2.2.2.1 d_z g1).2
  have e13_z : gI (uI M (c + 22 + 4 * d_z) 5 (tk + 1)) c 13 = gI M c 13 := by rw [rI_ne (by omega)]
  have es6 : gI (uI M (c + 22 + 4 * d_z) 5 (tk + 1)) s 6 = gI M s 6 := by rw [rI_ne (by omega)]
  have ew : gI (uI M (c + 22 + 4 * d_z) 5 (tk + 1)) (c + 22 + 4 * d_z) 6 = gI M (c + 22 + 4 * d_z) 6 := by rw [rI_nk (by decide)]
  have hK4 : gK (uI M (c + 22 + 4 * d_z) 5 (tk + 1)) s = 4 := r8.1.1
  generalize hwd : gI M (c + 22 + 4 * d_z) 6 = w_z at *
  have hv1 : ∀ i_z, 0 ≤ i_z → i_z < w_z → NV (gL (uI M (c + 22 + 4 * d_z) 5 (tk + 1)) (c + 22 + 4 * d_z + 1) i_z) ∨ fd (gL (uI M (c + 22 + 4 * d_z) 5 (tk + 1)) (c + 22 + 4 * d_z + 1) i_z) = 0 := fun i_z i0_z i1_z => by
    rcases (g6 i_z i0_z i1_z).2.2 with q_z | q_z
    · exact Or.inl q_z
    · exact Or.inr q_z.1
  obtain ⟨-, b2, b3, -⟩ := h0.code hd_z hx htk hp hn hlt (k_z := 7) (by decide) hop
  have hen : gI M (c + 4) 5 < 200 ∧ 0 ≤ gI M (c + 4) 5 := by
    have := r12.1
    have := r8.2.2.2.2.2.2
    omega
  have sPa : ShPa (uI M (c + 22 + 4 * d_z) 5 (tk + 1)) (c + 4) := r1_z.2.1
  generalize hee : gI M (c + 4) 5 = e_z at *
  have mk := fun qq => X_mark (G := G) (Q := qq) (M := uI M (c + 22 + 4 * d_z) 5 (tk + 1)) (c := c) (e_z := e_z) (o := 0) sPa (by rw [rI_ne (by omega)]; exact hee) hen.2 hen.1 (by omega)
  refine op_run (w_z := w_z) (P_z := fun Mp => Mp = uI (uI (uI M (c + 22 + 4 * d_z) 5 (tk + 1)) (c + 4) 7 1) (c + 9) e_z 0) (PT_z := fun T' T1 => T1 = uI T' m 16 0) h0 hd_z hx htk hp hn hlt (by decide) (by decide) hop i0_z i1_z hb_z hN_z w0_z (by omega) (fun qq hqq => ?_) (fun Mp hMp => ?_) (fun T' h' qq hqq => ?_) (fun Mp hMp T' h' T1 hy hPT T3 t3_z st_z hst hleg hpa qq hqq => ?_)
  · have hh := hqq _ rfl
    refine perf_go (k_z := 7) hs1 ho1 r5_z hK4 f2_z (by decide) (by rw [e13_z, es6]; exact hb_z) ew w0_z w1_z hv1 (by rw [nd]; exact hw) (fun q_z => absurd q_z (by decide)) ?_
    have sm_z := ho1.1
    have s17 : gI (uI M (c + 22 + 4 * d_z) 5 (tk + 1)) (G.2 1) 7 = 9 := sm_z.2.2 7 (by decide)
    have ex_z : ¬ G.2 (3 + 7) = G.2 11 := fun q_z => absurd (OpF.inj r3 (i_z := 7) (j_z := 8) (by decide) (by decide) q_z) (by decide)
    rw [B_86_33]
    simp (disch := omega) only [sm_z.1, sm_z.2.1, s17, Int.cast_ofNat_Int, B_86_182, B_86_197, B_86_198, hs1.1.u, sPa.u, ex_z, mk, B_86_201, inI, inL, isT, kInt, kByt, true_and, and_true, an_t, im_t, im_f, or_true, true_or, true_imp_iff, false_imp_iff, not_true_eq_false, not_false_eq_true, gK_uI, gK_uL, gK_uR, gK_uCI, gK_uCL, gN_uI, gN_uL, gN_uR, gN_uCI, gN_uCL, gR_uI, gR_uL, gR_uCI, gR_uCL, gI_uL, gI_uR, gI_uCL, gL_uI, gL_uR, gL_uCI, gz_uI, gz_uL, gz_uR, gz_uCI, gz_uCL, gs_uI, gs_uL, gs_uR, gs_uCI, gs_uCL, rI_at, rL_at, rR_at, rI_ne, rL_ne, rR_ne, rI_nk, rL_nk, rR_nk, rI_eq, rL_eq, rR_eq, Option.toList_some, Option.toList_none, List.cons_append, List.nil_append, List.append_nil, zc_eq, zc_lt, zc_le, zc_ge, zc_gt]
    all_goals exact hh
  · subst hMp
    have o1 : Ex (fun a_z => c ≤ a_z ∧ a_z < c + 147) M (uI (uI (uI M (c + 22 + 4 * d_z) 5 (tk + 1)) (c + 4) 7 1) (c + 9) e_z 0) := (((Ex.refl _ M).uI _ _ (by omega)).uI _ _ (by omega)).uI _ _ (by omega)
    refine ⟨r1_z, rfl, o1.outC (fun r_z hr => hr), fun a_z a0_z a1_z a2 => ⟨?_, rfl⟩, fun a_z a0_z a1_z => ?_, fun j_z hj => ?_, ?_, ?_, ?_, ?_⟩
    · rw [rI_ne (by omega), rI_ne (by omega), rI_ne a2]
    · rw [rI_ne (by omega), rI_ne (by omega), rI_ne (by omega)]
    · rw [rI_ne (by omega), rI_ne (by omega), rI_ne (by omega)]
    · rw [rI_ne (by omega), rI_ne (by omega), rI_nk (by decide)]
    · rw [rI_ne (by omega), rI_ne (by omega), rI_at]
    · rw [rI_ne (by omega), rI_ne (by omega), rI_nk (by decide)]
      exact hwd
    · rw [rI_ne (by omega), rI_ne (by omega), rI_nk (by decide)]
  · refine wr_n h' hd_z hb_z (by decide) nd (fun q_z hq => ?_) (hqq _ (sy_fl0 _ _) rfl)
    simp (disch := omega) only [E_M_isTooMuch, B_215_0, B_215_399, Int.cast_ofNat_Int, inI, inL, isT, kInt, kByt, true_and, and_true, an_t, im_t, im_f, or_true, true_or, true_imp_iff, false_imp_iff, not_true_eq_false, not_false_eq_true, gK_uI, gK_uL, gK_uR, gK_uCI, gK_uCL, gN_uI, gN_uL, gN_uR, gN_uCI, gN_uCL, gR_uI, gR_uL, gR_uCI, gR_uCL, gI_uL, gI_uR, gI_uCL, gL_uI, gL_uR, gL_uCI, gz_uI, gz_uL, gz_uR, gz_uCI, gz_uCL, gs_uI, gs_uL, gs_uR, gs_uCI, gs_uCL, rI_at, rL_at, rR_at, rI_ne, rL_ne, rR_ne, rI_nk, rL_nk, rR_nk, rI_eq, rL_eq, rR_eq, Option.toList_some, Option.toList_none, List.cons_append, List.nil_append, List.append_nil, zc_eq, zc_lt, zc_le, zc_ge, zc_gt]
    all_goals exact hq
  · subst hMp
    obtain ⟨k1_z, k2_z, k3_z, -, -, k6_z⟩ := h'.opn hd_z
    rw [hwd] at k3_z
    obtain ⟨t1_z, t2_z, t4_z, t5_z, t6⟩ := t3_z
    obtain ⟨-, -, -, -, -, -, -, q11_z, q12_z, q13_z, -⟩ := h'
    have l1 := hleg.2.2.2.2.2.1 (by decide)
    have f36 : gI T3 m 36 = (d_z : Int) := by rw [t4_z 36 (by decide) (by decide) (by decide) (by decide)]; exact k2_z
    have f19 : gI T3 (m + 19) d_z = w_z := by rw [t2_z _ (by omega) (by omega) (by omega) (by omega) (by omega)]; exact k3_z
    refine X_doesV7 t1_z f36 f19 g1 w0_z w1_z ?_
    have kf : ∀ j_z, j_z ≠ 27 → gI (uI (uI T3 (m + 19) d_z (w_z - 0)) m 27 1) m j_z = gI T3 m j_z := fun j_z n0_z => by
      rw [rI_nk n0_z, rI_ne (by omega)]
    have kr : ∀ a_z, a_z ≠ m → a_z ≠ m + 19 → gI (uI (uI T3 (m + 19) d_z (w_z - 0)) m 27 1) a_z = gI T3 a_z := fun a_z n0_z n2_z => by
      rw [rI_ne n0_z, rI_ne n2_z]
    have oK : OutM m T3 (uI (uI T3 (m + 19) d_z (w_z - 0)) m 27 1) := ((Ex.refl _ _).uI _ _ (by omega)).uI _ _ (by omega)
    have k19 : gI (uI (uI T3 (m + 19) d_z (w_z - 0)) m 27 1) (m + 19) = upf (gI T' (m + 19)) d_z w_z := by
      rw [rI_ne (by omega), rI_row, t2_z _ (by omega) (by omega) (by omega) (by omega) (by omega), Int.sub_zero]
    have km : gI (uI (uI T3 (m + 19) d_z (w_z - 0)) m 27 1) m 27 = 1 := rI_at
    generalize uI (uI T3 (m + 19) d_z (w_z - 0)) m 27 1 = K_z at *
    have kr' : ∀ a_z, a_z ≠ m → a_z ≠ m + 19 → a_z ≠ m + 25 → a_z ≠ m + 26 → a_z ≠ m + 27 → a_z ≠ m + 28 → gI K_z a_z = gI T' a_z := fun a_z n0_z n2_z n3_z n4_z n5_z n6_z => by
      rw [kr a_z n0_z n2_z, t2_z a_z n0_z n3_z n4_z n5_z n6_z]
    have kf' : ∀ j_z, j_z ≠ 27 → j_z ≠ 49 → j_z ≠ 16 → j_z ≠ 20 → j_z ≠ 21 → gI K_z m j_z = gI T' m j_z := fun j_z n0_z n1_z n2_z n3_z n4_z => by
      rw [kf j_z n0_z, t4_z j_z n1_z n2_z n3_z n4_z]
    have est : stepF ((7 : Nat) : Int) tk.toNat st_z = st_z := by
      unfold stepF
      rw [if_neg (by decide), if_neg (by decide), if_neg (by decide), if_neg (by decide), if_neg (by decide)]
    refine hqq K_z ⟨oK, fun a_z ha_z => kr' a_z (by omega) (by omega) (by omega) (by omega) (by omega) (by omega), kr _ (by omega) (by omega), k19, fun j_z hj => kf' j_z (by omega) (by omega) (by omega) (by omega) (by omega), kf 49 (by decide)⟩ (fun v_z f_z q_z => ?_) ?_ (fun M2_z hc_z => ?_)
    · rw [est]
      exact q_z
    · rw [est, kf' 25 (by decide) (by decide) (by decide) (by decide) (by decide)]
      exact hpa
    · obtain ⟨e1_z, e2_z, e3_z, e4_z, e5_z⟩ := hc_z
      have er : ∀ a_z, a_z ≠ c → a_z ≠ c + 17 → a_z ≠ c + 18 → a_z ≠ c + 19 → a_z ≠ c + 22 + 4 * d_z → a_z ≠ c + 4 → a_z ≠ c + 9 → gI M2_z a_z = gI M a_z := fun a_z n0_z n1_z n2_z n3_z n4_z n5_z n6_z => by rw [e3_z a_z n0_z n1_z n2_z n3_z, rI_ne n6_z, rI_ne n5_z, rI_ne n4_z]
      have eL : gL M2_z = gL M := e1_z
      have ef : ∀ j_z, j_z ≠ 7 → gI M2_z (c + 4) j_z = gI M (c + 4) j_z := fun j_z n0_z => by rw [e3_z _ (by omega) (by omega) (by omega) (by omega), rI_ne (by omega), rI_nk n0_z, rI_ne (by omega)]
      have ef7 : gI M2_z (c + 4) 7 = 1 := by rw [e3_z _ (by omega) (by omega) (by omega) (by omega), rI_ne (by omega), rI_at]
      have eo : ∀ j_z, j_z ≠ e_z → gI M2_z (c + 9) j_z = gI M (c + 9) j_z := fun j_z n0_z => by rw [e3_z _ (by omega) (by omega) (by omega) (by omega), rI_nk n0_z, rI_ne (by omega), rI_ne (by omega)]
      have eo7 : gI M2_z (c + 9) e_z = 0 := by rw [e3_z _ (by omega) (by omega) (by omega) (by omega), rI_at]
      have e13' : gI M2_z c 13 = gI M c 13 + 1 := by rw [e5_z, rI_ne (by omega), rI_ne (by omega), rI_ne (by omega)]
      have e12' : gI M2_z c 12 = gI M c 12 := by rw [e4_z _ (by decide) (by decide), rI_ne (by omega), rI_ne (by omega), rI_ne (by omega)]
      have row_z : ∀ a_z, c + 5 ≤ a_z → a_z < c + 9 → gI M2_z a_z = gI M a_z := fun a_z a0_z a1_z => er a_z (by omega) (by omega) (by omega) (by omega) (by omega) (by omega) (by omega)
      have po : Pool M T' M2_z K_z c m := by
        refine ⟨by rw [ef 5 (by decide)]; exact Int.le_refl _, by rw [kf' 33 (by decide) (by decide) (by decide) (by decide) (by decide)]; exact Int.le_refl _, by rw [ef 6 (by decide)]; exact Int.le_refl _, fun i_z _ _ => ?_, fun i_z _ _ => by rw [row_z (c + 8) (by omega) (by omega)], fun i_z _ i1_z => eo i_z (by omega), fun q_z _ _ => ?_, fun i_z _ _ => ?_⟩
        · rw [row_z (c + 5) (by omega) (by omega), row_z (c + 6) (by omega) (by omega), row_z (c + 7) (by omega) (by omega)]
          exact ⟨rfl, rfl, rfl⟩
        · rw [kr' (m + 14) (by omega) (by omega) (by omega) (by omega) (by omega) (by omega), kr' (m + 15) (by omega) (by omega) (by omega) (by omega) (by omega) (by omega)]
          exact ⟨rfl, rfl⟩
        · rw [kr' (m + 11) (by omega) (by omega) (by omega) (by omega) (by omega) (by omega), kr' (m + 12) (by omega) (by omega) (by omega) (by omega) (by omega) (by omega), kr' (m + 13) (by omega) (by omega) (by omega) (by omega) (by omega) (by omega)]
          exact ⟨rfl, rfl, rfl⟩
      refine ⟨?_, ?_, ?_, ?_⟩
      · rw [e12', est]
        omega
      · refine GsR.fr q11_z po e12' (kf' _ (by decide) (by decide) (by decide) (by decide) (by decide)) (fun r_z r0 r1_z => ⟨er r_z (by omega) (by omega) (by omega) (by omega) (by omega) (by omega) (by omega), by rw [eL]⟩) (kr' _ (by omega) (by omega) (by omega) (by omega) (by omega) (by omega)) (kr' _ (by omega) (by omega) (by omega) (by omega) (by omega) (by omega))
      · obtain ⟨p1_z, p2_z, p3_z, p4_z, p5_z, p6_z, p7_z, p8_z⟩ := q12_z
        unfold PaR
        rw [hee] at p1_z p3_z p4_z p5_z p7_z p8_z
        have ee : gI M2_z (c + 4) 5 = e_z := by rw [ef 5 (by decide)]; exact hee
        rw [ee, ef 6 (by decide), ef7, e13', eo7, km, kf' 25 (by decide) (by decide) (by decide) (by decide) (by decide), kf' 26 (by decide) (by decide) (by decide) (by decide) (by decide), kf' 33 (by decide) (by decide) (by decide) (by decide) (by decide), row_z (c + 5) (by omega) (by omega), row_z (c + 6) (by omega) (by omega), row_z (c + 7) (by omega) (by omega), row_z (c + 8) (by omega) (by omega), kr' (m + 8) (by omega) (by omega) (by omega) (by omega) (by omega) (by omega), kr' (m + 9) (by omega) (by omega) (by omega) (by omega) (by omega) (by omega), kr' (m + 10) (by omega) (by omega) (by omega) (by omega) (by omega) (by omega)]
        have l2 := hpa.mp l1
        exact ⟨by omega, by omega, p3_z, p4_z, p5_z, by omega, by omega, by omega⟩
      · exact ItR.fr q13_z po (fun a_z a0_z a1_z => er a_z (by omega) (by omega) (by omega) (by omega) (by omega) (by omega) (by omega)) (kf' _ (by decide) (by decide) (by decide) (by decide) (by decide)) (kr' _ (by omega) (by omega) (by omega) (by omega) (by omega) (by omega))
theorem X_doesV8 {d_z : Nat} {w_z : Int} (hs : ShM T m) (hl : gI T m 36 = (d_z : Int)) (hw : gI T (m + 19) d_z = w_z) (l1 : d_z < 5) (w0_z : 0 ≤ w_z) (w1_z : w_z ≤ 16) (h_z : Q none (uI (uI T (m + 19) d_z (w_z - 0)) m 27 2)) : Call G J_M_does [a_r m, a_i 8] T Q := by
  have n17 := fun qq => X_needed (G := G) (T := T) (Q := qq) (k_z := 8) (by omega) (by omega)
  rw [show need 8 = 0 from by decide] at n17
  simp (disch := omega) only [E_M_does, B_228_0, n17, B_228_4, B_228_23, hs.u, B_228_24, B_228_54, B_228_55, Y_inF (x_z := 8) (y_z := 16) (w_z := 18) (by omega), B_228_65, B_228_74, B_228_283, B_228_294, B_228_295, B_228_353, hl, hw, inI, inL, isT, kInt, kByt, true_and, and_true, an_t, im_t, im_f, or_true, true_or, true_imp_iff, false_imp_iff, not_true_eq_false, not_false_eq_true, gK_uI, gK_uL, gK_uR, gK_uCI, gK_uCL, gN_uI, gN_uL, gN_uR, gN_uCI, gN_uCL, gR_uI, gR_uL, gR_uCI, gR_uCL, gI_uL, gI_uR, gI_uCL, gL_uI, gL_uR, gL_uCI, gz_uI, gz_uL, gz_uR, gz_uCI, gz_uCL, gs_uI, gs_uL, gs_uR, gs_uCI, gs_uCL, rI_at, rL_at, rR_at, rI_ne, rL_ne, rR_ne, rI_nk, rL_nk, rR_nk, rI_eq, rL_eq, rR_eq, Option.toList_some, Option.toList_none, List.cons_append, List.nil_append, List.append_nil, zc_eq, zc_lt, zc_le, zc_ge, zc_gt]
  all_goals exact h_z
theorem op_xclip {E_z i_z x_z n_z tk : Int} {d_z p_z : Nat} (h_z : Rel G M T c s m E_z) (hd_z : gI M c 11 = (d_z : Int)) (hx : gI M (c + 22 + 4 * d_z) 4 = x_z - 1) (htk : gI M (c + 22 + 4 * d_z) 5 = tk) (hp : gR M (c + 22 + 4 * d_z) 3 = p_z) (hn : gI M p_z 3 = n_z) (hlt : tk < n_z) (hop : gR M (p_z + 1) tk = G.2 (3 + 8)) (i0_z : 0 ≤ i_z) (i1_z : i_z + 1 < 1000000) (hN_z : Nxt G c s m M E_z i_z Q) (hEr : Err G c s m M E_z Q) : HC G c s i_z M Q := by
  refine op_pre (k_z := 8) h_z hd_z hx htk hp hn hlt (by decide) (by decide) hop i0_z i1_z hEr (fun hb_z hw _ => ?_)
  have h0 := h_z
  obtain ⟨r1_z, r2, r3, ⟨r4, r5_z, r6, r7⟩, r8, r9, r10, r11, r12, r13, ⟨r14, r15, r16⟩, r17⟩ := h_z
  obtain ⟨g1, g2, g3_z, w0_z, w1_z, g6⟩ := h0.opn hd_z
  have nd : need ((8 : Nat) : Int) = 0 := by decide
  rw [nd] at hw
  have hs1 : ShMa (uI M (c + 22 + 4 * d_z) 5 (tk + 1)) c := r1_z
  have ho1 : OpF G (uI M (c + 22 + 4 * d_z) 5 (tk + 1)) := OpF.out r3 ((OutC.refl c M).uI _ _ (by omega)) r6 r4
  have f2_z : ShFr (uI M (c + 22 + 4 * d_z) 5 (tk + 1)) (c + 22 + 4 * d_z) := (r1_z.2.2.2.1 d_z g1).2
  have e13_z : gI (uI M (c + 22 + 4 * d_z) 5 (tk + 1)) c 13 = gI M c 13 := by rw [rI_ne (by omega)]
  have es6 : gI (uI M (c + 22 + 4 * d_z) 5 (tk + 1)) s 6 = gI M s 6 := by rw [rI_ne (by omega)]
  have ew : gI (uI M (c + 22 + 4 * d_z) 5 (tk + 1)) (c + 22 + 4 * d_z) 6 = gI M (c + 22 + 4 * d_z) 6 := by rw [rI_nk (by decide)]
  have hK4 : gK (uI M (c + 22 + 4 * d_z) 5 (tk + 1)) s = 4 := r8.1.1
  generalize hwd : gI M (c + 22 + 4 * d_z) 6 = w_z at *
  have hv1 : ∀ i_z, 0 ≤ i_z → i_z < w_z → NV (gL (uI M (c + 22 + 4 * d_z) 5 (tk + 1)) (c + 22 + 4 * d_z + 1) i_z) ∨ fd (gL (uI M (c + 22 + 4 * d_z) 5 (tk + 1)) (c + 22 + 4 * d_z + 1) i_z) = 0 := fun i_z i0_z i1_z => by
    rcases (g6 i_z i0_z i1_z).2.2 with q_z | q_z
    · exact Or.inl q_z
    · exact Or.inr q_z.1
  obtain ⟨-, b2, b3, -⟩ := h0.code hd_z hx htk hp hn hlt (k_z := 8) (by decide) hop
  have hen : gI M (c + 4) 5 < 200 ∧ 0 ≤ gI M (c + 4) 5 := by
    have := r12.1
    have := r8.2.2.2.2.2.2
    omega
  have sPa : ShPa (uI M (c + 22 + 4 * d_z) 5 (tk + 1)) (c + 4) := r1_z.2.1
  generalize hee : gI M (c + 4) 5 = e_z at *
  have mk := fun qq => X_mark (G := G) (Q := qq) (M := uI M (c + 22 + 4 * d_z) 5 (tk + 1)) (c := c) (e_z := e_z) (o := 1) sPa (by rw [rI_ne (by omega)]; exact hee) hen.2 hen.1 (by omega)
  refine op_run (w_z := w_z) (P_z := fun Mp => Mp = uI (uI (uI M (c + 22 + 4 * d_z) 5 (tk + 1)) (c + 4) 7 1) (c + 9) e_z 1) (PT_z := fun T' T1 => T1 = uI T' m 16 0) h0 hd_z hx htk hp hn hlt (by decide) (by decide) hop i0_z i1_z hb_z hN_z w0_z (by omega) (fun qq hqq => ?_) (fun Mp hMp => ?_) (fun T' h' qq hqq => ?_) (fun Mp hMp T' h' T1 hy hPT T3 t3_z st_z hst hleg hpa qq hqq => ?_)
  · have hh := hqq _ rfl
    refine perf_go (k_z := 8) hs1 ho1 r5_z hK4 f2_z (by decide) (by rw [e13_z, es6]; exact hb_z) ew w0_z w1_z hv1 (by rw [nd]; exact hw) (fun q_z => absurd q_z (by decide)) ?_
    have sm_z := ho1.1
    have s17 : gI (uI M (c + 22 + 4 * d_z) 5 (tk + 1)) (G.2 1) 8 = 10 := sm_z.2.2 8 (by decide)
    have ex_z : ¬ G.2 (3 + 7) = G.2 11 := fun q_z => absurd (OpF.inj r3 (i_z := 7) (j_z := 8) (by decide) (by decide) q_z) (by decide)
    rw [B_86_33]
    simp (disch := omega) only [sm_z.1, sm_z.2.1, s17, Int.cast_ofNat_Int, B_86_182, B_86_197, B_86_198, hs1.1.u, sPa.u, ex_z, mk, B_86_201, inI, inL, isT, kInt, kByt, true_and, and_true, an_t, im_t, im_f, or_true, true_or, true_imp_iff, false_imp_iff, not_true_eq_false, not_false_eq_true, gK_uI, gK_uL, gK_uR, gK_uCI, gK_uCL, gN_uI, gN_uL, gN_uR, gN_uCI, gN_uCL, gR_uI, gR_uL, gR_uCI, gR_uCL, gI_uL, gI_uR, gI_uCL, gL_uI, gL_uR, gL_uCI, gz_uI, gz_uL, gz_uR, gz_uCI, gz_uCL, gs_uI, gs_uL, gs_uR, gs_uCI, gs_uCL, rI_at, rL_at, rR_at, rI_ne, rL_ne, rR_ne, rI_nk, rL_nk, rR_nk, rI_eq, rL_eq, rR_eq, Option.toList_some, Option.toList_none, List.cons_append, List.nil_append, List.append_nil, zc_eq, zc_lt, zc_le, zc_ge, zc_gt]
    all_goals exact hh
  · subst hMp
    have o1 : Ex (fun a_z => c ≤ a_z ∧ a_z < c + 147) M (uI (uI (uI M (c + 22 + 4 * d_z) 5 (tk + 1)) (c + 4) 7 1) (c + 9) e_z 1) := (((Ex.refl _ M).uI _ _ (by omega)).uI _ _ (by omega)).uI _ _ (by omega)
    refine ⟨r1_z, rfl, o1.outC (fun r_z hr => hr), fun a_z a0_z a1_z a2 => ⟨?_, rfl⟩, fun a_z a0_z a1_z => ?_, fun j_z hj => ?_, ?_, ?_, ?_, ?_⟩
    · rw [rI_ne (by omega), rI_ne (by omega), rI_ne a2]
    · rw [rI_ne (by omega), rI_ne (by omega), rI_ne (by omega)]
    · rw [rI_ne (by omega), rI_ne (by omega), rI_ne (by omega)]
    · rw [rI_ne (by omega), rI_ne (by omega), rI_nk (by decide)]
    · rw [rI_ne (by omega), rI_ne (by omega), rI_at]
    · rw [rI_ne (by omega), rI_ne (by omega), rI_nk (by decide)]
      exact hwd
    · rw [rI_ne (by omega), rI_ne (by omega), rI_nk (by decide)]
  · refine wr_n h' hd_z hb_z (by decide) nd (fun q_z hq => ?_) (hqq _ (sy_fl0 _ _) rfl)
    simp (disch := omega) only [E_M_isTooMuch, B_215_0, B_215_399, Int.cast_ofNat_Int, inI, inL, isT, kInt, kByt, true_and, and_true, an_t, im_t, im_f, or_true, true_or, true_imp_iff, false_imp_iff, not_true_eq_false, not_false_eq_true, gK_uI, gK_uL, gK_uR, gK_uCI, gK_uCL, gN_uI, gN_uL, gN_uR, gN_uCI, gN_uCL, gR_uI, gR_uL, gR_uCI, gR_uCL, gI_uL, gI_uR, gI_uCL, gL_uI, gL_uR, gL_uCI, gz_uI, gz_uL, gz_uR, gz_uCI, gz_uCL, gs_uI, gs_uL, gs_uR, gs_uCI, gs_uCL, rI_at, rL_at, rR_at, rI_ne, rL_ne, rR_ne, rI_nk, rL_nk, rR_nk, rI_eq, rL_eq, rR_eq, Option.toList_some, Option.toList_none, List.cons_append, List.nil_append, List.append_nil, zc_eq, zc_lt, zc_le, zc_ge, zc_gt]
    all_goals exact hq
  · subst hMp
    obtain ⟨k1_z, k2_z, k3_z, -, -, k6_z⟩ := h'.opn hd_z
    rw [hwd] at k3_z
    obtain ⟨t1_z, t2_z, t4_z, t5_z, t6⟩ := t3_z
    obtain ⟨-, -, -, -, -, -, -, q11_z, q12_z, q13_z, -⟩ := h'
    have l1 := hleg.2.2.2.2.2.1 (by decide)
    have f36 : gI T3 m 36 = (d_z : Int) := by rw [t4_z 36 (by decide) (by decide) (by decide) (by decide)]; exact k2_z
    have f19 : gI T3 (m + 19) d_z = w_z := by rw [t2_z _ (by omega) (by omega) (by omega) (by omega) (by omega)]; exact k3_z
    refine X_doesV8 t1_z f36 f19 g1 w0_z w1_z ?_
    have kf : ∀ j_z, j_z ≠ 27 → gI (uI (uI T3 (m + 19) d_z (w_z - 0)) m 27 2) m j_z = gI T3 m j_z := fun j_z n0_z => by
      rw [rI_nk n0_z, rI_ne (by omega)]
    have kr : ∀ a_z, a_z ≠ m → a_z ≠ m + 19 → gI (uI (uI T3 (m + 19) d_z (w_z - 0)) m 27 2) a_z = gI T3 a_z := fun a_z n0_z n2_z => by
      rw [rI_ne n0_z, rI_ne n2_z]
    have oK : OutM m T3 (uI (uI T3 (m + 19) d_z (w_z - 0)) m 27 2) := ((Ex.refl _ _).uI _ _ (by omega)).uI _ _ (by omega)
    have k19 : gI (uI (uI T3 (m + 19) d_z (w_z - 0)) m 27 2) (m + 19) = upf (gI T' (m + 19)) d_z w_z := by
      rw [rI_ne (by omega), rI_row, t2_z _ (by omega) (by omega) (by omega) (by omega) (by omega), Int.sub_zero]
    have km : gI (uI (uI T3 (m + 19) d_z (w_z - 0)) m 27 2) m 27 = 2 := rI_at
    generalize uI (uI T3 (m + 19) d_z (w_z - 0)) m 27 2 = K_z at *
    have kr' : ∀ a_z, a_z ≠ m → a_z ≠ m + 19 → a_z ≠ m + 25 → a_z ≠ m + 26 → a_z ≠ m + 27 → a_z ≠ m + 28 → gI K_z a_z = gI T' a_z := fun a_z n0_z n2_z n3_z n4_z n5_z n6_z => by
      rw [kr a_z n0_z n2_z, t2_z a_z n0_z n3_z n4_z n5_z n6_z]
    have kf' : ∀ j_z, j_z ≠ 27 → j_z ≠ 49 → j_z ≠ 16 → j_z ≠ 20 → j_z ≠ 21 → gI K_z m j_z = gI T' m j_z := fun j_z n0_z n1_z n2_z n3_z n4_z => by
      rw [kf j_z n0_z, t4_z j_z n1_z n2_z n3_z n4_z]
    have est : stepF ((8 : Nat) : Int) tk.toNat st_z = st_z := by
      unfold stepF
      rw [if_neg (by decide), if_neg (by decide), if_neg (by decide), if_neg (by decide), if_neg (by decide)]
    refine hqq K_z ⟨oK, fun a_z ha_z => kr' a_z (by omega) (by omega) (by omega) (by omega) (by omega) (by omega), kr _ (by omega) (by omega), k19, fun j_z hj => kf' j_z (by omega) (by omega) (by omega) (by omega) (by omega), kf 49 (by decide)⟩ (fun v_z f_z q_z => ?_) ?_ (fun M2_z hc_z => ?_)
    · rw [est]
      exact q_z
    · rw [est, kf' 25 (by decide) (by decide) (by decide) (by decide) (by decide)]
      exact hpa
    · obtain ⟨e1_z, e2_z, e3_z, e4_z, e5_z⟩ := hc_z
      have er : ∀ a_z, a_z ≠ c → a_z ≠ c + 17 → a_z ≠ c + 18 → a_z ≠ c + 19 → a_z ≠ c + 22 + 4 * d_z → a_z ≠ c + 4 → a_z ≠ c + 9 → gI M2_z a_z = gI M a_z := fun a_z n0_z n1_z n2_z n3_z n4_z n5_z n6_z => by rw [e3_z a_z n0_z n1_z n2_z n3_z, rI_ne n6_z, rI_ne n5_z, rI_ne n4_z]
      have eL : gL M2_z = gL M := e1_z
      have ef : ∀ j_z, j_z ≠ 7 → gI M2_z (c + 4) j_z = gI M (c + 4) j_z := fun j_z n0_z => by rw [e3_z _ (by omega) (by omega) (by omega) (by omega), rI_ne (by omega), rI_nk n0_z, rI_ne (by omega)]
      have ef7 : gI M2_z (c + 4) 7 = 1 := by rw [e3_z _ (by omega) (by omega) (by omega) (by omega), rI_ne (by omega), rI_at]
      have eo : ∀ j_z, j_z ≠ e_z → gI M2_z (c + 9) j_z = gI M (c + 9) j_z := fun j_z n0_z => by rw [e3_z _ (by omega) (by omega) (by omega) (by omega), rI_nk n0_z, rI_ne (by omega), rI_ne (by omega)]
      have eo7 : gI M2_z (c + 9) e_z = 1 := by rw [e3_z _ (by omega) (by omega) (by omega) (by omega), rI_at]
      have e13' : gI M2_z c 13 = gI M c 13 + 1 := by rw [e5_z, rI_ne (by omega), rI_ne (by omega), rI_ne (by omega)]
      have e12' : gI M2_z c 12 = gI M c 12 := by rw [e4_z _ (by decide) (by decide), rI_ne (by omega), rI_ne (by omega), rI_ne (by omega)]
      have row_z : ∀ a_z, c + 5 ≤ a_z → a_z < c + 9 → gI M2_z a_z = gI M a_z := fun a_z a0_z a1_z => er a_z (by omega) (by omega) (by omega) (by omega) (by omega) (by omega) (by omega)
      have po : Pool M T' M2_z K_z c m := by
        refine ⟨by rw [ef 5 (by decide)]; exact Int.le_refl _, by rw [kf' 33 (by decide) (by decide) (by decide) (by decide) (by decide)]; exact Int.le_refl _, by rw [ef 6 (by decide)]; exact Int.le_refl _, fun i_z _ _ => ?_, fun i_z _ _ => by rw [row_z (c + 8) (by omega) (by omega)], fun i_z _ i1_z => eo i_z (by omega), fun q_z _ _ => ?_, fun i_z _ _ => ?_⟩
        · rw [row_z (c + 5) (by omega) (by omega), row_z (c + 6) (by omega) (by omega), row_z (c + 7) (by omega) (by omega)]
          exact ⟨rfl, rfl, rfl⟩
        · rw [kr' (m + 14) (by omega) (by omega) (by omega) (by omega) (by omega) (by omega), kr' (m + 15) (by omega) (by omega) (by omega) (by omega) (by omega) (by omega)]
          exact ⟨rfl, rfl⟩
        · rw [kr' (m + 11) (by omega) (by omega) (by omega) (by omega) (by omega) (by omega), kr' (m + 12) (by omega) (by omega) (by omega) (by omega) (by omega) (by omega), kr' (m + 13) (by omega) (by omega) (by omega) (by omega) (by omega) (by omega)]
          exact ⟨rfl, rfl, rfl⟩
      refine ⟨?_, ?_, ?_, ?_⟩
      · rw [e12', est]
        omega
      · refine GsR.fr q11_z po e12' (kf' _ (by decide) (by decide) (by decide) (by decide) (by decide)) (fun r_z r0 r1_z => ⟨er r_z (by omega) (by omega) (by omega) (by omega) (by omega) (by omega) (by omega), by rw [eL]⟩) (kr' _ (by omega) (by omega) (by omega) (by omega) (by omega) (by omega)) (kr' _ (by omega) (by omega) (by omega) (by omega) (by omega) (by omega))
      · obtain ⟨p1_z, p2_z, p3_z, p4_z, p5_z, p6_z, p7_z, p8_z⟩ := q12_z
        unfold PaR
        rw [hee] at p1_z p3_z p4_z p5_z p7_z p8_z
        have ee : gI M2_z (c + 4) 5 = e_z := by rw [ef 5 (by decide)]; exact hee
        rw [ee, ef 6 (by decide), ef7, e13', eo7, km, kf' 25 (by decide) (by decide) (by decide) (by decide) (by decide), kf' 26 (by decide) (by decide) (by decide) (by decide) (by decide), kf' 33 (by decide) (by decide) (by decide) (by decide) (by decide), row_z (c + 5) (by omega) (by omega), row_z (c + 6) (by omega) (by omega), row_z (c + 7) (by omega) (by omega), row_z (c + 8) (by omega) (by omega), kr' (m + 8) (by omega) (by omega) (by omega) (by omega) (by omega) (by omega), kr' (m + 9) (by omega) (by omega) (by omega) (by omega) (by omega) (by omega), kr' (m + 10) (by omega) (by omega) (by omega) (by omega) (by omega) (by omega)]
        have l2 := hpa.mp l1
        exact ⟨by omega, by omega, p3_z, p4_z, p5_z, by omega, by omega, by omega⟩
      · exact ItR.fr q13_z po (fun a_z a0_z a1_z => er a_z (by omega) (by omega) (by omega) (by omega) (by omega) (by omega) (by omega)) (kf' _ (by decide) (by decide) (by decide) (by decide) (by decide)) (kr' _ (by omega) (by omega) (by omega) (by omega) (by omega) (by omega))
end LB
