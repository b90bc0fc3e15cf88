/-! THE PURE PART, part 13: the step of a next. Own work. -/
theorem OpF.inj {G : Env0} {M : Mem} (h_z : OpF G M) {i_z j_z : Nat} (hi_z : i_z < 23) (hj : j_z < 23) (e_z : G.2 (3 + i_z) = G.2 (3 + j_z)) : i_z = j_z := by
  have a1_z := (h_z.2 i_z hi_z).2.2 0 (by decide)
  have a2 := (h_z.2 j_z hj).2.2 0 (by decide)
  have : ∀ j_z : Nat, j_z < 23 → (opV j_z).getD (vix 0) 0 = j_z := by decide +kernel
  rw [e_z] at a1_z
  rw [this i_z hi_z] at a1_z
  rw [this j_z hj] at a2
  omega
theorem lft_dec {f_z : Int → Int} {w_z : Int} (h1 : 1 ≤ w_z) (h3 : w_z ≤ 3) : lft (upf f_z (w_z - 1) (f_z (w_z - 1) - 1)) w_z = lft f_z w_z - 1 := by
  have hw : w_z = 1 ∨ w_z = 2 ∨ w_z = 3 := by omega
  rcases hw with hw | hw | hw <;> subst hw <;> simp [lft, upf] <;> omega
theorem lft_pop {f_z g_z : Int → Int} {w_z : Int} (h1 : 1 ≤ w_z) (h3 : w_z ≤ 3) (e_z : ∀ i_z, 0 ≤ i_z → i_z < w_z - 1 → g_z i_z = f_z i_z) : lft g_z (w_z - 1) = lft f_z w_z - f_z (w_z - 1) := by
  have hw : w_z = 1 ∨ w_z = 2 ∨ w_z = 3 := by omega
  rcases hw with hw | hw | hw <;> subst hw
  · simp [lft]
  · have := e_z 0 (by decide) (by decide)
    simp [lft, this]
  · have a_z := e_z 0 (by decide) (by decide)
    have b_z := e_z 1 (by decide) (by decide)
    simp [lft, a_z, b_z]
theorem lft_push {f_z g_z : Int → Int} {w_z : Int} (h1 : 0 ≤ w_z) (h3 : w_z ≤ 2) (e_z : ∀ i_z, 0 ≤ i_z → i_z < w_z → g_z i_z = f_z i_z) : lft g_z (w_z + 1) = lft f_z w_z + g_z w_z := by
  have hw : w_z = 0 ∨ w_z = 1 ∨ w_z = 2 := by omega
  rcases hw with hw | hw | hw <;> subst hw
  · simp [lft]
  · have := e_z 0 (by decide) (by decide)
    simp [lft, this]
  · have a_z := e_z 0 (by decide) (by decide)
    have b_z := e_z 1 (by decide) (by decide)
    simp [lft, a_z, b_z]
section WA
variable {G : Env0} {Q : Option AV → Mem → Prop} {M T : Mem} {c s m : Nat}
theorem X_nexts1 {l w_z v_z : Int} (hs : ShM T m) (hl : gI T m 36 = l) (l0 : 0 ≤ l) (l1 : l < 5) (hw : gI T (m + 22) l = w_z) (w0_z : 1 ≤ w_z) (w1_z : w_z ≤ 3) (hv : gI T (m + 24) (3 * l + w_z - 1) = v_z) (v0_z : 0 < v_z) (v1_z : v_z ≤ 10) : Call G J_M_nexts [a_r m] T Q ↔ Q none (uI (uI T (m + 24) (3 * l + w_z - 1) (v_z - 1)) (m + 18) l (gI T (m + 23) (3 * l + w_z - 1))) := by
  simp (disch := omega) only [E_M_nexts, B_205_0, B_205_46, B_205_56, B_205_69, hs.u, hl, hw, hv, inI, inL, isT, kInt, kByt, true_and, and_true, an_t, im_t, im_f, or_true, true_or, true_imp_iff, false_imp_iff, not_true_eq_false, not_false_eq_true, gK_uI, gK_uL, gK_uR, gK_uCI, gK_uCL, gN_uI, gN_uL, gN_uR, gN_uCI, gN_uCL, gR_uI, gR_uL, gR_uCI, gR_uCL, gI_uL, gI_uR, gI_uCL, gL_uI, gL_uR, gL_uCI, gz_uI, gz_uL, gz_uR, gz_uCI, gz_uCL, gs_uI, gs_uL, gs_uR, gs_uCI, gs_uCL, rI_at, rL_at, rR_at, rI_ne, rL_ne, rR_ne, rI_nk, rL_nk, rR_nk, rI_eq, rL_eq, rR_eq, Option.toList_some, Option.toList_none, List.cons_append, List.nil_append, List.append_nil, zc_eq, zc_lt, zc_le, zc_ge, zc_gt]
theorem X_nexts0 {l w_z : Int} (hs : ShM T m) (hl : gI T m 36 = l) (l0 : 0 ≤ l) (l1 : l < 5) (hw : gI T (m + 22) l = w_z) (w0_z : 1 ≤ w_z) (w1_z : w_z ≤ 3) (hv : gI T (m + 24) (3 * l + w_z - 1) = 0) : Call G J_M_nexts [a_r m] T Q ↔ Q none (uI T (m + 22) l (w_z - 1)) := by
  simp (disch := omega) only [E_M_nexts, B_205_0, B_205_46, B_205_56, B_205_69, hs.u, hl, hw, hv, inI, inL, isT, kInt, kByt, true_and, and_true, an_t, im_t, im_f, or_true, true_or, true_imp_iff, false_imp_iff, not_true_eq_false, not_false_eq_true, gK_uI, gK_uL, gK_uR, gK_uCI, gK_uCL, gN_uI, gN_uL, gN_uR, gN_uCI, gN_uCL, gR_uI, gR_uL, gR_uCI, gR_uCL, gI_uL, gI_uR, gI_uCL, gL_uI, gL_uR, gL_uCI, gz_uI, gz_uL, gz_uR, gz_uCI, gz_uCL, gs_uI, gs_uL, gs_uR, gs_uCI, gs_uCL, rI_at, rL_at, rR_at, rI_ne, rL_ne, rR_ne, rI_nk, rL_nk, rR_nk, rI_eq, rL_eq, rR_eq, Option.toList_some, Option.toList_none, List.cons_append, List.nil_append, List.append_nil, zc_eq, zc_lt, zc_le, zc_ge, zc_gt]
/-- what the model finds at a place where the class has an operator -/
theorem Rel.code {E_z x_z n_z tk : Int} {d_z p_z k_z : Nat} (h_z : Rel G M T c s m E_z) (hd_z : gI M c 11 = (d_z : Int)) (hx : gI M (c + 22 + 4 * d_z) 4 = x_z - 1) (htk : gI M (c + 22 + 4 * d_z) 5 = tk) (hp : gR M (c + 22 + 4 * d_z) 3 = p_z) (hn : gI M p_z 3 = n_z) (hlt : tk < n_z) (hk : k_z < 23) (hop : gR M (p_z + 1) tk = G.2 (3 + k_z)) : Top G M T s m (c + 22 + 4 * d_z) d_z x_z n_z tk p_z ∧ cdm T m x_z tk.toNat = (k_z : Int) ∧ legal k_z (sc M T m (c + 22 + 4 * d_z) d_z) ∧ WfP (cdm T m x_z) n_z.toNat := by
  obtain ⟨a1_z, a2⟩ := h_z.topM hd_z hx htk hp hn
  obtain ⟨r1_z, r2, r3, -⟩ := h_z
  obtain ⟨-, -, -, -, a5, a3, -⟩ := a2
  have u_z := a1_z
  obtain ⟨u1_z, u2_z, u3, u4_z, u5, u6, u7, u8, u9, u10, u11, u12, u13, u14, u15, u16, u17⟩ := u_z
  have a4 := a3 tk.toNat (by omega)
  rw [Int.toNat_of_nonneg u11] at a4
  have ek : cdm T m x_z tk.toNat = (k_z : Int) := by
    rcases a4 with ⟨b1, b2, b3⟩ | ⟨b1, b2, b3⟩
    · rw [hop] at b3
      have := r3.inj hk (by omega) b3
      omega
    · rw [hop] at b1
      exact absurd b1 (r3.2 k_z hk).1
  refine ⟨a1_z, ek, ?_, a5⟩
  have := a5.1 tk.toNat (by omega)
  rw [ek] at this
  unfold sc
  rw [u3, u9]
  exact this
theorem step_next {E_z i_z x_z n_z tk : Int} {d_z p_z : Nat} (h_z : Rel G M T c s m E_z) (hd_z : gI M c 11 = (d_z : Int)) (hx : gI M (c + 22 + 4 * d_z) 4 = x_z - 1) (htk : gI M (c + 22 + 4 * d_z) 5 = tk) (hp : gR M (c + 22 + 4 * d_z) 3 = p_z) (hn : gI M p_z 3 = n_z) (hlt : tk < n_z) (hop : gR M (p_z + 1) tk = G.2 18) (i0_z : 0 ≤ i_z) (i1_z : i_z + 1 < 1000000) (hN_z : Nxt G c s m M E_z i_z Q) : HC G c s i_z M Q := by
  have h0 := h_z
  obtain ⟨ht0, hcd, hlg, hwf⟩ := h_z.code hd_z hx htk hp hn hlt (k_z := 15) (by decide) hop
  obtain ⟨r1_z, r2, r3, ⟨r4, r5_z, r6, r7⟩, r8, r9, r10, r11, r12, r13, ⟨r14, r15, r16⟩, r17⟩ := h_z
  have ht := ht0
  obtain ⟨t1_z, t2_z, t3_z, t4_z, t5_z, t6, t7, t8, t9, t10, t11, t12, t13, t14, t15, t16, t17⟩ := ht
  obtain ⟨g1, g2, gF, gP⟩ := r10.get hd_z
  have e0_z : zB (n_z ≤ tk) = 0 := zB_f (by omega)
  obtain ⟨f1_z, f2_z⟩ := r1_z.fr (d_z := (d_z : Int)) (by omega) (by omega)
  rw [Int.toNat_natCast] at f1_z f2_z
  have hP := fun qq => X_presentOp (G := G) (Q := qq) f2_z t7 t14 t15 (by omega) (by omega)
  rw [t9, hop] at hP
  have nz : ¬ G.2 18 = 0 := (r3.2 15 (by decide)).1
  -- how many loops are open
  have loops : ∀ T', Rel G M T' c s m E_z → ∃ (j_z : Nat) (L_z : Stk), Top G M T' s m (c + 22 + 4 * d_z) d_z x_z n_z tk p_z ∧ cdm T' m x_z tk.toNat = 15 ∧ scan (cdm T' m x_z) tk.toNat = ((true, j_z) :: L_z, false) ∧ scan (cdm T' m x_z) (j_z + 1) = ((true, j_z) :: L_z, false) ∧ scan (cdm T' m x_z) (tk.toNat + 1) = (L_z, false) ∧ j_z < tk.toNat ∧ FrL M T' s m (c + 22 + 4 * d_z) d_z tk ∧ 1 ≤ gI M (c + 22 + 4 * d_z) 7 ∧ gI M (c + 22 + 4 * d_z) 7 ≤ 3 ∧ gI T' (m + 23) (3 * d_z + gI M (c + 22 + 4 * d_z) 7 - 1) = j_z ∧ LpO L_z (gI M (c + 22 + 4 * d_z) 7 - 1) (fun i_z => gI T' (m + 23) (3 * d_z + i_z)) := by
    intro T' h'
    obtain ⟨b1, b2, b3, b4⟩ := h'.code hd_z hx htk hp hn hlt (k_z := 15) (by decide) hop
    have h'2 := h'
    obtain ⟨-, -, -, -, -, -, q10_z, -⟩ := h'
    obtain ⟨k1_z, k2_z, kF, kP_z⟩ := q10_z.get hd_z
    have u_z := b1
    obtain ⟨u1_z, u2_z, u3, u4_z, u5, u6, u7, u8, u9, u10, u11, u12, u13, u14, u15, u16, u17⟩ := u_z
    rw [u10] at kF
    obtain ⟨-, -, -, -, hl15, -⟩ := b3
    obtain ⟨hb_z, j_z, L_z, hL⟩ := hl15 rfl
    have hsc : sc M T' m (c + 22 + 4 * d_z) d_z = scan (cdm T' m x_z) tk.toNat := by unfold sc; rw [u3, u9]
    rw [hsc] at hb_z hL
    have hsn : scan (cdm T' m x_z) tk.toNat = ((true, j_z) :: L_z, false) := by
      rw [← hb_z, ← hL]
    have hh := (hst b4.1 tk.toNat (by omega)).1
    rw [hsn] at hh
    obtain ⟨z1, z2, z3, z4, z5⟩ := hh
    have kF0 := kF
    obtain ⟨-, -, -, -, -, ⟨m6_z, m6b, m6c⟩, -, m8_z⟩ := kF
    rw [u3, hsn] at m8_z
    obtain ⟨m8a, m8b⟩ := m8_z
    have m9_z := m8b.num
    have hnx : scan (cdm T' m x_z) (tk.toNat + 1) = (L_z, false) := by
      show stepF (cdm T' m x_z tk.toNat) tk.toNat (scan (cdm T' m x_z) tk.toNat) = _
      rw [b2, hsn]
      exact stepF_next
    refine ⟨j_z, L_z, b1, b2, hsn, z3, hnx, z1, kF0, by omega, m6c, ?_, m8b⟩
    rw [show (3 : Int) * d_z + gI M (c + 22 + 4 * d_z) 7 - 1 = 3 * d_z + (gI M (c + 22 + 4 * d_z) 7 - 1) from by omega]
    exact m8a
  obtain ⟨j0, L0_z, -, -, -, -, -, -, F0_z, w0_z, w1_z, -, -⟩ := loops T h0
  generalize hw : gI M (c + 22 + 4 * d_z) 7 = w_z at *
  obtain ⟨-, -, -, -, -, -, F7, -⟩ := F0_z
  rw [hw] at F7
  obtain ⟨F7a, F7b, F7c, F7d⟩ := F7 (w_z - 1) (by omega) (by omega)
  generalize hv : gI M (c + 22 + 4 * d_z + 3) (w_z - 1) = v_z at *
  generalize hq : gI M (c + 22 + 4 * d_z + 2) (w_z - 1) = st_z at *
  by_cases cv : 1 < v_z
  · have hX := fun qq => X_passNext1 (G := G) (Q := qq) f2_z (by omega) (by omega) (by omega) (by omega) (by rw [hw, hv]; omega) (by rw [hw, hv]; omega)
    rw [t9, hw, hv, hq] at hX
    have hM2 := hN_z (uI (uI (uI M (c + 22 + 4 * d_z) 5 (tk + 1)) (c + 22 + 4 * d_z + 3) (w_z - 1) (v_z - 1)) (c + 22 + 4 * d_z) 5 st_z) (E_z - 200 + tk - st_z + 0) (by
        obtain ⟨j1, L1, b1, b2, b3, b4, b5, b6, b7, b8, b9, b10, b11⟩ := loops T h0
        rw [show (3 : Int) * d_z + (w_z - 1) = 3 * d_z + w_z - 1 from by omega, b10] at F7a
        omega) (Ex.outC (P_z := fun r_z => c ≤ r_z ∧ r_z < c + 147) ((((Ex.refl _ M).uI _ _ (by omega)).uI _ _ (by omega)).uI _ _ (by omega)) (fun r_z hr => hr)) (fun T' h' R_z hR => ?_)
    · refine HC_body r1_z hd_z ht0 i0_z (by omega) (fun u5 u6 u7 => ?_)
      rw [e0_z]
      simp (disch := omega) only [B_73_35, B_73_58, f2_z.u, r1_z.1.u, hP, B_73_76, hd_z, t9, hX, B_73_91, B_73_145, r15, nz, B_73_172, B_73_198, not_true_eq_false, inI, inL, isT, kInt, kByt, true_and, and_true, an_t, im_t, im_f, or_true, true_or, true_imp_iff, false_imp_iff, not_true_eq_false, not_false_eq_true, gK_uI, gK_uL, gK_uR, gK_uCI, gK_uCL, gN_uI, gN_uL, gN_uR, gN_uCI, gN_uCL, gR_uI, gR_uL, gR_uCI, gR_uCL, gI_uL, gI_uR, gI_uCL, gL_uI, gL_uR, gL_uCI, gz_uI, gz_uL, gz_uR, gz_uCI, gz_uCL, gs_uI, gs_uL, gs_uR, gs_uCI, gs_uCL, rI_at, rL_at, rR_at, rI_ne, rL_ne, rR_ne, rI_nk, rL_nk, rR_nk, rI_eq, rL_eq, rR_eq, Option.toList_some, Option.toList_none, List.cons_append, List.nil_append, List.append_nil, zc_eq, zc_lt, zc_le, zc_ge, zc_gt]
      exact hM2 _ _ _ _
    · obtain ⟨j_z, L_z, b1, b2, b3, b4, b5, b6, b7, b8, b9, b10, b11⟩ := loops T' h'
      have h'0 := h'
      obtain ⟨q1_z, q2_z, q3_z, -, q8_z, q9_z, q10_z, q11_z, q12_z, q13_z, ⟨q14_z, q15_z, q16_z⟩, q17_z⟩ := h'
      obtain ⟨k1_z, k2_z, -, kP_z⟩ := q10_z.get hd_z
      have u_z := b1
      obtain ⟨u1_z, u2_z, u3, u4_z, u5, u6, u7, u8, u9, u10, u11, u12, u13, u14, u15, u16, u17⟩ := u_z
      obtain ⟨y1, y2, y3, y4, y5, y6, y7, y8⟩ := b7
      rw [hw] at y6 y7
      obtain ⟨y7a, y7b, -, -⟩ := y7 (w_z - 1) (by omega) (by omega)
      rw [show (3 : Int) * d_z + (w_z - 1) = 3 * d_z + w_z - 1 from by omega] at y7a y7b
      rw [hq, b10] at y7a
      rw [hv] at y7b
      have hNx := fun qq => X_nexts1 (G := G) (Q := qq) (l := (d_z : Int)) (w_z := w_z) (v_z := v_z - 1) q2_z u1_z (by omega) (by omega) y6.1.symm b8 b9 (by omega) (by omega) (by omega)
      rw [b10] at hNx
      have hT2 := hR (uI (uI (uI T' (m + 24) (3 * d_z + w_z - 1) (v_z - 1 - 1)) (m + 18) d_z j_z) (m + 18) d_z (j_z + 1)) ((((Ex.refl _ T').uI _ _ (by omega)).uI _ _ (by omega)).uI _ _ (by omega)) ?_
      · refine HM_tok q2_z b1 hlt ?_
        rw [b2]
        have back_z : At G 197 231 [a_r m, a_i 1] [] (uI (uI T' (m + 24) (3 * d_z + w_z - 1) (v_z - 1 - 1)) (m + 18) d_z j_z) R_z := HM_back q2_z (by simp (disch := omega) only [gK_uI, gK_uL, gK_uR, gK_uCI, gK_uCL, gN_uI, gN_uL, gN_uR, gN_uCI, gN_uCL, gR_uI, gR_uL, gR_uCI, gR_uCL, gI_uL, gI_uR, gI_uCL, gL_uI, gL_uR, gL_uCI, gz_uI, gz_uL, gz_uR, gz_uCI, gz_uCL, gs_uI, gs_uL, gs_uR, gs_uCI, gs_uCL, rI_at, rL_at, rR_at, rI_ne, rL_ne, rR_ne, rI_nk, rL_nk, rR_nk, rI_eq, rL_eq, rR_eq]; exact q16_z) (by simp (disch := omega) only [gK_uI, gK_uL, gK_uR, gK_uCI, gK_uCL, gN_uI, gN_uL, gN_uR, gN_uCI, gN_uCL, gR_uI, gR_uL, gR_uCI, gR_uCL, gI_uL, gI_uR, gI_uCL, gL_uI, gL_uR, gL_uCI, gz_uI, gz_uL, gz_uR, gz_uCI, gz_uCL, gs_uI, gs_uL, gs_uR, gs_uCI, gs_uCL, rI_at, rL_at, rR_at, rI_ne, rL_ne, rR_ne, rI_nk, rL_nk, rR_nk, rI_eq, rL_eq, rR_eq]; exact u1_z) (by omega) (by omega) (by simp (disch := omega) only [gK_uI, gK_uL, gK_uR, gK_uCI, gK_uCL, gN_uI, gN_uL, gN_uR, gN_uCI, gN_uCL, gR_uI, gR_uL, gR_uCI, gR_uCL, gI_uL, gI_uR, gI_uCL, gL_uI, gL_uR, gL_uCI, gz_uI, gz_uL, gz_uR, gz_uCI, gz_uCL, gs_uI, gs_uL, gs_uR, gs_uCI, gs_uCL, rI_at, rL_at, rR_at, rI_ne, rL_ne, rR_ne, rI_nk, rL_nk, rR_nk, rI_eq, rL_eq, rR_eq]) (by omega) (by omega) hT2
        simp (disch := omega) only [E_M_executes, B_201_0, B_201_78, B_201_88, B_201_118, q2_z.u, hNx, not_true_eq_false, inI, inL, isT, kInt, kByt, true_and, and_true, an_t, im_t, im_f, or_true, true_or, true_imp_iff, false_imp_iff, not_true_eq_false, not_false_eq_true, gK_uI, gK_uL, gK_uR, gK_uCI, gK_uCL, gN_uI, gN_uL, gN_uR, gN_uCI, gN_uCL, gR_uI, gR_uL, gR_uCI, gR_uCL, gI_uL, gI_uR, gI_uCL, gL_uI, gL_uR, gL_uCI, gz_uI, gz_uL, gz_uR, gz_uCI, gz_uCL, gs_uI, gs_uL, gs_uR, gs_uCI, gs_uCL, rI_at, rL_at, rR_at, rI_ne, rL_ne, rR_ne, rI_nk, rL_nk, rR_nk, rI_eq, rL_eq, rR_eq, Option.toList_some, Option.toList_none, List.cons_append, List.nil_append, List.append_nil, zc_eq, zc_lt, zc_le, zc_ge, zc_gt]
        all_goals exact back_z
      · have hsc : sc (uI (uI (uI M (c + 22 + 4 * d_z) 5 (tk + 1)) (c + 22 + 4 * d_z + 3) (w_z - 1) (v_z - 1)) (c + 22 + 4 * d_z) 5 st_z) (uI (uI (uI T' (m + 24) (3 * d_z + w_z - 1) (v_z - 1 - 1)) (m + 18) d_z j_z) (m + 18) d_z (j_z + 1)) m (c + 22 + 4 * d_z) d_z = sc M T' m (c + 22 + 4 * d_z) d_z := by
          unfold sc cdm
          simp (disch := omega) only [gK_uI, gK_uL, gK_uR, gK_uCI, gK_uCL, gN_uI, gN_uL, gN_uR, gN_uCI, gN_uCL, gR_uI, gR_uL, gR_uCI, gR_uCL, gI_uL, gI_uR, gI_uCL, gL_uI, gL_uR, gL_uCI, gz_uI, gz_uL, gz_uR, gz_uCI, gz_uCL, gs_uI, gs_uL, gs_uR, gs_uCI, gs_uCL, rI_at, rL_at, rR_at, rI_ne, rL_ne, rR_ne, rI_nk, rL_nk, rR_nk, rI_eq, rL_eq, rR_eq]
          have e1_z := b3.trans b4.symm
          unfold cdm at e1_z
          rw [u3, u9, e1_z, y7a]
          congr 1
        have r3' : gI (uI (uI (uI M (c + 22 + 4 * d_z) 5 (tk + 1)) (c + 22 + 4 * d_z + 3) (w_z - 1) (v_z - 1)) (c + 22 + 4 * d_z) 5 st_z) (c + 22 + 4 * d_z + 3) = upf (gI M (c + 22 + 4 * d_z + 3)) (w_z - 1) (v_z - 1) := by
          rw [rI_ne (by omega), rI_row, rI_ne (by omega)]
        refine Rel.frame h'0 q1_z q2_z (Ex.outC (P_z := fun r_z => c ≤ r_z ∧ r_z < c + 147) ((((Ex.refl _ M).uI _ _ (by omega)).uI _ _ (by omega)).uI _ _ (by omega)) (fun r_z hr => hr)) rfl (fun r_z h1 h2 => by simp (disch := omega) only [gK_uI, gK_uL, gK_uR, gK_uCI, gK_uCL, gN_uI, gN_uL, gN_uR, gN_uCI, gN_uCL, gR_uI, gR_uL, gR_uCI, gR_uCL, gI_uL, gI_uR, gI_uCL, gL_uI, gL_uR, gL_uCI, gz_uI, gz_uL, gz_uR, gz_uCI, gz_uCL, gs_uI, gs_uL, gs_uR, gs_uCI, gs_uCL, rI_at, rL_at, rR_at, rI_ne, rL_ne, rR_ne, rI_nk, rL_nk, rR_nk, rI_eq, rL_eq, rR_eq]) (fun r_z h1 h2 => ⟨by simp (disch := omega) only [gK_uI, gK_uL, gK_uR, gK_uCI, gK_uCL, gN_uI, gN_uL, gN_uR, gN_uCI, gN_uCL, gR_uI, gR_uL, gR_uCI, gR_uCL, gI_uL, gI_uR, gI_uCL, gL_uI, gL_uR, gL_uCI, gz_uI, gz_uL, gz_uR, gz_uCI, gz_uCL, gs_uI, gs_uL, gs_uR, gs_uCI, gs_uCL, rI_at, rL_at, rR_at, rI_ne, rL_ne, rR_ne, rI_nk, rL_nk, rR_nk, rI_eq, rL_eq, rR_eq], by simp (disch := omega) only [gK_uI, gK_uL, gK_uR, gK_uCI, gK_uCL, gN_uI, gN_uL, gN_uR, gN_uCI, gN_uCL, gR_uI, gR_uL, gR_uCI, gR_uCL, gI_uL, gI_uR, gI_uCL, gL_uI, gL_uR, gL_uCI, gz_uI, gz_uL, gz_uR, gz_uCI, gz_uCL, gs_uI, gs_uL, gs_uR, gs_uCI, gs_uCL, rI_at, rL_at, rR_at, rI_ne, rL_ne, rR_ne, rI_nk, rL_nk, rR_nk, rI_eq, rL_eq, rR_eq]⟩) (by simp (disch := omega) only [gK_uI, gK_uL, gK_uR, gK_uCI, gK_uCL, gN_uI, gN_uL, gN_uR, gN_uCI, gN_uCL, gR_uI, gR_uL, gR_uCI, gR_uCL, gI_uL, gI_uR, gI_uCL, gL_uI, gL_uR, gL_uCI, gz_uI, gz_uL, gz_uR, gz_uCI, gz_uCL, gs_uI, gs_uL, gs_uR, gs_uCI, gs_uCL, rI_at, rL_at, rR_at, rI_ne, rL_ne, rR_ne, rI_nk, rL_nk, rR_nk, rI_eq, rL_eq, rR_eq]) (by simp (disch := omega) only [gK_uI, gK_uL, gK_uR, gK_uCI, gK_uCL, gN_uI, gN_uL, gN_uR, gN_uCI, gN_uCL, gR_uI, gR_uL, gR_uCI, gR_uCL, gI_uL, gI_uR, gI_uCL, gL_uI, gL_uR, gL_uCI, gz_uI, gz_uL, gz_uR, gz_uCI, gz_uCL, gs_uI, gs_uL, gs_uR, gs_uCI, gs_uCL, rI_at, rL_at, rR_at, rI_ne, rL_ne, rR_ne, rI_nk, rL_nk, rR_nk, rI_eq, rL_eq, rR_eq]) (by simp (disch := omega) only [gK_uI, gK_uL, gK_uR, gK_uCI, gK_uCL, gN_uI, gN_uL, gN_uR, gN_uCI, gN_uCL, gR_uI, gR_uL, gR_uCI, gR_uCL, gI_uL, gI_uR, gI_uCL, gL_uI, gL_uR, gL_uCI, gz_uI, gz_uL, gz_uR, gz_uCI, gz_uCL, gs_uI, gs_uL, gs_uR, gs_uCI, gs_uCL, rI_at, rL_at, rR_at, rI_ne, rL_ne, rR_ne, rI_nk, rL_nk, rR_nk, rI_eq, rL_eq, rR_eq]; exact q15_z) (by simp (disch := omega) only [gK_uI, gK_uL, gK_uR, gK_uCI, gK_uCL, gN_uI, gN_uL, gN_uR, gN_uCI, gN_uCL, gR_uI, gR_uL, gR_uCI, gR_uCL, gI_uL, gI_uR, gI_uCL, gL_uI, gL_uR, gL_uCI, gz_uI, gz_uL, gz_uR, gz_uCI, gz_uCL, gs_uI, gs_uL, gs_uR, gs_uCI, gs_uCL, rI_at, rL_at, rR_at, rI_ne, rL_ne, rR_ne, rI_nk, rL_nk, rR_nk, rI_eq, rL_eq, rR_eq]; exact Int.le_refl _) (by simp (disch := omega) only [gK_uI, gK_uL, gK_uR, gK_uCI, gK_uCL, gN_uI, gN_uL, gN_uR, gN_uCI, gN_uCL, gR_uI, gR_uL, gR_uCI, gR_uCL, gI_uL, gI_uR, gI_uCL, gL_uI, gL_uR, gL_uCI, gz_uI, gz_uL, gz_uR, gz_uCI, gz_uCL, gs_uI, gs_uL, gs_uR, gs_uCI, gs_uCL, rI_at, rL_at, rR_at, rI_ne, rL_ne, rR_ne, rI_nk, rL_nk, rR_nk, rI_eq, rL_eq, rR_eq]; exact q17_z) (fun r_z h1 h2 => by simp (disch := omega) only [gK_uI, gK_uL, gK_uR, gK_uCI, gK_uCL, gN_uI, gN_uL, gN_uR, gN_uCI, gN_uCL, gR_uI, gR_uL, gR_uCI, gR_uCL, gI_uL, gI_uR, gI_uCL, gL_uI, gL_uR, gL_uCI, gz_uI, gz_uL, gz_uR, gz_uCI, gz_uCL, gs_uI, gs_uL, gs_uR, gs_uCI, gs_uCL, rI_at, rL_at, rR_at, rI_ne, rL_ne, rR_ne, rI_nk, rL_nk, rR_nk, rI_eq, rL_eq, rR_eq]) (fun k_z h1 h2 h3 h4 => by simp (disch := omega) only [gK_uI, gK_uL, gK_uR, gK_uCI, gK_uCL, gN_uI, gN_uL, gN_uR, gN_uCI, gN_uCL, gR_uI, gR_uL, gR_uCI, gR_uCL, gI_uL, gI_uR, gI_uCL, gL_uI, gL_uR, gL_uCI, gz_uI, gz_uL, gz_uR, gz_uCI, gz_uCL, gs_uI, gs_uL, gs_uR, gs_uCI, gs_uCL, rI_at, rL_at, rR_at, rI_ne, rL_ne, rR_ne, rI_nk, rL_nk, rR_nk, rI_eq, rL_eq, rR_eq]) (TrR.fr q9_z (by simp (disch := omega) only [gK_uI, gK_uL, gK_uR, gK_uCI, gK_uCL, gN_uI, gN_uL, gN_uR, gN_uCI, gN_uCL, gR_uI, gR_uL, gR_uCI, gR_uCL, gI_uL, gI_uR, gI_uCL, gL_uI, gL_uR, gL_uCI, gz_uI, gz_uL, gz_uR, gz_uCI, gz_uCL, gs_uI, gs_uL, gs_uR, gs_uCI, gs_uCL, rI_at, rL_at, rR_at, rI_ne, rL_ne, rR_ne, rI_nk, rL_nk, rR_nk, rI_eq, rL_eq, rR_eq]) (by simp (disch := omega) only [gK_uI, gK_uL, gK_uR, gK_uCI, gK_uCL, gN_uI, gN_uL, gN_uR, gN_uCI, gN_uCL, gR_uI, gR_uL, gR_uCI, gR_uCL, gI_uL, gI_uR, gI_uCL, gL_uI, gL_uR, gL_uCI, gz_uI, gz_uL, gz_uR, gz_uCI, gz_uCL, gs_uI, gs_uL, gs_uR, gs_uCI, gs_uCL, rI_at, rL_at, rR_at, rI_ne, rL_ne, rR_ne, rI_nk, rL_nk, rR_nk, rI_eq, rL_eq, rR_eq]) (by simp (disch := omega) only [gK_uI, gK_uL, gK_uR, gK_uCI, gK_uCL, gN_uI, gN_uL, gN_uR, gN_uCI, gN_uCL, gR_uI, gR_uL, gR_uCI, gR_uCL, gI_uL, gI_uR, gI_uCL, gL_uI, gL_uR, gL_uCI, gz_uI, gz_uL, gz_uR, gz_uCI, gz_uCL, gs_uI, gs_uL, gs_uR, gs_uCI, gs_uCL, rI_at, rL_at, rR_at, rI_ne, rL_ne, rR_ne, rI_nk, rL_nk, rR_nk, rI_eq, rL_eq, rR_eq]) (by simp (disch := omega) only [gK_uI, gK_uL, gK_uR, gK_uCI, gK_uCL, gN_uI, gN_uL, gN_uR, gN_uCI, gN_uCL, gR_uI, gR_uL, gR_uCI, gR_uCL, gI_uL, gI_uR, gI_uCL, gL_uI, gL_uR, gL_uCI, gz_uI, gz_uL, gz_uR, gz_uCI, gz_uCL, gs_uI, gs_uL, gs_uR, gs_uCI, gs_uCL, rI_at, rL_at, rR_at, rI_ne, rL_ne, rR_ne, rI_nk, rL_nk, rR_nk, rI_eq, rL_eq, rR_eq]) (by simp (disch := omega) only [gK_uI, gK_uL, gK_uR, gK_uCI, gK_uCL, gN_uI, gN_uL, gN_uR, gN_uCI, gN_uCL, gR_uI, gR_uL, gR_uCI, gR_uCL, gI_uL, gI_uR, gI_uCL, gL_uI, gL_uR, gL_uCI, gz_uI, gz_uL, gz_uR, gz_uCI, gz_uCL, gs_uI, gs_uL, gs_uR, gs_uCI, gs_uCL, rI_at, rL_at, rR_at, rI_ne, rL_ne, rR_ne, rI_nk, rL_nk, rR_nk, rI_eq, rL_eq, rR_eq]) (by simp (disch := omega) only [gK_uI, gK_uL, gK_uR, gK_uCI, gK_uCL, gN_uI, gN_uL, gN_uR, gN_uCI, gN_uCL, gR_uI, gR_uL, gR_uCI, gR_uCL, gI_uL, gI_uR, gI_uCL, gL_uI, gL_uR, gL_uCI, gz_uI, gz_uL, gz_uR, gz_uCI, gz_uCL, gs_uI, gs_uL, gs_uR, gs_uCI, gs_uCL, rI_at, rL_at, rR_at, rI_ne, rL_ne, rR_ne, rI_nk, rL_nk, rR_nk, rI_eq, rL_eq, rR_eq])) ?_
        refine FrR.top q10_z hd_z (by simp (disch := omega) only [gK_uI, gK_uL, gK_uR, gK_uCI, gK_uCL, gN_uI, gN_uL, gN_uR, gN_uCI, gN_uCL, gR_uI, gR_uL, gR_uCI, gR_uCL, gI_uL, gI_uR, gI_uCL, gL_uI, gL_uR, gL_uCI, gz_uI, gz_uL, gz_uR, gz_uCI, gz_uCL, gs_uI, gs_uL, gs_uR, gs_uCI, gs_uCL, rI_at, rL_at, rR_at, rI_ne, rL_ne, rR_ne, rI_nk, rL_nk, rR_nk, rI_eq, rL_eq, rR_eq]) (by simp (disch := omega) only [gK_uI, gK_uL, gK_uR, gK_uCI, gK_uCL, gN_uI, gN_uL, gN_uR, gN_uCI, gN_uCL, gR_uI, gR_uL, gR_uCI, gR_uCL, gI_uL, gI_uR, gI_uCL, gL_uI, gL_uR, gL_uCI, gz_uI, gz_uL, gz_uR, gz_uCI, gz_uCL, gs_uI, gs_uL, gs_uR, gs_uCI, gs_uCL, rI_at, rL_at, rR_at, rI_ne, rL_ne, rR_ne, rI_nk, rL_nk, rR_nk, rI_eq, rL_eq, rR_eq]) rfl (fun r_z h1 h2 => ⟨by simp (disch := omega) only [gK_uI, gK_uL, gK_uR, gK_uCI, gK_uCL, gN_uI, gN_uL, gN_uR, gN_uCI, gN_uCL, gR_uI, gR_uL, gR_uCI, gR_uCL, gI_uL, gI_uR, gI_uCL, gL_uI, gL_uR, gL_uCI, gz_uI, gz_uL, gz_uR, gz_uCI, gz_uCL, gs_uI, gs_uL, gs_uR, gs_uCI, gs_uCL, rI_at, rL_at, rR_at, rI_ne, rL_ne, rR_ne, rI_nk, rL_nk, rR_nk, rI_eq, rL_eq, rR_eq], by simp (disch := omega) only [gK_uI, gK_uL, gK_uR, gK_uCI, gK_uCL, gN_uI, gN_uL, gN_uR, gN_uCI, gN_uCL, gR_uI, gR_uL, gR_uCI, gR_uCL, gI_uL, gI_uR, gI_uCL, gL_uI, gL_uR, gL_uCI, gz_uI, gz_uL, gz_uR, gz_uCI, gz_uCL, gs_uI, gs_uL, gs_uR, gs_uCI, gs_uCL, rI_at, rL_at, rR_at, rI_ne, rL_ne, rR_ne, rI_nk, rL_nk, rR_nk, rI_eq, rL_eq, rR_eq]⟩) (by simp (disch := omega) only [gK_uI, gK_uL, gK_uR, gK_uCI, gK_uCL, gN_uI, gN_uL, gN_uR, gN_uCI, gN_uCL, gR_uI, gR_uL, gR_uCI, gR_uCL, gI_uL, gI_uR, gI_uCL, gL_uI, gL_uR, gL_uCI, gz_uI, gz_uL, gz_uR, gz_uCI, gz_uCL, gs_uI, gs_uL, gs_uR, gs_uCI, gs_uCL, rI_at, rL_at, rR_at, rI_ne, rL_ne, rR_ne, rI_nk, rL_nk, rR_nk, rI_eq, rL_eq, rR_eq]) (by simp (disch := omega) only [gK_uI, gK_uL, gK_uR, gK_uCI, gK_uCL, gN_uI, gN_uL, gN_uR, gN_uCI, gN_uCL, gR_uI, gR_uL, gR_uCI, gR_uCL, gI_uL, gI_uR, gI_uCL, gL_uI, gL_uR, gL_uCI, gz_uI, gz_uL, gz_uR, gz_uCI, gz_uCL, gs_uI, gs_uL, gs_uR, gs_uCI, gs_uCL, rI_at, rL_at, rR_at, rI_ne, rL_ne, rR_ne, rI_nk, rL_nk, rR_nk, rI_eq, rL_eq, rR_eq]) (fun l h1 h2 => ⟨by simp (disch := omega) only [gK_uI, gK_uL, gK_uR, gK_uCI, gK_uCL, gN_uI, gN_uL, gN_uR, gN_uCI, gN_uCL, gR_uI, gR_uL, gR_uCI, gR_uCL, gI_uL, gI_uR, gI_uCL, gL_uI, gL_uR, gL_uCI, gz_uI, gz_uL, gz_uR, gz_uCI, gz_uCL, gs_uI, gs_uL, gs_uR, gs_uCI, gs_uCL, rI_at, rL_at, rR_at, rI_ne, rL_ne, rR_ne, rI_nk, rL_nk, rR_nk, rI_eq, rL_eq, rR_eq], by simp (disch := omega) only [gK_uI, gK_uL, gK_uR, gK_uCI, gK_uCL, gN_uI, gN_uL, gN_uR, gN_uCI, gN_uCL, gR_uI, gR_uL, gR_uCI, gR_uCL, gI_uL, gI_uR, gI_uCL, gL_uI, gL_uR, gL_uCI, gz_uI, gz_uL, gz_uR, gz_uCI, gz_uCL, gs_uI, gs_uL, gs_uR, gs_uCI, gs_uCL, rI_at, rL_at, rR_at, rI_ne, rL_ne, rR_ne, rI_nk, rL_nk, rR_nk, rI_eq, rL_eq, rR_eq], by simp (disch := omega) only [gK_uI, gK_uL, gK_uR, gK_uCI, gK_uCL, gN_uI, gN_uL, gN_uR, gN_uCI, gN_uCL, gR_uI, gR_uL, gR_uCI, gR_uCL, gI_uL, gI_uR, gI_uCL, gL_uI, gL_uR, gL_uCI, gz_uI, gz_uL, gz_uR, gz_uCI, gz_uCL, gs_uI, gs_uL, gs_uR, gs_uCI, gs_uCL, rI_at, rL_at, rR_at, rI_ne, rL_ne, rR_ne, rI_nk, rL_nk, rR_nk, rI_eq, rL_eq, rR_eq]⟩) (fun l h1 h2 => ⟨by simp (disch := omega) only [gK_uI, gK_uL, gK_uR, gK_uCI, gK_uCL, gN_uI, gN_uL, gN_uR, gN_uCI, gN_uCL, gR_uI, gR_uL, gR_uCI, gR_uCL, gI_uL, gI_uR, gI_uCL, gL_uI, gL_uR, gL_uCI, gz_uI, gz_uL, gz_uR, gz_uCI, gz_uCL, gs_uI, gs_uL, gs_uR, gs_uCI, gs_uCL, rI_at, rL_at, rR_at, rI_ne, rL_ne, rR_ne, rI_nk, rL_nk, rR_nk, rI_eq, rL_eq, rR_eq], by simp (disch := omega) only [gK_uI, gK_uL, gK_uR, gK_uCI, gK_uCL, gN_uI, gN_uL, gN_uR, gN_uCI, gN_uCL, gR_uI, gR_uL, gR_uCI, gR_uCL, gI_uL, gI_uR, gI_uCL, gL_uI, gL_uR, gL_uCI, gz_uI, gz_uL, gz_uR, gz_uCI, gz_uCL, gs_uI, gs_uL, gs_uR, gs_uCI, gs_uCL, rI_at, rL_at, rR_at, rI_ne, rL_ne, rR_ne, rI_nk, rL_nk, rR_nk, rI_eq, rL_eq, rR_eq]⟩) (fun l h1 h2 => ⟨by simp (disch := omega) only [gK_uI, gK_uL, gK_uR, gK_uCI, gK_uCL, gN_uI, gN_uL, gN_uR, gN_uCI, gN_uCL, gR_uI, gR_uL, gR_uCI, gR_uCL, gI_uL, gI_uR, gI_uCL, gL_uI, gL_uR, gL_uCI, gz_uI, gz_uL, gz_uR, gz_uCI, gz_uCL, gs_uI, gs_uL, gs_uR, gs_uCI, gs_uCL, rI_at, rL_at, rR_at, rI_ne, rL_ne, rR_ne, rI_nk, rL_nk, rR_nk, rI_eq, rL_eq, rR_eq], by simp (disch := omega) only [gK_uI, gK_uL, gK_uR, gK_uCI, gK_uCL, gN_uI, gN_uL, gN_uR, gN_uCI, gN_uCL, gR_uI, gR_uL, gR_uCI, gR_uCL, gI_uL, gI_uR, gI_uCL, gL_uI, gL_uR, gL_uCI, gz_uI, gz_uL, gz_uR, gz_uCI, gz_uCL, gs_uI, gs_uL, gs_uR, gs_uCI, gs_uCL, rI_at, rL_at, rR_at, rI_ne, rL_ne, rR_ne, rI_nk, rL_nk, rR_nk, rI_eq, rL_eq, rR_eq]⟩) ?_ (by rw [hsc]; simp (disch := omega) only [gK_uI, gK_uL, gK_uR, gK_uCI, gK_uCL, gN_uI, gN_uL, gN_uR, gN_uCI, gN_uCL, gR_uI, gR_uL, gR_uCI, gR_uCL, gI_uL, gI_uR, gI_uCL, gL_uI, gL_uR, gL_uCI, gz_uI, gz_uL, gz_uR, gz_uCI, gz_uCL, gs_uI, gs_uL, gs_uR, gs_uCI, gs_uCL, rI_at, rL_at, rR_at, rI_ne, rL_ne, rR_ne, rI_nk, rL_nk, rR_nk, rI_eq, rL_eq, rR_eq]; omega) (by rw [hsc]; simp (disch := omega) only [gK_uI, gK_uL, gK_uR, gK_uCI, gK_uCL, gN_uI, gN_uL, gN_uR, gN_uCI, gN_uCL, gR_uI, gR_uL, gR_uCI, gR_uCL, gI_uL, gI_uR, gI_uCL, gL_uI, gL_uR, gL_uCI, gz_uI, gz_uL, gz_uR, gz_uCI, gz_uCL, gs_uI, gs_uL, gs_uR, gs_uCI, gs_uCL, rI_at, rL_at, rR_at, rI_ne, rL_ne, rR_ne, rI_nk, rL_nk, rR_nk, rI_eq, rL_eq, rR_eq]; exact kP_z) ?_
        · unfold FrL lnm
          unfold lnm at y2 y3 u8
          have ec : cdm (uI (uI (uI T' (m + 24) (3 * d_z + w_z - 1) (v_z - 1 - 1)) (m + 18) d_z j_z) (m + 18) d_z (j_z + 1)) m x_z = cdm T' m x_z := by
            funext k_z
            unfold cdm
            simp (disch := omega) only [gK_uI, gK_uL, gK_uR, gK_uCI, gK_uCL, gN_uI, gN_uL, gN_uR, gN_uCI, gN_uCL, gR_uI, gR_uL, gR_uCI, gR_uCL, gI_uL, gI_uR, gI_uCL, gL_uI, gL_uR, gL_uCI, gz_uI, gz_uL, gz_uR, gz_uCI, gz_uCL, gs_uI, gs_uL, gs_uR, gs_uCI, gs_uCL, rI_at, rL_at, rR_at, rI_ne, rL_ne, rR_ne, rI_nk, rL_nk, rR_nk, rI_eq, rL_eq, rR_eq]
          simp (disch := omega) only [gK_uI, gK_uL, gK_uR, gK_uCI, gK_uCL, gN_uI, gN_uL, gN_uR, gN_uCI, gN_uCL, gR_uI, gR_uL, gR_uCI, gR_uCL, gI_uL, gI_uR, gI_uCL, gL_uI, gL_uR, gL_uCI, gz_uI, gz_uL, gz_uR, gz_uCI, gz_uCL, gs_uI, gs_uL, gs_uR, gs_uCI, gs_uCL, rI_at, rL_at, rR_at, rI_ne, rL_ne, rR_ne, rI_nk, rL_nk, rR_nk, rI_eq, rL_eq, rR_eq, u3, ec]
          rw [u3] at y1 y2 y8
          rw [hw]
          refine ⟨y1, y2, ⟨by omega, by omega, by omega⟩, y4, y5, y6, fun i_z i0_z i1_z => ?_, ?_⟩
          · obtain ⟨w7a, w7b, w7c, w7d⟩ := y7 i_z i0_z i1_z
            by_cases ci : i_z = w_z - 1
            · subst ci
              simp (disch := omega) only [gK_uI, gK_uL, gK_uR, gK_uCI, gK_uCL, gN_uI, gN_uL, gN_uR, gN_uCI, gN_uCL, gR_uI, gR_uL, gR_uCI, gR_uCL, gI_uL, gI_uR, gI_uCL, gL_uI, gL_uR, gL_uCI, gz_uI, gz_uL, gz_uR, gz_uCI, gz_uCL, gs_uI, gs_uL, gs_uR, gs_uCI, gs_uCL, rI_at, rL_at, rR_at, rI_ne, rL_ne, rR_ne, rI_nk, rL_nk, rR_nk, rI_eq, rL_eq, rR_eq]
              rw [hv] at w7b
              exact ⟨w7a, by omega, by omega, by omega⟩
            · simp (disch := omega) only [gK_uI, gK_uL, gK_uR, gK_uCI, gK_uCL, gN_uI, gN_uL, gN_uR, gN_uCI, gN_uCL, gR_uI, gR_uL, gR_uCI, gR_uCL, gI_uL, gI_uR, gI_uCL, gL_uI, gL_uR, gL_uCI, gz_uI, gz_uL, gz_uR, gz_uCI, gz_uCL, gs_uI, gs_uL, gs_uR, gs_uCI, gs_uCL, rI_at, rL_at, rR_at, rI_ne, rL_ne, rR_ne, rI_nk, rL_nk, rR_nk, rI_eq, rL_eq, rR_eq]
              exact ⟨w7a, w7b, w7c, w7d⟩
          · rw [show ((j_z : Int) + 1).toNat = j_z + 1 from by omega, b4]
            rw [b3, hw] at y8
            exact y8
        · unfold wrk lnm
          rw [r3']
          have l1 := lft_dec (f_z := gI M (c + 22 + 4 * d_z + 3)) (w_z := w_z) b8 b9
          rw [hv] at l1
          simp (disch := omega) only [gK_uI, gK_uL, gK_uR, gK_uCI, gK_uCL, gN_uI, gN_uL, gN_uR, gN_uCI, gN_uCL, gR_uI, gR_uL, gR_uCI, gR_uCL, gI_uL, gI_uR, gI_uCL, gL_uI, gL_uR, gL_uCI, gz_uI, gz_uL, gz_uR, gz_uCI, gz_uCL, gs_uI, gs_uL, gs_uR, gs_uCI, gs_uCL, rI_at, rL_at, rR_at, rI_ne, rL_ne, rR_ne, rI_nk, rL_nk, rR_nk, rI_eq, rL_eq, rR_eq]
          rw [hw, l1, htk]
          omega
  · have hv1 : v_z = 1 := by omega
    subst hv1
    have hX := fun qq => X_passNext0 (G := G) (Q := qq) f2_z (by omega) (by omega) (by omega) (by omega) (by rw [hw, hv])
    rw [t9, hw] at hX
    have hM2 := hN_z (uI (uI (uI M (c + 22 + 4 * d_z) 5 (tk + 1)) (c + 22 + 4 * d_z + 3) (w_z - 1) 0) (c + 22 + 4 * d_z) 7 (w_z - 1)) (E_z - 201) (by omega) (Ex.outC (P_z := fun r_z => c ≤ r_z ∧ r_z < c + 147) ((((Ex.refl _ M).uI _ _ (by omega)).uI _ _ (by omega)).uI _ _ (by omega)) (fun r_z hr => hr)) (fun T' h' R_z hR => ?_)
    · refine HC_body r1_z hd_z ht0 i0_z (by omega) (fun u5 u6 u7 => ?_)
      rw [e0_z]
      simp (disch := omega) only [B_73_35, B_73_58, f2_z.u, r1_z.1.u, hP, B_73_76, hd_z, t9, hX, B_73_91, B_73_145, r15, nz, B_73_172, B_73_198, not_true_eq_false, inI, inL, isT, kInt, kByt, true_and, and_true, an_t, im_t, im_f, or_true, true_or, true_imp_iff, false_imp_iff, not_true_eq_false, not_false_eq_true, gK_uI, gK_uL, gK_uR, gK_uCI, gK_uCL, gN_uI, gN_uL, gN_uR, gN_uCI, gN_uCL, gR_uI, gR_uL, gR_uCI, gR_uCL, gI_uL, gI_uR, gI_uCL, gL_uI, gL_uR, gL_uCI, gz_uI, gz_uL, gz_uR, gz_uCI, gz_uCL, gs_uI, gs_uL, gs_uR, gs_uCI, gs_uCL, rI_at, rL_at, rR_at, rI_ne, rL_ne, rR_ne, rI_nk, rL_nk, rR_nk, rI_eq, rL_eq, rR_eq, Option.toList_some, Option.toList_none, List.cons_append, List.nil_append, List.append_nil, zc_eq, zc_lt, zc_le, zc_ge, zc_gt]
      exact hM2 _ _ _ _
    · obtain ⟨j_z, L_z, b1, b2, b3, b4, b5, b6, b7, b8, b9, b10, b11⟩ := loops T' h'
      have h'0 := h'
      obtain ⟨q1_z, q2_z, q3_z, -, q8_z, q9_z, q10_z, q11_z, q12_z, q13_z, ⟨q14_z, q15_z, q16_z⟩, q17_z⟩ := h'
      obtain ⟨k1_z, k2_z, -, kP_z⟩ := q10_z.get hd_z
      have u_z := b1
      obtain ⟨u1_z, u2_z, u3, u4_z, u5, u6, u7, u8, u9, u10, u11, u12, u13, u14, u15, u16, u17⟩ := u_z
      obtain ⟨y1, y2, y3, y4, y5, y6, y7, y8⟩ := b7
      rw [hw] at y6 y7
      obtain ⟨y7a, y7b, -, -⟩ := y7 (w_z - 1) (by omega) (by omega)
      rw [show (3 : Int) * d_z + (w_z - 1) = 3 * d_z + w_z - 1 from by omega] at y7a y7b
      rw [hv] at y7b
      have hNx := fun qq => X_nexts0 (G := G) (Q := qq) (l := (d_z : Int)) (w_z := w_z) q2_z u1_z (by omega) (by omega) y6.1.symm b8 b9 (by omega)
      have hT2 := hR (uI (uI T' (m + 22) d_z (w_z - 1)) (m + 18) d_z (tk + 1)) (((Ex.refl _ T').uI _ _ (by omega)).uI _ _ (by omega)) ?_
      · refine HM_tok q2_z b1 hlt ?_
        rw [b2]
        have back_z : At G 197 231 [a_r m, a_i 1] [] (uI T' (m + 22) d_z (w_z - 1)) R_z := HM_back q2_z (by simp (disch := omega) only [gK_uI, gK_uL, gK_uR, gK_uCI, gK_uCL, gN_uI, gN_uL, gN_uR, gN_uCI, gN_uCL, gR_uI, gR_uL, gR_uCI, gR_uCL, gI_uL, gI_uR, gI_uCL, gL_uI, gL_uR, gL_uCI, gz_uI, gz_uL, gz_uR, gz_uCI, gz_uCL, gs_uI, gs_uL, gs_uR, gs_uCI, gs_uCL, rI_at, rL_at, rR_at, rI_ne, rL_ne, rR_ne, rI_nk, rL_nk, rR_nk, rI_eq, rL_eq, rR_eq]; exact q16_z) (by simp (disch := omega) only [gK_uI, gK_uL, gK_uR, gK_uCI, gK_uCL, gN_uI, gN_uL, gN_uR, gN_uCI, gN_uCL, gR_uI, gR_uL, gR_uCI, gR_uCL, gI_uL, gI_uR, gI_uCL, gL_uI, gL_uR, gL_uCI, gz_uI, gz_uL, gz_uR, gz_uCI, gz_uCL, gs_uI, gs_uL, gs_uR, gs_uCI, gs_uCL, rI_at, rL_at, rR_at, rI_ne, rL_ne, rR_ne, rI_nk, rL_nk, rR_nk, rI_eq, rL_eq, rR_eq]; exact u1_z) (by omega) (by omega) (by simp (disch := omega) only [gK_uI, gK_uL, gK_uR, gK_uCI, gK_uCL, gN_uI, gN_uL, gN_uR, gN_uCI, gN_uCL, gR_uI, gR_uL, gR_uCI, gR_uCL, gI_uL, gI_uR, gI_uCL, gL_uI, gL_uR, gL_uCI, gz_uI, gz_uL, gz_uR, gz_uCI, gz_uCL, gs_uI, gs_uL, gs_uR, gs_uCI, gs_uCL, rI_at, rL_at, rR_at, rI_ne, rL_ne, rR_ne, rI_nk, rL_nk, rR_nk, rI_eq, rL_eq, rR_eq]; exact u10) (by omega) (by omega) hT2
        simp (disch := omega) only [E_M_executes, B_201_0, B_201_78, B_201_88, B_201_118, q2_z.u, hNx, not_true_eq_false, inI, inL, isT, kInt, kByt, true_and, and_true, an_t, im_t, im_f, or_true, true_or, true_imp_iff, false_imp_iff, not_true_eq_false, not_false_eq_true, gK_uI, gK_uL, gK_uR, gK_uCI, gK_uCL, gN_uI, gN_uL, gN_uR, gN_uCI, gN_uCL, gR_uI, gR_uL, gR_uCI, gR_uCL, gI_uL, gI_uR, gI_uCL, gL_uI, gL_uR, gL_uCI, gz_uI, gz_uL, gz_uR, gz_uCI, gz_uCL, gs_uI, gs_uL, gs_uR, gs_uCI, gs_uCL, rI_at, rL_at, rR_at, rI_ne, rL_ne, rR_ne, rI_nk, rL_nk, rR_nk, rI_eq, rL_eq, rR_eq, Option.toList_some, Option.toList_none, List.cons_append, List.nil_append, List.append_nil, zc_eq, zc_lt, zc_le, zc_ge, zc_gt]
        all_goals exact back_z
      · have e5_z : gI (uI (uI (uI M (c + 22 + 4 * d_z) 5 (tk + 1)) (c + 22 + 4 * d_z + 3) (w_z - 1) 0) (c + 22 + 4 * d_z) 7 (w_z - 1)) (c + 22 + 4 * d_z) 5 = tk + 1 := by simp (disch := omega) only [gK_uI, gK_uL, gK_uR, gK_uCI, gK_uCL, gN_uI, gN_uL, gN_uR, gN_uCI, gN_uCL, gR_uI, gR_uL, gR_uCI, gR_uCL, gI_uL, gI_uR, gI_uCL, gL_uI, gL_uR, gL_uCI, gz_uI, gz_uL, gz_uR, gz_uCI, gz_uCL, gs_uI, gs_uL, gs_uR, gs_uCI, gs_uCL, rI_at, rL_at, rR_at, rI_ne, rL_ne, rR_ne, rI_nk, rL_nk, rR_nk, rI_eq, rL_eq, rR_eq]
        have hsc : sc (uI (uI (uI M (c + 22 + 4 * d_z) 5 (tk + 1)) (c + 22 + 4 * d_z + 3) (w_z - 1) 0) (c + 22 + 4 * d_z) 7 (w_z - 1)) (uI (uI T' (m + 22) d_z (w_z - 1)) (m + 18) d_z (tk + 1)) m (c + 22 + 4 * d_z) d_z = (L_z, false) := by
          unfold sc
          rw [e5_z, ← b5, show (tk + 1).toNat = tk.toNat + 1 from by omega]
          congr 1
          funext k_z
          unfold cdm
          simp (disch := omega) only [gK_uI, gK_uL, gK_uR, gK_uCI, gK_uCL, gN_uI, gN_uL, gN_uR, gN_uCI, gN_uCL, gR_uI, gR_uL, gR_uCI, gR_uCL, gI_uL, gI_uR, gI_uCL, gL_uI, gL_uR, gL_uCI, gz_uI, gz_uL, gz_uR, gz_uCI, gz_uCL, gs_uI, gs_uL, gs_uR, gs_uCI, gs_uCL, rI_at, rL_at, rR_at, rI_ne, rL_ne, rR_ne, rI_nk, rL_nk, rR_nk, rI_eq, rL_eq, rR_eq, u3]
        have hso : sc M T' m (c + 22 + 4 * d_z) d_z = ((true, j_z) :: L_z, false) := by
          unfold sc
          rw [u3, u9]
          exact b3
        rw [hso] at kP_z
        have r3' : ∀ i_z, 0 ≤ i_z → i_z < w_z - 1 → gI (uI (uI (uI M (c + 22 + 4 * d_z) 5 (tk + 1)) (c + 22 + 4 * d_z + 3) (w_z - 1) 0) (c + 22 + 4 * d_z) 7 (w_z - 1)) (c + 22 + 4 * d_z + 3) i_z = gI M (c + 22 + 4 * d_z + 3) i_z := fun i_z i0_z i1_z => by simp (disch := omega) only [gK_uI, gK_uL, gK_uR, gK_uCI, gK_uCL, gN_uI, gN_uL, gN_uR, gN_uCI, gN_uCL, gR_uI, gR_uL, gR_uCI, gR_uCL, gI_uL, gI_uR, gI_uCL, gL_uI, gL_uR, gL_uCI, gz_uI, gz_uL, gz_uR, gz_uCI, gz_uCL, gs_uI, gs_uL, gs_uR, gs_uCI, gs_uCL, rI_at, rL_at, rR_at, rI_ne, rL_ne, rR_ne, rI_nk, rL_nk, rR_nk, rI_eq, rL_eq, rR_eq]
        refine Rel.frame h'0 q1_z q2_z (Ex.outC (P_z := fun r_z => c ≤ r_z ∧ r_z < c + 147) ((((Ex.refl _ M).uI _ _ (by omega)).uI _ _ (by omega)).uI _ _ (by omega)) (fun r_z hr => hr)) rfl (fun r_z h1 h2 => by simp (disch := omega) only [gK_uI, gK_uL, gK_uR, gK_uCI, gK_uCL, gN_uI, gN_uL, gN_uR, gN_uCI, gN_uCL, gR_uI, gR_uL, gR_uCI, gR_uCL, gI_uL, gI_uR, gI_uCL, gL_uI, gL_uR, gL_uCI, gz_uI, gz_uL, gz_uR, gz_uCI, gz_uCL, gs_uI, gs_uL, gs_uR, gs_uCI, gs_uCL, rI_at, rL_at, rR_at, rI_ne, rL_ne, rR_ne, rI_nk, rL_nk, rR_nk, rI_eq, rL_eq, rR_eq]) (fun r_z h1 h2 => ⟨by simp (disch := omega) only [gK_uI, gK_uL, gK_uR, gK_uCI, gK_uCL, gN_uI, gN_uL, gN_uR, gN_uCI, gN_uCL, gR_uI, gR_uL, gR_uCI, gR_uCL, gI_uL, gI_uR, gI_uCL, gL_uI, gL_uR, gL_uCI, gz_uI, gz_uL, gz_uR, gz_uCI, gz_uCL, gs_uI, gs_uL, gs_uR, gs_uCI, gs_uCL, rI_at, rL_at, rR_at, rI_ne, rL_ne, rR_ne, rI_nk, rL_nk, rR_nk, rI_eq, rL_eq, rR_eq], by simp (disch := omega) only [gK_uI, gK_uL, gK_uR, gK_uCI, gK_uCL, gN_uI, gN_uL, gN_uR, gN_uCI, gN_uCL, gR_uI, gR_uL, gR_uCI, gR_uCL, gI_uL, gI_uR, gI_uCL, gL_uI, gL_uR, gL_uCI, gz_uI, gz_uL, gz_uR, gz_uCI, gz_uCL, gs_uI, gs_uL, gs_uR, gs_uCI, gs_uCL, rI_at, rL_at, rR_at, rI_ne, rL_ne, rR_ne, rI_nk, rL_nk, rR_nk, rI_eq, rL_eq, rR_eq]⟩) (by simp (disch := omega) only [gK_uI, gK_uL, gK_uR, gK_uCI, gK_uCL, gN_uI, gN_uL, gN_uR, gN_uCI, gN_uCL, gR_uI, gR_uL, gR_uCI, gR_uCL, gI_uL, gI_uR, gI_uCL, gL_uI, gL_uR, gL_uCI, gz_uI, gz_uL, gz_uR, gz_uCI, gz_uCL, gs_uI, gs_uL, gs_uR, gs_uCI, gs_uCL, rI_at, rL_at, rR_at, rI_ne, rL_ne, rR_ne, rI_nk, rL_nk, rR_nk, rI_eq, rL_eq, rR_eq]) (by simp (disch := omega) only [gK_uI, gK_uL, gK_uR, gK_uCI, gK_uCL, gN_uI, gN_uL, gN_uR, gN_uCI, gN_uCL, gR_uI, gR_uL, gR_uCI, gR_uCL, gI_uL, gI_uR, gI_uCL, gL_uI, gL_uR, gL_uCI, gz_uI, gz_uL, gz_uR, gz_uCI, gz_uCL, gs_uI, gs_uL, gs_uR, gs_uCI, gs_uCL, rI_at, rL_at, rR_at, rI_ne, rL_ne, rR_ne, rI_nk, rL_nk, rR_nk, rI_eq, rL_eq, rR_eq]) (by simp (disch := omega) only [gK_uI, gK_uL, gK_uR, gK_uCI, gK_uCL, gN_uI, gN_uL, gN_uR, gN_uCI, gN_uCL, gR_uI, gR_uL, gR_uCI, gR_uCL, gI_uL, gI_uR, gI_uCL, gL_uI, gL_uR, gL_uCI, gz_uI, gz_uL, gz_uR, gz_uCI, gz_uCL, gs_uI, gs_uL, gs_uR, gs_uCI, gs_uCL, rI_at, rL_at, rR_at, rI_ne, rL_ne, rR_ne, rI_nk, rL_nk, rR_nk, rI_eq, rL_eq, rR_eq]; exact q15_z) (by simp (disch := omega) only [gK_uI, gK_uL, gK_uR, gK_uCI, gK_uCL, gN_uI, gN_uL, gN_uR, gN_uCI, gN_uCL, gR_uI, gR_uL, gR_uCI, gR_uCL, gI_uL, gI_uR, gI_uCL, gL_uI, gL_uR, gL_uCI, gz_uI, gz_uL, gz_uR, gz_uCI, gz_uCL, gs_uI, gs_uL, gs_uR, gs_uCI, gs_uCL, rI_at, rL_at, rR_at, rI_ne, rL_ne, rR_ne, rI_nk, rL_nk, rR_nk, rI_eq, rL_eq, rR_eq]; exact Int.le_refl _) (by simp (disch := omega) only [gK_uI, gK_uL, gK_uR, gK_uCI, gK_uCL, gN_uI, gN_uL, gN_uR, gN_uCI, gN_uCL, gR_uI, gR_uL, gR_uCI, gR_uCL, gI_uL, gI_uR, gI_uCL, gL_uI, gL_uR, gL_uCI, gz_uI, gz_uL, gz_uR, gz_uCI, gz_uCL, gs_uI, gs_uL, gs_uR, gs_uCI, gs_uCL, rI_at, rL_at, rR_at, rI_ne, rL_ne, rR_ne, rI_nk, rL_nk, rR_nk, rI_eq, rL_eq, rR_eq]; exact q17_z) (fun r_z h1 h2 => by simp (disch := omega) only [gK_uI, gK_uL, gK_uR, gK_uCI, gK_uCL, gN_uI, gN_uL, gN_uR, gN_uCI, gN_uCL, gR_uI, gR_uL, gR_uCI, gR_uCL, gI_uL, gI_uR, gI_uCL, gL_uI, gL_uR, gL_uCI, gz_uI, gz_uL, gz_uR, gz_uCI, gz_uCL, gs_uI, gs_uL, gs_uR, gs_uCI, gs_uCL, rI_at, rL_at, rR_at, rI_ne, rL_ne, rR_ne, rI_nk, rL_nk, rR_nk, rI_eq, rL_eq, rR_eq]) (fun k_z h1 h2 h3 h4 => by simp (disch := omega) only [gK_uI, gK_uL, gK_uR, gK_uCI, gK_uCL, gN_uI, gN_uL, gN_uR, gN_uCI, gN_uCL, gR_uI, gR_uL, gR_uCI, gR_uCL, gI_uL, gI_uR, gI_uCL, gL_uI, gL_uR, gL_uCI, gz_uI, gz_uL, gz_uR, gz_uCI, gz_uCL, gs_uI, gs_uL, gs_uR, gs_uCI, gs_uCL, rI_at, rL_at, rR_at, rI_ne, rL_ne, rR_ne, rI_nk, rL_nk, rR_nk, rI_eq, rL_eq, rR_eq]) (TrR.fr q9_z (by simp (disch := omega) only [gK_uI, gK_uL, gK_uR, gK_uCI, gK_uCL, gN_uI, gN_uL, gN_uR, gN_uCI, gN_uCL, gR_uI, gR_uL, gR_uCI, gR_uCL, gI_uL, gI_uR, gI_uCL, gL_uI, gL_uR, gL_uCI, gz_uI, gz_uL, gz_uR, gz_uCI, gz_uCL, gs_uI, gs_uL, gs_uR, gs_uCI, gs_uCL, rI_at, rL_at, rR_at, rI_ne, rL_ne, rR_ne, rI_nk, rL_nk, rR_nk, rI_eq, rL_eq, rR_eq]) (by simp (disch := omega) only [gK_uI, gK_uL, gK_uR, gK_uCI, gK_uCL, gN_uI, gN_uL, gN_uR, gN_uCI, gN_uCL, gR_uI, gR_uL, gR_uCI, gR_uCL, gI_uL, gI_uR, gI_uCL, gL_uI, gL_uR, gL_uCI, gz_uI, gz_uL, gz_uR, gz_uCI, gz_uCL, gs_uI, gs_uL, gs_uR, gs_uCI, gs_uCL, rI_at, rL_at, rR_at, rI_ne, rL_ne, rR_ne, rI_nk, rL_nk, rR_nk, rI_eq, rL_eq, rR_eq]) (by simp (disch := omega) only [gK_uI, gK_uL, gK_uR, gK_uCI, gK_uCL, gN_uI, gN_uL, gN_uR, gN_uCI, gN_uCL, gR_uI, gR_uL, gR_uCI, gR_uCL, gI_uL, gI_uR, gI_uCL, gL_uI, gL_uR, gL_uCI, gz_uI, gz_uL, gz_uR, gz_uCI, gz_uCL, gs_uI, gs_uL, gs_uR, gs_uCI, gs_uCL, rI_at, rL_at, rR_at, rI_ne, rL_ne, rR_ne, rI_nk, rL_nk, rR_nk, rI_eq, rL_eq, rR_eq]) (by simp (disch := omega) only [gK_uI, gK_uL, gK_uR, gK_uCI, gK_uCL, gN_uI, gN_uL, gN_uR, gN_uCI, gN_uCL, gR_uI, gR_uL, gR_uCI, gR_uCL, gI_uL, gI_uR, gI_uCL, gL_uI, gL_uR, gL_uCI, gz_uI, gz_uL, gz_uR, gz_uCI, gz_uCL, gs_uI, gs_uL, gs_uR, gs_uCI, gs_uCL, rI_at, rL_at, rR_at, rI_ne, rL_ne, rR_ne, rI_nk, rL_nk, rR_nk, rI_eq, rL_eq, rR_eq]) (by simp (disch := omega) only [gK_uI, gK_uL, gK_uR, gK_uCI, gK_uCL, gN_uI, gN_uL, gN_uR, gN_uCI, gN_uCL, gR_uI, gR_uL, gR_uCI, gR_uCL, gI_uL, gI_uR, gI_uCL, gL_uI, gL_uR, gL_uCI, gz_uI, gz_uL, gz_uR, gz_uCI, gz_uCL, gs_uI, gs_uL, gs_uR, gs_uCI, gs_uCL, rI_at, rL_at, rR_at, rI_ne, rL_ne, rR_ne, rI_nk, rL_nk, rR_nk, rI_eq, rL_eq, rR_eq]) (by simp (disch := omega) only [gK_uI, gK_uL, gK_uR, gK_uCI, gK_uCL, gN_uI, gN_uL, gN_uR, gN_uCI, gN_uCL, gR_uI, gR_uL, gR_uCI, gR_uCL, gI_uL, gI_uR, gI_uCL, gL_uI, gL_uR, gL_uCI, gz_uI, gz_uL, gz_uR, gz_uCI, gz_uCL, gs_uI, gs_uL, gs_uR, gs_uCI, gs_uCL, rI_at, rL_at, rR_at, rI_ne, rL_ne, rR_ne, rI_nk, rL_nk, rR_nk, rI_eq, rL_eq, rR_eq])) ?_
        refine FrR.top q10_z hd_z (by simp (disch := omega) only [gK_uI, gK_uL, gK_uR, gK_uCI, gK_uCL, gN_uI, gN_uL, gN_uR, gN_uCI, gN_uCL, gR_uI, gR_uL, gR_uCI, gR_uCL, gI_uL, gI_uR, gI_uCL, gL_uI, gL_uR, gL_uCI, gz_uI, gz_uL, gz_uR, gz_uCI, gz_uCL, gs_uI, gs_uL, gs_uR, gs_uCI, gs_uCL, rI_at, rL_at, rR_at, rI_ne, rL_ne, rR_ne, rI_nk, rL_nk, rR_nk, rI_eq, rL_eq, rR_eq]) (by simp (disch := omega) only [gK_uI, gK_uL, gK_uR, gK_uCI, gK_uCL, gN_uI, gN_uL, gN_uR, gN_uCI, gN_uCL, gR_uI, gR_uL, gR_uCI, gR_uCL, gI_uL, gI_uR, gI_uCL, gL_uI, gL_uR, gL_uCI, gz_uI, gz_uL, gz_uR, gz_uCI, gz_uCL, gs_uI, gs_uL, gs_uR, gs_uCI, gs_uCL, rI_at, rL_at, rR_at, rI_ne, rL_ne, rR_ne, rI_nk, rL_nk, rR_nk, rI_eq, rL_eq, rR_eq]) rfl (fun r_z h1 h2 => ⟨by simp (disch := omega) only [gK_uI, gK_uL, gK_uR, gK_uCI, gK_uCL, gN_uI, gN_uL, gN_uR, gN_uCI, gN_uCL, gR_uI, gR_uL, gR_uCI, gR_uCL, gI_uL, gI_uR, gI_uCL, gL_uI, gL_uR, gL_uCI, gz_uI, gz_uL, gz_uR, gz_uCI, gz_uCL, gs_uI, gs_uL, gs_uR, gs_uCI, gs_uCL, rI_at, rL_at, rR_at, rI_ne, rL_ne, rR_ne, rI_nk, rL_nk, rR_nk, rI_eq, rL_eq, rR_eq], by simp (disch := omega) only [gK_uI, gK_uL, gK_uR, gK_uCI, gK_uCL, gN_uI, gN_uL, gN_uR, gN_uCI, gN_uCL, gR_uI, gR_uL, gR_uCI, gR_uCL, gI_uL, gI_uR, gI_uCL, gL_uI, gL_uR, gL_uCI, gz_uI, gz_uL, gz_uR, gz_uCI, gz_uCL, gs_uI, gs_uL, gs_uR, gs_uCI, gs_uCL, rI_at, rL_at, rR_at, rI_ne, rL_ne, rR_ne, rI_nk, rL_nk, rR_nk, rI_eq, rL_eq, rR_eq]⟩) (by simp (disch := omega) only [gK_uI, gK_uL, gK_uR, gK_uCI, gK_uCL, gN_uI, gN_uL, gN_uR, gN_uCI, gN_uCL, gR_uI, gR_uL, gR_uCI, gR_uCL, gI_uL, gI_uR, gI_uCL, gL_uI, gL_uR, gL_uCI, gz_uI, gz_uL, gz_uR, gz_uCI, gz_uCL, gs_uI, gs_uL, gs_uR, gs_uCI, gs_uCL, rI_at, rL_at, rR_at, rI_ne, rL_ne, rR_ne, rI_nk, rL_nk, rR_nk, rI_eq, rL_eq, rR_eq]) (by simp (disch := omega) only [gK_uI, gK_uL, gK_uR, gK_uCI, gK_uCL, gN_uI, gN_uL, gN_uR, gN_uCI, gN_uCL, gR_uI, gR_uL, gR_uCI, gR_uCL, gI_uL, gI_uR, gI_uCL, gL_uI, gL_uR, gL_uCI, gz_uI, gz_uL, gz_uR, gz_uCI, gz_uCL, gs_uI, gs_uL, gs_uR, gs_uCI, gs_uCL, rI_at, rL_at, rR_at, rI_ne, rL_ne, rR_ne, rI_nk, rL_nk, rR_nk, rI_eq, rL_eq, rR_eq]) (fun l h1 h2 => ⟨by simp (disch := omega) only [gK_uI, gK_uL, gK_uR, gK_uCI, gK_uCL, gN_uI, gN_uL, gN_uR, gN_uCI, gN_uCL, gR_uI, gR_uL, gR_uCI, gR_uCL, gI_uL, gI_uR, gI_uCL, gL_uI, gL_uR, gL_uCI, gz_uI, gz_uL, gz_uR, gz_uCI, gz_uCL, gs_uI, gs_uL, gs_uR, gs_uCI, gs_uCL, rI_at, rL_at, rR_at, rI_ne, rL_ne, rR_ne, rI_nk, rL_nk, rR_nk, rI_eq, rL_eq, rR_eq], by simp (disch := omega) only [gK_uI, gK_uL, gK_uR, gK_uCI, gK_uCL, gN_uI, gN_uL, gN_uR, gN_uCI, gN_uCL, gR_uI, gR_uL, gR_uCI, gR_uCL, gI_uL, gI_uR, gI_uCL, gL_uI, gL_uR, gL_uCI, gz_uI, gz_uL, gz_uR, gz_uCI, gz_uCL, gs_uI, gs_uL, gs_uR, gs_uCI, gs_uCL, rI_at, rL_at, rR_at, rI_ne, rL_ne, rR_ne, rI_nk, rL_nk, rR_nk, rI_eq, rL_eq, rR_eq], by simp (disch := omega) only [gK_uI, gK_uL, gK_uR, gK_uCI, gK_uCL, gN_uI, gN_uL, gN_uR, gN_uCI, gN_uCL, gR_uI, gR_uL, gR_uCI, gR_uCL, gI_uL, gI_uR, gI_uCL, gL_uI, gL_uR, gL_uCI, gz_uI, gz_uL, gz_uR, gz_uCI, gz_uCL, gs_uI, gs_uL, gs_uR, gs_uCI, gs_uCL, rI_at, rL_at, rR_at, rI_ne, rL_ne, rR_ne, rI_nk, rL_nk, rR_nk, rI_eq, rL_eq, rR_eq]⟩) (fun l h1 h2 => ⟨by simp (disch := omega) only [gK_uI, gK_uL, gK_uR, gK_uCI, gK_uCL, gN_uI, gN_uL, gN_uR, gN_uCI, gN_uCL, gR_uI, gR_uL, gR_uCI, gR_uCL, gI_uL, gI_uR, gI_uCL, gL_uI, gL_uR, gL_uCI, gz_uI, gz_uL, gz_uR, gz_uCI, gz_uCL, gs_uI, gs_uL, gs_uR, gs_uCI, gs_uCL, rI_at, rL_at, rR_at, rI_ne, rL_ne, rR_ne, rI_nk, rL_nk, rR_nk, rI_eq, rL_eq, rR_eq], by simp (disch := omega) only [gK_uI, gK_uL, gK_uR, gK_uCI, gK_uCL, gN_uI, gN_uL, gN_uR, gN_uCI, gN_uCL, gR_uI, gR_uL, gR_uCI, gR_uCL, gI_uL, gI_uR, gI_uCL, gL_uI, gL_uR, gL_uCI, gz_uI, gz_uL, gz_uR, gz_uCI, gz_uCL, gs_uI, gs_uL, gs_uR, gs_uCI, gs_uCL, rI_at, rL_at, rR_at, rI_ne, rL_ne, rR_ne, rI_nk, rL_nk, rR_nk, rI_eq, rL_eq, rR_eq]⟩) (fun l h1 h2 => ⟨by simp (disch := omega) only [gK_uI, gK_uL, gK_uR, gK_uCI, gK_uCL, gN_uI, gN_uL, gN_uR, gN_uCI, gN_uCL, gR_uI, gR_uL, gR_uCI, gR_uCL, gI_uL, gI_uR, gI_uCL, gL_uI, gL_uR, gL_uCI, gz_uI, gz_uL, gz_uR, gz_uCI, gz_uCL, gs_uI, gs_uL, gs_uR, gs_uCI, gs_uCL, rI_at, rL_at, rR_at, rI_ne, rL_ne, rR_ne, rI_nk, rL_nk, rR_nk, rI_eq, rL_eq, rR_eq], by simp (disch := omega) only [gK_uI, gK_uL, gK_uR, gK_uCI, gK_uCL, gN_uI, gN_uL, gN_uR, gN_uCI, gN_uCL, gR_uI, gR_uL, gR_uCI, gR_uCL, gI_uL, gI_uR, gI_uCL, gL_uI, gL_uR, gL_uCI, gz_uI, gz_uL, gz_uR, gz_uCI, gz_uCL, gs_uI, gs_uL, gs_uR, gs_uCI, gs_uCL, rI_at, rL_at, rR_at, rI_ne, rL_ne, rR_ne, rI_nk, rL_nk, rR_nk, rI_eq, rL_eq, rR_eq]⟩) ?_ ?_ ?_ ?_
        · unfold FrL lnm
          unfold lnm at y2 y3 u8
          have ec : cdm (uI (uI T' (m + 22) d_z (w_z - 1)) (m + 18) d_z (tk + 1)) m x_z = cdm T' m x_z := by
            funext k_z
            unfold cdm
            simp (disch := omega) only [gK_uI, gK_uL, gK_uR, gK_uCI, gK_uCL, gN_uI, gN_uL, gN_uR, gN_uCI, gN_uCL, gR_uI, gR_uL, gR_uCI, gR_uCL, gI_uL, gI_uR, gI_uCL, gL_uI, gL_uR, gL_uCI, gz_uI, gz_uL, gz_uR, gz_uCI, gz_uCL, gs_uI, gs_uL, gs_uR, gs_uCI, gs_uCL, rI_at, rL_at, rR_at, rI_ne, rL_ne, rR_ne, rI_nk, rL_nk, rR_nk, rI_eq, rL_eq, rR_eq]
          simp (disch := omega) only [gK_uI, gK_uL, gK_uR, gK_uCI, gK_uCL, gN_uI, gN_uL, gN_uR, gN_uCI, gN_uCL, gR_uI, gR_uL, gR_uCI, gR_uCL, gI_uL, gI_uR, gI_uCL, gL_uI, gL_uR, gL_uCI, gz_uI, gz_uL, gz_uR, gz_uCI, gz_uCL, gs_uI, gs_uL, gs_uR, gs_uCI, gs_uCL, rI_at, rL_at, rR_at, rI_ne, rL_ne, rR_ne, rI_nk, rL_nk, rR_nk, rI_eq, rL_eq, rR_eq, u3, ec]
          rw [u3] at y1 y2 y8
          refine ⟨y1, y2, ⟨trivial, by omega, by omega⟩, y4, y5, ⟨trivial, by omega, by omega⟩, fun i_z i0_z i1_z => ?_, ?_⟩
          · have := y7 i_z i0_z (by omega)
            simp (disch := omega) only [gK_uI, gK_uL, gK_uR, gK_uCI, gK_uCL, gN_uI, gN_uL, gN_uR, gN_uCI, gN_uCL, gR_uI, gR_uL, gR_uCI, gR_uCL, gI_uL, gI_uR, gI_uCL, gL_uI, gL_uR, gL_uCI, gz_uI, gz_uL, gz_uR, gz_uCI, gz_uCL, gs_uI, gs_uL, gs_uR, gs_uCI, gs_uCL, rI_at, rL_at, rR_at, rI_ne, rL_ne, rR_ne, rI_nk, rL_nk, rR_nk, rI_eq, rL_eq, rR_eq]
            exact this
          · rw [show (tk + 1).toNat = tk.toNat + 1 from by omega, b5]
            exact b11
        · rw [hsc, hso]
          simp (disch := omega) only [gK_uI, gK_uL, gK_uR, gK_uCI, gK_uCL, gN_uI, gN_uL, gN_uR, gN_uCI, gN_uCL, gR_uI, gR_uL, gR_uCI, gR_uCL, gI_uL, gI_uR, gI_uCL, gL_uI, gL_uR, gL_uCI, gz_uI, gz_uL, gz_uR, gz_uCI, gz_uCL, gs_uI, gs_uL, gs_uR, gs_uCI, gs_uCL, rI_at, rL_at, rR_at, rI_ne, rL_ne, rR_ne, rI_nk, rL_nk, rR_nk, rI_eq, rL_eq, rR_eq]
          show gI M c 12 = gI M c 12 - ((nsv L_z : Nat) : Int) + ((nsv L_z : Nat) : Int)
          omega
        · rw [hsc]
          simp (disch := omega) only [gK_uI, gK_uL, gK_uR, gK_uCI, gK_uCL, gN_uI, gN_uL, gN_uR, gN_uCI, gN_uCL, gR_uI, gR_uL, gR_uCI, gR_uCL, gI_uL, gI_uR, gI_uCL, gL_uI, gL_uR, gL_uCI, gz_uI, gz_uL, gz_uR, gz_uCI, gz_uCL, gs_uI, gs_uL, gs_uR, gs_uCI, gs_uCL, rI_at, rL_at, rR_at, rI_ne, rL_ne, rR_ne, rI_nk, rL_nk, rR_nk, rI_eq, rL_eq, rR_eq]
          exact kP_z
        · have l1 := lft_pop (f_z := gI M (c + 22 + 4 * d_z + 3)) (w_z := w_z) b8 b9 r3'
          have e7_z : gI (uI (uI (uI M (c + 22 + 4 * d_z) 5 (tk + 1)) (c + 22 + 4 * d_z + 3) (w_z - 1) 0) (c + 22 + 4 * d_z) 7 (w_z - 1)) (c + 22 + 4 * d_z) 7 = w_z - 1 := rI_at
          unfold wrk lnm
          rw [e7_z, e5_z, l1, hv, hw, htk]
          simp (disch := omega) only [gK_uI, gK_uL, gK_uR, gK_uCI, gK_uCL, gN_uI, gN_uL, gN_uR, gN_uCI, gN_uCL, gR_uI, gR_uL, gR_uCI, gR_uCL, gI_uL, gI_uR, gI_uCL, gL_uI, gL_uR, gL_uCI, gz_uI, gz_uL, gz_uR, gz_uCI, gz_uCL, gs_uI, gs_uL, gs_uR, gs_uCI, gs_uCL, rI_at, rL_at, rR_at, rI_ne, rL_ne, rR_ne, rI_nk, rL_nk, rR_nk, rI_eq, rL_eq, rR_eq]
          omega
end WA
