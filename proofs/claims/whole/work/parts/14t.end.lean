/-! THE PURE PART, part 14: fill, xfill, drop. Own work. -/
theorem leg_end {k_z : Nat} {st_z : Stk × Bool} (hk : k_z = 9 ∨ k_z = 10 ∨ k_z = 11) (h_z : legal k_z st_z) : st_z.2 = true := by
  obtain ⟨-, -, -, -, -, h6, -⟩ := h_z
  exact h6 (by omega)
section AQ
variable {G : Env0} {Q : Option AV → Mem → Prop} {M T : Mem} {c s m r : Nat}
theorem perf_end {k_z : Nat} {x_z tk : Int} (hs : ShMa M c) (ho : OpF G M) (hf : ShFr M r) (hk : k_z = 9 ∨ k_z = 10 ∨ k_z = 11) (hx : gI M r 4 = x_z) (h_z : Call G J_Ma_endPath [a_r c, a_r (G.2 (3 + k_z)), a_i x_z, a_i tk] M (fun q_z M2_z => ∃ e_z : Int, q_z = some (a_i e_z) ∧ Q (some (a_i e_z)) M2_z)) : At G 86 33 [a_r c, a_r (G.2 (3 + k_z)), a_r r, a_i tk] [a_i (k_z : Int), a_r (G.2 1)] M Q := by
  have hh : Call G J_Ma_endPath [a_r c, a_r (G.2 (3 + k_z)), a_i x_z, a_i tk] M (fun q_z M2_z => At G 86 213 [a_r c, a_r (G.2 (3 + k_z)), a_r r, a_i tk] q_z.toList M2_z Q) := Call.weak h_z (fun q_z M2_z hq => by
    obtain ⟨e_z, e1_z, e2_z⟩ := hq
    subst e1_z
    simp (disch := omega) only [B_86_213, inI, inL, isT, kInt, kByt, true_and, and_true, an_t, im_t, im_f, or_true, true_or, true_imp_iff, false_imp_iff, not_true_eq_false, not_false_eq_true, gK_uI, gK_uL, gK_uR, gK_uCI, gK_uCL, gN_uI, gN_uL, gN_uR, gN_uCI, gN_uCL, gR_uI, gR_uL, gR_uCI, gR_uCL, gI_uL, gI_uR, gI_uCL, gL_uI, gL_uR, gL_uCI, gz_uI, gz_uL, gz_uR, gz_uCI, gz_uCL, gs_uI, gs_uL, gs_uR, gs_uCI, gs_uCL, rI_at, rL_at, rR_at, rI_ne, rL_ne, rR_ne, rI_nk, rL_nk, rR_nk, rI_eq, rL_eq, rR_eq, Option.toList_some, Option.toList_none, List.cons_append, List.nil_append, List.append_nil, zc_eq, zc_lt, zc_le, zc_ge, zc_gt]
    exact e2_z)
  have sm_z := ho.1
  have s9 : gI M (G.2 1) 9 = 11 := sm_z.2.2 9 (by decide)
  have s10 : gI M (G.2 1) 10 = 12 := sm_z.2.2 10 (by decide)
  have s11 : gI M (G.2 1) 11 = 13 := sm_z.2.2 11 (by decide)
  rw [B_86_33]
  rcases hk with hk | hk | hk <;> subst hk
  · simp (disch := omega) only [sm_z.1, sm_z.2.1, s9, Int.cast_ofNat_Int, B_86_203, hs.1.u, hf.u, hx, inI, inL, isT, kInt, kByt, true_and, and_true, an_t, im_t, im_f, or_true, true_or, true_imp_iff, false_imp_iff, not_true_eq_false, not_false_eq_true, gK_uI, gK_uL, gK_uR, gK_uCI, gK_uCL, gN_uI, gN_uL, gN_uR, gN_uCI, gN_uCL, gR_uI, gR_uL, gR_uCI, gR_uCL, gI_uL, gI_uR, gI_uCL, gL_uI, gL_uR, gL_uCI, gz_uI, gz_uL, gz_uR, gz_uCI, gz_uCL, gs_uI, gs_uL, gs_uR, gs_uCI, gs_uCL, rI_at, rL_at, rR_at, rI_ne, rL_ne, rR_ne, rI_nk, rL_nk, rR_nk, rI_eq, rL_eq, rR_eq, Option.toList_some, Option.toList_none, List.cons_append, List.nil_append, List.append_nil, zc_eq, zc_lt, zc_le, zc_ge, zc_gt]
    all_goals exact hh
  · simp (disch := omega) only [sm_z.1, sm_z.2.1, s10, Int.cast_ofNat_Int, B_86_203, hs.1.u, hf.u, hx, inI, inL, isT, kInt, kByt, true_and, and_true, an_t, im_t, im_f, or_true, true_or, true_imp_iff, false_imp_iff, not_true_eq_false, not_false_eq_true, gK_uI, gK_uL, gK_uR, gK_uCI, gK_uCL, gN_uI, gN_uL, gN_uR, gN_uCI, gN_uCL, gR_uI, gR_uL, gR_uCI, gR_uCL, gI_uL, gI_uR, gI_uCL, gL_uI, gL_uR, gL_uCI, gz_uI, gz_uL, gz_uR, gz_uCI, gz_uCL, gs_uI, gs_uL, gs_uR, gs_uCI, gs_uCL, rI_at, rL_at, rR_at, rI_ne, rL_ne, rR_ne, rI_nk, rL_nk, rR_nk, rI_eq, rL_eq, rR_eq, Option.toList_some, Option.toList_none, List.cons_append, List.nil_append, List.append_nil, zc_eq, zc_lt, zc_le, zc_ge, zc_gt]
    all_goals exact hh
  · simp (disch := omega) only [sm_z.1, sm_z.2.1, s11, Int.cast_ofNat_Int, B_86_203, hs.1.u, hf.u, hx, inI, inL, isT, kInt, kByt, true_and, and_true, an_t, im_t, im_f, or_true, true_or, true_imp_iff, false_imp_iff, not_true_eq_false, not_false_eq_true, gK_uI, gK_uL, gK_uR, gK_uCI, gK_uCL, gN_uI, gN_uL, gN_uR, gN_uCI, gN_uCL, gR_uI, gR_uL, gR_uCI, gR_uCL, gI_uL, gI_uR, gI_uCL, gL_uI, gL_uR, gL_uCI, gz_uI, gz_uL, gz_uR, gz_uCI, gz_uCL, gs_uI, gs_uL, gs_uR, gs_uCI, gs_uCL, rI_at, rL_at, rR_at, rI_ne, rL_ne, rR_ne, rI_nk, rL_nk, rR_nk, rI_eq, rL_eq, rR_eq, Option.toList_some, Option.toList_none, List.cons_append, List.nil_append, List.append_nil, zc_eq, zc_lt, zc_le, zc_ge, zc_gt]
    all_goals exact hh
/-- the model's check of what ends a path -/
theorem wr_end {E_z : Int} {d_z k_z : Nat} {T' : Mem} {u_z n_z it : Int} (hk : k_z = 9 ∨ k_z = 10 ∨ k_z = 11) (h' : Rel G M T' c s m E_z) (hd_z : gI M c 11 = (d_z : Int)) (hb_z : gI M c 13 < gI M s 6) (hu : gI M (c + 4) 7 = u_z) (hn : gI T' (m + 6) 13 = n_z) (hn6 : n_z ≤ 6) (hit_z : gI T' m 35 = it) (hit1 : it ≤ 30) {qq : Option AV → Mem → Prop} (h6 : ((u_z = 1 ∧ 6 ≤ n_z) ∨ (k_z ≠ 11 ∧ 30 ≤ it)) → qq (some (a_i 6)) (uI T' m 16 0)) (h0 : ¬ ((u_z = 1 ∧ 6 ≤ n_z) ∨ (k_z ≠ 11 ∧ 30 ≤ it)) → qq (some (a_i 0)) (uI T' m 16 0)) : Call G J_M_wrong [a_r m, a_i (k_z : Int)] T' qq := by
  obtain ⟨k1_z, k2_z, k3_z, w0_z, w1_z, k6_z⟩ := h'.opn hd_z
  obtain ⟨-, q2_z, -, -, q8_z, q9_z, -, -, q12_z, -⟩ := h'
  have hb' : gI T' m 49 ≠ gI T' (m + 1) 1215 := by
    have := q9_z.1
    have := q8_z.2.2.2.2.2.2.1
    omega
  have p7_z := q12_z.2.2.2.2.2.2.1
  rw [hu] at p7_z
  have nd : need (k_z : Int) = 0 := by rcases hk with q_z | q_z | q_z <;> subst q_z <;> decide
  have hs0 : ShM (uI T' m 16 0) m := q2_z
  have f16 : gI (uI T' m 16 0) m 16 = 0 := rI_at
  have f27 : gI (uI T' m 16 0) m 27 = gI T' m 27 := by rw [rI_nk (by decide)]
  have f35 : gI (uI T' m 16 0) m 35 = it := by rw [rI_nk (by decide)]; exact hit_z
  have f6_z : gI (uI T' m 16 0) (m + 6) 13 = n_z := by rw [rI_ne (by omega)]; exact hn
  refine X_wrongN q2_z (by omega) (by omega) (by omega) hb' (fun q_z hq => X_areOpsN q2_z k2_z k3_z (by omega) (by omega) w0_z w1_z (by omega) (by omega) (by omega) (by rw [nd]; exact w0_z) (fun z_z hz => ?_)) ?_
  · rcases hz with ⟨z1, -⟩ | ⟨z1, i_z, i0_z, i1_z, z2⟩
    · rw [z1]
      exact hq
    · rw [nd] at i1_z
      omega
  · have one_z : ((u_z = 1 ∧ 6 ≤ n_z) ∨ (k_z ≠ 11 ∧ 30 ≤ it)) → ∃ z_z : Int, some (a_i 1) = some (a_i z_z) ∧ ShM (uI T' m 16 0) m ∧ (gI (uI T' m 16 0) m 16 = 0 ∨ gI (uI T' m 16 0) m 16 = 1) ∧ ((z_z ≠ 0 ∨ gI (uI T' m 16 0) m 16 = 1) → qq (some (a_i 6)) (uI T' m 16 0)) ∧ (z_z = 0 → gI (uI T' m 16 0) m 16 = 0 → qq (some (a_i 0)) (uI T' m 16 0)) := fun hB_z => ⟨1, rfl, hs0, Or.inl f16, fun _ => h6 hB_z, fun q_z => absurd q_z (by decide)⟩
    have zero : ¬ ((u_z = 1 ∧ 6 ≤ n_z) ∨ (k_z ≠ 11 ∧ 30 ≤ it)) → ∃ z_z : Int, some (a_i 0) = some (a_i z_z) ∧ ShM (uI T' m 16 0) m ∧ (gI (uI T' m 16 0) m 16 = 0 ∨ gI (uI T' m 16 0) m 16 = 1) ∧ ((z_z ≠ 0 ∨ gI (uI T' m 16 0) m 16 = 1) → qq (some (a_i 6)) (uI T' m 16 0)) ∧ (z_z = 0 → gI (uI T' m 16 0) m 16 = 0 → qq (some (a_i 0)) (uI T' m 16 0)) := fun hB_z => ⟨0, rfl, hs0, Or.inl f16, fun q_z => by
      rcases q_z with q_z | q_z
      · exact absurd rfl q_z
      · omega, fun _ _ => h0 hB_z⟩
    by_cases c11_z : k_z = 11
    · subst c11_z
      refine X_tooD hs0 (fun q_z => one_z ?_) (fun q_z => zero ?_) <;> rw [f27, f6_z] at q_z <;> clear one_z zero
      · exact Or.inl (by omega)
      · intro y_z
        rcases y_z with y_z | y_z
        · exact q_z (by omega)
        · exact y_z.1 rfl
    · have k910 : k_z = 9 ∨ k_z = 10 := by
        clear one_z zero
        omega
      refine X_tooF hs0 k910 (fun q_z => one_z ?_) (fun q_z => zero ?_) <;> rw [f27, f6_z, f35] at q_z <;> clear one_z zero
      · rcases q_z with q_z | q_z
        · exact Or.inr ⟨c11_z, by omega⟩
        · exact Or.inl (by omega)
      · intro y_z
        rcases y_z with y_z | y_z
        · exact q_z (Or.inr (by omega))
        · exact q_z (Or.inl (by omega))
theorem op_end {E_z i_z x_z n_z tk : Int} {d_z p_z k_z : Nat} (hk : k_z = 9 ∨ k_z = 10 ∨ k_z = 11) (h_z : Rel G M T c s m E_z) (hd_z : gI M c 11 = (d_z : Int)) (hx : gI M (c + 22 + 4 * d_z) 4 = x_z - 1) (htk : gI M (c + 22 + 4 * d_z) 5 = tk) (hp : gR M (c + 22 + 4 * d_z) 3 = p_z) (hn : gI M p_z 3 = n_z) (hlt : tk < n_z) (hop : gR M (p_z + 1) tk = G.2 (3 + k_z)) (i0_z : 0 ≤ i_z) (i1_z : i_z + 1 < 1000000) (hN_z : Nxt G c s m M E_z i_z Q) (hEr : Err G c s m M E_z Q) : HC G c s i_z M Q := by
  refine op_pre (k_z := k_z) h_z hd_z hx htk hp hn hlt (by omega) (by omega) hop i0_z i1_z hEr (fun hb_z hw _ => ?_)
  have h0 := h_z
  obtain ⟨r1_z, r2, r3, ⟨r4, r5_z, r6, r7⟩, r8, r9, r10, r11, r12, r13, ⟨r14, r15, r16⟩, r17⟩ := h_z
  obtain ⟨g1, g2, g3_z, w0_z, w1_z, g6⟩ := h0.opn hd_z
  have nd : need (k_z : Int) = 0 := by rcases hk with q_z | q_z | q_z <;> subst q_z <;> decide
  rw [nd] at hw
  have hs1 : ShMa (uI M (c + 22 + 4 * d_z) 5 (tk + 1)) c := r1_z
  have ho1 : OpF G (uI M (c + 22 + 4 * d_z) 5 (tk + 1)) := OpF.out r3 ((OutC.refl c M).uI _ _ (by omega)) r6 r4
  have f2_z : ShFr (uI M (c + 22 + 4 * d_z) 5 (tk + 1)) (c + 22 + 4 * d_z) := (r1_z.2.2.2.1 d_z g1).2
  have e13_z : gI (uI M (c + 22 + 4 * d_z) 5 (tk + 1)) c 13 = gI M c 13 := by rw [rI_ne (by omega)]
  have es6 : gI (uI M (c + 22 + 4 * d_z) 5 (tk + 1)) s 6 = gI M s 6 := by rw [rI_ne (by omega)]
  have ew : gI (uI M (c + 22 + 4 * d_z) 5 (tk + 1)) (c + 22 + 4 * d_z) 6 = gI M (c + 22 + 4 * d_z) 6 := by rw [rI_nk (by decide)]
  have hK4 : gK (uI M (c + 22 + 4 * d_z) 5 (tk + 1)) s = 4 := r8.1.1
  generalize hwd : gI M (c + 22 + 4 * d_z) 6 = w_z at *
  have hv1 : ∀ i_z, 0 ≤ i_z → i_z < w_z → NV (gL (uI M (c + 22 + 4 * d_z) 5 (tk + 1)) (c + 22 + 4 * d_z + 1) i_z) ∨ fd (gL (uI M (c + 22 + 4 * d_z) 5 (tk + 1)) (c + 22 + 4 * d_z + 1) i_z) = 0 := fun i_z i0_z i1_z => by
    rcases (g6 i_z i0_z i1_z).2.2 with q_z | q_z
    · exact Or.inl q_z
    · exact Or.inr q_z.1
  -- the numbers
  have b200 := r8.2.2.2.2.2.2
  have oP := r11
  obtain ⟨oP1, oP2, oP3, oP4, -⟩ := oP
  generalize htp : gI M c 12 = tp at *
  generalize hgg : c + 42 + 3 * tp.toNat = g_z at *
  have gb : c + 42 ≤ g_z ∧ g_z + 2 < c + 147 := by omega
  obtain ⟨-, -, -, y4, y5, y6, -⟩ := oP4
  generalize hnn_z : gI M g_z 2 = nc at *
  have hpa := r12
  obtain ⟨pa1, -, -, -, pa5, -, pa7, -⟩ := hpa
  generalize hee : gI M (c + 4) 5 = e_z at *
  generalize hkk : gI M (c + 4) 6 = kk at *
  generalize hu : gI M (c + 4) 7 = u_z at *
  have hI := r13
  obtain ⟨j1, j2_z, j3_z, -⟩ := hI
  generalize hit_z : gI M (c + 3) 8 = it at *
  have u01 : u_z = 0 ∨ u_z = 1 := by omega
  obtain ⟨BAD, hBAD⟩ : ∃ BAD : Prop, BAD = ((u_z = 1 ∧ 6 ≤ nc) ∨ (k_z ≠ 11 ∧ 30 ≤ it)) := ⟨_, rfl⟩
  -- the class's frame
  have goC : ∀ qq : Option AV → Mem → Prop, Call G J_Ma_endPath [a_r c, a_r (G.2 (3 + k_z)), a_i (x_z - 1), a_i tk] (uI M (c + 22 + 4 * d_z) 5 (tk + 1)) (fun q_z M2_z => ∃ e_z : Int, q_z = some (a_i e_z) ∧ qq (some (a_i e_z)) M2_z) → Call G J_Ma_perform [a_r c, a_r (G.2 (3 + k_z)), a_r (c + 22 + 4 * d_z), a_i tk] (uI M (c + 22 + 4 * d_z) 5 (tk + 1)) qq := fun qq hq =>
    perf_go (k_z := k_z) hs1 ho1 r5_z hK4 f2_z (by omega) (by rw [e13_z, es6]; exact hb_z) ew w0_z w1_z hv1 (by rw [nd]; exact hw) (fun q_z => by omega) (perf_end hs1 ho1 f2_z hk (by rw [rI_nk (by decide)]; exact hx) hq)
  have fE_z : ∀ Q2_z : Option AV → Mem → Prop, (BAD → Q2_z (some (a_i 6)) (uI M (c + 22 + 4 * d_z) 5 (tk + 1))) → (¬ BAD → At G 108 65 [a_r c, a_r (G.2 (3 + k_z)), a_i (x_z - 1), a_i tk, a_i (if k_z = 11 then 0 else 1), a_i u_z, a_r g_z, a_u] [] (uI M (c + 22 + 4 * d_z) 5 (tk + 1)) Q2_z) → Call G J_Ma_endPath [a_r c, a_r (G.2 (3 + k_z)), a_i (x_z - 1), a_i tk] (uI M (c + 22 + 4 * d_z) 5 (tk + 1)) Q2_z := fun Q2_z q6_z q0 => by
    rw [hBAD] at q6_z q0
    refine X_endFull (tp := tp) (g_z := g_z) (u_z := u_z) hs1 ho1 hk (by rw [rI_ne (by omega)]; exact htp) oP2 oP3 hgg (by rw [rI_ne (by omega)]; exact hu) u01 (fun q_z => q6_z ?_) (fun q_z => q0 ?_) <;> rw [rI_ne (by omega), rI_ne (by omega), hnn_z, hit_z] at q_z <;> exact q_z
  have num_z : ∀ T', Rel G M T' c s m E_z → gI T' (m + 6) 13 = nc ∧ gI T' m 35 = it ∧ gI T' (m + 17) d_z = x_z ∧ gI T' (m + 18) d_z = tk ∧ 0 ≤ x_z ∧ x_z ≤ 6 := fun T' h' => by
    obtain ⟨-, -, -, -, -, -, q10_z, q11_z, -, q13_z, -⟩ := h'
    have a1_z := q11_z.2.2.2.1.2.2.2.1
    rw [htp, hgg, hnn_z] at a1_z
    have a2 := q13_z.1
    rw [hit_z] at a2
    have a3 := (q10_z.get hd_z).2.2.1
    obtain ⟨⟨b1, b2, b3⟩, -, ⟨b4, -⟩, -⟩ := a3
    exact ⟨a1_z, a2.symm, by omega, by omega, by omega, by omega⟩
  have wrg : ∀ T', Rel G M T' c s m E_z → ∀ qq : Option AV → Mem → Prop, (BAD → qq (some (a_i 6)) (uI T' m 16 0)) → (¬ BAD → qq (some (a_i 0)) (uI T' m 16 0)) → Call G J_M_wrong [a_r m, a_i (k_z : Int)] T' qq := fun T' h' qq q6_z q0 => by
    obtain ⟨m1_z, m2_z, -⟩ := num_z T' h'
    rw [hBAD] at q6_z q0
    exact wr_end hk h' hd_z hb_z hu m1_z y6 m2_z j3_z q6_z q0
  by_cases bad_z : BAD
  · refine op_err h0 hd_z hx htk hp hn hlt (by omega) (by omega) hop i0_z i1_z (e_z := 6) (by decide) hEr (fun qq hqq => ?_) (fun T' h' qq hqq => wrg T' h' qq (fun _ => hqq _ (sy_fl0 _ _)) (fun q_z => absurd bad_z q_z))
    exact goC qq (fE_z _ (fun _ => ⟨6, rfl, hqq _ (Ex.refl _ _)⟩) (fun q_z => absurd bad_z q_z))
  · have good_z : ¬ ((u_z = 1 ∧ 6 ≤ nc) ∨ (k_z ≠ 11 ∧ 30 ≤ it)) := by
      rw [← hBAD]
      exact bad_z
    have it30 : k_z ≠ 11 → it < 30 := fun q_z => by
      have : ¬ (30 ≤ it) := fun y_z => good_z (Or.inr ⟨q_z, y_z⟩)
      omega
    have n6_z : u_z = 1 → nc < 6 := fun q_z => by
      have : ¬ (6 ≤ nc) := fun y_z => good_z (Or.inl ⟨q_z, y_z⟩)
      omega
    have sG : ShGr (uI M (c + 22 + 4 * d_z) 5 (tk + 1)) g_z := by
      have q_z := (hs1.gr (d_z := tp) oP2 oP3).2
      rw [hgg] at q_z
      exact q_z
    refine op_run (w_z := w_z) (P_z := fun Mp => EnM M Mp c (c + 22 + 4 * d_z) g_z k_z tk (x_z - 1) u_z e_z kk it nc) (PT_z := fun T' T1 => T1 = uI T' m 16 0) h0 hd_z hx htk hp hn hlt (by omega) (by omega) hop i0_z i1_z hb_z hN_z w0_z (by omega) (fun qq hqq => ?_) (fun Mp hMp => hMp.le g1 gb hwd r1_z) (fun T' h' qq hqq => wrg T' h' qq (fun q_z => absurd q_z bad_z) (fun _ => hqq _ (sy_fl0 _ _) rfl)) (fun Mp hMp T' h' T1 hy hPT T3 t3_z st_z hst hleg hpa qq hqq => ?_)
    · refine goC qq (fE_z _ (fun q_z => absurd q_z bad_z) (fun _ => ?_))
      refine X_endGo (e_z := e_z) (kk := kk) (it := it) (n_z := nc) hs1 ho1 hk sG gb.1 (by rw [rI_ne (by omega)]; exact hee) (by omega) (by omega) (by rw [rI_ne (by omega)]; exact hkk) (by rw [rI_ne (by omega)]; exact hit_z) j2_z it30 (by rw [rI_ne (by omega)]; exact hnn_z) y5 n6_z u01 (fun M1_z M2_z M3_z h1 h2 h3 => ⟨0, rfl, hqq M3_z (EnM.of (by omega) (by omega) gb.1 hit_z hnn_z h1 h2 h3)⟩)
    · obtain ⟨m1_z, m2_z, m3_z, m4_z, m5_z, m6_z⟩ := num_z T' h'
      obtain ⟨k1_z, k2_z, k3_z, -, -, k6_z⟩ := h'.opn hd_z
      rw [hwd] at k3_z
      obtain ⟨-, -, -, -, -, -, -, q11_z, q12_z, q13_z, -⟩ := h'
      obtain ⟨z1, z2, z3, z4, z5, z6, z7, z8⟩ := id q12_z
      rw [hee] at z1 z3
      rw [hu] at z7
      generalize hpp : gI T' m 33 = pp at *
      generalize hmk : gI T' m 27 = mk at *
      have t3' := t3_z
      obtain ⟨t1_z, t2_z, t4_z, t5_z, t6⟩ := t3'
      have f36 : gI T3 m 36 = (d_z : Int) := by rw [t4_z 36 (by decide) (by decide) (by decide) (by decide)]; exact k2_z
      have f19 : gI T3 (m + 19) d_z = w_z := by rw [t2_z _ (by omega) (by omega) (by omega) (by omega) (by omega)]; exact k3_z
      refine X_doesE t1_z hk f36 f19 g1 w0_z w1_z (fun q2_z hq2 => ?_)
      have hs0 : ShM (uI T3 (m + 19) d_z (w_z - 0)) m := t1_z
      have cf_z : ∀ j_z, j_z ≠ 49 → j_z ≠ 16 → j_z ≠ 20 → j_z ≠ 21 → gI (uI T3 (m + 19) d_z (w_z - 0)) m j_z = gI T' m j_z := fun j_z n0_z n1_z n2_z n3_z => by rw [rI_ne (by omega), t4_z j_z n0_z n1_z n2_z n3_z]
      have cr : ∀ a_z, a_z ≠ m → a_z ≠ m + 25 → a_z ≠ m + 26 → a_z ≠ m + 27 → a_z ≠ m + 28 → a_z ≠ m + 19 → gI (uI T3 (m + 19) d_z (w_z - 0)) a_z = gI T' a_z := fun a_z n0_z n1_z n2_z n3_z n4_z n5_z => by rw [rI_ne n5_z, t2_z a_z n0_z n1_z n2_z n3_z n4_z]
      refine X_endT (p_z := pp) (it := it) (n_z := nc) (mk := mk) hs0 hk (by rw [cf_z 33 (by decide) (by decide) (by decide) (by decide)]; exact hpp) (by omega) (by omega) (by rw [cf_z 25 (by decide) (by decide) (by decide) (by decide)]; exact z5.1) (by rw [cf_z 25 (by decide) (by decide) (by decide) (by decide)]; exact z5.2.1) (by rw [cf_z 35 (by decide) (by decide) (by decide) (by decide)]; exact m2_z) j2_z it30 (by rw [cf_z 36 (by decide) (by decide) (by decide) (by decide)]; exact k2_z) g1 (by rw [cr _ (by omega) (by omega) (by omega) (by omega) (by omega) (by omega)]; omega) (by rw [cr _ (by omega) (by omega) (by omega) (by omega) (by omega) (by omega)]; omega) (by rw [cf_z 27 (by decide) (by decide) (by decide) (by decide)]; exact hmk) (by omega) (by rw [cr _ (by omega) (by omega) (by omega) (by omega) (by omega) (by omega)]; exact m1_z) y5 (fun q_z => n6_z (by omega)) (fun T4 hT_z => hq2 T4 ?_)
      obtain ⟨l1, l2, l3⟩ := fin_end hMp hk hee hkk hit_z hnn_z htp hgg (by omega) hu it30 n6_z t3_z m3_z m4_z hpp hmk g1 hT_z q11_z q12_z q13_z (hpa.1 (leg_end hk hleg))
      have est : stepF (k_z : Int) tk.toNat st_z = (st_z.1, false) := by
        unfold stepF
        rw [if_neg (by omega), if_neg (by omega), if_neg (by omega), if_neg (by omega), if_pos (by omega)]
      refine hqq T4 l1 (fun v_z f_z q_z => ?_) ?_ (fun M2_z hc_z => ?_)
      · rw [est]
        exact q_z
      · rw [est, l2]
        exact ⟨fun q_z => by simp at q_z, fun q_z => by omega⟩
      · obtain ⟨a1_z, a2⟩ := l3 M2_z hc_z
        refine ⟨?_, a2⟩
        rw [a1_z, est, htp]
        show tp = tp - ((nsv st_z.1 : Nat) : Int) + ((nsv st_z.1 : Nat) : Int)
        omega
end AQ
