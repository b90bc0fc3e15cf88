/-! THE PURE PART, part 13: restore. Own work (partly written by a program of its own). -/
section KB
variable {G : Env0} {Q : Option AV → Mem → Prop} {M T : Mem} {c s m : Nat}
/-- all rows of the pool stay -/
theorem Pool.rows {M T M' T' : Mem} (e_z : ∀ a_z, c + 4 ≤ a_z → a_z < c + 10 → gI M' a_z = gI M a_z) (f_z : gI T' m 33 = gI T m 33) (g_z : ∀ a_z, m + 11 ≤ a_z → a_z ≤ m + 15 → gI T' a_z = gI T a_z) : Pool M T M' T' c m := Pool.same (by rw [e_z _ (by omega) (by omega)]) (by rw [e_z _ (by omega) (by omega)]) (e_z _ (by omega) (by omega)) (e_z _ (by omega) (by omega)) (e_z _ (by omega) (by omega)) (e_z _ (by omega) (by omega)) (e_z _ (by omega) (by omega)) f_z (g_z _ (by omega) (by omega)) (g_z _ (by omega) (by omega)) (g_z _ (by omega) (by omega)) (g_z _ (by omega) (by omega)) (g_z _ (by omega) (by omega))
theorem PaR.rows {M T M' T' : Mem} (h_z : PaR M T c m) (e13_z : gI M c 13 ≤ gI M' c 13) (e_z : ∀ a_z, c + 4 ≤ a_z → a_z < c + 10 → gI M' a_z = gI M a_z) (f_z : ∀ j_z, j_z = 25 ∨ j_z = 26 ∨ j_z = 27 ∨ j_z = 33 → gI T' m j_z = gI T m j_z) (g_z : ∀ a_z, m + 8 ≤ a_z → a_z ≤ m + 10 → gI T' a_z = gI T a_z) : PaR M' T' c m := PaR.fr h_z e13_z (e_z _ (by omega) (by omega)) (e_z _ (by omega) (by omega)) (e_z _ (by omega) (by omega)) (e_z _ (by omega) (by omega)) (e_z _ (by omega) (by omega)) (e_z _ (by omega) (by omega)) (f_z _ (by omega)) (f_z _ (by omega)) (f_z _ (by omega)) (f_z _ (by omega)) (g_z _ (by omega) (by omega)) (g_z _ (by omega) (by omega)) (g_z _ (by omega) (by omega))
theorem wr_n {E_z : Int} {d_z k_z : Nat} {T' : Mem} (h' : Rel G M T' c s m E_z) (hd_z : gI M c 11 = (d_z : Int)) (hb_z : gI M c 13 < gI M s 6) (hk : k_z < 12) (hn0 : need k_z = 0) (ht : ∀ qq : Option AV → Mem → Prop, qq (some (a_i 0)) (uI T' m 16 0) → Call G J_M_isTooMuch [a_r m, a_i (k_z : Int)] (uI T' m 16 0) qq) {qq : Option AV → Mem → Prop} (hq : qq (some (a_i 0)) (uI T' m 16 0)) : Call G J_M_wrong [a_r m, a_i (k_z : Int)] T' qq := by
  obtain ⟨k1_z, k2_z, k3_z, w0_z, w1_z, k6_z⟩ := h'.opn hd_z
  have q2_z := h'.2.1
  refine wr_plain (x_z := 0) (n_z := 0) (tk := 0) (p_z := 0) h' hd_z hb_z (by omega) (by omega) (fun q_z hq => X_areOpsN q2_z k2_z k3_z (by omega) (by omega) w0_z w1_z (by omega) (by omega) (by omega) (by rw [hn0]; exact w0_z) (fun z_z hz => ?_)) ht hq
  rcases hz with ⟨z1, -⟩ | ⟨z1, i_z, i0_z, i1_z, z2⟩
  · rw [z1]
    exact hq
  · rw [hn0] at i1_z
    omega
theorem op_restore {E_z i_z x_z n_z tk : Int} {d_z p_z : Nat} (h_z : Rel G M T c s m E_z) (hd_z : gI M c 11 = (d_z : Int)) (hx : gI M (c + 22 + 4 * d_z) 4 = x_z - 1) (htk : gI M (c + 22 + 4 * d_z) 5 = tk) (hp : gR M (c + 22 + 4 * d_z) 3 = p_z) (hn : gI M p_z 3 = n_z) (hlt : tk < n_z) (hop : gR M (p_z + 1) tk = G.2 (3 + 1)) (i0_z : 0 ≤ i_z) (i1_z : i_z + 1 < 1000000) (hN_z : Nxt G c s m M E_z i_z Q) (hEr : Err G c s m M E_z Q) : HC G c s i_z M Q := by
  refine op_pre (k_z := 1) h_z hd_z hx htk hp hn hlt (by decide) (by decide) hop i0_z i1_z hEr (fun hb_z hw _ => ?_)
  have h0 := h_z
  obtain ⟨r1_z, r2, r3, ⟨r4, r5_z, r6, r7⟩, r8, r9, r10, r11, r12, r13, ⟨r14, r15, r16⟩, r17⟩ := h_z
  obtain ⟨g1, g2, g3_z, w0_z, w1_z, g6⟩ := h0.opn hd_z
  have nd : need ((1 : Nat) : Int) = 0 := by decide
  rw [nd] at hw
  have hs1 : ShMa (uI M (c + 22 + 4 * d_z) 5 (tk + 1)) c := r1_z
  have ho1 : OpF G (uI M (c + 22 + 4 * d_z) 5 (tk + 1)) := OpF.out r3 ((OutC.refl c M).uI _ _ (by omega)) r6 r4
  have f2_z : ShFr (uI M (c + 22 + 4 * d_z) 5 (tk + 1)) (c + 22 + 4 * d_z) := (r1_z.2.2.2.1 d_z g1).2
  have e13_z : gI (uI M (c + 22 + 4 * d_z) 5 (tk + 1)) c 13 = gI M c 13 := by rw [rI_ne (by omega)]
  have es6 : gI (uI M (c + 22 + 4 * d_z) 5 (tk + 1)) s 6 = gI M s 6 := by rw [rI_ne (by omega)]
  have ew : gI (uI M (c + 22 + 4 * d_z) 5 (tk + 1)) (c + 22 + 4 * d_z) 6 = gI M (c + 22 + 4 * d_z) 6 := by rw [rI_nk (by decide)]
  have hK4 : gK (uI M (c + 22 + 4 * d_z) 5 (tk + 1)) s = 4 := r8.1.1
  generalize hwd : gI M (c + 22 + 4 * d_z) 6 = w_z at *
  have hv1 : ∀ i_z, 0 ≤ i_z → i_z < w_z → NV (gL (uI M (c + 22 + 4 * d_z) 5 (tk + 1)) (c + 22 + 4 * d_z + 1) i_z) ∨ fd (gL (uI M (c + 22 + 4 * d_z) 5 (tk + 1)) (c + 22 + 4 * d_z + 1) i_z) = 0 := fun i_z i0_z i1_z => by
    rcases (g6 i_z i0_z i1_z).2.2 with q_z | q_z
    · exact Or.inl q_z
    · exact Or.inr q_z.1
  obtain ⟨-, b2, b3, -⟩ := h0.code hd_z hx htk hp hn hlt (k_z := 1) (by decide) hop
  have tb_z := h0.topb hd_z
  obtain ⟨-, j1, L_z, L3_z⟩ := b3.2.2.2.1 rfl
  rw [L3_z] at tb_z
  have tb2 : 1 ≤ gI M c 12 := by
    have q_z : nsv ((false, j1) :: L_z) = nsv L_z + 1 := rfl
    omega
  have tb3 := r11.2.2.1
  have p1_z := fun qq => X_popGr (G := G) (Q := qq) (M := uI M (c + 22 + 4 * d_z) 5 (tk + 1)) hs1 (by rw [rI_ne (by omega)]; omega) (by rw [rI_ne (by omega)]; omega)
  rw [rI_ne (by omega)] at p1_z
  generalize htp : gI M c 12 = tp at *
  refine op_run (w_z := w_z) (P_z := fun Mp => Mp = uI (uI M (c + 22 + 4 * d_z) 5 (tk + 1)) c 12 (tp - 1)) (PT_z := fun T' T1 => T1 = uI T' m 16 0) h0 hd_z hx htk hp hn hlt (by decide) (by decide) hop i0_z i1_z hb_z hN_z w0_z (by omega) (fun qq hqq => ?_) (fun Mp hMp => ?_) (fun T' h' qq hqq => ?_) (fun Mp hMp T' h' T1 hy hPT T3 t3_z st_z hst hleg hpa qq hqq => ?_)
  · have hh := hqq _ rfl
    refine perf_go (k_z := 1) hs1 ho1 r5_z hK4 f2_z (by decide) (by rw [e13_z, es6]; exact hb_z) ew w0_z w1_z hv1 (by rw [nd]; exact hw) (fun q_z => absurd q_z (by decide)) ?_
    have sm_z := ho1.1
    have s17 : gI (uI M (c + 22 + 4 * d_z) 5 (tk + 1)) (G.2 1) 1 = 3 := sm_z.2.2 1 (by decide)
    rw [B_86_33]
    simp (disch := omega) only [sm_z.1, sm_z.2.1, s17, Int.cast_ofNat_Int, B_86_146, hs1.1.u, p1_z, B_86_150, inI, inL, isT, kInt, kByt, true_and, and_true, an_t, im_t, im_f, or_true, true_or, true_imp_iff, false_imp_iff, not_true_eq_false, not_false_eq_true, gK_uI, gK_uL, gK_uR, gK_uCI, gK_uCL, gN_uI, gN_uL, gN_uR, gN_uCI, gN_uCL, gR_uI, gR_uL, gR_uCI, gR_uCL, gI_uL, gI_uR, gI_uCL, gL_uI, gL_uR, gL_uCI, gz_uI, gz_uL, gz_uR, gz_uCI, gz_uCL, gs_uI, gs_uL, gs_uR, gs_uCI, gs_uCL, rI_at, rL_at, rR_at, rI_ne, rL_ne, rR_ne, rI_nk, rL_nk, rR_nk, rI_eq, rL_eq, rR_eq, Option.toList_some, Option.toList_none, List.cons_append, List.nil_append, List.append_nil, zc_eq, zc_lt, zc_le, zc_ge, zc_gt]
    all_goals exact hh
  · subst hMp
    have o1 : Ex (fun a_z => c ≤ a_z ∧ a_z < c + 147) M (uI (uI M (c + 22 + 4 * d_z) 5 (tk + 1)) c 12 (tp - 1)) := ((Ex.refl _ M).uI _ _ (by omega)).uI _ _ (by omega)
    refine ⟨r1_z, rfl, o1.outC (fun r_z hr => hr), fun a_z a0_z a1_z a2 => ⟨?_, rfl⟩, fun a_z a0_z a1_z => ?_, fun j_z hj => ?_, ?_, ?_, ?_, ?_⟩
    · rw [rI_ne (by omega), rI_ne a2]
    · rw [rI_ne (by omega), rI_ne (by omega)]
    · rw [rI_nk (by omega), rI_ne (by omega)]
    · rw [rI_ne (by omega), rI_nk (by decide)]
    · rw [rI_ne (by omega), rI_at]
    · rw [rI_ne (by omega), rI_nk (by decide)]
      exact hwd
    · rw [rI_ne (by omega), rI_nk (by decide)]
  · refine wr_n h' hd_z hb_z (by decide) nd (fun q_z hq => ?_) (hqq _ (sy_fl0 _ _) rfl)
    simp (disch := omega) only [E_M_isTooMuch, B_215_0, B_215_399, Int.cast_ofNat_Int, inI, inL, isT, kInt, kByt, true_and, and_true, an_t, im_t, im_f, or_true, true_or, true_imp_iff, false_imp_iff, not_true_eq_false, not_false_eq_true, gK_uI, gK_uL, gK_uR, gK_uCI, gK_uCL, gN_uI, gN_uL, gN_uR, gN_uCI, gN_uCL, gR_uI, gR_uL, gR_uCI, gR_uCL, gI_uL, gI_uR, gI_uCL, gL_uI, gL_uR, gL_uCI, gz_uI, gz_uL, gz_uR, gz_uCI, gz_uCL, gs_uI, gs_uL, gs_uR, gs_uCI, gs_uCL, rI_at, rL_at, rR_at, rI_ne, rL_ne, rR_ne, rI_nk, rL_nk, rR_nk, rI_eq, rL_eq, rR_eq, Option.toList_some, Option.toList_none, List.cons_append, List.nil_append, List.append_nil, zc_eq, zc_lt, zc_le, zc_ge, zc_gt]
    all_goals exact hq
  · subst hMp
    obtain ⟨k1_z, k2_z, k3_z, -, -, k6_z⟩ := h'.opn hd_z
    rw [hwd] at k3_z
    obtain ⟨t1_z, t2_z, t4_z, t5_z, t6⟩ := t3_z
    obtain ⟨-, -, -, -, -, -, -, q11_z, q12_z, q13_z, -⟩ := h'
    obtain ⟨y1, y2, y3, y4, y5⟩ := q11_z
    rw [htp] at y1 y2 y3 y4 y5
    obtain ⟨l1, j_z, L', l2⟩ := hleg.2.2.2.1 rfl
    have f36 : gI T3 m 36 = (d_z : Int) := by rw [t4_z 36 (by decide) (by decide) (by decide) (by decide)]; exact k2_z
    have f19 : gI T3 (m + 19) d_z = w_z := by rw [t2_z _ (by omega) (by omega) (by omega) (by omega) (by omega)]; exact k3_z
    refine X_doesV1 t1_z f36 f19 g1 w0_z w1_z ?_
    have ek : gI (uI T3 (m + 19) d_z (w_z - 0)) m 19 = tp := by
      rw [rI_ne (by omega), t4_z 19 (by decide) (by decide) (by decide) (by decide)]
      exact y1.symm
    refine X_takesBack (M := uI T3 (m + 19) d_z (w_z - 0)) t1_z (by rw [ek]; omega) (by rw [ek]; omega) (fun K_z hE hR => ?_)
    rw [ek] at hE hR
    simp only [B_228_175, B_228_353, Option.toList_some, Option.toList_none, List.cons_append, List.nil_append, List.append_nil]
    have kf : ∀ j_z, j_z ≠ 19 → gI K_z m j_z = gI T3 m j_z := fun j_z n0_z => by
      rw [(hE.2.2.2.2.2 m (by omega)).1, rI_nk n0_z, rI_ne (by omega)]
    have kr : ∀ a_z, a_z ≠ m → a_z ≠ m + 6 → a_z ≠ m + 19 → gI K_z a_z = gI T3 a_z := fun a_z n0_z n1_z n2_z => by
      rw [(hE.2.2.2.2.2 a_z n1_z).1, rI_ne n0_z, rI_ne n2_z]
    have oK : OutM m T3 K_z := (((Ex.refl _ _).uI _ _ (by omega)).uI _ _ (by omega)).trans (hE.mono (fun a_z ha_z => by omega))
    have k19 : gI K_z (m + 19) = upf (gI T' (m + 19)) d_z w_z := by
      rw [(hE.2.2.2.2.2 (m + 19) (by omega)).1, rI_ne (by omega), rI_row, t2_z _ (by omega) (by omega) (by omega) (by omega) (by omega), Int.sub_zero]
    have km : gI K_z m 19 = tp - 1 := by
      rw [(hE.2.2.2.2.2 m (by omega)).1, rI_at]
    have hR' : gI K_z (m + 6) = rc (gI T' (m + 6)) 0 (gI T' (m + 7)) (20 * (tp - 1)) 20 := by
      rw [hR, rI_ne (by omega), rI_ne (by omega), t2_z _ (by omega) (by omega) (by omega) (by omega) (by omega), t2_z _ (by omega) (by omega) (by omega) (by omega) (by omega)]
    have kr' : ∀ a_z, a_z ≠ m → a_z ≠ m + 6 → a_z ≠ m + 19 → a_z ≠ m + 25 → a_z ≠ m + 26 → a_z ≠ m + 27 → a_z ≠ m + 28 → gI K_z a_z = gI T' a_z := fun a_z n0_z n1_z n2_z n3_z n4_z n5_z n6_z => by
      rw [kr a_z n0_z n1_z n2_z, t2_z a_z n0_z n3_z n4_z n5_z n6_z]
    have kf' : ∀ j_z, j_z ≠ 19 → j_z ≠ 49 → j_z ≠ 16 → j_z ≠ 20 → j_z ≠ 21 → gI K_z m j_z = gI T' m j_z := fun j_z n0_z n1_z n2_z n3_z n4_z => by
      rw [kf j_z n0_z, t4_z j_z n1_z n2_z n3_z n4_z]
    have est : stepF ((1 : Nat) : Int) tk.toNat st_z = (L', st_z.2) := by
      unfold stepF
      rw [if_neg (show ¬ ((1 : Nat) : Int) = 0 by decide), if_neg (show ¬ ((1 : Nat) : Int) = 14 by decide), if_pos (show ((1 : Nat) : Int) = 1 ∨ ((1 : Nat) : Int) = 15 from Or.inl rfl), l2]
      rfl
    refine hqq K_z ⟨oK, fun a_z ha_z => kr' a_z (by omega) (by omega) (by omega) (by omega) (by omega) (by omega) (by omega), kr _ (by omega) (by omega) (by omega), k19, fun j_z hj => kf' j_z (by omega) (by omega) (by omega) (by omega) (by omega), kf 49 (by decide)⟩ (fun v_z f_z q_z => ?_) ?_ (fun M2_z hc_z => ?_)
    · rw [est]
      rw [l2] at q_z
      exact q_z
    · rw [est, kf' 25 (by decide) (by decide) (by decide) (by decide) (by decide)]
      exact hpa
    · obtain ⟨e1_z, e2_z, e3_z, e4_z, e5_z⟩ := hc_z
      have er : ∀ a_z, a_z ≠ c → a_z ≠ c + 17 → a_z ≠ c + 18 → a_z ≠ c + 19 → a_z ≠ c + 22 + 4 * d_z → gI M2_z a_z = gI M a_z := fun a_z n0_z n1_z n2_z n3_z n4_z => by rw [e3_z a_z n0_z n1_z n2_z n3_z, rI_ne n0_z, rI_ne n4_z]
      have eL : gL M2_z = gL M := e1_z
      have m12_z : gI M2_z c 12 = tp - 1 := by rw [e4_z 12 (by decide) (by decide), rI_at]
      have po : Pool M T' M2_z K_z c m := Pool.rows (fun a_z a0_z a1_z => er a_z (by omega) (by omega) (by omega) (by omega) (by omega)) (kf' _ (by decide) (by decide) (by decide) (by decide) (by decide)) (fun a_z a0_z a1_z => kr' a_z (by omega) (by omega) (by omega) (by omega) (by omega) (by omega) (by omega))
      refine ⟨?_, ⟨by rw [m12_z, km], by omega, by omega, ?_, fun t_z ht => ?_⟩, ?_, ?_⟩
      · rw [m12_z, est, l2]
        have q_z : nsv ((false, j_z) :: L') = nsv L' + 1 := rfl
        rw [q_z, htp]
        show tp - 1 = tp - ((nsv L' + 1 : Nat) : Int) + ((nsv L' : Nat) : Int)
        omega
      · rw [m12_z, hR']
        have y_z := y5 (tp - 1).toNat (by omega)
        have r22 : c + 42 ≤ c + 42 + 3 * (tp - 1).toNat ∧ c + 42 + 3 * (tp - 1).toNat + 2 < c + 147 := by omega
        have rt : ((tp - 1).toNat : Int) = tp - 1 := by omega
        rw [rt] at y_z
        generalize c + 42 + 3 * (tp - 1).toNat = r_z at *
        exact GrR.fr y_z po (er _ (by omega) (by omega) (by omega) (by omega) (by omega)) (by rw [eL]) (er _ (by omega) (by omega) (by omega) (by omega) (by omega)) (fun k_z k0_z k1_z => by rw [rc_in _ _ (by omega), show 20 * (tp - 1) + (k_z - 0) = 20 * (tp - 1) + k_z from by omega])
      · rw [m12_z] at ht
        exact GrR.fr (y5 t_z (by omega)) po (er _ (by omega) (by omega) (by omega) (by omega) (by omega)) (by rw [eL]) (er _ (by omega) (by omega) (by omega) (by omega) (by omega)) (fun k_z k0_z k1_z => by rw [kr' (m + 7) (by omega) (by omega) (by omega) (by omega) (by omega) (by omega) (by omega)])
      · exact PaR.rows q12_z (by rw [e5_z, rI_nk (by decide), rI_ne (by omega)]; omega) (fun a_z a0_z a1_z => er a_z (by omega) (by omega) (by omega) (by omega) (by omega)) (fun j_z hj => kf' j_z (by omega) (by omega) (by omega) (by omega) (by omega)) (fun a_z a0_z a1_z => kr' a_z (by omega) (by omega) (by omega) (by omega) (by omega) (by omega) (by omega))
      · exact ItR.fr q13_z po (fun a_z a0_z a1_z => er a_z (by omega) (by omega) (by omega) (by omega) (by omega)) (kf' _ (by decide) (by decide) (by decide) (by decide) (by decide)) (kr' _ (by omega) (by omega) (by omega) (by omega) (by omega) (by omega) (by omega))
end KB
