/-! THE PURE PART, part 13: operators of the operand stack. Own work. -/
theorem FrL.next {M T M' T' : Mem} {s m r_z : Nat} {l tk w_z : Int} (h_z : FrL M T s m r_z l tk) (eR : gR M' = gR M) (e4_z : gI M' r_z 4 = gI M r_z 4) (e5_z : gI M' r_z 5 = tk + 1) (e6_z : gI M' r_z 6 = w_z) (w0_z : 0 ≤ w_z) (w1_z : w_z ≤ 16) (e7_z : gI M' r_z 7 = gI M r_z 7) (e2_z : gI M' (r_z + 2) = gI M (r_z + 2)) (e3_z : gI M' (r_z + 3) = gI M (r_z + 3)) (t1_z : gI T' (m + 1) = gI T (m + 1)) (t17 : gI T' (m + 17) l = gI T (m + 17) l) (t19 : gI T' (m + 19) l = w_z) (hop : ∀ i_z, 0 ≤ i_z → i_z < w_z → OpR (gI T' (m + 20) (16 * l + i_z)) (gI T' (m + 21) (16 * l + i_z)) (gL M' (r_z + 1) i_z)) (t22 : gI T' (m + 22) l = gI T (m + 22) l) (t23 : gI T' (m + 23) = gI T (m + 23)) (t24 : gI T' (m + 24) = gI T (m + 24)) (htk : tk + 1 ≤ lnm T m (gI T (m + 17) l)) (hc_z : (scan (cdm T m (gI T (m + 17) l)) (tk.toNat + 1)).1 = (scan (cdm T m (gI T (m + 17) l)) tk.toNat).1) : FrL M' T' s m r_z l (tk + 1) := by
  obtain ⟨h1, h2, h3, h4, h5, h6, h7, h8⟩ := h_z
  have ec : ∀ x_z, cdm T' m x_z = cdm T m x_z := fun x_z => by
    funext k
    unfold cdm
    rw [t1_z]
  unfold FrL lnm
  unfold lnm at h2 h3 htk
  rw [eR, e4_z, e5_z, e6_z, e7_z, e2_z, e3_z, t1_z, t17, t19, t22, t23, t24, ec]
  refine ⟨h1, h2, ⟨rfl, by omega, htk⟩, ⟨rfl, w0_z, w1_z⟩, hop, h6, h7, ?_⟩
  rw [show (tk + 1).toNat = tk.toNat + 1 from by omega, hc_z]
  exact h8
section CB
variable {G : Env0} {Q : Option AV → Mem → Prop} {M T : Mem} {c s m : Nat}
theorem op_okN {E_z i_z x_z n_z tk w_z : Int} {d_z p_z k_z : Nat} {Mp : Mem} {PT_z : Mem → Mem → Prop} (h_z : Rel G M T c s m E_z) (hd_z : gI M c 11 = (d_z : Int)) (hx : gI M (c + 22 + 4 * d_z) 4 = x_z - 1) (htk : gI M (c + 22 + 4 * d_z) 5 = tk) (hp : gR M (c + 22 + 4 * d_z) 3 = p_z) (hn : gI M p_z 3 = n_z) (hlt : tk < n_z) (hk : k_z < 23) (hkc : k_z = 2 ∨ k_z = 4 ∨ k_z = 5 ∨ k_z = 7 ∨ k_z = 8 ∨ k_z = 12 ∨ k_z = 13 ∨ 16 ≤ k_z) (hop : gR M (p_z + 1) tk = G.2 (3 + k_z)) (i0_z : 0 ≤ i_z) (i1_z : i_z + 1 < 1000000) (hb_z : gI M c 13 < gI M s 6) (hN_z : Nxt G c s m M E_z i_z Q)
    (hC : ∀ qq : Option AV → Mem → Prop, qq (some (a_i 0)) Mp → Call G J_Ma_perform [a_r c, a_r (G.2 (3 + k_z)), a_r (c + 22 + 4 * d_z), a_i tk] (uI M (c + 22 + 4 * d_z) 5 (tk + 1)) qq)
    (hMp : Ex (fun a_z => c + 22 + 4 * d_z ≤ a_z ∧ a_z < c + 22 + 4 * d_z + 2) M Mp) (h4 : gI Mp (c + 22 + 4 * d_z) 4 = gI M (c + 22 + 4 * d_z) 4) (h5 : gI Mp (c + 22 + 4 * d_z) 5 = tk + 1) (h6 : gI Mp (c + 22 + 4 * d_z) 6 = w_z) (w0_z : 0 ≤ w_z) (w1_z : w_z ≤ 16) (h7 : gI Mp (c + 22 + 4 * d_z) 7 = gI M (c + 22 + 4 * d_z) 7)
    (hM_z : ∀ T', Rel G M T' c s m E_z → ∀ qq : Option AV → Mem → Prop, (∀ T1, Sy T' T1 m → PT_z T' T1 → qq (some (a_i 0)) T1) → Call G J_M_wrong [a_r m, a_i (k_z : Int)] T' qq)
    (hD : ∀ T', Rel G M T' c s m E_z → ∀ T1, Sy T' T1 m → PT_z T' T1 → ∃ T3, (∀ qq : Option AV → Mem → Prop, qq none T3 → Call G J_M_does [a_r m, a_i (k_z : Int)] (trcT T1 m (x_z - 1) tk d_z) qq) ∧ Ex (fun a_z => a_z = m + 19 ∨ a_z = m + 20 ∨ a_z = m + 21) (trcT T1 m (x_z - 1) tk d_z) T3 ∧ gI T3 (m + 19) d_z = w_z ∧
      (∀ l : Int, 0 ≤ l → l < d_z → gI T3 (m + 19) l = gI T' (m + 19) l) ∧ (∀ i_z : Int, 0 ≤ i_z → i_z < 16 * d_z → gI T3 (m + 20) i_z = gI T' (m + 20) i_z ∧ gI T3 (m + 21) i_z = gI T' (m + 21) i_z) ∧ ∀ i_z : Int, 0 ≤ i_z → i_z < w_z → OpR (gI T3 (m + 20) (16 * d_z + i_z)) (gI T3 (m + 21) (16 * d_z + i_z)) (gL Mp (c + 22 + 4 * d_z + 1) i_z)) : HC G c s i_z M Q := by
  have rowP : ∀ a_z, ¬ (c + 22 + 4 * d_z ≤ a_z ∧ a_z < c + 22 + 4 * d_z + 2) → gI Mp a_z = gI M a_z := fun a_z ha_z => (hMp.2.2.2.2.2 a_z ha_z).1
  refine op_okF (wk_z := 200 * lft (gI M (c + 22 + 4 * d_z + 3)) (gI M (c + 22 + 4 * d_z) 7) + (n_z - tk - 1) + 1) h_z hd_z hx htk hp hn hlt hk (by omega) hop i0_z i1_z hb_z hN_z hC (hMp.mono (fun a_z ha_z => by omega)) h4 (by omega) hM_z (fun T' h' T1 hy hPT => ?_)
  obtain ⟨T3, g1, g2, g3_z, g4, g5_z, g6⟩ := hD T' h' T1 hy hPT
  obtain ⟨a1_z, a2, -, -⟩ := h'.code hd_z hx htk hp hn hlt hk hop
  have u_z := a1_z
  obtain ⟨u1_z, u2_z, u3, u4_z, u5, u6, u7, u8, u9, u10, u11, u12, u13, u14, u15, u16, u17⟩ := u_z
  obtain ⟨-, -, -, -, -, -, q10_z, -⟩ := h'
  obtain ⟨k1_z, k2_z, kF, kP_z⟩ := q10_z.get hd_z
  rw [u10] at kF
  have rowT : ∀ a_z, a_z ≠ m → a_z ≠ m + 25 → ¬ (a_z = m + 19 ∨ a_z = m + 20 ∨ a_z = m + 21) → a_z ≠ m + 26 → a_z ≠ m + 27 → a_z ≠ m + 28 → gI T3 a_z = gI T' a_z := fun a_z n0_z n1_z n2_z n3_z n4_z n5_z => by
    rw [(g2.2.2.2.2.2 a_z n2_z).1]
    unfold trcT
    rw [rI_ne n0_z, rI_ne n1_z, rI_ne n1_z, rI_ne n1_z]
    exact hy.row n0_z n3_z n4_z n5_z
  have e18_z : gI T3 (m + 18) d_z = tk := by
    rw [rowT _ (by omega) (by omega) (by omega) (by omega) (by omega) (by omega)]
    exact u10
  have t1_z : gI (uI T3 (m + 18) d_z (tk + 1)) (m + 1) = gI T' (m + 1) := by rw [rI_ne (by omega), rowT _ (by omega) (by omega) (by omega) (by omega) (by omega) (by omega)]
  have t17 : gI (uI T3 (m + 18) d_z (tk + 1)) (m + 17) = gI T' (m + 17) := by rw [rI_ne (by omega), rowT _ (by omega) (by omega) (by omega) (by omega) (by omega) (by omega)]
  have hcode : cdm T' m (gI T' (m + 17) d_z) (gI M (c + 22 + 4 * d_z) 5).toNat = (k_z : Int) := by rw [u3, u9]; exact a2
  have hsc : sc Mp (uI T3 (m + 18) d_z (tk + 1)) m (c + 22 + 4 * d_z) d_z = sc M T' m (c + 22 + 4 * d_z) d_z := sc_same t1_z (by rw [t17]) (by omega) (by rw [h5, htk]) (by rw [hcode]; omega)
  refine ⟨T3, g1, g2.mono (fun a_z ha_z => by omega), ⟨by omega, by omega⟩, fun l l0 l1 => ⟨by rw [rowT _ (by omega) (by omega) (by omega) (by omega) (by omega) (by omega)], g4 l l0 l1, by rw [rowT _ (by omega) (by omega) (by omega) (by omega) (by omega) (by omega)]⟩, g5_z, fun i_z i0_z i1_z => ⟨by rw [rowT _ (by omega) (by omega) (by omega) (by omega) (by omega) (by omega)], by rw [rowT _ (by omega) (by omega) (by omega) (by omega) (by omega) (by omega)]⟩, ?_, ?_, ?_, ?_⟩
  · rw [e18_z]
    refine FrL.next kF hMp.2.2.1 h4 h5 h6 w0_z w1_z h7 (rowP _ (by omega)) (rowP _ (by omega)) t1_z (by rw [t17]) (by rw [rI_ne (by omega)]; exact g3_z) (fun i_z i0_z i1_z => ?_) ?_ ?_ ?_ (by rw [u3, u8]; omega) ?_
    · rw [rI_ne (by omega), rI_ne (by omega)]
      exact g6 i_z i0_z i1_z
    · rw [rI_ne (by omega), rowT _ (by omega) (by omega) (by omega) (by omega) (by omega) (by omega)]
    · rw [rI_ne (by omega), rowT _ (by omega) (by omega) (by omega) (by omega) (by omega) (by omega)]
    · rw [rI_ne (by omega), rowT _ (by omega) (by omega) (by omega) (by omega) (by omega) (by omega)]
    · show (stepF (cdm T' m (gI T' (m + 17) d_z) tk.toNat) tk.toNat (scan (cdm T' m (gI T' (m + 17) d_z)) tk.toNat)).1 = _
      rw [stepF_id (by rw [u3, a2]; omega)]
  · rw [e18_z, hsc]
  · rw [e18_z, hsc]
  · rw [e18_z]
    unfold wrk lnm
    unfold lnm at u8
    rw [t1_z, t17, u3, u8, h5, h7, rowP (c + 22 + 4 * d_z + 3) (by omega)]
    omega
/-- the model's check goes well, and nothing is computed -/
theorem wr_plain {E_z x_z n_z tk : Int} {d_z p_z k_z : Nat} {T' : Mem} (h' : Rel G M T' c s m E_z) (hd_z : gI M c 11 = (d_z : Int)) (hb_z : gI M c 13 < gI M s 6) (k1_z : k_z < 22) (kc_z : k_z ≠ 12 ∧ k_z ≠ 13) (ha_z : ∀ qq : Option AV → Mem → Prop, qq (some (a_i 1)) T' → Call G J_M_areOperands [a_r m, a_i (k_z : Int)] T' qq) (ht : ∀ qq : Option AV → Mem → Prop, qq (some (a_i 0)) (uI T' m 16 0) → Call G J_M_isTooMuch [a_r m, a_i (k_z : Int)] (uI T' m 16 0) qq) {qq : Option AV → Mem → Prop} (hq : qq (some (a_i 0)) (uI T' m 16 0)) : Call G J_M_wrong [a_r m, a_i (k_z : Int)] T' qq := by
  obtain ⟨q1_z, q2_z, q3_z, -, q8_z, q9_z, -⟩ := h'
  have hb' : gI T' m 49 ≠ gI T' (m + 1) 1215 := by
    have := q9_z.1
    have := q8_z.2.2.2.2.2.2.1
    omega
  have hm0 : ShM (uI T' m 16 0) m := q2_z
  exact X_wrongN q2_z (by omega) (by omega) (by omega) hb' ha_z (ht _ ⟨0, rfl, hm0, Or.inl rI_at, fun q_z => by
    have e_z : gI (uI T' m 16 0) m 16 = 0 := rI_at
    omega, fun _ _ => hq⟩)
theorem sy_fl0 (T : Mem) (m : Nat) : Sy T (uI T m 16 0) m := (Sy.refl T m).uI _ (Or.inl ⟨rfl, Or.inl rfl⟩)
theorem op_pop {E_z i_z x_z n_z tk : Int} {d_z p_z : Nat} (h_z : Rel G M T c s m E_z) (hd_z : gI M c 11 = (d_z : Int)) (hx : gI M (c + 22 + 4 * d_z) 4 = x_z - 1) (htk : gI M (c + 22 + 4 * d_z) 5 = tk) (hp : gR M (c + 22 + 4 * d_z) 3 = p_z) (hn : gI M p_z 3 = n_z) (hlt : tk < n_z) (hop : gR M (p_z + 1) tk = G.2 (3 + 17)) (i0_z : 0 ≤ i_z) (i1_z : i_z + 1 < 1000000) (hN_z : Nxt G c s m M E_z i_z Q) (hEr : Err G c s m M E_z Q) : HC G c s i_z M Q := by
  refine op_pre (k_z := 17) h_z hd_z hx htk hp hn hlt (by decide) (by decide) hop i0_z i1_z hEr (fun hb_z hw _ => ?_)
  have h0 := h_z
  obtain ⟨r1_z, r2, r3, ⟨r4, r5_z, r6, r7⟩, r8, r9, r10, r11, r12, r13, ⟨r14, r15, r16⟩, r17⟩ := h_z
  obtain ⟨g1, g2, g3_z, w0_z, w1_z, g6⟩ := h0.opn hd_z
  have nd : need ((17 : Nat) : Int) = 1 := by decide
  rw [nd] at hw
  have hs1 : ShMa (uI M (c + 22 + 4 * d_z) 5 (tk + 1)) c := r1_z
  have ho1 : OpF G (uI M (c + 22 + 4 * d_z) 5 (tk + 1)) := OpF.out r3 ((OutC.refl c M).uI _ _ (by omega)) r6 r4
  have f2_z : ShFr (uI M (c + 22 + 4 * d_z) 5 (tk + 1)) (c + 22 + 4 * d_z) := (r1_z.2.2.2.1 d_z g1).2
  have e13_z : gI (uI M (c + 22 + 4 * d_z) 5 (tk + 1)) c 13 = gI M c 13 := by rw [rI_ne (by omega)]
  have es6 : gI (uI M (c + 22 + 4 * d_z) 5 (tk + 1)) s 6 = gI M s 6 := by rw [rI_ne (by omega)]
  have ew : gI (uI M (c + 22 + 4 * d_z) 5 (tk + 1)) (c + 22 + 4 * d_z) 6 = gI M (c + 22 + 4 * d_z) 6 := by rw [rI_nk (by decide)]
  have hK4 : gK (uI M (c + 22 + 4 * d_z) 5 (tk + 1)) s = 4 := r8.1.1
  generalize hwd : gI M (c + 22 + 4 * d_z) 6 = w_z at *
  refine op_okN (w_z := w_z - 1) (Mp := uI (uI M (c + 22 + 4 * d_z) 5 (tk + 1)) (c + 22 + 4 * d_z) 6 (w_z - 1)) (PT_z := fun T' T1 => T1 = uI T' m 16 0) h0 hd_z hx htk hp hn hlt (by decide) (by decide) hop i0_z i1_z hb_z hN_z (fun qq hqq => ?_) (((Ex.refl _ M).uI _ _ (by omega)).uI _ _ (by omega)) (by simp (disch := omega) only [gK_uI, gK_uL, gK_uR, gK_uCI, gK_uCL, gN_uI, gN_uL, gN_uR, gN_uCI, gN_uCL, gR_uI, gR_uL, gR_uCI, gR_uCL, gI_uL, gI_uR, gI_uCL, gL_uI, gL_uR, gL_uCI, gz_uI, gz_uL, gz_uR, gz_uCI, gz_uCL, gs_uI, gs_uL, gs_uR, gs_uCI, gs_uCL, rI_at, rL_at, rR_at, rI_ne, rL_ne, rR_ne, rI_nk, rL_nk, rR_nk, rI_eq, rL_eq, rR_eq]) (by simp (disch := omega) only [gK_uI, gK_uL, gK_uR, gK_uCI, gK_uCL, gN_uI, gN_uL, gN_uR, gN_uCI, gN_uCL, gR_uI, gR_uL, gR_uCI, gR_uCL, gI_uL, gI_uR, gI_uCL, gL_uI, gL_uR, gL_uCI, gz_uI, gz_uL, gz_uR, gz_uCI, gz_uCL, gs_uI, gs_uL, gs_uR, gs_uCI, gs_uCL, rI_at, rL_at, rR_at, rI_ne, rL_ne, rR_ne, rI_nk, rL_nk, rR_nk, rI_eq, rL_eq, rR_eq]) rI_at (by omega) (by omega) (by simp (disch := omega) only [gK_uI, gK_uL, gK_uR, gK_uCI, gK_uCL, gN_uI, gN_uL, gN_uR, gN_uCI, gN_uCL, gR_uI, gR_uL, gR_uCI, gR_uCL, gI_uL, gI_uR, gI_uCL, gL_uI, gL_uR, gL_uCI, gz_uI, gz_uL, gz_uR, gz_uCI, gz_uCL, gs_uI, gs_uL, gs_uR, gs_uCI, gs_uCL, rI_at, rL_at, rR_at, rI_ne, rL_ne, rR_ne, rI_nk, rL_nk, rR_nk, rI_eq, rL_eq, rR_eq]) (fun T' h' qq hqq => ?_) (fun T' h' T1 hy hPT => ?_)
  · refine perf_go hs1 ho1 r5_z hK4 f2_z (by decide) (by rw [e13_z, es6]; exact hb_z) ew w0_z w1_z (fun i_z i0_z i1_z => ?_) (by rw [nd]; exact hw) (fun q_z => absurd q_z (by decide)) ?_
    · rcases (g6 i_z i0_z i1_z).2.2 with q_z | q_z
      · exact Or.inl q_z
      · exact Or.inr q_z.1
    · have sm_z := ho1.1
      have s17 : gI (uI M (c + 22 + 4 * d_z) 5 (tk + 1)) (G.2 1) 17 = 18 := sm_z.2.2 17 (by decide)
      have hR := fun qq => X_remove (G := G) (Q := qq) (x_z := 1) f2_z (by decide) (by omega) (by omega)
      rw [ew] at hR
      rw [B_86_33]
      simp (disch := omega) only [sm_z.1, sm_z.2.1, s17, Int.cast_ofNat_Int, B_86_239, f2_z.u, hR, B_86_244, inI, inL, isT, kInt, kByt, true_and, and_true, an_t, im_t, im_f, or_true, true_or, true_imp_iff, false_imp_iff, not_true_eq_false, not_false_eq_true, gK_uI, gK_uL, gK_uR, gK_uCI, gK_uCL, gN_uI, gN_uL, gN_uR, gN_uCI, gN_uCL, gR_uI, gR_uL, gR_uCI, gR_uCL, gI_uL, gI_uR, gI_uCL, gL_uI, gL_uR, gL_uCI, gz_uI, gz_uL, gz_uR, gz_uCI, gz_uCL, gs_uI, gs_uL, gs_uR, gs_uCI, gs_uCL, rI_at, rL_at, rR_at, rI_ne, rL_ne, rR_ne, rI_nk, rL_nk, rR_nk, rI_eq, rL_eq, rR_eq, Option.toList_some, Option.toList_none, List.cons_append, List.nil_append, List.append_nil, zc_eq, zc_lt, zc_le, zc_ge, zc_gt]
      all_goals exact hqq
  · obtain ⟨k1_z, k2_z, k3_z, -, -, k6_z⟩ := h'.opn hd_z
    have q2_z := h'.2.1
    refine wr_plain (x_z := x_z) (n_z := n_z) (tk := tk) (p_z := p_z) h' hd_z hb_z (by decide) (by decide) (fun q_z hq => X_areOpsA q2_z k2_z k3_z (by omega) (by omega) (Or.inr (Or.inl rfl)) (by rw [hwd]; exact hw) hq) (fun q_z hq => ?_) (hqq _ (sy_fl0 _ _) rfl)
    simp (disch := omega) only [E_M_isTooMuch, B_215_0, B_215_399, Int.cast_ofNat_Int, inI, inL, isT, kInt, kByt, true_and, and_true, an_t, im_t, im_f, or_true, true_or, true_imp_iff, false_imp_iff, not_true_eq_false, not_false_eq_true, gK_uI, gK_uL, gK_uR, gK_uCI, gK_uCL, gN_uI, gN_uL, gN_uR, gN_uCI, gN_uCL, gR_uI, gR_uL, gR_uCI, gR_uCL, gI_uL, gI_uR, gI_uCL, gL_uI, gL_uR, gL_uCI, gz_uI, gz_uL, gz_uR, gz_uCI, gz_uCL, gs_uI, gs_uL, gs_uR, gs_uCI, gs_uCL, rI_at, rL_at, rR_at, rI_ne, rL_ne, rR_ne, rI_nk, rL_nk, rR_nk, rI_eq, rL_eq, rR_eq, Option.toList_some, Option.toList_none, List.cons_append, List.nil_append, List.append_nil, zc_eq, zc_lt, zc_le, zc_ge, zc_gt]
    all_goals exact hq
  · subst hPT
    obtain ⟨k1_z, k2_z, k3_z, -, -, k6_z⟩ := h'.opn hd_z
    have q2_z := h'.2.1
    rw [hwd] at k3_z k6_z
    refine ⟨uI (trcT (uI T' m 16 0) m (x_z - 1) tk d_z) (m + 19) d_z (w_z - 1), fun qq hqq => ?_, (Ex.refl _ _).uI _ _ (Or.inl rfl), rI_at, fun l l0 l1 => ?_, fun i_z i0_z i1_z => ?_, fun i_z i0_z i1_z => ?_⟩
    · have hm2 : ShM (trcT (uI T' m 16 0) m (x_z - 1) tk d_z) m := q2_z
      have e36 : gI (trcT (uI T' m 16 0) m (x_z - 1) tk d_z) m 36 = (d_z : Int) := by
        unfold trcT
        simp (disch := omega) only [gK_uI, gK_uL, gK_uR, gK_uCI, gK_uCL, gN_uI, gN_uL, gN_uR, gN_uCI, gN_uCL, gR_uI, gR_uL, gR_uCI, gR_uCL, gI_uL, gI_uR, gI_uCL, gL_uI, gL_uR, gL_uCI, gz_uI, gz_uL, gz_uR, gz_uCI, gz_uCL, gs_uI, gs_uL, gs_uR, gs_uCI, gs_uCL, rI_at, rL_at, rR_at, rI_ne, rL_ne, rR_ne, rI_nk, rL_nk, rR_nk, rI_eq, rL_eq, rR_eq]
        exact k2_z
      have e19_z : gI (trcT (uI T' m 16 0) m (x_z - 1) tk d_z) (m + 19) d_z = w_z := by
        unfold trcT
        simp (disch := omega) only [gK_uI, gK_uL, gK_uR, gK_uCI, gK_uCL, gN_uI, gN_uL, gN_uR, gN_uCI, gN_uCL, gR_uI, gR_uL, gR_uCI, gR_uCL, gI_uL, gI_uR, gI_uCL, gL_uI, gL_uR, gL_uCI, gz_uI, gz_uL, gz_uR, gz_uCI, gz_uCL, gs_uI, gs_uL, gs_uR, gs_uCI, gs_uCL, rI_at, rL_at, rR_at, rI_ne, rL_ne, rR_ne, rI_nk, rL_nk, rR_nk, rI_eq, rL_eq, rR_eq]
        exact k3_z
      generalize trcT (uI T' m 16 0) m (x_z - 1) tk d_z = T2 at *
      have tt := fun qq => X_topE (G := G) (Q := qq) (M := T2) (m := m) (k_z := 0) hm2 e36 e19_z (by omega) (by omega) (by omega) (by omega) (by omega) (by omega)
      have n17 := fun qq => X_needed (G := G) (T := T2) (Q := qq) (k_z := 17) (by decide) (by decide)
      rw [show need 17 = 1 from by decide] at n17
      simp (disch := omega) only [E_M_does, B_228_0, n17, B_228_4, hm2.u, tt, B_228_19, Int.cast_ofNat_Int, B_228_24, B_228_54, B_228_55, Y_inT (x_z := 17) (y_z := 16) (w_z := 18) (by decide), B_228_65, E_M_stacks, B_229_0, B_229_9, B_229_20, B_229_39, B_229_110, B_229_123, e36, e19_z, B_228_73, inI, inL, isT, kInt, kByt, true_and, and_true, an_t, im_t, im_f, or_true, true_or, true_imp_iff, false_imp_iff, not_true_eq_false, not_false_eq_true, gK_uI, gK_uL, gK_uR, gK_uCI, gK_uCL, gN_uI, gN_uL, gN_uR, gN_uCI, gN_uCL, gR_uI, gR_uL, gR_uCI, gR_uCL, gI_uL, gI_uR, gI_uCL, gL_uI, gL_uR, gL_uCI, gz_uI, gz_uL, gz_uR, gz_uCI, gz_uCL, gs_uI, gs_uL, gs_uR, gs_uCI, gs_uCL, rI_at, rL_at, rR_at, rI_ne, rL_ne, rR_ne, rI_nk, rL_nk, rR_nk, rI_eq, rL_eq, rR_eq, Option.toList_some, Option.toList_none, List.cons_append, List.nil_append, List.append_nil, zc_eq, zc_lt, zc_le, zc_ge, zc_gt]
      all_goals exact hqq
    · rw [rI_nk (by omega)]
      unfold trcT
      simp (disch := omega) only [gK_uI, gK_uL, gK_uR, gK_uCI, gK_uCL, gN_uI, gN_uL, gN_uR, gN_uCI, gN_uCL, gR_uI, gR_uL, gR_uCI, gR_uCL, gI_uL, gI_uR, gI_uCL, gL_uI, gL_uR, gL_uCI, gz_uI, gz_uL, gz_uR, gz_uCI, gz_uCL, gs_uI, gs_uL, gs_uR, gs_uCI, gs_uCL, rI_at, rL_at, rR_at, rI_ne, rL_ne, rR_ne, rI_nk, rL_nk, rR_nk, rI_eq, rL_eq, rR_eq]
    · unfold trcT
      simp (disch := omega) only [gK_uI, gK_uL, gK_uR, gK_uCI, gK_uCL, gN_uI, gN_uL, gN_uR, gN_uCI, gN_uCL, gR_uI, gR_uL, gR_uCI, gR_uCL, gI_uL, gI_uR, gI_uCL, gL_uI, gL_uR, gL_uCI, gz_uI, gz_uL, gz_uR, gz_uCI, gz_uCL, gs_uI, gs_uL, gs_uR, gs_uCI, gs_uCL, rI_at, rL_at, rR_at, rI_ne, rL_ne, rR_ne, rI_nk, rL_nk, rR_nk, rI_eq, rL_eq, rR_eq]
      exact ⟨trivial, trivial⟩
    · unfold trcT
      simp (disch := omega) only [gK_uI, gK_uL, gK_uR, gK_uCI, gK_uCL, gN_uI, gN_uL, gN_uR, gN_uCI, gN_uCL, gR_uI, gR_uL, gR_uCI, gR_uCL, gI_uL, gI_uR, gI_uCL, gL_uI, gL_uR, gL_uCI, gz_uI, gz_uL, gz_uR, gz_uCI, gz_uCL, gs_uI, gs_uL, gs_uR, gs_uCI, gs_uCL, rI_at, rL_at, rR_at, rI_ne, rL_ne, rR_ne, rI_nk, rL_nk, rR_nk, rI_eq, rL_eq, rR_eq]
      exact k6_z i_z i0_z (by omega)
end CB
