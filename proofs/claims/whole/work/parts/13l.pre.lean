/-! THE PURE PART, part 13: up to the switch of the operators. Own work. -/
/-- the operator's numbers -/
theorem op_nums : ∀ k_z : Nat, k_z < 23 → (((opV k_z).getD (vix 2) 0 : Nat) : Int) = need k_z ∧ (((opV k_z).getD (vix 3) 0 : Nat) : Int) = (if k_z = 2 ∨ k_z = 3 ∨ k_z = 4 ∨ k_z = 6 ∨ k_z = 14 ∨ 19 ≤ k_z then 1 else 0) := by decide +kernel
theorem op_ord : ∀ k_z : Nat, k_z < 23 → (opV k_z).getD (vix 0) 0 = k_z := by decide +kernel
section BB
variable {G : Env0} {Q : Option AV → Mem → Prop} {M T : Mem} {c s m r : Nat}
theorem OpF.n {k_z : Nat} (h_z : OpF G M) (hk : k_z < 23) : G.2 (3 + k_z) ≠ 0 ∧ gK M (G.2 (3 + k_z)) = 41 ∧ gI M (G.2 (3 + k_z)) 0 = (k_z : Int) ∧ gI M (G.2 (3 + k_z)) 2 = need k_z ∧ gI M (G.2 (3 + k_z)) 3 = (if k_z = 2 ∨ k_z = 3 ∨ k_z = 4 ∨ k_z = 6 ∨ k_z = 14 ∨ 19 ≤ k_z then 1 else 0) := by
  obtain ⟨a1_z, a2, a3⟩ := h_z.2 k_z hk
  refine ⟨a1_z, a2, ?_, ?_, ?_⟩
  · have := a3 0 (by decide)
    rw [op_ord k_z hk] at this
    exact this
  · rw [← (op_nums k_z hk).1]
    exact a3 2 (by decide)
  · rw [← (op_nums k_z hk).2]
    exact a3 3 (by decide)
/-- the class, up to the switch -/
theorem perf_go {k_z : Nat} {w_z tk : Int} (hs : ShMa M c) (ho : OpF G M) (h9 : gR M c 9 = s) (h4 : gK M s = 4) (hf : ShFr M r) (hk : k_z < 23) (hb_z : gI M c 13 < gI M s 6) (hw : gI M r 6 = w_z) (w0_z : 0 ≤ w_z) (w1_z : w_z ≤ 16) (hv : ∀ i_z, 0 ≤ i_z → i_z < w_z → NV (gL M (r + 1) i_z) ∨ fd (gL M (r + 1) i_z) = 0) (hn : need k_z ≤ w_z) (hg : (k_z = 2 ∨ k_z = 3 ∨ k_z = 4 ∨ k_z = 6 ∨ k_z = 14 ∨ 19 ≤ k_z) → ∀ i_z, 0 ≤ i_z → i_z < need k_z → NV (gL M (r + 1) (w_z - 1 - i_z))) (h_z : At G 86 33 [a_r c, a_r (G.2 (3 + k_z)), a_r r, a_i tk] [a_i (k_z : Int), a_r (G.2 1)] M Q) : Call G J_Ma_perform [a_r c, a_r (G.2 (3 + k_z)), a_r r, a_i tk] M Q := by
  obtain ⟨o0_z, o1, o2, o3_z, o4_z⟩ := ho.n hk
  have n0_z : 0 ≤ need k_z := by
    unfold need
    repeat' split
    all_goals decide
  simp (disch := omega) only [E_Ma_perform, B_86_0, B_86_16, hs.1.u, h9, h4, hf.u, inI, inL, isT, kInt, kByt, true_and, and_true, an_t, im_t, im_f, or_true, true_or, true_imp_iff, false_imp_iff, not_true_eq_false, not_false_eq_true, gK_uI, gK_uL, gK_uR, gK_uCI, gK_uCL, gN_uI, gN_uL, gN_uR, gN_uCI, gN_uCL, gR_uI, gR_uL, gR_uCI, gR_uCL, gI_uL, gI_uR, gI_uCL, gL_uI, gL_uR, gL_uCI, gz_uI, gz_uL, gz_uR, gz_uCI, gz_uCL, gs_uI, gs_uL, gs_uR, gs_uCI, gs_uCL, rI_at, rL_at, rR_at, rI_ne, rL_ne, rR_ne, rI_nk, rL_nk, rR_nk, rI_eq, rL_eq, rR_eq, Option.toList_some, Option.toList_none, List.cons_append, List.nil_append, List.append_nil, zc_eq, zc_lt, zc_le, zc_ge, zc_gt]
  refine X_hasOps hf o1 o3_z hw w0_z w1_z n0_z hv (fun z_z hz => ?_)
  have z1 : z_z = 1 := by
    rcases hz with ⟨z1, -⟩ | ⟨z1, z2 | ⟨z2, z3, i_z, i0_z, i1_z, z4⟩⟩
    · exact z1
    · omega
    · rw [o4_z] at z3
      have := (hg (by
        by_cases q_z : k_z = 2 ∨ k_z = 3 ∨ k_z = 4 ∨ k_z = 6 ∨ k_z = 14 ∨ 19 ≤ k_z
        · exact q_z
        · rw [if_neg q_z] at z3
          exact absurd rfl z3)) i_z i0_z i1_z
      have := this.2.2.1
      omega
  subst z1
  simp (disch := omega) only [B_86_21, B_86_26, E_En_ordinal, B_42_0, o1, o2, inI, inL, isT, kInt, kByt, true_and, and_true, an_t, im_t, im_f, or_true, true_or, true_imp_iff, false_imp_iff, not_true_eq_false, not_false_eq_true, gK_uI, gK_uL, gK_uR, gK_uCI, gK_uCL, gN_uI, gN_uL, gN_uR, gN_uCI, gN_uCL, gR_uI, gR_uL, gR_uCI, gR_uCL, gI_uL, gI_uR, gI_uCL, gL_uI, gL_uR, gL_uCI, gz_uI, gz_uL, gz_uR, gz_uCI, gz_uCL, gs_uI, gs_uL, gs_uR, gs_uCI, gs_uCL, rI_at, rL_at, rR_at, rI_ne, rL_ne, rR_ne, rI_nk, rL_nk, rR_nk, rI_eq, rL_eq, rR_eq, Option.toList_some, Option.toList_none, List.cons_append, List.nil_append, List.append_nil, zc_eq, zc_lt, zc_le, zc_ge, zc_gt]
  all_goals exact h_z
theorem perf_bud {k_z : Nat} {tk : Int} (hs : ShMa M c) (h9 : gR M c 9 = s) (h4 : gK M s = 4) (hb_z : gI M s 6 ≤ gI M c 13) (hq : Q (some (a_i 1)) M) : Call G J_Ma_perform [a_r c, a_r (G.2 (3 + k_z)), a_r r, a_i tk] M Q := by
  simp (disch := omega) only [E_Ma_perform, B_86_0, hs.1.u, h9, h4, inI, inL, isT, kInt, kByt, true_and, and_true, an_t, im_t, im_f, or_true, true_or, true_imp_iff, false_imp_iff, not_true_eq_false, not_false_eq_true, gK_uI, gK_uL, gK_uR, gK_uCI, gK_uCL, gN_uI, gN_uL, gN_uR, gN_uCI, gN_uCL, gR_uI, gR_uL, gR_uCI, gR_uCL, gI_uL, gI_uR, gI_uCL, gL_uI, gL_uR, gL_uCI, gz_uI, gz_uL, gz_uR, gz_uCI, gz_uCL, gs_uI, gs_uL, gs_uR, gs_uCI, gs_uCL, rI_at, rL_at, rR_at, rI_ne, rL_ne, rR_ne, rI_nk, rL_nk, rR_nk, rI_eq, rL_eq, rR_eq, Option.toList_some, Option.toList_none, List.cons_append, List.nil_append, List.append_nil, zc_eq, zc_lt, zc_le, zc_ge, zc_gt]
  all_goals exact hq
theorem perf_opn {k_z : Nat} {w_z tk : Int} (hs : ShMa M c) (ho : OpF G M) (h9 : gR M c 9 = s) (h4 : gK M s = 4) (hf : ShFr M r) (hk : k_z < 23) (hb_z : gI M c 13 < gI M s 6) (hw : gI M r 6 = w_z) (w0_z : 0 ≤ w_z) (w1_z : w_z ≤ 16) (hv : ∀ i_z, 0 ≤ i_z → i_z < w_z → NV (gL M (r + 1) i_z) ∨ fd (gL M (r + 1) i_z) = 0) (hn : w_z < need k_z ∨ ((k_z = 2 ∨ k_z = 3 ∨ k_z = 4 ∨ k_z = 6 ∨ k_z = 14 ∨ 19 ≤ k_z) ∧ ∃ i_z, 0 ≤ i_z ∧ i_z < need k_z ∧ i_z < w_z ∧ fd (gL M (r + 1) (w_z - 1 - i_z)) = 0)) (hq : Q (some (a_i 2)) M) : Call G J_Ma_perform [a_r c, a_r (G.2 (3 + k_z)), a_r r, a_i tk] M Q := by
  obtain ⟨o0_z, o1, o2, o3_z, o4_z⟩ := ho.n hk
  have n0_z : 0 ≤ need k_z := by
    unfold need
    repeat' split
    all_goals decide
  simp (disch := omega) only [E_Ma_perform, B_86_0, B_86_16, hs.1.u, h9, h4, hf.u, inI, inL, isT, kInt, kByt, true_and, and_true, an_t, im_t, im_f, or_true, true_or, true_imp_iff, false_imp_iff, not_true_eq_false, not_false_eq_true, gK_uI, gK_uL, gK_uR, gK_uCI, gK_uCL, gN_uI, gN_uL, gN_uR, gN_uCI, gN_uCL, gR_uI, gR_uL, gR_uCI, gR_uCL, gI_uL, gI_uR, gI_uCL, gL_uI, gL_uR, gL_uCI, gz_uI, gz_uL, gz_uR, gz_uCI, gz_uCL, gs_uI, gs_uL, gs_uR, gs_uCI, gs_uCL, rI_at, rL_at, rR_at, rI_ne, rL_ne, rR_ne, rI_nk, rL_nk, rR_nk, rI_eq, rL_eq, rR_eq, Option.toList_some, Option.toList_none, List.cons_append, List.nil_append, List.append_nil, zc_eq, zc_lt, zc_le, zc_ge, zc_gt]
  refine X_hasOps hf o1 o3_z hw w0_z w1_z n0_z hv (fun z_z hz => ?_)
  have z1 : z_z = 0 := by
    rcases hz with ⟨z1, z2, z3⟩ | ⟨z1, -⟩
    · rcases hn with hn | ⟨hk2, i_z, i0_z, i1_z, i2_z, hn⟩
      · omega
      · rw [o4_z, if_pos hk2] at z3
        have := (z3 (by decide) i_z i0_z i1_z).2.2.1
        omega
    · exact z1
  subst z1
  simp (disch := omega) only [B_86_21, inI, inL, isT, kInt, kByt, true_and, and_true, an_t, im_t, im_f, or_true, true_or, true_imp_iff, false_imp_iff, not_true_eq_false, not_false_eq_true, gK_uI, gK_uL, gK_uR, gK_uCI, gK_uCL, gN_uI, gN_uL, gN_uR, gN_uCI, gN_uCL, gR_uI, gR_uL, gR_uCI, gR_uCL, gI_uL, gI_uR, gI_uCL, gL_uI, gL_uR, gL_uCI, gz_uI, gz_uL, gz_uR, gz_uCI, gz_uCL, gs_uI, gs_uL, gs_uR, gs_uCI, gs_uCL, rI_at, rL_at, rR_at, rI_ne, rL_ne, rR_ne, rI_nk, rL_nk, rR_nk, rI_eq, rL_eq, rR_eq, Option.toList_some, Option.toList_none, List.cons_append, List.nil_append, List.append_nil, zc_eq, zc_lt, zc_le, zc_ge, zc_gt]
  all_goals exact hq
/-- what both sides know of the operands -/
theorem Rel.opn {E_z : Int} {d_z : Nat} (h_z : Rel G M T c s m E_z) (hd_z : gI M c 11 = (d_z : Int)) : d_z < 5 ∧ gI T m 36 = (d_z : Int) ∧ gI T (m + 19) d_z = gI M (c + 22 + 4 * d_z) 6 ∧ 0 ≤ gI M (c + 22 + 4 * d_z) 6 ∧ gI M (c + 22 + 4 * d_z) 6 ≤ 16 ∧ ∀ i_z : Int, 0 ≤ i_z → i_z < gI M (c + 22 + 4 * d_z) 6 → OpR (gI T (m + 20) (16 * d_z + i_z)) (gI T (m + 21) (16 * d_z + i_z)) (gL M (c + 22 + 4 * d_z + 1) i_z) := by
  obtain ⟨-, -, -, -, -, -, r10, -⟩ := h_z
  obtain ⟨g1, g2, gF, gP⟩ := r10.get hd_z
  obtain ⟨-, -, -, ⟨h4, h4b, h4c⟩, h5, -⟩ := gF
  exact ⟨g1, g2, h4.symm, h4b, h4c, h5⟩
/-- an operator that takes numbers, or what else lies there: budget and operands -/
theorem op_pre {E_z i_z x_z n_z tk : Int} {d_z p_z k_z : Nat} (h_z : Rel G M T c s m E_z) (hd_z : gI M c 11 = (d_z : Int)) (hx : gI M (c + 22 + 4 * d_z) 4 = x_z - 1) (htk : gI M (c + 22 + 4 * d_z) 5 = tk) (hp : gR M (c + 22 + 4 * d_z) 3 = p_z) (hn : gI M p_z 3 = n_z) (hlt : tk < n_z) (hk : k_z < 23) (hk15 : k_z ≠ 15) (hop : gR M (p_z + 1) tk = G.2 (3 + k_z)) (i0_z : 0 ≤ i_z) (i1_z : i_z + 1 < 1000000) (hEr : Err G c s m M E_z Q)
    (hgood : gI M c 13 < gI M s 6 → need k_z ≤ gI M (c + 22 + 4 * d_z) 6 → ((k_z = 2 ∨ k_z = 3 ∨ k_z = 4 ∨ k_z = 6 ∨ k_z = 14 ∨ 19 ≤ k_z) → ∀ i_z, 0 ≤ i_z → i_z < need k_z → NV (gL M (c + 22 + 4 * d_z + 1) (gI M (c + 22 + 4 * d_z) 6 - 1 - i_z))) → HC G c s i_z M Q) : HC G c s i_z M Q := by
  have h0 := h_z
  obtain ⟨r1_z, r2, r3, ⟨r4, r5_z, r6, r7⟩, r8, r9, r10, r11, r12, r13, ⟨r14, r15, r16⟩, r17⟩ := h_z
  obtain ⟨g1, g2, g3_z, w0_z, w1_z, g6⟩ := h0.opn hd_z
  have hs1 : ShMa (uI M (c + 22 + 4 * d_z) 5 (tk + 1)) c := r1_z
  have ho1 : OpF G (uI M (c + 22 + 4 * d_z) 5 (tk + 1)) := OpF.out r3 ((OutC.refl c M).uI _ _ (by omega)) r6 r4
  have f2_z : ShFr (uI M (c + 22 + 4 * d_z) 5 (tk + 1)) (c + 22 + 4 * d_z) := (r1_z.2.2.2.1 d_z g1).2
  have e13_z : gI (uI M (c + 22 + 4 * d_z) 5 (tk + 1)) c 13 = gI M c 13 := by rw [rI_ne (by omega)]
  have es6 : gI (uI M (c + 22 + 4 * d_z) 5 (tk + 1)) s 6 = gI M s 6 := by rw [rI_ne (by omega)]
  have ew : gI (uI M (c + 22 + 4 * d_z) 5 (tk + 1)) (c + 22 + 4 * d_z) 6 = gI M (c + 22 + 4 * d_z) 6 := by rw [rI_nk (by decide)]
  have hK4 : gK (uI M (c + 22 + 4 * d_z) 5 (tk + 1)) s = 4 := r8.1.1
  have hv : ∀ i_z, 0 ≤ i_z → i_z < gI M (c + 22 + 4 * d_z) 6 → NV (gL (uI M (c + 22 + 4 * d_z) 5 (tk + 1)) (c + 22 + 4 * d_z + 1) i_z) ∨ fd (gL (uI M (c + 22 + 4 * d_z) 5 (tk + 1)) (c + 22 + 4 * d_z + 1) i_z) = 0 := fun i_z i0_z i1_z => by
    rcases (g6 i_z i0_z i1_z).2.2 with q_z | q_z
    · exact Or.inl q_z
    · exact Or.inr q_z.1
  by_cases cb : gI M c 13 < gI M s 6
  · by_cases cg : need k_z ≤ gI M (c + 22 + 4 * d_z) 6 ∧ ((k_z = 2 ∨ k_z = 3 ∨ k_z = 4 ∨ k_z = 6 ∨ k_z = 14 ∨ 19 ≤ k_z) → ∀ i_z, 0 ≤ i_z → i_z < need k_z → NV (gL M (c + 22 + 4 * d_z + 1) (gI M (c + 22 + 4 * d_z) 6 - 1 - i_z)))
    · exact hgood cb cg.1 cg.2
    · have bad_z : gI M (c + 22 + 4 * d_z) 6 < need k_z ∨ ((k_z = 2 ∨ k_z = 3 ∨ k_z = 4 ∨ k_z = 6 ∨ k_z = 14 ∨ 19 ≤ k_z) ∧ ∃ i_z, 0 ≤ i_z ∧ i_z < need k_z ∧ i_z < gI M (c + 22 + 4 * d_z) 6 ∧ fd (gL M (c + 22 + 4 * d_z + 1) (gI M (c + 22 + 4 * d_z) 6 - 1 - i_z)) = 0) := by
        by_cases c1_z : gI M (c + 22 + 4 * d_z) 6 < need k_z
        · exact Or.inl c1_z
        · refine Or.inr (Classical.byContradiction (fun hno => cg ⟨by omega, fun hk2 i_z i0_z i1_z => ?_⟩))
          rcases (g6 (gI M (c + 22 + 4 * d_z) 6 - 1 - i_z) (by omega) (by omega)).2.2 with q_z | q_z
          · exact q_z
          · exact absurd ⟨hk2, i_z, i0_z, i1_z, by omega, q_z.1⟩ hno
      refine op_err h0 hd_z hx htk hp hn hlt hk hk15 hop i0_z i1_z (e_z := 2) (by decide) hEr (fun qq hqq => perf_opn hs1 ho1 r5_z hK4 f2_z hk (by rw [e13_z, es6]; exact cb) ew w0_z w1_z hv bad_z (hqq _ (Ex.refl _ _))) (fun T' h' qq hqq => ?_)
      obtain ⟨k1_z, k2_z, k3_z, -, -, k6_z⟩ := h'.opn hd_z
      obtain ⟨q1_z, q2_z, q3_z, -, q8_z, q9_z, -⟩ := h'
      have hb' : gI T' m 49 ≠ gI T' (m + 1) 1215 := by
        have := q9_z.1
        have := q8_z.2.2.2.2.2.2.1
        omega
      refine X_wrongO q2_z hb' (fun q2' hq2 => ?_) (hqq T' (Sy.refl _ _))
      rcases bad_z with bad_z | ⟨hk2, i_z, j0, j1, j2_z, bad_z⟩
      · exact X_areOps0 q2_z k2_z k3_z (by omega) (by omega) (by omega) (by omega) bad_z hq2
      · by_cases c1_z : gI M (c + 22 + 4 * d_z) 6 < need k_z
        · exact X_areOps0 q2_z k2_z k3_z (by omega) (by omega) (by omega) (by omega) c1_z hq2
        · have kd := (k6_z (gI M (c + 22 + 4 * d_z) 6 - 1 - i_z) (by omega) (by omega)).2.1
          rw [bad_z, show (16 : Int) * d_z + (gI M (c + 22 + 4 * d_z) 6 - 1 - i_z) = 16 * d_z + gI M (c + 22 + 4 * d_z) 6 - 1 - i_z from by omega] at kd
          by_cases k14 : k_z = 14
          · subst k14
            have hI := fun qq => X_isInteger (G := G) (M := T') (Q := qq) (x_z := 0) (y_z := 9) q2_z k2_z k3_z (by omega) (by omega) (by omega) (by omega)
            have n1_z : need ((14 : Nat) : Int) = 1 := by decide
            rw [n1_z] at j1
            have i00 : i_z = 0 := by omega
            subst i00
            rw [Int.sub_zero] at kd
            have zz : zB (gI T' (m + 21) (16 * d_z + gI M (c + 22 + 4 * d_z) 6 - 1) = 1 ∧ 0 ≤ gI T' (m + 20) (16 * d_z + gI M (c + 22 + 4 * d_z) 6 - 1) ∧ gI T' (m + 20) (16 * d_z + gI M (c + 22 + 4 * d_z) 6 - 1) ≤ 9) = 0 := zB_f (by omega)
            rw [zz] at hI
            have hN_z := fun qq => X_needed (G := G) (T := T') (Q := qq) (k_z := ((14 : Nat) : Int)) (by decide) (by decide)
            rw [n1_z] at hN_z
            simp (disch := omega) only [E_M_areOperands, B_207_0, hN_z, B_207_4, B_207_20, B_207_92, B_207_99, q2_z.u, k2_z, k3_z, hI, inI, inL, isT, kInt, kByt, true_and, and_true, an_t, im_t, im_f, or_true, true_or, true_imp_iff, false_imp_iff, not_true_eq_false, not_false_eq_true, gK_uI, gK_uL, gK_uR, gK_uCI, gK_uCL, gN_uI, gN_uL, gN_uR, gN_uCI, gN_uCL, gR_uI, gR_uL, gR_uCI, gR_uCL, gI_uL, gI_uR, gI_uCL, gL_uI, gL_uR, gL_uCI, gz_uI, gz_uL, gz_uR, gz_uCI, gz_uCL, gs_uI, gs_uL, gs_uR, gs_uCI, gs_uCL, rI_at, rL_at, rR_at, rI_ne, rL_ne, rR_ne, rI_nk, rL_nk, rR_nk, rI_eq, rL_eq, rR_eq, Option.toList_some, Option.toList_none, List.cons_append, List.nil_append, List.append_nil, zc_eq, zc_lt, zc_le, zc_ge, zc_gt]
            all_goals exact hq2
          · refine X_areOpsN q2_z k2_z k3_z (by omega) (by omega) w0_z w1_z (by omega) (by omega) (by omega) (by omega) (fun z_z hz => ?_)
            rcases hz with ⟨z1, hz⟩ | ⟨z1, hz⟩
            · have := hz i_z j0 j1
              omega
            · rw [z1]
              exact hq2
  · refine op_err h0 hd_z hx htk hp hn hlt hk hk15 hop i0_z i1_z (e_z := 1) (by decide) hEr (fun qq hqq => perf_bud hs1 r5_z hK4 (by rw [e13_z, es6]; omega) (hqq _ (Ex.refl _ _))) (fun T' h' qq hqq => ?_)
    obtain ⟨q1_z, q2_z, q3_z, -, q8_z, q9_z, -, -, -, -, -, q17_z⟩ := h'
    have hb' : gI T' m 49 = gI T' (m + 1) 1215 := by
      have := q9_z.1
      have := q8_z.2.2.2.2.2.2.1
      omega
    exact X_wrongB q2_z hb' (hqq T' (Sy.refl _ _))
end BB
