/-! THE PURE PART, part 13: an operator, as both loops take it. Own work. -/
theorem upf_self (f_z : Int → Int) (k_z : Int) : upf f_z k_z (f_z k_z) = f_z := by
  funext j
  unfold upf
  by_cases h_z : j = k_z
  · rw [if_pos h_z, h_z]
  · rw [if_neg h_z]
/-- the class counts, and notes that nothing is wrong -/
def cntM (M : Mem) (c : Nat) (st_z tk fo : Int) : Mem := uI (uI (uI (uI (uI M c 15 0) (c + 17) (gI M c 13) st_z) (c + 18) (gI M c 13) tk) (c + 19) (gI M c 13) fo) c 13 (gI M c 13 + 1)
/-- .. that something is wrong -/
def errM (M : Mem) (c : Nat) (e_z st_z tk : Int) : Mem := uI (uI (uI M c 15 e_z) c 16 st_z) c 17 tk
def trcT (T : Mem) (m : Nat) (st_z tk fo : Int) : Mem := uI (uI (uI (uI T (m + 25) (3 * gI T m 49) st_z) (m + 25) (3 * gI T m 49 + 1) tk) (m + 25) (3 * gI T m 49 + 2) fo) m 49 (gI T m 49 + 1)
def errT (T : Mem) (m : Nat) (e_z st_z tk fo : Int) : Mem := uI (uI (uI (uI T m 46 e_z) m 47 st_z) m 48 tk) (m + 18) fo tk
section UA
variable {G : Env0} {Q : Option AV → Mem → Prop} {M T : Mem} {c s m : Nat}
theorem HC_end {e_z i_z x6 : Int} {r7 r_z : Nat} (hs : ShMa M c) (i0_z : 0 ≤ i_z) (i1_z : i_z + 1 < 1000000) (he : gI M c 15 = e_z) (h0 : e_z ≠ 0) {x_z tk : Int} (hr : gK M r_z = 8) (h4 : gI M r_z 4 = x_z) (hq : Q (some (a_i e_z)) (uI (uI M c 16 x_z) c 17 tk)) : At G 73 145 [a_r c, a_r s, a_i 1, a_i i_z, a_r r_z, a_i tk, a_i x6, a_r r7] [] M Q := by
  rw [B_73_145]
  simp (disch := omega) only [hs.1.u, he, hr, h4, B_73_167, B_73_198, inI, inL, isT, kInt, kByt, true_and, and_true, an_t, im_t, im_f, or_true, true_or, true_imp_iff, false_imp_iff, not_true_eq_false, not_false_eq_true, gK_uI, gK_uL, gK_uR, gK_uCI, gK_uCL, gN_uI, gN_uL, gN_uR, gN_uCI, gN_uCL, gR_uI, gR_uL, gR_uCI, gR_uCL, gI_uL, gI_uR, gI_uCL, gL_uI, gL_uR, gL_uCI, gz_uI, gz_uL, gz_uR, gz_uCI, gz_uCL, gs_uI, gs_uL, gs_uR, gs_uCI, gs_uCL, rI_at, rL_at, rR_at, rI_ne, rL_ne, rR_ne, rI_nk, rL_nk, rR_nk, rI_eq, rL_eq, rR_eq, Option.toList_some, Option.toList_none, List.cons_append, List.nil_append, List.append_nil, zc_eq, zc_lt, zc_le, zc_ge, zc_gt]
  rw [B_73_9]
  simp (disch := omega) only [hs.1.u, he, B_73_204, inI, inL, isT, kInt, kByt, true_and, and_true, an_t, im_t, im_f, or_true, true_or, true_imp_iff, false_imp_iff, not_true_eq_false, not_false_eq_true, gK_uI, gK_uL, gK_uR, gK_uCI, gK_uCL, gN_uI, gN_uL, gN_uR, gN_uCI, gN_uCL, gR_uI, gR_uL, gR_uCI, gR_uCL, gI_uL, gI_uR, gI_uCL, gL_uI, gL_uR, gL_uCI, gz_uI, gz_uL, gz_uR, gz_uCI, gz_uCL, gs_uI, gs_uL, gs_uR, gs_uCI, gs_uCL, rI_at, rL_at, rR_at, rI_ne, rL_ne, rR_ne, rI_nk, rL_nk, rR_nk, rI_eq, rL_eq, rR_eq, Option.toList_some, Option.toList_none, List.cons_append, List.nil_append, List.append_nil, zc_eq, zc_lt, zc_le, zc_ge, zc_gt]
  all_goals exact hq
theorem HC_op {d_z p_z k_z : Nat} {x_z n_z tk i_z : Int} (hs : ShMa M c) (ho : OpF G M) (hg : ∀ j_z, (j_z < 26 ∧ j_z ≠ 2) → G.2 j_z < s) (hsc : s + 5 ≤ c) (hd_z : gI M c 11 = (d_z : Int)) (ht : Top G M T s m (c + 22 + 4 * d_z) d_z x_z n_z tk p_z) (hlt : tk < n_z) (hk : k_z < 23) (hk15 : k_z ≠ 15) (hop : gR M (p_z + 1) tk = G.2 (3 + k_z)) (i0_z : 0 ≤ i_z) (i1_z : i_z + 1 < 1000000)
    (h_z : Call G J_Ma_perform [a_r c, a_r (G.2 (3 + k_z)), a_r (c + 22 + 4 * d_z), a_i tk] (uI M (c + 22 + 4 * d_z) 5 (tk + 1)) (fun q_z M2_z => ∃ e_z : Int, q_z = some (a_i e_z) ∧ ShMa M2_z c ∧ gI M2_z (c + 22 + 4 * d_z) 4 = x_z - 1 ∧ (e_z = 0 → (0 ≤ gI M2_z c 13 ∧ gI M2_z c 13 < 200) ∧ HC G c s (i_z + 1) (cntM M2_z c (x_z - 1) tk d_z) Q) ∧ (e_z ≠ 0 → Q (some (a_i e_z)) (errM M2_z c e_z (x_z - 1) tk)))) : HC G c s i_z M Q := by
  have ht0 := ht
  obtain ⟨t1_z, t2_z, t3_z, t4_z, t5_z, t6, t7, t8, t9, t10, t11, t12, t13, t14, t15, t16, t17⟩ := ht
  have e0_z : zB (n_z ≤ tk) = 0 := zB_f (by omega)
  refine HC_body hs hd_z ht0 i0_z (by omega) (fun u5 u6 u7 => ?_)
  rw [e0_z]
  obtain ⟨o1, o2⟩ := ho
  have inj : G.2 (3 + k_z) ≠ G.2 18 := fun q_z => by
    have a1_z := (o2 k_z hk).2.2 0 (by decide)
    have a2 := (o2 15 (by decide)).2.2 0 (by decide)
    rw [q_z] at a1_z
    have : ∀ j_z : Nat, j_z < 23 → (opV j_z).getD (vix 0) 0 = j_z := by decide +kernel
    rw [this k_z hk] at a1_z
    rw [this 15 (by decide)] at a2
    have a3 : G.2 (3 + 15) = G.2 18 := rfl
    rw [a3] at a2
    omega
  have nz := (o2 k_z hk).1
  obtain ⟨f1_z, f2_z⟩ := hs.fr (d_z := (d_z : Int)) (by omega) (by omega)
  rw [Int.toNat_natCast] at f1_z f2_z
  have hP := fun qq => X_presentOp (G := G) (Q := qq) f2_z t7 t14 t15 (by omega) (by omega)
  rw [t9, hop] at hP
  have n18_z : ¬ G.2 (3 + k_z) = G.2 18 := inj
  simp (disch := omega) only [B_73_35, B_73_58, f2_z.u, hs.1.u, hP, B_73_76, n18_z, nz, hd_z, t9, B_73_94, B_73_120, not_false_eq_true, inI, inL, isT, kInt, kByt, true_and, and_true, an_t, im_t, im_f, or_true, true_or, true_imp_iff, false_imp_iff, not_true_eq_false, not_false_eq_true, gK_uI, gK_uL, gK_uR, gK_uCI, gK_uCL, gN_uI, gN_uL, gN_uR, gN_uCI, gN_uCL, gR_uI, gR_uL, gR_uCI, gR_uCL, gI_uL, gI_uR, gI_uCL, gL_uI, gL_uR, gL_uCI, gz_uI, gz_uL, gz_uR, gz_uCI, gz_uCL, gs_uI, gs_uL, gs_uR, gs_uCI, gs_uCL, rI_at, rL_at, rR_at, rI_ne, rL_ne, rR_ne, rI_nk, rL_nk, rR_nk, rI_eq, rL_eq, rR_eq, Option.toList_some, Option.toList_none, List.cons_append, List.nil_append, List.append_nil, zc_eq, zc_lt, zc_le, zc_ge, zc_gt]
  refine Call.weak h_z (fun q_z M2_z hq => ?_)
  obtain ⟨e_z, eq, hs2, h4, hz, hnz⟩ := hq
  subst eq
  simp only [Option.toList_some, Option.toList_none, List.cons_append, List.nil_append, List.append_nil]
  rw [B_73_142]
  refine ⟨hs2.1.1, ?_⟩
  have hs3 : ShMa (uI M2_z c 15 e_z) c := hs2
  have f3_z := (hs2.fr (d_z := (d_z : Int)) (by omega) (by omega)).2
  rw [Int.toNat_natCast] at f3_z
  have f15 : gI (uI M2_z c 15 e_z) c 15 = e_z := rI_at
  by_cases ce : e_z = 0
  · obtain ⟨⟨k0_z, k1_z⟩, hh⟩ := hz ce
    subst ce
    have hC := fun qq => X_count (G := G) (Q := qq) (M := uI M2_z c 15 0) (c := c) (x_z := x_z - 1) (y_z := tk) (z_z := d_z) hs3 (by rw [rI_nk (by decide)]; exact k0_z) (by rw [rI_nk (by decide)]; exact k1_z)
    rw [rI_nk (by decide)] at hC
    have g4 : gI (uI M2_z c 15 0) (c + 22 + 4 * d_z) 4 = x_z - 1 := by rw [rI_ne (by omega)]; exact h4
    unfold HC at hh
    unfold cntM at hh
    rw [B_73_145]
    simp (disch := omega) only [hs3.1.u, f15, B_73_172, f3_z.u, nz, n18_z, g4, hC, B_73_198, inI, inL, isT, kInt, kByt, true_and, and_true, an_t, im_t, im_f, or_true, true_or, true_imp_iff, false_imp_iff, not_true_eq_false, not_false_eq_true, gK_uI, gK_uL, gK_uR, gK_uCI, gK_uCL, gN_uI, gN_uL, gN_uR, gN_uCI, gN_uCL, gR_uI, gR_uL, gR_uCI, gR_uCL, gI_uL, gI_uR, gI_uCL, gL_uI, gL_uR, gL_uCI, gz_uI, gz_uL, gz_uR, gz_uCI, gz_uCL, gs_uI, gs_uL, gs_uR, gs_uCI, gs_uCL, rI_at, rL_at, rR_at, rI_ne, rL_ne, rR_ne, rI_nk, rL_nk, rR_nk, rI_eq, rL_eq, rR_eq, Option.toList_some, Option.toList_none, List.cons_append, List.nil_append, List.append_nil, zc_eq, zc_lt, zc_le, zc_ge, zc_gt]
    exact hh _ _ _ _
  · exact HC_end hs3 i0_z (by omega) f15 ce f3_z.1 (by rw [rI_ne (by omega)]; exact h4) (hnz ce)
theorem HM_back {R_z : Option AV → Mem → Prop} {l pc : Int} (hm_z : ShM T m) (h46 : gI T m 46 = 0) (hl : gI T m 36 = l) (l0 : 0 ≤ l) (l1 : l < 5) (hp : gI T (m + 18) l = pc) (p0_z : -1 ≤ pc) (p1_z : pc < 1000) (h_z : HM G m (uI T (m + 18) l (pc + 1)) R_z) : At G 197 231 [a_r m, a_i 1] [] T R_z := by
  unfold HM at h_z
  simp (disch := omega) only [B_197_231, B_197_242, B_197_243, B_197_262, B_197_263, hm_z.u, h46, hl, hp, inI, inL, isT, kInt, kByt, true_and, and_true, an_t, im_t, im_f, or_true, true_or, true_imp_iff, false_imp_iff, not_true_eq_false, not_false_eq_true, gK_uI, gK_uL, gK_uR, gK_uCI, gK_uCL, gN_uI, gN_uL, gN_uR, gN_uCI, gN_uCL, gR_uI, gR_uL, gR_uCI, gR_uCL, gI_uL, gI_uR, gI_uCL, gL_uI, gL_uR, gL_uCI, gz_uI, gz_uL, gz_uR, gz_uCI, gz_uCL, gs_uI, gs_uL, gs_uR, gs_uCI, gs_uCL, rI_at, rL_at, rR_at, rI_ne, rL_ne, rR_ne, rI_nk, rL_nk, rR_nk, rI_eq, rL_eq, rR_eq, Option.toList_some, Option.toList_none, List.cons_append, List.nil_append, List.append_nil, zc_eq, zc_lt, zc_le, zc_ge, zc_gt]
  all_goals exact h_z
theorem HM_err {R_z : Option AV → Mem → Prop} {l pc e_z : Int} (hm_z : ShM T m) (h46 : gI T m 46 = e_z) (he : e_z ≠ 0) (hl : gI T m 36 = l) (l0 : 0 ≤ l) (l1 : l < 5) (hp : gI T (m + 18) l = pc) (p0_z : -1 ≤ pc) (p1_z : pc < 1000) (h_z : R_z (some (a_i e_z)) (uI T (m + 18) l pc)) : At G 197 231 [a_r m, a_i 1] [] T R_z := by
  have e1_z : gI (uI T (m + 18) l (pc + 0)) m 46 = e_z := by rw [rI_ne (by omega)]; exact h46
  rw [Int.add_zero] at e1_z
  simp (disch := omega) only [B_197_231, B_197_242, B_197_243, B_197_262, B_197_263, hm_z.u, h46, hl, hp, Int.add_zero, inI, inL, isT, kInt, kByt, true_and, and_true, an_t, im_t, im_f, or_true, true_or, true_imp_iff, false_imp_iff, not_true_eq_false, not_false_eq_true, gK_uI, gK_uL, gK_uR, gK_uCI, gK_uCL, gN_uI, gN_uL, gN_uR, gN_uCI, gN_uCL, gR_uI, gR_uL, gR_uCI, gR_uCL, gI_uL, gI_uR, gI_uCL, gL_uI, gL_uR, gL_uCI, gz_uI, gz_uL, gz_uR, gz_uCI, gz_uCL, gs_uI, gs_uL, gs_uR, gs_uCI, gs_uCL, rI_at, rL_at, rR_at, rI_ne, rL_ne, rR_ne, rI_nk, rL_nk, rR_nk, rI_eq, rL_eq, rR_eq, Option.toList_some, Option.toList_none, List.cons_append, List.nil_append, List.append_nil, zc_eq, zc_lt, zc_le, zc_ge, zc_gt]
  rw [B_197_131]
  simp (disch := omega) only [B_197_268, hm_z.u, e1_z, inI, inL, isT, kInt, kByt, true_and, and_true, an_t, im_t, im_f, or_true, true_or, true_imp_iff, false_imp_iff, not_true_eq_false, not_false_eq_true, gK_uI, gK_uL, gK_uR, gK_uCI, gK_uCL, gN_uI, gN_uL, gN_uR, gN_uCI, gN_uCL, gR_uI, gR_uL, gR_uCI, gR_uCL, gI_uL, gI_uR, gI_uCL, gL_uI, gL_uR, gL_uCI, gz_uI, gz_uL, gz_uR, gz_uCI, gz_uCL, gs_uI, gs_uL, gs_uR, gs_uCI, gs_uCL, rI_at, rL_at, rR_at, rI_ne, rL_ne, rR_ne, rI_nk, rL_nk, rR_nk, rI_eq, rL_eq, rR_eq, Option.toList_some, Option.toList_none, List.cons_append, List.nil_append, List.append_nil, zc_eq, zc_lt, zc_le, zc_ge, zc_gt]
  all_goals exact h_z
theorem HM_op {R_z : Option AV → Mem → Prop} {d_z p_z : Nat} {x_z n_z tk cd : Int} (hm_z : ShM T m) (ht : Top G M T s m (c + 22 + 4 * d_z) d_z x_z n_z tk p_z) (hlt : tk < n_z) (hcd : cdm T m x_z tk.toNat = cd) (c0_z : 0 ≤ cd) (c1_z : cd ≤ 22) (c15_z : cd ≠ 15)
    (h_z : Call G J_M_wrong [a_r m, a_i cd] T (fun q_z T1 => ∃ w_z : Int, q_z = some (a_i w_z) ∧ Sy T T1 m ∧ (0 < w_z → R_z (some (a_i w_z)) (errT T1 m w_z (x_z - 1) tk d_z)) ∧ (w_z ≤ 0 → gI T m 46 = 0 ∧ (0 ≤ gI T m 49 ∧ gI T m 49 < 200) ∧ Call G J_M_does [a_r m, a_i cd] (trcT T1 m (x_z - 1) tk d_z) (fun q_z T3 => q_z = none ∧ ShM T3 m ∧ gI T3 m 46 = 0 ∧ ∃ l pc : Int, gI T3 m 36 = l ∧ 0 ≤ l ∧ l < 5 ∧ gI T3 (m + 18) l = pc ∧ -1 ≤ pc ∧ pc < 1000 ∧ HM G m (uI T3 (m + 18) l (pc + 1)) R_z)))) : HM G m T R_z := by
  have ht0 := ht
  obtain ⟨t1_z, t2_z, t3_z, t4_z, t5_z, t6, t7, t8, t9, t10, t11, t12, t13, t14, t15, t16, t17⟩ := ht
  refine HM_tok hm_z ht0 hlt ?_
  rw [hcd]
  simp (disch := omega) only [E_M_executes, B_201_0, B_201_78, B_201_91, hm_z.u, inI, inL, isT, kInt, kByt, true_and, and_true, an_t, im_t, im_f, or_true, true_or, true_imp_iff, false_imp_iff, not_true_eq_false, not_false_eq_true, gK_uI, gK_uL, gK_uR, gK_uCI, gK_uCL, gN_uI, gN_uL, gN_uR, gN_uCI, gN_uCL, gR_uI, gR_uL, gR_uCI, gR_uCL, gI_uL, gI_uR, gI_uCL, gL_uI, gL_uR, gL_uCI, gz_uI, gz_uL, gz_uR, gz_uCI, gz_uCL, gs_uI, gs_uL, gs_uR, gs_uCI, gs_uCL, rI_at, rL_at, rR_at, rI_ne, rL_ne, rR_ne, rI_nk, rL_nk, rR_nk, rI_eq, rL_eq, rR_eq, Option.toList_some, Option.toList_none, List.cons_append, List.nil_append, List.append_nil, zc_eq, zc_lt, zc_le, zc_ge, zc_gt]
  refine Call.weak h_z (fun q_z T1 hq => ?_)
  obtain ⟨w_z, eq, hy, hpos, hneg⟩ := hq
  subst eq
  have hm1 := hy.sh hm_z
  have g36 : gI T1 m 36 = (d_z : Int) := by rw [hy.fld (by decide)]; exact t1_z
  have g17 : gI T1 (m + 17) = gI T (m + 17) := hy.row (by omega) (by omega) (by omega) (by omega)
  have g18 : gI T1 (m + 18) = gI T (m + 18) := hy.row (by omega) (by omega) (by omega) (by omega)
  simp only [Option.toList_some, Option.toList_none, List.cons_append, List.nil_append, List.append_nil]
  rw [B_201_96]
  by_cases cw_z : w_z ≤ 0
  · obtain ⟨h46, ⟨k0_z, k1_z⟩, hh⟩ := hneg cw_z
    have g49 : gI T1 m 49 = gI T m 49 := hy.fld (by decide)
    have hT_z := fun qq => X_traces (G := G) (Q := qq) (M := T1) (m := m) hm1 (by omega) (by omega) (by omega) (by omega) (by rw [g36, g17, t3_z]; omega) (by rw [g36, g17, t3_z]; omega)
    rw [g36, g17, g18, t3_z, t10] at hT_z
    unfold trcT at hh
    simp (disch := omega) only [B_201_109, hm1.u, hT_z, B_201_113, inI, inL, isT, kInt, kByt, true_and, and_true, an_t, im_t, im_f, or_true, true_or, true_imp_iff, false_imp_iff, not_true_eq_false, not_false_eq_true, gK_uI, gK_uL, gK_uR, gK_uCI, gK_uCL, gN_uI, gN_uL, gN_uR, gN_uCI, gN_uCL, gR_uI, gR_uL, gR_uCI, gR_uCL, gI_uL, gI_uR, gI_uCL, gL_uI, gL_uR, gL_uCI, gz_uI, gz_uL, gz_uR, gz_uCI, gz_uCL, gs_uI, gs_uL, gs_uR, gs_uCI, gs_uCL, rI_at, rL_at, rR_at, rI_ne, rL_ne, rR_ne, rI_nk, rL_nk, rR_nk, rI_eq, rL_eq, rR_eq, Option.toList_some, Option.toList_none, List.cons_append, List.nil_append, List.append_nil, zc_eq, zc_lt, zc_le, zc_ge, zc_gt]
    refine Call.weak hh (fun q_z T3 hq => ?_)
    obtain ⟨eq, hm3, e46, l, pc, q1_z, q2_z, q3_z, q4_z, q5_z, q6_z, q7_z⟩ := hq
    subst eq
    simp only [Option.toList_some, Option.toList_none, List.cons_append, List.nil_append, List.append_nil]
    rw [B_201_118]
    exact HM_back hm3 e46 q1_z q2_z q3_z q4_z q5_z q6_z q7_z
  · have hF := fun qq => X_fails (G := G) (Q := qq) (M := T1) (m := m) (x_z := w_z) hm1 (by omega) (by omega) (by rw [g36, g17, t3_z]; omega) (by rw [g36, g17, t3_z]; omega)
    rw [g36, g17, g18, t3_z, t10] at hF
    have hr := hpos (by omega)
    unfold errT at hr
    simp (disch := omega) only [hm1.u, hF, B_201_106, B_201_118, inI, inL, isT, kInt, kByt, true_and, and_true, an_t, im_t, im_f, or_true, true_or, true_imp_iff, false_imp_iff, not_true_eq_false, not_false_eq_true, gK_uI, gK_uL, gK_uR, gK_uCI, gK_uCL, gN_uI, gN_uL, gN_uR, gN_uCI, gN_uCL, gR_uI, gR_uL, gR_uCI, gR_uCL, gI_uL, gI_uR, gI_uCL, gL_uI, gL_uR, gL_uCI, gz_uI, gz_uL, gz_uR, gz_uCI, gz_uCL, gs_uI, gs_uL, gs_uR, gs_uCI, gs_uCL, rI_at, rL_at, rR_at, rI_ne, rL_ne, rR_ne, rI_nk, rL_nk, rR_nk, rI_eq, rL_eq, rR_eq, Option.toList_some, Option.toList_none, List.cons_append, List.nil_append, List.append_nil, zc_eq, zc_lt, zc_le, zc_ge, zc_gt]
    refine HM_err (e_z := w_z) (l := (d_z : Int)) (pc := tk) hm1 (by simp (disch := omega) only [gK_uI, gK_uL, gK_uR, gK_uCI, gK_uCL, gN_uI, gN_uL, gN_uR, gN_uCI, gN_uCL, gR_uI, gR_uL, gR_uCI, gR_uCL, gI_uL, gI_uR, gI_uCL, gL_uI, gL_uR, gL_uCI, gz_uI, gz_uL, gz_uR, gz_uCI, gz_uCL, gs_uI, gs_uL, gs_uR, gs_uCI, gs_uCL, rI_at, rL_at, rR_at, rI_ne, rL_ne, rR_ne, rI_nk, rL_nk, rR_nk, rI_eq, rL_eq, rR_eq]) (by omega) (by simp (disch := omega) only [gK_uI, gK_uL, gK_uR, gK_uCI, gK_uCL, gN_uI, gN_uL, gN_uR, gN_uCI, gN_uCL, gR_uI, gR_uL, gR_uCI, gR_uCL, gI_uL, gI_uR, gI_uCL, gL_uI, gL_uR, gL_uCI, gz_uI, gz_uL, gz_uR, gz_uCI, gz_uCL, gs_uI, gs_uL, gs_uR, gs_uCI, gs_uCL, rI_at, rL_at, rR_at, rI_ne, rL_ne, rR_ne, rI_nk, rL_nk, rR_nk, rI_eq, rL_eq, rR_eq]; exact g36) (by omega) (by omega) (by simp (disch := omega) only [gK_uI, gK_uL, gK_uR, gK_uCI, gK_uCL, gN_uI, gN_uL, gN_uR, gN_uCI, gN_uCL, gR_uI, gR_uL, gR_uCI, gR_uCL, gI_uL, gI_uR, gI_uCL, gL_uI, gL_uR, gL_uCI, gz_uI, gz_uL, gz_uR, gz_uCI, gz_uCL, gs_uI, gs_uL, gs_uR, gs_uCI, gs_uCL, rI_at, rL_at, rR_at, rI_ne, rL_ne, rR_ne, rI_nk, rL_nk, rR_nk, rI_eq, rL_eq, rR_eq]; rw [g18]; exact t10) (by omega) (by omega) hr
end UA
