/-! THE PURE PART, part 13: add, sub, mul, div. Own work (partly written by a program of its own). -/
theorem rv_D {p_z q_z : Int} (h_z : NV p_z) (h2 : NV q_z) : RV (fD p_z q_z) := by
  rw [fD_nv h_z h2]
  exact rv_low (nv_dd h_z h2)
theorem rv_Q {p_z q_z : Int} (h_z : NV p_z) (h2 : NV q_z) (h0 : fu q_z ≠ 0) : RV (fQ p_z q_z) := by
  rw [fQ_nv h_z h2]
  exact rv_low (Int.mul_ne_zero (by have := h_z.2.2.1; omega) h0)
theorem rv_op {how p_z q_z : Int} (h_z : NV p_z) (h2 : NV q_z) (h0 : how = 3 → fu q_z ≠ 0) (hh : 0 ≤ how ∧ how ≤ 3) : RV (fop how p_z q_z) := by
  unfold fop
  split
  · exact rv_S (Or.inr h_z) (Or.inr h2)
  · split
    · exact rv_D h_z h2
    · split
      · exact rv_M (Or.inr h_z) (Or.inr h2)
      · exact rv_Q h_z h2 (h0 (by omega))
section EB
variable {G : Env0} {Q : Option AV → Mem → Prop} {M T : Mem} {c s m r : Nat}
theorem sw19 {k_z : Nat} {tk : Int} {o : Nat} (ho : OpF G M) (hk : k_z = 19 ∨ k_z = 20 ∨ k_z = 21 ∨ k_z = 22) (h_z : At G 86 253 [a_r c, a_r o, a_r r, a_i tk] [] M Q) : At G 86 33 [a_r c, a_r o, a_r r, a_i tk] [a_i (k_z : Int), a_r (G.2 1)] M Q := by
  have sm_z := ho.1
  rw [B_86_33]
  rcases hk with hk | hk | hk | hk <;> subst hk
  · have s17 : gI M (G.2 1) 19 = 20 := sm_z.2.2 19 (by decide)
    simp (disch := omega) only [sm_z.1, sm_z.2.1, s17, Int.cast_ofNat_Int, inI, inL, isT, kInt, kByt, true_and, and_true, an_t, im_t, im_f, or_true, true_or, true_imp_iff, false_imp_iff, not_true_eq_false, not_false_eq_true, gK_uI, gK_uL, gK_uR, gK_uCI, gK_uCL, gN_uI, gN_uL, gN_uR, gN_uCI, gN_uCL, gR_uI, gR_uL, gR_uCI, gR_uCL, gI_uL, gI_uR, gI_uCL, gL_uI, gL_uR, gL_uCI, gz_uI, gz_uL, gz_uR, gz_uCI, gz_uCL, gs_uI, gs_uL, gs_uR, gs_uCI, gs_uCL, rI_at, rL_at, rR_at, rI_ne, rL_ne, rR_ne, rI_nk, rL_nk, rR_nk, rI_eq, rL_eq, rR_eq, Option.toList_some, Option.toList_none, List.cons_append, List.nil_append, List.append_nil, zc_eq, zc_lt, zc_le, zc_ge, zc_gt]
    all_goals exact h_z
  · have s17 : gI M (G.2 1) 20 = 21 := sm_z.2.2 20 (by decide)
    simp (disch := omega) only [sm_z.1, sm_z.2.1, s17, Int.cast_ofNat_Int, inI, inL, isT, kInt, kByt, true_and, and_true, an_t, im_t, im_f, or_true, true_or, true_imp_iff, false_imp_iff, not_true_eq_false, not_false_eq_true, gK_uI, gK_uL, gK_uR, gK_uCI, gK_uCL, gN_uI, gN_uL, gN_uR, gN_uCI, gN_uCL, gR_uI, gR_uL, gR_uCI, gR_uCL, gI_uL, gI_uR, gI_uCL, gL_uI, gL_uR, gL_uCI, gz_uI, gz_uL, gz_uR, gz_uCI, gz_uCL, gs_uI, gs_uL, gs_uR, gs_uCI, gs_uCL, rI_at, rL_at, rR_at, rI_ne, rL_ne, rR_ne, rI_nk, rL_nk, rR_nk, rI_eq, rL_eq, rR_eq, Option.toList_some, Option.toList_none, List.cons_append, List.nil_append, List.append_nil, zc_eq, zc_lt, zc_le, zc_ge, zc_gt]
    all_goals exact h_z
  · have s17 : gI M (G.2 1) 21 = 22 := sm_z.2.2 21 (by decide)
    simp (disch := omega) only [sm_z.1, sm_z.2.1, s17, Int.cast_ofNat_Int, inI, inL, isT, kInt, kByt, true_and, and_true, an_t, im_t, im_f, or_true, true_or, true_imp_iff, false_imp_iff, not_true_eq_false, not_false_eq_true, gK_uI, gK_uL, gK_uR, gK_uCI, gK_uCL, gN_uI, gN_uL, gN_uR, gN_uCI, gN_uCL, gR_uI, gR_uL, gR_uCI, gR_uCL, gI_uL, gI_uR, gI_uCL, gL_uI, gL_uR, gL_uCI, gz_uI, gz_uL, gz_uR, gz_uCI, gz_uCL, gs_uI, gs_uL, gs_uR, gs_uCI, gs_uCL, rI_at, rL_at, rR_at, rI_ne, rL_ne, rR_ne, rI_nk, rL_nk, rR_nk, rI_eq, rL_eq, rR_eq, Option.toList_some, Option.toList_none, List.cons_append, List.nil_append, List.append_nil, zc_eq, zc_lt, zc_le, zc_ge, zc_gt]
    all_goals exact h_z
  · have s17 : gI M (G.2 1) 22 = 23 := sm_z.2.2 22 (by decide)
    simp (disch := omega) only [sm_z.1, sm_z.2.1, s17, Int.cast_ofNat_Int, inI, inL, isT, kInt, kByt, true_and, and_true, an_t, im_t, im_f, or_true, true_or, true_imp_iff, false_imp_iff, not_true_eq_false, not_false_eq_true, gK_uI, gK_uL, gK_uR, gK_uCI, gK_uCL, gN_uI, gN_uL, gN_uR, gN_uCI, gN_uCL, gR_uI, gR_uL, gR_uCI, gR_uCL, gI_uL, gI_uR, gI_uCL, gL_uI, gL_uR, gL_uCI, gz_uI, gz_uL, gz_uR, gz_uCI, gz_uCL, gs_uI, gs_uL, gs_uR, gs_uCI, gs_uCL, rI_at, rL_at, rR_at, rI_ne, rL_ne, rR_ne, rI_nk, rL_nk, rR_nk, rI_eq, rL_eq, rR_eq, Option.toList_some, Option.toList_none, List.cons_append, List.nil_append, List.append_nil, zc_eq, zc_lt, zc_le, zc_ge, zc_gt]
    all_goals exact h_z
theorem X_apply {k_z : Nat} {v_z w_z : Int} (ho : OpF G M) (hk : k_z = 19 ∨ k_z = 20 ∨ k_z = 21 ∨ k_z = 22) (hv : NV v_z) (hw : NV w_z) (h0 : k_z = 22 → fu w_z ≠ 0) (h_z : Q (some (a_l (fop ((k_z : Int) - 19) v_z w_z))) M) : Call G J_Ma_apply [a_r (G.2 (3 + k_z)), a_l v_z, a_l w_z] M Q := by
  obtain ⟨o0_z, o1, o2, o3_z, o4_z⟩ := ho.n (show k_z < 23 by omega)
  have sm_z := ho.1
  simp (disch := omega) only [E_Ma_apply, B_127_0, E_En_ordinal, B_42_0, o1, o2, inI, inL, isT, kInt, kByt, true_and, and_true, an_t, im_t, im_f, or_true, true_or, true_imp_iff, false_imp_iff, not_true_eq_false, not_false_eq_true, gK_uI, gK_uL, gK_uR, gK_uCI, gK_uCL, gN_uI, gN_uL, gN_uR, gN_uCI, gN_uCL, gR_uI, gR_uL, gR_uCI, gR_uCL, gI_uL, gI_uR, gI_uCL, gL_uI, gL_uR, gL_uCI, gz_uI, gz_uL, gz_uR, gz_uCI, gz_uCL, gs_uI, gs_uL, gs_uR, gs_uCI, gs_uCL, rI_at, rL_at, rR_at, rI_ne, rL_ne, rR_ne, rI_nk, rL_nk, rR_nk, rI_eq, rL_eq, rR_eq, Option.toList_some, Option.toList_none, List.cons_append, List.nil_append, List.append_nil, zc_eq, zc_lt, zc_le, zc_ge, zc_gt]
  rw [B_127_7]
  rcases hk with hk | hk | hk | hk <;> subst hk
  · have s17 : gI M (G.2 1) 19 = 20 := sm_z.2.2 19 (by decide)
    simp (disch := omega) only [sm_z.1, sm_z.2.1, s17, Int.cast_ofNat_Int, B_127_36, inI, inL, isT, kInt, kByt, true_and, and_true, an_t, im_t, im_f, or_true, true_or, true_imp_iff, false_imp_iff, not_true_eq_false, not_false_eq_true, gK_uI, gK_uL, gK_uR, gK_uCI, gK_uCL, gN_uI, gN_uL, gN_uR, gN_uCI, gN_uCL, gR_uI, gR_uL, gR_uCI, gR_uCL, gI_uL, gI_uR, gI_uCL, gL_uI, gL_uR, gL_uCI, gz_uI, gz_uL, gz_uR, gz_uCI, gz_uCL, gs_uI, gs_uL, gs_uR, gs_uCI, gs_uCL, rI_at, rL_at, rR_at, rI_ne, rL_ne, rR_ne, rI_nk, rL_nk, rR_nk, rI_eq, rL_eq, rR_eq, Option.toList_some, Option.toList_none, List.cons_append, List.nil_append, List.append_nil, zc_eq, zc_lt, zc_le, zc_ge, zc_gt]
    refine X_sum (Or.inr hv) (Or.inr hw) ?_
    simp only [B_127_41, Option.toList_some, Option.toList_none, List.cons_append, List.nil_append, List.append_nil]
    exact h_z
  · have s17 : gI M (G.2 1) 20 = 21 := sm_z.2.2 20 (by decide)
    simp (disch := omega) only [sm_z.1, sm_z.2.1, s17, Int.cast_ofNat_Int, B_127_42, inI, inL, isT, kInt, kByt, true_and, and_true, an_t, im_t, im_f, or_true, true_or, true_imp_iff, false_imp_iff, not_true_eq_false, not_false_eq_true, gK_uI, gK_uL, gK_uR, gK_uCI, gK_uCL, gN_uI, gN_uL, gN_uR, gN_uCI, gN_uCL, gR_uI, gR_uL, gR_uCI, gR_uCL, gI_uL, gI_uR, gI_uCL, gL_uI, gL_uR, gL_uCI, gz_uI, gz_uL, gz_uR, gz_uCI, gz_uCL, gs_uI, gs_uL, gs_uR, gs_uCI, gs_uCL, rI_at, rL_at, rR_at, rI_ne, rL_ne, rR_ne, rI_nk, rL_nk, rR_nk, rI_eq, rL_eq, rR_eq, Option.toList_some, Option.toList_none, List.cons_append, List.nil_append, List.append_nil, zc_eq, zc_lt, zc_le, zc_ge, zc_gt]
    refine X_difference hv hw ?_
    simp only [B_127_47, Option.toList_some, Option.toList_none, List.cons_append, List.nil_append, List.append_nil]
    exact h_z
  · have s17 : gI M (G.2 1) 21 = 22 := sm_z.2.2 21 (by decide)
    simp (disch := omega) only [sm_z.1, sm_z.2.1, s17, Int.cast_ofNat_Int, B_127_48, inI, inL, isT, kInt, kByt, true_and, and_true, an_t, im_t, im_f, or_true, true_or, true_imp_iff, false_imp_iff, not_true_eq_false, not_false_eq_true, gK_uI, gK_uL, gK_uR, gK_uCI, gK_uCL, gN_uI, gN_uL, gN_uR, gN_uCI, gN_uCL, gR_uI, gR_uL, gR_uCI, gR_uCL, gI_uL, gI_uR, gI_uCL, gL_uI, gL_uR, gL_uCI, gz_uI, gz_uL, gz_uR, gz_uCI, gz_uCL, gs_uI, gs_uL, gs_uR, gs_uCI, gs_uCL, rI_at, rL_at, rR_at, rI_ne, rL_ne, rR_ne, rI_nk, rL_nk, rR_nk, rI_eq, rL_eq, rR_eq, Option.toList_some, Option.toList_none, List.cons_append, List.nil_append, List.append_nil, zc_eq, zc_lt, zc_le, zc_ge, zc_gt]
    refine X_product (Or.inr hv) (Or.inr hw) ?_
    simp only [B_127_53, Option.toList_some, Option.toList_none, List.cons_append, List.nil_append, List.append_nil]
    exact h_z
  · have s17 : gI M (G.2 1) 22 = 23 := sm_z.2.2 22 (by decide)
    simp (disch := omega) only [sm_z.1, sm_z.2.1, s17, Int.cast_ofNat_Int, B_127_54, inI, inL, isT, kInt, kByt, true_and, and_true, an_t, im_t, im_f, or_true, true_or, true_imp_iff, false_imp_iff, not_true_eq_false, not_false_eq_true, gK_uI, gK_uL, gK_uR, gK_uCI, gK_uCL, gN_uI, gN_uL, gN_uR, gN_uCI, gN_uCL, gR_uI, gR_uL, gR_uCI, gR_uCL, gI_uL, gI_uR, gI_uCL, gL_uI, gL_uR, gL_uCI, gz_uI, gz_uL, gz_uR, gz_uCI, gz_uCL, gs_uI, gs_uL, gs_uR, gs_uCI, gs_uCL, rI_at, rL_at, rR_at, rI_ne, rL_ne, rR_ne, rI_nk, rL_nk, rR_nk, rI_eq, rL_eq, rR_eq, Option.toList_some, Option.toList_none, List.cons_append, List.nil_append, List.append_nil, zc_eq, zc_lt, zc_le, zc_ge, zc_gt]
    refine X_quotient hv hw (h0 rfl) ?_
    simp only [B_127_59, Option.toList_some, Option.toList_none, List.cons_append, List.nil_append, List.append_nil]
    exact h_z
/-- the model's check of a calculation -/
theorem X_tooC {k_z d_z : Nat} {w_z v1_z v0_z : Int} (hs : ShM T m) (hl : gI T m 36 = (d_z : Int)) (hw : gI T (m + 19) d_z = w_z) (l1 : d_z < 5) (w0_z : 2 ≤ w_z) (w1_z : w_z ≤ 16) (hk : k_z = 19 ∨ k_z = 20 ∨ k_z = 21 ∨ k_z = 22) (hf : gI T m 16 = 0) (n1_z : NV v1_z) (n0_z : NV v0_z) (a1_z : gI T (m + 20) (16 * d_z + w_z - 2) = fu v1_z) (b1 : gI T (m + 21) (16 * d_z + w_z - 2) = fd v1_z) (a0_z : gI T (m + 20) (16 * d_z + w_z - 1) = fu v0_z) (b0 : gI T (m + 21) (16 * d_z + w_z - 1) = fd v0_z) (h0 : k_z = 22 → fu v0_z ≠ 0) (h_z : ∀ T1, Sy T T1 m → A3 T1 m (fop ((k_z : Int) - 19) v1_z v0_z) → Q (some (a_i 0)) T1) : Call G J_M_isTooMuch [a_r m, a_i (k_z : Int)] T Q := by
  have hcall : At G 215 337 [a_r m, a_i (k_z : Int)] [] T Q := by
    have TT : ∀ (j_z : Int) (T3 : Mem) (qq : Option AV → Mem → Prop), ShM T3 m → gI T3 m 36 = (d_z : Int) → gI T3 (m + 19) d_z = w_z → (j_z = 0 ∨ j_z = 1) → (Call G J_M_top [a_r m, a_i j_z] T3 qq ↔ qq (some (a_i (16 * d_z + w_z - 1 - j_z))) T3) := fun j_z T3 qq a1_z a2 a3 a4 => X_topE a1_z a2 a3 (by omega) (by omega) (by omega) (by omega) (by omega) (by omega)
    have t1_z := fun qq => TT 1 T qq hs hl hw (Or.inr rfl)
    have t2_z := fun qq => TT 1 (uL T m 14 (fu v1_z)) qq hs hl hw (Or.inr rfl)
    have t3_z := fun qq => TT 0 (uL (uL T m 14 (fu v1_z)) m 15 (fd v1_z)) qq hs hl hw (Or.inl rfl)
    rw [show (16 : Int) * d_z + w_z - 1 - 1 = 16 * d_z + w_z - 2 from by omega] at t1_z t2_z
    rw [Int.sub_zero] at t3_z
    simp (disch := omega) only [B_215_337, hs.u, t1_z, B_215_347, a1_z, t2_z, B_215_362, b1, t3_z, B_215_381, a0_z, B_215_392, b0, inI, inL, isT, kInt, kByt, true_and, and_true, an_t, im_t, im_f, or_true, true_or, true_imp_iff, false_imp_iff, not_true_eq_false, not_false_eq_true, gK_uI, gK_uL, gK_uR, gK_uCI, gK_uCL, gN_uI, gN_uL, gN_uR, gN_uCI, gN_uCL, gR_uI, gR_uL, gR_uCI, gR_uCL, gI_uL, gI_uR, gI_uCL, gL_uI, gL_uR, gL_uCI, gz_uI, gz_uL, gz_uR, gz_uCI, gz_uCL, gs_uI, gs_uL, gs_uR, gs_uCI, gs_uCL, rI_at, rL_at, rR_at, rI_ne, rL_ne, rR_ne, rI_nk, rL_nk, rR_nk, rI_eq, rL_eq, rR_eq, Option.toList_some, Option.toList_none, List.cons_append, List.nil_append, List.append_nil, zc_eq, zc_lt, zc_le, zc_ge, zc_gt]
    refine X_goes0 (v_z := v1_z) (by omega) (by omega) hs.1 hf n1_z n0_z (by simp (disch := omega) only [gK_uI, gK_uL, gK_uR, gK_uCI, gK_uCL, gN_uI, gN_uL, gN_uR, gN_uCI, gN_uCL, gR_uI, gR_uL, gR_uCI, gR_uCL, gI_uL, gI_uR, gI_uCL, gL_uI, gL_uR, gL_uCI, gz_uI, gz_uL, gz_uR, gz_uCI, gz_uCL, gs_uI, gs_uL, gs_uR, gs_uCI, gs_uCL, rI_at, rL_at, rR_at, rI_ne, rL_ne, rR_ne, rI_nk, rL_nk, rR_nk, rI_eq, rL_eq, rR_eq]) (by simp (disch := omega) only [gK_uI, gK_uL, gK_uR, gK_uCI, gK_uCL, gN_uI, gN_uL, gN_uR, gN_uCI, gN_uCL, gR_uI, gR_uL, gR_uCI, gR_uCL, gI_uL, gI_uR, gI_uCL, gL_uI, gL_uR, gL_uCI, gz_uI, gz_uL, gz_uR, gz_uCI, gz_uCL, gs_uI, gs_uL, gs_uR, gs_uCI, gs_uCL, rI_at, rL_at, rR_at, rI_ne, rL_ne, rR_ne, rI_nk, rL_nk, rR_nk, rI_eq, rL_eq, rR_eq]) (fun q_z => h0 (by omega)) (fun T1 s1_z a3 => ?_)
    simp (disch := omega) only [B_215_397, inI, inL, isT, kInt, kByt, true_and, and_true, an_t, im_t, im_f, or_true, true_or, true_imp_iff, false_imp_iff, not_true_eq_false, not_false_eq_true, gK_uI, gK_uL, gK_uR, gK_uCI, gK_uCL, gN_uI, gN_uL, gN_uR, gN_uCI, gN_uCL, gR_uI, gR_uL, gR_uCI, gR_uCL, gI_uL, gI_uR, gI_uCL, gL_uI, gL_uR, gL_uCI, gz_uI, gz_uL, gz_uR, gz_uCI, gz_uCL, gs_uI, gs_uL, gs_uR, gs_uCI, gs_uCL, rI_at, rL_at, rR_at, rI_ne, rL_ne, rR_ne, rI_nk, rL_nk, rR_nk, rI_eq, rL_eq, rR_eq, Option.toList_some, Option.toList_none, List.cons_append, List.nil_append, List.append_nil, zc_eq, zc_lt, zc_le, zc_ge, zc_gt]
    exact h_z T1 ((((Sx.refl T m).uL _ _).uL _ _).trans s1_z).sd.sy a3
  rw [E_M_isTooMuch, B_215_0]
  rcases hk with hk | hk | hk | hk <;> subst hk <;> simp (disch := omega) only [Int.cast_ofNat_Int, inI, inL, isT, kInt, kByt, true_and, and_true, an_t, im_t, im_f, or_true, true_or, true_imp_iff, false_imp_iff, not_true_eq_false, not_false_eq_true, gK_uI, gK_uL, gK_uR, gK_uCI, gK_uCL, gN_uI, gN_uL, gN_uR, gN_uCI, gN_uCL, gR_uI, gR_uL, gR_uCI, gR_uCL, gI_uL, gI_uR, gI_uCL, gL_uI, gL_uR, gL_uCI, gz_uI, gz_uL, gz_uR, gz_uCI, gz_uCL, gs_uI, gs_uL, gs_uR, gs_uCI, gs_uCL, rI_at, rL_at, rR_at, rI_ne, rL_ne, rR_ne, rI_nk, rL_nk, rR_nk, rI_eq, rL_eq, rR_eq, Option.toList_some, Option.toList_none, List.cons_append, List.nil_append, List.append_nil, zc_eq, zc_lt, zc_le, zc_ge, zc_gt] at hcall ⊢ <;> exact hcall
/-- what is wrong with a division -/
theorem X_wrong22 {d_z : Nat} {w_z : Int} (hs : ShM T m) (hl : gI T m 36 = (d_z : Int)) (hw : gI T (m + 19) d_z = w_z) (l1 : d_z < 5) (w0_z : 2 ≤ w_z) (w1_z : w_z ≤ 16) (hb_z : gI T m 49 ≠ gI T (m + 1) 1215) (ha_z : ∀ qq : Option AV → Mem → Prop, qq (some (a_i 1)) T → Call G J_M_areOperands [a_r m, a_i 22] T qq)
    (hz : gI T (m + 20) (16 * d_z + w_z - 1) = 0 → Q (some (a_i 5)) T)
    (ht : gI T (m + 20) (16 * d_z + w_z - 1) ≠ 0 → Call G J_M_isTooMuch [a_r m, a_i 22] (uI T m 16 0) (fun q_z T1 => ∃ z_z : Int, q_z = some (a_i z_z) ∧ ShM T1 m ∧ (gI T1 m 16 = 0 ∨ gI T1 m 16 = 1) ∧ ((z_z ≠ 0 ∨ gI T1 m 16 = 1) → Q (some (a_i 6)) T1) ∧ (z_z = 0 → gI T1 m 16 = 0 → Q (some (a_i 0)) T1))) : Call G J_M_wrong [a_r m, a_i 22] T Q := by
  have tt := fun qq => X_topE (G := G) (Q := qq) (M := T) (m := m) (k_z := 0) hs hl hw (by omega) (by omega) (by omega) w1_z (by omega) (by omega)
  rw [Int.sub_zero] at tt
  simp (disch := omega) only [E_M_wrong, B_206_0, B_206_17, hs.u, inI, inL, isT, kInt, kByt, true_and, and_true, an_t, im_t, im_f, or_true, true_or, true_imp_iff, false_imp_iff, not_true_eq_false, not_false_eq_true, gK_uI, gK_uL, gK_uR, gK_uCI, gK_uCL, gN_uI, gN_uL, gN_uR, gN_uCI, gN_uCL, gR_uI, gR_uL, gR_uCI, gR_uCL, gI_uL, gI_uR, gI_uCL, gL_uI, gL_uR, gL_uCI, gz_uI, gz_uL, gz_uR, gz_uCI, gz_uCL, gs_uI, gs_uL, gs_uR, gs_uCI, gs_uCL, rI_at, rL_at, rR_at, rI_ne, rL_ne, rR_ne, rI_nk, rL_nk, rR_nk, rI_eq, rL_eq, rR_eq, Option.toList_some, Option.toList_none, List.cons_append, List.nil_append, List.append_nil, zc_eq, zc_lt, zc_le, zc_ge, zc_gt]
  refine ha_z _ ?_
  simp (disch := omega) only [B_206_22, B_206_27, B_206_50, B_206_51, B_206_66, B_206_88, hs.u, tt, inI, inL, isT, kInt, kByt, true_and, and_true, an_t, im_t, im_f, or_true, true_or, true_imp_iff, false_imp_iff, not_true_eq_false, not_false_eq_true, gK_uI, gK_uL, gK_uR, gK_uCI, gK_uCL, gN_uI, gN_uL, gN_uR, gN_uCI, gN_uCL, gR_uI, gR_uL, gR_uCI, gR_uCL, gI_uL, gI_uR, gI_uCL, gL_uI, gL_uR, gL_uCI, gz_uI, gz_uL, gz_uR, gz_uCI, gz_uCL, gs_uI, gs_uL, gs_uR, gs_uCI, gs_uCL, rI_at, rL_at, rR_at, rI_ne, rL_ne, rR_ne, rI_nk, rL_nk, rR_nk, rI_eq, rL_eq, rR_eq, Option.toList_some, Option.toList_none, List.cons_append, List.nil_append, List.append_nil, zc_eq, zc_lt, zc_le, zc_ge, zc_gt]
  by_cases c0_z : gI T (m + 20) (16 * d_z + w_z - 1) = 0
  · have hh := hz c0_z
    simp (disch := omega) only [B_206_103, hs.u, c0_z, inI, inL, isT, kInt, kByt, true_and, and_true, an_t, im_t, im_f, or_true, true_or, true_imp_iff, false_imp_iff, not_true_eq_false, not_false_eq_true, gK_uI, gK_uL, gK_uR, gK_uCI, gK_uCL, gN_uI, gN_uL, gN_uR, gN_uCI, gN_uCL, gR_uI, gR_uL, gR_uCI, gR_uCL, gI_uL, gI_uR, gI_uCL, gL_uI, gL_uR, gL_uCI, gz_uI, gz_uL, gz_uR, gz_uCI, gz_uCL, gs_uI, gs_uL, gs_uR, gs_uCI, gs_uCL, rI_at, rL_at, rR_at, rI_ne, rL_ne, rR_ne, rI_nk, rL_nk, rR_nk, rI_eq, rL_eq, rR_eq, Option.toList_some, Option.toList_none, List.cons_append, List.nil_append, List.append_nil, zc_eq, zc_lt, zc_le, zc_ge, zc_gt]
    all_goals exact hh
  · have hh : Call G J_M_isTooMuch [a_r m, a_i 22] (uI T m 16 0) (fun r M2_z => At G 206 119 [a_r m, a_i 22, a_i 0] r.toList M2_z Q) := Call.weak (ht c0_z) (fun q_z T1 hq => by
      obtain ⟨z_z, eq, hs1, hf, h6, h0⟩ := hq
      subst eq
      by_cases cz : z_z = 0
      · rcases hf with hf | hf
        · have hh := h0 cz hf
          simp (disch := omega) only [B_206_119, B_206_134, B_206_135, hs1.u, hf, inI, inL, isT, kInt, kByt, true_and, and_true, an_t, im_t, im_f, or_true, true_or, true_imp_iff, false_imp_iff, not_true_eq_false, not_false_eq_true, gK_uI, gK_uL, gK_uR, gK_uCI, gK_uCL, gN_uI, gN_uL, gN_uR, gN_uCI, gN_uCL, gR_uI, gR_uL, gR_uCI, gR_uCL, gI_uL, gI_uR, gI_uCL, gL_uI, gL_uR, gL_uCI, gz_uI, gz_uL, gz_uR, gz_uCI, gz_uCL, gs_uI, gs_uL, gs_uR, gs_uCI, gs_uCL, rI_at, rL_at, rR_at, rI_ne, rL_ne, rR_ne, rI_nk, rL_nk, rR_nk, rI_eq, rL_eq, rR_eq, Option.toList_some, Option.toList_none, List.cons_append, List.nil_append, List.append_nil, zc_eq, zc_lt, zc_le, zc_ge, zc_gt]
          all_goals exact hh
        · have hh := h6 (Or.inr hf)
          simp (disch := omega) only [B_206_119, B_206_129, B_206_135, hs1.u, hf, inI, inL, isT, kInt, kByt, true_and, and_true, an_t, im_t, im_f, or_true, true_or, true_imp_iff, false_imp_iff, not_true_eq_false, not_false_eq_true, gK_uI, gK_uL, gK_uR, gK_uCI, gK_uCL, gN_uI, gN_uL, gN_uR, gN_uCI, gN_uCL, gR_uI, gR_uL, gR_uCI, gR_uCL, gI_uL, gI_uR, gI_uCL, gL_uI, gL_uR, gL_uCI, gz_uI, gz_uL, gz_uR, gz_uCI, gz_uCL, gs_uI, gs_uL, gs_uR, gs_uCI, gs_uCL, rI_at, rL_at, rR_at, rI_ne, rL_ne, rR_ne, rI_nk, rL_nk, rR_nk, rI_eq, rL_eq, rR_eq, Option.toList_some, Option.toList_none, List.cons_append, List.nil_append, List.append_nil, zc_eq, zc_lt, zc_le, zc_ge, zc_gt]
          all_goals exact hh
      · have hh := h6 (Or.inl cz)
        simp (disch := omega) only [B_206_119, B_206_129, B_206_135, hs1.u, inI, inL, isT, kInt, kByt, true_and, and_true, an_t, im_t, im_f, or_true, true_or, true_imp_iff, false_imp_iff, not_true_eq_false, not_false_eq_true, gK_uI, gK_uL, gK_uR, gK_uCI, gK_uCL, gN_uI, gN_uL, gN_uR, gN_uCI, gN_uCL, gR_uI, gR_uL, gR_uCI, gR_uCL, gI_uL, gI_uR, gI_uCL, gL_uI, gL_uR, gL_uCI, gz_uI, gz_uL, gz_uR, gz_uCI, gz_uCL, gs_uI, gs_uL, gs_uR, gs_uCI, gs_uCL, rI_at, rL_at, rR_at, rI_ne, rL_ne, rR_ne, rI_nk, rL_nk, rR_nk, rI_eq, rL_eq, rR_eq, Option.toList_some, Option.toList_none, List.cons_append, List.nil_append, List.append_nil, zc_eq, zc_lt, zc_le, zc_ge, zc_gt]
        all_goals exact hh)
    simp (disch := omega) only [B_206_103, hs.u, B_206_109, inI, inL, isT, kInt, kByt, true_and, and_true, an_t, im_t, im_f, or_true, true_or, true_imp_iff, false_imp_iff, not_true_eq_false, not_false_eq_true, gK_uI, gK_uL, gK_uR, gK_uCI, gK_uCL, gN_uI, gN_uL, gN_uR, gN_uCI, gN_uCL, gR_uI, gR_uL, gR_uCI, gR_uCL, gI_uL, gI_uR, gI_uCL, gL_uI, gL_uR, gL_uCI, gz_uI, gz_uL, gz_uR, gz_uCI, gz_uCL, gs_uI, gs_uL, gs_uR, gs_uCI, gs_uCL, rI_at, rL_at, rR_at, rI_ne, rL_ne, rR_ne, rI_nk, rL_nk, rR_nk, rI_eq, rL_eq, rR_eq, Option.toList_some, Option.toList_none, List.cons_append, List.nil_append, List.append_nil, zc_eq, zc_lt, zc_le, zc_ge, zc_gt]
    all_goals exact hh
theorem X_doesC {k_z d_z : Nat} {w_z a_z b_z : Int} (hs : ShM T m) (hl : gI T m 36 = (d_z : Int)) (hw : gI T (m + 19) d_z = w_z) (l1 : d_z < 5) (w0_z : 2 ≤ w_z) (w1_z : w_z ≤ 16) (hk : k_z = 19 ∨ k_z = 20 ∨ k_z = 21 ∨ k_z = 22) (e14_z : gL T m 14 = a_z) (e15_z : gL T m 15 = b_z) (ia : inI a_z) (ib : inI b_z) (h_z : Q none (uI (uI (uI (uI T (m + 19) d_z (w_z - 2)) (m + 19) d_z (w_z - 2 + 1)) (m + 20) (16 * d_z + (w_z - 2)) a_z) (m + 21) (16 * d_z + (w_z - 2)) b_z)) : Call G J_M_does [a_r m, a_i (k_z : Int)] T Q := by
  have pu := fun qq => X_pushes (G := G) (Q := qq) (M := uI T (m + 19) d_z (w_z - 2)) (m := m) (a_z := a_z) (b_z := b_z) (l := (d_z : Int)) (w_z := w_z - 2) hs (by rw [rI_ne (by omega)]; exact hl) rI_at (by omega) (by omega) (by omega) (by omega) ia ib
  rcases hk with hk | hk | hk | hk <;> subst hk
  · have n17 := fun qq => X_needed (G := G) (T := T) (Q := qq) (k_z := 19) (by omega) (by omega)
    rw [show need 19 = 2 from by decide] at n17
    simp (disch := omega) only [E_M_does, B_228_0, Int.cast_ofNat_Int, n17, B_228_4, B_228_23, hs.u, B_228_24, B_228_54, B_228_55, Y_inF (x_z := 19) (y_z := 16) (w_z := 18) (by omega), B_228_65, B_228_74, B_228_341, hl, hw, e14_z, e15_z, pu, B_228_353, inI, inL, isT, kInt, kByt, true_and, and_true, an_t, im_t, im_f, or_true, true_or, true_imp_iff, false_imp_iff, not_true_eq_false, not_false_eq_true, gK_uI, gK_uL, gK_uR, gK_uCI, gK_uCL, gN_uI, gN_uL, gN_uR, gN_uCI, gN_uCL, gR_uI, gR_uL, gR_uCI, gR_uCL, gI_uL, gI_uR, gI_uCL, gL_uI, gL_uR, gL_uCI, gz_uI, gz_uL, gz_uR, gz_uCI, gz_uCL, gs_uI, gs_uL, gs_uR, gs_uCI, gs_uCL, rI_at, rL_at, rR_at, rI_ne, rL_ne, rR_ne, rI_nk, rL_nk, rR_nk, rI_eq, rL_eq, rR_eq, Option.toList_some, Option.toList_none, List.cons_append, List.nil_append, List.append_nil, zc_eq, zc_lt, zc_le, zc_ge, zc_gt]
    all_goals exact h_z
  · have n17 := fun qq => X_needed (G := G) (T := T) (Q := qq) (k_z := 20) (by omega) (by omega)
    rw [show need 20 = 2 from by decide] at n17
    simp (disch := omega) only [E_M_does, B_228_0, Int.cast_ofNat_Int, n17, B_228_4, B_228_23, hs.u, B_228_24, B_228_54, B_228_55, Y_inF (x_z := 20) (y_z := 16) (w_z := 18) (by omega), B_228_65, B_228_74, B_228_341, hl, hw, e14_z, e15_z, pu, B_228_353, inI, inL, isT, kInt, kByt, true_and, and_true, an_t, im_t, im_f, or_true, true_or, true_imp_iff, false_imp_iff, not_true_eq_false, not_false_eq_true, gK_uI, gK_uL, gK_uR, gK_uCI, gK_uCL, gN_uI, gN_uL, gN_uR, gN_uCI, gN_uCL, gR_uI, gR_uL, gR_uCI, gR_uCL, gI_uL, gI_uR, gI_uCL, gL_uI, gL_uR, gL_uCI, gz_uI, gz_uL, gz_uR, gz_uCI, gz_uCL, gs_uI, gs_uL, gs_uR, gs_uCI, gs_uCL, rI_at, rL_at, rR_at, rI_ne, rL_ne, rR_ne, rI_nk, rL_nk, rR_nk, rI_eq, rL_eq, rR_eq, Option.toList_some, Option.toList_none, List.cons_append, List.nil_append, List.append_nil, zc_eq, zc_lt, zc_le, zc_ge, zc_gt]
    all_goals exact h_z
  · have n17 := fun qq => X_needed (G := G) (T := T) (Q := qq) (k_z := 21) (by omega) (by omega)
    rw [show need 21 = 2 from by decide] at n17
    simp (disch := omega) only [E_M_does, B_228_0, Int.cast_ofNat_Int, n17, B_228_4, B_228_23, hs.u, B_228_24, B_228_54, B_228_55, Y_inF (x_z := 21) (y_z := 16) (w_z := 18) (by omega), B_228_65, B_228_74, B_228_341, hl, hw, e14_z, e15_z, pu, B_228_353, inI, inL, isT, kInt, kByt, true_and, and_true, an_t, im_t, im_f, or_true, true_or, true_imp_iff, false_imp_iff, not_true_eq_false, not_false_eq_true, gK_uI, gK_uL, gK_uR, gK_uCI, gK_uCL, gN_uI, gN_uL, gN_uR, gN_uCI, gN_uCL, gR_uI, gR_uL, gR_uCI, gR_uCL, gI_uL, gI_uR, gI_uCL, gL_uI, gL_uR, gL_uCI, gz_uI, gz_uL, gz_uR, gz_uCI, gz_uCL, gs_uI, gs_uL, gs_uR, gs_uCI, gs_uCL, rI_at, rL_at, rR_at, rI_ne, rL_ne, rR_ne, rI_nk, rL_nk, rR_nk, rI_eq, rL_eq, rR_eq, Option.toList_some, Option.toList_none, List.cons_append, List.nil_append, List.append_nil, zc_eq, zc_lt, zc_le, zc_ge, zc_gt]
    all_goals exact h_z
  · have n17 := fun qq => X_needed (G := G) (T := T) (Q := qq) (k_z := 22) (by omega) (by omega)
    rw [show need 22 = 2 from by decide] at n17
    simp (disch := omega) only [E_M_does, B_228_0, Int.cast_ofNat_Int, n17, B_228_4, B_228_23, hs.u, B_228_24, B_228_54, B_228_55, Y_inF (x_z := 22) (y_z := 16) (w_z := 18) (by omega), B_228_65, B_228_74, B_228_341, hl, hw, e14_z, e15_z, pu, B_228_353, inI, inL, isT, kInt, kByt, true_and, and_true, an_t, im_t, im_f, or_true, true_or, true_imp_iff, false_imp_iff, not_true_eq_false, not_false_eq_true, gK_uI, gK_uL, gK_uR, gK_uCI, gK_uCL, gN_uI, gN_uL, gN_uR, gN_uCI, gN_uCL, gR_uI, gR_uL, gR_uCI, gR_uCL, gI_uL, gI_uR, gI_uCL, gL_uI, gL_uR, gL_uCI, gz_uI, gz_uL, gz_uR, gz_uCI, gz_uCL, gs_uI, gs_uL, gs_uR, gs_uCI, gs_uCL, rI_at, rL_at, rR_at, rI_ne, rL_ne, rR_ne, rI_nk, rL_nk, rR_nk, rI_eq, rL_eq, rR_eq, Option.toList_some, Option.toList_none, List.cons_append, List.nil_append, List.append_nil, zc_eq, zc_lt, zc_le, zc_ge, zc_gt]
    all_goals exact h_z
theorem op_calc {E_z i_z x_z n_z tk : Int} {d_z p_z k_z : Nat} (hk4 : k_z = 19 ∨ k_z = 20 ∨ k_z = 21 ∨ k_z = 22) (h_z : Rel G M T c s m E_z) (hd_z : gI M c 11 = (d_z : Int)) (hx : gI M (c + 22 + 4 * d_z) 4 = x_z - 1) (htk : gI M (c + 22 + 4 * d_z) 5 = tk) (hp : gR M (c + 22 + 4 * d_z) 3 = p_z) (hn : gI M p_z 3 = n_z) (hlt : tk < n_z) (hop : gR M (p_z + 1) tk = G.2 (3 + k_z)) (i0_z : 0 ≤ i_z) (i1_z : i_z + 1 < 1000000) (hN_z : Nxt G c s m M E_z i_z Q) (hEr : Err G c s m M E_z Q) : HC G c s i_z M Q := by
  refine op_pre (k_z := k_z) h_z hd_z hx htk hp hn hlt (by omega) (by omega) hop i0_z i1_z hEr (fun hb_z hw hg => ?_)
  have h0 := h_z
  obtain ⟨r1_z, r2, r3, ⟨r4, r5_z, r6, r7⟩, r8, r9, r10, r11, r12, r13, ⟨r14, r15, r16⟩, r17⟩ := h_z
  obtain ⟨g1, g2, g3_z, w0_z, w1_z, g6⟩ := h0.opn hd_z
  have nd : need (k_z : Int) = 2 := by rcases hk4 with q_z | q_z | q_z | q_z <;> subst q_z <;> decide
  rw [nd] at hw
  have hs1 : ShMa (uI M (c + 22 + 4 * d_z) 5 (tk + 1)) c := r1_z
  have ho1 : OpF G (uI M (c + 22 + 4 * d_z) 5 (tk + 1)) := OpF.out r3 ((OutC.refl c M).uI _ _ (by omega)) r6 r4
  have f2_z : ShFr (uI M (c + 22 + 4 * d_z) 5 (tk + 1)) (c + 22 + 4 * d_z) := (r1_z.2.2.2.1 d_z g1).2
  have e13_z : gI (uI M (c + 22 + 4 * d_z) 5 (tk + 1)) c 13 = gI M c 13 := by rw [rI_ne (by omega)]
  have es6 : gI (uI M (c + 22 + 4 * d_z) 5 (tk + 1)) s 6 = gI M s 6 := by rw [rI_ne (by omega)]
  have ew : gI (uI M (c + 22 + 4 * d_z) 5 (tk + 1)) (c + 22 + 4 * d_z) 6 = gI M (c + 22 + 4 * d_z) 6 := by rw [rI_nk (by decide)]
  have hK4 : gK (uI M (c + 22 + 4 * d_z) 5 (tk + 1)) s = 4 := r8.1.1
  generalize hwd : gI M (c + 22 + 4 * d_z) 6 = w_z at *
  have hv1 : ∀ i_z, 0 ≤ i_z → i_z < w_z → NV (gL (uI M (c + 22 + 4 * d_z) 5 (tk + 1)) (c + 22 + 4 * d_z + 1) i_z) ∨ fd (gL (uI M (c + 22 + 4 * d_z) 5 (tk + 1)) (c + 22 + 4 * d_z + 1) i_z) = 0 := fun i_z i0_z i1_z => by
    rcases (g6 i_z i0_z i1_z).2.2 with q_z | q_z
    · exact Or.inl q_z
    · exact Or.inr q_z.1
  have hg := hg (by omega)
  have nvb := hg 1 (by omega) (by rw [nd]; omega)
  have nva := hg 0 (by omega) (by rw [nd]; omega)
  rw [Int.sub_zero] at nva
  rw [show w_z - 1 - 1 = w_z - 2 from by omega] at nvb
  generalize ha_z : gL M (c + 22 + 4 * d_z + 1) (w_z - 1) = va at *
  generalize hv : gL M (c + 22 + 4 * d_z + 1) (w_z - 2) = vb at *
  have hP0 := fun qq => X_peek (G := G) (Q := qq) (x_z := 0) f2_z (by decide) (by omega) (by omega)
  have hP1 := fun qq => X_peek (G := G) (Q := qq) (x_z := 1) f2_z (by decide) (by omega) (by omega)
  have hR := fun qq => X_remove (G := G) (Q := qq) (x_z := 2) f2_z (by decide) (by omega) (by omega)
  rw [ew, Int.sub_zero] at hP0
  rw [ew, show w_z - 1 - 1 = w_z - 2 from by omega] at hP1
  rw [ew] at hR
  have ha' : gL (uI M (c + 22 + 4 * d_z) 5 (tk + 1)) (c + 22 + 4 * d_z + 1) (w_z - 1) = va := ha_z
  have hv' : gL (uI M (c + 22 + 4 * d_z) 5 (tk + 1)) (c + 22 + 4 * d_z + 1) (w_z - 2) = vb := hv
  rw [ha'] at hP0
  rw [hv'] at hP1
  have f3_z : ShFr (uI (uI M (c + 22 + 4 * d_z) 5 (tk + 1)) (c + 22 + 4 * d_z) 6 (w_z - 2)) (c + 22 + 4 * d_z) := f2_z
  have z3 : gI (uI (uI M (c + 22 + 4 * d_z) 5 (tk + 1)) (c + 22 + 4 * d_z) 6 (w_z - 2)) (c + 22 + 4 * d_z) 6 = w_z - 2 := rI_at
  have n25_z : G.2 (3 + k_z) = G.2 25 ↔ k_z = 22 := ⟨fun q_z => r3.inj (by omega) (by decide) (show G.2 (3 + k_z) = G.2 (3 + 22) from q_z), fun q_z => by subst q_z; rfl⟩
  have hNu := fun qq => X_numerator (G := G) (Q := qq) (M := uI M (c + 22 + 4 * d_z) 5 (tk + 1)) (p_z := va) ⟨by have := nva.1; omega, by have := nva.2.1; omega⟩
  -- the operands in the model
  have mod : ∀ T', Rel G M T' c s m E_z → ShM T' m ∧ gI T' m 36 = (d_z : Int) ∧ gI T' (m + 19) d_z = w_z ∧ gI T' m 49 ≠ gI T' (m + 1) 1215 ∧ gI T' (m + 20) (16 * d_z + w_z - 1) = fu va ∧ gI T' (m + 21) (16 * d_z + w_z - 1) = fd va ∧ gI T' (m + 20) (16 * d_z + w_z - 2) = fu vb ∧ gI T' (m + 21) (16 * d_z + w_z - 2) = fd vb ∧ (∀ qq : Option AV → Mem → Prop, qq (some (a_i 1)) T' → Call G J_M_areOperands [a_r m, a_i (k_z : Int)] T' qq) ∧ ∀ i_z : Int, 0 ≤ i_z → i_z < w_z → OpR (gI T' (m + 20) (16 * d_z + i_z)) (gI T' (m + 21) (16 * d_z + i_z)) (gL M (c + 22 + 4 * d_z + 1) i_z) := by
    intro T' h'
    obtain ⟨k1_z, k2_z, k3_z, -, -, k6_z⟩ := h'.opn hd_z
    obtain ⟨q1_z, q2_z, q3_z, -, q8_z, q9_z, -⟩ := h'
    have hb' : gI T' m 49 ≠ gI T' (m + 1) 1215 := by
      have := q9_z.1
      have := q8_z.2.2.2.2.2.2.1
      omega
    rw [hwd] at k3_z k6_z
    have oa := k6_z (w_z - 1) (by omega) (by omega)
    have ob_z := k6_z (w_z - 2) (by omega) (by omega)
    rw [ha_z, show (16 : Int) * d_z + (w_z - 1) = 16 * d_z + w_z - 1 from by omega] at oa
    rw [hv, show (16 : Int) * d_z + (w_z - 2) = 16 * d_z + w_z - 2 from by omega] at ob_z
    refine ⟨q2_z, k2_z, k3_z, hb', oa.1, oa.2.1, ob_z.1, ob_z.2.1, fun qq hqq => X_areOpsN q2_z k2_z k3_z (by omega) (by omega) w0_z w1_z (by omega) (by omega) (by omega) (by rw [nd]; exact hw) (fun z_z hz => ?_), k6_z⟩
    rcases hz with ⟨z1, -⟩ | ⟨z1, i_z, i0_z, i1_z, hz⟩
    · rw [z1]
      exact hqq
    · rw [nd] at i1_z
      have := nva.2.2.1
      have := nvb.2.2.1
      by_cases ci : i_z = 0
      · subst ci
        rw [Int.sub_zero, oa.2.1] at hz
        omega
      · have : i_z = 1 := by omega
        subst this
        rw [show (16 : Int) * d_z + w_z - 1 - 1 = 16 * d_z + w_z - 2 from by omega, ob_z.2.1] at hz
        omega
  by_cases cz : k_z = 22 ∧ fu va = 0
  · obtain ⟨c22, cz⟩ := cz
    refine op_err h0 hd_z hx htk hp hn hlt (by omega) (by omega) hop i0_z i1_z (e_z := 5) (by decide) hEr (fun qq hqq => ?_) (fun T' h' qq hqq => ?_)
    · have hh := hqq _ (Ex.refl _ _)
      refine perf_go (k_z := k_z) hs1 ho1 r5_z hK4 f2_z (by omega) (by rw [e13_z, es6]; exact hb_z) ew w0_z w1_z hv1 (by rw [nd]; exact hw) (fun _ => hg) ?_
      refine sw19 ho1 hk4 ?_
      have e25_z := n25_z.mpr c22
      simp (disch := omega) only [B_86_253, hs1.1.u, E_Ma_calculate, B_126_0, f2_z.u, hP1, B_126_5, hP0, B_126_11, e25_z, hNu, cz, B_126_25, B_86_259, not_true_eq_false, inI, inL, isT, kInt, kByt, true_and, and_true, an_t, im_t, im_f, or_true, true_or, true_imp_iff, false_imp_iff, not_true_eq_false, not_false_eq_true, gK_uI, gK_uL, gK_uR, gK_uCI, gK_uCL, gN_uI, gN_uL, gN_uR, gN_uCI, gN_uCL, gR_uI, gR_uL, gR_uCI, gR_uCL, gI_uL, gI_uR, gI_uCL, gL_uI, gL_uR, gL_uCI, gz_uI, gz_uL, gz_uR, gz_uCI, gz_uCL, gs_uI, gs_uL, gs_uR, gs_uCI, gs_uCL, rI_at, rL_at, rR_at, rI_ne, rL_ne, rR_ne, rI_nk, rL_nk, rR_nk, rI_eq, rL_eq, rR_eq, Option.toList_some, Option.toList_none, List.cons_append, List.nil_append, List.append_nil, zc_eq, zc_lt, zc_le, zc_ge, zc_gt]
      all_goals exact hh
    · obtain ⟨m1_z, m2_z, m3_z, m4_z, m5_z, m6_z, m7_z, m8_z, m9_z, -⟩ := mod T' h'
      subst c22
      exact X_wrong22 m1_z m2_z m3_z g1 hw w1_z m4_z m9_z (fun _ => hqq T' (Sy.refl _ _)) (fun q_z => absurd (m5_z.trans cz) q_z)
  · have hz : k_z = 22 → fu va ≠ 0 := fun q_z z_z => cz ⟨q_z, z_z⟩
    have hrv := rv_op (how := (k_z : Int) - 19) nvb nva (fun q_z => hz (by omega)) ⟨by omega, by omega⟩
    have hA := fun (qq : Option AV → Mem → Prop) => X_apply (Q := qq) ho1 hk4 nvb nva hz
    -- the class, up to the value
    have cls_z : ∀ qq : Option AV → Mem → Prop, At G 126 37 [a_r c, a_r (G.2 (3 + k_z)), a_r (c + 22 + 4 * d_z), a_l vb, a_u, a_l va, a_u, a_u, a_u] [a_l (fop ((k_z : Int) - 19) vb va)] (uI M (c + 22 + 4 * d_z) 5 (tk + 1)) (fun r M2_z => At G 86 259 [a_r c, a_r (G.2 (3 + k_z)), a_r (c + 22 + 4 * d_z), a_i tk] r.toList M2_z qq) → Call G J_Ma_perform [a_r c, a_r (G.2 (3 + k_z)), a_r (c + 22 + 4 * d_z), a_i tk] (uI M (c + 22 + 4 * d_z) 5 (tk + 1)) qq := by
      intro qq hh
      refine perf_go (k_z := k_z) hs1 ho1 r5_z hK4 f2_z (by omega) (by rw [e13_z, es6]; exact hb_z) ew w0_z w1_z hv1 (by rw [nd]; exact hw) (fun _ => hg) ?_
      refine sw19 ho1 hk4 ?_
      by_cases c22 : k_z = 22
      · have e25_z := n25_z.mpr c22
        have z_z := hz c22
        simp (disch := omega) only [B_86_253, hs1.1.u, E_Ma_calculate, B_126_0, f2_z.u, hP1, B_126_5, hP0, B_126_11, e25_z, hNu, z_z, B_126_25, B_126_30, not_false_eq_true, inI, inL, isT, kInt, kByt, true_and, and_true, an_t, im_t, im_f, or_true, true_or, true_imp_iff, false_imp_iff, not_true_eq_false, not_false_eq_true, gK_uI, gK_uL, gK_uR, gK_uCI, gK_uCL, gN_uI, gN_uL, gN_uR, gN_uCI, gN_uCL, gR_uI, gR_uL, gR_uCI, gR_uCL, gI_uL, gI_uR, gI_uCL, gL_uI, gL_uR, gL_uCI, gz_uI, gz_uL, gz_uR, gz_uCI, gz_uCL, gs_uI, gs_uL, gs_uR, gs_uCI, gs_uCL, rI_at, rL_at, rR_at, rI_ne, rL_ne, rR_ne, rI_nk, rL_nk, rR_nk, rI_eq, rL_eq, rR_eq, Option.toList_some, Option.toList_none, List.cons_append, List.nil_append, List.append_nil, zc_eq, zc_lt, zc_le, zc_ge, zc_gt]
        rw [← e25_z]
        refine hA _ ?_
        simp only [Option.toList_some, Option.toList_none, List.cons_append, List.nil_append, List.append_nil]
        exact hh
      · have e25_z : ¬ G.2 (3 + k_z) = G.2 25 := fun q_z => c22 (n25_z.mp q_z)
        simp (disch := omega) only [B_86_253, hs1.1.u, E_Ma_calculate, B_126_0, f2_z.u, hP1, B_126_5, hP0, B_126_11, e25_z, B_126_30, not_false_eq_true, inI, inL, isT, kInt, kByt, true_and, and_true, an_t, im_t, im_f, or_true, true_or, true_imp_iff, false_imp_iff, not_true_eq_false, not_false_eq_true, gK_uI, gK_uL, gK_uR, gK_uCI, gK_uCL, gN_uI, gN_uL, gN_uR, gN_uCI, gN_uCL, gR_uI, gR_uL, gR_uCI, gR_uCL, gI_uL, gI_uR, gI_uCL, gL_uI, gL_uR, gL_uCI, gz_uI, gz_uL, gz_uR, gz_uCI, gz_uCL, gs_uI, gs_uL, gs_uR, gs_uCI, gs_uCL, rI_at, rL_at, rR_at, rI_ne, rL_ne, rR_ne, rI_nk, rL_nk, rR_nk, rI_eq, rL_eq, rR_eq, Option.toList_some, Option.toList_none, List.cons_append, List.nil_append, List.append_nil, zc_eq, zc_lt, zc_le, zc_ge, zc_gt]
        refine hA _ ?_
        simp only [Option.toList_some, Option.toList_none, List.cons_append, List.nil_append, List.append_nil]
        exact hh
    -- the model's check
    have chk_z : ∀ T', Rel G M T' c s m E_z → ∀ qq : Option AV → Mem → Prop, (∀ T1, Sy T' T1 m → A3 T1 m (fop ((k_z : Int) - 19) vb va) → (gI T1 m 16 = 1 → qq (some (a_i 6)) T1) ∧ (gI T1 m 16 = 0 → qq (some (a_i 0)) T1)) → Call G J_M_wrong [a_r m, a_i (k_z : Int)] T' qq := by
      intro T' h' qq hqq
      obtain ⟨m1_z, m2_z, m3_z, m4_z, m5_z, m6_z, m7_z, m8_z, m9_z, -⟩ := mod T' h'
      have hm0 : ShM (uI T' m 16 0) m := m1_z
      have too := X_tooC (G := G) (Q := fun q_z T1 => ∃ z_z : Int, q_z = some (a_i z_z) ∧ ShM T1 m ∧ (gI T1 m 16 = 0 ∨ gI T1 m 16 = 1) ∧ ((z_z ≠ 0 ∨ gI T1 m 16 = 1) → qq (some (a_i 6)) T1) ∧ (z_z = 0 → gI T1 m 16 = 0 → qq (some (a_i 0)) T1)) hm0 (by rw [rI_nk (by decide)]; exact m2_z) (by rw [rI_ne (by omega)]; exact m3_z) g1 hw w1_z hk4 rI_at nvb nva (by rw [rI_ne (by omega)]; exact m7_z) (by rw [rI_ne (by omega)]; exact m8_z) (by rw [rI_ne (by omega)]; exact m5_z) (by rw [rI_ne (by omega)]; exact m6_z) hz (fun T1 sy a3 => by
        have sy' := (sy_fl0 T' m).trans sy
        obtain ⟨q6_z, q0⟩ := hqq T1 sy' a3
        exact ⟨0, rfl, sy'.sh m1_z, a3.fl, fun q_z => q6_z (q_z.resolve_left (fun z_z => z_z rfl)), fun _ q_z => q0 q_z⟩)
      by_cases c22 : k_z = 22
      · subst c22
        exact X_wrong22 m1_z m2_z m3_z g1 hw w1_z m4_z m9_z (fun q_z => absurd (m5_z.symm.trans q_z) (hz rfl)) (fun _ => too)
      · exact X_wrongN m1_z (by omega) (by omega) (by omega) m4_z m9_z too
    generalize hval : fop ((k_z : Int) - 19) vb va = val_z at *
    rcases hrv with hrv | hrv
    · -- too great
      subst hrv
      refine op_err h0 hd_z hx htk hp hn hlt (by omega) (by omega) hop i0_z i1_z (e_z := 6) (by decide) hEr (fun qq hqq => cls_z qq ?_) (fun T' h' qq hqq => chk_z T' h' qq (fun T1 sy a3 => ⟨fun _ => hqq T1 sy, fun q_z => ?_⟩))
      · have hh := hqq _ (Ex.refl _ _)
        simp (disch := omega) only [B_126_37, X_isNum0, B_126_44, B_86_259, inI, inL, isT, kInt, kByt, true_and, and_true, an_t, im_t, im_f, or_true, true_or, true_imp_iff, false_imp_iff, not_true_eq_false, not_false_eq_true, gK_uI, gK_uL, gK_uR, gK_uCI, gK_uCL, gN_uI, gN_uL, gN_uR, gN_uCI, gN_uCL, gR_uI, gR_uL, gR_uCI, gR_uCL, gI_uL, gI_uR, gI_uCL, gL_uI, gL_uR, gL_uCI, gz_uI, gz_uL, gz_uR, gz_uCI, gz_uCL, gs_uI, gs_uL, gs_uR, gs_uCI, gs_uCL, rI_at, rL_at, rR_at, rI_ne, rL_ne, rR_ne, rI_nk, rL_nk, rR_nk, rI_eq, rL_eq, rR_eq, Option.toList_some, Option.toList_none, List.cons_append, List.nil_append, List.append_nil, zc_eq, zc_lt, zc_le, zc_ge, zc_gt]
        all_goals exact hh
      · rcases a3 with a3 | a3
        · exact absurd rfl (nv_ne a3.2.1)
        · omega
    · have hI := fun qq => X_isNum (G := G) (M := uI M (c + 22 + 4 * d_z) 5 (tk + 1)) (Q := qq) hrv
      have hU := fun qq => X_push (G := G) (Q := qq) (x_z := val_z) f3_z (by omega) (by omega)
      rw [z3, show w_z - 2 + 1 = w_z - 1 from by omega] at hU
      refine op_okN (w_z := w_z - 1) (Mp := uI (uL (uI (uI M (c + 22 + 4 * d_z) 5 (tk + 1)) (c + 22 + 4 * d_z) 6 (w_z - 2)) (c + 22 + 4 * d_z + 1) (w_z - 2) val_z) (c + 22 + 4 * d_z) 6 (w_z - 1)) (PT_z := fun T' T1 => A3 T1 m val_z) h0 hd_z hx htk hp hn hlt (by omega) (by omega) hop i0_z i1_z hb_z hN_z (fun qq hqq => cls_z qq ?_) (((((Ex.refl _ M).uI _ _ (by omega)).uI _ _ (by omega)).uL _ _ (by omega)).uI _ _ (by omega)) (by simp (disch := omega) only [gK_uI, gK_uL, gK_uR, gK_uCI, gK_uCL, gN_uI, gN_uL, gN_uR, gN_uCI, gN_uCL, gR_uI, gR_uL, gR_uCI, gR_uCL, gI_uL, gI_uR, gI_uCL, gL_uI, gL_uR, gL_uCI, gz_uI, gz_uL, gz_uR, gz_uCI, gz_uCL, gs_uI, gs_uL, gs_uR, gs_uCI, gs_uCL, rI_at, rL_at, rR_at, rI_ne, rL_ne, rR_ne, rI_nk, rL_nk, rR_nk, rI_eq, rL_eq, rR_eq]) (by simp (disch := omega) only [gK_uI, gK_uL, gK_uR, gK_uCI, gK_uCL, gN_uI, gN_uL, gN_uR, gN_uCI, gN_uCL, gR_uI, gR_uL, gR_uCI, gR_uCL, gI_uL, gI_uR, gI_uCL, gL_uI, gL_uR, gL_uCI, gz_uI, gz_uL, gz_uR, gz_uCI, gz_uCL, gs_uI, gs_uL, gs_uR, gs_uCI, gs_uCL, rI_at, rL_at, rR_at, rI_ne, rL_ne, rR_ne, rI_nk, rL_nk, rR_nk, rI_eq, rL_eq, rR_eq]) rI_at (by omega) (by omega) (by simp (disch := omega) only [gK_uI, gK_uL, gK_uR, gK_uCI, gK_uCL, gN_uI, gN_uL, gN_uR, gN_uCI, gN_uCL, gR_uI, gR_uL, gR_uCI, gR_uCL, gI_uL, gI_uR, gI_uCL, gL_uI, gL_uR, gL_uCI, gz_uI, gz_uL, gz_uR, gz_uCI, gz_uCL, gs_uI, gs_uL, gs_uR, gs_uCI, gs_uCL, rI_at, rL_at, rR_at, rI_ne, rL_ne, rR_ne, rI_nk, rL_nk, rR_nk, rI_eq, rL_eq, rR_eq]) (fun T' h' qq hqq => chk_z T' h' qq (fun T1 sy a3 => ⟨fun q_z => ?_, fun _ => hqq T1 sy a3⟩)) (fun T' h' T1 hy a3 => ?_)
      · simp (disch := omega) only [B_126_37, hI, B_126_44, B_126_50, f2_z.u, hR, B_126_55, f3_z.u, hU, B_126_61, B_86_259, inI, inL, isT, kInt, kByt, true_and, and_true, an_t, im_t, im_f, or_true, true_or, true_imp_iff, false_imp_iff, not_true_eq_false, not_false_eq_true, gK_uI, gK_uL, gK_uR, gK_uCI, gK_uCL, gN_uI, gN_uL, gN_uR, gN_uCI, gN_uCL, gR_uI, gR_uL, gR_uCI, gR_uCL, gI_uL, gI_uR, gI_uCL, gL_uI, gL_uR, gL_uCI, gz_uI, gz_uL, gz_uR, gz_uCI, gz_uCL, gs_uI, gs_uL, gs_uR, gs_uCI, gs_uCL, rI_at, rL_at, rR_at, rI_ne, rL_ne, rR_ne, rI_nk, rL_nk, rR_nk, rI_eq, rL_eq, rR_eq, Option.toList_some, Option.toList_none, List.cons_append, List.nil_append, List.append_nil, zc_eq, zc_lt, zc_le, zc_ge, zc_gt]
        all_goals exact hqq
      · rcases a3 with a3 | a3
        · omega
        · exact absurd a3.2.1 (nv_ne hrv)
      · obtain ⟨m1_z, m2_z, m3_z, m4_z, m5_z, m6_z, m7_z, m8_z, m9_z, k6_z⟩ := mod T' h'
        have a3' : gL T1 m 14 = fu val_z ∧ gL T1 m 15 = fd val_z := by
          rcases a3 with a3 | a3
          · exact a3.2.2
          · exact absurd a3.2.1 (nv_ne hrv)
        have ib : inI (fu val_z) ∧ inI (fd val_z) := ⟨⟨by have := hrv.1; omega, by have := hrv.2.1; omega⟩, ⟨by have := hrv.2.2.1; omega, by have := hrv.2.2.2; omega⟩⟩
        refine ⟨uI (uI (uI (uI (trcT T1 m (x_z - 1) tk d_z) (m + 19) d_z (w_z - 2)) (m + 19) d_z (w_z - 2 + 1)) (m + 20) (16 * d_z + (w_z - 2)) (fu val_z)) (m + 21) (16 * d_z + (w_z - 2)) (fd val_z), fun qq hqq => ?_, ((((Ex.refl _ _).uI _ _ (Or.inl rfl)).uI _ _ (Or.inl rfl)).uI _ _ (Or.inr (Or.inl rfl))).uI _ _ (Or.inr (Or.inr rfl)), ?_, fun l l0 l1 => ?_, fun i_z i0_z i1_z => ?_, fun i_z i0_z i1_z => ?_⟩
        · have hm2 : ShM (trcT T1 m (x_z - 1) tk d_z) m := hy.sh m1_z
          have e36 : gI (trcT T1 m (x_z - 1) tk d_z) m 36 = (d_z : Int) := by
            rw [trc_f _ (by decide), hy.fld (by decide)]
            exact m2_z
          have e19_z : gI (trcT T1 m (x_z - 1) tk d_z) (m + 19) d_z = w_z := by
            rw [trc_r (by omega) (by omega), hy.row (by omega) (by omega) (by omega) (by omega)]
            exact m3_z
          have e14_z : gL (trcT T1 m (x_z - 1) tk d_z) m 14 = fu val_z := a3'.1
          have e15_z : gL (trcT T1 m (x_z - 1) tk d_z) m 15 = fd val_z := a3'.2
          exact X_doesC hm2 e36 e19_z g1 hw w1_z hk4 e14_z e15_z ib.1 ib.2 hqq
        · rw [rI_ne (by omega), rI_ne (by omega), rI_at]
          omega
        · rw [rI_ne (by omega), rI_ne (by omega), rI_nk (by omega), rI_nk (by omega), trc_r (by omega) (by omega), hy.row (by omega) (by omega) (by omega) (by omega)]
        · simp (disch := omega) only [gK_uI, gK_uL, gK_uR, gK_uCI, gK_uCL, gN_uI, gN_uL, gN_uR, gN_uCI, gN_uCL, gR_uI, gR_uL, gR_uCI, gR_uCL, gI_uL, gI_uR, gI_uCL, gL_uI, gL_uR, gL_uCI, gz_uI, gz_uL, gz_uR, gz_uCI, gz_uCL, gs_uI, gs_uL, gs_uR, gs_uCI, gs_uCL, rI_at, rL_at, rR_at, rI_ne, rL_ne, rR_ne, rI_nk, rL_nk, rR_nk, rI_eq, rL_eq, rR_eq]
          rw [trc_r (by omega) (by omega), trc_r (by omega) (by omega), hy.row (by omega) (by omega) (by omega) (by omega), hy.row (by omega) (by omega) (by omega) (by omega)]
          exact ⟨rfl, rfl⟩
        · by_cases ci : i_z = w_z - 2
          · subst ci
            simp (disch := omega) only [gK_uI, gK_uL, gK_uR, gK_uCI, gK_uCL, gN_uI, gN_uL, gN_uR, gN_uCI, gN_uCL, gR_uI, gR_uL, gR_uCI, gR_uCL, gI_uL, gI_uR, gI_uCL, gL_uI, gL_uR, gL_uCI, gz_uI, gz_uL, gz_uR, gz_uCI, gz_uCL, gs_uI, gs_uL, gs_uR, gs_uCI, gs_uCL, rI_at, rL_at, rR_at, rI_ne, rL_ne, rR_ne, rI_nk, rL_nk, rR_nk, rI_eq, rL_eq, rR_eq]
            exact ⟨rfl, rfl, Or.inl hrv⟩
          · simp (disch := omega) only [gK_uI, gK_uL, gK_uR, gK_uCI, gK_uCL, gN_uI, gN_uL, gN_uR, gN_uCI, gN_uCL, gR_uI, gR_uL, gR_uCI, gR_uCL, gI_uL, gI_uR, gI_uCL, gL_uI, gL_uR, gL_uCI, gz_uI, gz_uL, gz_uR, gz_uCI, gz_uCL, gs_uI, gs_uL, gs_uR, gs_uCI, gs_uCL, rI_at, rL_at, rR_at, rI_ne, rL_ne, rR_ne, rI_nk, rL_nk, rR_nk, rI_eq, rL_eq, rR_eq]
            rw [trc_r (by omega) (by omega), trc_r (by omega) (by omega), hy.row (by omega) (by omega) (by omega) (by omega), hy.row (by omega) (by omega) (by omega) (by omega)]
            exact k6_z i_z i0_z (by omega)
end EB
