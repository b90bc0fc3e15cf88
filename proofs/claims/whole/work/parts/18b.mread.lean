/-! THE PURE PART, part 18: where a token ends, in the model. Own work. -/
/-- the model at m holds the text t of length L -/
def RdM (T : Mem) (m : Nat) (t : Int → Int) (L : Int) : Prop := ShM T m ∧ gI T m 4 = L ∧ 0 ≤ L ∧ L ≤ 160 ∧ ∀ i_z : Int, 0 ≤ i_z → i_z < L → gI T (m + 3) i_z = t i_z
/-- the same but for the model's places in its text -/
def Fq (m : Nat) (T T' : Mem) : Prop := gK T' = gK T ∧ gN T' = gN T ∧ gR T' = gR T ∧ gL T' = gL T ∧ gz T' = gz T ∧ gs T' = gs T ∧ (∀ r_z : Nat, r_z ≠ m → gI T' r_z = gI T r_z) ∧ ∀ k_z : Int, k_z ≠ 5 → k_z ≠ 6 → k_z ≠ 7 → gI T' m k_z = gI T m k_z
theorem Fq.refl (m : Nat) (T : Mem) : Fq m T T := ⟨rfl, rfl, rfl, rfl, rfl, rfl, fun _ _ => rfl, fun _ _ _ _ => rfl⟩
theorem Fq.trans {m : Nat} {T T' T'' : Mem} (h_z : Fq m T T') (h2 : Fq m T' T'') : Fq m T T'' := by
  obtain ⟨a1_z, a2, a3, a4, a5, a6, a7, a8⟩ := h_z
  obtain ⟨b1, b2, b3, b4, b5, b6, b7, b8⟩ := h2
  exact ⟨b1.trans a1_z, b2.trans a2, b3.trans a3, b4.trans a4, b5.trans a5, b6.trans a6, fun r_z q_z => (b7 r_z q_z).trans (a7 r_z q_z), fun k_z q1_z q2_z q3_z => (b8 k_z q1_z q2_z q3_z).trans (a8 k_z q1_z q2_z q3_z)⟩
theorem Fq.uI {m : Nat} {T T' : Mem} (h_z : Fq m T T') (k_z v_z : Int) (hk : k_z = 5 ∨ k_z = 6 ∨ k_z = 7) : Fq m T (uI T' m k_z v_z) := by
  obtain ⟨a1_z, a2, a3, a4, a5, a6, a7, a8⟩ := h_z
  exact ⟨a1_z, a2, a3, a4, a5, a6, fun r_z q_z => by rw [rI_ne q_z]; exact a7 r_z q_z, fun j_z q1_z q2_z q3_z => by rw [rI_nk (by omega)]; exact a8 j_z q1_z q2_z q3_z⟩
theorem RdM.fq {m : Nat} {T T' : Mem} {t : Int → Int} {L : Int} (h_z : RdM T m t L) (f_z : Fq m T T') : RdM T' m t L := by
  obtain ⟨h1, h2, h3, h4, h5⟩ := h_z
  obtain ⟨a1_z, a2, a3, a4, a5, a6, a7, a8⟩ := f_z
  refine ⟨?_, by rw [a8 4 (by decide) (by decide) (by decide)]; exact h2, h3, h4, fun i_z i0_z i1_z => by rw [a7 _ (by omega)]; exact h5 i_z i0_z i1_z⟩
  unfold ShM ShMx
  rw [a1_z, a2, a3]
  exact h1
section EB
variable {G : Env0} {Q : Option AV → Mem → Prop} {T : Mem} {m : Nat} {t : Int → Int} {L : Int}
theorem X_numM {x_z : Int} (h_z : RdM T m t L) (x0_z : 0 ≤ x_z) : Call G J_M_isNumeral [a_r m, a_i x_z] T Q ↔ Q (some (a_i (nmI t L x_z))) T := by
  obtain ⟨sm_z, h4, l0, l1, ht⟩ := h_z
  by_cases c0_z : L ≤ x_z
  · rw [nmI_out c0_z]
    simp (disch := omega) only [E_M_isNumeral, B_174_0, sm_z.u, h4, B_174_50, B_174_51, inI, inL, isT, kInt, kByt, true_and, and_true, an_t, im_t, im_f, or_true, true_or, true_imp_iff, false_imp_iff, not_true_eq_false, not_false_eq_true, gK_uI, gK_uL, gK_uR, gK_uCI, gK_uCL, gN_uI, gN_uL, gN_uR, gN_uCI, gN_uCL, gR_uI, gR_uL, gR_uCI, gR_uCL, gI_uL, gI_uR, gI_uCL, gL_uI, gL_uR, gL_uCI, gz_uI, gz_uL, gz_uR, gz_uCI, gz_uCL, gs_uI, gs_uL, gs_uR, gs_uCI, gs_uCL, rI_at, rL_at, rR_at, rI_ne, rL_ne, rR_ne, rI_nk, rL_nk, rR_nk, rI_eq, rL_eq, rR_eq, Option.toList_some, Option.toList_none, List.cons_append, List.nil_append, List.append_nil, zc_eq, zc_lt, zc_le, zc_ge, zc_gt]
  · have tx := ht x_z x0_z (by omega)
    unfold nmI
    rw [sg_in ⟨x0_z, by omega⟩]
    generalize t x_z = v_z at *
    have d1_z := fun qq => Y_in (G := G) (M := T) (Q := qq) (x_z := v_z) (y_z := 48) (w_z := 57)
    by_cases c1_z : 48 ≤ v_z ∧ v_z ≤ 57
    · rw [zB_t c1_z] at d1_z
      rw [zB_t (Or.inl c1_z)]
      simp (disch := omega) only [E_M_isNumeral, B_174_0, sm_z.u, h4, tx, d1_z, B_174_21, B_174_46, B_174_51, inI, inL, isT, kInt, kByt, true_and, and_true, an_t, im_t, im_f, or_true, true_or, true_imp_iff, false_imp_iff, not_true_eq_false, not_false_eq_true, gK_uI, gK_uL, gK_uR, gK_uCI, gK_uCL, gN_uI, gN_uL, gN_uR, gN_uCI, gN_uCL, gR_uI, gR_uL, gR_uCI, gR_uCL, gI_uL, gI_uR, gI_uCL, gL_uI, gL_uR, gL_uCI, gz_uI, gz_uL, gz_uR, gz_uCI, gz_uCL, gs_uI, gs_uL, gs_uR, gs_uCI, gs_uCL, rI_at, rL_at, rR_at, rI_ne, rL_ne, rR_ne, rI_nk, rL_nk, rR_nk, rI_eq, rL_eq, rR_eq, Option.toList_some, Option.toList_none, List.cons_append, List.nil_append, List.append_nil, zc_eq, zc_lt, zc_le, zc_ge, zc_gt]
    · rw [zB_f c1_z] at d1_z
      by_cases c2_z : v_z = 45
      · rw [zB_t (Or.inr (Or.inl c2_z))]
        subst c2_z
        simp (disch := omega) only [E_M_isNumeral, B_174_0, sm_z.u, h4, tx, d1_z, B_174_21, not_true_eq_false, B_174_46, B_174_51, inI, inL, isT, kInt, kByt, true_and, and_true, an_t, im_t, im_f, or_true, true_or, true_imp_iff, false_imp_iff, not_true_eq_false, not_false_eq_true, gK_uI, gK_uL, gK_uR, gK_uCI, gK_uCL, gN_uI, gN_uL, gN_uR, gN_uCI, gN_uCL, gR_uI, gR_uL, gR_uCI, gR_uCL, gI_uL, gI_uR, gI_uCL, gL_uI, gL_uR, gL_uCI, gz_uI, gz_uL, gz_uR, gz_uCI, gz_uCL, gs_uI, gs_uL, gs_uR, gs_uCI, gs_uCL, rI_at, rL_at, rR_at, rI_ne, rL_ne, rR_ne, rI_nk, rL_nk, rR_nk, rI_eq, rL_eq, rR_eq, Option.toList_some, Option.toList_none, List.cons_append, List.nil_append, List.append_nil, zc_eq, zc_lt, zc_le, zc_ge, zc_gt]
      · by_cases c3_z : v_z = 47
        · rw [zB_t (Or.inr (Or.inr c3_z))]
          subst c3_z
          simp (disch := omega) only [E_M_isNumeral, B_174_0, sm_z.u, h4, tx, d1_z, B_174_21, not_true_eq_false, B_174_46, B_174_51, inI, inL, isT, kInt, kByt, true_and, and_true, an_t, im_t, im_f, or_true, true_or, true_imp_iff, false_imp_iff, not_true_eq_false, not_false_eq_true, gK_uI, gK_uL, gK_uR, gK_uCI, gK_uCL, gN_uI, gN_uL, gN_uR, gN_uCI, gN_uCL, gR_uI, gR_uL, gR_uCI, gR_uCL, gI_uL, gI_uR, gI_uCL, gL_uI, gL_uR, gL_uCI, gz_uI, gz_uL, gz_uR, gz_uCI, gz_uCL, gs_uI, gs_uL, gs_uR, gs_uCI, gs_uCL, rI_at, rL_at, rR_at, rI_ne, rL_ne, rR_ne, rI_nk, rL_nk, rR_nk, rI_eq, rL_eq, rR_eq, Option.toList_some, Option.toList_none, List.cons_append, List.nil_append, List.append_nil, zc_eq, zc_lt, zc_le, zc_ge, zc_gt]
        · rw [zB_f (by omega)]
          simp (disch := omega) only [E_M_isNumeral, B_174_0, sm_z.u, h4, tx, d1_z, B_174_21, not_true_eq_false, c2_z, c3_z, not_false_eq_true, B_174_50, B_174_51, inI, inL, isT, kInt, kByt, true_and, and_true, an_t, im_t, im_f, or_true, true_or, true_imp_iff, false_imp_iff, not_true_eq_false, not_false_eq_true, gK_uI, gK_uL, gK_uR, gK_uCI, gK_uCL, gN_uI, gN_uL, gN_uR, gN_uCI, gN_uCL, gR_uI, gR_uL, gR_uCI, gR_uCL, gI_uL, gI_uR, gI_uCL, gL_uI, gL_uR, gL_uCI, gz_uI, gz_uL, gz_uR, gz_uCI, gz_uCL, gs_uI, gs_uL, gs_uR, gs_uCI, gs_uCL, rI_at, rL_at, rR_at, rI_ne, rL_ne, rR_ne, rI_nk, rL_nk, rR_nk, rI_eq, rL_eq, rR_eq, Option.toList_some, Option.toList_none, List.cons_append, List.nil_append, List.append_nil, zc_eq, zc_lt, zc_le, zc_ge, zc_gt]
theorem X_letM {x_z : Int} (h_z : RdM T m t L) (x0_z : 0 ≤ x_z) : Call G J_M_isLetter [a_r m, a_i x_z] T Q ↔ Q (some (a_i (ltI t L x_z))) T := by
  obtain ⟨sm_z, h4, l0, l1, ht⟩ := h_z
  by_cases c0_z : L ≤ x_z
  · rw [ltI_out c0_z]
    simp (disch := omega) only [E_M_isLetter, B_178_0, sm_z.u, h4, B_178_28, B_178_29, inI, inL, isT, kInt, kByt, true_and, and_true, an_t, im_t, im_f, or_true, true_or, true_imp_iff, false_imp_iff, not_true_eq_false, not_false_eq_true, gK_uI, gK_uL, gK_uR, gK_uCI, gK_uCL, gN_uI, gN_uL, gN_uR, gN_uCI, gN_uCL, gR_uI, gR_uL, gR_uCI, gR_uCL, gI_uL, gI_uR, gI_uCL, gL_uI, gL_uR, gL_uCI, gz_uI, gz_uL, gz_uR, gz_uCI, gz_uCL, gs_uI, gs_uL, gs_uR, gs_uCI, gs_uCL, rI_at, rL_at, rR_at, rI_ne, rL_ne, rR_ne, rI_nk, rL_nk, rR_nk, rI_eq, rL_eq, rR_eq, Option.toList_some, Option.toList_none, List.cons_append, List.nil_append, List.append_nil, zc_eq, zc_lt, zc_le, zc_ge, zc_gt]
  · have tx := ht x_z x0_z (by omega)
    unfold ltI
    rw [sg_in ⟨x0_z, by omega⟩]
    generalize t x_z = v_z at *
    have d1_z := fun qq => Y_in (G := G) (M := T) (Q := qq) (x_z := v_z) (y_z := 97) (w_z := 122)
    by_cases c1_z : 97 ≤ v_z ∧ v_z ≤ 122
    · rw [zB_t c1_z] at d1_z ⊢
      simp (disch := omega) only [E_M_isLetter, B_178_0, sm_z.u, h4, tx, d1_z, B_178_21, B_178_29, inI, inL, isT, kInt, kByt, true_and, and_true, an_t, im_t, im_f, or_true, true_or, true_imp_iff, false_imp_iff, not_true_eq_false, not_false_eq_true, gK_uI, gK_uL, gK_uR, gK_uCI, gK_uCL, gN_uI, gN_uL, gN_uR, gN_uCI, gN_uCL, gR_uI, gR_uL, gR_uCI, gR_uCL, gI_uL, gI_uR, gI_uCL, gL_uI, gL_uR, gL_uCI, gz_uI, gz_uL, gz_uR, gz_uCI, gz_uCL, gs_uI, gs_uL, gs_uR, gs_uCI, gs_uCL, rI_at, rL_at, rR_at, rI_ne, rL_ne, rR_ne, rI_nk, rL_nk, rR_nk, rI_eq, rL_eq, rR_eq, Option.toList_some, Option.toList_none, List.cons_append, List.nil_append, List.append_nil, zc_eq, zc_lt, zc_le, zc_ge, zc_gt]
    · rw [zB_f c1_z] at d1_z ⊢
      simp (disch := omega) only [E_M_isLetter, B_178_0, sm_z.u, h4, tx, d1_z, B_178_21, B_178_28, B_178_29, inI, inL, isT, kInt, kByt, true_and, and_true, an_t, im_t, im_f, or_true, true_or, true_imp_iff, false_imp_iff, not_true_eq_false, not_false_eq_true, gK_uI, gK_uL, gK_uR, gK_uCI, gK_uCL, gN_uI, gN_uL, gN_uR, gN_uCI, gN_uCL, gR_uI, gR_uL, gR_uCI, gR_uCL, gI_uL, gI_uR, gI_uCL, gL_uI, gL_uR, gL_uCI, gz_uI, gz_uL, gz_uR, gz_uCI, gz_uCL, gs_uI, gs_uL, gs_uR, gs_uCI, gs_uCL, rI_at, rL_at, rR_at, rI_ne, rL_ne, rR_ne, rI_nk, rL_nk, rR_nk, rI_eq, rL_eq, rR_eq, Option.toList_some, Option.toList_none, List.cons_append, List.nil_append, List.append_nil, zc_eq, zc_lt, zc_le, zc_ge, zc_gt]
theorem X_digM {x_z w_z e_z : Int} (h_z : RdM T m t L) (he : gI T m 6 = e_z) (e1_z : e_z ≤ L) (x0_z : 0 ≤ x_z) (w0_z : 0 ≤ w_z) (w1_z : w_z ≤ 9) : Call G J_M_isDigit [a_r m, a_i x_z, a_i w_z] T Q ↔ Q (some (a_i (zB (x_z < e_z ∧ 48 + w_z ≤ t x_z ∧ t x_z ≤ 57)))) T := by
  obtain ⟨sm_z, h4, l0, l1, ht⟩ := h_z
  by_cases c0_z : e_z ≤ x_z
  · rw [zB_f (by omega)]
    simp (disch := omega) only [E_M_isDigit, B_176_0, sm_z.u, he, B_176_30, B_176_31, inI, inL, isT, kInt, kByt, true_and, and_true, an_t, im_t, im_f, or_true, true_or, true_imp_iff, false_imp_iff, not_true_eq_false, not_false_eq_true, gK_uI, gK_uL, gK_uR, gK_uCI, gK_uCL, gN_uI, gN_uL, gN_uR, gN_uCI, gN_uCL, gR_uI, gR_uL, gR_uCI, gR_uCL, gI_uL, gI_uR, gI_uCL, gL_uI, gL_uR, gL_uCI, gz_uI, gz_uL, gz_uR, gz_uCI, gz_uCL, gs_uI, gs_uL, gs_uR, gs_uCI, gs_uCL, rI_at, rL_at, rR_at, rI_ne, rL_ne, rR_ne, rI_nk, rL_nk, rR_nk, rI_eq, rL_eq, rR_eq, Option.toList_some, Option.toList_none, List.cons_append, List.nil_append, List.append_nil, zc_eq, zc_lt, zc_le, zc_ge, zc_gt]
  · have tx := ht x_z x0_z (by omega)
    generalize t x_z = v_z at *
    have d1_z := fun qq => Y_in (G := G) (M := T) (Q := qq) (x_z := v_z) (y_z := 48 + w_z) (w_z := 57)
    by_cases c1_z : 48 + w_z ≤ v_z ∧ v_z ≤ 57
    · rw [zB_t c1_z] at d1_z
      rw [zB_t ⟨by omega, c1_z⟩]
      simp (disch := omega) only [E_M_isDigit, B_176_0, sm_z.u, he, tx, d1_z, B_176_23, B_176_31, inI, inL, isT, kInt, kByt, true_and, and_true, an_t, im_t, im_f, or_true, true_or, true_imp_iff, false_imp_iff, not_true_eq_false, not_false_eq_true, gK_uI, gK_uL, gK_uR, gK_uCI, gK_uCL, gN_uI, gN_uL, gN_uR, gN_uCI, gN_uCL, gR_uI, gR_uL, gR_uCI, gR_uCL, gI_uL, gI_uR, gI_uCL, gL_uI, gL_uR, gL_uCI, gz_uI, gz_uL, gz_uR, gz_uCI, gz_uCL, gs_uI, gs_uL, gs_uR, gs_uCI, gs_uCL, rI_at, rL_at, rR_at, rI_ne, rL_ne, rR_ne, rI_nk, rL_nk, rR_nk, rI_eq, rL_eq, rR_eq, Option.toList_some, Option.toList_none, List.cons_append, List.nil_append, List.append_nil, zc_eq, zc_lt, zc_le, zc_ge, zc_gt]
    · rw [zB_f c1_z] at d1_z
      rw [zB_f (fun q_z => c1_z q_z.2)]
      simp (disch := omega) only [E_M_isDigit, B_176_0, sm_z.u, he, tx, d1_z, B_176_23, B_176_30, B_176_31, inI, inL, isT, kInt, kByt, true_and, and_true, an_t, im_t, im_f, or_true, true_or, true_imp_iff, false_imp_iff, not_true_eq_false, not_false_eq_true, gK_uI, gK_uL, gK_uR, gK_uCI, gK_uCL, gN_uI, gN_uL, gN_uR, gN_uCI, gN_uCL, gR_uI, gR_uL, gR_uCI, gR_uCL, gI_uL, gI_uR, gI_uCL, gL_uI, gL_uR, gL_uCI, gz_uI, gz_uL, gz_uR, gz_uCI, gz_uCL, gs_uI, gs_uL, gs_uR, gs_uCI, gs_uCL, rI_at, rL_at, rR_at, rI_ne, rL_ne, rR_ne, rI_nk, rL_nk, rR_nk, rI_eq, rL_eq, rR_eq, Option.toList_some, Option.toList_none, List.cons_append, List.nil_append, List.append_nil, zc_eq, zc_lt, zc_le, zc_ge, zc_gt]
/-- spaces -/
theorem skM : ∀ (d_z : Nat) (T : Mem) (y_z : Int), RdM T m t L → y_z + d_z = L → 0 ≤ y_z → gI T m 6 = y_z → (∀ T', Fq m T T' → gI T' m 6 = rnE (spI t L) d_z y_z → At G 173 38 [a_r m, a_u, a_u] [] T' Q) → At G 173 0 [a_r m, a_u, a_u] [] T Q := by
  intro d_z
  induction d_z with
  | zero =>
    intro T y_z h_z hy y0 h6 hq
    have hq2 := hq T (Fq.refl _ _) h6
    obtain ⟨sm_z, h4, l0, l1, ht⟩ := h_z
    rw [B_173_0]
    simp (disch := omega) only [sm_z.u, h4, h6, inI, inL, isT, kInt, kByt, true_and, and_true, an_t, im_t, im_f, or_true, true_or, true_imp_iff, false_imp_iff, not_true_eq_false, not_false_eq_true, gK_uI, gK_uL, gK_uR, gK_uCI, gK_uCL, gN_uI, gN_uL, gN_uR, gN_uCI, gN_uCL, gR_uI, gR_uL, gR_uCI, gR_uCL, gI_uL, gI_uR, gI_uCL, gL_uI, gL_uR, gL_uCI, gz_uI, gz_uL, gz_uR, gz_uCI, gz_uCL, gs_uI, gs_uL, gs_uR, gs_uCI, gs_uCL, rI_at, rL_at, rR_at, rI_ne, rL_ne, rR_ne, rI_nk, rL_nk, rR_nk, rI_eq, rL_eq, rR_eq, Option.toList_some, Option.toList_none, List.cons_append, List.nil_append, List.append_nil, zc_eq, zc_lt, zc_le, zc_ge, zc_gt]
    all_goals exact hq2
  | succ d_z ih_z =>
    intro T y_z h_z hy y0 h6 hq
    have e_z : rnE (spI t L) (d_z + 1) y_z = if spI t L y_z = 0 then y_z else rnE (spI t L) d_z (y_z + 1) := rfl
    rw [e_z] at hq
    obtain ⟨sm_z, h4, l0, l1, ht⟩ := id h_z
    have ty_z := ht y_z y0 (by omega)
    unfold spI at hq
    rw [sg_in ⟨y0, by omega⟩] at hq
    rw [B_173_0]
    by_cases c_z : t y_z = 32
    · rw [zB_t c_z, if_neg (by decide)] at hq
      have f1_z : Fq m T (uI T m 6 (y_z + 1)) := (Fq.refl _ _).uI 6 (y_z + 1) (by omega)
      have go_z := ih_z (uI T m 6 (y_z + 1)) (y_z + 1) (h_z.fq f1_z) (by omega) (by omega) rI_at (fun T' f2_z h2 => hq T' (f1_z.trans f2_z) h2)
      simp (disch := omega) only [sm_z.u, h4, h6, ty_z, c_z, not_true_eq_false, inI, inL, isT, kInt, kByt, true_and, and_true, an_t, im_t, im_f, or_true, true_or, true_imp_iff, false_imp_iff, not_true_eq_false, not_false_eq_true, gK_uI, gK_uL, gK_uR, gK_uCI, gK_uCL, gN_uI, gN_uL, gN_uR, gN_uCI, gN_uCL, gR_uI, gR_uL, gR_uCI, gR_uCL, gI_uL, gI_uR, gI_uCL, gL_uI, gL_uR, gL_uCI, gz_uI, gz_uL, gz_uR, gz_uCI, gz_uCL, gs_uI, gs_uL, gs_uR, gs_uCI, gs_uCL, rI_at, rL_at, rR_at, rI_ne, rL_ne, rR_ne, rI_nk, rL_nk, rR_nk, rI_eq, rL_eq, rR_eq, Option.toList_some, Option.toList_none, List.cons_append, List.nil_append, List.append_nil, zc_eq, zc_lt, zc_le, zc_ge, zc_gt]
      all_goals exact go_z
    · rw [zB_f c_z, if_pos rfl] at hq
      have go_z := hq T (Fq.refl _ _) h6
      simp (disch := omega) only [sm_z.u, h4, h6, ty_z, c_z, not_false_eq_true, inI, inL, isT, kInt, kByt, true_and, and_true, an_t, im_t, im_f, or_true, true_or, true_imp_iff, false_imp_iff, not_true_eq_false, not_false_eq_true, gK_uI, gK_uL, gK_uR, gK_uCI, gK_uCL, gN_uI, gN_uL, gN_uR, gN_uCI, gN_uCL, gR_uI, gR_uL, gR_uCI, gR_uCL, gI_uL, gI_uR, gI_uCL, gL_uI, gL_uR, gL_uCI, gz_uI, gz_uL, gz_uR, gz_uCI, gz_uCL, gs_uI, gs_uL, gs_uR, gs_uCI, gs_uCL, rI_at, rL_at, rR_at, rI_ne, rL_ne, rR_ne, rI_nk, rL_nk, rR_nk, rI_eq, rL_eq, rR_eq, Option.toList_some, Option.toList_none, List.cons_append, List.nil_append, List.append_nil, zc_eq, zc_lt, zc_le, zc_ge, zc_gt]
      all_goals exact go_z
/-- number signs -/
theorem nuM : ∀ (d_z : Nat) (T : Mem) (y_z : Int), RdM T m t L → y_z + d_z = L → 0 ≤ y_z → gI T m 6 = y_z → (∀ T', Fq m T T' → gI T' m 6 = rnE (nmI t L) d_z y_z → gI T' m 5 = gI T m 5 → At G 173 94 [a_r m, a_u, a_u] [] T' Q) → At G 173 70 [a_r m, a_u, a_u] [] T Q := by
  intro d_z
  induction d_z with
  | zero =>
    intro T y_z h_z hy y0 h6 hq
    have hq2 := hq T (Fq.refl _ _) h6 rfl
    have nm := fun qq => X_numM (G := G) (Q := qq) h_z y0
    rw [nmI_out (by omega)] at nm
    have sm_z := h_z.1
    simp (disch := omega) only [B_173_70, sm_z.u, h6, nm, B_173_78, inI, inL, isT, kInt, kByt, true_and, and_true, an_t, im_t, im_f, or_true, true_or, true_imp_iff, false_imp_iff, not_true_eq_false, not_false_eq_true, gK_uI, gK_uL, gK_uR, gK_uCI, gK_uCL, gN_uI, gN_uL, gN_uR, gN_uCI, gN_uCL, gR_uI, gR_uL, gR_uCI, gR_uCL, gI_uL, gI_uR, gI_uCL, gL_uI, gL_uR, gL_uCI, gz_uI, gz_uL, gz_uR, gz_uCI, gz_uCL, gs_uI, gs_uL, gs_uR, gs_uCI, gs_uCL, rI_at, rL_at, rR_at, rI_ne, rL_ne, rR_ne, rI_nk, rL_nk, rR_nk, rI_eq, rL_eq, rR_eq, Option.toList_some, Option.toList_none, List.cons_append, List.nil_append, List.append_nil, zc_eq, zc_lt, zc_le, zc_ge, zc_gt]
    all_goals exact hq2
  | succ d_z ih_z =>
    intro T y_z h_z hy y0 h6 hq
    have e_z : rnE (nmI t L) (d_z + 1) y_z = if nmI t L y_z = 0 then y_z else rnE (nmI t L) d_z (y_z + 1) := rfl
    rw [e_z] at hq
    have nm := fun qq => X_numM (G := G) (Q := qq) h_z y0
    have sm_z := h_z.1
    rw [B_173_70]
    by_cases c_z : nmI t L y_z = 0
    · rw [if_pos c_z] at hq
      rw [c_z] at nm
      have go_z := hq T (Fq.refl _ _) h6 rfl
      simp (disch := omega) only [sm_z.u, h6, nm, B_173_78, inI, inL, isT, kInt, kByt, true_and, and_true, an_t, im_t, im_f, or_true, true_or, true_imp_iff, false_imp_iff, not_true_eq_false, not_false_eq_true, gK_uI, gK_uL, gK_uR, gK_uCI, gK_uCL, gN_uI, gN_uL, gN_uR, gN_uCI, gN_uCL, gR_uI, gR_uL, gR_uCI, gR_uCL, gI_uL, gI_uR, gI_uCL, gL_uI, gL_uR, gL_uCI, gz_uI, gz_uL, gz_uR, gz_uCI, gz_uCL, gs_uI, gs_uL, gs_uR, gs_uCI, gs_uCL, rI_at, rL_at, rR_at, rI_ne, rL_ne, rR_ne, rI_nk, rL_nk, rR_nk, rI_eq, rL_eq, rR_eq, Option.toList_some, Option.toList_none, List.cons_append, List.nil_append, List.append_nil, zc_eq, zc_lt, zc_le, zc_ge, zc_gt]
      all_goals exact go_z
    · rw [if_neg c_z] at hq
      have f1_z : Fq m T (uI T m 6 (y_z + 1)) := (Fq.refl _ _).uI 6 (y_z + 1) (by omega)
      have l1 := h_z.2.2.2.1
      have go_z := ih_z (uI T m 6 (y_z + 1)) (y_z + 1) (h_z.fq f1_z) (by omega) (by omega) rI_at (fun T' f2_z h2 h3 => hq T' (f1_z.trans f2_z) h2 (by rw [h3, rI_nk (by decide)]))
      generalize nmI t L y_z = v_z at *
      simp (disch := omega) only [sm_z.u, h6, nm, B_173_78, c_z, inI, inL, isT, kInt, kByt, true_and, and_true, an_t, im_t, im_f, or_true, true_or, true_imp_iff, false_imp_iff, not_true_eq_false, not_false_eq_true, gK_uI, gK_uL, gK_uR, gK_uCI, gK_uCL, gN_uI, gN_uL, gN_uR, gN_uCI, gN_uCL, gR_uI, gR_uL, gR_uCI, gR_uCL, gI_uL, gI_uR, gI_uCL, gL_uI, gL_uR, gL_uCI, gz_uI, gz_uL, gz_uR, gz_uCI, gz_uCL, gs_uI, gs_uL, gs_uR, gs_uCI, gs_uCL, rI_at, rL_at, rR_at, rI_ne, rL_ne, rR_ne, rI_nk, rL_nk, rR_nk, rI_eq, rL_eq, rR_eq, Option.toList_some, Option.toList_none, List.cons_append, List.nil_append, List.append_nil, zc_eq, zc_lt, zc_le, zc_ge, zc_gt]
      all_goals exact go_z
end EB
