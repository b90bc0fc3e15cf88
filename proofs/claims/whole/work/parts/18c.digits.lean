/-! THE PURE PART, part 18: digits, both sides. Own work. -/
/-- reads at most d_z digits from k_z on, before e_z: the place behind them, and the value -/
def dgs (t : Int → Int) (L e_z : Int) : Nat → Int → Int → Int × Int
  | 0, k_z, v_z => (k_z, v_z)
  | d_z + 1, k_z, v_z => if k_z < e_z ∧ 48 ≤ sg t L k_z ∧ sg t L k_z ≤ 57 then dgs t L e_z d_z (k_z + 1) (10 * v_z + sg t L k_z - 48) else (k_z, v_z)
def dB : Nat → Int
  | 0 => 9999
  | 1 => 999
  | 2 => 99
  | 3 => 9
  | _ => 0
theorem dB_step {d_z : Nat} (h_z : d_z < 4) : 0 ≤ dB (d_z + 1) ∧ 10 * dB (d_z + 1) + 9 ≤ dB d_z ∧ dB d_z ≤ 9999 := by
  have : d_z = 0 ∨ d_z = 1 ∨ d_z = 2 ∨ d_z = 3 := by omega
  rcases this with e_z | e_z | e_z | e_z <;> subst e_z <;> decide
theorem dgs_bd (t : Int → Int) (L e_z : Int) : ∀ (d_z : Nat) (k_z v_z : Int), d_z ≤ 4 → 0 ≤ v_z → v_z ≤ dB d_z → k_z ≤ (dgs t L e_z d_z k_z v_z).1 ∧ (dgs t L e_z d_z k_z v_z).1 ≤ k_z + d_z ∧ (k_z ≤ e_z → (dgs t L e_z d_z k_z v_z).1 ≤ e_z) ∧ 0 ≤ (dgs t L e_z d_z k_z v_z).2 ∧ (dgs t L e_z d_z k_z v_z).2 ≤ 9999
  | 0, k_z, v_z, _, v0_z, v1_z => by
    have : dB 0 = 9999 := rfl
    show k_z ≤ k_z ∧ k_z ≤ k_z + ((0 : Nat) : Int) ∧ (k_z ≤ e_z → k_z ≤ e_z) ∧ 0 ≤ v_z ∧ v_z ≤ 9999
    omega
  | d_z + 1, k_z, v_z, hd_z, v0_z, v1_z => by
    have st_z := dB_step (d_z := d_z) (by omega)
    unfold dgs
    by_cases c_z : k_z < e_z ∧ 48 ≤ sg t L k_z ∧ sg t L k_z ≤ 57
    · rw [if_pos c_z]
      have := dgs_bd t L e_z d_z (k_z + 1) (10 * v_z + sg t L k_z - 48) (by omega) (by omega) (by omega)
      omega
    · rw [if_neg c_z]
      show k_z ≤ k_z ∧ k_z ≤ k_z + ((d_z + 1 : Nat) : Int) ∧ (k_z ≤ e_z → k_z ≤ e_z) ∧ 0 ≤ v_z ∧ v_z ≤ 9999
      omega
section EC
variable {G : Env0} {Q : Option AV → Mem → Prop} {M T : Mem} {r m : Nat} {t : Int → Int} {L : Int}
theorem X_dig {x_z : Int} : Call G J_Rd_isDigit [a_i x_z] M Q ↔ Q (some (a_i (zB (48 ≤ x_z ∧ x_z ≤ 57)))) M := by
  by_cases c1_z : 48 ≤ x_z ∧ x_z ≤ 57
  · rw [zB_t c1_z]
    simp (disch := omega) only [E_Rd_isDigit, B_23_0, B_23_16, B_23_17, inI, inL, isT, kInt, kByt, true_and, and_true, an_t, im_t, im_f, or_true, true_or, true_imp_iff, false_imp_iff, not_true_eq_false, not_false_eq_true, gK_uI, gK_uL, gK_uR, gK_uCI, gK_uCL, gN_uI, gN_uL, gN_uR, gN_uCI, gN_uCL, gR_uI, gR_uL, gR_uCI, gR_uCL, gI_uL, gI_uR, gI_uCL, gL_uI, gL_uR, gL_uCI, gz_uI, gz_uL, gz_uR, gz_uCI, gz_uCL, gs_uI, gs_uL, gs_uR, gs_uCI, gs_uCL, rI_at, rL_at, rR_at, rI_ne, rL_ne, rR_ne, rI_nk, rL_nk, rR_nk, rI_eq, rL_eq, rR_eq, Option.toList_some, Option.toList_none, List.cons_append, List.nil_append, List.append_nil, zc_eq, zc_lt, zc_le, zc_ge, zc_gt]
  · rw [zB_f c1_z]
    by_cases c2_z : x_z < 48
    · simp (disch := omega) only [E_Rd_isDigit, B_23_0, B_23_16, B_23_17, inI, inL, isT, kInt, kByt, true_and, and_true, an_t, im_t, im_f, or_true, true_or, true_imp_iff, false_imp_iff, not_true_eq_false, not_false_eq_true, gK_uI, gK_uL, gK_uR, gK_uCI, gK_uCL, gN_uI, gN_uL, gN_uR, gN_uCI, gN_uCL, gR_uI, gR_uL, gR_uCI, gR_uCL, gI_uL, gI_uR, gI_uCL, gL_uI, gL_uR, gL_uCI, gz_uI, gz_uL, gz_uR, gz_uCI, gz_uCL, gs_uI, gs_uL, gs_uR, gs_uCI, gs_uCL, rI_at, rL_at, rR_at, rI_ne, rL_ne, rR_ne, rI_nk, rL_nk, rR_nk, rI_eq, rL_eq, rR_eq, Option.toList_some, Option.toList_none, List.cons_append, List.nil_append, List.append_nil, zc_eq, zc_lt, zc_le, zc_ge, zc_gt]
    · simp (disch := omega) only [E_Rd_isDigit, B_23_0, B_23_16, B_23_17, inI, inL, isT, kInt, kByt, true_and, and_true, an_t, im_t, im_f, or_true, true_or, true_imp_iff, false_imp_iff, not_true_eq_false, not_false_eq_true, gK_uI, gK_uL, gK_uR, gK_uCI, gK_uCL, gN_uI, gN_uL, gN_uR, gN_uCI, gN_uCL, gR_uI, gR_uL, gR_uCI, gR_uCL, gI_uL, gI_uR, gI_uCL, gL_uI, gL_uR, gL_uCI, gz_uI, gz_uL, gz_uR, gz_uCI, gz_uCL, gs_uI, gs_uL, gs_uR, gs_uCI, gs_uCL, rI_at, rL_at, rR_at, rI_ne, rL_ne, rR_ne, rI_nk, rL_nk, rR_nk, rI_eq, rL_eq, rR_eq, Option.toList_some, Option.toList_none, List.cons_append, List.nil_append, List.append_nil, zc_eq, zc_lt, zc_le, zc_ge, zc_gt]
theorem X_dgC {x_z e_z ng : Int} (h_z : TxC M r t L) (e1_z : e_z ≤ L) : ∀ (d_z : Nat) (k_z v_z : Int), d_z ≤ 4 → 0 ≤ k_z → k_z ≤ e_z → 0 ≤ v_z → v_z ≤ dB d_z → (∀ k' v', (k', v') = dgs t L e_z d_z k_z v_z → At G 28 85 [a_r r, a_i x_z, a_i e_z, a_i ng, a_i k', a_i (4 - d_z + (k' - k_z)), a_i v', a_u, a_u] [] M Q) → At G 28 35 [a_r r, a_i x_z, a_i e_z, a_i ng, a_i k_z, a_i (4 - d_z), a_i v_z, a_u, a_u] [] M Q := by
  have sn := fun (k_z : Int) (qq : Option AV → Mem → Prop) => X_sgC (G := G) (Q := qq) (x_z := k_z) h_z
  have dg := fun (k_z : Int) (qq : Option AV → Mem → Prop) => X_dig (G := G) (Q := qq) (M := M) (x_z := k_z)
  obtain ⟨h1, h2, h3, h4, h5, h6, h7, h8⟩ := h_z
  intro d_z
  induction d_z with
  | zero =>
    intro k_z v_z _ k0_z ke v0_z v1_z hq
    have go_z := hq k_z v_z rfl
    rw [show (4 : Int) - ((0 : Nat) : Int) + (k_z - k_z) = 4 - ((0 : Nat) : Int) from by omega] at go_z
    by_cases c_z : e_z ≤ k_z
    · simp (disch := omega) only [B_28_35, inI, inL, isT, kInt, kByt, true_and, and_true, an_t, im_t, im_f, or_true, true_or, true_imp_iff, false_imp_iff, not_true_eq_false, not_false_eq_true, gK_uI, gK_uL, gK_uR, gK_uCI, gK_uCL, gN_uI, gN_uL, gN_uR, gN_uCI, gN_uCL, gR_uI, gR_uL, gR_uCI, gR_uCL, gI_uL, gI_uR, gI_uCL, gL_uI, gL_uR, gL_uCI, gz_uI, gz_uL, gz_uR, gz_uCI, gz_uCL, gs_uI, gs_uL, gs_uR, gs_uCI, gs_uCL, rI_at, rL_at, rR_at, rI_ne, rL_ne, rR_ne, rI_nk, rL_nk, rR_nk, rI_eq, rL_eq, rR_eq, Option.toList_some, Option.toList_none, List.cons_append, List.nil_append, List.append_nil, zc_eq, zc_lt, zc_le, zc_ge, zc_gt]
      all_goals exact go_z
    · simp (disch := omega) only [B_28_35, inI, inL, isT, kInt, kByt, true_and, and_true, an_t, im_t, im_f, or_true, true_or, true_imp_iff, false_imp_iff, not_true_eq_false, not_false_eq_true, gK_uI, gK_uL, gK_uR, gK_uCI, gK_uCL, gN_uI, gN_uL, gN_uR, gN_uCI, gN_uCL, gR_uI, gR_uL, gR_uCI, gR_uCL, gI_uL, gI_uR, gI_uCL, gL_uI, gL_uR, gL_uCI, gz_uI, gz_uL, gz_uR, gz_uCI, gz_uCL, gs_uI, gs_uL, gs_uR, gs_uCI, gs_uCL, rI_at, rL_at, rR_at, rI_ne, rL_ne, rR_ne, rI_nk, rL_nk, rR_nk, rI_eq, rL_eq, rR_eq, Option.toList_some, Option.toList_none, List.cons_append, List.nil_append, List.append_nil, zc_eq, zc_lt, zc_le, zc_ge, zc_gt]
      all_goals exact go_z
  | succ d_z ih_z =>
    intro k_z v_z hd_z k0_z ke v0_z v1_z hq
    have st_z := dB_step (d_z := d_z) (by omega)
    have eqn : dgs t L e_z (d_z + 1) k_z v_z = if k_z < e_z ∧ 48 ≤ sg t L k_z ∧ sg t L k_z ≤ 57 then dgs t L e_z d_z (k_z + 1) (10 * v_z + sg t L k_z - 48) else (k_z, v_z) := rfl
    have stay_z : ¬ (k_z < e_z ∧ 48 ≤ sg t L k_z ∧ sg t L k_z ≤ 57) → At G 28 85 [a_r r, a_i x_z, a_i e_z, a_i ng, a_i k_z, a_i (4 - ((d_z + 1 : Nat) : Int)), a_i v_z, a_u, a_u] [] M Q := fun c_z => by
      have go_z := hq k_z v_z (by rw [eqn, if_neg c_z])
      rw [show (4 : Int) - ((d_z + 1 : Nat) : Int) + (k_z - k_z) = 4 - ((d_z + 1 : Nat) : Int) from by omega] at go_z
      exact go_z
    rw [B_28_35]
    refine ⟨fun w_z => stay_z (by omega), fun w_z => ⟨fun w2_z => absurd w2_z (by omega), fun _ => ⟨h1, ?_⟩⟩⟩
    rw [sn]
    have dk := fun qq => dg (sg t L k_z) qq
    by_cases c_z : 48 ≤ sg t L k_z ∧ sg t L k_z ≤ 57
    · have hq2 : ∀ k' v', (k', v') = dgs t L e_z d_z (k_z + 1) (10 * v_z + sg t L k_z - 48) → At G 28 85 [a_r r, a_i x_z, a_i e_z, a_i ng, a_i k', a_i (4 - d_z + (k' - (k_z + 1))), a_i v', a_u, a_u] [] M Q := fun k' v' hv => by
        have go_z := hq k' v' (by rw [eqn, if_pos ⟨by omega, c_z⟩]; exact hv)
        rw [show (4 : Int) - ((d_z + 1 : Nat) : Int) + (k' - k_z) = 4 - d_z + (k' - (k_z + 1)) from by omega] at go_z
        exact go_z
      have go_z := ih_z (k_z + 1) (10 * v_z + sg t L k_z - 48) (by omega) (by omega) (by omega) (by omega) (by omega) hq2
      rw [zB_t c_z] at dk
      have s2_z := fun qq => sn k_z qq
      generalize sg t L k_z = w_z at *
      rw [show (4 : Int) - (d_z : Int) = 4 - ((d_z + 1 : Nat) : Int) + 1 from by omega, show 10 * v_z + w_z - 48 = v_z * 10 + w_z - 48 from by omega] at go_z
      simp (disch := omega) only [B_28_53, dk, B_28_56, h1, s2_z, B_28_70, inI, inL, isT, kInt, kByt, true_and, and_true, an_t, im_t, im_f, or_true, true_or, true_imp_iff, false_imp_iff, not_true_eq_false, not_false_eq_true, gK_uI, gK_uL, gK_uR, gK_uCI, gK_uCL, gN_uI, gN_uL, gN_uR, gN_uCI, gN_uCL, gR_uI, gR_uL, gR_uCI, gR_uCL, gI_uL, gI_uR, gI_uCL, gL_uI, gL_uR, gL_uCI, gz_uI, gz_uL, gz_uR, gz_uCI, gz_uCL, gs_uI, gs_uL, gs_uR, gs_uCI, gs_uCL, rI_at, rL_at, rR_at, rI_ne, rL_ne, rR_ne, rI_nk, rL_nk, rR_nk, rI_eq, rL_eq, rR_eq, Option.toList_some, Option.toList_none, List.cons_append, List.nil_append, List.append_nil, zc_eq, zc_lt, zc_le, zc_ge, zc_gt]
      all_goals exact go_z
    · have go_z := stay_z (fun q_z => c_z q_z.2)
      rw [zB_f c_z] at dk
      generalize sg t L k_z = w_z at *
      simp (disch := omega) only [B_28_53, dk, B_28_56, inI, inL, isT, kInt, kByt, true_and, and_true, an_t, im_t, im_f, or_true, true_or, true_imp_iff, false_imp_iff, not_true_eq_false, not_false_eq_true, gK_uI, gK_uL, gK_uR, gK_uCI, gK_uCL, gN_uI, gN_uL, gN_uR, gN_uCI, gN_uCL, gR_uI, gR_uL, gR_uCI, gR_uCL, gI_uL, gI_uR, gI_uCL, gL_uI, gL_uR, gL_uCI, gz_uI, gz_uL, gz_uR, gz_uCI, gz_uCL, gs_uI, gs_uL, gs_uR, gs_uCI, gs_uCL, rI_at, rL_at, rR_at, rI_ne, rL_ne, rR_ne, rI_nk, rL_nk, rR_nk, rI_eq, rL_eq, rR_eq, Option.toList_some, Option.toList_none, List.cons_append, List.nil_append, List.append_nil, zc_eq, zc_lt, zc_le, zc_ge, zc_gt]
      all_goals exact go_z
theorem X_dgM {e_z ng f_z : Int} (h_z : RdM T m t L) (he : gI T m 6 = e_z) (e1_z : e_z ≤ L) (f0_z : 0 ≤ f_z) : ∀ (d_z : Nat) (k_z v_z : Int), d_z ≤ 4 → f_z ≤ k_z → k_z ≤ e_z → k_z - f_z = 4 - d_z → 0 ≤ v_z → v_z ≤ dB d_z → (∀ k' v', (k', v') = dgs t L e_z d_z k_z v_z → At G 175 82 [a_r m, a_i ng, a_i k', a_i f_z, a_i v', a_u, a_u, a_u] [] T Q) → At G 175 43 [a_r m, a_i ng, a_i k_z, a_i f_z, a_i v_z, a_u, a_u, a_u] [] T Q := by
  have dg := fun (k_z : Int) (k0_z : 0 ≤ k_z) (qq : Option AV → Mem → Prop) => X_digM (G := G) (Q := qq) (x_z := k_z) (w_z := 0) h_z he e1_z k0_z (by decide) (by decide)
  obtain ⟨sm_z, h4, l0, l1, ht⟩ := h_z
  intro d_z
  induction d_z with
  | zero =>
    intro k_z v_z _ k0_z ke kf v0_z v1_z hq
    have go_z := hq k_z v_z rfl
    have dk := fun qq => dg k_z (by omega) qq
    rw [B_175_43]
    refine ⟨sm_z.u.1, ?_⟩
    rw [dk]
    by_cases c_z : k_z < e_z ∧ 48 + 0 ≤ t k_z ∧ t k_z ≤ 57
    · rw [zB_t c_z]
      simp (disch := omega) only [B_175_49, inI, inL, isT, kInt, kByt, true_and, and_true, an_t, im_t, im_f, or_true, true_or, true_imp_iff, false_imp_iff, not_true_eq_false, not_false_eq_true, gK_uI, gK_uL, gK_uR, gK_uCI, gK_uCL, gN_uI, gN_uL, gN_uR, gN_uCI, gN_uCL, gR_uI, gR_uL, gR_uCI, gR_uCL, gI_uL, gI_uR, gI_uCL, gL_uI, gL_uR, gL_uCI, gz_uI, gz_uL, gz_uR, gz_uCI, gz_uCL, gs_uI, gs_uL, gs_uR, gs_uCI, gs_uCL, rI_at, rL_at, rR_at, rI_ne, rL_ne, rR_ne, rI_nk, rL_nk, rR_nk, rI_eq, rL_eq, rR_eq, Option.toList_some, Option.toList_none, List.cons_append, List.nil_append, List.append_nil, zc_eq, zc_lt, zc_le, zc_ge, zc_gt]
      all_goals exact go_z
    · rw [zB_f c_z]
      simp (disch := omega) only [B_175_49, inI, inL, isT, kInt, kByt, true_and, and_true, an_t, im_t, im_f, or_true, true_or, true_imp_iff, false_imp_iff, not_true_eq_false, not_false_eq_true, gK_uI, gK_uL, gK_uR, gK_uCI, gK_uCL, gN_uI, gN_uL, gN_uR, gN_uCI, gN_uCL, gR_uI, gR_uL, gR_uCI, gR_uCL, gI_uL, gI_uR, gI_uCL, gL_uI, gL_uR, gL_uCI, gz_uI, gz_uL, gz_uR, gz_uCI, gz_uCL, gs_uI, gs_uL, gs_uR, gs_uCI, gs_uCL, rI_at, rL_at, rR_at, rI_ne, rL_ne, rR_ne, rI_nk, rL_nk, rR_nk, rI_eq, rL_eq, rR_eq, Option.toList_some, Option.toList_none, List.cons_append, List.nil_append, List.append_nil, zc_eq, zc_lt, zc_le, zc_ge, zc_gt]
      all_goals exact go_z
  | succ d_z ih_z =>
    intro k_z v_z hd_z k0_z ke kf v0_z v1_z hq
    have st_z := dB_step (d_z := d_z) (by omega)
    have eqn : dgs t L e_z (d_z + 1) k_z v_z = if k_z < e_z ∧ 48 ≤ sg t L k_z ∧ sg t L k_z ≤ 57 then dgs t L e_z d_z (k_z + 1) (10 * v_z + sg t L k_z - 48) else (k_z, v_z) := rfl
    have dk := fun qq => dg k_z (by omega) qq
    rw [B_175_43]
    refine ⟨sm_z.u.1, ?_⟩
    rw [dk]
    by_cases c_z : k_z < e_z ∧ 48 + 0 ≤ t k_z ∧ t k_z ≤ 57
    · have tk := ht k_z (by omega) (by omega)
      rw [sg_in ⟨by omega, by omega⟩, if_pos (by omega)] at eqn
      have go_z := ih_z (k_z + 1) (10 * v_z + t k_z - 48) (by omega) (by omega) (by omega) (by omega) (by omega) (by omega) (fun k' v' hv => hq k' v' (by rw [eqn]; exact hv))
      rw [zB_t c_z]
      generalize t k_z = w_z at *
      simp (disch := omega) only [B_175_49, sm_z.u, tk, inI, inL, isT, kInt, kByt, true_and, and_true, an_t, im_t, im_f, or_true, true_or, true_imp_iff, false_imp_iff, not_true_eq_false, not_false_eq_true, gK_uI, gK_uL, gK_uR, gK_uCI, gK_uCL, gN_uI, gN_uL, gN_uR, gN_uCI, gN_uCL, gR_uI, gR_uL, gR_uCI, gR_uCL, gI_uL, gI_uR, gI_uCL, gL_uI, gL_uR, gL_uCI, gz_uI, gz_uL, gz_uR, gz_uCI, gz_uCL, gs_uI, gs_uL, gs_uR, gs_uCI, gs_uCL, rI_at, rL_at, rR_at, rI_ne, rL_ne, rR_ne, rI_nk, rL_nk, rR_nk, rI_eq, rL_eq, rR_eq, Option.toList_some, Option.toList_none, List.cons_append, List.nil_append, List.append_nil, zc_eq, zc_lt, zc_le, zc_ge, zc_gt]
      all_goals exact go_z
    · have go_z := hq k_z v_z (by
        rw [eqn, if_neg]
        intro q_z
        rw [sg_in ⟨by omega, by omega⟩] at q_z
        exact c_z (by omega))
      rw [zB_f c_z]
      simp (disch := omega) only [B_175_49, inI, inL, isT, kInt, kByt, true_and, and_true, an_t, im_t, im_f, or_true, true_or, true_imp_iff, false_imp_iff, not_true_eq_false, not_false_eq_true, gK_uI, gK_uL, gK_uR, gK_uCI, gK_uCL, gN_uI, gN_uL, gN_uR, gN_uCI, gN_uCL, gR_uI, gR_uL, gR_uCI, gR_uCL, gI_uL, gI_uR, gI_uCL, gL_uI, gL_uR, gL_uCI, gz_uI, gz_uL, gz_uR, gz_uCI, gz_uCL, gs_uI, gs_uL, gs_uR, gs_uCI, gs_uCL, rI_at, rL_at, rR_at, rI_ne, rL_ne, rR_ne, rI_nk, rL_nk, rR_nk, rI_eq, rL_eq, rR_eq, Option.toList_some, Option.toList_none, List.cons_append, List.nil_append, List.append_nil, zc_eq, zc_lt, zc_le, zc_ge, zc_gt]
      all_goals exact go_z
end EC
