/-! THE PURE PART, part 13: what is checked ahead of an operator. Own work. -/
/-- the operands that an operator takes -/
def need (k_z : Int) : Int := if k_z = 2 then 6 else if k_z = 6 then 4 else if k_z = 3 ∨ k_z = 4 ∨ (18 ≤ k_z ∧ k_z ≤ 22) then 2 else if (12 ≤ k_z ∧ k_z ≤ 14) ∨ k_z = 16 ∨ k_z = 17 then 1 else 0
section YA
variable {G : Env0} {Q : Option AV → Mem → Prop} {M T : Mem} {c s m r : Nat}
theorem X_needed {k_z : Int} (h0 : 0 ≤ k_z) (h1 : k_z ≤ 22) : Call G J_M_needed [a_i k_z] T Q ↔ Q (some (a_i (need k_z))) T := by
  unfold need
  by_cases c2_z : k_z = 2
  · rw [if_pos c2_z]
    simp (disch := omega) only [E_M_needed, B_208_0, B_208_100, B_208_103, B_208_105, B_208_107, B_208_109, inI, inL, isT, kInt, kByt, true_and, and_true, an_t, im_t, im_f, or_true, true_or, true_imp_iff, false_imp_iff, not_true_eq_false, not_false_eq_true, gK_uI, gK_uL, gK_uR, gK_uCI, gK_uCL, gN_uI, gN_uL, gN_uR, gN_uCI, gN_uCL, gR_uI, gR_uL, gR_uCI, gR_uCL, gI_uL, gI_uR, gI_uCL, gL_uI, gL_uR, gL_uCI, gz_uI, gz_uL, gz_uR, gz_uCI, gz_uCL, gs_uI, gs_uL, gs_uR, gs_uCI, gs_uCL, rI_at, rL_at, rR_at, rI_ne, rL_ne, rR_ne, rI_nk, rL_nk, rR_nk, rI_eq, rL_eq, rR_eq, Option.toList_some, Option.toList_none, List.cons_append, List.nil_append, List.append_nil, zc_eq, zc_lt, zc_le, zc_ge, zc_gt]
  · by_cases c6_z : k_z = 6
    · rw [if_neg c2_z, if_pos c6_z]
      simp (disch := omega) only [E_M_needed, B_208_0, B_208_100, B_208_103, B_208_105, B_208_107, B_208_109, inI, inL, isT, kInt, kByt, true_and, and_true, an_t, im_t, im_f, or_true, true_or, true_imp_iff, false_imp_iff, not_true_eq_false, not_false_eq_true, gK_uI, gK_uL, gK_uR, gK_uCI, gK_uCL, gN_uI, gN_uL, gN_uR, gN_uCI, gN_uCL, gR_uI, gR_uL, gR_uCI, gR_uCL, gI_uL, gI_uR, gI_uCL, gL_uI, gL_uR, gL_uCI, gz_uI, gz_uL, gz_uR, gz_uCI, gz_uCL, gs_uI, gs_uL, gs_uR, gs_uCI, gs_uCL, rI_at, rL_at, rR_at, rI_ne, rL_ne, rR_ne, rI_nk, rL_nk, rR_nk, rI_eq, rL_eq, rR_eq, Option.toList_some, Option.toList_none, List.cons_append, List.nil_append, List.append_nil, zc_eq, zc_lt, zc_le, zc_ge, zc_gt]
    · by_cases c3_z : k_z = 3 ∨ k_z = 4 ∨ (18 ≤ k_z ∧ k_z ≤ 22)
      · rw [if_neg c2_z, if_neg c6_z, if_pos c3_z]
        have hk : k_z = 3 ∨ k_z = 4 ∨ k_z = 18 ∨ k_z = 19 ∨ k_z = 20 ∨ k_z = 21 ∨ k_z = 22 := by omega
        rcases hk with hk | hk | hk | hk | hk | hk | hk <;> subst hk <;> simp (disch := omega) only [E_M_needed, B_208_0, B_208_100, B_208_103, B_208_105, B_208_107, B_208_109, inI, inL, isT, kInt, kByt, true_and, and_true, an_t, im_t, im_f, or_true, true_or, true_imp_iff, false_imp_iff, not_true_eq_false, not_false_eq_true, gK_uI, gK_uL, gK_uR, gK_uCI, gK_uCL, gN_uI, gN_uL, gN_uR, gN_uCI, gN_uCL, gR_uI, gR_uL, gR_uCI, gR_uCL, gI_uL, gI_uR, gI_uCL, gL_uI, gL_uR, gL_uCI, gz_uI, gz_uL, gz_uR, gz_uCI, gz_uCL, gs_uI, gs_uL, gs_uR, gs_uCI, gs_uCL, rI_at, rL_at, rR_at, rI_ne, rL_ne, rR_ne, rI_nk, rL_nk, rR_nk, rI_eq, rL_eq, rR_eq, Option.toList_some, Option.toList_none, List.cons_append, List.nil_append, List.append_nil, zc_eq, zc_lt, zc_le, zc_ge, zc_gt]
      · by_cases c1_z : (12 ≤ k_z ∧ k_z ≤ 14) ∨ k_z = 16 ∨ k_z = 17
        · rw [if_neg c2_z, if_neg c6_z, if_neg c3_z, if_pos c1_z]
          have hk : k_z = 12 ∨ k_z = 13 ∨ k_z = 14 ∨ k_z = 16 ∨ k_z = 17 := by omega
          rcases hk with hk | hk | hk | hk | hk <;> subst hk <;> simp (disch := omega) only [E_M_needed, B_208_0, B_208_100, B_208_103, B_208_105, B_208_107, B_208_109, inI, inL, isT, kInt, kByt, true_and, and_true, an_t, im_t, im_f, or_true, true_or, true_imp_iff, false_imp_iff, not_true_eq_false, not_false_eq_true, gK_uI, gK_uL, gK_uR, gK_uCI, gK_uCL, gN_uI, gN_uL, gN_uR, gN_uCI, gN_uCL, gR_uI, gR_uL, gR_uCI, gR_uCL, gI_uL, gI_uR, gI_uCL, gL_uI, gL_uR, gL_uCI, gz_uI, gz_uL, gz_uR, gz_uCI, gz_uCL, gs_uI, gs_uL, gs_uR, gs_uCI, gs_uCL, rI_at, rL_at, rR_at, rI_ne, rL_ne, rR_ne, rI_nk, rL_nk, rR_nk, rI_eq, rL_eq, rR_eq, Option.toList_some, Option.toList_none, List.cons_append, List.nil_append, List.append_nil, zc_eq, zc_lt, zc_le, zc_ge, zc_gt]
        · rw [if_neg c2_z, if_neg c6_z, if_neg c3_z, if_neg c1_z]
          have hk : k_z = 0 ∨ k_z = 1 ∨ k_z = 5 ∨ k_z = 7 ∨ k_z = 8 ∨ k_z = 9 ∨ k_z = 10 ∨ k_z = 11 ∨ k_z = 15 := by omega
          rcases hk with hk | hk | hk | hk | hk | hk | hk | hk | hk <;> subst hk <;> simp (disch := omega) only [E_M_needed, B_208_0, B_208_100, B_208_103, B_208_105, B_208_107, B_208_109, inI, inL, isT, kInt, kByt, true_and, and_true, an_t, im_t, im_f, or_true, true_or, true_imp_iff, false_imp_iff, not_true_eq_false, not_false_eq_true, gK_uI, gK_uL, gK_uR, gK_uCI, gK_uCL, gN_uI, gN_uL, gN_uR, gN_uCI, gN_uCL, gR_uI, gR_uL, gR_uCI, gR_uCL, gI_uL, gI_uR, gI_uCL, gL_uI, gL_uR, gL_uCI, gz_uI, gz_uL, gz_uR, gz_uCI, gz_uCL, gs_uI, gs_uL, gs_uR, gs_uCI, gs_uCL, rI_at, rL_at, rR_at, rI_ne, rL_ne, rR_ne, rI_nk, rL_nk, rR_nk, rI_eq, rL_eq, rR_eq, Option.toList_some, Option.toList_none, List.cons_append, List.nil_append, List.append_nil, zc_eq, zc_lt, zc_le, zc_ge, zc_gt]
theorem areNum_loop {l w_z n_z : Int} (hs : ShM T m) (hl : gI T m 36 = l) (hw : gI T (m + 19) l = w_z) (l0 : 0 ≤ l) (l1 : l < 5) (w1_z : w_z ≤ 16) (n1_z : n_z ≤ w_z) (hq : ∀ z_z : Int, ((z_z = 1 ∧ ∀ i_z, 0 ≤ i_z → i_z < n_z → 0 < gI T (m + 21) (16 * l + w_z - 1 - i_z)) ∨ (z_z = 0 ∧ ∃ i_z, 0 ≤ i_z ∧ i_z < n_z ∧ gI T (m + 21) (16 * l + w_z - 1 - i_z) ≤ 0)) → Q (some (a_i z_z)) T) : ∀ (f_z : Nat) (k_z : Int), (n_z - k_z).toNat = f_z → 0 ≤ k_z → k_z ≤ n_z → (∀ i_z, 0 ≤ i_z → i_z < k_z → 0 < gI T (m + 21) (16 * l + w_z - 1 - i_z)) → At G 211 21 [a_r m, a_i n_z, a_i 1, a_i k_z] [] T Q := by
  intro f_z
  induction f_z with
  | zero =>
    intro k_z hf k0_z k1_z hk
    have hh := hq 1 (Or.inl ⟨rfl, fun i_z i0_z i1_z => hk i_z i0_z (by omega)⟩)
    rw [B_211_21]
    simp (disch := omega) only [B_211_55, inI, inL, isT, kInt, kByt, true_and, and_true, an_t, im_t, im_f, or_true, true_or, true_imp_iff, false_imp_iff, not_true_eq_false, not_false_eq_true, gK_uI, gK_uL, gK_uR, gK_uCI, gK_uCL, gN_uI, gN_uL, gN_uR, gN_uCI, gN_uCL, gR_uI, gR_uL, gR_uCI, gR_uCL, gI_uL, gI_uR, gI_uCL, gL_uI, gL_uR, gL_uCI, gz_uI, gz_uL, gz_uR, gz_uCI, gz_uCL, gs_uI, gs_uL, gs_uR, gs_uCI, gs_uCL, rI_at, rL_at, rR_at, rI_ne, rL_ne, rR_ne, rI_nk, rL_nk, rR_nk, rI_eq, rL_eq, rR_eq, Option.toList_some, Option.toList_none, List.cons_append, List.nil_append, List.append_nil, zc_eq, zc_lt, zc_le, zc_ge, zc_gt]
    all_goals exact hh
  | succ f_z ih_z =>
    intro k_z hf k0_z k1_z hk
    have hT_z := fun qq => X_topE (G := G) (Q := qq) (M := T) (m := m) (k_z := k_z) hs hl hw l0 l1 (by omega) w1_z (by omega) (by omega)
    by_cases c1_z : gI T (m + 21) (16 * l + w_z - 1 - k_z) ≤ 0
    · have hh := hq 0 (Or.inr ⟨rfl, k_z, k0_z, by omega, c1_z⟩)
      rw [B_211_21]
      simp (disch := omega) only [hs.u, hT_z, B_211_39, B_211_47, B_211_48, inI, inL, isT, kInt, kByt, true_and, and_true, an_t, im_t, im_f, or_true, true_or, true_imp_iff, false_imp_iff, not_true_eq_false, not_false_eq_true, gK_uI, gK_uL, gK_uR, gK_uCI, gK_uCL, gN_uI, gN_uL, gN_uR, gN_uCI, gN_uCL, gR_uI, gR_uL, gR_uCI, gR_uCL, gI_uL, gI_uR, gI_uCL, gL_uI, gL_uR, gL_uCI, gz_uI, gz_uL, gz_uR, gz_uCI, gz_uCL, gs_uI, gs_uL, gs_uR, gs_uCI, gs_uCL, rI_at, rL_at, rR_at, rI_ne, rL_ne, rR_ne, rI_nk, rL_nk, rR_nk, rI_eq, rL_eq, rR_eq, Option.toList_some, Option.toList_none, List.cons_append, List.nil_append, List.append_nil, zc_eq, zc_lt, zc_le, zc_ge, zc_gt]
      by_cases c2_z : n_z ≤ k_z + 1
      · rw [B_211_21]
        simp (disch := omega) only [B_211_55, inI, inL, isT, kInt, kByt, true_and, and_true, an_t, im_t, im_f, or_true, true_or, true_imp_iff, false_imp_iff, not_true_eq_false, not_false_eq_true, gK_uI, gK_uL, gK_uR, gK_uCI, gK_uCL, gN_uI, gN_uL, gN_uR, gN_uCI, gN_uCL, gR_uI, gR_uL, gR_uCI, gR_uCL, gI_uL, gI_uR, gI_uCL, gL_uI, gL_uR, gL_uCI, gz_uI, gz_uL, gz_uR, gz_uCI, gz_uCL, gs_uI, gs_uL, gs_uR, gs_uCI, gs_uCL, rI_at, rL_at, rR_at, rI_ne, rL_ne, rR_ne, rI_nk, rL_nk, rR_nk, rI_eq, rL_eq, rR_eq, Option.toList_some, Option.toList_none, List.cons_append, List.nil_append, List.append_nil, zc_eq, zc_lt, zc_le, zc_ge, zc_gt]
        all_goals exact hh
      · rw [B_211_21]
        simp (disch := omega) only [B_211_55, inI, inL, isT, kInt, kByt, true_and, and_true, an_t, im_t, im_f, or_true, true_or, true_imp_iff, false_imp_iff, not_true_eq_false, not_false_eq_true, gK_uI, gK_uL, gK_uR, gK_uCI, gK_uCL, gN_uI, gN_uL, gN_uR, gN_uCI, gN_uCL, gR_uI, gR_uL, gR_uCI, gR_uCL, gI_uL, gI_uR, gI_uCL, gL_uI, gL_uR, gL_uCI, gz_uI, gz_uL, gz_uR, gz_uCI, gz_uCL, gs_uI, gs_uL, gs_uR, gs_uCI, gs_uCL, rI_at, rL_at, rR_at, rI_ne, rL_ne, rR_ne, rI_nk, rL_nk, rR_nk, rI_eq, rL_eq, rR_eq, Option.toList_some, Option.toList_none, List.cons_append, List.nil_append, List.append_nil, zc_eq, zc_lt, zc_le, zc_ge, zc_gt]
        all_goals exact hh
    · have hh := ih_z (k_z + 1) (by omega) (by omega) (by omega) (fun i_z i0_z i1_z => by
        by_cases ci : i_z = k_z
        · subst ci
          omega
        · exact hk i_z i0_z (by omega))
      rw [B_211_21]
      simp (disch := omega) only [hs.u, hT_z, B_211_39, B_211_47, B_211_48, inI, inL, isT, kInt, kByt, true_and, and_true, an_t, im_t, im_f, or_true, true_or, true_imp_iff, false_imp_iff, not_true_eq_false, not_false_eq_true, gK_uI, gK_uL, gK_uR, gK_uCI, gK_uCL, gN_uI, gN_uL, gN_uR, gN_uCI, gN_uCL, gR_uI, gR_uL, gR_uCI, gR_uCL, gI_uL, gI_uR, gI_uCL, gL_uI, gL_uR, gL_uCI, gz_uI, gz_uL, gz_uR, gz_uCI, gz_uCL, gs_uI, gs_uL, gs_uR, gs_uCI, gs_uCL, rI_at, rL_at, rR_at, rI_ne, rL_ne, rR_ne, rI_nk, rL_nk, rR_nk, rI_eq, rL_eq, rR_eq, Option.toList_some, Option.toList_none, List.cons_append, List.nil_append, List.append_nil, zc_eq, zc_lt, zc_le, zc_ge, zc_gt]
      all_goals exact hh
theorem X_areNum {l w_z n_z : Int} (hs : ShM T m) (hl : gI T m 36 = l) (hw : gI T (m + 19) l = w_z) (l0 : 0 ≤ l) (l1 : l < 5) (w0_z : 0 ≤ w_z) (w1_z : w_z ≤ 16) (n0_z : 0 ≤ n_z) (n1_z : n_z ≤ w_z) (hq : ∀ z_z : Int, ((z_z = 1 ∧ ∀ i_z, 0 ≤ i_z → i_z < n_z → 0 < gI T (m + 21) (16 * l + w_z - 1 - i_z)) ∨ (z_z = 0 ∧ ∃ i_z, 0 ≤ i_z ∧ i_z < n_z ∧ gI T (m + 21) (16 * l + w_z - 1 - i_z) ≤ 0)) → Q (some (a_i z_z)) T) : Call G J_M_areNumbers [a_r m, a_i n_z] T Q := by
  have hh := areNum_loop (Q := Q) (G := G) hs hl hw l0 l1 w1_z n1_z hq _ 0 rfl (by omega) n0_z (fun i_z i0_z i1_z => absurd i1_z (by omega))
  simp (disch := omega) only [E_M_areNumbers, B_211_0, B_211_18, hs.u, hl, hw, inI, inL, isT, kInt, kByt, true_and, and_true, an_t, im_t, im_f, or_true, true_or, true_imp_iff, false_imp_iff, not_true_eq_false, not_false_eq_true, gK_uI, gK_uL, gK_uR, gK_uCI, gK_uCL, gN_uI, gN_uL, gN_uR, gN_uCI, gN_uCL, gR_uI, gR_uL, gR_uCI, gR_uCL, gI_uL, gI_uR, gI_uCL, gL_uI, gL_uR, gL_uCI, gz_uI, gz_uL, gz_uR, gz_uCI, gz_uCL, gs_uI, gs_uL, gs_uR, gs_uCI, gs_uCL, rI_at, rL_at, rR_at, rI_ne, rL_ne, rR_ne, rI_nk, rL_nk, rR_nk, rI_eq, rL_eq, rR_eq, Option.toList_some, Option.toList_none, List.cons_append, List.nil_append, List.append_nil, zc_eq, zc_lt, zc_le, zc_ge, zc_gt]
  all_goals exact hh
/-- too few operands -/
theorem X_areOps0 {l w_z k_z : Int} (hs : ShM T m) (hl : gI T m 36 = l) (hw : gI T (m + 19) l = w_z) (l0 : 0 ≤ l) (l1 : l < 5) (k0_z : 0 ≤ k_z) (k1_z : k_z ≤ 22) (h_z : w_z < need k_z) (hq : Q (some (a_i 0)) T) : Call G J_M_areOperands [a_r m, a_i k_z] T Q := by
  simp (disch := omega) only [E_M_areOperands, B_207_0, X_needed k0_z k1_z, B_207_4, hs.u, hl, hw, inI, inL, isT, kInt, kByt, true_and, and_true, an_t, im_t, im_f, or_true, true_or, true_imp_iff, false_imp_iff, not_true_eq_false, not_false_eq_true, gK_uI, gK_uL, gK_uR, gK_uCI, gK_uCL, gN_uI, gN_uL, gN_uR, gN_uCI, gN_uCL, gR_uI, gR_uL, gR_uCI, gR_uCL, gI_uL, gI_uR, gI_uCL, gL_uI, gL_uR, gL_uCI, gz_uI, gz_uL, gz_uR, gz_uCI, gz_uCL, gs_uI, gs_uL, gs_uR, gs_uCI, gs_uCL, rI_at, rL_at, rR_at, rI_ne, rL_ne, rR_ne, rI_nk, rL_nk, rR_nk, rI_eq, rL_eq, rR_eq, Option.toList_some, Option.toList_none, List.cons_append, List.nil_append, List.append_nil, zc_eq, zc_lt, zc_le, zc_ge, zc_gt]
  all_goals exact hq
/-- numbers -/
theorem X_areOpsN {l w_z k_z : Int} (hs : ShM T m) (hl : gI T m 36 = l) (hw : gI T (m + 19) l = w_z) (l0 : 0 ≤ l) (l1 : l < 5) (w0_z : 0 ≤ w_z) (w1_z : w_z ≤ 16) (k0_z : 0 ≤ k_z) (k1_z : k_z ≤ 22) (kc_z : k_z < 12 ∨ 18 < k_z ∨ k_z = 15) (h_z : need k_z ≤ w_z) (hq : ∀ z_z : Int, ((z_z = 1 ∧ ∀ i_z, 0 ≤ i_z → i_z < need k_z → 0 < gI T (m + 21) (16 * l + w_z - 1 - i_z)) ∨ (z_z = 0 ∧ ∃ i_z, 0 ≤ i_z ∧ i_z < need k_z ∧ gI T (m + 21) (16 * l + w_z - 1 - i_z) ≤ 0)) → Q (some (a_i z_z)) T) : Call G J_M_areOperands [a_r m, a_i k_z] T Q := by
  have n0_z : 0 ≤ need k_z := by
    unfold need
    repeat' split
    all_goals decide
  have hh : Call G J_M_areNumbers [a_r m, a_i (need k_z)] T (fun r M2_z => At G 207 107 [a_r m, a_i k_z, a_i (need k_z)] r.toList M2_z Q) := X_areNum hs hl hw l0 l1 w0_z w1_z n0_z h_z (fun z_z hz => by
    have hh := hq z_z hz
    have z01 : z_z = 0 ∨ z_z = 1 := by
      rcases hz with hz | hz <;> omega
    simp (disch := omega) only [B_207_107, inI, inL, isT, kInt, kByt, true_and, and_true, an_t, im_t, im_f, or_true, true_or, true_imp_iff, false_imp_iff, not_true_eq_false, not_false_eq_true, gK_uI, gK_uL, gK_uR, gK_uCI, gK_uCL, gN_uI, gN_uL, gN_uR, gN_uCI, gN_uCL, gR_uI, gR_uL, gR_uCI, gR_uCL, gI_uL, gI_uR, gI_uCL, gL_uI, gL_uR, gL_uCI, gz_uI, gz_uL, gz_uR, gz_uCI, gz_uCL, gs_uI, gs_uL, gs_uR, gs_uCI, gs_uCL, rI_at, rL_at, rR_at, rI_ne, rL_ne, rR_ne, rI_nk, rL_nk, rR_nk, rI_eq, rL_eq, rR_eq, Option.toList_some, Option.toList_none, List.cons_append, List.nil_append, List.append_nil, zc_eq, zc_lt, zc_le, zc_ge, zc_gt]
    all_goals exact hh)
  simp (disch := omega) only [E_M_areOperands, B_207_0, X_needed k0_z k1_z, B_207_4, B_207_20, B_207_102, hs.u, hl, hw, inI, inL, isT, kInt, kByt, true_and, and_true, an_t, im_t, im_f, or_true, true_or, true_imp_iff, false_imp_iff, not_true_eq_false, not_false_eq_true, gK_uI, gK_uL, gK_uR, gK_uCI, gK_uCL, gN_uI, gN_uL, gN_uR, gN_uCI, gN_uCL, gR_uI, gR_uL, gR_uCI, gR_uCL, gI_uL, gI_uR, gI_uCL, gL_uI, gL_uR, gL_uCI, gz_uI, gz_uL, gz_uR, gz_uCI, gz_uCL, gs_uI, gs_uL, gs_uR, gs_uCI, gs_uCL, rI_at, rL_at, rR_at, rI_ne, rL_ne, rR_ne, rI_nk, rL_nk, rR_nk, rI_eq, rL_eq, rR_eq, Option.toList_some, Option.toList_none, List.cons_append, List.nil_append, List.append_nil, zc_eq, zc_lt, zc_le, zc_ge, zc_gt]
  all_goals first | exact hh | exact ⟨fun _ => hh, fun _ => hh⟩
/-- anything will do -/
theorem X_areOpsA {l w_z k_z : Int} (hs : ShM T m) (hl : gI T m 36 = l) (hw : gI T (m + 19) l = w_z) (l0 : 0 ≤ l) (l1 : l < 5) (kc_z : k_z = 16 ∨ k_z = 17 ∨ k_z = 18) (h_z : need k_z ≤ w_z) (hq : Q (some (a_i 1)) T) : Call G J_M_areOperands [a_r m, a_i k_z] T Q := by
  have hN_z := fun qq => X_needed (G := G) (T := T) (Q := qq) (k_z := k_z) (by omega) (by omega)
  generalize need k_z = nn at *
  rcases kc_z with kc_z | kc_z | kc_z <;> subst kc_z <;> simp (disch := omega) only [E_M_areOperands, B_207_0, hN_z, B_207_4, B_207_20, B_207_100, hs.u, hl, hw, inI, inL, isT, kInt, kByt, true_and, and_true, an_t, im_t, im_f, or_true, true_or, true_imp_iff, false_imp_iff, not_true_eq_false, not_false_eq_true, gK_uI, gK_uL, gK_uR, gK_uCI, gK_uCL, gN_uI, gN_uL, gN_uR, gN_uCI, gN_uCL, gR_uI, gR_uL, gR_uCI, gR_uCL, gI_uL, gI_uR, gI_uCL, gL_uI, gL_uR, gL_uCI, gz_uI, gz_uL, gz_uR, gz_uCI, gz_uCL, gs_uI, gs_uL, gs_uR, gs_uCI, gs_uCL, rI_at, rL_at, rR_at, rI_ne, rL_ne, rR_ne, rI_nk, rL_nk, rR_nk, rI_eq, rL_eq, rR_eq, Option.toList_some, Option.toList_none, List.cons_append, List.nil_append, List.append_nil, zc_eq, zc_lt, zc_le, zc_ge, zc_gt] <;> exact hq
/-- the class asks for operands -/
theorem hasOps_loop {o : Nat} {w_z n_z : Int} (h_z : ShFr M r) (hk : gK M o = 41) (h2 : gI M o 2 = n_z) (h3 : gI M o 3 ≠ 0) (hw : gI M r 6 = w_z) (w1_z : w_z ≤ 16) (n1_z : n_z ≤ w_z) (hv : ∀ i_z, 0 ≤ i_z → i_z < w_z → NV (gL M (r + 1) i_z) ∨ fd (gL M (r + 1) i_z) = 0) (hq : ∀ z_z : Int, ((z_z = 1 ∧ ∀ i_z, 0 ≤ i_z → i_z < n_z → NV (gL M (r + 1) (w_z - 1 - i_z))) ∨ (z_z = 0 ∧ ∃ i_z, 0 ≤ i_z ∧ i_z < n_z ∧ fd (gL M (r + 1) (w_z - 1 - i_z)) = 0)) → Q (some (a_i z_z)) M) : ∀ (f_z : Nat) (k_z : Int), (n_z - k_z).toNat = f_z → 0 ≤ k_z → k_z ≤ n_z → (∀ i_z, 0 ≤ i_z → i_z < k_z → NV (gL M (r + 1) (w_z - 1 - i_z))) → At G 87 15 [a_r r, a_r o, a_i k_z] [] M Q := by
  intro f_z
  induction f_z with
  | zero =>
    intro k_z hf k0_z k1_z hk2
    have hh := hq 1 (Or.inl ⟨rfl, fun i_z i0_z i1_z => hk2 i_z i0_z (by omega)⟩)
    rw [B_87_15]
    simp (disch := omega) only [hk, h2, h3, B_87_49, inI, inL, isT, kInt, kByt, true_and, and_true, an_t, im_t, im_f, or_true, true_or, true_imp_iff, false_imp_iff, not_true_eq_false, not_false_eq_true, gK_uI, gK_uL, gK_uR, gK_uCI, gK_uCL, gN_uI, gN_uL, gN_uR, gN_uCI, gN_uCL, gR_uI, gR_uL, gR_uCI, gR_uCL, gI_uL, gI_uR, gI_uCL, gL_uI, gL_uR, gL_uCI, gz_uI, gz_uL, gz_uR, gz_uCI, gz_uCL, gs_uI, gs_uL, gs_uR, gs_uCI, gs_uCL, rI_at, rL_at, rR_at, rI_ne, rL_ne, rR_ne, rI_nk, rL_nk, rR_nk, rI_eq, rL_eq, rR_eq, Option.toList_some, Option.toList_none, List.cons_append, List.nil_append, List.append_nil, zc_eq, zc_lt, zc_le, zc_ge, zc_gt]
    all_goals exact hh
  | succ f_z ih_z =>
    intro k_z hf k0_z k1_z hk2
    have hP := fun qq => X_peek (G := G) (Q := qq) (x_z := k_z) h_z k0_z (by omega) (by omega)
    rw [hw] at hP
    rcases hv (w_z - 1 - k_z) (by omega) (by omega) with hn | hn
    · have hI := fun qq => X_isNum (G := G) (M := M) (Q := qq) hn
      have hh := ih_z (k_z + 1) (by omega) (by omega) (by omega) (fun i_z i0_z i1_z => by
        by_cases ci : i_z = k_z
        · subst ci
          exact hn
        · exact hk2 i_z i0_z (by omega))
      rw [B_87_15]
      simp (disch := omega) only [hk, h2, h3, h_z.u, hP, B_87_35, hI, B_87_38, B_87_43, inI, inL, isT, kInt, kByt, true_and, and_true, an_t, im_t, im_f, or_true, true_or, true_imp_iff, false_imp_iff, not_true_eq_false, not_false_eq_true, gK_uI, gK_uL, gK_uR, gK_uCI, gK_uCL, gN_uI, gN_uL, gN_uR, gN_uCI, gN_uCL, gR_uI, gR_uL, gR_uCI, gR_uCL, gI_uL, gI_uR, gI_uCL, gL_uI, gL_uR, gL_uCI, gz_uI, gz_uL, gz_uR, gz_uCI, gz_uCL, gs_uI, gs_uL, gs_uR, gs_uCI, gs_uCL, rI_at, rL_at, rR_at, rI_ne, rL_ne, rR_ne, rI_nk, rL_nk, rR_nk, rI_eq, rL_eq, rR_eq, Option.toList_some, Option.toList_none, List.cons_append, List.nil_append, List.append_nil, zc_eq, zc_lt, zc_le, zc_ge, zc_gt]
      all_goals exact hh
    · have hI := fun qq => X_isNumN (G := G) (M := M) (Q := qq) hn
      have hh := hq 0 (Or.inr ⟨rfl, k_z, k0_z, by omega, hn⟩)
      rw [B_87_15]
      simp (disch := omega) only [hk, h2, h3, h_z.u, hP, B_87_35, hI, B_87_38, B_87_43, inI, inL, isT, kInt, kByt, true_and, and_true, an_t, im_t, im_f, or_true, true_or, true_imp_iff, false_imp_iff, not_true_eq_false, not_false_eq_true, gK_uI, gK_uL, gK_uR, gK_uCI, gK_uCL, gN_uI, gN_uL, gN_uR, gN_uCI, gN_uCL, gR_uI, gR_uL, gR_uCI, gR_uCL, gI_uL, gI_uR, gI_uCL, gL_uI, gL_uR, gL_uCI, gz_uI, gz_uL, gz_uR, gz_uCI, gz_uCL, gs_uI, gs_uL, gs_uR, gs_uCI, gs_uCL, rI_at, rL_at, rR_at, rI_ne, rL_ne, rR_ne, rI_nk, rL_nk, rR_nk, rI_eq, rL_eq, rR_eq, Option.toList_some, Option.toList_none, List.cons_append, List.nil_append, List.append_nil, zc_eq, zc_lt, zc_le, zc_ge, zc_gt]
      all_goals exact hh
theorem X_hasOps {o : Nat} {w_z n_z : Int} (h_z : ShFr M r) (hk : gK M o = 41) (h2 : gI M o 2 = n_z) (hw : gI M r 6 = w_z) (w0_z : 0 ≤ w_z) (w1_z : w_z ≤ 16) (n0_z : 0 ≤ n_z) (hv : ∀ i_z, 0 ≤ i_z → i_z < w_z → NV (gL M (r + 1) i_z) ∨ fd (gL M (r + 1) i_z) = 0) (hq : ∀ z_z : Int, ((z_z = 1 ∧ n_z ≤ w_z ∧ (gI M o 3 ≠ 0 → ∀ i_z, 0 ≤ i_z → i_z < n_z → NV (gL M (r + 1) (w_z - 1 - i_z)))) ∨ (z_z = 0 ∧ (w_z < n_z ∨ (n_z ≤ w_z ∧ gI M o 3 ≠ 0 ∧ ∃ i_z, 0 ≤ i_z ∧ i_z < n_z ∧ fd (gL M (r + 1) (w_z - 1 - i_z)) = 0)))) → Q (some (a_i z_z)) M) : Call G J_Fr_hasOperandsOf [a_r r, a_r o] M Q := by
  by_cases c1_z : n_z ≤ w_z
  · by_cases c3_z : gI M o 3 = 0
    · have hh := hq 1 (Or.inl ⟨rfl, c1_z, fun q_z => absurd c3_z q_z⟩)
      simp (disch := omega) only [E_Fr_hasOperandsOf, B_87_0, B_87_13, h_z.u, hk, h2, hw, inI, inL, isT, kInt, kByt, true_and, and_true, an_t, im_t, im_f, or_true, true_or, true_imp_iff, false_imp_iff, not_true_eq_false, not_false_eq_true, gK_uI, gK_uL, gK_uR, gK_uCI, gK_uCL, gN_uI, gN_uL, gN_uR, gN_uCI, gN_uCL, gR_uI, gR_uL, gR_uCI, gR_uCL, gI_uL, gI_uR, gI_uCL, gL_uI, gL_uR, gL_uCI, gz_uI, gz_uL, gz_uR, gz_uCI, gz_uCL, gs_uI, gs_uL, gs_uR, gs_uCI, gs_uCL, rI_at, rL_at, rR_at, rI_ne, rL_ne, rR_ne, rI_nk, rL_nk, rR_nk, rI_eq, rL_eq, rR_eq, Option.toList_some, Option.toList_none, List.cons_append, List.nil_append, List.append_nil, zc_eq, zc_lt, zc_le, zc_ge, zc_gt]
      rw [B_87_15]
      simp (disch := omega) only [hk, c3_z, B_87_49, inI, inL, isT, kInt, kByt, true_and, and_true, an_t, im_t, im_f, or_true, true_or, true_imp_iff, false_imp_iff, not_true_eq_false, not_false_eq_true, gK_uI, gK_uL, gK_uR, gK_uCI, gK_uCL, gN_uI, gN_uL, gN_uR, gN_uCI, gN_uCL, gR_uI, gR_uL, gR_uCI, gR_uCL, gI_uL, gI_uR, gI_uCL, gL_uI, gL_uR, gL_uCI, gz_uI, gz_uL, gz_uR, gz_uCI, gz_uCL, gs_uI, gs_uL, gs_uR, gs_uCI, gs_uCL, rI_at, rL_at, rR_at, rI_ne, rL_ne, rR_ne, rI_nk, rL_nk, rR_nk, rI_eq, rL_eq, rR_eq, Option.toList_some, Option.toList_none, List.cons_append, List.nil_append, List.append_nil, zc_eq, zc_lt, zc_le, zc_ge, zc_gt]
      all_goals exact hh
    · have hh := hasOps_loop (Q := Q) (G := G) h_z hk h2 c3_z hw w1_z c1_z hv (fun z_z hz => hq z_z (by
        rcases hz with ⟨z1, hz⟩ | ⟨z1, hz⟩
        · exact Or.inl ⟨z1, c1_z, fun _ => hz⟩
        · exact Or.inr ⟨z1, Or.inr ⟨c1_z, c3_z, hz⟩⟩)) _ 0 rfl (by omega) n0_z (fun i_z i0_z i1_z => absurd i1_z (by omega))
      simp (disch := omega) only [E_Fr_hasOperandsOf, B_87_0, B_87_13, h_z.u, hk, h2, hw, inI, inL, isT, kInt, kByt, true_and, and_true, an_t, im_t, im_f, or_true, true_or, true_imp_iff, false_imp_iff, not_true_eq_false, not_false_eq_true, gK_uI, gK_uL, gK_uR, gK_uCI, gK_uCL, gN_uI, gN_uL, gN_uR, gN_uCI, gN_uCL, gR_uI, gR_uL, gR_uCI, gR_uCL, gI_uL, gI_uR, gI_uCL, gL_uI, gL_uR, gL_uCI, gz_uI, gz_uL, gz_uR, gz_uCI, gz_uCL, gs_uI, gs_uL, gs_uR, gs_uCI, gs_uCL, rI_at, rL_at, rR_at, rI_ne, rL_ne, rR_ne, rI_nk, rL_nk, rR_nk, rI_eq, rL_eq, rR_eq, Option.toList_some, Option.toList_none, List.cons_append, List.nil_append, List.append_nil, zc_eq, zc_lt, zc_le, zc_ge, zc_gt]
      all_goals exact hh
  · have hh := hq 0 (Or.inr ⟨rfl, Or.inl (by omega)⟩)
    simp (disch := omega) only [E_Fr_hasOperandsOf, B_87_0, h_z.u, hk, h2, hw, inI, inL, isT, kInt, kByt, true_and, and_true, an_t, im_t, im_f, or_true, true_or, true_imp_iff, false_imp_iff, not_true_eq_false, not_false_eq_true, gK_uI, gK_uL, gK_uR, gK_uCI, gK_uCL, gN_uI, gN_uL, gN_uR, gN_uCI, gN_uCL, gR_uI, gR_uL, gR_uCI, gR_uCL, gI_uL, gI_uR, gI_uCL, gL_uI, gL_uR, gL_uCI, gz_uI, gz_uL, gz_uR, gz_uCI, gz_uCL, gs_uI, gs_uL, gs_uR, gs_uCI, gs_uCL, rI_at, rL_at, rR_at, rI_ne, rL_ne, rR_ne, rI_nk, rL_nk, rR_nk, rI_eq, rL_eq, rR_eq, Option.toList_some, Option.toList_none, List.cons_append, List.nil_append, List.append_nil, zc_eq, zc_lt, zc_le, zc_ge, zc_gt]
    all_goals exact hh
/-- what is wrong with an operator that takes no name and doesn't divide -/
theorem X_wrongN {k_z : Int} (hs : ShM T m) (k0_z : 0 ≤ k_z) (k1_z : k_z < 22) (kc_z : k_z ≠ 12 ∧ k_z ≠ 13) (hb_z : gI T m 49 ≠ gI T (m + 1) 1215) (ha_z : ∀ qq : Option AV → Mem → Prop, qq (some (a_i 1)) T → Call G J_M_areOperands [a_r m, a_i k_z] T qq)
    (ht : Call G J_M_isTooMuch [a_r m, a_i k_z] (uI T m 16 0) (fun q_z T1 => ∃ z_z : Int, q_z = some (a_i z_z) ∧ ShM T1 m ∧ (gI T1 m 16 = 0 ∨ gI T1 m 16 = 1) ∧ ((z_z ≠ 0 ∨ gI T1 m 16 = 1) → Q (some (a_i 6)) T1) ∧ (z_z = 0 → gI T1 m 16 = 0 → Q (some (a_i 0)) T1))) : Call G J_M_wrong [a_r m, a_i k_z] T Q := by
  have hw : Call G J_M_isTooMuch [a_r m, a_i k_z] (uI T m 16 0) (fun r M2_z => At G 206 119 [a_r m, a_i k_z, a_i 0] r.toList M2_z Q) := Call.weak ht (fun q_z T1 hq => by
    obtain ⟨z_z, eq, hs1, hf, h6, h0⟩ := hq
    subst eq
    by_cases cz : z_z = 0
    · rcases hf with hf | hf
      · have hh := h0 cz hf
        simp (disch := omega) only [B_206_119, B_206_134, B_206_135, hs1.u, hf, inI, inL, isT, kInt, kByt, true_and, and_true, an_t, im_t, im_f, or_true, true_or, true_imp_iff, false_imp_iff, not_true_eq_false, not_false_eq_true, gK_uI, gK_uL, gK_uR, gK_uCI, gK_uCL, gN_uI, gN_uL, gN_uR, gN_uCI, gN_uCL, gR_uI, gR_uL, gR_uCI, gR_uCL, gI_uL, gI_uR, gI_uCL, gL_uI, gL_uR, gL_uCI, gz_uI, gz_uL, gz_uR, gz_uCI, gz_uCL, gs_uI, gs_uL, gs_uR, gs_uCI, gs_uCL, rI_at, rL_at, rR_at, rI_ne, rL_ne, rR_ne, rI_nk, rL_nk, rR_nk, rI_eq, rL_eq, rR_eq, Option.toList_some, Option.toList_none, List.cons_append, List.nil_append, List.append_nil, zc_eq, zc_lt, zc_le, zc_ge, zc_gt]
        all_goals exact hh
      · have hh := h6 (Or.inr hf)
        simp (disch := omega) only [B_206_119, B_206_129, B_206_135, hs1.u, hf, inI, inL, isT, kInt, kByt, true_and, and_true, an_t, im_t, im_f, or_true, true_or, true_imp_iff, false_imp_iff, not_true_eq_false, not_false_eq_true, gK_uI, gK_uL, gK_uR, gK_uCI, gK_uCL, gN_uI, gN_uL, gN_uR, gN_uCI, gN_uCL, gR_uI, gR_uL, gR_uCI, gR_uCL, gI_uL, gI_uR, gI_uCL, gL_uI, gL_uR, gL_uCI, gz_uI, gz_uL, gz_uR, gz_uCI, gz_uCL, gs_uI, gs_uL, gs_uR, gs_uCI, gs_uCL, rI_at, rL_at, rR_at, rI_ne, rL_ne, rR_ne, rI_nk, rL_nk, rR_nk, rI_eq, rL_eq, rR_eq, Option.toList_some, Option.toList_none, List.cons_append, List.nil_append, List.append_nil, zc_eq, zc_lt, zc_le, zc_ge, zc_gt]
        all_goals exact hh
    · have hh := h6 (Or.inl cz)
      simp (disch := omega) only [B_206_119, B_206_129, B_206_135, hs1.u, inI, inL, isT, kInt, kByt, true_and, and_true, an_t, im_t, im_f, or_true, true_or, true_imp_iff, false_imp_iff, not_true_eq_false, not_false_eq_true, gK_uI, gK_uL, gK_uR, gK_uCI, gK_uCL, gN_uI, gN_uL, gN_uR, gN_uCI, gN_uCL, gR_uI, gR_uL, gR_uCI, gR_uCL, gI_uL, gI_uR, gI_uCL, gL_uI, gL_uR, gL_uCI, gz_uI, gz_uL, gz_uR, gz_uCI, gz_uCL, gs_uI, gs_uL, gs_uR, gs_uCI, gs_uCL, rI_at, rL_at, rR_at, rI_ne, rL_ne, rR_ne, rI_nk, rL_nk, rR_nk, rI_eq, rL_eq, rR_eq, Option.toList_some, Option.toList_none, List.cons_append, List.nil_append, List.append_nil, zc_eq, zc_lt, zc_le, zc_ge, zc_gt]
      all_goals exact hh)
  simp (disch := omega) only [E_M_wrong, B_206_0, B_206_17, hs.u, inI, inL, isT, kInt, kByt, true_and, and_true, an_t, im_t, im_f, or_true, true_or, true_imp_iff, false_imp_iff, not_true_eq_false, not_false_eq_true, gK_uI, gK_uL, gK_uR, gK_uCI, gK_uCL, gN_uI, gN_uL, gN_uR, gN_uCI, gN_uCL, gR_uI, gR_uL, gR_uCI, gR_uCL, gI_uL, gI_uR, gI_uCL, gL_uI, gL_uR, gL_uCI, gz_uI, gz_uL, gz_uR, gz_uCI, gz_uCL, gs_uI, gs_uL, gs_uR, gs_uCI, gs_uCL, rI_at, rL_at, rR_at, rI_ne, rL_ne, rR_ne, rI_nk, rL_nk, rR_nk, rI_eq, rL_eq, rR_eq, Option.toList_some, Option.toList_none, List.cons_append, List.nil_append, List.append_nil, zc_eq, zc_lt, zc_le, zc_ge, zc_gt]
  refine ha_z _ ?_
  simp (disch := omega) only [B_206_22, B_206_27, B_206_50, B_206_51, B_206_66, B_206_88, B_206_109, hs.u, inI, inL, isT, kInt, kByt, true_and, and_true, an_t, im_t, im_f, or_true, true_or, true_imp_iff, false_imp_iff, not_true_eq_false, not_false_eq_true, gK_uI, gK_uL, gK_uR, gK_uCI, gK_uCL, gN_uI, gN_uL, gN_uR, gN_uCI, gN_uCL, gR_uI, gR_uL, gR_uCI, gR_uCL, gI_uL, gI_uR, gI_uCL, gL_uI, gL_uR, gL_uCI, gz_uI, gz_uL, gz_uR, gz_uCI, gz_uCL, gs_uI, gs_uL, gs_uR, gs_uCI, gs_uCL, rI_at, rL_at, rR_at, rI_ne, rL_ne, rR_ne, rI_nk, rL_nk, rR_nk, rI_eq, rL_eq, rR_eq, Option.toList_some, Option.toList_none, List.cons_append, List.nil_append, List.append_nil, zc_eq, zc_lt, zc_le, zc_ge, zc_gt]
  all_goals exact hw
theorem X_wrongB {k_z : Int} (hs : ShM T m) (hb_z : gI T m 49 = gI T (m + 1) 1215) (hq : Q (some (a_i 1)) T) : Call G J_M_wrong [a_r m, a_i k_z] T Q := by
  simp (disch := omega) only [E_M_wrong, B_206_0, hs.u, inI, inL, isT, kInt, kByt, true_and, and_true, an_t, im_t, im_f, or_true, true_or, true_imp_iff, false_imp_iff, not_true_eq_false, not_false_eq_true, gK_uI, gK_uL, gK_uR, gK_uCI, gK_uCL, gN_uI, gN_uL, gN_uR, gN_uCI, gN_uCL, gR_uI, gR_uL, gR_uCI, gR_uCL, gI_uL, gI_uR, gI_uCL, gL_uI, gL_uR, gL_uCI, gz_uI, gz_uL, gz_uR, gz_uCI, gz_uCL, gs_uI, gs_uL, gs_uR, gs_uCI, gs_uCL, rI_at, rL_at, rR_at, rI_ne, rL_ne, rR_ne, rI_nk, rL_nk, rR_nk, rI_eq, rL_eq, rR_eq, Option.toList_some, Option.toList_none, List.cons_append, List.nil_append, List.append_nil, zc_eq, zc_lt, zc_le, zc_ge, zc_gt]
  all_goals exact hq
theorem X_wrongO {k_z : Int} (hs : ShM T m) (hb_z : gI T m 49 ≠ gI T (m + 1) 1215) (ha_z : ∀ qq : Option AV → Mem → Prop, qq (some (a_i 0)) T → Call G J_M_areOperands [a_r m, a_i k_z] T qq) (hq : Q (some (a_i 2)) T) : Call G J_M_wrong [a_r m, a_i k_z] T Q := by
  simp (disch := omega) only [E_M_wrong, B_206_0, B_206_17, hs.u, inI, inL, isT, kInt, kByt, true_and, and_true, an_t, im_t, im_f, or_true, true_or, true_imp_iff, false_imp_iff, not_true_eq_false, not_false_eq_true, gK_uI, gK_uL, gK_uR, gK_uCI, gK_uCL, gN_uI, gN_uL, gN_uR, gN_uCI, gN_uCL, gR_uI, gR_uL, gR_uCI, gR_uCL, gI_uL, gI_uR, gI_uCL, gL_uI, gL_uR, gL_uCI, gz_uI, gz_uL, gz_uR, gz_uCI, gz_uCL, gs_uI, gs_uL, gs_uR, gs_uCI, gs_uCL, rI_at, rL_at, rR_at, rI_ne, rL_ne, rR_ne, rI_nk, rL_nk, rR_nk, rI_eq, rL_eq, rR_eq, Option.toList_some, Option.toList_none, List.cons_append, List.nil_append, List.append_nil, zc_eq, zc_lt, zc_le, zc_ge, zc_gt]
  refine ha_z _ ?_
  simp (disch := omega) only [B_206_22, inI, inL, isT, kInt, kByt, true_and, and_true, an_t, im_t, im_f, or_true, true_or, true_imp_iff, false_imp_iff, not_true_eq_false, not_false_eq_true, gK_uI, gK_uL, gK_uR, gK_uCI, gK_uCL, gN_uI, gN_uL, gN_uR, gN_uCI, gN_uCL, gR_uI, gR_uL, gR_uCI, gR_uCL, gI_uL, gI_uR, gI_uCL, gL_uI, gL_uR, gL_uCI, gz_uI, gz_uL, gz_uR, gz_uCI, gz_uCL, gs_uI, gs_uL, gs_uR, gs_uCI, gs_uCL, rI_at, rL_at, rR_at, rI_ne, rL_ne, rR_ne, rI_nk, rL_nk, rR_nk, rI_eq, rL_eq, rR_eq, Option.toList_some, Option.toList_none, List.cons_append, List.nil_append, List.append_nil, zc_eq, zc_lt, zc_le, zc_ge, zc_gt]
  exact hq
end YA
