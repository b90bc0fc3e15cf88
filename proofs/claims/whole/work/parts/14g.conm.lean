/-! THE PURE PART, part 14: concat, the class's method and what the model does. Own work. -/
section AF
variable {G : Env0} {Q : Option AV → Mem → Prop} {M T : Mem} {c s m r : Nat}
theorem X_concat {op_z mt_z : Int → Int} {g_z : Nat} {w_z tp : Int} (hs : ShMa M c) (hf : ShFr M r) (ht : gI M c 12 = tp) (t0_z : 0 ≤ tp) (t1_z : tp < 35) (hgg : c + 42 + 3 * tp.toNat = g_z) (hw : gI M r 6 = w_z) (w0_z : 6 ≤ w_z) (w1_z : w_z ≤ 16) (hop : ∀ x_z, 0 ≤ x_z → x_z < 6 → NV (op_z x_z)) (ho : ∀ x_z, 0 ≤ x_z → x_z < 6 → gL M (r + 1) (w_z - 1 - x_z) = op_z x_z) (hm_z : ∀ i_z : Int, 0 ≤ i_z → i_z < 6 → NV (mt_z i_z)) (hmt : gL M (g_z + 1) = mt_z) (hr : c + 22 ≤ r)
    (h6 : (∃ j_z, 0 ≤ j_z ∧ j_z < 6 ∧ pv mt_z op_z j_z = -1) → ∀ M', Ex (fun a_z => a_z = c + 20) M M' → Q (some (a_i 6)) M')
    (h0 : (∀ j_z, 0 ≤ j_z → j_z < 6 → NV (pv mt_z op_z j_z)) → ∀ M', Ex (fun a_z => a_z = c + 20) M M' → (∀ j_z, 0 ≤ j_z → j_z < 6 → gL M' (c + 20) j_z = pv mt_z op_z j_z) → Q (some (a_i 0)) (uI (uCL M' (g_z + 1) 0 (c + 20) 0 6) r 6 (w_z - 6))) : Call G J_Ma_concat [a_r c, a_r r] M Q := by
  have sG := hs.gr (d_z := tp) t0_z t1_z
  rw [hgg] at sG
  obtain ⟨sG1, sG2⟩ := sG
  have lp := cc_loop (G := G) (Q := Q) hs hf sG2 hw w0_z w1_z hop ho hm_z hmt (by omega) hr h6 h0 6 0 1 M a_u a_u a_u a_u a_u rfl (by decide) (by decide) (Ex.refl _ _) (fun j_z j0 j1 => by omega) (Or.inl ⟨rfl, fun j_z j0 j1 => by omega⟩)
  simp (disch := omega) only [E_Ma_concat, B_91_0, hs.1.u, ht, sG1, sG2.u, inI, inL, isT, kInt, kByt, true_and, and_true, an_t, im_t, im_f, or_true, true_or, true_imp_iff, false_imp_iff, not_true_eq_false, not_false_eq_true, gK_uI, gK_uL, gK_uR, gK_uCI, gK_uCL, gN_uI, gN_uL, gN_uR, gN_uCI, gN_uCL, gR_uI, gR_uL, gR_uCI, gR_uCL, gI_uL, gI_uR, gI_uCL, gL_uI, gL_uR, gL_uCI, gz_uI, gz_uL, gz_uR, gz_uCI, gz_uCL, gs_uI, gs_uL, gs_uR, gs_uCI, gs_uCL, rI_at, rL_at, rR_at, rI_ne, rL_ne, rR_ne, rI_nk, rL_nk, rR_nk, rI_eq, rL_eq, rR_eq, Option.toList_some, Option.toList_none, List.cons_append, List.nil_append, List.append_nil, zc_eq, zc_lt, zc_le, zc_ge, zc_gt]
  exact lp
theorem X_tooM {d_z : Nat} {w_z : Int} {op_z mt_z : Int → Int} (hs : ShM T m) (hl : gI T m 36 = (d_z : Int)) (hw : gI T (m + 19) d_z = w_z) (l1 : d_z < 5) (w0_z : 6 ≤ w_z) (w1_z : w_z ≤ 16) (hf : gI T m 16 = 0) (hg : GV T m mt_z) (hop : ∀ x_z, 0 ≤ x_z → x_z < 6 → NV (op_z x_z)) (ops : ∀ i_z, 0 ≤ i_z → i_z < 6 → gI T (m + 20) (16 * d_z + w_z - 1 - i_z) = fu (op_z i_z) ∧ gI T (m + 21) (16 * d_z + w_z - 1 - i_z) = fd (op_z i_z)) (h_z : ∀ T1, Sy T T1 m → MuI T1 m mt_z op_z 6 → Q (some (a_i 0)) T1) : Call G J_M_isTooMuch [a_r m, a_i 2] T Q := by
  have tp : ∀ k_z, tpM T m k_z = 16 * d_z + w_z - 1 - k_z := fun k_z => by
    unfold tpM
    rw [hl, hw]
  simp (disch := omega) only [E_M_isTooMuch, B_215_0, B_215_100, hs.u, inI, inL, isT, kInt, kByt, true_and, and_true, an_t, im_t, im_f, or_true, true_or, true_imp_iff, false_imp_iff, not_true_eq_false, not_false_eq_true, gK_uI, gK_uL, gK_uR, gK_uCI, gK_uCL, gN_uI, gN_uL, gN_uR, gN_uCI, gN_uCL, gR_uI, gR_uL, gR_uCI, gR_uCL, gI_uL, gI_uR, gI_uCL, gL_uI, gL_uR, gL_uCI, gz_uI, gz_uL, gz_uR, gz_uCI, gz_uCL, gs_uI, gs_uL, gs_uR, gs_uCI, gs_uCL, rI_at, rL_at, rR_at, rI_ne, rL_ne, rR_ne, rI_nk, rL_nk, rR_nk, rI_eq, rL_eq, rR_eq, Option.toList_some, Option.toList_none, List.cons_append, List.nil_append, List.append_nil, zc_eq, zc_lt, zc_le, zc_ge, zc_gt]
  refine X_multiplies (op_z := op_z) (mt := mt_z) hs hg ⟨by omega, by omega, by rw [hl, hw]; omega, by rw [hl, hw]; omega⟩ (by rw [hl, hw]; exact w0_z) hf (fun k_z k0_z k1_z => ⟨hop k_z k0_z k1_z, by rw [tp]; exact (ops k_z k0_z k1_z).1, by rw [tp]; exact (ops k_z k0_z k1_z).2⟩) (fun T1 hy hc_z => ?_)
  have hh := h_z T1 hy hc_z
  simp (disch := omega) only [B_215_104, inI, inL, isT, kInt, kByt, true_and, and_true, an_t, im_t, im_f, or_true, true_or, true_imp_iff, false_imp_iff, not_true_eq_false, not_false_eq_true, gK_uI, gK_uL, gK_uR, gK_uCI, gK_uCL, gN_uI, gN_uL, gN_uR, gN_uCI, gN_uCL, gR_uI, gR_uL, gR_uCI, gR_uCL, gI_uL, gI_uR, gI_uCL, gL_uI, gL_uR, gL_uCI, gz_uI, gz_uL, gz_uR, gz_uCI, gz_uCL, gs_uI, gs_uL, gs_uR, gs_uCI, gs_uCL, rI_at, rL_at, rR_at, rI_ne, rL_ne, rR_ne, rI_nk, rL_nk, rR_nk, rI_eq, rL_eq, rR_eq, Option.toList_some, Option.toList_none, List.cons_append, List.nil_append, List.append_nil, zc_eq, zc_lt, zc_le, zc_ge, zc_gt]
  all_goals exact hh
theorem cp12 {a2 a3 a4 : Int} (hs : ShM T m) (h_z : ∀ K_z, Ex (fun r => r = m + 6) T K_z → gI K_z (m + 6) = rc (gI T (m + 6)) 0 (gI T (m + 26)) 0 12 → Q none K_z) : ∀ (n_z : Nat) (k_z : Int) (K_z : Mem), (12 - k_z).toNat = n_z → 0 ≤ k_z → k_z ≤ 12 → Ex (fun r => r = m + 6) T K_z → gI K_z (m + 6) = rc (gI T (m + 6)) 0 (gI T (m + 26)) 0 k_z → At G 228 181 [a_r m, a_i 2, a_i a2, a_i a3, a_i a4, a_i k_z] [] K_z Q := by
  intro n_z
  induction n_z with
  | zero =>
    intro k_z K_z hn k0_z k1_z hE hr
    have : k_z = 12 := by omega
    subst this
    have hh := h_z K_z hE hr
    rw [B_228_181]
    simp (disch := omega) only [B_228_208, B_228_353, inI, inL, isT, kInt, kByt, true_and, and_true, an_t, im_t, im_f, or_true, true_or, true_imp_iff, false_imp_iff, not_true_eq_false, not_false_eq_true, gK_uI, gK_uL, gK_uR, gK_uCI, gK_uCL, gN_uI, gN_uL, gN_uR, gN_uCI, gN_uCL, gR_uI, gR_uL, gR_uCI, gR_uCL, gI_uL, gI_uR, gI_uCL, gL_uI, gL_uR, gL_uCI, gz_uI, gz_uL, gz_uR, gz_uCI, gz_uCL, gs_uI, gs_uL, gs_uR, gs_uCI, gs_uCL, rI_at, rL_at, rR_at, rI_ne, rL_ne, rR_ne, rI_nk, rL_nk, rR_nk, rI_eq, rL_eq, rR_eq, Option.toList_some, Option.toList_none, List.cons_append, List.nil_append, List.append_nil, zc_eq, zc_lt, zc_le, zc_ge, zc_gt]
    all_goals exact hh
  | succ n_z ih_z =>
    intro k_z K_z hn k0_z k1_z hE hr
    have hs1 : ShM K_z m := Ex.sh hE hs
    have e26_z : gI K_z (m + 26) = gI T (m + 26) := (hE.2.2.2.2.2 (m + 26) (by omega)).1
    have hh := ih_z (k_z + 1) (uI K_z (m + 6) k_z (gI K_z (m + 26) k_z)) (by omega) (by omega) (by omega) (hE.uI _ _ rfl) (by
      rw [rI_row, hr, e26_z]
      have q_z := rc_step (gI T (m + 6)) 0 (gI T (m + 26)) 0 k0_z
      rw [Int.zero_add] at q_z
      exact q_z)
    rw [B_228_181]
    simp (disch := omega) only [hs1.u, inI, inL, isT, kInt, kByt, true_and, and_true, an_t, im_t, im_f, or_true, true_or, true_imp_iff, false_imp_iff, not_true_eq_false, not_false_eq_true, gK_uI, gK_uL, gK_uR, gK_uCI, gK_uCL, gN_uI, gN_uL, gN_uR, gN_uCI, gN_uCL, gR_uI, gR_uL, gR_uCI, gR_uCL, gI_uL, gI_uR, gI_uCL, gL_uI, gL_uR, gL_uCI, gz_uI, gz_uL, gz_uR, gz_uCI, gz_uCL, gs_uI, gs_uL, gs_uR, gs_uCI, gs_uCL, rI_at, rL_at, rR_at, rI_ne, rL_ne, rR_ne, rI_nk, rL_nk, rR_nk, rI_eq, rL_eq, rR_eq, Option.toList_some, Option.toList_none, List.cons_append, List.nil_append, List.append_nil, zc_eq, zc_lt, zc_le, zc_ge, zc_gt]
    all_goals exact hh
theorem X_doesV2 {d_z : Nat} {w_z : Int} (hs : ShM T m) (hl : gI T m 36 = (d_z : Int)) (hw : gI T (m + 19) d_z = w_z) (l1 : d_z < 5) (w0_z : 6 ≤ w_z) (w1_z : w_z ≤ 16) (h_z : ∀ K_z, Ex (fun r => r = m + 6) (uI T (m + 19) d_z (w_z - 6)) K_z → gI K_z (m + 6) = rc (gI T (m + 6)) 0 (gI T (m + 26)) 0 12 → Q none K_z) : Call G J_M_does [a_r m, a_i 2] T Q := by
  have n17 := fun qq => X_needed (G := G) (T := T) (Q := qq) (k_z := 2) (by omega) (by omega)
  rw [show need 2 = 6 from by decide] at n17
  have hs3 : ShM (uI T (m + 19) d_z (w_z - 6)) m := hs
  have lp := cp12 (G := G) (Q := Q) (a2 := 6) (a3 := 0) (a4 := 0) hs3 (fun K_z hE hr => h_z K_z hE (by
    rw [rI_ne (by omega), rI_ne (by omega)] at hr
    exact hr)) 12 0 (uI T (m + 19) d_z (w_z - 6)) rfl (by decide) (by decide) (Ex.refl _ _) (by rw [rc_zero])
  simp (disch := omega) only [E_M_does, B_228_0, n17, B_228_4, B_228_23, hs.u, B_228_24, B_228_54, B_228_55, Y_inF (x_z := 2) (y_z := 16) (w_z := 18) (by omega), B_228_65, B_228_74, B_228_178, hl, hw, inI, inL, isT, kInt, kByt, true_and, and_true, an_t, im_t, im_f, or_true, true_or, true_imp_iff, false_imp_iff, not_true_eq_false, not_false_eq_true, gK_uI, gK_uL, gK_uR, gK_uCI, gK_uCL, gN_uI, gN_uL, gN_uR, gN_uCI, gN_uCL, gR_uI, gR_uL, gR_uCI, gR_uCL, gI_uL, gI_uR, gI_uCL, gL_uI, gL_uR, gL_uCI, gz_uI, gz_uL, gz_uR, gz_uCI, gz_uCL, gs_uI, gs_uL, gs_uR, gs_uCI, gs_uCL, rI_at, rL_at, rR_at, rI_ne, rL_ne, rR_ne, rI_nk, rL_nk, rR_nk, rI_eq, rL_eq, rR_eq, Option.toList_some, Option.toList_none, List.cons_append, List.nil_append, List.append_nil, zc_eq, zc_lt, zc_le, zc_ge, zc_gt]
  all_goals exact lp
end AF
