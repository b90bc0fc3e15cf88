/-! THE PURE PART, part 14: color, its pieces. Own work. -/
/-- what the class finds for the name u_z -/
def CV (M : Mem) (c s d_z : Nat) (u_z : Int) : Int := lk (fun l => gI M (s + 4) ((gI M (c + 22 + 4 * l) 4 + 1) * 8 + u_z)) (d_z + 1)
section AR
variable {G : Env0} {Q : Option AV → Mem → Prop} {M T : Mem} {c s m r : Nat}
theorem X_lookFr {E_z u_z tk : Int} {d_z : Nat} (h_z : Rel G M T c s m E_z) (hd_z : gI M c 11 = (d_z : Int)) (u0 : 0 ≤ u_z) (u1_z : u_z ≤ 7) (hq : Q (some (a_i (CV M c s d_z u_z))) (uI M (c + 22 + 4 * d_z) 5 tk)) : Call G J_Ma_lookUp [a_r c, a_i u_z] (uI M (c + 22 + 4 * d_z) 5 tk) Q := by
  have st_z := h_z.strm hd_z
  obtain ⟨g1, -⟩ := h_z.opn hd_z
  obtain ⟨r1_z, -, -, ⟨r4, r5_z, -, -⟩, r8, -⟩ := h_z
  have e4_z : ∀ l : Nat, gI (uI M (c + 22 + 4 * d_z) 5 tk) (c + 22 + 4 * l) 4 = gI M (c + 22 + 4 * l) 4 := fun l => by
    by_cases q_z : l = d_z
    · subst q_z
      rw [rI_nk (by decide)]
    · rw [rI_ne (by omega)]
  have e11_z : gI (uI M (c + 22 + 4 * d_z) 5 tk) c 11 = (d_z : Int) := by rw [rI_ne (by omega)]; exact hd_z
  refine X_lookUp (M := uI M (c + 22 + 4 * d_z) 5 tk) r1_z r5_z r8.1 ⟨u0, u1_z⟩ (by omega) (by omega) (fun l l1 l2 => ?_) ?_
  · obtain ⟨a_z, b_z, e_z⟩ := st_z l (by omega)
    rw [e4_z l, e_z]
    omega
  · have q_z : (fun l : Nat => gI (uI M (c + 22 + 4 * d_z) 5 tk) (s + 4) ((gI (uI M (c + 22 + 4 * d_z) 5 tk) (c + 22 + 4 * l) 4 + 1) * 8 + u_z)) = fun l : Nat => gI M (s + 4) ((gI M (c + 22 + 4 * l) 4 + 1) * 8 + u_z) := by
      funext l
      rw [e4_z l, rI_ne (by omega)]
    rw [q_z, e11_z, show ((d_z : Int) + 1).toNat = d_z + 1 from by omega]
    exact hq
theorem X_setColor {w_z va v_z tp : Int} {g_z : Nat} (hs : ShMa M c) (hf : ShFr M r) (hw : gI M r 6 = w_z) (w0_z : 1 ≤ w_z) (w1_z : w_z ≤ 16) (hv : gL M (r + 1) (w_z - 1) = va) (hva : NV va ∨ (fd va = 0 ∧ 0 ≤ fu va ∧ fu va ≤ 7)) (ht : gI M c 12 = tp) (t0_z : 0 ≤ tp) (t1_z : tp < 35) (hgg : c + 42 + 3 * tp.toNat = g_z) (hgr : g_z ≠ r) (v0_z : 0 ≤ v_z) (v1_z : v_z ≤ 205) (hL : fd va = 0 → ∀ qq : Option AV → Mem → Prop, qq (some (a_i v_z)) M → Call G J_Ma_lookUp [a_r c, a_i (fu va)] M qq) (h2 : fd va ≠ 0 → ¬ (fd va = 1 ∧ 0 ≤ fu va ∧ fu va ≤ 15) → Q (some (a_i 2)) M) (h3 : fd va = 0 → v_z / 100 ≠ 1 → Q (some (a_i 3)) M) (h0 : ∀ col : Int, ((fd va = 0 ∧ v_z / 100 = 1 ∧ col = v_z % 100) ∨ (fd va = 1 ∧ 0 ≤ fu va ∧ fu va ≤ 15 ∧ col = fu va)) → Q (some (a_i 0)) (uI (uI M g_z 3 col) r 6 (w_z - 1))) : Call G J_Ma_setColor [a_r c, a_r r] M Q := by
  have sG := hs.gr (d_z := tp) t0_z t1_z
  rw [hgg] at sG
  obtain ⟨sG1, sG2⟩ := sG
  have hP0 := fun qq => X_peek (G := G) (Q := qq) (x_z := 0) hf (by decide) (by omega) (by omega)
  rw [hw, Int.sub_zero, hv] at hP0
  have ub_z : inI (fu va) ∧ fd va ≤ 2147483647 := by
    rcases hva with q_z | q_z
    · exact ⟨⟨by have := q_z.1; omega, by have := q_z.2.1; omega⟩, by have := q_z.2.2.2; omega⟩
    · exact ⟨⟨by omega, by omega⟩, by omega⟩
  have hNu := fun qq => X_numerator (G := G) (Q := qq) (M := M) (p_z := va) ub_z.1
  have hNm := fun qq => X_isNameV (G := G) (Q := qq) (M := M) (p_z := va) ub_z.2
  have hIn := fun qq => X_isIntUpTo (G := G) (Q := qq) (M := M) (p_z := va) (x_z := 15) ub_z.2 ub_z.1
  have fin_z : ∀ col x5_z : AV, ∀ cc : Int, col = a_i cc → ((fd va = 0 ∧ v_z / 100 = 1 ∧ cc = v_z % 100) ∨ (fd va = 1 ∧ 0 ≤ fu va ∧ fu va ≤ 15 ∧ cc = fu va)) → At G 114 59 [a_r c, a_r r, a_l va, a_u, col, x5_z] [] M Q := fun col x5_z cc e1_z e2_z => by
    have hh := h0 cc e2_z
    subst e1_z
    have f3_z : ShFr (uI M g_z 3 cc) r := hf
    have ew : gI (uI M g_z 3 cc) r 6 = w_z := by rw [rI_ne (fun q_z => hgr q_z.symm)]; exact hw
    have hR := fun qq => X_remove (G := G) (Q := qq) (x_z := 1) f3_z (by decide) (by omega) (by omega)
    rw [ew] at hR
    simp (disch := omega) only [B_114_59, hs.1.u, ht, sG1, sG2.u, hf.u, hR, B_114_78, inI, inL, isT, kInt, kByt, true_and, and_true, an_t, im_t, im_f, or_true, true_or, true_imp_iff, false_imp_iff, not_true_eq_false, not_false_eq_true, gK_uI, gK_uL, gK_uR, gK_uCI, gK_uCL, gN_uI, gN_uL, gN_uR, gN_uCI, gN_uCL, gR_uI, gR_uL, gR_uCI, gR_uCL, gI_uL, gI_uR, gI_uCL, gL_uI, gL_uR, gL_uCI, gz_uI, gz_uL, gz_uR, gz_uCI, gz_uCL, gs_uI, gs_uL, gs_uR, gs_uCI, gs_uCL, rI_at, rL_at, rR_at, rI_ne, rL_ne, rR_ne, rI_nk, rL_nk, rR_nk, rI_eq, rL_eq, rR_eq, Option.toList_some, Option.toList_none, List.cons_append, List.nil_append, List.append_nil, zc_eq, zc_lt, zc_le, zc_ge, zc_gt]
    all_goals exact hh
  by_cases c0_z : fd va = 0
  · rw [zB_t c0_z] at hNm
    have d1_z : Int.tdiv v_z 100 = v_z / 100 := Int.tdiv_eq_ediv_of_nonneg v0_z
    have d2_z : Int.tmod v_z 100 = v_z % 100 := Int.tmod_eq_emod_of_nonneg v0_z
    have b1 : inI (v_z / 100) := ⟨by omega, by omega⟩
    have go_z : At G 114 25 [a_r c, a_r r, a_l va, a_u, a_i (fu va), a_u] [a_i v_z] M Q := by
      by_cases c1_z : v_z / 100 = 1
      · have ff_z := fin_z (a_i (v_z % 100)) (a_i v_z) _ rfl (Or.inl ⟨c0_z, c1_z, rfl⟩)
        have b1' : inI (1 : Int) := ⟨by decide, by decide⟩
        simp (disch := omega) only [B_114_25, d1_z, d2_z, b1', c1_z, B_114_38, killL, inI, inL, isT, kInt, kByt, true_and, and_true, an_t, im_t, im_f, or_true, true_or, true_imp_iff, false_imp_iff, not_true_eq_false, not_false_eq_true, gK_uI, gK_uL, gK_uR, gK_uCI, gK_uCL, gN_uI, gN_uL, gN_uR, gN_uCI, gN_uCL, gR_uI, gR_uL, gR_uCI, gR_uCL, gI_uL, gI_uR, gI_uCL, gL_uI, gL_uR, gL_uCI, gz_uI, gz_uL, gz_uR, gz_uCI, gz_uCL, gs_uI, gs_uL, gs_uR, gs_uCI, gs_uCL, rI_at, rL_at, rR_at, rI_ne, rL_ne, rR_ne, rI_nk, rL_nk, rR_nk, rI_eq, rL_eq, rR_eq, Option.toList_some, Option.toList_none, List.cons_append, List.nil_append, List.append_nil, zc_eq, zc_lt, zc_le, zc_ge, zc_gt]
        all_goals exact ff_z
      · have hh := h3 c0_z c1_z
        simp (disch := omega) only [B_114_25, d1_z, b1, c1_z, inI, inL, isT, kInt, kByt, true_and, and_true, an_t, im_t, im_f, or_true, true_or, true_imp_iff, false_imp_iff, not_true_eq_false, not_false_eq_true, gK_uI, gK_uL, gK_uR, gK_uCI, gK_uCL, gN_uI, gN_uL, gN_uR, gN_uCI, gN_uCL, gR_uI, gR_uL, gR_uCI, gR_uCL, gI_uL, gI_uR, gI_uCL, gL_uI, gL_uR, gL_uCI, gz_uI, gz_uL, gz_uR, gz_uCI, gz_uCL, gs_uI, gs_uL, gs_uR, gs_uCI, gs_uCL, rI_at, rL_at, rR_at, rI_ne, rL_ne, rR_ne, rI_nk, rL_nk, rR_nk, rI_eq, rL_eq, rR_eq, Option.toList_some, Option.toList_none, List.cons_append, List.nil_append, List.append_nil, zc_eq, zc_lt, zc_le, zc_ge, zc_gt]
        all_goals exact hh
    have ll := hL c0_z (fun q_z M2_z => At G 114 25 [a_r c, a_r r, a_l va, a_u, a_i (fu va), a_u] q_z.toList M2_z Q) go_z
    simp (disch := omega) only [E_Ma_setColor, B_114_0, hf.u, hP0, B_114_5, hNu, B_114_10, hNm, B_114_16, killL, hs.1.u, inI, inL, isT, kInt, kByt, true_and, and_true, an_t, im_t, im_f, or_true, true_or, true_imp_iff, false_imp_iff, not_true_eq_false, not_false_eq_true, gK_uI, gK_uL, gK_uR, gK_uCI, gK_uCL, gN_uI, gN_uL, gN_uR, gN_uCI, gN_uCL, gR_uI, gR_uL, gR_uCI, gR_uCL, gI_uL, gI_uR, gI_uCL, gL_uI, gL_uR, gL_uCI, gz_uI, gz_uL, gz_uR, gz_uCI, gz_uCL, gs_uI, gs_uL, gs_uR, gs_uCI, gs_uCL, rI_at, rL_at, rR_at, rI_ne, rL_ne, rR_ne, rI_nk, rL_nk, rR_nk, rI_eq, rL_eq, rR_eq, Option.toList_some, Option.toList_none, List.cons_append, List.nil_append, List.append_nil, zc_eq, zc_lt, zc_le, zc_ge, zc_gt]
    all_goals exact ll
  · rw [zB_f c0_z] at hNm
    by_cases c1_z : fd va = 1 ∧ 0 ≤ fu va ∧ fu va ≤ 15
    · have ff_z := fin_z (a_i (fu va)) a_u _ rfl (Or.inr ⟨c1_z.1, c1_z.2.1, c1_z.2.2, rfl⟩)
      rw [zB_t c1_z] at hIn
      simp (disch := omega) only [E_Ma_setColor, B_114_0, hf.u, hP0, B_114_5, hNu, B_114_10, hNm, B_114_16, B_114_48, hIn, B_114_54, killL, inI, inL, isT, kInt, kByt, true_and, and_true, an_t, im_t, im_f, or_true, true_or, true_imp_iff, false_imp_iff, not_true_eq_false, not_false_eq_true, gK_uI, gK_uL, gK_uR, gK_uCI, gK_uCL, gN_uI, gN_uL, gN_uR, gN_uCI, gN_uCL, gR_uI, gR_uL, gR_uCI, gR_uCL, gI_uL, gI_uR, gI_uCL, gL_uI, gL_uR, gL_uCI, gz_uI, gz_uL, gz_uR, gz_uCI, gz_uCL, gs_uI, gs_uL, gs_uR, gs_uCI, gs_uCL, rI_at, rL_at, rR_at, rI_ne, rL_ne, rR_ne, rI_nk, rL_nk, rR_nk, rI_eq, rL_eq, rR_eq, Option.toList_some, Option.toList_none, List.cons_append, List.nil_append, List.append_nil, zc_eq, zc_lt, zc_le, zc_ge, zc_gt]
      all_goals exact ff_z
    · have hh := h2 c0_z c1_z
      rw [zB_f c1_z] at hIn
      simp (disch := omega) only [E_Ma_setColor, B_114_0, hf.u, hP0, B_114_5, hNu, B_114_10, hNm, B_114_16, B_114_48, hIn, B_114_54, killL, inI, inL, isT, kInt, kByt, true_and, and_true, an_t, im_t, im_f, or_true, true_or, true_imp_iff, false_imp_iff, not_true_eq_false, not_false_eq_true, gK_uI, gK_uL, gK_uR, gK_uCI, gK_uCL, gN_uI, gN_uL, gN_uR, gN_uCI, gN_uCL, gR_uI, gR_uL, gR_uCI, gR_uCL, gI_uL, gI_uR, gI_uCL, gL_uI, gL_uR, gL_uCI, gz_uI, gz_uL, gz_uR, gz_uCI, gz_uCL, gs_uI, gs_uL, gs_uR, gs_uCI, gs_uCL, rI_at, rL_at, rR_at, rI_ne, rL_ne, rR_ne, rI_nk, rL_nk, rR_nk, rI_eq, rL_eq, rR_eq, Option.toList_some, Option.toList_none, List.cons_append, List.nil_append, List.append_nil, zc_eq, zc_lt, zc_le, zc_ge, zc_gt]
      all_goals exact hh
/-- the model's check of color -/
theorem X_wrongC {d_z : Nat} {w_z up_z dn v_z : Int} (hs : ShM T m) (hb_z : gI T m 49 ≠ gI T (m + 1) 1215) (hl : gI T m 36 = (d_z : Int)) (hw : gI T (m + 19) d_z = w_z) (l1 : d_z < 5) (w0_z : 1 ≤ w_z) (w1_z : w_z ≤ 16) (hu : gI T (m + 20) (16 * d_z + w_z - 1) = up_z) (hdn : gI T (m + 21) (16 * d_z + w_z - 1) = dn) (v0_z : 0 ≤ v_z) (v1_z : v_z ≤ 205) (hf : dn = 0 → ∀ qq : Option AV → Mem → Prop, qq (some (a_i v_z)) T → Call G J_M_found [a_r m] T qq) (h2 : dn ≠ 0 → ¬ (dn = 1 ∧ 0 ≤ up_z ∧ up_z ≤ 15) → Q (some (a_i 2)) T) (h3 : dn = 0 → v_z / 100 ≠ 1 → Q (some (a_i 3)) T) (h0 : (dn = 0 ∧ v_z / 100 = 1) ∨ (dn = 1 ∧ 0 ≤ up_z ∧ up_z ≤ 15) → Q (some (a_i 0)) (uI T m 16 0)) : Call G J_M_wrong [a_r m, a_i 12] T Q := by
  have nm := fun qq => X_isNamed (G := G) (Q := qq) (M := T) hs hl hw (by omega) (by omega) w0_z w1_z
  have hI := fun qq => X_isInteger (G := G) (M := T) (Q := qq) (x_z := 0) (y_z := 15) hs hl hw (by omega) (by omega) w0_z w1_z
  rw [hdn] at nm
  rw [hdn, hu] at hI
  have hN_z := fun qq => X_needed (G := G) (T := T) (Q := qq) (k_z := 12) (by decide) (by decide)
  rw [show need 12 = 1 from by decide] at hN_z
  have tl : Q (some (a_i 0)) (uI T m 16 0) → ∀ b_z : Int, At G 206 66 [a_r m, a_i 12, a_i b_z] [] T Q := fun hh b_z => by
    have hs0 : ShM (uI T m 16 0) m := hs
    have f16 : gI (uI T m 16 0) m 16 = 0 := rI_at
    simp (disch := omega) only [B_206_66, B_206_88, B_206_109, hs.u, E_M_isTooMuch, B_215_0, B_215_399, B_206_119, hs0.u, f16, B_206_134, B_206_135, inI, inL, isT, kInt, kByt, true_and, and_true, an_t, im_t, im_f, or_true, true_or, true_imp_iff, false_imp_iff, not_true_eq_false, not_false_eq_true, gK_uI, gK_uL, gK_uR, gK_uCI, gK_uCL, gN_uI, gN_uL, gN_uR, gN_uCI, gN_uCL, gR_uI, gR_uL, gR_uCI, gR_uCL, gI_uL, gI_uR, gI_uCL, gL_uI, gL_uR, gL_uCI, gz_uI, gz_uL, gz_uR, gz_uCI, gz_uCL, gs_uI, gs_uL, gs_uR, gs_uCI, gs_uCL, rI_at, rL_at, rR_at, rI_ne, rL_ne, rR_ne, rI_nk, rL_nk, rR_nk, rI_eq, rL_eq, rR_eq, Option.toList_some, Option.toList_none, List.cons_append, List.nil_append, List.append_nil, zc_eq, zc_lt, zc_le, zc_ge, zc_gt]
    all_goals exact hh
  by_cases c0_z : dn = 0
  · rw [zB_t c0_z] at nm
    have go_z : Call G J_M_isResource [a_r m, a_i 12] T (fun q_z M2_z => At G 206 61 [a_r m, a_i 12, a_i 1] q_z.toList M2_z Q) := by
      refine X_isResC hs v0_z (by omega) (hf c0_z) ?_
      by_cases c1_z : v_z / 100 = 1
      · have hh := tl (h0 (Or.inl ⟨c0_z, c1_z⟩)) 1
        rw [if_pos c1_z]
        simp (disch := omega) only [B_206_61, inI, inL, isT, kInt, kByt, true_and, and_true, an_t, im_t, im_f, or_true, true_or, true_imp_iff, false_imp_iff, not_true_eq_false, not_false_eq_true, gK_uI, gK_uL, gK_uR, gK_uCI, gK_uCL, gN_uI, gN_uL, gN_uR, gN_uCI, gN_uCL, gR_uI, gR_uL, gR_uCI, gR_uCL, gI_uL, gI_uR, gI_uCL, gL_uI, gL_uR, gL_uCI, gz_uI, gz_uL, gz_uR, gz_uCI, gz_uCL, gs_uI, gs_uL, gs_uR, gs_uCI, gs_uCL, rI_at, rL_at, rR_at, rI_ne, rL_ne, rR_ne, rI_nk, rL_nk, rR_nk, rI_eq, rL_eq, rR_eq, Option.toList_some, Option.toList_none, List.cons_append, List.nil_append, List.append_nil, zc_eq, zc_lt, zc_le, zc_ge, zc_gt]
        all_goals exact hh
      · have hh := h3 c0_z c1_z
        rw [if_neg c1_z]
        simp (disch := omega) only [B_206_61, inI, inL, isT, kInt, kByt, true_and, and_true, an_t, im_t, im_f, or_true, true_or, true_imp_iff, false_imp_iff, not_true_eq_false, not_false_eq_true, gK_uI, gK_uL, gK_uR, gK_uCI, gK_uCL, gN_uI, gN_uL, gN_uR, gN_uCI, gN_uCL, gR_uI, gR_uL, gR_uCI, gR_uCL, gI_uL, gI_uR, gI_uCL, gL_uI, gL_uR, gL_uCI, gz_uI, gz_uL, gz_uR, gz_uCI, gz_uCL, gs_uI, gs_uL, gs_uR, gs_uCI, gs_uCL, rI_at, rL_at, rR_at, rI_ne, rL_ne, rR_ne, rI_nk, rL_nk, rR_nk, rI_eq, rL_eq, rR_eq, Option.toList_some, Option.toList_none, List.cons_append, List.nil_append, List.append_nil, zc_eq, zc_lt, zc_le, zc_ge, zc_gt]
        all_goals exact hh
    simp (disch := omega) only [E_M_wrong, B_206_0, hs.u, hb_z, B_206_17, E_M_areOperands, B_207_0, hN_z, B_207_4, hl, hw, B_207_20, B_207_64, nm, B_207_68, B_207_81, B_207_86, B_206_22, B_206_27, B_206_43, B_206_46, B_206_51, inI, inL, isT, kInt, kByt, true_and, and_true, an_t, im_t, im_f, or_true, true_or, true_imp_iff, false_imp_iff, not_true_eq_false, not_false_eq_true, gK_uI, gK_uL, gK_uR, gK_uCI, gK_uCL, gN_uI, gN_uL, gN_uR, gN_uCI, gN_uCL, gR_uI, gR_uL, gR_uCI, gR_uCL, gI_uL, gI_uR, gI_uCL, gL_uI, gL_uR, gL_uCI, gz_uI, gz_uL, gz_uR, gz_uCI, gz_uCL, gs_uI, gs_uL, gs_uR, gs_uCI, gs_uCL, rI_at, rL_at, rR_at, rI_ne, rL_ne, rR_ne, rI_nk, rL_nk, rR_nk, rI_eq, rL_eq, rR_eq, Option.toList_some, Option.toList_none, List.cons_append, List.nil_append, List.append_nil, zc_eq, zc_lt, zc_le, zc_ge, zc_gt]
    all_goals exact go_z
  · rw [zB_f c0_z] at nm
    by_cases c1_z : dn = 1 ∧ 0 ≤ up_z ∧ up_z ≤ 15
    · have hh := tl (h0 (Or.inr c1_z)) 0
      rw [zB_t c1_z] at hI
      simp (disch := omega) only [E_M_wrong, B_206_0, hs.u, hb_z, B_206_17, E_M_areOperands, B_207_0, hN_z, B_207_4, hl, hw, B_207_20, B_207_64, nm, B_207_68, hI, B_207_78, B_207_81, B_207_86, B_206_22, B_206_27, B_206_43, B_206_50, B_206_51, inI, inL, isT, kInt, kByt, true_and, and_true, an_t, im_t, im_f, or_true, true_or, true_imp_iff, false_imp_iff, not_true_eq_false, not_false_eq_true, gK_uI, gK_uL, gK_uR, gK_uCI, gK_uCL, gN_uI, gN_uL, gN_uR, gN_uCI, gN_uCL, gR_uI, gR_uL, gR_uCI, gR_uCL, gI_uL, gI_uR, gI_uCL, gL_uI, gL_uR, gL_uCI, gz_uI, gz_uL, gz_uR, gz_uCI, gz_uCL, gs_uI, gs_uL, gs_uR, gs_uCI, gs_uCL, rI_at, rL_at, rR_at, rI_ne, rL_ne, rR_ne, rI_nk, rL_nk, rR_nk, rI_eq, rL_eq, rR_eq, Option.toList_some, Option.toList_none, List.cons_append, List.nil_append, List.append_nil, zc_eq, zc_lt, zc_le, zc_ge, zc_gt]
      all_goals exact hh
    · have hh := h2 c0_z c1_z
      rw [zB_f c1_z] at hI
      simp (disch := omega) only [E_M_wrong, B_206_0, hs.u, hb_z, B_206_17, E_M_areOperands, B_207_0, hN_z, B_207_4, hl, hw, B_207_20, B_207_64, nm, B_207_68, hI, B_207_78, B_207_85, B_207_86, B_206_22, inI, inL, isT, kInt, kByt, true_and, and_true, an_t, im_t, im_f, or_true, true_or, true_imp_iff, false_imp_iff, not_true_eq_false, not_false_eq_true, gK_uI, gK_uL, gK_uR, gK_uCI, gK_uCL, gN_uI, gN_uL, gN_uR, gN_uCI, gN_uCL, gR_uI, gR_uL, gR_uCI, gR_uCL, gI_uL, gI_uR, gI_uCL, gL_uI, gL_uR, gL_uCI, gz_uI, gz_uL, gz_uR, gz_uCI, gz_uCL, gs_uI, gs_uL, gs_uR, gs_uCI, gs_uCL, rI_at, rL_at, rR_at, rI_ne, rL_ne, rR_ne, rI_nk, rL_nk, rR_nk, rI_eq, rL_eq, rR_eq, Option.toList_some, Option.toList_none, List.cons_append, List.nil_append, List.append_nil, zc_eq, zc_lt, zc_le, zc_ge, zc_gt]
      all_goals exact hh
/-- the model colors -/
theorem X_doesCol {d_z : Nat} {w_z up_z dn v_z col : Int} (hs : ShM T m) (hl : gI T m 36 = (d_z : Int)) (hw : gI T (m + 19) d_z = w_z) (l1 : d_z < 5) (w0_z : 1 ≤ w_z) (w1_z : w_z ≤ 16) (hu : gI T (m + 20) (16 * d_z + w_z - 1) = up_z) (hdn : gI T (m + 21) (16 * d_z + w_z - 1) = dn) (v0_z : 0 ≤ v_z) (v1_z : v_z ≤ 205) (hf : dn = 0 → ∀ qq : Option AV → Mem → Prop, qq (some (a_i v_z)) T → Call G J_M_found [a_r m] T qq) (hc_z : (dn = 0 ∧ v_z / 100 = 1 ∧ col = v_z % 100) ∨ (dn = 1 ∧ 0 ≤ up_z ∧ up_z ≤ 15 ∧ col = up_z)) (h_z : Q none (uI (uI T (m + 19) d_z (w_z - 1)) (m + 6) 12 col)) : Call G J_M_does [a_r m, a_i 12] T Q := by
  have nm := fun qq => X_isNamed (G := G) (Q := qq) (M := T) hs hl hw (by omega) (by omega) w0_z w1_z
  rw [hdn] at nm
  have n17 := fun qq => X_needed (G := G) (T := T) (Q := qq) (k_z := 12) (by omega) (by omega)
  rw [show need 12 = 1 from by decide] at n17
  have tt := fun qq => X_topE (G := G) (Q := qq) (M := T) (m := m) (k_z := 0) hs hl hw (by omega) (by omega) (by omega) (by omega) (by omega) (by omega)
  rw [Int.sub_zero] at tt
  have fin_z : At G 228 55 [a_r m, a_i 12, a_i 1, a_i up_z, a_u, a_u] [a_i col] T Q := by
    simp (disch := omega) only [B_228_55, Y_inF (x_z := 12) (y_z := 16) (w_z := 18) (by omega), B_228_65, B_228_74, B_228_309, hs.u, hl, hw, B_228_353, inI, inL, isT, kInt, kByt, true_and, and_true, an_t, im_t, im_f, or_true, true_or, true_imp_iff, false_imp_iff, not_true_eq_false, not_false_eq_true, gK_uI, gK_uL, gK_uR, gK_uCI, gK_uCL, gN_uI, gN_uL, gN_uR, gN_uCI, gN_uCL, gR_uI, gR_uL, gR_uCI, gR_uCL, gI_uL, gI_uR, gI_uCL, gL_uI, gL_uR, gL_uCI, gz_uI, gz_uL, gz_uR, gz_uCI, gz_uCL, gs_uI, gs_uL, gs_uR, gs_uCI, gs_uCL, rI_at, rL_at, rR_at, rI_ne, rL_ne, rR_ne, rI_nk, rL_nk, rR_nk, rI_eq, rL_eq, rR_eq, Option.toList_some, Option.toList_none, List.cons_append, List.nil_append, List.append_nil, zc_eq, zc_lt, zc_le, zc_ge, zc_gt]
    all_goals exact h_z
  by_cases c0_z : dn = 0
  · rw [zB_t c0_z] at nm
    have d1_z : Int.tdiv v_z 100 = v_z / 100 := Int.tdiv_eq_ediv_of_nonneg v0_z
    have d2_z : Int.tmod v_z 100 = v_z % 100 := Int.tmod_eq_emod_of_nonneg v0_z
    have b1 : inI (v_z / 100) := ⟨by omega, by omega⟩
    have ec : v_z % 100 = col := by
      rcases hc_z with q_z | q_z
      · exact q_z.2.2.symm
      · omega
    have ff_z := hf c0_z (fun q_z M2_z => At G 228 48 [a_r m, a_i 12, a_i 1, a_i up_z, a_u, a_u] q_z.toList M2_z Q) (by
      simp (disch := omega) only [B_228_48, d1_z, d2_z, b1, ec, inI, inL, isT, kInt, kByt, true_and, and_true, an_t, im_t, im_f, or_true, true_or, true_imp_iff, false_imp_iff, not_true_eq_false, not_false_eq_true, gK_uI, gK_uL, gK_uR, gK_uCI, gK_uCL, gN_uI, gN_uL, gN_uR, gN_uCI, gN_uCL, gR_uI, gR_uL, gR_uCI, gR_uCL, gI_uL, gI_uR, gI_uCL, gL_uI, gL_uR, gL_uCI, gz_uI, gz_uL, gz_uR, gz_uCI, gz_uCL, gs_uI, gs_uL, gs_uR, gs_uCI, gs_uCL, rI_at, rL_at, rR_at, rI_ne, rL_ne, rR_ne, rI_nk, rL_nk, rR_nk, rI_eq, rL_eq, rR_eq, Option.toList_some, Option.toList_none, List.cons_append, List.nil_append, List.append_nil, zc_eq, zc_lt, zc_le, zc_ge, zc_gt]
      all_goals exact fin_z)
    simp (disch := omega) only [E_M_does, B_228_0, n17, B_228_4, B_228_19, tt, hu, hs.u, B_228_24, nm, B_228_41, B_228_44, inI, inL, isT, kInt, kByt, true_and, and_true, an_t, im_t, im_f, or_true, true_or, true_imp_iff, false_imp_iff, not_true_eq_false, not_false_eq_true, gK_uI, gK_uL, gK_uR, gK_uCI, gK_uCL, gN_uI, gN_uL, gN_uR, gN_uCI, gN_uCL, gR_uI, gR_uL, gR_uCI, gR_uCL, gI_uL, gI_uR, gI_uCL, gL_uI, gL_uR, gL_uCI, gz_uI, gz_uL, gz_uR, gz_uCI, gz_uCL, gs_uI, gs_uL, gs_uR, gs_uCI, gs_uCL, rI_at, rL_at, rR_at, rI_ne, rL_ne, rR_ne, rI_nk, rL_nk, rR_nk, rI_eq, rL_eq, rR_eq, Option.toList_some, Option.toList_none, List.cons_append, List.nil_append, List.append_nil, zc_eq, zc_lt, zc_le, zc_ge, zc_gt]
    all_goals exact ff_z
  · rw [zB_f c0_z] at nm
    have ec : up_z = col := by
      rcases hc_z with q_z | q_z
      · omega
      · exact q_z.2.2.2.symm
    rw [← ec] at fin_z
    simp (disch := omega) only [E_M_does, B_228_0, n17, B_228_4, B_228_19, tt, hu, hs.u, B_228_24, nm, B_228_41, B_228_54, inI, inL, isT, kInt, kByt, true_and, and_true, an_t, im_t, im_f, or_true, true_or, true_imp_iff, false_imp_iff, not_true_eq_false, not_false_eq_true, gK_uI, gK_uL, gK_uR, gK_uCI, gK_uCL, gN_uI, gN_uL, gN_uR, gN_uCI, gN_uCL, gR_uI, gR_uL, gR_uCI, gR_uCL, gI_uL, gI_uR, gI_uCL, gL_uI, gL_uR, gL_uCI, gz_uI, gz_uL, gz_uR, gz_uCI, gz_uCL, gs_uI, gs_uL, gs_uR, gs_uCI, gs_uCL, rI_at, rL_at, rR_at, rI_ne, rL_ne, rR_ne, rI_nk, rL_nk, rR_nk, rI_eq, rL_eq, rR_eq, Option.toList_some, Option.toList_none, List.cons_append, List.nil_append, List.append_nil, zc_eq, zc_lt, zc_le, zc_ge, zc_gt]
    all_goals exact fin_z
end AR
