/-! THE PURE PART, part 14: draw, the model. Own work. -/
/-- the box of a form as a path of the model -/
def BxT (T T1 : Mem) (m : Nat) (p_z n_z : Int) : Prop := Ex (fun r => r = m ∨ r = m + 6 ∨ (m + 8 ≤ r ∧ r ≤ m + 15)) T T1 ∧ (∀ j_z, j_z ≠ 25 → j_z ≠ 26 → j_z ≠ 27 → j_z ≠ 33 → gI T1 m j_z = gI T m j_z) ∧ (gI T1 m 25 = 0 ∧ gI T1 m 26 = 0 ∧ gI T1 m 27 = 0 ∧ gI T1 m 33 = p_z + 1) ∧
  ((∀ j_z, 0 ≤ j_z → j_z < 4 → gI T1 (m + 11) (24 * p_z + j_z) = gI T (m + 27) j_z ∧ gI T1 (m + 12) (24 * p_z + j_z) = gI T (m + 28) j_z) ∧ gI T1 (m + 13) (24 * p_z) = 0 ∧ (∀ i_z, i_z < 24 * p_z → gI T1 (m + 11) i_z = gI T (m + 11) i_z ∧ gI T1 (m + 12) i_z = gI T (m + 12) i_z ∧ gI T1 (m + 13) i_z = gI T (m + 13) i_z)) ∧
  gI T1 (m + 14) = upf (gI T (m + 14)) p_z 4 ∧ gI T1 (m + 15) = upf (gI T (m + 15)) p_z 1 ∧ gI T1 (m + 6) = upf (upf (gI T (m + 6)) (14 + n_z) (2 * p_z)) 13 (n_z + 1)
section AU
variable {G : Env0} {Q : Option AV → Mem → Prop} {M T : Mem} {c s m r : Nat}
theorem X_tooDraw {d_z : Nat} {v_z f_z b0 b1 b2 b3 n_z : Int} {mt_z : Int → Int} (hs : ShM T m) (hl : gI T m 36 = (d_z : Int)) (hv : v_z = 200 + f_z) (hf : ∀ qq : Option AV → Mem → Prop, qq (some (a_i v_z)) T → Call G J_M_found [a_r m] T qq) (f0_z : 0 ≤ f_z) (f1_z : f_z ≤ 5) (hg : GV T m mt_z) (hfl : gI T m 16 = 0) (e0_z : gI T (m + 1) (1127 + 5 * f_z + 1) = b0) (e1_z : gI T (m + 1) (1127 + 5 * f_z + 2) = b1) (e2_z : gI T (m + 1) (1127 + 5 * f_z + 3) = b2) (e3_z : gI T (m + 1) (1127 + 5 * f_z + 4) = b3) (r0 : b0.natAbs ≤ 99) (r1_z : b1.natAbs ≤ 99) (r2 : b2.natAbs ≤ 99) (r3 : b3.natAbs ≤ 99) (hn : gI T (m + 6) 13 = n_z)
    (h4 : d_z = 4 → Q (some (a_i 1)) T) (hno : d_z ≠ 4 → gI T (m + 1) (1127 + 5 * f_z) = 0 → Q (some (a_i 0)) T) (hbox : d_z ≠ 4 → gI T (m + 1) (1127 + 5 * f_z) ≠ 0 → ∀ T1, Sy T T1 m → CnO T1 m mt_z (pk b0 1) (pk b1 1) (pk b2 1) (pk b3 1) → Q (some (a_i (if n_z = 6 then 1 else 0))) T1) : Call G J_M_isTooMuch [a_r m, a_i 13] T Q := by
  have go_z : At G 215 289 [a_r m, a_i 13] [] T Q := by
    by_cases c4_z : d_z = 4
    · have hh := h4 c4_z
      have hl4 : gI T m 36 = 4 := by omega
      simp (disch := omega) only [B_215_289, hs.u, hl4, B_215_311, B_215_316, inI, inL, isT, kInt, kByt, true_and, and_true, an_t, im_t, im_f, or_true, true_or, true_imp_iff, false_imp_iff, not_true_eq_false, not_false_eq_true, gK_uI, gK_uL, gK_uR, gK_uCI, gK_uCL, gN_uI, gN_uL, gN_uR, gN_uCI, gN_uCL, gR_uI, gR_uL, gR_uCI, gR_uCL, gI_uL, gI_uR, gI_uCL, gL_uI, gL_uR, gL_uCI, gz_uI, gz_uL, gz_uR, gz_uCI, gz_uCL, gs_uI, gs_uL, gs_uR, gs_uCI, gs_uCL, rI_at, rL_at, rR_at, rI_ne, rL_ne, rR_ne, rI_nk, rL_nk, rR_nk, rI_eq, rL_eq, rR_eq, Option.toList_some, Option.toList_none, List.cons_append, List.nil_append, List.append_nil, zc_eq, zc_lt, zc_le, zc_ge, zc_gt]
      all_goals exact hh
    · have d1_z : Int.tdiv v_z 100 = v_z / 100 := Int.tdiv_eq_ediv_of_nonneg (by omega)
      have d2_z : Int.tmod v_z 100 = f_z := by
        have := Int.tmod_eq_emod_of_nonneg (a := v_z) (b := 100) (by omega)
        omega
      have bb : inI (Int.tdiv v_z 100) := ⟨by omega, by omega⟩
      have box_z : Call G J_M_isBoxTooMuch [a_r m, a_i f_z] T (fun q_z M2_z => At G 215 308 [a_r m, a_i 13] q_z.toList M2_z Q) := by
        refine X_boxToo hs f0_z f1_z hg hfl e0_z e1_z e2_z e3_z r0 r1_z r2 r3 hn (fun q_z => ?_) (fun q_z T1 hy hc_z => ?_)
        · have hh := hno c4_z q_z
          simp (disch := omega) only [B_215_308, B_215_315, B_215_316, inI, inL, isT, kInt, kByt, true_and, and_true, an_t, im_t, im_f, or_true, true_or, true_imp_iff, false_imp_iff, not_true_eq_false, not_false_eq_true, gK_uI, gK_uL, gK_uR, gK_uCI, gK_uCL, gN_uI, gN_uL, gN_uR, gN_uCI, gN_uCL, gR_uI, gR_uL, gR_uCI, gR_uCL, gI_uL, gI_uR, gI_uCL, gL_uI, gL_uR, gL_uCI, gz_uI, gz_uL, gz_uR, gz_uCI, gz_uCL, gs_uI, gs_uL, gs_uR, gs_uCI, gs_uCL, rI_at, rL_at, rR_at, rI_ne, rL_ne, rR_ne, rI_nk, rL_nk, rR_nk, rI_eq, rL_eq, rR_eq, Option.toList_some, Option.toList_none, List.cons_append, List.nil_append, List.append_nil, zc_eq, zc_lt, zc_le, zc_ge, zc_gt]
          all_goals exact hh
        · have hh := hbox c4_z q_z T1 hy hc_z
          by_cases c6_z : n_z = 6
          · rw [if_pos c6_z] at hh ⊢
            simp (disch := omega) only [B_215_308, B_215_311, B_215_316, inI, inL, isT, kInt, kByt, true_and, and_true, an_t, im_t, im_f, or_true, true_or, true_imp_iff, false_imp_iff, not_true_eq_false, not_false_eq_true, gK_uI, gK_uL, gK_uR, gK_uCI, gK_uCL, gN_uI, gN_uL, gN_uR, gN_uCI, gN_uCL, gR_uI, gR_uL, gR_uCI, gR_uCL, gI_uL, gI_uR, gI_uCL, gL_uI, gL_uR, gL_uCI, gz_uI, gz_uL, gz_uR, gz_uCI, gz_uCL, gs_uI, gs_uL, gs_uR, gs_uCI, gs_uCL, rI_at, rL_at, rR_at, rI_ne, rL_ne, rR_ne, rI_nk, rL_nk, rR_nk, rI_eq, rL_eq, rR_eq, Option.toList_some, Option.toList_none, List.cons_append, List.nil_append, List.append_nil, zc_eq, zc_lt, zc_le, zc_ge, zc_gt]
            all_goals exact hh
          · rw [if_neg c6_z] at hh ⊢
            simp (disch := omega) only [B_215_308, B_215_315, B_215_316, inI, inL, isT, kInt, kByt, true_and, and_true, an_t, im_t, im_f, or_true, true_or, true_imp_iff, false_imp_iff, not_true_eq_false, not_false_eq_true, gK_uI, gK_uL, gK_uR, gK_uCI, gK_uCL, gN_uI, gN_uL, gN_uR, gN_uCI, gN_uCL, gR_uI, gR_uL, gR_uCI, gR_uCL, gI_uL, gI_uR, gI_uCL, gL_uI, gL_uR, gL_uCI, gz_uI, gz_uL, gz_uR, gz_uCI, gz_uCL, gs_uI, gs_uL, gs_uR, gs_uCI, gs_uCL, rI_at, rL_at, rR_at, rI_ne, rL_ne, rR_ne, rI_nk, rL_nk, rR_nk, rI_eq, rL_eq, rR_eq, Option.toList_some, Option.toList_none, List.cons_append, List.nil_append, List.append_nil, zc_eq, zc_lt, zc_le, zc_ge, zc_gt]
            all_goals exact hh
      have ff_z := hf (fun q_z M2_z => At G 215 302 [a_r m, a_i 13] (q_z.toList ++ [a_r m]) M2_z Q) (by
        rw [d1_z] at bb
        simp (disch := omega) only [B_215_302, d1_z, d2_z, bb, hs.u, inI, inL, isT, kInt, kByt, true_and, and_true, an_t, im_t, im_f, or_true, true_or, true_imp_iff, false_imp_iff, not_true_eq_false, not_false_eq_true, gK_uI, gK_uL, gK_uR, gK_uCI, gK_uCL, gN_uI, gN_uL, gN_uR, gN_uCI, gN_uCL, gR_uI, gR_uL, gR_uCI, gR_uCL, gI_uL, gI_uR, gI_uCL, gL_uI, gL_uR, gL_uCI, gz_uI, gz_uL, gz_uR, gz_uCI, gz_uCL, gs_uI, gs_uL, gs_uR, gs_uCI, gs_uCL, rI_at, rL_at, rR_at, rI_ne, rL_ne, rR_ne, rI_nk, rL_nk, rR_nk, rI_eq, rL_eq, rR_eq, Option.toList_some, Option.toList_none, List.cons_append, List.nil_append, List.append_nil, zc_eq, zc_lt, zc_le, zc_ge, zc_gt]
        all_goals exact box_z)
      have hl4 : ¬ gI T m 36 = 4 := by omega
      simp (disch := omega) only [B_215_289, hs.u, hl4, inI, inL, isT, kInt, kByt, true_and, and_true, an_t, im_t, im_f, or_true, true_or, true_imp_iff, false_imp_iff, not_true_eq_false, not_false_eq_true, gK_uI, gK_uL, gK_uR, gK_uCI, gK_uCL, gN_uI, gN_uL, gN_uR, gN_uCI, gN_uCL, gR_uI, gR_uL, gR_uCI, gR_uCL, gI_uL, gI_uR, gI_uCL, gL_uI, gL_uR, gL_uCI, gz_uI, gz_uL, gz_uR, gz_uCI, gz_uCL, gs_uI, gs_uL, gs_uR, gs_uCI, gs_uCL, rI_at, rL_at, rR_at, rI_ne, rL_ne, rR_ne, rI_nk, rL_nk, rR_nk, rI_eq, rL_eq, rR_eq, Option.toList_some, Option.toList_none, List.cons_append, List.nil_append, List.append_nil, zc_eq, zc_lt, zc_le, zc_ge, zc_gt]
      all_goals exact ff_z
  rw [E_M_isTooMuch, B_215_0]
  simp (disch := omega) only [inI, inL, isT, kInt, kByt, true_and, and_true, an_t, im_t, im_f, or_true, true_or, true_imp_iff, false_imp_iff, not_true_eq_false, not_false_eq_true, gK_uI, gK_uL, gK_uR, gK_uCI, gK_uCL, gN_uI, gN_uL, gN_uR, gN_uCI, gN_uCL, gR_uI, gR_uL, gR_uCI, gR_uCL, gI_uL, gI_uR, gI_uCL, gL_uI, gL_uR, gL_uCI, gz_uI, gz_uL, gz_uR, gz_uCI, gz_uCL, gs_uI, gs_uL, gs_uR, gs_uCI, gs_uCL, rI_at, rL_at, rR_at, rI_ne, rL_ne, rR_ne, rI_nk, rL_nk, rR_nk, rI_eq, rL_eq, rR_eq, Option.toList_some, Option.toList_none, List.cons_append, List.nil_append, List.append_nil, zc_eq, zc_lt, zc_le, zc_ge, zc_gt]
  all_goals exact go_z
theorem X_wrongD {d_z : Nat} {w_z dn v_z f_z b0 b1 b2 b3 n_z : Int} {mt_z : Int → Int} (hs : ShM T m) (hb_z : gI T m 49 ≠ gI T (m + 1) 1215) (hl : gI T m 36 = (d_z : Int)) (hw : gI T (m + 19) d_z = w_z) (l1 : d_z < 5) (w0_z : 1 ≤ w_z) (w1_z : w_z ≤ 16) (hdn : gI T (m + 21) (16 * d_z + w_z - 1) = dn) (v0_z : 0 ≤ v_z) (v1_z : v_z ≤ 205) (hv : v_z / 100 = 2 → v_z = 200 + f_z) (hf : dn = 0 → ∀ T2 : Mem, (T2 = T ∨ T2 = uI T m 16 0) → ∀ qq : Option AV → Mem → Prop, qq (some (a_i v_z)) T2 → Call G J_M_found [a_r m] T2 qq) (f0_z : 0 ≤ f_z) (f1_z : f_z ≤ 5) (hg : GV T m mt_z) (e0_z : gI T (m + 1) (1127 + 5 * f_z + 1) = b0) (e1_z : gI T (m + 1) (1127 + 5 * f_z + 2) = b1) (e2_z : gI T (m + 1) (1127 + 5 * f_z + 3) = b2) (e3_z : gI T (m + 1) (1127 + 5 * f_z + 4) = b3) (r0 : b0.natAbs ≤ 99) (r1_z : b1.natAbs ≤ 99) (r2 : b2.natAbs ≤ 99) (r3 : b3.natAbs ≤ 99) (hn : gI T (m + 6) 13 = n_z)
    (h2 : dn ≠ 0 → Q (some (a_i 2)) T) (h3 : dn = 0 → ¬ (v_z / 100 = 2 ∧ 0 ≤ gI T (m + 1) (161 * (f_z + 1))) → Q (some (a_i 3)) T) (h4 : dn = 0 → v_z / 100 = 2 → 0 ≤ gI T (m + 1) (161 * (f_z + 1)) → (∃ l : Nat, 1 ≤ l ∧ l ≤ d_z ∧ gI T (m + 17) l = f_z + 1) → Q (some (a_i 4)) T)
    (h6 : dn = 0 → v_z / 100 = 2 → 0 ≤ gI T (m + 1) (161 * (f_z + 1)) → ¬ (∃ l : Nat, 1 ≤ l ∧ l ≤ d_z ∧ gI T (m + 17) l = f_z + 1) → d_z = 4 → Q (some (a_i 6)) (uI T m 16 0)) (hno : dn = 0 → v_z / 100 = 2 → 0 ≤ gI T (m + 1) (161 * (f_z + 1)) → ¬ (∃ l : Nat, 1 ≤ l ∧ l ≤ d_z ∧ gI T (m + 17) l = f_z + 1) → d_z ≠ 4 → gI T (m + 1) (1127 + 5 * f_z) = 0 → Q (some (a_i 0)) (uI T m 16 0)) (hbox : dn = 0 → v_z / 100 = 2 → 0 ≤ gI T (m + 1) (161 * (f_z + 1)) → ¬ (∃ l : Nat, 1 ≤ l ∧ l ≤ d_z ∧ gI T (m + 17) l = f_z + 1) → d_z ≠ 4 → gI T (m + 1) (1127 + 5 * f_z) ≠ 0 → ∀ T1, Sy T T1 m → ((n_z = 6 ∨ ¬ rGood mt_z (pk b0 1) (pk b1 1) (pk b2 1) (pk b3 1)) → Q (some (a_i 6)) T1) ∧ (n_z ≠ 6 → rGood mt_z (pk b0 1) (pk b1 1) (pk b2 1) (pk b3 1) → (∀ k_z, 0 ≤ k_z → k_z < 4 → gI T1 (m + 27) k_z = dv mt_z (pX (pk b0 1) (pk b2 1) k_z) (pY (pk b1 1) (pk b3 1) k_z) 0 ∧ gI T1 (m + 28) k_z = dv mt_z (pX (pk b0 1) (pk b2 1) k_z) (pY (pk b1 1) (pk b3 1) k_z) 1) → Q (some (a_i 0)) T1)) : Call G J_M_wrong [a_r m, a_i 13] T Q := by
  have nm := fun qq => X_isNamed (G := G) (Q := qq) (M := T) hs hl hw (by omega) (by omega) w0_z w1_z
  rw [hdn] at nm
  have hN_z := fun qq => X_needed (G := G) (T := T) (Q := qq) (k_z := 13) (by decide) (by decide)
  rw [show need 13 = 1 from by decide] at hN_z
  by_cases c0_z : dn = 0
  · rw [zB_t c0_z] at nm
    have hs0 : ShM (uI T m 16 0) m := hs
    -- too much
    have tl : v_z / 100 = 2 → 0 ≤ gI T (m + 1) (161 * (f_z + 1)) → ¬ (∃ l : Nat, 1 ≤ l ∧ l ≤ d_z ∧ gI T (m + 17) l = f_z + 1) → At G 206 88 [a_r m, a_i 13, a_i 1] [] T Q := fun q2_z qs qx => by
      have tm : Call G J_M_isTooMuch [a_r m, a_i 13] (uI T m 16 0) (fun q_z M2_z => At G 206 119 [a_r m, a_i 13, a_i 1] q_z.toList M2_z Q) := by
        refine X_tooDraw (T := uI T m 16 0) (v_z := v_z) (f_z := f_z) (b0 := b0) (b1 := b1) (b2 := b2) (b3 := b3) (n_z := n_z) (mt_z := mt_z) hs0 (by rw [rI_nk (by decide)]; exact hl) (hv q2_z) (hf c0_z _ (Or.inr rfl)) f0_z f1_z (hg.sy (sy_fl0 _ _)) rI_at (by rw [rI_ne (by omega)]; exact e0_z) (by rw [rI_ne (by omega)]; exact e1_z) (by rw [rI_ne (by omega)]; exact e2_z) (by rw [rI_ne (by omega)]; exact e3_z) r0 r1_z r2 r3 (by rw [rI_ne (by omega)]; exact hn) (fun q4_z => ?_) (fun q4_z qb => ?_) (fun q4_z qb T1 hy hc_z => ?_)
        · have hh := h6 c0_z q2_z qs qx q4_z
          simp (disch := omega) only [B_206_119, B_206_129, B_206_135, inI, inL, isT, kInt, kByt, true_and, and_true, an_t, im_t, im_f, or_true, true_or, true_imp_iff, false_imp_iff, not_true_eq_false, not_false_eq_true, gK_uI, gK_uL, gK_uR, gK_uCI, gK_uCL, gN_uI, gN_uL, gN_uR, gN_uCI, gN_uCL, gR_uI, gR_uL, gR_uCI, gR_uCL, gI_uL, gI_uR, gI_uCL, gL_uI, gL_uR, gL_uCI, gz_uI, gz_uL, gz_uR, gz_uCI, gz_uCL, gs_uI, gs_uL, gs_uR, gs_uCI, gs_uCL, rI_at, rL_at, rR_at, rI_ne, rL_ne, rR_ne, rI_nk, rL_nk, rR_nk, rI_eq, rL_eq, rR_eq, Option.toList_some, Option.toList_none, List.cons_append, List.nil_append, List.append_nil, zc_eq, zc_lt, zc_le, zc_ge, zc_gt]
          all_goals exact hh
        · rw [rI_ne (by omega)] at qb
          have hh := hno c0_z q2_z qs qx q4_z qb
          have f16 : gI (uI T m 16 0) m 16 = 0 := rI_at
          simp (disch := omega) only [B_206_119, hs0.u, f16, B_206_134, B_206_135, inI, inL, isT, kInt, kByt, true_and, and_true, an_t, im_t, im_f, or_true, true_or, true_imp_iff, false_imp_iff, not_true_eq_false, not_false_eq_true, gK_uI, gK_uL, gK_uR, gK_uCI, gK_uCL, gN_uI, gN_uL, gN_uR, gN_uCI, gN_uCL, gR_uI, gR_uL, gR_uCI, gR_uCL, gI_uL, gI_uR, gI_uCL, gL_uI, gL_uR, gL_uCI, gz_uI, gz_uL, gz_uR, gz_uCI, gz_uCL, gs_uI, gs_uL, gs_uR, gs_uCI, gs_uCL, rI_at, rL_at, rR_at, rI_ne, rL_ne, rR_ne, rI_nk, rL_nk, rR_nk, rI_eq, rL_eq, rR_eq, Option.toList_some, Option.toList_none, List.cons_append, List.nil_append, List.append_nil, zc_eq, zc_lt, zc_le, zc_ge, zc_gt]
          all_goals exact hh
        · rw [rI_ne (by omega)] at qb
          have hs1 := hy.sh hs0
          obtain ⟨k6_z, k0_z⟩ := hbox c0_z q2_z qs qx q4_z qb T1 ((sy_fl0 T m).trans hy)
          by_cases c6_z : n_z = 6
          · have hh := k6_z (Or.inl c6_z)
            rw [if_pos c6_z]
            simp (disch := omega) only [B_206_119, B_206_129, B_206_135, inI, inL, isT, kInt, kByt, true_and, and_true, an_t, im_t, im_f, or_true, true_or, true_imp_iff, false_imp_iff, not_true_eq_false, not_false_eq_true, gK_uI, gK_uL, gK_uR, gK_uCI, gK_uCL, gN_uI, gN_uL, gN_uR, gN_uCI, gN_uCL, gR_uI, gR_uL, gR_uCI, gR_uCL, gI_uL, gI_uR, gI_uCL, gL_uI, gL_uR, gL_uCI, gz_uI, gz_uL, gz_uR, gz_uCI, gz_uCL, gs_uI, gs_uL, gs_uR, gs_uCI, gs_uCL, rI_at, rL_at, rR_at, rI_ne, rL_ne, rR_ne, rI_nk, rL_nk, rR_nk, rI_eq, rL_eq, rR_eq, Option.toList_some, Option.toList_none, List.cons_append, List.nil_append, List.append_nil, zc_eq, zc_lt, zc_le, zc_ge, zc_gt]
            all_goals exact hh
          · rw [if_neg c6_z]
            rcases hc_z with ⟨a1_z, a2, a3⟩ | ⟨a1_z, a2⟩
            · have hh := k0_z c6_z a2 a3
              simp (disch := omega) only [B_206_119, hs1.u, a1_z, B_206_134, B_206_135, inI, inL, isT, kInt, kByt, true_and, and_true, an_t, im_t, im_f, or_true, true_or, true_imp_iff, false_imp_iff, not_true_eq_false, not_false_eq_true, gK_uI, gK_uL, gK_uR, gK_uCI, gK_uCL, gN_uI, gN_uL, gN_uR, gN_uCI, gN_uCL, gR_uI, gR_uL, gR_uCI, gR_uCL, gI_uL, gI_uR, gI_uCL, gL_uI, gL_uR, gL_uCI, gz_uI, gz_uL, gz_uR, gz_uCI, gz_uCL, gs_uI, gs_uL, gs_uR, gs_uCI, gs_uCL, rI_at, rL_at, rR_at, rI_ne, rL_ne, rR_ne, rI_nk, rL_nk, rR_nk, rI_eq, rL_eq, rR_eq, Option.toList_some, Option.toList_none, List.cons_append, List.nil_append, List.append_nil, zc_eq, zc_lt, zc_le, zc_ge, zc_gt]
              all_goals exact hh
            · have hh := k6_z (Or.inr a2)
              simp (disch := omega) only [B_206_119, hs1.u, a1_z, B_206_129, B_206_135, inI, inL, isT, kInt, kByt, true_and, and_true, an_t, im_t, im_f, or_true, true_or, true_imp_iff, false_imp_iff, not_true_eq_false, not_false_eq_true, gK_uI, gK_uL, gK_uR, gK_uCI, gK_uCL, gN_uI, gN_uL, gN_uR, gN_uCI, gN_uCL, gR_uI, gR_uL, gR_uCI, gR_uCL, gI_uL, gI_uR, gI_uCL, gL_uI, gL_uR, gL_uCI, gz_uI, gz_uL, gz_uR, gz_uCI, gz_uCL, gs_uI, gs_uL, gs_uR, gs_uCI, gs_uCL, rI_at, rL_at, rR_at, rI_ne, rL_ne, rR_ne, rI_nk, rL_nk, rR_nk, rI_eq, rL_eq, rR_eq, Option.toList_some, Option.toList_none, List.cons_append, List.nil_append, List.append_nil, zc_eq, zc_lt, zc_le, zc_ge, zc_gt]
              all_goals exact hh
      simp (disch := omega) only [B_206_88, B_206_109, hs.u, inI, inL, isT, kInt, kByt, true_and, and_true, an_t, im_t, im_f, or_true, true_or, true_imp_iff, false_imp_iff, not_true_eq_false, not_false_eq_true, gK_uI, gK_uL, gK_uR, gK_uCI, gK_uCL, gN_uI, gN_uL, gN_uR, gN_uCI, gN_uCL, gR_uI, gR_uL, gR_uCI, gR_uCL, gI_uL, gI_uR, gI_uCL, gL_uI, gL_uR, gL_uCI, gz_uI, gz_uL, gz_uR, gz_uCI, gz_uCL, gs_uI, gs_uL, gs_uR, gs_uCI, gs_uCL, rI_at, rL_at, rR_at, rI_ne, rL_ne, rR_ne, rI_nk, rL_nk, rR_nk, rI_eq, rL_eq, rR_eq, Option.toList_some, Option.toList_none, List.cons_append, List.nil_append, List.append_nil, zc_eq, zc_lt, zc_le, zc_ge, zc_gt]
      all_goals exact tm
    have ex_z : v_z / 100 = 2 → 0 ≤ gI T (m + 1) (161 * (f_z + 1)) → At G 206 66 [a_r m, a_i 13, a_i 1] [] T Q := fun q2_z qs => by
      have d1_z : Int.tdiv v_z 100 = v_z / 100 := Int.tdiv_eq_ediv_of_nonneg (by omega)
      have d2_z : Int.tmod v_z 100 = f_z := by
        have := Int.tmod_eq_emod_of_nonneg (a := v_z) (b := 100) (by omega)
        have := hv q2_z
        omega
      have bb : inI (2 : Int) := ⟨by decide, by decide⟩
      have ie : Call G J_M_isExecuted [a_r m, a_i f_z] T (fun q_z M2_z => At G 206 83 [a_r m, a_i 13, a_i 1] q_z.toList M2_z Q) := by
        refine X_isExecT hs hl l1 f0_z (by omega) (fun z_z hz => ?_)
        rcases hz with ⟨z1, hz⟩ | ⟨z1, hz⟩
        · have hh := h4 c0_z q2_z qs hz
          subst z1
          simp (disch := omega) only [B_206_83, inI, inL, isT, kInt, kByt, true_and, and_true, an_t, im_t, im_f, or_true, true_or, true_imp_iff, false_imp_iff, not_true_eq_false, not_false_eq_true, gK_uI, gK_uL, gK_uR, gK_uCI, gK_uCL, gN_uI, gN_uL, gN_uR, gN_uCI, gN_uCL, gR_uI, gR_uL, gR_uCI, gR_uCL, gI_uL, gI_uR, gI_uCL, gL_uI, gL_uR, gL_uCI, gz_uI, gz_uL, gz_uR, gz_uCI, gz_uCL, gs_uI, gs_uL, gs_uR, gs_uCI, gs_uCL, rI_at, rL_at, rR_at, rI_ne, rL_ne, rR_ne, rI_nk, rL_nk, rR_nk, rI_eq, rL_eq, rR_eq, Option.toList_some, Option.toList_none, List.cons_append, List.nil_append, List.append_nil, zc_eq, zc_lt, zc_le, zc_ge, zc_gt]
          all_goals exact hh
        · have hh := tl q2_z qs (fun ⟨l, l0, l1, l2⟩ => hz l l0 l1 l2)
          subst z1
          simp (disch := omega) only [B_206_83, inI, inL, isT, kInt, kByt, true_and, and_true, an_t, im_t, im_f, or_true, true_or, true_imp_iff, false_imp_iff, not_true_eq_false, not_false_eq_true, gK_uI, gK_uL, gK_uR, gK_uCI, gK_uCL, gN_uI, gN_uL, gN_uR, gN_uCI, gN_uCL, gR_uI, gR_uL, gR_uCI, gR_uCL, gI_uL, gI_uR, gI_uCL, gL_uI, gL_uR, gL_uCI, gz_uI, gz_uL, gz_uR, gz_uCI, gz_uCL, gs_uI, gs_uL, gs_uR, gs_uCI, gs_uCL, rI_at, rL_at, rR_at, rI_ne, rL_ne, rR_ne, rI_nk, rL_nk, rR_nk, rI_eq, rL_eq, rR_eq, Option.toList_some, Option.toList_none, List.cons_append, List.nil_append, List.append_nil, zc_eq, zc_lt, zc_le, zc_ge, zc_gt]
          all_goals exact hh
      have ff_z := hf c0_z T (Or.inl rfl) (fun q_z M2_z => At G 206 77 [a_r m, a_i 13, a_i 1] (q_z.toList ++ [a_r m]) M2_z Q) (by
        simp (disch := omega) only [B_206_77, d1_z, q2_z, d2_z, hs.u, inI, inL, isT, kInt, kByt, true_and, and_true, an_t, im_t, im_f, or_true, true_or, true_imp_iff, false_imp_iff, not_true_eq_false, not_false_eq_true, gK_uI, gK_uL, gK_uR, gK_uCI, gK_uCL, gN_uI, gN_uL, gN_uR, gN_uCI, gN_uCL, gR_uI, gR_uL, gR_uCI, gR_uCL, gI_uL, gI_uR, gI_uCL, gL_uI, gL_uR, gL_uCI, gz_uI, gz_uL, gz_uR, gz_uCI, gz_uCL, gs_uI, gs_uL, gs_uR, gs_uCI, gs_uCL, rI_at, rL_at, rR_at, rI_ne, rL_ne, rR_ne, rI_nk, rL_nk, rR_nk, rI_eq, rL_eq, rR_eq, Option.toList_some, Option.toList_none, List.cons_append, List.nil_append, List.append_nil, zc_eq, zc_lt, zc_le, zc_ge, zc_gt]
        all_goals exact ie)
      simp (disch := omega) only [B_206_66, hs.u, inI, inL, isT, kInt, kByt, true_and, and_true, an_t, im_t, im_f, or_true, true_or, true_imp_iff, false_imp_iff, not_true_eq_false, not_false_eq_true, gK_uI, gK_uL, gK_uR, gK_uCI, gK_uCL, gN_uI, gN_uL, gN_uR, gN_uCI, gN_uCL, gR_uI, gR_uL, gR_uCI, gR_uCL, gI_uL, gI_uR, gI_uCL, gL_uI, gL_uR, gL_uCI, gz_uI, gz_uL, gz_uR, gz_uCI, gz_uCL, gs_uI, gs_uL, gs_uR, gs_uCI, gs_uCL, rI_at, rL_at, rR_at, rI_ne, rL_ne, rR_ne, rI_nk, rL_nk, rR_nk, rI_eq, rL_eq, rR_eq, Option.toList_some, Option.toList_none, List.cons_append, List.nil_append, List.append_nil, zc_eq, zc_lt, zc_le, zc_ge, zc_gt]
      all_goals exact ff_z
    have go_z : Call G J_M_isResource [a_r m, a_i 13] T (fun q_z M2_z => At G 206 61 [a_r m, a_i 13, a_i 1] q_z.toList M2_z Q) := by
      refine X_isResD hs v0_z v1_z (hf c0_z T (Or.inl rfl)) (fun q2_z q3_z => ?_) (fun q_z => ?_)
      · rw [show v_z % 100 = f_z from by have := hv q2_z; omega] at q3_z
        have hh := ex_z q2_z q3_z
        simp (disch := omega) only [B_206_61, inI, inL, isT, kInt, kByt, true_and, and_true, an_t, im_t, im_f, or_true, true_or, true_imp_iff, false_imp_iff, not_true_eq_false, not_false_eq_true, gK_uI, gK_uL, gK_uR, gK_uCI, gK_uCL, gN_uI, gN_uL, gN_uR, gN_uCI, gN_uCL, gR_uI, gR_uL, gR_uCI, gR_uCL, gI_uL, gI_uR, gI_uCL, gL_uI, gL_uR, gL_uCI, gz_uI, gz_uL, gz_uR, gz_uCI, gz_uCL, gs_uI, gs_uL, gs_uR, gs_uCI, gs_uCL, rI_at, rL_at, rR_at, rI_ne, rL_ne, rR_ne, rI_nk, rL_nk, rR_nk, rI_eq, rL_eq, rR_eq, Option.toList_some, Option.toList_none, List.cons_append, List.nil_append, List.append_nil, zc_eq, zc_lt, zc_le, zc_ge, zc_gt]
        all_goals exact hh
      · have hh := h3 c0_z (fun y_z => q_z ⟨y_z.1, by rw [show v_z % 100 = f_z from by have := hv y_z.1; omega]; exact y_z.2⟩)
        simp (disch := omega) only [B_206_61, inI, inL, isT, kInt, kByt, true_and, and_true, an_t, im_t, im_f, or_true, true_or, true_imp_iff, false_imp_iff, not_true_eq_false, not_false_eq_true, gK_uI, gK_uL, gK_uR, gK_uCI, gK_uCL, gN_uI, gN_uL, gN_uR, gN_uCI, gN_uCL, gR_uI, gR_uL, gR_uCI, gR_uCL, gI_uL, gI_uR, gI_uCL, gL_uI, gL_uR, gL_uCI, gz_uI, gz_uL, gz_uR, gz_uCI, gz_uCL, gs_uI, gs_uL, gs_uR, gs_uCI, gs_uCL, rI_at, rL_at, rR_at, rI_ne, rL_ne, rR_ne, rI_nk, rL_nk, rR_nk, rI_eq, rL_eq, rR_eq, Option.toList_some, Option.toList_none, List.cons_append, List.nil_append, List.append_nil, zc_eq, zc_lt, zc_le, zc_ge, zc_gt]
        all_goals exact hh
    simp (disch := omega) only [E_M_wrong, B_206_0, hs.u, hb_z, B_206_17, E_M_areOperands, B_207_0, hN_z, B_207_4, hl, hw, B_207_20, B_207_87, nm, B_207_91, B_206_22, B_206_27, B_206_46, B_206_51, inI, inL, isT, kInt, kByt, true_and, and_true, an_t, im_t, im_f, or_true, true_or, true_imp_iff, false_imp_iff, not_true_eq_false, not_false_eq_true, gK_uI, gK_uL, gK_uR, gK_uCI, gK_uCL, gN_uI, gN_uL, gN_uR, gN_uCI, gN_uCL, gR_uI, gR_uL, gR_uCI, gR_uCL, gI_uL, gI_uR, gI_uCL, gL_uI, gL_uR, gL_uCI, gz_uI, gz_uL, gz_uR, gz_uCI, gz_uCL, gs_uI, gs_uL, gs_uR, gs_uCI, gs_uCL, rI_at, rL_at, rR_at, rI_ne, rL_ne, rR_ne, rI_nk, rL_nk, rR_nk, rI_eq, rL_eq, rR_eq, Option.toList_some, Option.toList_none, List.cons_append, List.nil_append, List.append_nil, zc_eq, zc_lt, zc_le, zc_ge, zc_gt]
    all_goals exact go_z
  · have hh := h2 c0_z
    rw [zB_f c0_z] at nm
    simp (disch := omega) only [E_M_wrong, B_206_0, hs.u, hb_z, B_206_17, E_M_areOperands, B_207_0, hN_z, B_207_4, hl, hw, B_207_20, B_207_87, nm, B_207_91, B_206_22, inI, inL, isT, kInt, kByt, true_and, and_true, an_t, im_t, im_f, or_true, true_or, true_imp_iff, false_imp_iff, not_true_eq_false, not_false_eq_true, gK_uI, gK_uL, gK_uR, gK_uCI, gK_uCL, gN_uI, gN_uL, gN_uR, gN_uCI, gN_uCL, gR_uI, gR_uL, gR_uCI, gR_uCL, gI_uL, gI_uR, gI_uCL, gL_uI, gL_uR, gL_uCI, gz_uI, gz_uL, gz_uR, gz_uCI, gz_uCL, gs_uI, gs_uL, gs_uR, gs_uCI, gs_uCL, rI_at, rL_at, rR_at, rI_ne, rL_ne, rR_ne, rI_nk, rL_nk, rR_nk, rI_eq, rL_eq, rR_eq, Option.toList_some, Option.toList_none, List.cons_append, List.nil_append, List.append_nil, zc_eq, zc_lt, zc_le, zc_ge, zc_gt]
    all_goals exact hh
end AU
