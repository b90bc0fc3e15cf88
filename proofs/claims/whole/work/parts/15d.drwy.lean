/-! THE PURE PART, part 15: draw in the class, from its entry. Own work. -/
section AY
variable {G : Env0} {Q : Option AV → Mem → Prop} {M T : Mem} {c s m r : Nat}
/-- the corners of the box -/
theorem X_drawBox {d_z g_z : Nat} {va v_z tp f_z n_z hb_z b0 b1 b2 b3 : Int} (hs : ShMa M c) (h9 : gR M c 9 = s) (hsa : ShSa M s) (ht : gI M c 12 = tp) (t0_z : 0 ≤ tp) (t2_z : tp < 35) (hgg : c + 42 + 3 * tp.toNat = g_z) (hmt : ∀ i_z : Int, 0 ≤ i_z → i_z < 6 → NV (gL M (g_z + 1) i_z)) (f0_z : 0 ≤ f_z) (f1_z : f_z ≤ 5) (hb1 : ¬ hb_z = 0) (x0_z : gI M (s + 3) (f_z * 4 + 0) = b0) (x1_z : gI M (s + 3) (f_z * 4 + 1) = b1) (x2_z : gI M (s + 3) (f_z * 4 + 2) = b2) (x3 : gI M (s + 3) (f_z * 4 + 3) = b3) (r0 : b0.natAbs ≤ 99) (r1_z : b1.natAbs ≤ 99) (r2 : b2.natAbs ≤ 99) (r3 : b3.natAbs ≤ 99)
    (h6b : ¬ rGood (gL M (g_z + 1)) (pk b0 1) (pk b1 1) (pk b2 1) (pk b3 1) → ∀ M1_z, Ex (fun a_z => a_z = c + 21) M M1_z → Q (some (a_i 6)) M1_z)
    (hbx : rGood (gL M (g_z + 1)) (pk b0 1) (pk b1 1) (pk b2 1) (pk b3 1) → ∀ M1_z, Ex (fun a_z => a_z = c + 21) M M1_z → (∀ k_z j_z : Int, 0 ≤ k_z → k_z < 4 → 0 ≤ j_z → j_z < 2 → gI M1_z (c + 21) (2 * k_z + j_z) = dv (gL M (g_z + 1)) (pX (pk b0 1) (pk b2 1) k_z) (pY (pk b1 1) (pk b3 1) k_z) j_z) → At G 118 175 [a_r c, a_r (c + 22 + 4 * d_z), a_l va, a_u, a_i v_z, a_i f_z, a_i hb_z] [] M1_z Q) : At G 118 120 [a_r c, a_r (c + 22 + 4 * d_z), a_l va, a_u, a_i v_z, a_i f_z, a_i hb_z] [] M Q := by
  have nv : ∀ b_z : Int, b_z.natAbs ≤ 99 → low b_z 1 = pk b_z 1 ∧ NV (pk b_z 1) := fun b_z hb_z => ⟨low_one (by omega), nv_pk ⟨by omega, by omega, by decide, by decide⟩⟩
  have sc : Call G J_Ma_setCorners [a_r c, a_l (pk b0 1), a_l (pk b1 1), a_l (pk b2 1), a_l (pk b3 1)] M (fun q_z M1_z => At G 118 169 [a_r c, a_r (c + 22 + 4 * d_z), a_l va, a_u, a_i v_z, a_i f_z, a_i hb_z] q_z.toList M1_z Q) := by
    refine X_setCorners hs (by omega) (by omega) (fun i_z i0_z i1_z => by rw [ht, hgg]; exact hmt i_z i0_z i1_z) (Or.inr (nv b0 r0).2) (Or.inr (nv b1 r1_z).2) (Or.inr (nv b2 r2).2) (Or.inr (nv b3 r3).2) (fun M1_z z_z hE hR hz => ?_)
    rw [ht, hgg] at hR hz
    rcases hz with ⟨z1, hz⟩ | ⟨z1, hz⟩
    · subst z1
      have tl := hbx hz M1_z hE hR
      simp (disch := omega) only [B_118_169, inI, inL, isT, kInt, kByt, true_and, and_true, an_t, im_t, im_f, or_true, true_or, true_imp_iff, false_imp_iff, not_true_eq_false, not_false_eq_true, gK_uI, gK_uL, gK_uR, gK_uCI, gK_uCL, gN_uI, gN_uL, gN_uR, gN_uCI, gN_uCL, gR_uI, gR_uL, gR_uCI, gR_uCL, gI_uL, gI_uR, gI_uCL, gL_uI, gL_uR, gL_uCI, gz_uI, gz_uL, gz_uR, gz_uCI, gz_uCL, gs_uI, gs_uL, gs_uR, gs_uCI, gs_uCL, rI_at, rL_at, rR_at, rI_ne, rL_ne, rR_ne, rI_nk, rL_nk, rR_nk, rI_eq, rL_eq, rR_eq, Option.toList_some, Option.toList_none, List.cons_append, List.nil_append, List.append_nil, zc_eq, zc_lt, zc_le, zc_ge, zc_gt]
      all_goals exact tl
    · subst z1
      have hh := h6b hz M1_z hE
      simp (disch := omega) only [B_118_169, inI, inL, isT, kInt, kByt, true_and, and_true, an_t, im_t, im_f, or_true, true_or, true_imp_iff, false_imp_iff, not_true_eq_false, not_false_eq_true, gK_uI, gK_uL, gK_uR, gK_uCI, gK_uCL, gN_uI, gN_uL, gN_uR, gN_uCI, gN_uCL, gR_uI, gR_uL, gR_uCI, gR_uCL, gI_uL, gI_uR, gI_uCL, gL_uI, gL_uR, gL_uCI, gz_uI, gz_uL, gz_uR, gz_uCI, gz_uCL, gs_uI, gs_uL, gs_uR, gs_uCI, gs_uCL, rI_at, rL_at, rR_at, rI_ne, rL_ne, rR_ne, rI_nk, rL_nk, rR_nk, rI_eq, rL_eq, rR_eq, Option.toList_some, Option.toList_none, List.cons_append, List.nil_append, List.append_nil, zc_eq, zc_lt, zc_le, zc_ge, zc_gt]
      all_goals exact hh
  clear hbx h6b hmt
  rw [B_118_120]
  refine ⟨fun q_z => absurd q_z hb1, fun _ => ⟨hs.1.1, by rw [h9]; exact hsa.1, ?_⟩⟩
  rw [h9]
  refine X_sideOf hsa ⟨f0_z, f1_z⟩ ⟨by decide, by decide⟩ (by rw [x0_z]; omega) ?_
  rw [x0_z, (nv b0 r0).1]
  simp only [Option.toList_some, Option.toList_none, List.cons_append, List.nil_append, List.append_nil]
  rw [B_118_136]
  refine ⟨hs.1.1, by rw [h9]; exact hsa.1, ?_⟩
  rw [h9]
  refine X_sideOf hsa ⟨f0_z, f1_z⟩ ⟨by decide, by decide⟩ (by rw [x1_z]; omega) ?_
  rw [x1_z, (nv b1 r1_z).1]
  simp only [Option.toList_some, Option.toList_none, List.cons_append, List.nil_append, List.append_nil]
  rw [B_118_146]
  refine ⟨hs.1.1, by rw [h9]; exact hsa.1, ?_⟩
  rw [h9]
  refine X_sideOf hsa ⟨f0_z, f1_z⟩ ⟨by decide, by decide⟩ (by rw [x2_z]; omega) ?_
  rw [x2_z, (nv b2 r2).1]
  simp only [Option.toList_some, Option.toList_none, List.cons_append, List.nil_append, List.append_nil]
  rw [B_118_156]
  refine ⟨hs.1.1, by rw [h9]; exact hsa.1, ?_⟩
  rw [h9]
  refine X_sideOf hsa ⟨f0_z, f1_z⟩ ⟨by decide, by decide⟩ (by rw [x3]; omega) ?_
  rw [x3, (nv b3 r3).1]
  simp only [Option.toList_some, Option.toList_none, List.cons_append, List.nil_append, List.append_nil]
  rw [B_118_166]
  simp only [List.append_nil]
  exact ⟨hs.1.1, sc⟩
/-- what is in the way -/
theorem X_drawChk {d_z g_z : Nat} {va v_z tp f_z n_z hb_z : Int} (hs : ShMa M c) (h9 : gR M c 9 = s) (hsa : ShSa M s) (ht : gI M c 12 = tp) (t0_z : 0 ≤ tp) (t2_z : tp < 35) (hgg : c + 42 + 3 * tp.toNat = g_z) (hd_z : gI M c 11 = (d_z : Int)) (d5_z : d_z < 5) (f0_z : 0 ≤ f_z) (f1_z : f_z ≤ 5) (hn : gI M g_z 2 = n_z) (hhb : gI M (s + 2) f_z = hb_z) (h4 : (∃ l : Nat, 1 ≤ l ∧ l ≤ d_z ∧ gI M (c + 22 + 4 * l) 4 = f_z) → Q (some (a_i 4)) M) (h6 : ¬ (∃ l : Nat, 1 ≤ l ∧ l ≤ d_z ∧ gI M (c + 22 + 4 * l) 4 = f_z) → (d_z = 4 ∨ (hb_z ≠ 0 ∧ 6 ≤ n_z)) → Q (some (a_i 6)) M) (tail_z : ¬ (∃ l : Nat, 1 ≤ l ∧ l ≤ d_z ∧ gI M (c + 22 + 4 * l) 4 = f_z) → d_z < 4 → (hb_z ≠ 0 → n_z < 6) → At G 118 120 [a_r c, a_r (c + 22 + 4 * d_z), a_l va, a_u, a_i v_z, a_i f_z, a_i hb_z] [] M Q) : At G 118 66 [a_r c, a_r (c + 22 + 4 * d_z), a_l va, a_u, a_i v_z, a_i f_z, a_u] [] M Q := by
  obtain ⟨gr1, gr2⟩ := hs.gr (d_z := tp) t0_z t2_z
  rw [hgg] at gr1 gr2
  have chk_z : ¬ (∃ l : Nat, 1 ≤ l ∧ l ≤ d_z ∧ gI M (c + 22 + 4 * l) 4 = f_z) → At G 118 77 [a_r c, a_r (c + 22 + 4 * d_z), a_l va, a_u, a_i v_z, a_i f_z, a_u] [] M Q := fun qx => by
    by_cases c4_z : d_z = 4
    · have hh := h6 qx (Or.inl c4_z)
      have hd4 : gI M c 11 = 4 := by clear qx tail_z h4 h6; omega
      clear tail_z h4 h6 qx
      simp (disch := omega) only [B_118_77, hs.1.u, h9, hsa.u, hd4, hhb, B_118_117, inI, inL, isT, kInt, kByt, true_and, and_true, an_t, im_t, im_f, or_true, true_or, true_imp_iff, false_imp_iff, not_true_eq_false, not_false_eq_true, gK_uI, gK_uL, gK_uR, gK_uCI, gK_uCL, gN_uI, gN_uL, gN_uR, gN_uCI, gN_uCL, gR_uI, gR_uL, gR_uCI, gR_uCL, gI_uL, gI_uR, gI_uCL, gL_uI, gL_uR, gL_uCI, gz_uI, gz_uL, gz_uR, gz_uCI, gz_uCL, gs_uI, gs_uL, gs_uR, gs_uCI, gs_uCL, rI_at, rL_at, rR_at, rI_ne, rL_ne, rR_ne, rI_nk, rL_nk, rR_nk, rI_eq, rL_eq, rR_eq, Option.toList_some, Option.toList_none, List.cons_append, List.nil_append, List.append_nil, zc_eq, zc_lt, zc_le, zc_ge, zc_gt]
      all_goals exact hh
    · have d4_z : ¬ (4 : Int) ≤ (d_z : Int) := by clear qx tail_z h4 h6; omega
      have tl := tail_z qx (by clear qx; omega)
      clear tail_z h4
      by_cases cb : hb_z = 0
      · have t2_z := tl (fun q_z => absurd cb q_z)
        clear tl h6 qx
        subst cb
        simp (disch := omega) only [B_118_77, hs.1.u, h9, hsa.u, hd_z, d4_z, hhb, inI, inL, isT, kInt, kByt, true_and, and_true, an_t, im_t, im_f, or_true, true_or, true_imp_iff, false_imp_iff, not_true_eq_false, not_false_eq_true, gK_uI, gK_uL, gK_uR, gK_uCI, gK_uCL, gN_uI, gN_uL, gN_uR, gN_uCI, gN_uCL, gR_uI, gR_uL, gR_uCI, gR_uCL, gI_uL, gI_uR, gI_uCL, gL_uI, gL_uR, gL_uCI, gz_uI, gz_uL, gz_uR, gz_uCI, gz_uCL, gs_uI, gs_uL, gs_uR, gs_uCI, gs_uCL, rI_at, rL_at, rR_at, rI_ne, rL_ne, rR_ne, rI_nk, rL_nk, rR_nk, rI_eq, rL_eq, rR_eq, Option.toList_some, Option.toList_none, List.cons_append, List.nil_append, List.append_nil, zc_eq, zc_lt, zc_le, zc_ge, zc_gt]
        all_goals exact t2_z
      · have gf := fun qq => X_grFull (G := G) (Q := qq) gr2
        rw [hn] at gf
        by_cases c6_z : 6 ≤ n_z
        · have hh := h6 qx (Or.inr ⟨cb, c6_z⟩)
          clear tl h6 qx
          rw [zB_t c6_z] at gf
          simp (disch := omega) only [B_118_77, hs.1.u, h9, hsa.u, hd_z, d4_z, hhb, cb, ht, gr1, gr2.u, gf, B_118_114, B_118_117, inI, inL, isT, kInt, kByt, true_and, and_true, an_t, im_t, im_f, or_true, true_or, true_imp_iff, false_imp_iff, not_true_eq_false, not_false_eq_true, gK_uI, gK_uL, gK_uR, gK_uCI, gK_uCL, gN_uI, gN_uL, gN_uR, gN_uCI, gN_uCL, gR_uI, gR_uL, gR_uCI, gR_uCL, gI_uL, gI_uR, gI_uCL, gL_uI, gL_uR, gL_uCI, gz_uI, gz_uL, gz_uR, gz_uCI, gz_uCL, gs_uI, gs_uL, gs_uR, gs_uCI, gs_uCL, rI_at, rL_at, rR_at, rI_ne, rL_ne, rR_ne, rI_nk, rL_nk, rR_nk, rI_eq, rL_eq, rR_eq, Option.toList_some, Option.toList_none, List.cons_append, List.nil_append, List.append_nil, zc_eq, zc_lt, zc_le, zc_ge, zc_gt]
          all_goals exact hh
        · have t2_z := tl (fun _ => by omega)
          clear tl h6 qx
          rw [zB_f c6_z] at gf
          simp (disch := omega) only [B_118_77, hs.1.u, h9, hsa.u, hd_z, d4_z, hhb, cb, ht, gr1, gr2.u, gf, B_118_114, inI, inL, isT, kInt, kByt, true_and, and_true, an_t, im_t, im_f, or_true, true_or, true_imp_iff, false_imp_iff, not_true_eq_false, not_false_eq_true, gK_uI, gK_uL, gK_uR, gK_uCI, gK_uCL, gN_uI, gN_uL, gN_uR, gN_uCI, gN_uCL, gR_uI, gR_uL, gR_uCI, gR_uCL, gI_uL, gI_uR, gI_uCL, gL_uI, gL_uR, gL_uCI, gz_uI, gz_uL, gz_uR, gz_uCI, gz_uCL, gs_uI, gs_uL, gs_uR, gs_uCI, gs_uCL, rI_at, rL_at, rR_at, rI_ne, rL_ne, rR_ne, rI_nk, rL_nk, rR_nk, rI_eq, rL_eq, rR_eq, Option.toList_some, Option.toList_none, List.cons_append, List.nil_append, List.append_nil, zc_eq, zc_lt, zc_le, zc_ge, zc_gt]
          all_goals exact t2_z
  have ie : Call G J_Ma_isExecuted [a_r c, a_i f_z] M (fun q_z M2_z => At G 118 72 [a_r c, a_r (c + 22 + 4 * d_z), a_l va, a_u, a_i v_z, a_i f_z, a_u] q_z.toList M2_z Q) := by
    refine X_isExec hs (by omega) (fun z_z hz => ?_)
    rcases hz with ⟨z1, l, l0, l1, l2⟩ | ⟨z1, hz⟩
    · subst z1
      have hh := h4 ⟨l, l0, by omega, l2⟩
      simp (disch := omega) only [B_118_72, inI, inL, isT, kInt, kByt, true_and, and_true, an_t, im_t, im_f, or_true, true_or, true_imp_iff, false_imp_iff, not_true_eq_false, not_false_eq_true, gK_uI, gK_uL, gK_uR, gK_uCI, gK_uCL, gN_uI, gN_uL, gN_uR, gN_uCI, gN_uCL, gR_uI, gR_uL, gR_uCI, gR_uCL, gI_uL, gI_uR, gI_uCL, gL_uI, gL_uR, gL_uCI, gz_uI, gz_uL, gz_uR, gz_uCI, gz_uCL, gs_uI, gs_uL, gs_uR, gs_uCI, gs_uCL, rI_at, rL_at, rR_at, rI_ne, rL_ne, rR_ne, rI_nk, rL_nk, rR_nk, rI_eq, rL_eq, rR_eq, Option.toList_some, Option.toList_none, List.cons_append, List.nil_append, List.append_nil, zc_eq, zc_lt, zc_le, zc_ge, zc_gt]
      all_goals exact hh
    · subst z1
      have hc_z := chk_z (fun ⟨l, l0, l1, l2⟩ => hz l l0 (by omega) l2)
      simp (disch := omega) only [B_118_72, inI, inL, isT, kInt, kByt, true_and, and_true, an_t, im_t, im_f, or_true, true_or, true_imp_iff, false_imp_iff, not_true_eq_false, not_false_eq_true, gK_uI, gK_uL, gK_uR, gK_uCI, gK_uCL, gN_uI, gN_uL, gN_uR, gN_uCI, gN_uCL, gR_uI, gR_uL, gR_uCI, gR_uCL, gI_uL, gI_uR, gI_uCL, gL_uI, gL_uR, gL_uCI, gz_uI, gz_uL, gz_uR, gz_uCI, gz_uCL, gs_uI, gs_uL, gs_uR, gs_uCI, gs_uCL, rI_at, rL_at, rR_at, rI_ne, rL_ne, rR_ne, rI_nk, rL_nk, rR_nk, rI_eq, rL_eq, rR_eq, Option.toList_some, Option.toList_none, List.cons_append, List.nil_append, List.append_nil, zc_eq, zc_lt, zc_le, zc_ge, zc_gt]
      all_goals exact hc_z
  rw [B_118_66]
  simp only [List.append_nil]
  exact ⟨hs.1.1, ie⟩
theorem X_draw {d_z p_z : Nat} {va v_z w_z f_z : Int} (hs : ShMa M c) (h9 : gR M c 9 = s) (hsa : ShSa M s) (d5_z : d_z < 5) (hw : gI M (c + 22 + 4 * d_z) 6 = w_z) (w0_z : 1 ≤ w_z) (w1_z : w_z ≤ 16) (hv : gL M (c + 22 + 4 * d_z + 1) (w_z - 1) = va) (hva : NV va ∨ (fd va = 0 ∧ 0 ≤ fu va ∧ fu va ≤ 7)) (v0_z : 0 ≤ v_z) (v1_z : v_z ≤ 205) (hvf : v_z / 100 = 2 → v_z = 200 + f_z) (f0_z : 0 ≤ f_z) (f1_z : f_z ≤ 5) (hp : gR M (s + 1) (f_z + 1) = p_z) (hL : fd va = 0 → ∀ qq : Option AV → Mem → Prop, qq (some (a_i v_z)) M → Call G J_Ma_lookUp [a_r c, a_i (fu va)] M qq)
    (h2 : fd va ≠ 0 → Q (some (a_i 2)) M) (h3 : fd va = 0 → ¬ (v_z / 100 = 2 ∧ p_z ≠ 0) → Q (some (a_i 3)) M) (exq : fd va = 0 → v_z / 100 = 2 → p_z ≠ 0 → At G 118 66 [a_r c, a_r (c + 22 + 4 * d_z), a_l va, a_u, a_i v_z, a_i f_z, a_u] [] M Q) : Call G J_Ma_draw [a_r c, a_r (c + 22 + 4 * d_z)] M Q := by
  have hf : ShFr M (c + 22 + 4 * d_z) := (hs.2.2.2.1 d_z d5_z).2
  have hP0 := fun qq => X_peek (G := G) (Q := qq) (x_z := 0) hf (by decide) (by omega) (by omega)
  rw [hw, Int.sub_zero, hv] at hP0
  have ub_z : inI (fu va) ∧ fd va ≤ 2147483647 := by
    rcases hva with q_z | q_z
    · exact ⟨⟨by have := q_z.1; omega, by have := q_z.2.1; omega⟩, by have := q_z.2.2.2; omega⟩
    · exact ⟨⟨by omega, by omega⟩, by omega⟩
  have hNu := fun qq => X_numerator (G := G) (Q := qq) (M := M) (p_z := va) ub_z.1
  have hNm := fun qq => X_isNameV (G := G) (Q := qq) (M := M) (p_z := va) ub_z.2
  by_cases c0_z : fd va = 0
  · rw [zB_t c0_z] at hNm
    have d1_z : Int.tdiv v_z 100 = v_z / 100 := Int.tdiv_eq_ediv_of_nonneg v0_z
    have d2_z : Int.tmod v_z 100 = v_z % 100 := Int.tmod_eq_emod_of_nonneg v0_z
    have bv_z : inI (v_z / 100) := ⟨by omega, by omega⟩
    have go_z : At G 118 23 [a_r c, a_r (c + 22 + 4 * d_z), a_l va, a_u, a_u, a_u, a_u] [a_i v_z] M Q := by
      by_cases c2_z : v_z / 100 = 2
      · have ev_z : v_z % 100 = f_z := by
          have := hvf c2_z
          omega
        have fm := fun qq => Y_isFormT (G := G) (Q := qq) (M := M) (x_z := f_z) ⟨f0_z, f1_z⟩
        by_cases cp_z : p_z = 0
        · have hh := h3 c0_z (fun q_z => q_z.2 cp_z)
          have cp1 : gR M (s + 1) (f_z + 1) = 0 := by rw [hp]; exact cp_z
          clear hL h2 h3 exq hvf
          simp (disch := omega) only [B_118_23, d1_z, d2_z, c2_z, ev_z, killL, fm, B_118_46, hs.1.u, h9, hsa.u, cp1, B_118_64, not_true_eq_false, inI, inL, isT, kInt, kByt, true_and, and_true, an_t, im_t, im_f, or_true, true_or, true_imp_iff, false_imp_iff, not_true_eq_false, not_false_eq_true, gK_uI, gK_uL, gK_uR, gK_uCI, gK_uCL, gN_uI, gN_uL, gN_uR, gN_uCI, gN_uCL, gR_uI, gR_uL, gR_uCI, gR_uCL, gI_uL, gI_uR, gI_uCL, gL_uI, gL_uR, gL_uCI, gz_uI, gz_uL, gz_uR, gz_uCI, gz_uCL, gs_uI, gs_uL, gs_uR, gs_uCI, gs_uCL, rI_at, rL_at, rR_at, rI_ne, rL_ne, rR_ne, rI_nk, rL_nk, rR_nk, rI_eq, rL_eq, rR_eq, Option.toList_some, Option.toList_none, List.cons_append, List.nil_append, List.append_nil, zc_eq, zc_lt, zc_le, zc_ge, zc_gt]
          all_goals exact hh
        · have hh := exq c0_z c2_z cp_z
          have cp1 : ¬ gR M (s + 1) (f_z + 1) = 0 := by rw [hp]; exact cp_z
          clear hL h2 h3 exq hvf
          simp (disch := omega) only [B_118_23, d1_z, d2_z, c2_z, ev_z, killL, fm, B_118_46, hs.1.u, h9, hsa.u, cp1, not_false_eq_true, inI, inL, isT, kInt, kByt, true_and, and_true, an_t, im_t, im_f, or_true, true_or, true_imp_iff, false_imp_iff, not_true_eq_false, not_false_eq_true, gK_uI, gK_uL, gK_uR, gK_uCI, gK_uCL, gN_uI, gN_uL, gN_uR, gN_uCI, gN_uCL, gR_uI, gR_uL, gR_uCI, gR_uCL, gI_uL, gI_uR, gI_uCL, gL_uI, gL_uR, gL_uCI, gz_uI, gz_uL, gz_uR, gz_uCI, gz_uCL, gs_uI, gs_uL, gs_uR, gs_uCI, gs_uCL, rI_at, rL_at, rR_at, rI_ne, rL_ne, rR_ne, rI_nk, rL_nk, rR_nk, rI_eq, rL_eq, rR_eq, Option.toList_some, Option.toList_none, List.cons_append, List.nil_append, List.append_nil, zc_eq, zc_lt, zc_le, zc_ge, zc_gt]
          all_goals exact hh
      · have hh := h3 c0_z (fun q_z => c2_z q_z.1)
        clear hL h2 h3 exq hvf
        simp (disch := omega) only [B_118_23, d1_z, d2_z, bv_z, c2_z, killL, B_118_64, inI, inL, isT, kInt, kByt, true_and, and_true, an_t, im_t, im_f, or_true, true_or, true_imp_iff, false_imp_iff, not_true_eq_false, not_false_eq_true, gK_uI, gK_uL, gK_uR, gK_uCI, gK_uCL, gN_uI, gN_uL, gN_uR, gN_uCI, gN_uCL, gR_uI, gR_uL, gR_uCI, gR_uCL, gI_uL, gI_uR, gI_uCL, gL_uI, gL_uR, gL_uCI, gz_uI, gz_uL, gz_uR, gz_uCI, gz_uCL, gs_uI, gs_uL, gs_uR, gs_uCI, gs_uCL, rI_at, rL_at, rR_at, rI_ne, rL_ne, rR_ne, rI_nk, rL_nk, rR_nk, rI_eq, rL_eq, rR_eq, Option.toList_some, Option.toList_none, List.cons_append, List.nil_append, List.append_nil, zc_eq, zc_lt, zc_le, zc_ge, zc_gt]
        all_goals exact hh
    have ll := hL c0_z (fun q_z M2_z => At G 118 23 [a_r c, a_r (c + 22 + 4 * d_z), a_l va, a_u, a_u, a_u, a_u] q_z.toList M2_z Q) go_z
    clear hL h2 h3 exq hvf go_z
    simp (disch := omega) only [E_Ma_draw, B_118_0, hf.u, hP0, B_118_5, hNm, B_118_10, B_118_15, hNu, B_118_20, hs.1.u, inI, inL, isT, kInt, kByt, true_and, and_true, an_t, im_t, im_f, or_true, true_or, true_imp_iff, false_imp_iff, not_true_eq_false, not_false_eq_true, gK_uI, gK_uL, gK_uR, gK_uCI, gK_uCL, gN_uI, gN_uL, gN_uR, gN_uCI, gN_uCL, gR_uI, gR_uL, gR_uCI, gR_uCL, gI_uL, gI_uR, gI_uCL, gL_uI, gL_uR, gL_uCI, gz_uI, gz_uL, gz_uR, gz_uCI, gz_uCL, gs_uI, gs_uL, gs_uR, gs_uCI, gs_uCL, rI_at, rL_at, rR_at, rI_ne, rL_ne, rR_ne, rI_nk, rL_nk, rR_nk, rI_eq, rL_eq, rR_eq, Option.toList_some, Option.toList_none, List.cons_append, List.nil_append, List.append_nil, zc_eq, zc_lt, zc_le, zc_ge, zc_gt]
    all_goals exact ll
  · have hh := h2 c0_z
    rw [zB_f c0_z] at hNm
    clear hL h2 h3 exq hvf
    simp (disch := omega) only [E_Ma_draw, B_118_0, hf.u, hP0, B_118_5, hNm, B_118_10, inI, inL, isT, kInt, kByt, true_and, and_true, an_t, im_t, im_f, or_true, true_or, true_imp_iff, false_imp_iff, not_true_eq_false, not_false_eq_true, gK_uI, gK_uL, gK_uR, gK_uCI, gK_uCL, gN_uI, gN_uL, gN_uR, gN_uCI, gN_uCL, gR_uI, gR_uL, gR_uCI, gR_uCL, gI_uL, gI_uR, gI_uCL, gL_uI, gL_uR, gL_uCI, gz_uI, gz_uL, gz_uR, gz_uCI, gz_uCL, gs_uI, gs_uL, gs_uR, gs_uCI, gs_uCL, rI_at, rL_at, rR_at, rI_ne, rL_ne, rR_ne, rI_nk, rL_nk, rR_nk, rI_eq, rL_eq, rR_eq, Option.toList_some, Option.toList_none, List.cons_append, List.nil_append, List.append_nil, zc_eq, zc_lt, zc_le, zc_ge, zc_gt]
    all_goals exact hh
end AY
