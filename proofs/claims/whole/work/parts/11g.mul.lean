/-! THE PURE PART, part 11: corners of rect and the product of matrices in the model. Own work. -/
section ME
variable {G : Env0} {Q : Option AV → Mem → Prop} {M : Mem} {m : Nat} {mt : Int → Int}
theorem X_corners {x0_z y0 w_z hh : Int} (hs : ShM M m) (hg : GV M m mt) (hl : LvM M m) (h4 : 4 ≤ gI M (m + 19) (gI M m 36)) (hf : gI M m 16 = 0) (n0_z : NV x0_z) (n1_z : NV y0) (n2_z : NV w_z) (n3_z : NV hh) (o1 : OpM M m 1 w_z) (o0_z : OpM M m 0 hh) (h_z : ∀ M', Sy M M' m → ((gI M' m 16 = 0 ∧ rGood mt x0_z y0 (fS x0_z w_z) (fS y0 hh) ∧ ∀ k_z, 0 ≤ k_z → k_z < 4 → gI M' (m + 27) k_z = dv mt (pX x0_z (fS x0_z w_z) k_z) (pY y0 (fS y0 hh) k_z) 0 ∧ gI M' (m + 28) k_z = dv mt (pX x0_z (fS x0_z w_z) k_z) (pY y0 (fS y0 hh) k_z) 1) ∨ (gI M' m 16 = 1 ∧ ¬ rGood mt x0_z y0 (fS x0_z w_z) (fS y0 hh))) → Q none M') : Call G J_M_corners [a_r m, a_i (fu x0_z), a_i (fd x0_z), a_i (fu y0), a_i (fd y0)] M Q := by
  rw [E_M_corners, B_223_0]
  have S1 : Sy M (uL (uL M m 14 (fu x0_z)) m 15 (fd x0_z)) m := ((Sy.refl M m).uL _ _).uL _ _
  have hs1 := S1.sh hs
  have hl1 := LvM.sy hl S1
  obtain ⟨p1_z, p2_z⟩ := OpM.sy o1 S1
  have L_z := hl1
  obtain ⟨l1, l2, l3, l4⟩ := L_z
  have l5 : 4 ≤ gI (uL (uL M m 14 (fu x0_z)) m 15 (fd x0_z)) (m + 19) (gI (uL (uL M m 14 (fu x0_z)) m 15 (fd x0_z)) m 36) := h4
  have t1_z : 0 ≤ tpM (uL (uL M m 14 (fu x0_z)) m 15 (fd x0_z)) m 1 ∧ tpM (uL (uL M m 14 (fu x0_z)) m 15 (fd x0_z)) m 1 < 80 := by unfold tpM; omega
  have A1 := a3_uL (M_z := M) (m := m) hf n0_z rfl rfl
  refine ⟨hs.1, hs.1, ?_⟩
  generalize uL (uL M m 14 (fu x0_z)) m 15 (fd x0_z) = M1_z at S1 hs1 hl1 p1_z p2_z l1 l2 l3 l4 l5 t1_z A1
  rw [B_223_12]
  refine ⟨hs1.1, hs1.1, (X_top hs1 hl1 (by decide) (by decide)).mpr ?_⟩
  simp (disch := omega) only [B_223_23, hs1.u, X_top hs1.u hl1 (k_z := 1) (by decide) (by decide), B_223_34, p1_z, p2_z, inI, inL, isT, kInt, kByt, true_and, and_true, an_t, im_t, im_f, or_true, true_or, true_imp_iff, false_imp_iff, not_true_eq_false, not_false_eq_true, gK_uI, gK_uL, gK_uR, gK_uCI, gK_uCL, gN_uI, gN_uL, gN_uR, gN_uCI, gN_uCL, gR_uI, gR_uL, gR_uCI, gR_uCL, gI_uL, gI_uR, gI_uCL, gL_uI, gL_uR, gL_uCI, gz_uI, gz_uL, gz_uR, gz_uCI, gz_uCL, gs_uI, gs_uL, gs_uR, gs_uCI, gs_uCL, rI_at, rL_at, rR_at, rI_ne, rL_ne, rR_ne, rI_nk, rL_nk, rR_nk, rI_eq, rL_eq, rR_eq, Option.toList_some, Option.toList_none, List.cons_append, List.nil_append, List.append_nil]
  refine X_goesA (Or.inl rfl) hs1.1 A1 n2_z (fun M2_z s2_z a2 => ?_)
  have e2_z : fop 0 x0_z w_z = fS x0_z w_z := rfl
  rw [e2_z] at a2
  have S2 := S1.trans s2_z.sd.sy
  have hs2 := S2.sh hs
  simp only [Option.toList_some, Option.toList_none, List.cons_append, List.nil_append, List.append_nil]
  rw [B_223_39]
  refine ⟨hs2.1, hs2.1, hs2.1, hs2.1, ?_⟩
  have hE : gI M2_z m 16 = 0 → NV (fS x0_z w_z) ∧ gL M2_z m 14 = fu (fS x0_z w_z) ∧ gL M2_z m 15 = fd (fS x0_z w_z) := by
    intro q_z
    rcases a2 with a2 | a2
    · exact a2.2
    · omega
  have hB_z : (gI M2_z m 16 = 0 ∧ sml (gL M2_z m 14) (gL M2_z m 15)) ∨ (gI M2_z m 16 = 1 ∧ fS x0_z w_z = -1 ∧ big (gL M2_z m 14) (gL M2_z m 15)) := by
    rcases a2 with ⟨q1_z, q2_z, q3_z, q4_z⟩ | ⟨q1_z, q2_z, q3_z, q4_z, q5_z⟩
    · exact Or.inl ⟨q1_z, nv_sml q2_z q3_z q4_z⟩
    · exact Or.inr ⟨q1_z, q2_z, q3_z, q4_z, q5_z⟩
  generalize gL M2_z m 14 = eU at hE hB_z ⊢
  generalize gL M2_z m 15 = eD at hE hB_z ⊢
  have S3 : Sx M2_z (uL (uL M2_z m 14 (fu y0)) m 15 (fd y0)) m := ((Sx.refl M2_z m).uL _ _).uL _ _
  have S3' := S2.trans S3.sd.sy
  have f3_z : gI (uL (uL M2_z m 14 (fu y0)) m 15 (fd y0)) m 16 = gI M2_z m 16 := rfl
  have u3 : gL (uL (uL M2_z m 14 (fu y0)) m 15 (fd y0)) m 14 = fu y0 := by simp (disch := omega) only [gK_uI, gK_uL, gK_uR, gK_uCI, gK_uCL, gN_uI, gN_uL, gN_uR, gN_uCI, gN_uCL, gR_uI, gR_uL, gR_uCI, gR_uCL, gI_uL, gI_uR, gI_uCL, gL_uI, gL_uR, gL_uCI, gz_uI, gz_uL, gz_uR, gz_uCI, gz_uCL, gs_uI, gs_uL, gs_uR, gs_uCI, gs_uCL, rI_at, rL_at, rR_at, rI_ne, rL_ne, rR_ne, rI_nk, rL_nk, rR_nk, rI_eq, rL_eq, rR_eq]
  have d3_z : gL (uL (uL M2_z m 14 (fu y0)) m 15 (fd y0)) m 15 = fd y0 := by simp (disch := omega) only [gK_uI, gK_uL, gK_uR, gK_uCI, gK_uCL, gN_uI, gN_uL, gN_uR, gN_uCI, gN_uCL, gR_uI, gR_uL, gR_uCI, gR_uCL, gI_uL, gI_uR, gI_uCL, gL_uI, gL_uR, gL_uCI, gz_uI, gz_uL, gz_uR, gz_uCI, gz_uCL, gs_uI, gs_uL, gs_uR, gs_uCI, gs_uCL, rI_at, rL_at, rR_at, rI_ne, rL_ne, rR_ne, rI_nk, rL_nk, rR_nk, rI_eq, rL_eq, rR_eq]
  generalize uL (uL M2_z m 14 (fu y0)) m 15 (fd y0) = M3_z at S3 S3' f3_z u3 d3_z
  have hs3 := S3'.sh hs
  have hl3 := LvM.sy hl S3'
  obtain ⟨p3_z, p4_z⟩ := OpM.sy o0_z S3'
  have t3_z : 0 ≤ tpM M3_z m 0 ∧ tpM M3_z m 0 < 80 := by
    have := tpM_sy (k_z := 0) S3'
    obtain ⟨l1, l2, l3, l4⟩ := hl
    unfold tpM at this ⊢
    omega
  simp (disch := omega) only [B_223_64, B_223_75, hs3.u, X_top hs3.u hl3 (k_z := 0) (by decide) (by decide), B_223_86, p3_z, p4_z, inI, inL, isT, kInt, kByt, true_and, and_true, an_t, im_t, im_f, or_true, true_or, true_imp_iff, false_imp_iff, not_true_eq_false, not_false_eq_true, gK_uI, gK_uL, gK_uR, gK_uCI, gK_uCL, gN_uI, gN_uL, gN_uR, gN_uCI, gN_uCL, gR_uI, gR_uL, gR_uCI, gR_uCL, gI_uL, gI_uR, gI_uCL, gL_uI, gL_uR, gL_uCI, gz_uI, gz_uL, gz_uR, gz_uCI, gz_uCL, gs_uI, gs_uL, gs_uR, gs_uCI, gs_uCL, rI_at, rL_at, rR_at, rI_ne, rL_ne, rR_ne, rI_nk, rL_nk, rR_nk, rI_eq, rL_eq, rR_eq, Option.toList_some, Option.toList_none, List.cons_append, List.nil_append, List.append_nil]
  have fin_z : ∀ M4_z, Sx M3_z M4_z m → ((gI M2_z m 16 = 0 ∧ A3 M4_z m (fS y0 hh)) ∨ (gI M2_z m 16 = 1 ∧ M4_z = M3_z)) → ∀ u1_z u2_z, At G 223 91 [a_r m, a_i (fu x0_z), a_i (fd x0_z), a_i (fu y0), a_i (fd y0), a_l eU, u1_z, a_l eD, u2_z] [] M4_z Q := by
    intro M4_z s4_z o4_z u1_z u2_z
    have S4 := S3'.trans s4_z.sd.sy
    have hs4 := S4.sh hs
    rw [B_223_91]
    have ng : fS x0_z w_z = -1 → ¬ rGood mt x0_z y0 (fS x0_z w_z) (fS y0 hh) := fun q_z r_z => r_z 1 0 (by decide) (by decide) (by decide) (by decide) (by
      rw [q_z]
      exact dv_m1 _ _ _ (by decide))
    have ng2 : fS y0 hh = -1 → ¬ rGood mt x0_z y0 (fS x0_z w_z) (fS y0 hh) := fun q_z r_z => r_z 2 0 (by decide) (by decide) (by decide) (by decide) (by
      rw [q_z]
      exact dv_m2 _ _ _ (by decide))
    rcases o4_z with ⟨z2, o4_z⟩ | ⟨z2, o4_z⟩
    · have n5_z := (hE z2).1
      have sm_z : sml eU eD := by
        rcases hB_z with hB_z | hB_z
        · exact hB_z.2
        · omega
      refine ⟨hs4.1, X_rectangle (x0_z := x0_z) (y0 := y0) (x1_z := fS x0_z w_z) (y1 := fS y0 hh) hs4 (hg.sy S4) o4_z.fl ?_ (nv_sml n0_z rfl rfl) (nv_sml n1_z rfl rfl) (Or.inr ⟨sm_z, ?_⟩) (fun M5_z s5 o5_z => ?_)⟩
      · intro z4
        rcases o4_z with o4_z | o4_z
        · exact ⟨⟨n0_z, rfl, rfl⟩, ⟨n1_z, rfl, rfl⟩, hE z2, o4_z.2⟩
        · omega
      · rcases o4_z with ⟨q1_z, q2_z, q3_z, q4_z⟩ | ⟨q1_z, q2_z, q3_z, q4_z, q5_z⟩
        · exact sml_big (nv_sml q2_z q3_z q4_z)
        · exact ⟨q3_z, q4_z, q5_z⟩
      · simp only [B_223_108, Option.toList_some, Option.toList_none, List.cons_append, List.nil_append, List.append_nil]
        refine h_z M5_z (S4.trans s5) ?_
        rcases o5_z with ⟨r1_z, r2, r3, r4⟩ | ⟨r1_z, r2⟩
        · exact Or.inl ⟨r1_z, r3, r4⟩
        · refine Or.inr ⟨r1_z, ?_⟩
          rcases r2 with r2 | r2
          · rcases o4_z with o4_z | o4_z
            · omega
            · exact ng2 o4_z.2.1
          · exact r2
    · subst o4_z
      have bg : fS x0_z w_z = -1 ∧ big eU eD := by
        rcases hB_z with hB_z | hB_z
        · omega
        · exact hB_z.2
      refine ⟨hs4.1, X_rectangle (x0_z := x0_z) (y0 := y0) (x1_z := fS x0_z w_z) (y1 := fS y0 hh) hs4 (hg.sy S4) (Or.inr (by omega)) (fun q_z => by omega) (nv_sml n0_z rfl rfl) (nv_sml n1_z rfl rfl) (Or.inl ⟨bg.2, nv_sml n1_z u3 d3_z⟩) (fun M5_z s5 o5_z => ?_)⟩
      simp only [B_223_108, Option.toList_some, Option.toList_none, List.cons_append, List.nil_append, List.append_nil]
      refine h_z M5_z (S4.trans s5) ?_
      rcases o5_z with ⟨r1_z, r2, r3, r4⟩ | ⟨r1_z, r2⟩
      · omega
      · exact Or.inr ⟨r1_z, ng bg.1⟩
  rcases hB_z with ⟨z2, hB_z⟩ | ⟨z2, hB_z, -⟩
  · refine X_goes0 (by decide) (by decide) hs3.1 (by omega) n1_z n3_z u3 d3_z (fun q_z => absurd q_z (by decide)) (fun M4_z s4_z a4 => ?_)
    simp only [Option.toList_some, Option.toList_none, List.cons_append, List.nil_append, List.append_nil]
    exact fin_z M4_z s4_z (Or.inl ⟨z2, a4⟩) _ _
  · have c1_z := nv_u n1_z
    have c2_z := nv_d n1_z
    refine X_goes1 (A_z := 1000000) (B_z := 1000000) (U_z := 1000000) (D_z := 1000000) (by decide) (by decide) hs3.1 (by omega) (nv_u n3_z) (nv_d n3_z) (by omega) (by omega) (by decide) (by decide) (by decide) (by decide) (by decide) ?_
    simp only [Option.toList_some, Option.toList_none, List.cons_append, List.nil_append, List.append_nil]
    exact fin_z M3_z (Sx.refl _ _) (Or.inr ⟨z2, rfl⟩) _ _
/-- an entry of the new matrix -/
def pv (mt_z op_z : Int → Int) (j_z : Int) : Int := fsum mt_z (op_z (5 - 2 * (j_z / 2))) (op_z (4 - 2 * (j_z / 2))) (j_z % 2) (2 + j_z % 2) (if j_z / 2 = 2 then 4 + j_z % 2 else -1)
def MuI (M_z : Mem) (m_z : Nat) (mt_z op_z : Int → Int) (k_z : Int) : Prop := (gI M_z m_z 16 = 0 ∧ ∀ j_z, 0 ≤ j_z → j_z < k_z → NV (pv mt_z op_z j_z) ∧ gI M_z (m_z + 26) j_z = fu (pv mt_z op_z j_z) ∧ gI M_z (m_z + 26) (6 + j_z) = fd (pv mt_z op_z j_z)) ∨ (gI M_z m_z 16 = 1 ∧ ∃ j_z, 0 ≤ j_z ∧ j_z < k_z ∧ pv mt_z op_z j_z = -1)
theorem mul_loop {op_z : Int → Int} (hs : ShM M m) (hg : GV M m mt) (hl : LvM M m) (h6 : 6 ≤ gI M (m + 19) (gI M m 36)) (ho : ∀ k_z, 0 ≤ k_z → k_z < 6 → NV (op_z k_z) ∧ OpM M m k_z (op_z k_z)) (h_z : ∀ M', Sy M M' m → MuI M' m mt op_z 6 → Q none M') : ∀ (n_z : Nat) (k_z : Int) (M1_z : Mem) (u2_z u3 u4_z : AV), (6 - k_z).toNat = n_z → 0 ≤ k_z → k_z ≤ 6 → Sy M M1_z m → MuI M1_z m mt op_z k_z → At G 216 2 [a_r m, a_i k_z, u2_z, u3, u4_z] [] M1_z Q := by
  intro n_z
  induction n_z with
  | zero =>
    intro k_z M1_z u2_z u3 u4_z hn k0_z k1_z s1_z i1_z
    have : k_z = 6 := by omega
    subst this
    rw [B_216_2]
    simp (disch := omega) only [B_216_120, inI, inL, isT, kInt, kByt, true_and, and_true, an_t, im_t, im_f, or_true, true_or, true_imp_iff, false_imp_iff, not_true_eq_false, not_false_eq_true]
    exact h_z M1_z s1_z i1_z
  | succ n_z ih_z =>
    intro k_z M1_z u2_z u3 u4_z hn k0_z k1_z s1_z i1_z
    have hs1 := s1_z.sh hs
    have hg1 := hg.sy s1_z
    have hl1 := LvM.sy hl s1_z
    have d1_z : Int.tdiv k_z 2 = k_z / 2 := Int.tdiv_eq_ediv_of_nonneg k0_z
    have d2_z : Int.tmod k_z 2 = k_z % 2 := Int.tmod_eq_emod_of_nonneg k0_z
    obtain ⟨nx, ox1, ox2⟩ := ho (5 - 2 * (k_z / 2)) (by omega) (by omega)
    obtain ⟨ny, oy1, oy2⟩ := ho (4 - 2 * (k_z / 2)) (by omega) (by omega)
    have px := OpM.sy ⟨ox1, ox2⟩ s1_z
    have py := OpM.sy ⟨oy1, oy2⟩ s1_z
    obtain ⟨px1, px2⟩ := px
    obtain ⟨py1, py2⟩ := py
    have ex_z := tpM_sy (k_z := 5 - 2 * (k_z / 2)) s1_z
    have ey := tpM_sy (k_z := 4 - 2 * (k_z / 2)) s1_z
    have tx : 0 ≤ tpM M1_z m (5 - 2 * (k_z / 2)) ∧ tpM M1_z m (5 - 2 * (k_z / 2)) < 80 := by
      rw [ex_z]
      obtain ⟨l1, l2, l3, l4⟩ := hl
      unfold tpM
      omega
    have ty_z : 0 ≤ tpM M1_z m (4 - 2 * (k_z / 2)) ∧ tpM M1_z m (4 - 2 * (k_z / 2)) < 80 := by
      rw [ey]
      obtain ⟨l1, l2, l3, l4⟩ := hl
      unfold tpM
      omega
    have step : ∀ t_z : Int, t_z = (if k_z / 2 = 2 then 4 + k_z % 2 else -1) → Call G J_M_sum [a_r m, a_l (fu (op_z (5 - 2 * (k_z / 2)))), a_l (fd (op_z (5 - 2 * (k_z / 2)))), a_i (k_z % 2), a_l (fu (op_z (4 - 2 * (k_z / 2)))), a_l (fd (op_z (4 - 2 * (k_z / 2)))), a_i (2 + k_z % 2), a_i t_z] M1_z (fun r_z M2_z => At G 216 89 [a_r m, a_i k_z, a_i (k_z / 2), a_i (tpM M1_z m (5 - 2 * (k_z / 2))), a_i (tpM M1_z m (4 - 2 * (k_z / 2)))] r_z.toList M2_z Q) := by
      intro t_z ht
      have tb_z : -1 ≤ t_z ∧ t_z < 6 := by rw [ht]; split <;> omega
      have ev_z : fsum mt (op_z (5 - 2 * (k_z / 2))) (op_z (4 - 2 * (k_z / 2))) (k_z % 2) (2 + k_z % 2) t_z = pv mt op_z k_z := by rw [ht]; rfl
      have fin_z : ∀ M2_z, Sx M1_z M2_z m → ((gI M1_z m 16 = 0 ∧ A3 M2_z m (pv mt op_z k_z)) ∨ (gI M1_z m 16 = 1 ∧ gI M2_z m 16 = 1)) → At G 216 89 [a_r m, a_i k_z, a_i (k_z / 2), a_i (tpM M1_z m (5 - 2 * (k_z / 2))), a_i (tpM M1_z m (4 - 2 * (k_z / 2)))] [] M2_z Q := by
        intro M2_z s2_z o2
        have S2 := s1_z.trans s2_z.sd.sy
        have hs2 := S2.sh hs
        rw [B_216_89]
        simp (disch := omega) only [hs2.u, inI, inL, isT, kInt, kByt, true_and, and_true, an_t, im_t, im_f, or_true, true_or, true_imp_iff, false_imp_iff, not_true_eq_false, not_false_eq_true, gK_uI, gK_uL, gK_uR, gK_uCI, gK_uCL, gN_uI, gN_uL, gN_uR, gN_uCI, gN_uCL, gR_uI, gR_uL, gR_uCI, gR_uCL, gI_uL, gI_uR, gI_uCL, gL_uI, gL_uR, gL_uCI, gz_uI, gz_uL, gz_uR, gz_uCI, gz_uCL, gs_uI, gs_uL, gs_uR, gs_uCI, gs_uCL, rI_at, rL_at, rR_at, rI_ne, rL_ne, rR_ne, rI_nk, rL_nk, rR_nk, rI_eq, rL_eq, rR_eq]
        rw [B_216_114]
        refine ⟨⟨by omega, by omega⟩, ih_z (k_z + 1) _ _ _ _ (by omega) (by omega) (by omega) ((S2.uI _ (Or.inr (Or.inl rfl))).uI _ (Or.inr (Or.inl rfl))) ?_⟩
        have r26 : gI M2_z (m + 26) = gI M1_z (m + 26) := s2_z.row (by omega)
        have f2_z : gI (uI (uI M2_z (m + 26) k_z (zL2i (gL M2_z m 14))) (m + 26) (6 + k_z) (zL2i (gL M2_z m 15))) m 16 = gI M2_z m 16 := by simp (disch := omega) only [gK_uI, gK_uL, gK_uR, gK_uCI, gK_uCL, gN_uI, gN_uL, gN_uR, gN_uCI, gN_uCL, gR_uI, gR_uL, gR_uCI, gR_uCL, gI_uL, gI_uR, gI_uCL, gL_uI, gL_uR, gL_uCI, gz_uI, gz_uL, gz_uR, gz_uCI, gz_uCL, gs_uI, gs_uL, gs_uR, gs_uCI, gs_uCL, rI_at, rL_at, rR_at, rI_ne, rL_ne, rR_ne, rI_nk, rL_nk, rR_nk, rI_eq, rL_eq, rR_eq]
        unfold MuI
        rw [f2_z]
        rcases o2 with ⟨z1, ⟨z2, v1_z, v2, v3⟩ | ⟨z2, v1_z, -⟩⟩ | ⟨z1, z2⟩
        · rcases i1_z with ⟨-, i1_z⟩ | ⟨y1, -⟩
          · refine Or.inl ⟨z2, fun j_z j0 j1 => ?_⟩
            by_cases cj : j_z = k_z
            · subst cj
              rw [v2, v3, l2i_id ⟨by have := v1_z.1; omega, by have := v1_z.2.1; omega⟩, l2i_id ⟨by have := v1_z.2.2.1; omega, by have := v1_z.2.2.2; omega⟩]
              exact ⟨v1_z, by simp (disch := omega) only [gK_uI, gK_uL, gK_uR, gK_uCI, gK_uCL, gN_uI, gN_uL, gN_uR, gN_uCI, gN_uCL, gR_uI, gR_uL, gR_uCI, gR_uCL, gI_uL, gI_uR, gI_uCL, gL_uI, gL_uR, gL_uCI, gz_uI, gz_uL, gz_uR, gz_uCI, gz_uCL, gs_uI, gs_uL, gs_uR, gs_uCI, gs_uCL, rI_at, rL_at, rR_at, rI_ne, rL_ne, rR_ne, rI_nk, rL_nk, rR_nk, rI_eq, rL_eq, rR_eq], by simp (disch := omega) only [gK_uI, gK_uL, gK_uR, gK_uCI, gK_uCL, gN_uI, gN_uL, gN_uR, gN_uCI, gN_uCL, gR_uI, gR_uL, gR_uCI, gR_uCL, gI_uL, gI_uR, gI_uCL, gL_uI, gL_uR, gL_uCI, gz_uI, gz_uL, gz_uR, gz_uCI, gz_uCL, gs_uI, gs_uL, gs_uR, gs_uCI, gs_uCL, rI_at, rL_at, rR_at, rI_ne, rL_ne, rR_ne, rI_nk, rL_nk, rR_nk, rI_eq, rL_eq, rR_eq]⟩
            · obtain ⟨w1_z, w2_z, w3_z⟩ := i1_z j_z j0 (by omega)
              exact ⟨w1_z, by simp (disch := omega) only [gK_uI, gK_uL, gK_uR, gK_uCI, gK_uCL, gN_uI, gN_uL, gN_uR, gN_uCI, gN_uCL, gR_uI, gR_uL, gR_uCI, gR_uCL, gI_uL, gI_uR, gI_uCL, gL_uI, gL_uR, gL_uCI, gz_uI, gz_uL, gz_uR, gz_uCI, gz_uCL, gs_uI, gs_uL, gs_uR, gs_uCI, gs_uCL, rI_at, rL_at, rR_at, rI_ne, rL_ne, rR_ne, rI_nk, rL_nk, rR_nk, rI_eq, rL_eq, rR_eq, r26, w2_z], by simp (disch := omega) only [gK_uI, gK_uL, gK_uR, gK_uCI, gK_uCL, gN_uI, gN_uL, gN_uR, gN_uCI, gN_uCL, gR_uI, gR_uL, gR_uCI, gR_uCL, gI_uL, gI_uR, gI_uCL, gL_uI, gL_uR, gL_uCI, gz_uI, gz_uL, gz_uR, gz_uCI, gz_uCL, gs_uI, gs_uL, gs_uR, gs_uCI, gs_uCL, rI_at, rL_at, rR_at, rI_ne, rL_ne, rR_ne, rI_nk, rL_nk, rR_nk, rI_eq, rL_eq, rR_eq, r26, w3_z]⟩
          · omega
        · exact Or.inr ⟨z2, k_z, k0_z, by omega, v1_z⟩
        · rcases i1_z with ⟨y1, -⟩ | ⟨-, j_z, j0, j1, j2_z⟩
          · omega
          · exact Or.inr ⟨z2, j_z, j0, by omega, j2_z⟩
      by_cases z1 : gI M1_z m 16 = 0
      · exact X_sum0 hs1 hg1 z1 nx ny (by omega) (by omega) (by omega) (by omega) tb_z.1 tb_z.2 (fun M2_z s2_z a2 => fin_z M2_z s2_z (Or.inl ⟨z1, by rw [ev_z] at a2; exact a2⟩))
      · have z2 : gI M1_z m 16 = 1 := by
          rcases i1_z with ⟨y1, -⟩ | ⟨y1, -⟩
          · omega
          · exact y1
        have c1_z := nv_u nx
        have c2_z := nv_d nx
        exact X_sum1 (A_z := 2000000000000) (B_z := 1000000000000) (C_z := 1000000) (D_z := 1000000) hs1 hg1 z2 (by omega) (by omega) (nv_u ny) (nv_d ny) (Or.inl ⟨rfl, rfl, rfl, rfl⟩) (by omega) (by omega) (by omega) (by omega) tb_z.1 tb_z.2 (fun M2_z s2_z f2_z _ _ => fin_z M2_z s2_z (Or.inr ⟨z2, f2_z⟩))
    rw [B_216_2]
    simp (disch := omega) only [d1_z, d2_z, hs1.u, X_top hs1.u hl1 (k_z := 5 - 2 * (k_z / 2)) (by omega) (by omega), B_216_21, X_top hs1.u hl1 (k_z := 4 - 2 * (k_z / 2)) (by omega) (by omega), B_216_31, px1, px2, py1, py2, inI, inL, isT, kInt, kByt, true_and, and_true, an_t, im_t, im_f, or_true, true_or, true_imp_iff, false_imp_iff, not_true_eq_false, not_false_eq_true, gK_uI, gK_uL, gK_uR, gK_uCI, gK_uCL, gN_uI, gN_uL, gN_uR, gN_uCI, gN_uCL, gR_uI, gR_uL, gR_uCI, gR_uCL, gI_uL, gI_uR, gI_uCL, gL_uI, gL_uR, gL_uCI, gz_uI, gz_uL, gz_uR, gz_uCI, gz_uCL, gs_uI, gs_uL, gs_uR, gs_uCI, gs_uCL, rI_at, rL_at, rR_at, rI_ne, rL_ne, rR_ne, rI_nk, rL_nk, rR_nk, rI_eq, rL_eq, rR_eq, Option.toList_some, Option.toList_none, List.cons_append, List.nil_append, List.append_nil]
    by_cases c_z : k_z / 2 = 2
    · have st_z := step (4 + k_z % 2) (by rw [if_pos c_z])
      simp (disch := omega) only [B_216_85, B_216_86, hs1.u, inI, inL, isT, kInt, kByt, true_and, and_true, an_t, im_t, im_f, or_true, true_or, true_imp_iff, false_imp_iff, not_true_eq_false, not_false_eq_true, gK_uI, gK_uL, gK_uR, gK_uCI, gK_uCL, gN_uI, gN_uL, gN_uR, gN_uCI, gN_uCL, gR_uI, gR_uL, gR_uCI, gR_uCL, gI_uL, gI_uR, gI_uCL, gL_uI, gL_uR, gL_uCI, gz_uI, gz_uL, gz_uR, gz_uCI, gz_uCL, gs_uI, gs_uL, gs_uR, gs_uCI, gs_uCL, rI_at, rL_at, rR_at, rI_ne, rL_ne, rR_ne, rI_nk, rL_nk, rR_nk, rI_eq, rL_eq, rR_eq, Option.toList_some, Option.toList_none, List.cons_append, List.nil_append, List.append_nil]
      exact st_z
    · have st_z := step (-1) (by rw [if_neg c_z])
      simp (disch := omega) only [B_216_85, B_216_86, hs1.u, inI, inL, isT, kInt, kByt, true_and, and_true, an_t, im_t, im_f, or_true, true_or, true_imp_iff, false_imp_iff, not_true_eq_false, not_false_eq_true, gK_uI, gK_uL, gK_uR, gK_uCI, gK_uCL, gN_uI, gN_uL, gN_uR, gN_uCI, gN_uCL, gR_uI, gR_uL, gR_uCI, gR_uCL, gI_uL, gI_uR, gI_uCL, gL_uI, gL_uR, gL_uCI, gz_uI, gz_uL, gz_uR, gz_uCI, gz_uCL, gs_uI, gs_uL, gs_uR, gs_uCI, gs_uCL, rI_at, rL_at, rR_at, rI_ne, rL_ne, rR_ne, rI_nk, rL_nk, rR_nk, rI_eq, rL_eq, rR_eq, Option.toList_some, Option.toList_none, List.cons_append, List.nil_append, List.append_nil]
      all_goals exact st_z
theorem X_multiplies {op_z : Int → Int} (hs : ShM M m) (hg : GV M m mt) (hl : LvM M m) (h6 : 6 ≤ gI M (m + 19) (gI M m 36)) (hf : gI M m 16 = 0) (ho : ∀ k_z, 0 ≤ k_z → k_z < 6 → NV (op_z k_z) ∧ OpM M m k_z (op_z k_z)) (h_z : ∀ M', Sy M M' m → MuI M' m mt op_z 6 → Q none M') : Call G J_M_multiplies [a_r m] M Q := by
  rw [E_M_multiplies, B_216_0]
  exact mul_loop hs hg hl h6 ho h_z _ 0 M _ _ _ rfl (by decide) (by decide) (Sy.refl M m) (Or.inl ⟨hf, fun j_z j0 j1 => absurd j1 (by omega)⟩)
end ME
