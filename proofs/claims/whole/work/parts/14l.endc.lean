/-! THE PURE PART, part 14: the class ends its path. Own work. -/
section AI
variable {G : Env0} {Q : Option AV → Mem → Prop} {M T : Mem} {c s m r : Nat}
theorem X_endGo {k_z g_z : Nat} {x_z tk u_z e_z kk it n_z : Int} (hs : ShMa M c) (ho : OpF G M) (hk : k_z = 9 ∨ k_z = 10 ∨ k_z = 11) (sG : ShGr M g_z) (hg : c + 42 ≤ g_z) (hee : gI M (c + 4) 5 = e_z) (e0_z : 0 ≤ e_z) (e1_z : e_z < 200) (hkk : gI M (c + 4) 6 = kk) (hit_z : gI M (c + 3) 8 = it) (it0 : 0 ≤ it) (hit1 : k_z ≠ 11 → it < 30) (hnn_z : gI M g_z 2 = n_z) (n0_z : 0 ≤ n_z) (hn1 : u_z = 1 → n_z < 6) (hu1 : u_z = 0 ∨ u_z = 1)
    (h_z : ∀ M1_z M2_z M3_z, M1_z = uI (uI (uI (uI M (c + 4) 5 (e_z + 1)) (c + 4 + 4) (e_z + 1) kk) (c + 4 + 5) (e_z + 1) 0) (c + 4) 7 0 → ((k_z = 11 ∧ M2_z = M1_z) ∨ (k_z ≠ 11 ∧ M2_z = uI (uCI (uI (uI (uI (uI (uI (uI M1_z (c + 3 + 7) it e_z) (c + 3 + 8) it (if k_z = 10 then 1 else 0)) (c + 3 + 9) it (gI M1_z g_z 3)) (c + 3 + 10) it x_z) (c + 3 + 11) it tk) (c + 3 + 12) it (gI M1_z g_z 2)) (c + 3 + 13) (it * 6) (g_z + 2) 0 6) (c + 3) 8 (it + 1))) → ((u_z = 0 ∧ M3_z = M2_z) ∨ (u_z = 1 ∧ M3_z = uI (uI M2_z (g_z + 2) n_z e_z) g_z 2 (n_z + 1))) → Q (some (a_i 0)) M3_z) : At G 108 65 [a_r c, a_r (G.2 (3 + k_z)), a_i x_z, a_i tk, a_i (if k_z = 11 then 0 else 1), a_i u_z, a_r g_z, a_u] [] M Q := by
  have sP : ShPa M (c + 4) := hs.2.1
  have pe := fun qq => X_paEnd (G := G) (Q := qq) sP (by omega) (by omega)
  rw [hee, hkk] at pe
  obtain ⟨M1_z, hM1⟩ : ∃ M1_z, M1_z = uI (uI (uI (uI M (c + 4) 5 (e_z + 1)) (c + 4 + 4) (e_z + 1) kk) (c + 4 + 5) (e_z + 1) 0) (c + 4) 7 0 := ⟨_, rfl⟩
  rw [← hM1] at pe
  obtain ⟨⟨k1_z, k2_z, k3_z, k4_z, k5_z, k6_z⟩, p1_z, p2_z, p3_z, p4_z, p5_z, p6_z⟩ := paE_f M1_z hM1
  have hs1 : ShMa M1_z c := by
    unfold ShMa ShM0 ShM0x ShPa ShPax ShIt ShItx ShFr ShFrx ShGr ShGrx
    rw [k1_z, k2_z, k3_z]
    exact hs
  have sG1 : ShGr M1_z g_z := by
    unfold ShGr ShGrx
    rw [k1_z, k2_z, k3_z]
    exact sG
  have sI1 : ShIt M1_z (c + 3) (c + 4) := hs1.2.2.1
  have it1 : gI M1_z (c + 3) 8 = it := by rw [p1_z _ (by omega) (by omega) (by omega)]; exact hit_z
  have n1_z : gI M1_z g_z 2 = n_z := by rw [p1_z _ (by omega) (by omega) (by omega)]; exact hnn_z
  -- the end
  have fin_z : ∀ M2_z, ShGr M2_z g_z → gI M2_z g_z 2 = n_z → ((k_z = 11 ∧ M2_z = M1_z) ∨ (k_z ≠ 11 ∧ M2_z = uI (uCI (uI (uI (uI (uI (uI (uI M1_z (c + 3 + 7) it e_z) (c + 3 + 8) it (if k_z = 10 then 1 else 0)) (c + 3 + 9) it (gI M1_z g_z 3)) (c + 3 + 10) it x_z) (c + 3 + 11) it tk) (c + 3 + 12) it (gI M1_z g_z 2)) (c + 3 + 13) (it * 6) (g_z + 2) 0 6) (c + 3) 8 (it + 1))) → ∀ pt : Int, At G 108 104 [a_r c, a_r (G.2 (3 + k_z)), a_i x_z, a_i tk, a_i pt, a_i u_z, a_r g_z, a_i e_z] [] M2_z Q := by
    intro M2_z sG2 n2_z hM2 pt
    rcases hu1 with u0 | u1_z
    · have hh := h_z M1_z M2_z M2_z hM1 hM2 (Or.inl ⟨u0, rfl⟩)
      subst u0
      simp (disch := omega) only [B_108_104, B_108_116, inI, inL, isT, kInt, kByt, true_and, and_true, an_t, im_t, im_f, or_true, true_or, true_imp_iff, false_imp_iff, not_true_eq_false, not_false_eq_true, gK_uI, gK_uL, gK_uR, gK_uCI, gK_uCL, gN_uI, gN_uL, gN_uR, gN_uCI, gN_uCL, gR_uI, gR_uL, gR_uCI, gR_uCL, gI_uL, gI_uR, gI_uCL, gL_uI, gL_uR, gL_uCI, gz_uI, gz_uL, gz_uR, gz_uCI, gz_uCL, gs_uI, gs_uL, gs_uR, gs_uCI, gs_uCL, rI_at, rL_at, rR_at, rI_ne, rL_ne, rR_ne, rI_nk, rL_nk, rR_nk, rI_eq, rL_eq, rR_eq, Option.toList_some, Option.toList_none, List.cons_append, List.nil_append, List.append_nil, zc_eq, zc_lt, zc_le, zc_ge, zc_gt]
      all_goals exact hh
    · have hh := h_z M1_z M2_z _ hM1 hM2 (Or.inr ⟨u1_z, rfl⟩)
      have n6_z := hn1 u1_z
      subst u1_z
      have ac := fun qq => X_addClip (G := G) (Q := qq) (x_z := e_z) sG2 (by omega) (by omega)
      rw [n2_z] at ac
      simp (disch := omega) only [B_108_104, sG2.u, ac, B_108_116, inI, inL, isT, kInt, kByt, true_and, and_true, an_t, im_t, im_f, or_true, true_or, true_imp_iff, false_imp_iff, not_true_eq_false, not_false_eq_true, gK_uI, gK_uL, gK_uR, gK_uCI, gK_uCL, gN_uI, gN_uL, gN_uR, gN_uCI, gN_uCL, gR_uI, gR_uL, gR_uCI, gR_uCL, gI_uL, gI_uR, gI_uCL, gL_uI, gL_uR, gL_uCI, gz_uI, gz_uL, gz_uR, gz_uCI, gz_uCL, gs_uI, gs_uL, gs_uR, gs_uCI, gs_uCL, rI_at, rL_at, rR_at, rI_ne, rL_ne, rR_ne, rI_nk, rL_nk, rR_nk, rI_eq, rL_eq, rR_eq, Option.toList_some, Option.toList_none, List.cons_append, List.nil_append, List.append_nil, zc_eq, zc_lt, zc_le, zc_ge, zc_gt]
      all_goals exact hh
  by_cases ck : k_z = 11
  · have ff_z := fin_z M1_z sG1 n1_z (Or.inl ⟨ck, rfl⟩) 0
    rw [if_pos ck]
    simp (disch := omega) only [B_108_65, hs.1.u, sP.u, pe, B_108_72, inI, inL, isT, kInt, kByt, true_and, and_true, an_t, im_t, im_f, or_true, true_or, true_imp_iff, false_imp_iff, not_true_eq_false, not_false_eq_true, gK_uI, gK_uL, gK_uR, gK_uCI, gK_uCL, gN_uI, gN_uL, gN_uR, gN_uCI, gN_uCL, gR_uI, gR_uL, gR_uCI, gR_uCL, gI_uL, gI_uR, gI_uCL, gL_uI, gL_uR, gL_uCI, gz_uI, gz_uL, gz_uR, gz_uCI, gz_uCL, gs_uI, gs_uL, gs_uR, gs_uCI, gs_uCL, rI_at, rL_at, rR_at, rI_ne, rL_ne, rR_ne, rI_nk, rL_nk, rR_nk, rI_eq, rL_eq, rR_eq, Option.toList_some, Option.toList_none, List.cons_append, List.nil_append, List.append_nil, zc_eq, zc_lt, zc_le, zc_ge, zc_gt]
    all_goals exact ff_z
  · have i30 := hit1 ck
    have n13 : G.2 (3 + k_z) = G.2 13 ↔ k_z = 10 := ⟨fun q_z => ho.inj (by omega) (by decide) (show G.2 (3 + k_z) = G.2 (3 + 10) from q_z), fun q_z => by subst q_z; rfl⟩
    rw [if_neg ck]
    by_cases c10_z : k_z = 10
    · have ad := fun qq => X_itAdd (G := G) (Q := qq) (x_z := e_z) (y_z := 1) (z_z := x_z) (w_z := tk) sI1 sG1 (by omega) (Or.inr rfl) (by omega) (by omega)
      rw [it1] at ad
      have g13 := n13.mpr c10_z
      obtain ⟨M2_z, hM2⟩ : ∃ M2_z, M2_z = uI (uCI (uI (uI (uI (uI (uI (uI M1_z (c + 3 + 7) it e_z) (c + 3 + 8) it (if k_z = 10 then 1 else 0)) (c + 3 + 9) it (gI M1_z g_z 3)) (c + 3 + 10) it x_z) (c + 3 + 11) it tk) (c + 3 + 12) it (gI M1_z g_z 2)) (c + 3 + 13) (it * 6) (g_z + 2) 0 6) (c + 3) 8 (it + 1) := ⟨_, rfl⟩
      have sG2 : ShGr M2_z g_z := by
        rw [hM2]
        exact sG1
      have n2_z : gI M2_z g_z 2 = n_z := by
        rw [hM2, rI_ne (by omega), rCI_ne (by omega), rI_ne (by omega), rI_ne (by omega), rI_ne (by omega), rI_ne (by omega), rI_ne (by omega), rI_ne (by omega)]
        exact n1_z
      have ff_z := fin_z M2_z sG2 n2_z (Or.inr ⟨ck, hM2⟩) 1
      rw [if_pos c10_z] at hM2
      rw [g13] at ff_z
      rw [← hM2] at ad
      simp (disch := omega) only [B_108_65, hs.1.u, sP.u, pe, B_108_72, hs1.1.u, g13, B_108_97, sI1.u, ad, inI, inL, isT, kInt, kByt, true_and, and_true, an_t, im_t, im_f, or_true, true_or, true_imp_iff, false_imp_iff, not_true_eq_false, not_false_eq_true, gK_uI, gK_uL, gK_uR, gK_uCI, gK_uCL, gN_uI, gN_uL, gN_uR, gN_uCI, gN_uCL, gR_uI, gR_uL, gR_uCI, gR_uCL, gI_uL, gI_uR, gI_uCL, gL_uI, gL_uR, gL_uCI, gz_uI, gz_uL, gz_uR, gz_uCI, gz_uCL, gs_uI, gs_uL, gs_uR, gs_uCI, gs_uCL, rI_at, rL_at, rR_at, rI_ne, rL_ne, rR_ne, rI_nk, rL_nk, rR_nk, rI_eq, rL_eq, rR_eq, Option.toList_some, Option.toList_none, List.cons_append, List.nil_append, List.append_nil, zc_eq, zc_lt, zc_le, zc_ge, zc_gt]
      all_goals exact ff_z
    · have ad := fun qq => X_itAdd (G := G) (Q := qq) (x_z := e_z) (y_z := 0) (z_z := x_z) (w_z := tk) sI1 sG1 (by omega) (Or.inl rfl) (by omega) (by omega)
      rw [it1] at ad
      have g13 : ¬ G.2 (3 + k_z) = G.2 13 := fun q_z => c10_z (n13.mp q_z)
      obtain ⟨M2_z, hM2⟩ : ∃ M2_z, M2_z = uI (uCI (uI (uI (uI (uI (uI (uI M1_z (c + 3 + 7) it e_z) (c + 3 + 8) it (if k_z = 10 then 1 else 0)) (c + 3 + 9) it (gI M1_z g_z 3)) (c + 3 + 10) it x_z) (c + 3 + 11) it tk) (c + 3 + 12) it (gI M1_z g_z 2)) (c + 3 + 13) (it * 6) (g_z + 2) 0 6) (c + 3) 8 (it + 1) := ⟨_, rfl⟩
      have sG2 : ShGr M2_z g_z := by
        rw [hM2]
        exact sG1
      have n2_z : gI M2_z g_z 2 = n_z := by
        rw [hM2, rI_ne (by omega), rCI_ne (by omega), rI_ne (by omega), rI_ne (by omega), rI_ne (by omega), rI_ne (by omega), rI_ne (by omega), rI_ne (by omega)]
        exact n1_z
      have ff_z := fin_z M2_z sG2 n2_z (Or.inr ⟨ck, hM2⟩) 1
      rw [if_neg c10_z] at hM2
      rw [← hM2] at ad
      simp (disch := omega) only [B_108_65, hs.1.u, sP.u, pe, B_108_72, hs1.1.u, g13, B_108_96, B_108_97, sI1.u, ad, inI, inL, isT, kInt, kByt, true_and, and_true, an_t, im_t, im_f, or_true, true_or, true_imp_iff, false_imp_iff, not_true_eq_false, not_false_eq_true, gK_uI, gK_uL, gK_uR, gK_uCI, gK_uCL, gN_uI, gN_uL, gN_uR, gN_uCI, gN_uCL, gR_uI, gR_uL, gR_uCI, gR_uCL, gI_uL, gI_uR, gI_uCL, gL_uI, gL_uR, gL_uCI, gz_uI, gz_uL, gz_uR, gz_uCI, gz_uCL, gs_uI, gs_uL, gs_uR, gs_uCI, gs_uCL, rI_at, rL_at, rR_at, rI_ne, rL_ne, rR_ne, rI_nk, rL_nk, rR_nk, rI_eq, rL_eq, rR_eq, Option.toList_some, Option.toList_none, List.cons_append, List.nil_append, List.append_nil, zc_eq, zc_lt, zc_le, zc_ge, zc_gt]
      all_goals exact ff_z
end AI
