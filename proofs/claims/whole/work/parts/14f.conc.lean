/-! THE PURE PART, part 14: the class multiplies matrices. Own work. -/
section AE
variable {G : Env0} {Q : Option AV → Mem → Prop} {M T : Mem} {c s m r : Nat}
theorem rv_pv {mt_z op_z : Int → Int} {j_z : Int} (hop : ∀ x_z, 0 ≤ x_z → x_z < 6 → NV (op_z x_z)) (hm_z : ∀ i_z : Int, 0 ≤ i_z → i_z < 6 → NV (mt_z i_z)) (j0 : 0 ≤ j_z) (j1 : j_z < 6) : RV (pv mt_z op_z j_z) := by
  have a_z : RV (fS (fM (op_z (5 - 2 * (j_z / 2))) (mt_z (j_z % 2))) (fM (op_z (4 - 2 * (j_z / 2))) (mt_z (2 + j_z % 2)))) := rv_S (rv_M (Or.inr (hop _ (by omega) (by omega))) (Or.inr (hm_z _ (by omega) (by omega)))) (rv_M (Or.inr (hop _ (by omega) (by omega))) (Or.inr (hm_z _ (by omega) (by omega))))
  unfold pv fsum
  by_cases c2_z : j_z / 2 = 2
  · rw [if_pos c2_z, if_neg (by omega)]
    exact rv_S a_z (Or.inr (hm_z _ (by omega) (by omega)))
  · rw [if_neg c2_z, if_pos (by omega)]
    exact a_z
theorem cc_loop {op_z mt_z : Int → Int} {g_z : Nat} {w_z : Int} (hs : ShMa M c) (hf : ShFr M r) (sG : ShGr M g_z) (hw : gI M r 6 = w_z) (w0_z : 6 ≤ w_z) (w1_z : w_z ≤ 16) (hop : ∀ x_z, 0 ≤ x_z → x_z < 6 → NV (op_z x_z)) (ho : ∀ x_z, 0 ≤ x_z → x_z < 6 → gL M (r + 1) (w_z - 1 - x_z) = op_z x_z) (hm_z : ∀ i_z : Int, 0 ≤ i_z → i_z < 6 → NV (mt_z i_z)) (hmt : gL M (g_z + 1) = mt_z) (hg : c + 42 ≤ g_z) (hr : c + 22 ≤ r)
    (h6 : (∃ j_z, 0 ≤ j_z ∧ j_z < 6 ∧ pv mt_z op_z j_z = -1) → ∀ M', Ex (fun a_z => a_z = c + 20) M M' → Q (some (a_i 6)) M')
    (h0 : (∀ j_z, 0 ≤ j_z → j_z < 6 → NV (pv mt_z op_z j_z)) → ∀ M', Ex (fun a_z => a_z = c + 20) M M' → (∀ j_z, 0 ≤ j_z → j_z < 6 → gL M' (c + 20) j_z = pv mt_z op_z j_z) → Q (some (a_i 0)) (uI (uCL M' (g_z + 1) 0 (c + 20) 0 6) r 6 (w_z - 6))) :
    ∀ (n_z : Nat) (i_z z_z : Int) (M1_z : Mem) (u5 u6 u7 u8 u9 : AV), (6 - i_z).toNat = n_z → 0 ≤ i_z → i_z ≤ 6 → Ex (fun a_z => a_z = c + 20) M M1_z → (∀ j_z, 0 ≤ j_z → j_z < i_z → gL M1_z (c + 20) j_z = pv mt_z op_z j_z) → ((z_z = 1 ∧ ∀ j_z, 0 ≤ j_z → j_z < i_z → NV (pv mt_z op_z j_z)) ∨ (z_z = 0 ∧ ∃ j_z, 0 ≤ j_z ∧ j_z < i_z ∧ pv mt_z op_z j_z = -1)) → At G 91 18 [a_r c, a_r r, a_r (g_z + 1), a_i z_z, a_i i_z, u5, u6, u7, u8, u9] [] M1_z Q := by
  intro n_z
  induction n_z with
  | zero =>
    intro i_z z_z M1_z u5 u6 u7 u8 u9 hn i0_z i1_z hE hv hz
    have : i_z = 6 := by omega
    subst this
    have hs1 : ShMa M1_z c := hE.ma hs
    rw [B_91_18]
    rcases hz with ⟨z1, hz⟩ | ⟨z1, hz⟩
    · subst z1
      have hh := h0 hz M1_z hE hv
      have hf0 : ShFr M1_z r := by
        unfold ShFr ShFrx
        rw [hE.1, hE.2.1, hE.2.2.1]
        exact hf
      have sG1 : ShGr M1_z g_z := by
        unfold ShGr ShGrx
        rw [hE.1, hE.2.1, hE.2.2.1]
        exact sG
      have hw1 : gI (uCL M1_z (g_z + 1) 0 (c + 20) 0 6) r 6 = w_z := by
        rw [gI_uCL, (hE.2.2.2.2.2 r (by omega)).1]
        exact hw
      have hf2 : ShFr (uCL M1_z (g_z + 1) 0 (c + 20) 0 6) r := hf0
      have re := fun qq => X_remove (G := G) (Q := qq) (M := uCL M1_z (g_z + 1) 0 (c + 20) 0 6) (x_z := 6) hf2 (by decide) (by omega) (by omega)
      rw [hw1] at re
      simp (disch := omega) only [B_91_144, B_91_151, hs1.1.u, sG1.u, B_91_163, hf2.u, re, B_91_169, inI, inL, isT, kInt, kByt, true_and, and_true, an_t, im_t, im_f, or_true, true_or, true_imp_iff, false_imp_iff, not_true_eq_false, not_false_eq_true, gK_uI, gK_uL, gK_uR, gK_uCI, gK_uCL, gN_uI, gN_uL, gN_uR, gN_uCI, gN_uCL, gR_uI, gR_uL, gR_uCI, gR_uCL, gI_uL, gI_uR, gI_uCL, gL_uI, gL_uR, gL_uCI, gz_uI, gz_uL, gz_uR, gz_uCI, gz_uCL, gs_uI, gs_uL, gs_uR, gs_uCI, gs_uCL, rI_at, rL_at, rR_at, rI_ne, rL_ne, rR_ne, rI_nk, rL_nk, rR_nk, rI_eq, rL_eq, rR_eq, Option.toList_some, Option.toList_none, List.cons_append, List.nil_append, List.append_nil, zc_eq, zc_lt, zc_le, zc_ge, zc_gt]
      all_goals exact Or.inr hh
    · subst z1
      have hh := h6 hz M1_z hE
      simp (disch := omega) only [B_91_144, inI, inL, isT, kInt, kByt, true_and, and_true, an_t, im_t, im_f, or_true, true_or, true_imp_iff, false_imp_iff, not_true_eq_false, not_false_eq_true, gK_uI, gK_uL, gK_uR, gK_uCI, gK_uCL, gN_uI, gN_uL, gN_uR, gN_uCI, gN_uCL, gR_uI, gR_uL, gR_uCI, gR_uCL, gI_uL, gI_uR, gI_uCL, gL_uI, gL_uR, gL_uCI, gz_uI, gz_uL, gz_uR, gz_uCI, gz_uCL, gs_uI, gs_uL, gs_uR, gs_uCI, gs_uCL, rI_at, rL_at, rR_at, rI_ne, rL_ne, rR_ne, rI_nk, rL_nk, rR_nk, rI_eq, rL_eq, rR_eq, Option.toList_some, Option.toList_none, List.cons_append, List.nil_append, List.append_nil, zc_eq, zc_lt, zc_le, zc_ge, zc_gt]
      all_goals exact hh
  | succ n_z ih_z =>
    intro i_z z_z M1_z u5 u6 u7 u8 u9 hn i0_z i1_z hE hv hz
    have i2_z : i_z < 6 := by omega
    have hs1 : ShMa M1_z c := hE.ma hs
    have hf0 : ShFr M1_z r := by
      unfold ShFr ShFrx
      rw [hE.1, hE.2.1, hE.2.2.1]
      exact hf
    have sG1 : ShGr M1_z g_z := by
      unfold ShGr ShGrx
      rw [hE.1, hE.2.1, hE.2.2.1]
      exact sG
    have hw1 : gI M1_z r 6 = w_z := by
      rw [(hE.2.2.2.2.2 r (by omega)).1]
      exact hw
    have hmt1 : gL M1_z (g_z + 1) = mt_z := by
      rw [(hE.2.2.2.2.2 (g_z + 1) (by omega)).2]
      exact hmt
    have hpk : ∀ (x_z : Int) (qq : Option AV → Mem → Prop), 0 ≤ x_z → x_z < 6 → (Call G J_Fr_peek [a_r r, a_i x_z] M1_z qq ↔ qq (some (a_l (op_z x_z))) M1_z) := fun x_z qq x0_z x1_z => by
      rw [X_peek hf0 x0_z (by omega) (by omega), hw1, (hE.2.2.2.2.2 (r + 1) (by omega)).2, ho x_z x0_z x1_z]
    have d1_z : Int.tdiv i_z 2 = i_z / 2 := Int.tdiv_eq_ediv_of_nonneg i0_z
    have d2_z : Int.tmod i_z 2 = i_z % 2 := Int.tmod_eq_emod_of_nonneg i0_z
    have rvp := rv_pv hop hm_z i0_z i2_z
    have g1 : (6 - (i_z + 1)).toNat = n_z := by clear hz; omega
    have g2 : 0 ≤ i_z + 1 := by clear hz; omega
    have g3_z : i_z + 1 ≤ 6 := by clear hz; omega
    -- what follows once the entry is written
    have tail_z : ∀ (M2_z : Mem) (y6 y8 : Int) (u7 u9 : AV), Ex (fun a_z => a_z = c + 20) M1_z M2_z → (∀ j_z, 0 ≤ j_z → j_z < i_z → gL M2_z (c + 20) j_z = gL M1_z (c + 20) j_z) → gL M2_z (c + 20) i_z = pv mt_z op_z i_z → At G 91 115 [a_r c, a_r r, a_r (g_z + 1), a_i z_z, a_i i_z, a_i (i_z - i_z % 2), a_l y6, u7, a_l y8, u9] [] M2_z Q := by
      intro M2_z y6 y8 u7 u9 hE2 hv2 hvi
      have hE3 := hE.trans hE2
      have hs2 : ShMa M2_z c := hE3.ma hs
      have hv3 : ∀ j_z, 0 ≤ j_z → j_z < i_z + 1 → gL M2_z (c + 20) j_z = pv mt_z op_z j_z := fun j_z j0 j1 => by
        by_cases cj : j_z = i_z
        · subst cj
          exact hvi
        · rw [hv2 j_z j0 (by omega)]
          exact hv j_z j0 (by omega)
      have nxt_z := fun z' u_z => ih_z (i_z + 1) z' M2_z (a_i (i_z - i_z % 2)) (a_l y6) u7 (a_l y8) u9 g1 g2 g3_z hE3 hv3 u_z
      rcases hz with ⟨z1, hz⟩ | ⟨z1, hz⟩
      · subst z1
        rcases rvp with e_z | nv
        · have hh := nxt_z 0 (Or.inr ⟨rfl, i_z, i0_z, by omega, e_z⟩)
          rw [e_z] at hvi
          simp (disch := omega) only [B_91_115, hs2.1.u, hvi, X_isNum0, B_91_129, B_91_136, B_91_137, inI, inL, isT, kInt, kByt, true_and, and_true, an_t, im_t, im_f, or_true, true_or, true_imp_iff, false_imp_iff, not_true_eq_false, not_false_eq_true, gK_uI, gK_uL, gK_uR, gK_uCI, gK_uCL, gN_uI, gN_uL, gN_uR, gN_uCI, gN_uCL, gR_uI, gR_uL, gR_uCI, gR_uCL, gI_uL, gI_uR, gI_uCL, gL_uI, gL_uR, gL_uCI, gz_uI, gz_uL, gz_uR, gz_uCI, gz_uCL, gs_uI, gs_uL, gs_uR, gs_uCI, gs_uCL, rI_at, rL_at, rR_at, rI_ne, rL_ne, rR_ne, rI_nk, rL_nk, rR_nk, rI_eq, rL_eq, rR_eq, Option.toList_some, Option.toList_none, List.cons_append, List.nil_append, List.append_nil, zc_eq, zc_lt, zc_le, zc_ge, zc_gt]
          all_goals exact hh
        · have hh := nxt_z 1 (Or.inl ⟨rfl, fun j_z j0 j1 => by
            by_cases cj : j_z = i_z
            · subst cj
              exact nv
            · exact hz j_z j0 (by omega)⟩)
          have isn := fun qq => X_isNum (G := G) (Q := qq) (M := M2_z) nv
          simp (disch := omega) only [B_91_115, hs2.1.u, hvi, isn, B_91_129, B_91_137, inI, inL, isT, kInt, kByt, true_and, and_true, an_t, im_t, im_f, or_true, true_or, true_imp_iff, false_imp_iff, not_true_eq_false, not_false_eq_true, gK_uI, gK_uL, gK_uR, gK_uCI, gK_uCL, gN_uI, gN_uL, gN_uR, gN_uCI, gN_uCL, gR_uI, gR_uL, gR_uCI, gR_uCL, gI_uL, gI_uR, gI_uCL, gL_uI, gL_uR, gL_uCI, gz_uI, gz_uL, gz_uR, gz_uCI, gz_uCL, gs_uI, gs_uL, gs_uR, gs_uCI, gs_uCL, rI_at, rL_at, rR_at, rI_ne, rL_ne, rR_ne, rI_nk, rL_nk, rR_nk, rI_eq, rL_eq, rR_eq, Option.toList_some, Option.toList_none, List.cons_append, List.nil_append, List.append_nil, zc_eq, zc_lt, zc_le, zc_ge, zc_gt]
          all_goals exact hh
      · subst z1
        obtain ⟨j_z, j0, j1, j2_z⟩ := hz
        have hh := nxt_z 0 (Or.inr ⟨rfl, j_z, j0, by omega, j2_z⟩)
        simp (disch := omega) only [B_91_115, B_91_136, B_91_137, inI, inL, isT, kInt, kByt, true_and, and_true, an_t, im_t, im_f, or_true, true_or, true_imp_iff, false_imp_iff, not_true_eq_false, not_false_eq_true, gK_uI, gK_uL, gK_uR, gK_uCI, gK_uCL, gN_uI, gN_uL, gN_uR, gN_uCI, gN_uCL, gR_uI, gR_uL, gR_uCI, gR_uCL, gI_uL, gI_uR, gI_uCL, gL_uI, gL_uR, gL_uCI, gz_uI, gz_uL, gz_uR, gz_uCI, gz_uCL, gs_uI, gs_uL, gs_uR, gs_uCI, gs_uCL, rI_at, rL_at, rR_at, rI_ne, rL_ne, rR_ne, rI_nk, rL_nk, rR_nk, rI_eq, rL_eq, rR_eq, Option.toList_some, Option.toList_none, List.cons_append, List.nil_append, List.append_nil, zc_eq, zc_lt, zc_le, zc_ge, zc_gt]
        all_goals exact hh
    have nvx := hop (5 - (i_z - i_z % 2)) (by omega) (by omega)
    have nvy := hop (4 - (i_z - i_z % 2)) (by omega) (by omega)
    have nm1 := hm_z (i_z % 2) (by omega) (by omega)
    have nm2 := hm_z (i_z % 2 + 2) (by omega) (by omega)
    have nmi := hm_z i_z (by omega) (by omega)
    have ev_z : pv mt_z op_z i_z = if i_z - i_z % 2 = 4 then fS (fS (fM (op_z (5 - (i_z - i_z % 2))) (mt_z (i_z % 2))) (fM (op_z (4 - (i_z - i_z % 2))) (mt_z (i_z % 2 + 2)))) (mt_z i_z) else fS (fM (op_z (5 - (i_z - i_z % 2))) (mt_z (i_z % 2))) (fM (op_z (4 - (i_z - i_z % 2))) (mt_z (i_z % 2 + 2))) := by
      unfold pv fsum
      rw [show 2 * (i_z / 2) = i_z - i_z % 2 from by omega, show 2 + i_z % 2 = i_z % 2 + 2 from by omega]
      by_cases c2_z : i_z / 2 = 2
      · rw [if_pos c2_z, if_neg (by omega), if_pos (by omega), show 4 + i_z % 2 = i_z from by omega]
      · rw [if_neg c2_z, if_pos (by omega), if_neg (by omega)]
    have r1_z := rv_M (Or.inr nvx) (Or.inr nm1)
    have r2 := rv_M (Or.inr nvy) (Or.inr nm2)
    have r3 := rv_S r1_z r2
    have p1_z := hpk (5 - (i_z - i_z % 2))
    have p2_z := hpk (4 - (i_z - i_z % 2))
    have b1 : 0 ≤ i_z % 2 ∧ i_z % 2 < 2 := by omega
    have b2 : 0 ≤ i_z - i_z % 2 ∧ i_z - i_z % 2 ≤ 4 := by omega
    have b3 : inI (i_z / 2) := ⟨by omega, by omega⟩
    rw [B_91_18]
    generalize i_z % 2 = q_z at *
    clear hz
    simp (disch := omega) only [d1_z, d2_z, p1_z, b3, hf0.u, B_91_42, sG1.u, hmt1, inI, inL, isT, kInt, kByt, true_and, and_true, an_t, im_t, im_f, or_true, true_or, true_imp_iff, false_imp_iff, not_true_eq_false, not_false_eq_true, gK_uI, gK_uL, gK_uR, gK_uCI, gK_uCL, gN_uI, gN_uL, gN_uR, gN_uCI, gN_uCL, gR_uI, gR_uL, gR_uCI, gR_uCL, gI_uL, gI_uR, gI_uCL, gL_uI, gL_uR, gL_uCI, gz_uI, gz_uL, gz_uR, gz_uCI, gz_uCL, gs_uI, gs_uL, gs_uR, gs_uCI, gs_uCL, rI_at, rL_at, rR_at, rI_ne, rL_ne, rR_ne, rI_nk, rL_nk, rR_nk, rI_eq, rL_eq, rR_eq, Option.toList_some, Option.toList_none, List.cons_append, List.nil_append, List.append_nil, zc_eq, zc_lt, zc_le, zc_ge, zc_gt]
    refine X_product (Or.inr nvx) (Or.inr nm1) ?_
    simp (disch := omega) only [B_91_51, p2_z, hf0.u, B_91_61, d1_z, d2_z, b3, sG1.u, hmt1, inI, inL, isT, kInt, kByt, true_and, and_true, an_t, im_t, im_f, or_true, true_or, true_imp_iff, false_imp_iff, not_true_eq_false, not_false_eq_true, gK_uI, gK_uL, gK_uR, gK_uCI, gK_uCL, gN_uI, gN_uL, gN_uR, gN_uCI, gN_uCL, gR_uI, gR_uL, gR_uCI, gR_uCL, gI_uL, gI_uR, gI_uCL, gL_uI, gL_uR, gL_uCI, gz_uI, gz_uL, gz_uR, gz_uCI, gz_uCL, gs_uI, gs_uL, gs_uR, gs_uCI, gs_uCL, rI_at, rL_at, rR_at, rI_ne, rL_ne, rR_ne, rI_nk, rL_nk, rR_nk, rI_eq, rL_eq, rR_eq, Option.toList_some, Option.toList_none, List.cons_append, List.nil_append, List.append_nil, zc_eq, zc_lt, zc_le, zc_ge, zc_gt]
    refine X_product (Or.inr nvy) (Or.inr nm2) ?_
    simp (disch := omega) only [B_91_72, hs1.1.u, inI, inL, isT, kInt, kByt, true_and, and_true, an_t, im_t, im_f, or_true, true_or, true_imp_iff, false_imp_iff, not_true_eq_false, not_false_eq_true, gK_uI, gK_uL, gK_uR, gK_uCI, gK_uCL, gN_uI, gN_uL, gN_uR, gN_uCI, gN_uCL, gR_uI, gR_uL, gR_uCI, gR_uCL, gI_uL, gI_uR, gI_uCL, gL_uI, gL_uR, gL_uCI, gz_uI, gz_uL, gz_uR, gz_uCI, gz_uCL, gs_uI, gs_uL, gs_uR, gs_uCI, gs_uCL, rI_at, rL_at, rR_at, rI_ne, rL_ne, rR_ne, rI_nk, rL_nk, rR_nk, rI_eq, rL_eq, rR_eq, Option.toList_some, Option.toList_none, List.cons_append, List.nil_append, List.append_nil, zc_eq, zc_lt, zc_le, zc_ge, zc_gt]
    refine X_sum r1_z r2 ?_
    generalize fS (fM (op_z (5 - (i_z - q_z))) (mt_z q_z)) (fM (op_z (4 - (i_z - q_z))) (mt_z (q_z + 2))) = v_z at *
    have E1_z : Ex (fun a_z => a_z = c + 20) M1_z (uL M1_z (c + 20) i_z v_z) := (Ex.refl _ M1_z).uL _ _ rfl
    have E2 : ∀ v2, Ex (fun a_z => a_z = c + 20) M1_z (uL (uL M1_z (c + 20) i_z v_z) (c + 20) i_z v2) := fun v2 => E1_z.uL _ _ rfl
    have sgl : gL (uL M1_z (c + 20) i_z v_z) (g_z + 1) = mt_z := by
      rw [(E1_z.2.2.2.2.2 (g_z + 1) (by omega)).2]
      exact hmt1
    have hsL : ShMa (uL M1_z (c + 20) i_z v_z) c := hs1
    have sGL : ShGr (uL M1_z (c + 20) i_z v_z) g_z := sG1
    have at1_z : gL (uL M1_z (c + 20) i_z v_z) (c + 20) i_z = v_z := by simp (disch := omega) only [gK_uI, gK_uL, gK_uR, gK_uCI, gK_uCL, gN_uI, gN_uL, gN_uR, gN_uCI, gN_uCL, gR_uI, gR_uL, gR_uCI, gR_uCL, gI_uL, gI_uR, gI_uCL, gL_uI, gL_uR, gL_uCI, gz_uI, gz_uL, gz_uR, gz_uCI, gz_uCL, gs_uI, gs_uL, gs_uR, gs_uCI, gs_uCL, rI_at, rL_at, rR_at, rI_ne, rL_ne, rR_ne, rI_nk, rL_nk, rR_nk, rI_eq, rL_eq, rR_eq]
    have at2_z : ∀ v2, gL (uL (uL M1_z (c + 20) i_z v_z) (c + 20) i_z v2) (c + 20) i_z = v2 := fun v2 => by simp (disch := omega) only [gK_uI, gK_uL, gK_uR, gK_uCI, gK_uCL, gN_uI, gN_uL, gN_uR, gN_uCI, gN_uCL, gR_uI, gR_uL, gR_uCI, gR_uCL, gI_uL, gI_uR, gI_uCL, gL_uI, gL_uR, gL_uCI, gz_uI, gz_uL, gz_uR, gz_uCI, gz_uCL, gs_uI, gs_uL, gs_uR, gs_uCI, gs_uCL, rI_at, rL_at, rR_at, rI_ne, rL_ne, rR_ne, rI_nk, rL_nk, rR_nk, rI_eq, rL_eq, rR_eq]
    have ne1 : ∀ j_z, 0 ≤ j_z → j_z < i_z → gL (uL M1_z (c + 20) i_z v_z) (c + 20) j_z = gL M1_z (c + 20) j_z := fun j_z j0 j1 => by simp (disch := omega) only [gK_uI, gK_uL, gK_uR, gK_uCI, gK_uCL, gN_uI, gN_uL, gN_uR, gN_uCI, gN_uCL, gR_uI, gR_uL, gR_uCI, gR_uCL, gI_uL, gI_uR, gI_uCL, gL_uI, gL_uR, gL_uCI, gz_uI, gz_uL, gz_uR, gz_uCI, gz_uCL, gs_uI, gs_uL, gs_uR, gs_uCI, gs_uCL, rI_at, rL_at, rR_at, rI_ne, rL_ne, rR_ne, rI_nk, rL_nk, rR_nk, rI_eq, rL_eq, rR_eq]
    have ne2 : ∀ v2 j_z, 0 ≤ j_z → j_z < i_z → gL (uL (uL M1_z (c + 20) i_z v_z) (c + 20) i_z v2) (c + 20) j_z = gL M1_z (c + 20) j_z := fun v2 j_z j0 j1 => by simp (disch := omega) only [gK_uI, gK_uL, gK_uR, gK_uCI, gK_uCL, gN_uI, gN_uL, gN_uR, gN_uCI, gN_uCL, gR_uI, gR_uL, gR_uCI, gR_uCL, gI_uL, gI_uR, gI_uCL, gL_uI, gL_uR, gL_uCI, gz_uI, gz_uL, gz_uR, gz_uCI, gz_uCL, gs_uI, gs_uL, gs_uR, gs_uCI, gs_uCL, rI_at, rL_at, rR_at, rI_ne, rL_ne, rR_ne, rI_nk, rL_nk, rR_nk, rI_eq, rL_eq, rR_eq]
    by_cases c4_z : i_z - q_z = 4
    · rw [if_pos c4_z] at ev_z
      have tt := fun (y6 y8 : Int) (u7 u9 : AV) => tail_z (uL (uL M1_z (c + 20) i_z v_z) (c + 20) i_z (fS v_z (mt_z i_z))) y6 y8 u7 u9 (E2 _) (ne2 _) (by rw [at2_z]; exact ev_z.symm)
      simp (disch := omega) only [B_91_87, hs1.1.u, c4_z, hsL.1.u, sGL.u, at1_z, sgl, inI, inL, isT, kInt, kByt, true_and, and_true, an_t, im_t, im_f, or_true, true_or, true_imp_iff, false_imp_iff, not_true_eq_false, not_false_eq_true, gK_uI, gK_uL, gK_uR, gK_uCI, gK_uCL, gN_uI, gN_uL, gN_uR, gN_uCI, gN_uCL, gR_uI, gR_uL, gR_uCI, gR_uCL, gI_uL, gI_uR, gI_uCL, gL_uI, gL_uR, gL_uCI, gz_uI, gz_uL, gz_uR, gz_uCI, gz_uCL, gs_uI, gs_uL, gs_uR, gs_uCI, gs_uCL, rI_at, rL_at, rR_at, rI_ne, rL_ne, rR_ne, rI_nk, rL_nk, rR_nk, rI_eq, rL_eq, rR_eq, Option.toList_some, Option.toList_none, List.cons_append, List.nil_append, List.append_nil, zc_eq, zc_lt, zc_le, zc_ge, zc_gt]
      refine X_sum r3 (Or.inr nmi) ?_
      simp (disch := omega) only [B_91_114, hsL.1.u, inI, inL, isT, kInt, kByt, true_and, and_true, an_t, im_t, im_f, or_true, true_or, true_imp_iff, false_imp_iff, not_true_eq_false, not_false_eq_true, gK_uI, gK_uL, gK_uR, gK_uCI, gK_uCL, gN_uI, gN_uL, gN_uR, gN_uCI, gN_uCL, gR_uI, gR_uL, gR_uCI, gR_uCL, gI_uL, gI_uR, gI_uCL, gL_uI, gL_uR, gL_uCI, gz_uI, gz_uL, gz_uR, gz_uCI, gz_uCL, gs_uI, gs_uL, gs_uR, gs_uCI, gs_uCL, rI_at, rL_at, rR_at, rI_ne, rL_ne, rR_ne, rI_nk, rL_nk, rR_nk, rI_eq, rL_eq, rR_eq, Option.toList_some, Option.toList_none, List.cons_append, List.nil_append, List.append_nil, zc_eq, zc_lt, zc_le, zc_ge, zc_gt]
      rw [c4_z] at tt
      exact tt _ _ _ _
    · rw [if_neg c4_z] at ev_z
      have tt := fun (y6 y8 : Int) (u7 u9 : AV) => tail_z (uL M1_z (c + 20) i_z v_z) y6 y8 u7 u9 E1_z ne1 (by rw [at1_z]; exact ev_z.symm)
      simp (disch := omega) only [B_91_87, hs1.1.u, c4_z, inI, inL, isT, kInt, kByt, true_and, and_true, an_t, im_t, im_f, or_true, true_or, true_imp_iff, false_imp_iff, not_true_eq_false, not_false_eq_true, gK_uI, gK_uL, gK_uR, gK_uCI, gK_uCL, gN_uI, gN_uL, gN_uR, gN_uCI, gN_uCL, gR_uI, gR_uL, gR_uCI, gR_uCL, gI_uL, gI_uR, gI_uCL, gL_uI, gL_uR, gL_uCI, gz_uI, gz_uL, gz_uR, gz_uCI, gz_uCL, gs_uI, gs_uL, gs_uR, gs_uCI, gs_uCL, rI_at, rL_at, rR_at, rI_ne, rL_ne, rR_ne, rI_nk, rL_nk, rR_nk, rI_eq, rL_eq, rR_eq, Option.toList_some, Option.toList_none, List.cons_append, List.nil_append, List.append_nil, zc_eq, zc_lt, zc_le, zc_ge, zc_gt]
      exact tt _ _ _ _
end AE
