/-! THE PURE PART, part 18: passing an operator, in the class. Own work. -/
theorem op45 : ∀ k_z : Nat, k_z < 23 → (((opV k_z).getD (vix 4) 0 : Nat) : Int) = (if (3 ≤ k_z ∧ k_z ≤ 11) ∨ 16 ≤ k_z then 1 else 0) ∧ (((opV k_z).getD (vix 5) 0 : Nat) : Int) = (if k_z = 4 ∨ k_z = 5 ∨ (7 ≤ k_z ∧ k_z ≤ 11) then 0 else 1) := by decide +kernel
theorem sw_tab : ∀ k_z : Nat, k_z < 23 → ((smapL.getD k_z 0 : Nat) : Int) = (if k_z = 0 then 1 else if k_z = 14 then 2 else if k_z = 1 then 3 else if k_z = 15 then 4 else if k_z = 3 then 5 else if k_z = 6 then 6 else if k_z = 4 then 7 else if k_z = 5 then 8 else if k_z = 7 then 9 else if k_z = 8 then 10 else if k_z = 9 then 11 else if k_z = 10 then 12 else if k_z = 11 then 13 else ((smapL.getD k_z 0 : Nat) : Int)) ∧ 1 ≤ ((smapL.getD k_z 0 : Nat) : Int) ∧ ((k_z = 2 ∨ k_z = 12 ∨ k_z = 13 ∨ 16 ≤ k_z) → 14 ≤ ((smapL.getD k_z 0 : Nat) : Int)) := by decide +kernel
theorem OpF.p {G : Env0} {M : Mem} {k_z : Nat} (h_z : OpF G M) (hk : k_z < 23) : gI M (G.2 (3 + k_z)) 4 = (if (3 ≤ k_z ∧ k_z ≤ 11) ∨ 16 ≤ k_z then 1 else 0) ∧ gI M (G.2 (3 + k_z)) 5 = (if k_z = 4 ∨ k_z = 5 ∨ (7 ≤ k_z ∧ k_z ≤ 11) then 0 else 1) := by
  obtain ⟨a1_z, a2, a3⟩ := h_z.2 k_z hk
  refine ⟨?_, ?_⟩
  · rw [← (op45 k_z hk).1]
    exact a3 4 (by decide)
  · rw [← (op45 k_z hk).2]
    exact a3 5 (by decide)
/-- nothing that tokens are kept in -/
def Kq (b : Nat) (M M' : Mem) : Prop := gI M' (b + 2) = gI M (b + 2) ∧ gR M' (b + 4) = gR M (b + 4) ∧ gL M' (b + 5) = gL M (b + 5) ∧ gI M' (b + 6) = gI M (b + 6)
theorem Kq.refl (b : Nat) (M : Mem) : Kq b M M := ⟨rfl, rfl, rfl, rfl⟩
theorem Kq.wI {b : Nat} {M M' : Mem} (h_z : Kq b M M') (k_z v_z : Int) : Kq b M (uI M' (b + 7) k_z v_z) := by
  obtain ⟨a1_z, a2, a3, a4⟩ := h_z
  exact ⟨by rw [rI_ne (by omega)]; exact a1_z, a2, a3, by rw [rI_ne (by omega)]; exact a4⟩
section EM
variable {G : Env0} {Q : Option AV → Mem → Prop} {M : Mem} {b : Nat}
theorem StC.fl {L_z : Stk} {p_z p' : Bool} {pa mq pa' mq' : Int} (st_z : StC G M b (L_z, p_z) pa mq) (M' : Mem) (h2 : ∀ k_z : Int, k_z < 5 → gI M' (b + 7) k_z = gI M (b + 7) k_z) (h5 : gI M' (b + 7) 5 = (if p' then 1 else 0)) (h6 : gI M' (b + 7) 6 = pa') (h7 : gI M' (b + 7) 7 = mq') (hR : gR M' (b + 8) = gR M (b + 8)) (hI : gI M' (b + 9) = gI M (b + 9)) : StC G M' b (L_z, p') pa' mq' := by
  obtain ⟨s1_z, s2_z, s3_z, s4_z, s5, s6_z, s7⟩ := st_z
  refine ⟨by rw [h2 2 (by decide)]; exact s1_z, by rw [h2 3 (by decide)]; exact s2_z, by rw [h2 4 (by decide)]; exact s3_z, h5, h6, h7, ?_⟩
  rw [hR, hI]
  exact s7
theorem X_inPath {k_z n_z : Nat} {L_z : Stk} {p_z : Bool} {pa mq : Int} (sh_z : ShRd M b) (ho : OpF G M) (hk : k_z < 23) (hk' : k_z ≠ 0 ∧ k_z ≠ 1 ∧ k_z ≠ 14 ∧ k_z ≠ 15) (st_z : StC G M b (L_z, p_z) pa mq) (pb : pa = 0 ∨ pa = 1) (mb : mq = 0 ∨ mq = 1) (pT : (k_z = 4 ∨ k_z = 5 ∨ (7 ≤ k_z ∧ k_z ≤ 11)) → p_z = true) (pF : (k_z = 2 ∨ k_z = 12 ∨ k_z = 13) → p_z = false) (hB_z : ¬ okT (k_z : Int) (L_z, p_z) pa mq → ∀ M', Fc b M M' → Q (some (a_i 0)) M') (hG : okT (k_z : Int) (L_z, p_z) pa mq → ∀ M', Fc b M M' → Kq b M M' → StC G M' b (stepF (k_z : Int) n_z (L_z, p_z)) (npa (k_z : Int) pa) (nmk (k_z : Int) mq) → Q (some (a_i 1)) M') : Call G J_St_passInPath [a_r (b + 7), a_r (G.2 (3 + k_z))] M Q := by
  obtain ⟨s1_z, s2_z, s3_z, s4_z, s5, s6_z, s7⟩ := id st_z
  have s4_z : gI M (b + 7) 5 = (if p_z then 1 else 0) := s4_z
  obtain ⟨o0_z, o1, o2, o3_z, o4_z⟩ := ho.n hk
  obtain ⟨w1_z, w2_z, w3_z⟩ := ho.1
  have hw := w3_z k_z hk
  obtain ⟨t1_z, t2_z, t3_z⟩ := sw_tab k_z hk
  rw [t1_z] at hw
  have h0 : k_z = 3 ∨ k_z = 6 ∨ k_z = 4 ∨ k_z = 5 ∨ (k_z = 7 ∨ k_z = 8) ∨ (k_z = 9 ∨ k_z = 10 ∨ k_z = 11) ∨ (k_z = 2 ∨ k_z = 12 ∨ k_z = 13 ∨ 16 ≤ k_z) := by omega
  rcases h0 with h_z | h_z | h_z | h_z | h_z | h_z | h_z
  · subst h_z
    have hw : gI M (G.2 1) 3 = 5 := hw
    have o2 : gI M (G.2 (3 + 3)) 0 = 3 := o2
    have go_z := hG (ok_36 (Or.inl rfl)) (uI (uI M (b + 7) 5 1) (b + 7) 6 1) (((Fc.refl b M).wI _ _ (by omega)).wI _ _ (by omega)) (((Kq.refl b M).wI _ _).wI _ _) (by
      rw [stepF_path (by decide), nmk_id (by decide)]
      exact StC.fl (p' := true) st_z _ (fun k_z hk => by rw [rI_nk (by omega), rI_nk (by omega)]) (by rw [rI_nk (by decide), rI_at]; rfl) (by rw [rI_at]; rfl) (by rw [rI_nk (by decide), rI_nk (by decide)]; exact s6_z) rfl (by rw [rI_ne (by omega), rI_ne (by omega)]))
    simp (disch := omega) only [E_St_passInPath, B_46_0, o1, E_En_ordinal, B_42_0, o2, B_46_9, w1_z, w2_z, hw, B_46_60, sh_z.u, B_46_70, B_46_135, inI, inL, isT, kInt, kByt, true_and, and_true, an_t, im_t, im_f, or_true, true_or, true_imp_iff, false_imp_iff, not_true_eq_false, not_false_eq_true, gK_uI, gK_uL, gK_uR, gK_uCI, gK_uCL, gN_uI, gN_uL, gN_uR, gN_uCI, gN_uCL, gR_uI, gR_uL, gR_uCI, gR_uCL, gI_uL, gI_uR, gI_uCL, gL_uI, gL_uR, gL_uCI, gz_uI, gz_uL, gz_uR, gz_uCI, gz_uCL, gs_uI, gs_uL, gs_uR, gs_uCI, gs_uCL, rI_at, rL_at, rR_at, rI_ne, rL_ne, rR_ne, rI_nk, rL_nk, rR_nk, rI_eq, rL_eq, rR_eq, Option.toList_some, Option.toList_none, List.cons_append, List.nil_append, List.append_nil, zc_eq, zc_lt, zc_le, zc_ge, zc_gt]
    all_goals exact go_z
  · subst h_z
    have hw : gI M (G.2 1) 6 = 6 := hw
    have o2 : gI M (G.2 (3 + 6)) 0 = 6 := o2
    have go_z := hG (ok_36 (Or.inr rfl)) (uI (uI M (b + 7) 5 1) (b + 7) 6 0) (((Fc.refl b M).wI _ _ (by omega)).wI _ _ (by omega)) (((Kq.refl b M).wI _ _).wI _ _) (by
      rw [stepF_path (by decide), nmk_id (by decide)]
      exact StC.fl (p' := true) st_z _ (fun k_z hk => by rw [rI_nk (by omega), rI_nk (by omega)]) (by rw [rI_nk (by decide), rI_at]; rfl) (by rw [rI_at]; rfl) (by rw [rI_nk (by decide), rI_nk (by decide)]; exact s6_z) rfl (by rw [rI_ne (by omega), rI_ne (by omega)]))
    simp (disch := omega) only [E_St_passInPath, B_46_0, o1, E_En_ordinal, B_42_0, o2, B_46_9, w1_z, w2_z, hw, B_46_73, sh_z.u, B_46_83, B_46_135, inI, inL, isT, kInt, kByt, true_and, and_true, an_t, im_t, im_f, or_true, true_or, true_imp_iff, false_imp_iff, not_true_eq_false, not_false_eq_true, gK_uI, gK_uL, gK_uR, gK_uCI, gK_uCL, gN_uI, gN_uL, gN_uR, gN_uCI, gN_uCL, gR_uI, gR_uL, gR_uCI, gR_uCL, gI_uL, gI_uR, gI_uCL, gL_uI, gL_uR, gL_uCI, gz_uI, gz_uL, gz_uR, gz_uCI, gz_uCL, gs_uI, gs_uL, gs_uR, gs_uCI, gs_uCL, rI_at, rL_at, rR_at, rI_ne, rL_ne, rR_ne, rI_nk, rL_nk, rR_nk, rI_eq, rL_eq, rR_eq, Option.toList_some, Option.toList_none, List.cons_append, List.nil_append, List.append_nil, zc_eq, zc_lt, zc_le, zc_ge, zc_gt]
    all_goals exact go_z
  · subst h_z
    have hw : gI M (G.2 1) 4 = 7 := hw
    have o2 : gI M (G.2 (3 + 4)) 0 = 4 := o2
    have hp := pT (by omega)
    have s5 : gI M (b + 7) 6 = pa := s5
    rcases pb with pb | pb
    · have go_z := hB_z (by rw [ok_45 (by decide)]; exact fun q_z => by omega) M (Fc.refl b M)
      rw [pb] at s5
      simp (disch := omega) only [E_St_passInPath, B_46_0, o1, E_En_ordinal, B_42_0, o2, B_46_9, w1_z, w2_z, hw, B_46_86, sh_z.u, s5, B_46_135, inI, inL, isT, kInt, kByt, true_and, and_true, an_t, im_t, im_f, or_true, true_or, true_imp_iff, false_imp_iff, not_true_eq_false, not_false_eq_true, gK_uI, gK_uL, gK_uR, gK_uCI, gK_uCL, gN_uI, gN_uL, gN_uR, gN_uCI, gN_uCL, gR_uI, gR_uL, gR_uCI, gR_uCL, gI_uL, gI_uR, gI_uCL, gL_uI, gL_uR, gL_uCI, gz_uI, gz_uL, gz_uR, gz_uCI, gz_uCL, gs_uI, gs_uL, gs_uR, gs_uCI, gs_uCL, rI_at, rL_at, rR_at, rI_ne, rL_ne, rR_ne, rI_nk, rL_nk, rR_nk, rI_eq, rL_eq, rR_eq, Option.toList_some, Option.toList_none, List.cons_append, List.nil_append, List.append_nil, zc_eq, zc_lt, zc_le, zc_ge, zc_gt]
      all_goals exact go_z
    · have go_z := hG (by rw [ok_45 (by decide)]; exact ⟨hp, pb⟩) M (Fc.refl b M) (Kq.refl b M) (by
        rw [stepF_same (by decide), npa_id (by decide), nmk_id (by decide)]
        exact st_z)
      rw [pb] at s5
      simp (disch := omega) only [E_St_passInPath, B_46_0, o1, E_En_ordinal, B_42_0, o2, B_46_9, w1_z, w2_z, hw, B_46_86, sh_z.u, s5, B_46_135, inI, inL, isT, kInt, kByt, true_and, and_true, an_t, im_t, im_f, or_true, true_or, true_imp_iff, false_imp_iff, not_true_eq_false, not_false_eq_true, gK_uI, gK_uL, gK_uR, gK_uCI, gK_uCL, gN_uI, gN_uL, gN_uR, gN_uCI, gN_uCL, gR_uI, gR_uL, gR_uCI, gR_uCL, gI_uL, gI_uR, gI_uCL, gL_uI, gL_uR, gL_uCI, gz_uI, gz_uL, gz_uR, gz_uCI, gz_uCL, gs_uI, gs_uL, gs_uR, gs_uCI, gs_uCL, rI_at, rL_at, rR_at, rI_ne, rL_ne, rR_ne, rI_nk, rL_nk, rR_nk, rI_eq, rL_eq, rR_eq, Option.toList_some, Option.toList_none, List.cons_append, List.nil_append, List.append_nil, zc_eq, zc_lt, zc_le, zc_ge, zc_gt]
      all_goals exact go_z
  · subst h_z
    have hw : gI M (G.2 1) 5 = 8 := hw
    have o2 : gI M (G.2 (3 + 5)) 0 = 5 := o2
    have hp := pT (by omega)
    have s5 : gI M (b + 7) 6 = pa := s5
    rcases pb with pb | pb
    · have go_z := hB_z (by rw [ok_45 (by decide)]; exact fun q_z => by omega) (uI M (b + 7) 6 0) ((Fc.refl b M).wI _ _ (by omega))
      rw [pb] at s5
      simp (disch := omega) only [E_St_passInPath, B_46_0, o1, E_En_ordinal, B_42_0, o2, B_46_9, w1_z, w2_z, hw, B_46_94, sh_z.u, s5, B_46_135, inI, inL, isT, kInt, kByt, true_and, and_true, an_t, im_t, im_f, or_true, true_or, true_imp_iff, false_imp_iff, not_true_eq_false, not_false_eq_true, gK_uI, gK_uL, gK_uR, gK_uCI, gK_uCL, gN_uI, gN_uL, gN_uR, gN_uCI, gN_uCL, gR_uI, gR_uL, gR_uCI, gR_uCL, gI_uL, gI_uR, gI_uCL, gL_uI, gL_uR, gL_uCI, gz_uI, gz_uL, gz_uR, gz_uCI, gz_uCL, gs_uI, gs_uL, gs_uR, gs_uCI, gs_uCL, rI_at, rL_at, rR_at, rI_ne, rL_ne, rR_ne, rI_nk, rL_nk, rR_nk, rI_eq, rL_eq, rR_eq, Option.toList_some, Option.toList_none, List.cons_append, List.nil_append, List.append_nil, zc_eq, zc_lt, zc_le, zc_ge, zc_gt]
      all_goals exact go_z
    · have go_z := hG (by rw [ok_45 (by decide)]; exact ⟨hp, pb⟩) (uI M (b + 7) 6 0) ((Fc.refl b M).wI _ _ (by omega)) ((Kq.refl b M).wI _ _) (by
        rw [stepF_same (by decide), nmk_id (by decide)]
        exact StC.fl (p' := p_z) st_z _ (fun k_z hk => by rw [rI_nk (by omega)]) (by rw [rI_nk (by decide)]; exact s4_z) (by rw [rI_at]; rfl) (by rw [rI_nk (by decide)]; exact s6_z) rfl (by rw [rI_ne (by omega)]))
      rw [pb] at s5
      simp (disch := omega) only [E_St_passInPath, B_46_0, o1, E_En_ordinal, B_42_0, o2, B_46_9, w1_z, w2_z, hw, B_46_94, sh_z.u, s5, B_46_135, inI, inL, isT, kInt, kByt, true_and, and_true, an_t, im_t, im_f, or_true, true_or, true_imp_iff, false_imp_iff, not_true_eq_false, not_false_eq_true, gK_uI, gK_uL, gK_uR, gK_uCI, gK_uCL, gN_uI, gN_uL, gN_uR, gN_uCI, gN_uCL, gR_uI, gR_uL, gR_uCI, gR_uCL, gI_uL, gI_uR, gI_uCL, gL_uI, gL_uR, gL_uCI, gz_uI, gz_uL, gz_uR, gz_uCI, gz_uCL, gs_uI, gs_uL, gs_uR, gs_uCI, gs_uCL, rI_at, rL_at, rR_at, rI_ne, rL_ne, rR_ne, rI_nk, rL_nk, rR_nk, rI_eq, rL_eq, rR_eq, Option.toList_some, Option.toList_none, List.cons_append, List.nil_append, List.append_nil, zc_eq, zc_lt, zc_le, zc_ge, zc_gt]
      all_goals exact go_z
  · have hp := pT (by omega)
    have s6_z : gI M (b + 7) 7 = mq := s6_z
    have s5 : gI M (b + 7) 6 = pa := s5
    have at107 : At G 46 107 [a_r (b + 7), a_r (G.2 (3 + k_z)), a_i 1] [] M Q := by
      rcases mb with mb | mb
      · have go_z := hG (by rw [ok_78 (by omega)]; exact ⟨hp, mb⟩) (uI M (b + 7) 7 1) ((Fc.refl b M).wI _ _ (by omega)) ((Kq.refl b M).wI _ _) (by
          rw [stepF_same (by omega), npa_id (by omega)]
          exact StC.fl (p' := p_z) st_z _ (fun k_z hk => by rw [rI_nk (by omega)]) (by rw [rI_nk (by decide)]; exact s4_z) (by rw [rI_nk (by decide)]; exact s5) (by rw [rI_at]; unfold nmk; rw [if_pos (by omega)]) rfl (by rw [rI_ne (by omega)]))
        rw [mb] at s6_z
        simp (disch := omega) only [B_46_107, sh_z.u, s6_z, B_46_119, B_46_135, inI, inL, isT, kInt, kByt, true_and, and_true, an_t, im_t, im_f, or_true, true_or, true_imp_iff, false_imp_iff, not_true_eq_false, not_false_eq_true, gK_uI, gK_uL, gK_uR, gK_uCI, gK_uCL, gN_uI, gN_uL, gN_uR, gN_uCI, gN_uCL, gR_uI, gR_uL, gR_uCI, gR_uCL, gI_uL, gI_uR, gI_uCL, gL_uI, gL_uR, gL_uCI, gz_uI, gz_uL, gz_uR, gz_uCI, gz_uCL, gs_uI, gs_uL, gs_uR, gs_uCI, gs_uCL, rI_at, rL_at, rR_at, rI_ne, rL_ne, rR_ne, rI_nk, rL_nk, rR_nk, rI_eq, rL_eq, rR_eq, Option.toList_some, Option.toList_none, List.cons_append, List.nil_append, List.append_nil, zc_eq, zc_lt, zc_le, zc_ge, zc_gt]
        all_goals exact go_z
      · have go_z := hB_z (by rw [ok_78 (by omega)]; exact fun q_z => by omega) (uI M (b + 7) 7 1) ((Fc.refl b M).wI _ _ (by omega))
        rw [mb] at s6_z
        simp (disch := omega) only [B_46_107, sh_z.u, s6_z, B_46_118, B_46_119, B_46_135, inI, inL, isT, kInt, kByt, true_and, and_true, an_t, im_t, im_f, or_true, true_or, true_imp_iff, false_imp_iff, not_true_eq_false, not_false_eq_true, gK_uI, gK_uL, gK_uR, gK_uCI, gK_uCL, gN_uI, gN_uL, gN_uR, gN_uCI, gN_uCL, gR_uI, gR_uL, gR_uCI, gR_uCL, gI_uL, gI_uR, gI_uCL, gL_uI, gL_uR, gL_uCI, gz_uI, gz_uL, gz_uR, gz_uCI, gz_uCL, gs_uI, gs_uL, gs_uR, gs_uCI, gs_uCL, rI_at, rL_at, rR_at, rI_ne, rL_ne, rR_ne, rI_nk, rL_nk, rR_nk, rI_eq, rL_eq, rR_eq, Option.toList_some, Option.toList_none, List.cons_append, List.nil_append, List.append_nil, zc_eq, zc_lt, zc_le, zc_ge, zc_gt]
        all_goals exact go_z
    rcases h_z with h_z | h_z <;> subst h_z
    · have hw : gI M (G.2 1) 7 = 9 := hw
      have o2 : gI M (G.2 (3 + 7)) 0 = 7 := o2
      simp (disch := omega) only [E_St_passInPath, B_46_0, o1, E_En_ordinal, B_42_0, o2, B_46_9, w1_z, w2_z, hw, inI, inL, isT, kInt, kByt, true_and, and_true, an_t, im_t, im_f, or_true, true_or, true_imp_iff, false_imp_iff, not_true_eq_false, not_false_eq_true, gK_uI, gK_uL, gK_uR, gK_uCI, gK_uCL, gN_uI, gN_uL, gN_uR, gN_uCI, gN_uCL, gR_uI, gR_uL, gR_uCI, gR_uCL, gI_uL, gI_uR, gI_uCL, gL_uI, gL_uR, gL_uCI, gz_uI, gz_uL, gz_uR, gz_uCI, gz_uCL, gs_uI, gs_uL, gs_uR, gs_uCI, gs_uCL, rI_at, rL_at, rR_at, rI_ne, rL_ne, rR_ne, rI_nk, rL_nk, rR_nk, rI_eq, rL_eq, rR_eq, Option.toList_some, Option.toList_none, List.cons_append, List.nil_append, List.append_nil, zc_eq, zc_lt, zc_le, zc_ge, zc_gt]
      all_goals exact at107
    · have hw : gI M (G.2 1) 8 = 10 := hw
      have o2 : gI M (G.2 (3 + 8)) 0 = 8 := o2
      simp (disch := omega) only [E_St_passInPath, B_46_0, o1, E_En_ordinal, B_42_0, o2, B_46_9, w1_z, w2_z, hw, inI, inL, isT, kInt, kByt, true_and, and_true, an_t, im_t, im_f, or_true, true_or, true_imp_iff, false_imp_iff, not_true_eq_false, not_false_eq_true, gK_uI, gK_uL, gK_uR, gK_uCI, gK_uCL, gN_uI, gN_uL, gN_uR, gN_uCI, gN_uCL, gR_uI, gR_uL, gR_uCI, gR_uCL, gI_uL, gI_uR, gI_uCL, gL_uI, gL_uR, gL_uCI, gz_uI, gz_uL, gz_uR, gz_uCI, gz_uCL, gs_uI, gs_uL, gs_uR, gs_uCI, gs_uCL, rI_at, rL_at, rR_at, rI_ne, rL_ne, rR_ne, rI_nk, rL_nk, rR_nk, rI_eq, rL_eq, rR_eq, Option.toList_some, Option.toList_none, List.cons_append, List.nil_append, List.append_nil, zc_eq, zc_lt, zc_le, zc_ge, zc_gt]
      all_goals exact at107
  · have hp := pT (by omega)
    have at128 : At G 46 128 [a_r (b + 7), a_r (G.2 (3 + k_z)), a_i 1] [] M Q := by
      have go_z := hG (by rw [ok_9 (by omega)]; exact hp) (uI (uI (uI M (b + 7) 5 0) (b + 7) 6 0) (b + 7) 7 0) ((((Fc.refl b M).wI _ _ (by omega)).wI _ _ (by omega)).wI _ _ (by omega)) ((((Kq.refl b M).wI _ _).wI _ _).wI _ _) (by
        rw [stepF_end (by omega)]
        exact StC.fl (p' := false) st_z _ (fun k_z hk => by rw [rI_nk (by omega), rI_nk (by omega), rI_nk (by omega)]) (by rw [rI_nk (by decide), rI_nk (by decide), rI_at]; rfl) (by rw [rI_nk (by decide), rI_at]; unfold npa; rw [if_neg (by omega), if_pos (by omega)]) (by rw [rI_at]; unfold nmk; rw [if_neg (by omega), if_pos (by omega)]) rfl (by rw [rI_ne (by omega), rI_ne (by omega), rI_ne (by omega)]))
      simp (disch := omega) only [B_46_128, sh_z.u, E_St_endPath, B_18_0, B_18_10, B_46_132, B_46_135, inI, inL, isT, kInt, kByt, true_and, and_true, an_t, im_t, im_f, or_true, true_or, true_imp_iff, false_imp_iff, not_true_eq_false, not_false_eq_true, gK_uI, gK_uL, gK_uR, gK_uCI, gK_uCL, gN_uI, gN_uL, gN_uR, gN_uCI, gN_uCL, gR_uI, gR_uL, gR_uCI, gR_uCL, gI_uL, gI_uR, gI_uCL, gL_uI, gL_uR, gL_uCI, gz_uI, gz_uL, gz_uR, gz_uCI, gz_uCL, gs_uI, gs_uL, gs_uR, gs_uCI, gs_uCL, rI_at, rL_at, rR_at, rI_ne, rL_ne, rR_ne, rI_nk, rL_nk, rR_nk, rI_eq, rL_eq, rR_eq, Option.toList_some, Option.toList_none, List.cons_append, List.nil_append, List.append_nil, zc_eq, zc_lt, zc_le, zc_ge, zc_gt]
      all_goals exact go_z
    rcases h_z with h_z | h_z | h_z <;> subst h_z
    · have hw : gI M (G.2 1) 9 = 11 := hw
      have o2 : gI M (G.2 (3 + 9)) 0 = 9 := o2
      simp (disch := omega) only [E_St_passInPath, B_46_0, o1, E_En_ordinal, B_42_0, o2, B_46_9, w1_z, w2_z, hw, inI, inL, isT, kInt, kByt, true_and, and_true, an_t, im_t, im_f, or_true, true_or, true_imp_iff, false_imp_iff, not_true_eq_false, not_false_eq_true, gK_uI, gK_uL, gK_uR, gK_uCI, gK_uCL, gN_uI, gN_uL, gN_uR, gN_uCI, gN_uCL, gR_uI, gR_uL, gR_uCI, gR_uCL, gI_uL, gI_uR, gI_uCL, gL_uI, gL_uR, gL_uCI, gz_uI, gz_uL, gz_uR, gz_uCI, gz_uCL, gs_uI, gs_uL, gs_uR, gs_uCI, gs_uCL, rI_at, rL_at, rR_at, rI_ne, rL_ne, rR_ne, rI_nk, rL_nk, rR_nk, rI_eq, rL_eq, rR_eq, Option.toList_some, Option.toList_none, List.cons_append, List.nil_append, List.append_nil, zc_eq, zc_lt, zc_le, zc_ge, zc_gt]
      all_goals exact at128
    · have hw : gI M (G.2 1) 10 = 12 := hw
      have o2 : gI M (G.2 (3 + 10)) 0 = 10 := o2
      simp (disch := omega) only [E_St_passInPath, B_46_0, o1, E_En_ordinal, B_42_0, o2, B_46_9, w1_z, w2_z, hw, inI, inL, isT, kInt, kByt, true_and, and_true, an_t, im_t, im_f, or_true, true_or, true_imp_iff, false_imp_iff, not_true_eq_false, not_false_eq_true, gK_uI, gK_uL, gK_uR, gK_uCI, gK_uCL, gN_uI, gN_uL, gN_uR, gN_uCI, gN_uCL, gR_uI, gR_uL, gR_uCI, gR_uCL, gI_uL, gI_uR, gI_uCL, gL_uI, gL_uR, gL_uCI, gz_uI, gz_uL, gz_uR, gz_uCI, gz_uCL, gs_uI, gs_uL, gs_uR, gs_uCI, gs_uCL, rI_at, rL_at, rR_at, rI_ne, rL_ne, rR_ne, rI_nk, rL_nk, rR_nk, rI_eq, rL_eq, rR_eq, Option.toList_some, Option.toList_none, List.cons_append, List.nil_append, List.append_nil, zc_eq, zc_lt, zc_le, zc_ge, zc_gt]
      all_goals exact at128
    · have hw : gI M (G.2 1) 11 = 13 := hw
      have o2 : gI M (G.2 (3 + 11)) 0 = 11 := o2
      simp (disch := omega) only [E_St_passInPath, B_46_0, o1, E_En_ordinal, B_42_0, o2, B_46_9, w1_z, w2_z, hw, inI, inL, isT, kInt, kByt, true_and, and_true, an_t, im_t, im_f, or_true, true_or, true_imp_iff, false_imp_iff, not_true_eq_false, not_false_eq_true, gK_uI, gK_uL, gK_uR, gK_uCI, gK_uCL, gN_uI, gN_uL, gN_uR, gN_uCI, gN_uCL, gR_uI, gR_uL, gR_uCI, gR_uCL, gI_uL, gI_uR, gI_uCL, gL_uI, gL_uR, gL_uCI, gz_uI, gz_uL, gz_uR, gz_uCI, gz_uCL, gs_uI, gs_uL, gs_uR, gs_uCI, gs_uCL, rI_at, rL_at, rR_at, rI_ne, rL_ne, rR_ne, rI_nk, rL_nk, rR_nk, rI_eq, rL_eq, rR_eq, Option.toList_some, Option.toList_none, List.cons_append, List.nil_append, List.append_nil, zc_eq, zc_lt, zc_le, zc_ge, zc_gt]
      all_goals exact at128
  · have go_z := hG (by
      by_cases c_z : 16 ≤ k_z
      · exact ok_hi (by omega)
      · rw [ok_2 (by omega)]
        exact pF (by omega)) M (Fc.refl b M) (Kq.refl b M) (by
      rw [stepF_same (by omega), npa_id (by omega), nmk_id (by omega)]
      exact st_z)
    have hw2 : 14 ≤ gI M (G.2 1) (k_z : Int) := by
      rw [w3_z k_z hk]
      exact t3_z h_z
    simp (disch := omega) only [E_St_passInPath, B_46_0, o1, E_En_ordinal, B_42_0, o2, B_46_9, w1_z, w2_z, B_46_135, inI, inL, isT, kInt, kByt, true_and, and_true, an_t, im_t, im_f, or_true, true_or, true_imp_iff, false_imp_iff, not_true_eq_false, not_false_eq_true, gK_uI, gK_uL, gK_uR, gK_uCI, gK_uCL, gN_uI, gN_uL, gN_uR, gN_uCI, gN_uCL, gR_uI, gR_uL, gR_uCI, gR_uCL, gI_uL, gI_uR, gI_uCL, gL_uI, gL_uR, gL_uCI, gz_uI, gz_uL, gz_uR, gz_uCI, gz_uCL, gs_uI, gs_uL, gs_uR, gs_uCI, gs_uCL, rI_at, rL_at, rR_at, rI_ne, rL_ne, rR_ne, rI_nk, rL_nk, rR_nk, rI_eq, rL_eq, rR_eq, Option.toList_some, Option.toList_none, List.cons_append, List.nil_append, List.append_nil, zc_eq, zc_lt, zc_le, zc_ge, zc_gt]
    all_goals exact go_z
theorem X_pass {k_z n_z : Nat} {L_z : Stk} {p_z : Bool} {pa mq : Int} (sh_z : ShRd M b) (ho : OpF G M) (hk : k_z < 23) (st_z : StC G M b (L_z, p_z) pa mq) (pb : pa = 0 ∨ pa = 1) (mb : mq = 0 ∨ mq = 1) (hj : ∀ x_z, x_z ∈ L_z → x_z.2 < 160) (b6 : nsv L_z ≤ 6) (b3 : nrp L_z ≤ 3) (hB_z : ¬ okT (k_z : Int) (L_z, p_z) pa mq → ∀ M', Fc b M M' → Q (some (a_i 0)) M') (hG : okT (k_z : Int) (L_z, p_z) pa mq → ∀ M', Fc b M M' → gI M' (b + 2) = gI M (b + 2) → gR M' (b + 4) = gR M (b + 4) → gL M' (b + 5) = gL M (b + 5) → gI M' (b + 6) = prt (k_z : Int) L_z n_z (gI M (b + 6)) → StC G M' b (stepF (k_z : Int) n_z (L_z, p_z)) (npa (k_z : Int) pa) (nmk (k_z : Int) mq) → Q (some (a_i 1)) M') : Call G J_St_pass [a_r (b + 7), a_r (G.2 (3 + k_z)), a_i (n_z : Int), a_r (b + 6)] M Q := by
  obtain ⟨s1_z, s2_z, s3_z, s4_z, s5, s6_z, s7⟩ := id st_z
  have s2_z : gI M (b + 7) 3 = (nsv L_z : Int) := s2_z
  have s3_z : gI M (b + 7) 4 = (nrp L_z : Int) := s3_z
  have s4_z : gI M (b + 7) 5 = (if p_z then 1 else 0) := s4_z
  obtain ⟨o0_z, o1, o2, -, -⟩ := ho.n hk
  obtain ⟨f4_z, f5_z⟩ := ho.p hk
  obtain ⟨w1_z, w2_z, w3_z⟩ := ho.1
  have ln := nsv_len L_z
  have at26 : ((k_z = 4 ∨ k_z = 5 ∨ (7 ≤ k_z ∧ k_z ≤ 11)) → p_z = true) → ((k_z = 0 ∨ k_z = 1 ∨ k_z = 2 ∨ (12 ≤ k_z ∧ k_z ≤ 15)) → p_z = false) → At G 41 26 [a_r (b + 7), a_r (G.2 (3 + k_z)), a_i (n_z : Int), a_r (b + 6)] [] M Q := by
    intro pT pF
    have h0 : k_z = 0 ∨ k_z = 14 ∨ k_z = 1 ∨ k_z = 15 ∨ (k_z ≠ 0 ∧ k_z ≠ 1 ∧ k_z ≠ 14 ∧ k_z ≠ 15) := by omega
    rcases h0 with h_z | h_z | h_z | h_z | h_z
    · subst h_z
      have hw : gI M (G.2 1) 0 = 1 := w3_z 0 hk
      have o2 : gI M (G.2 (3 + 0)) 0 = 0 := o2
      have hp := pF (by omega)
      by_cases c_z : 6 ≤ nsv L_z
      · have go_z := hB_z (by
          show ¬ okT 0 (L_z, p_z) pa mq
          rw [ok_0]
          exact fun q_z => absurd q_z.2 (by show ¬ nsv L_z < 6; omega)) M (Fc.refl b M)
        simp (disch := omega) only [B_41_26, o1, E_En_ordinal, B_42_0, o2, B_41_33, w1_z, w2_z, hw, B_41_64, sh_z.u, s2_z, B_41_86, B_41_87, inI, inL, isT, kInt, kByt, true_and, and_true, an_t, im_t, im_f, or_true, true_or, true_imp_iff, false_imp_iff, not_true_eq_false, not_false_eq_true, gK_uI, gK_uL, gK_uR, gK_uCI, gK_uCL, gN_uI, gN_uL, gN_uR, gN_uCI, gN_uCL, gR_uI, gR_uL, gR_uCI, gR_uCL, gI_uL, gI_uR, gI_uCL, gL_uI, gL_uR, gL_uCI, gz_uI, gz_uL, gz_uR, gz_uCI, gz_uCL, gs_uI, gs_uL, gs_uR, gs_uCI, gs_uCL, rI_at, rL_at, rR_at, rI_ne, rL_ne, rR_ne, rI_nk, rL_nk, rR_nk, rI_eq, rL_eq, rR_eq, Option.toList_some, Option.toList_none, List.cons_append, List.nil_append, List.append_nil, zc_eq, zc_lt, zc_le, zc_ge, zc_gt]
        all_goals exact go_z
      · have go_z : Call G J_St_passOpening [a_r (b + 7), a_r (G.2 (3 + 0)), a_i (n_z : Int)] M (fun r_z M2_z => At G 41 79 [a_r (b + 7), a_r (G.2 (3 + 0)), a_i (n_z : Int), a_r (b + 6)] r_z.toList M2_z Q) := by
          refine X_opening (e_z := false) (k_z := 0) sh_z ho rfl st_z b6 b3 (by omega) (fun M' f_z q1_z q2_z q3_z q4_z q5_z => ?_)
          have g_z := hG (by
            show okT 0 (L_z, p_z) pa mq
            rw [ok_0]
            exact ⟨hp, by show nsv L_z < 6; omega⟩) M' f_z q1_z q2_z q3_z (by rw [q4_z]; exact (prt_id (by decide)).symm) q5_z
          simp (disch := omega) only [B_41_79, B_41_87, inI, inL, isT, kInt, kByt, true_and, and_true, an_t, im_t, im_f, or_true, true_or, true_imp_iff, false_imp_iff, not_true_eq_false, not_false_eq_true, gK_uI, gK_uL, gK_uR, gK_uCI, gK_uCL, gN_uI, gN_uL, gN_uR, gN_uCI, gN_uCL, gR_uI, gR_uL, gR_uCI, gR_uCL, gI_uL, gI_uR, gI_uCL, gL_uI, gL_uR, gL_uCI, gz_uI, gz_uL, gz_uR, gz_uCI, gz_uCL, gs_uI, gs_uL, gs_uR, gs_uCI, gs_uCL, rI_at, rL_at, rR_at, rI_ne, rL_ne, rR_ne, rI_nk, rL_nk, rR_nk, rI_eq, rL_eq, rR_eq, Option.toList_some, Option.toList_none, List.cons_append, List.nil_append, List.append_nil, zc_eq, zc_lt, zc_le, zc_ge, zc_gt]
          all_goals exact g_z
        simp (disch := omega) only [B_41_26, o1, E_En_ordinal, B_42_0, o2, B_41_33, w1_z, w2_z, hw, B_41_64, sh_z.u, s2_z, inI, inL, isT, kInt, kByt, true_and, and_true, an_t, im_t, im_f, or_true, true_or, true_imp_iff, false_imp_iff, not_true_eq_false, not_false_eq_true, gK_uI, gK_uL, gK_uR, gK_uCI, gK_uCL, gN_uI, gN_uL, gN_uR, gN_uCI, gN_uCL, gR_uI, gR_uL, gR_uCI, gR_uCL, gI_uL, gI_uR, gI_uCL, gL_uI, gL_uR, gL_uCI, gz_uI, gz_uL, gz_uR, gz_uCI, gz_uCL, gs_uI, gs_uL, gs_uR, gs_uCI, gs_uCL, rI_at, rL_at, rR_at, rI_ne, rL_ne, rR_ne, rI_nk, rL_nk, rR_nk, rI_eq, rL_eq, rR_eq, Option.toList_some, Option.toList_none, List.cons_append, List.nil_append, List.append_nil, zc_eq, zc_lt, zc_le, zc_ge, zc_gt]
        all_goals exact go_z
    · subst h_z
      have hw : gI M (G.2 1) 14 = 2 := w3_z 14 hk
      have o2 : gI M (G.2 (3 + 14)) 0 = 14 := o2
      have hp := pF (by omega)
      by_cases c_z : 3 ≤ nrp L_z
      · have go_z := hB_z (by
          show ¬ okT 14 (L_z, p_z) pa mq
          rw [ok_14]
          exact fun q_z => absurd q_z.2 (by show ¬ nrp L_z < 3; omega)) M (Fc.refl b M)
        simp (disch := omega) only [B_41_26, o1, E_En_ordinal, B_42_0, o2, B_41_33, w1_z, w2_z, hw, B_41_88, sh_z.u, s3_z, B_41_109, B_41_110, inI, inL, isT, kInt, kByt, true_and, and_true, an_t, im_t, im_f, or_true, true_or, true_imp_iff, false_imp_iff, not_true_eq_false, not_false_eq_true, gK_uI, gK_uL, gK_uR, gK_uCI, gK_uCL, gN_uI, gN_uL, gN_uR, gN_uCI, gN_uCL, gR_uI, gR_uL, gR_uCI, gR_uCL, gI_uL, gI_uR, gI_uCL, gL_uI, gL_uR, gL_uCI, gz_uI, gz_uL, gz_uR, gz_uCI, gz_uCL, gs_uI, gs_uL, gs_uR, gs_uCI, gs_uCL, rI_at, rL_at, rR_at, rI_ne, rL_ne, rR_ne, rI_nk, rL_nk, rR_nk, rI_eq, rL_eq, rR_eq, Option.toList_some, Option.toList_none, List.cons_append, List.nil_append, List.append_nil, zc_eq, zc_lt, zc_le, zc_ge, zc_gt]
        all_goals exact go_z
      · have go_z : Call G J_St_passOpening [a_r (b + 7), a_r (G.2 (3 + 14)), a_i (n_z : Int)] M (fun r_z M2_z => At G 41 102 [a_r (b + 7), a_r (G.2 (3 + 14)), a_i (n_z : Int), a_r (b + 6)] r_z.toList M2_z Q) := by
          refine X_opening (e_z := true) (k_z := 14) sh_z ho rfl st_z b6 b3 (by omega) (fun M' f_z q1_z q2_z q3_z q4_z q5_z => ?_)
          have g_z := hG (by
            show okT 14 (L_z, p_z) pa mq
            rw [ok_14]
            exact ⟨hp, by show nrp L_z < 3; omega⟩) M' f_z q1_z q2_z q3_z (by rw [q4_z]; exact (prt_id (by decide)).symm) q5_z
          simp (disch := omega) only [B_41_102, B_41_110, inI, inL, isT, kInt, kByt, true_and, and_true, an_t, im_t, im_f, or_true, true_or, true_imp_iff, false_imp_iff, not_true_eq_false, not_false_eq_true, gK_uI, gK_uL, gK_uR, gK_uCI, gK_uCL, gN_uI, gN_uL, gN_uR, gN_uCI, gN_uCL, gR_uI, gR_uL, gR_uCI, gR_uCL, gI_uL, gI_uR, gI_uCL, gL_uI, gL_uR, gL_uCI, gz_uI, gz_uL, gz_uR, gz_uCI, gz_uCL, gs_uI, gs_uL, gs_uR, gs_uCI, gs_uCL, rI_at, rL_at, rR_at, rI_ne, rL_ne, rR_ne, rI_nk, rL_nk, rR_nk, rI_eq, rL_eq, rR_eq, Option.toList_some, Option.toList_none, List.cons_append, List.nil_append, List.append_nil, zc_eq, zc_lt, zc_le, zc_ge, zc_gt]
          all_goals exact g_z
        simp (disch := omega) only [B_41_26, o1, E_En_ordinal, B_42_0, o2, B_41_33, w1_z, w2_z, hw, B_41_88, sh_z.u, s3_z, inI, inL, isT, kInt, kByt, true_and, and_true, an_t, im_t, im_f, or_true, true_or, true_imp_iff, false_imp_iff, not_true_eq_false, not_false_eq_true, gK_uI, gK_uL, gK_uR, gK_uCI, gK_uCL, gN_uI, gN_uL, gN_uR, gN_uCI, gN_uCL, gR_uI, gR_uL, gR_uCI, gR_uCL, gI_uL, gI_uR, gI_uCL, gL_uI, gL_uR, gL_uCI, gz_uI, gz_uL, gz_uR, gz_uCI, gz_uCL, gs_uI, gs_uL, gs_uR, gs_uCI, gs_uCL, rI_at, rL_at, rR_at, rI_ne, rL_ne, rR_ne, rI_nk, rL_nk, rR_nk, rI_eq, rL_eq, rR_eq, Option.toList_some, Option.toList_none, List.cons_append, List.nil_append, List.append_nil, zc_eq, zc_lt, zc_le, zc_ge, zc_gt]
        all_goals exact go_z
    · subst h_z
      have hw : gI M (G.2 1) 1 = 3 := w3_z 1 hk
      have o2 : gI M (G.2 (3 + 1)) 0 = 1 := o2
      have hp := pF (by omega)
      have go_z : Call G J_St_passClosing [a_r (b + 7), a_r (G.2 3), a_i (n_z : Int), a_r (b + 6)] M (fun r_z M2_z => At G 41 120 [a_r (b + 7), a_r (G.2 (3 + 1)), a_i (n_z : Int), a_r (b + 6)] r_z.toList M2_z Q) := by
        refine X_closing (e_z := false) sh_z ho rfl st_z hj b6 b3 (fun hb_z => ?_) (fun j_z L' hL M' f_z q1_z q2_z q3_z q4_z q5_z => ?_)
        · have g_z := hB_z (by
            show ¬ okT 1 (L_z, p_z) pa mq
            rw [ok_1]
            exact fun q_z => hb_z q_z.2) M (Fc.refl b M)
          simp (disch := omega) only [B_41_120, inI, inL, isT, kInt, kByt, true_and, and_true, an_t, im_t, im_f, or_true, true_or, true_imp_iff, false_imp_iff, not_true_eq_false, not_false_eq_true, gK_uI, gK_uL, gK_uR, gK_uCI, gK_uCL, gN_uI, gN_uL, gN_uR, gN_uCI, gN_uCL, gR_uI, gR_uL, gR_uCI, gR_uCL, gI_uL, gI_uR, gI_uCL, gL_uI, gL_uR, gL_uCI, gz_uI, gz_uL, gz_uR, gz_uCI, gz_uCL, gs_uI, gs_uL, gs_uR, gs_uCI, gs_uCL, rI_at, rL_at, rR_at, rI_ne, rL_ne, rR_ne, rI_nk, rL_nk, rR_nk, rI_eq, rL_eq, rR_eq, Option.toList_some, Option.toList_none, List.cons_append, List.nil_append, List.append_nil, zc_eq, zc_lt, zc_le, zc_ge, zc_gt]
          all_goals exact g_z
        · have g_z := hG (by
            show okT 1 (L_z, p_z) pa mq
            rw [ok_1, hL]
            exact ⟨hp, rfl⟩) M' f_z q1_z q2_z q3_z (by rw [q4_z, rI_row, hL]; rfl) (by rw [hL]; exact q5_z)
          simp (disch := omega) only [B_41_120, inI, inL, isT, kInt, kByt, true_and, and_true, an_t, im_t, im_f, or_true, true_or, true_imp_iff, false_imp_iff, not_true_eq_false, not_false_eq_true, gK_uI, gK_uL, gK_uR, gK_uCI, gK_uCL, gN_uI, gN_uL, gN_uR, gN_uCI, gN_uCL, gR_uI, gR_uL, gR_uCI, gR_uCL, gI_uL, gI_uR, gI_uCL, gL_uI, gL_uR, gL_uCI, gz_uI, gz_uL, gz_uR, gz_uCI, gz_uCL, gs_uI, gs_uL, gs_uR, gs_uCI, gs_uCL, rI_at, rL_at, rR_at, rI_ne, rL_ne, rR_ne, rI_nk, rL_nk, rR_nk, rI_eq, rL_eq, rR_eq, Option.toList_some, Option.toList_none, List.cons_append, List.nil_append, List.append_nil, zc_eq, zc_lt, zc_le, zc_ge, zc_gt]
          all_goals exact g_z
      simp (disch := omega) only [B_41_26, o1, E_En_ordinal, B_42_0, o2, B_41_33, w1_z, w2_z, hw, B_41_111, sh_z.u, inI, inL, isT, kInt, kByt, true_and, and_true, an_t, im_t, im_f, or_true, true_or, true_imp_iff, false_imp_iff, not_true_eq_false, not_false_eq_true, gK_uI, gK_uL, gK_uR, gK_uCI, gK_uCL, gN_uI, gN_uL, gN_uR, gN_uCI, gN_uCL, gR_uI, gR_uL, gR_uCI, gR_uCL, gI_uL, gI_uR, gI_uCL, gL_uI, gL_uR, gL_uCI, gz_uI, gz_uL, gz_uR, gz_uCI, gz_uCL, gs_uI, gs_uL, gs_uR, gs_uCI, gs_uCL, rI_at, rL_at, rR_at, rI_ne, rL_ne, rR_ne, rI_nk, rL_nk, rR_nk, rI_eq, rL_eq, rR_eq, Option.toList_some, Option.toList_none, List.cons_append, List.nil_append, List.append_nil, zc_eq, zc_lt, zc_le, zc_ge, zc_gt]
      all_goals exact go_z
    · subst h_z
      have hw : gI M (G.2 1) 15 = 4 := w3_z 15 hk
      have o2 : gI M (G.2 (3 + 15)) 0 = 15 := o2
      have hp := pF (by omega)
      have go_z : Call G J_St_passClosing [a_r (b + 7), a_r (G.2 17), a_i (n_z : Int), a_r (b + 6)] M (fun r_z M2_z => At G 41 130 [a_r (b + 7), a_r (G.2 (3 + 15)), a_i (n_z : Int), a_r (b + 6)] r_z.toList M2_z Q) := by
        refine X_closing (e_z := true) sh_z ho rfl st_z hj b6 b3 (fun hb_z => ?_) (fun j_z L' hL M' f_z q1_z q2_z q3_z q4_z q5_z => ?_)
        · have g_z := hB_z (by
            show ¬ okT 15 (L_z, p_z) pa mq
            rw [ok_15]
            exact fun q_z => hb_z q_z.2) M (Fc.refl b M)
          simp (disch := omega) only [B_41_130, inI, inL, isT, kInt, kByt, true_and, and_true, an_t, im_t, im_f, or_true, true_or, true_imp_iff, false_imp_iff, not_true_eq_false, not_false_eq_true, gK_uI, gK_uL, gK_uR, gK_uCI, gK_uCL, gN_uI, gN_uL, gN_uR, gN_uCI, gN_uCL, gR_uI, gR_uL, gR_uCI, gR_uCL, gI_uL, gI_uR, gI_uCL, gL_uI, gL_uR, gL_uCI, gz_uI, gz_uL, gz_uR, gz_uCI, gz_uCL, gs_uI, gs_uL, gs_uR, gs_uCI, gs_uCL, rI_at, rL_at, rR_at, rI_ne, rL_ne, rR_ne, rI_nk, rL_nk, rR_nk, rI_eq, rL_eq, rR_eq, Option.toList_some, Option.toList_none, List.cons_append, List.nil_append, List.append_nil, zc_eq, zc_lt, zc_le, zc_ge, zc_gt]
          all_goals exact g_z
        · have g_z := hG (by
            show okT 15 (L_z, p_z) pa mq
            rw [ok_15, hL]
            exact ⟨hp, rfl⟩) M' f_z q1_z q2_z q3_z (by rw [q4_z, rI_row, hL]; rfl) (by rw [hL]; exact q5_z)
          simp (disch := omega) only [B_41_130, inI, inL, isT, kInt, kByt, true_and, and_true, an_t, im_t, im_f, or_true, true_or, true_imp_iff, false_imp_iff, not_true_eq_false, not_false_eq_true, gK_uI, gK_uL, gK_uR, gK_uCI, gK_uCL, gN_uI, gN_uL, gN_uR, gN_uCI, gN_uCL, gR_uI, gR_uL, gR_uCI, gR_uCL, gI_uL, gI_uR, gI_uCL, gL_uI, gL_uR, gL_uCI, gz_uI, gz_uL, gz_uR, gz_uCI, gz_uCL, gs_uI, gs_uL, gs_uR, gs_uCI, gs_uCL, rI_at, rL_at, rR_at, rI_ne, rL_ne, rR_ne, rI_nk, rL_nk, rR_nk, rI_eq, rL_eq, rR_eq, Option.toList_some, Option.toList_none, List.cons_append, List.nil_append, List.append_nil, zc_eq, zc_lt, zc_le, zc_ge, zc_gt]
          all_goals exact g_z
      simp (disch := omega) only [B_41_26, o1, E_En_ordinal, B_42_0, o2, B_41_33, w1_z, w2_z, hw, B_41_121, sh_z.u, inI, inL, isT, kInt, kByt, true_and, and_true, an_t, im_t, im_f, or_true, true_or, true_imp_iff, false_imp_iff, not_true_eq_false, not_false_eq_true, gK_uI, gK_uL, gK_uR, gK_uCI, gK_uCL, gN_uI, gN_uL, gN_uR, gN_uCI, gN_uCL, gR_uI, gR_uL, gR_uCI, gR_uCL, gI_uL, gI_uR, gI_uCL, gL_uI, gL_uR, gL_uCI, gz_uI, gz_uL, gz_uR, gz_uCI, gz_uCL, gs_uI, gs_uL, gs_uR, gs_uCI, gs_uCL, rI_at, rL_at, rR_at, rI_ne, rL_ne, rR_ne, rI_nk, rL_nk, rR_nk, rI_eq, rL_eq, rR_eq, Option.toList_some, Option.toList_none, List.cons_append, List.nil_append, List.append_nil, zc_eq, zc_lt, zc_le, zc_ge, zc_gt]
      all_goals exact go_z
    · have go_z : Call G J_St_passInPath [a_r (b + 7), a_r (G.2 (3 + k_z))] M (fun r_z M2_z => At G 41 136 [a_r (b + 7), a_r (G.2 (3 + k_z)), a_i (n_z : Int), a_r (b + 6)] r_z.toList M2_z Q) := by
        refine X_inPath (n_z := n_z) sh_z ho hk h_z st_z pb mb pT (fun q_z => pF (by omega)) (fun hb_z M' f_z => ?_) (fun hg M' f_z kp_z q_z => ?_)
        · have g_z := hB_z hb_z M' f_z
          simp (disch := omega) only [B_41_136, inI, inL, isT, kInt, kByt, true_and, and_true, an_t, im_t, im_f, or_true, true_or, true_imp_iff, false_imp_iff, not_true_eq_false, not_false_eq_true, gK_uI, gK_uL, gK_uR, gK_uCI, gK_uCL, gN_uI, gN_uL, gN_uR, gN_uCI, gN_uCL, gR_uI, gR_uL, gR_uCI, gR_uCL, gI_uL, gI_uR, gI_uCL, gL_uI, gL_uR, gL_uCI, gz_uI, gz_uL, gz_uR, gz_uCI, gz_uCL, gs_uI, gs_uL, gs_uR, gs_uCI, gs_uCL, rI_at, rL_at, rR_at, rI_ne, rL_ne, rR_ne, rI_nk, rL_nk, rR_nk, rI_eq, rL_eq, rR_eq, Option.toList_some, Option.toList_none, List.cons_append, List.nil_append, List.append_nil, zc_eq, zc_lt, zc_le, zc_ge, zc_gt]
          all_goals exact g_z
        · have g_z := hG hg M' f_z kp_z.1 kp_z.2.1 kp_z.2.2.1 (by rw [kp_z.2.2.2]; exact (prt_id (by omega)).symm) q_z
          simp (disch := omega) only [B_41_136, inI, inL, isT, kInt, kByt, true_and, and_true, an_t, im_t, im_f, or_true, true_or, true_imp_iff, false_imp_iff, not_true_eq_false, not_false_eq_true, gK_uI, gK_uL, gK_uR, gK_uCI, gK_uCL, gN_uI, gN_uL, gN_uR, gN_uCI, gN_uCL, gR_uI, gR_uL, gR_uCI, gR_uCL, gI_uL, gI_uR, gI_uCL, gL_uI, gL_uR, gL_uCI, gz_uI, gz_uL, gz_uR, gz_uCI, gz_uCL, gs_uI, gs_uL, gs_uR, gs_uCI, gs_uCL, rI_at, rL_at, rR_at, rI_ne, rL_ne, rR_ne, rI_nk, rL_nk, rR_nk, rI_eq, rL_eq, rR_eq, Option.toList_some, Option.toList_none, List.cons_append, List.nil_append, List.append_nil, zc_eq, zc_lt, zc_le, zc_ge, zc_gt]
          all_goals exact g_z
      have hw2 : 4 < gI M (G.2 1) (k_z : Int) := by
        obtain ⟨t1_z, t2_z, t3_z⟩ := sw_tab k_z hk
        rw [w3_z k_z hk]
        by_cases c_z : k_z = 2 ∨ k_z = 12 ∨ k_z = 13 ∨ 16 ≤ k_z
        · have := t3_z c_z
          omega
        · have hh : k_z = 3 ∨ k_z = 6 ∨ k_z = 4 ∨ k_z = 5 ∨ k_z = 7 ∨ k_z = 8 ∨ k_z = 9 ∨ k_z = 10 ∨ k_z = 11 := by omega
          rcases hh with hh | hh | hh | hh | hh | hh | hh | hh | hh <;> subst hh <;> decide
      simp (disch := omega) only [B_41_26, o1, E_En_ordinal, B_42_0, o2, B_41_33, w1_z, w2_z, B_41_131, sh_z.u, inI, inL, isT, kInt, kByt, true_and, and_true, an_t, im_t, im_f, or_true, true_or, true_imp_iff, false_imp_iff, not_true_eq_false, not_false_eq_true, gK_uI, gK_uL, gK_uR, gK_uCI, gK_uCL, gN_uI, gN_uL, gN_uR, gN_uCI, gN_uCL, gR_uI, gR_uL, gR_uCI, gR_uCL, gI_uL, gI_uR, gI_uCL, gL_uI, gL_uR, gL_uCI, gz_uI, gz_uL, gz_uR, gz_uCI, gz_uCL, gs_uI, gs_uL, gs_uR, gs_uCI, gs_uCL, rI_at, rL_at, rR_at, rI_ne, rL_ne, rR_ne, rI_nk, rL_nk, rR_nk, rI_eq, rL_eq, rR_eq, Option.toList_some, Option.toList_none, List.cons_append, List.nil_append, List.append_nil, zc_eq, zc_lt, zc_le, zc_ge, zc_gt]
      all_goals exact go_z
  cases p_z with
  | false =>
    have s4_z : gI M (b + 7) 5 = 0 := s4_z
    by_cases c_z : k_z = 4 ∨ k_z = 5 ∨ (7 ≤ k_z ∧ k_z ≤ 11)
    · rw [if_pos c_z] at f5_z
      have go_z := hB_z (fun q_z => absurd (q_z.2.2.2.2.2.1 (by omega)) (by show ¬ false = true; decide)) M (Fc.refl b M)
      simp (disch := omega) only [E_St_pass, B_41_0, sh_z.u, s4_z, B_41_17, o1, f5_z, B_41_24, not_true_eq_false, inI, inL, isT, kInt, kByt, true_and, and_true, an_t, im_t, im_f, or_true, true_or, true_imp_iff, false_imp_iff, not_true_eq_false, not_false_eq_true, gK_uI, gK_uL, gK_uR, gK_uCI, gK_uCL, gN_uI, gN_uL, gN_uR, gN_uCI, gN_uCL, gR_uI, gR_uL, gR_uCI, gR_uCL, gI_uL, gI_uR, gI_uCL, gL_uI, gL_uR, gL_uCI, gz_uI, gz_uL, gz_uR, gz_uCI, gz_uCL, gs_uI, gs_uL, gs_uR, gs_uCI, gs_uCL, rI_at, rL_at, rR_at, rI_ne, rL_ne, rR_ne, rI_nk, rL_nk, rR_nk, rI_eq, rL_eq, rR_eq, Option.toList_some, Option.toList_none, List.cons_append, List.nil_append, List.append_nil, zc_eq, zc_lt, zc_le, zc_ge, zc_gt]
      all_goals exact go_z
    · rw [if_neg c_z] at f5_z
      have go_z := at26 (fun q_z => absurd q_z c_z) (fun _ => rfl)
      simp (disch := omega) only [E_St_pass, B_41_0, sh_z.u, s4_z, B_41_17, o1, f5_z, inI, inL, isT, kInt, kByt, true_and, and_true, an_t, im_t, im_f, or_true, true_or, true_imp_iff, false_imp_iff, not_true_eq_false, not_false_eq_true, gK_uI, gK_uL, gK_uR, gK_uCI, gK_uCL, gN_uI, gN_uL, gN_uR, gN_uCI, gN_uCL, gR_uI, gR_uL, gR_uCI, gR_uCL, gI_uL, gI_uR, gI_uCL, gL_uI, gL_uR, gL_uCI, gz_uI, gz_uL, gz_uR, gz_uCI, gz_uCL, gs_uI, gs_uL, gs_uR, gs_uCI, gs_uCL, rI_at, rL_at, rR_at, rI_ne, rL_ne, rR_ne, rI_nk, rL_nk, rR_nk, rI_eq, rL_eq, rR_eq, Option.toList_some, Option.toList_none, List.cons_append, List.nil_append, List.append_nil, zc_eq, zc_lt, zc_le, zc_ge, zc_gt]
      all_goals exact go_z
  | true =>
    have s4_z : gI M (b + 7) 5 = 1 := s4_z
    by_cases c_z : (3 ≤ k_z ∧ k_z ≤ 11) ∨ 16 ≤ k_z
    · rw [if_pos c_z] at f4_z
      have go_z := at26 (fun _ => rfl) (fun q_z => absurd c_z (by omega))
      simp (disch := omega) only [E_St_pass, B_41_0, sh_z.u, s4_z, o1, f4_z, inI, inL, isT, kInt, kByt, true_and, and_true, an_t, im_t, im_f, or_true, true_or, true_imp_iff, false_imp_iff, not_true_eq_false, not_false_eq_true, gK_uI, gK_uL, gK_uR, gK_uCI, gK_uCL, gN_uI, gN_uL, gN_uR, gN_uCI, gN_uCL, gR_uI, gR_uL, gR_uCI, gR_uCL, gI_uL, gI_uR, gI_uCL, gL_uI, gL_uR, gL_uCI, gz_uI, gz_uL, gz_uR, gz_uCI, gz_uCL, gs_uI, gs_uL, gs_uR, gs_uCI, gs_uCL, rI_at, rL_at, rR_at, rI_ne, rL_ne, rR_ne, rI_nk, rL_nk, rR_nk, rI_eq, rL_eq, rR_eq, Option.toList_some, Option.toList_none, List.cons_append, List.nil_append, List.append_nil, zc_eq, zc_lt, zc_le, zc_ge, zc_gt]
      all_goals exact go_z
    · rw [if_neg c_z] at f4_z
      have go_z := hB_z (fun q_z => by
        obtain ⟨z1, z2, z3, z4, z5, z6, z7, z8, z9⟩ := q_z
        have hh : k_z = 0 ∨ k_z = 14 ∨ k_z = 1 ∨ k_z = 15 ∨ k_z = 2 ∨ k_z = 12 ∨ k_z = 13 := by omega
        have key_z : (true : Bool) = false := by
          rcases hh with hh | hh | hh | hh | hh
          · exact (z2 (by omega)).1
          · exact (z3 (by omega)).1
          · exact (z4 (by omega)).1
          · exact (z5 (by omega)).1
          · exact z7 (by omega)
        exact absurd key_z (by decide)) M (Fc.refl b M)
      simp (disch := omega) only [E_St_pass, B_41_0, sh_z.u, s4_z, o1, f4_z, B_41_24, not_true_eq_false, inI, inL, isT, kInt, kByt, true_and, and_true, an_t, im_t, im_f, or_true, true_or, true_imp_iff, false_imp_iff, not_true_eq_false, not_false_eq_true, gK_uI, gK_uL, gK_uR, gK_uCI, gK_uCL, gN_uI, gN_uL, gN_uR, gN_uCI, gN_uCL, gR_uI, gR_uL, gR_uCI, gR_uCL, gI_uL, gI_uR, gI_uCL, gL_uI, gL_uR, gL_uCI, gz_uI, gz_uL, gz_uR, gz_uCI, gz_uCL, gs_uI, gs_uL, gs_uR, gs_uCI, gs_uCL, rI_at, rL_at, rR_at, rI_ne, rL_ne, rR_ne, rI_nk, rL_nk, rR_nk, rI_eq, rL_eq, rR_eq, Option.toList_some, Option.toList_none, List.cons_append, List.nil_append, List.append_nil, zc_eq, zc_lt, zc_le, zc_ge, zc_gt]
      all_goals exact go_z
end EM
