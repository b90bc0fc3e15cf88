/-! THE PURE PART, part 18: what is allowed, in the model. Own work. -/
theorem StM.push {T : Mem} {m n_z : Nat} {L_z : Stk} {p_z : Bool} {pa mq v_z : Int} {e_z : Bool} (st_z : StM T m (L_z, p_z) pa mq) (hv : v_z = if e_z then 1 else 0) : StM (uI (uI T (m + 4) (L_z.length : Int) v_z) m 9 ((L_z.length : Int) + 1)) m ((e_z, n_z) :: L_z, p_z) pa mq := by
  obtain ⟨s1_z, s2_z, s3_z, s4_z⟩ := st_z
  refine ⟨?_, ?_, fun q_z => ?_, ?_, ?_⟩
  · rw [rI_at]
    show _ = ((L_z.length + 1 : Nat) : Int)
    omega
  · rw [rI_nk (by decide), rI_ne (by omega)]
    exact s2_z
  · rw [rI_nk (by decide), rI_ne (by omega), rI_nk (by decide), rI_ne (by omega)]
    exact s3_z q_z
  · rw [rI_ne (by omega), rI_at]
    exact hv
  · refine MSk.congr s4_z (fun i_z i0_z i1_z => ?_)
    have i2_z : i_z < (L_z.length : Int) := i1_z
    rw [rI_ne (by omega), rI_nk (by omega)]
theorem StM.pop {T : Mem} {m : Nat} {L_z : Stk} {x_z : Bool × Nat} {p_z : Bool} {pa mq : Int} (st_z : StM T m (x_z :: L_z, p_z) pa mq) : StM (uI T m 9 (L_z.length : Int)) m (L_z, p_z) pa mq := by
  obtain ⟨s1_z, s2_z, s3_z, s4_z⟩ := st_z
  refine ⟨rI_at, ?_, fun q_z => ?_, ?_⟩
  · rw [rI_nk (by decide)]
    exact s2_z
  · rw [rI_nk (by decide), rI_nk (by decide)]
    exact s3_z q_z
  · rw [rI_ne (by omega)]
    exact s4_z.2
section EK
variable {G : Env0} {Q : Option AV → Mem → Prop} {T : Mem} {m : Nat}
theorem X_isAllowed {c_z pa mq : Int} {s_z : Stk × Bool} {n_z : Nat} (sm_z : ShM T m) (hc_z : gI T m 7 = c_z) (ck : (0 ≤ c_z ∧ c_z ≤ 22) ∨ (100 ≤ c_z ∧ c_z ≤ 107) ∨ 10000 ≤ c_z) (st_z : StM T m s_z pa mq) (b6 : nsv s_z.1 ≤ 6) (b3 : nrp s_z.1 ≤ 3) (pm : s_z.2 = false → mq = 0) (pb : pa = 0 ∨ pa = 1) (mb : mq = 0 ∨ mq = 1) (hB_z : ¬ okT c_z s_z pa mq → ∀ T', Fa m T T' → Q (some (a_i 0)) T') (hG : okT c_z s_z pa mq → ∀ T', Fa m T T' → StM T' m (stepF c_z n_z s_z) (npa c_z pa) (nmk c_z mq) → Q (some (a_i 1)) T') : Call G J_M_isAllowed [a_r m] T Q := by
  obtain ⟨L_z, p_z⟩ := s_z
  obtain ⟨s1_z, s2_z, s3_z, s4_z⟩ := id st_z
  have ln := nsv_len L_z
  have b6 : nsv L_z ≤ 6 := b6
  have b3 : nrp L_z ≤ 3 := b3
  have pm : p_z = false → mq = 0 := pm
  have s1_z : gI T m 9 = (L_z.length : Int) := s1_z
  have cn := MSk.cnt s4_z
  have cn : cnV (gI T (m + 4)) 1 L_z.length = (nrp L_z : Int) ∧ cnV (gI T (m + 4)) 0 L_z.length = (nsv L_z : Int) := cn
  have hP : ∃ P_z : Int, gI T m 10 = P_z ∧ ((P_z = 0 ∧ p_z = false) ∨ (P_z = 1 ∧ p_z = true ∧ gI T m 11 = pa ∧ gI T m 12 = mq)) := by
    cases p_z with
    | false => exact ⟨0, s2_z, Or.inl ⟨rfl, rfl⟩⟩
    | true => exact ⟨1, s2_z, Or.inr ⟨rfl, rfl, s3_z rfl⟩⟩
  obtain ⟨P_z, s2', hP⟩ := hP
  have pT : p_z = true → ¬ p_z = false := fun q_z w_z => by rw [q_z] at w_z; exact absurd w_z (by decide)
  have same_z : (stepF c_z n_z (L_z, p_z) = (L_z, p_z)) → npa c_z pa = pa → nmk c_z mq = mq → StM T m (stepF c_z n_z (L_z, p_z)) (npa c_z pa) (nmk c_z mq) := fun e1_z e2_z e3_z => by rw [e1_z, e2_z, e3_z]; exact st_z
  have h0 : c_z = 0 ∨ c_z = 14 ∨ c_z = 1 ∨ c_z = 15 ∨ (c_z = 3 ∨ c_z = 6) ∨ c_z = 4 ∨ c_z = 5 ∨ (c_z = 7 ∨ c_z = 8) ∨ (c_z = 9 ∨ c_z = 10 ∨ c_z = 11) ∨ (c_z = 2 ∨ c_z = 12 ∨ c_z = 13) ∨ (100 ≤ c_z ∧ c_z ≤ 107) ∨ ((16 ≤ c_z ∧ c_z ≤ 22) ∨ 10000 ≤ c_z) := by omega
  rcases h0 with h_z | h_z | h_z | h_z | h_z | h_z | h_z | h_z | h_z | h_z | h_z | h_z
  · -- save
    subst h_z
    have go_z : Call G J_M_opens [a_r m, a_i 0, a_i 6] T (fun r_z M2_z => At G 180 91 [a_r m, a_u] r_z.toList M2_z Q) := by
      refine X_opens sm_z s1_z (by omega) s2' (fun hb_z => ?_) (fun hp hw => ⟨by omega, ?_⟩)
      · have q_z := hB_z (by
          rw [ok_0]
          intro ⟨z1, z2⟩
          have z1 : p_z = false := z1
          have z2 : nsv L_z < 6 := z2
          rcases hP with ⟨e1_z, e2_z⟩ | ⟨e1_z, e2_z, -⟩
          · omega
          · exact pT e2_z z1) T (Fa.refl _ _)
        simp only [Option.toList_some, Option.toList_none, List.cons_append, List.nil_append, List.append_nil, B_180_91]
        exact ⟨Or.inl rfl, q_z⟩
      · have q_z := hG (by
          rw [ok_0]
          refine ⟨?_, by show nsv L_z < 6; omega⟩
          rcases hP with ⟨e1_z, e2_z⟩ | ⟨e1_z, e2_z, -⟩
          · exact e2_z
          · omega) _ (((Fa.refl _ _).wI4 _ _).wI _ _ (by omega)) (StM.push (n_z := n_z) (e_z := false) st_z rfl)
        simp only [Option.toList_some, Option.toList_none, List.cons_append, List.nil_append, List.append_nil, B_180_91]
        exact ⟨Or.inr rfl, q_z⟩
    simp (disch := omega) only [E_M_isAllowed, B_180_0, sm_z.u, hc_z, B_180_84, inI, inL, isT, kInt, kByt, true_and, and_true, an_t, im_t, im_f, or_true, true_or, true_imp_iff, false_imp_iff, not_true_eq_false, not_false_eq_true, gK_uI, gK_uL, gK_uR, gK_uCI, gK_uCL, gN_uI, gN_uL, gN_uR, gN_uCI, gN_uCL, gR_uI, gR_uL, gR_uCI, gR_uCL, gI_uL, gI_uR, gI_uCL, gL_uI, gL_uR, gL_uCI, gz_uI, gz_uL, gz_uR, gz_uCI, gz_uCL, gs_uI, gs_uL, gs_uR, gs_uCI, gs_uCL, rI_at, rL_at, rR_at, rI_ne, rL_ne, rR_ne, rI_nk, rL_nk, rR_nk, rI_eq, rL_eq, rR_eq, Option.toList_some, Option.toList_none, List.cons_append, List.nil_append, List.append_nil, zc_eq, zc_lt, zc_le, zc_ge, zc_gt]
    all_goals exact go_z
  · -- repeat
    subst h_z
    have go_z : Call G J_M_opens [a_r m, a_i 1, a_i 3] T (fun r_z M2_z => At G 180 104 [a_r m, a_u] r_z.toList M2_z Q) := by
      refine X_opens sm_z s1_z (by omega) s2' (fun hb_z => ?_) (fun hp hw => ⟨by omega, ?_⟩)
      · have q_z := hB_z (by
          rw [ok_14]
          intro ⟨z1, z2⟩
          have z1 : p_z = false := z1
          have z2 : nrp L_z < 3 := z2
          rcases hP with ⟨e1_z, e2_z⟩ | ⟨e1_z, e2_z, -⟩
          · omega
          · exact pT e2_z z1) T (Fa.refl _ _)
        simp only [Option.toList_some, Option.toList_none, List.cons_append, List.nil_append, List.append_nil, B_180_104]
        exact ⟨Or.inl rfl, q_z⟩
      · have q_z := hG (by
          rw [ok_14]
          refine ⟨?_, by show nrp L_z < 3; omega⟩
          rcases hP with ⟨e1_z, e2_z⟩ | ⟨e1_z, e2_z, -⟩
          · exact e2_z
          · omega) _ (((Fa.refl _ _).wI4 _ _).wI _ _ (by omega)) (StM.push (n_z := n_z) (e_z := true) st_z rfl)
        simp only [Option.toList_some, Option.toList_none, List.cons_append, List.nil_append, List.append_nil, B_180_104]
        exact ⟨Or.inr rfl, q_z⟩
    simp (disch := omega) only [E_M_isAllowed, B_180_0, sm_z.u, hc_z, B_180_98, inI, inL, isT, kInt, kByt, true_and, and_true, an_t, im_t, im_f, or_true, true_or, true_imp_iff, false_imp_iff, not_true_eq_false, not_false_eq_true, gK_uI, gK_uL, gK_uR, gK_uCI, gK_uCL, gN_uI, gN_uL, gN_uR, gN_uCI, gN_uCL, gR_uI, gR_uL, gR_uCI, gR_uCL, gI_uL, gI_uR, gI_uCL, gL_uI, gL_uR, gL_uCI, gz_uI, gz_uL, gz_uR, gz_uCI, gz_uCL, gs_uI, gs_uL, gs_uR, gs_uCI, gs_uCL, rI_at, rL_at, rR_at, rI_ne, rL_ne, rR_ne, rI_nk, rL_nk, rR_nk, rI_eq, rL_eq, rR_eq, Option.toList_some, Option.toList_none, List.cons_append, List.nil_append, List.append_nil, zc_eq, zc_lt, zc_le, zc_ge, zc_gt]
    all_goals exact go_z
  · -- restore
    subst h_z
    have go_z : Call G J_M_closes [a_r m, a_i 0] T (fun r_z M2_z => At G 180 97 [a_r m, a_u] r_z.toList M2_z Q) := by
      refine X_closes sm_z s1_z (by omega) s2' (fun hb_z => ?_) (fun hp hw hv => ?_)
      · have q_z := hB_z (by
          rw [ok_1]
          intro ⟨z1, z2⟩
          have z1 : p_z = false := z1
          obtain ⟨j_z, L', z3⟩ := hdI_0.mp z2
          have z3 : L_z = (false, j_z) :: L' := z3
          subst z3
          have z4 : gI T (m + 4) (L'.length : Int) = 0 := s4_z.1
          rcases hP with ⟨e1_z, e2_z⟩ | ⟨e1_z, e2_z, -⟩
          · rcases hb_z with hb_z | hb_z | hb_z
            · omega
            · exact absurd hb_z (by show ¬ L'.length + 1 = 0; omega)
            · refine hb_z ?_
              have el : ((L'.length + 1 : Nat) : Int) - 1 = (L'.length : Int) := by omega
              exact (congrArg (gI T (m + 4)) el).trans z4
          · exact pT e2_z z1) _ ((Fa.refl _ _).wI 9 (L_z.length : Int) (by omega))
        simp only [Option.toList_some, Option.toList_none, List.cons_append, List.nil_append, List.append_nil, B_180_97]
        exact ⟨Or.inl rfl, q_z⟩
      · cases L_z with
        | nil => exact absurd hw (by decide)
        | cons a_z L' =>
          obtain ⟨e_z, j_z⟩ := a_z
          have el : (((e_z, j_z) :: L').length : Int) - 1 = (L'.length : Int) := by
            show ((L'.length + 1 : Nat) : Int) - 1 = _
            omega
          rw [el] at hv ⊢
          have z4 : gI T (m + 4) (L'.length : Int) = if e_z then 1 else 0 := s4_z.1
          rw [hv] at z4
          cases e_z with
          | true => exact absurd z4 (by decide)
          | false =>
            have q_z := hG (by
              rw [ok_1]
              refine ⟨?_, rfl⟩
              rcases hP with ⟨e1_z, e2_z⟩ | ⟨e1_z, e2_z, -⟩
              · exact e2_z
              · omega) _ ((Fa.refl _ _).wI 9 (L'.length : Int) (by omega)) (StM.pop st_z)
            simp only [Option.toList_some, Option.toList_none, List.cons_append, List.nil_append, List.append_nil, B_180_97]
            exact ⟨Or.inr rfl, q_z⟩
    simp (disch := omega) only [E_M_isAllowed, B_180_0, sm_z.u, hc_z, B_180_92, inI, inL, isT, kInt, kByt, true_and, and_true, an_t, im_t, im_f, or_true, true_or, true_imp_iff, false_imp_iff, not_true_eq_false, not_false_eq_true, gK_uI, gK_uL, gK_uR, gK_uCI, gK_uCL, gN_uI, gN_uL, gN_uR, gN_uCI, gN_uCL, gR_uI, gR_uL, gR_uCI, gR_uCL, gI_uL, gI_uR, gI_uCL, gL_uI, gL_uR, gL_uCI, gz_uI, gz_uL, gz_uR, gz_uCI, gz_uCL, gs_uI, gs_uL, gs_uR, gs_uCI, gs_uCL, rI_at, rL_at, rR_at, rI_ne, rL_ne, rR_ne, rI_nk, rL_nk, rR_nk, rI_eq, rL_eq, rR_eq, Option.toList_some, Option.toList_none, List.cons_append, List.nil_append, List.append_nil, zc_eq, zc_lt, zc_le, zc_ge, zc_gt]
    all_goals exact go_z
  · -- next
    subst h_z
    have go_z : Call G J_M_closes [a_r m, a_i 1] T (fun r_z M2_z => At G 180 110 [a_r m, a_u] r_z.toList M2_z Q) := by
      refine X_closes sm_z s1_z (by omega) s2' (fun hb_z => ?_) (fun hp hw hv => ?_)
      · have q_z := hB_z (by
          rw [ok_15]
          intro ⟨z1, z2⟩
          have z1 : p_z = false := z1
          obtain ⟨j_z, L', z3⟩ := hdI_1.mp z2
          have z3 : L_z = (true, j_z) :: L' := z3
          subst z3
          have z4 : gI T (m + 4) (L'.length : Int) = 1 := s4_z.1
          rcases hP with ⟨e1_z, e2_z⟩ | ⟨e1_z, e2_z, -⟩
          · rcases hb_z with hb_z | hb_z | hb_z
            · omega
            · exact absurd hb_z (by show ¬ L'.length + 1 = 0; omega)
            · refine hb_z ?_
              have el : ((L'.length + 1 : Nat) : Int) - 1 = (L'.length : Int) := by omega
              exact (congrArg (gI T (m + 4)) el).trans z4
          · exact pT e2_z z1) _ ((Fa.refl _ _).wI 9 (L_z.length : Int) (by omega))
        simp only [Option.toList_some, Option.toList_none, List.cons_append, List.nil_append, List.append_nil, B_180_110]
        exact ⟨Or.inl rfl, q_z⟩
      · cases L_z with
        | nil => exact absurd hw (by decide)
        | cons a_z L' =>
          obtain ⟨e_z, j_z⟩ := a_z
          have el : (((e_z, j_z) :: L').length : Int) - 1 = (L'.length : Int) := by
            show ((L'.length + 1 : Nat) : Int) - 1 = _
            omega
          rw [el] at hv ⊢
          have z4 : gI T (m + 4) (L'.length : Int) = if e_z then 1 else 0 := s4_z.1
          rw [hv] at z4
          cases e_z with
          | false => exact absurd z4 (by decide)
          | true =>
            have q_z := hG (by
              rw [ok_15]
              refine ⟨?_, rfl⟩
              rcases hP with ⟨e1_z, e2_z⟩ | ⟨e1_z, e2_z, -⟩
              · exact e2_z
              · omega) _ ((Fa.refl _ _).wI 9 (L'.length : Int) (by omega)) (StM.pop st_z)
            simp only [Option.toList_some, Option.toList_none, List.cons_append, List.nil_append, List.append_nil, B_180_110]
            exact ⟨Or.inr rfl, q_z⟩
    simp (disch := omega) only [E_M_isAllowed, B_180_0, sm_z.u, hc_z, B_180_105, inI, inL, isT, kInt, kByt, true_and, and_true, an_t, im_t, im_f, or_true, true_or, true_imp_iff, false_imp_iff, not_true_eq_false, not_false_eq_true, gK_uI, gK_uL, gK_uR, gK_uCI, gK_uCL, gN_uI, gN_uL, gN_uR, gN_uCI, gN_uCL, gR_uI, gR_uL, gR_uCI, gR_uCL, gI_uL, gI_uR, gI_uCL, gL_uI, gL_uR, gL_uCI, gz_uI, gz_uL, gz_uR, gz_uCI, gz_uCL, gs_uI, gs_uL, gs_uR, gs_uCI, gs_uCL, rI_at, rL_at, rR_at, rI_ne, rL_ne, rR_ne, rI_nk, rL_nk, rR_nk, rI_eq, rL_eq, rR_eq, Option.toList_some, Option.toList_none, List.cons_append, List.nil_append, List.append_nil, zc_eq, zc_lt, zc_le, zc_ge, zc_gt]
    all_goals exact go_z
  · -- move, rect
    have key_z : ∀ v_z w_z : Int, v_z = mq → w_z = npa c_z pa → Q (some (a_i 1)) (uI (uI (uI T m 12 v_z) m 10 1) m 11 w_z) := by
      intro v_z w_z hv hw
      refine hG (ok_36 h_z) _ ((((Fa.refl _ _).wI 12 _ (by omega)).wI 10 _ (by omega)).wI 11 _ (by omega)) ?_
      rw [stepF_path h_z, nmk_id (by omega)]
      refine ⟨?_, ?_, fun _ => ⟨?_, ?_⟩, ?_⟩
      · rw [rI_nk (by decide), rI_nk (by decide), rI_nk (by decide)]
        exact s1_z
      · rw [rI_nk (by decide), rI_at]
        rfl
      · rw [rI_at]
        exact hw
      · rw [rI_nk (by decide), rI_nk (by decide), rI_at]
        exact hv
      · rw [rI_ne (by omega), rI_ne (by omega), rI_ne (by omega)]
        exact s4_z
    have np : npa c_z pa = if c_z = 3 then 1 else 0 := by
      unfold npa
      by_cases c3_z : c_z = 3
      · rw [if_pos c3_z, if_pos c3_z]
      · rw [if_neg c3_z, if_neg c3_z, if_pos (by omega)]
    rcases hP with ⟨e1_z, e2_z⟩ | ⟨e1_z, e2_z, e3_z, e4_z⟩
    · have mk0 := pm e2_z
      rcases h_z with h_z | h_z
      · have go_z := key_z 0 1 mk0.symm (by rw [np, if_pos h_z])
        subst h_z
        simp (disch := omega) only [E_M_isAllowed, B_180_0, sm_z.u, hc_z, B_180_111, s2', e1_z, B_180_130, B_180_131, B_180_139, not_true_eq_false, B_180_153, inI, inL, isT, kInt, kByt, true_and, and_true, an_t, im_t, im_f, or_true, true_or, true_imp_iff, false_imp_iff, not_true_eq_false, not_false_eq_true, gK_uI, gK_uL, gK_uR, gK_uCI, gK_uCL, gN_uI, gN_uL, gN_uR, gN_uCI, gN_uCL, gR_uI, gR_uL, gR_uCI, gR_uCL, gI_uL, gI_uR, gI_uCL, gL_uI, gL_uR, gL_uCI, gz_uI, gz_uL, gz_uR, gz_uCI, gz_uCL, gs_uI, gs_uL, gs_uR, gs_uCI, gs_uCL, rI_at, rL_at, rR_at, rI_ne, rL_ne, rR_ne, rI_nk, rL_nk, rR_nk, rI_eq, rL_eq, rR_eq, Option.toList_some, Option.toList_none, List.cons_append, List.nil_append, List.append_nil, zc_eq, zc_lt, zc_le, zc_ge, zc_gt]
        all_goals exact go_z
      · have go_z := key_z 0 0 mk0.symm (by rw [np, if_neg (by omega)])
        subst h_z
        simp (disch := omega) only [E_M_isAllowed, B_180_0, sm_z.u, hc_z, B_180_111, s2', e1_z, B_180_130, B_180_131, B_180_139, B_180_152, B_180_153, inI, inL, isT, kInt, kByt, true_and, and_true, an_t, im_t, im_f, or_true, true_or, true_imp_iff, false_imp_iff, not_true_eq_false, not_false_eq_true, gK_uI, gK_uL, gK_uR, gK_uCI, gK_uCL, gN_uI, gN_uL, gN_uR, gN_uCI, gN_uCL, gR_uI, gR_uL, gR_uCI, gR_uCL, gI_uL, gI_uR, gI_uCL, gL_uI, gL_uR, gL_uCI, gz_uI, gz_uL, gz_uR, gz_uCI, gz_uCL, gs_uI, gs_uL, gs_uR, gs_uCI, gs_uCL, rI_at, rL_at, rR_at, rI_ne, rL_ne, rR_ne, rI_nk, rL_nk, rR_nk, rI_eq, rL_eq, rR_eq, Option.toList_some, Option.toList_none, List.cons_append, List.nil_append, List.append_nil, zc_eq, zc_lt, zc_le, zc_ge, zc_gt]
        all_goals exact go_z
    · rcases mb with mb | mb
      · rcases h_z with h_z | h_z
        · have go_z := key_z 0 1 mb.symm (by rw [np, if_pos h_z])
          subst h_z
          rw [mb] at e4_z
          simp (disch := omega) only [E_M_isAllowed, B_180_0, sm_z.u, hc_z, B_180_111, s2', e1_z, e4_z, B_180_130, B_180_131, B_180_139, not_true_eq_false, B_180_153, inI, inL, isT, kInt, kByt, true_and, and_true, an_t, im_t, im_f, or_true, true_or, true_imp_iff, false_imp_iff, not_true_eq_false, not_false_eq_true, gK_uI, gK_uL, gK_uR, gK_uCI, gK_uCL, gN_uI, gN_uL, gN_uR, gN_uCI, gN_uCL, gR_uI, gR_uL, gR_uCI, gR_uCL, gI_uL, gI_uR, gI_uCL, gL_uI, gL_uR, gL_uCI, gz_uI, gz_uL, gz_uR, gz_uCI, gz_uCL, gs_uI, gs_uL, gs_uR, gs_uCI, gs_uCL, rI_at, rL_at, rR_at, rI_ne, rL_ne, rR_ne, rI_nk, rL_nk, rR_nk, rI_eq, rL_eq, rR_eq, Option.toList_some, Option.toList_none, List.cons_append, List.nil_append, List.append_nil, zc_eq, zc_lt, zc_le, zc_ge, zc_gt]
          all_goals exact go_z
        · have go_z := key_z 0 0 mb.symm (by rw [np, if_neg (by omega)])
          subst h_z
          rw [mb] at e4_z
          simp (disch := omega) only [E_M_isAllowed, B_180_0, sm_z.u, hc_z, B_180_111, s2', e1_z, e4_z, B_180_130, B_180_131, B_180_139, B_180_152, B_180_153, inI, inL, isT, kInt, kByt, true_and, and_true, an_t, im_t, im_f, or_true, true_or, true_imp_iff, false_imp_iff, not_true_eq_false, not_false_eq_true, gK_uI, gK_uL, gK_uR, gK_uCI, gK_uCL, gN_uI, gN_uL, gN_uR, gN_uCI, gN_uCL, gR_uI, gR_uL, gR_uCI, gR_uCL, gI_uL, gI_uR, gI_uCL, gL_uI, gL_uR, gL_uCI, gz_uI, gz_uL, gz_uR, gz_uCI, gz_uCL, gs_uI, gs_uL, gs_uR, gs_uCI, gs_uCL, rI_at, rL_at, rR_at, rI_ne, rL_ne, rR_ne, rI_nk, rL_nk, rR_nk, rI_eq, rL_eq, rR_eq, Option.toList_some, Option.toList_none, List.cons_append, List.nil_append, List.append_nil, zc_eq, zc_lt, zc_le, zc_ge, zc_gt]
          all_goals exact go_z
      · rcases h_z with h_z | h_z
        · have go_z := key_z 1 1 mb.symm (by rw [np, if_pos h_z])
          subst h_z
          rw [mb] at e4_z
          simp (disch := omega) only [E_M_isAllowed, B_180_0, sm_z.u, hc_z, B_180_111, s2', e1_z, e4_z, B_180_131, B_180_139, not_true_eq_false, B_180_153, inI, inL, isT, kInt, kByt, true_and, and_true, an_t, im_t, im_f, or_true, true_or, true_imp_iff, false_imp_iff, not_true_eq_false, not_false_eq_true, gK_uI, gK_uL, gK_uR, gK_uCI, gK_uCL, gN_uI, gN_uL, gN_uR, gN_uCI, gN_uCL, gR_uI, gR_uL, gR_uCI, gR_uCL, gI_uL, gI_uR, gI_uCL, gL_uI, gL_uR, gL_uCI, gz_uI, gz_uL, gz_uR, gz_uCI, gz_uCL, gs_uI, gs_uL, gs_uR, gs_uCI, gs_uCL, rI_at, rL_at, rR_at, rI_ne, rL_ne, rR_ne, rI_nk, rL_nk, rR_nk, rI_eq, rL_eq, rR_eq, Option.toList_some, Option.toList_none, List.cons_append, List.nil_append, List.append_nil, zc_eq, zc_lt, zc_le, zc_ge, zc_gt]
          all_goals exact go_z
        · have go_z := key_z 1 0 mb.symm (by rw [np, if_neg (by omega)])
          subst h_z
          rw [mb] at e4_z
          simp (disch := omega) only [E_M_isAllowed, B_180_0, sm_z.u, hc_z, B_180_111, s2', e1_z, e4_z, B_180_131, B_180_139, B_180_152, B_180_153, inI, inL, isT, kInt, kByt, true_and, and_true, an_t, im_t, im_f, or_true, true_or, true_imp_iff, false_imp_iff, not_true_eq_false, not_false_eq_true, gK_uI, gK_uL, gK_uR, gK_uCI, gK_uCL, gN_uI, gN_uL, gN_uR, gN_uCI, gN_uCL, gR_uI, gR_uL, gR_uCI, gR_uCL, gI_uL, gI_uR, gI_uCL, gL_uI, gL_uR, gL_uCI, gz_uI, gz_uL, gz_uR, gz_uCI, gz_uCL, gs_uI, gs_uL, gs_uR, gs_uCI, gs_uCL, rI_at, rL_at, rR_at, rI_ne, rL_ne, rR_ne, rI_nk, rL_nk, rR_nk, rI_eq, rL_eq, rR_eq, Option.toList_some, Option.toList_none, List.cons_append, List.nil_append, List.append_nil, zc_eq, zc_lt, zc_le, zc_ge, zc_gt]
          all_goals exact go_z
  · -- line
    have bad_z : ¬ (p_z = true ∧ pa = 1) → Q (some (a_i 0)) T := fun q_z => hB_z (by rw [ok_45 (Or.inl h_z)]; exact q_z) T (Fa.refl _ _)
    rcases hP with ⟨e1_z, e2_z⟩ | ⟨e1_z, e2_z, e3_z, e4_z⟩
    · have go_z := bad_z (fun q_z => pT q_z.1 e2_z)
      subst h_z
      simp (disch := omega) only [E_M_isAllowed, B_180_0, sm_z.u, hc_z, B_180_158, s2', e1_z, B_180_176, B_180_177, inI, inL, isT, kInt, kByt, true_and, and_true, an_t, im_t, im_f, or_true, true_or, true_imp_iff, false_imp_iff, not_true_eq_false, not_false_eq_true, gK_uI, gK_uL, gK_uR, gK_uCI, gK_uCL, gN_uI, gN_uL, gN_uR, gN_uCI, gN_uCL, gR_uI, gR_uL, gR_uCI, gR_uCL, gI_uL, gI_uR, gI_uCL, gL_uI, gL_uR, gL_uCI, gz_uI, gz_uL, gz_uR, gz_uCI, gz_uCL, gs_uI, gs_uL, gs_uR, gs_uCI, gs_uCL, rI_at, rL_at, rR_at, rI_ne, rL_ne, rR_ne, rI_nk, rL_nk, rR_nk, rI_eq, rL_eq, rR_eq, Option.toList_some, Option.toList_none, List.cons_append, List.nil_append, List.append_nil, zc_eq, zc_lt, zc_le, zc_ge, zc_gt]
      all_goals exact go_z
    · rcases pb with pb | pb
      · have go_z := bad_z (fun q_z => by omega)
        subst h_z
        rw [pb] at e3_z
        simp (disch := omega) only [E_M_isAllowed, B_180_0, sm_z.u, hc_z, B_180_158, s2', e1_z, e3_z, B_180_176, B_180_177, inI, inL, isT, kInt, kByt, true_and, and_true, an_t, im_t, im_f, or_true, true_or, true_imp_iff, false_imp_iff, not_true_eq_false, not_false_eq_true, gK_uI, gK_uL, gK_uR, gK_uCI, gK_uCL, gN_uI, gN_uL, gN_uR, gN_uCI, gN_uCL, gR_uI, gR_uL, gR_uCI, gR_uCL, gI_uL, gI_uR, gI_uCL, gL_uI, gL_uR, gL_uCI, gz_uI, gz_uL, gz_uR, gz_uCI, gz_uCL, gs_uI, gs_uL, gs_uR, gs_uCI, gs_uCL, rI_at, rL_at, rR_at, rI_ne, rL_ne, rR_ne, rI_nk, rL_nk, rR_nk, rI_eq, rL_eq, rR_eq, Option.toList_some, Option.toList_none, List.cons_append, List.nil_append, List.append_nil, zc_eq, zc_lt, zc_le, zc_ge, zc_gt]
        all_goals exact go_z
      · have go_z := hG (by rw [ok_45 (Or.inl h_z)]; exact ⟨e2_z, pb⟩) T (Fa.refl _ _) (same_z (stepF_same (by omega)) (npa_id (by omega)) (nmk_id (by omega)))
        subst h_z
        rw [pb] at e3_z
        simp (disch := omega) only [E_M_isAllowed, B_180_0, sm_z.u, hc_z, B_180_158, s2', e1_z, e3_z, B_180_177, inI, inL, isT, kInt, kByt, true_and, and_true, an_t, im_t, im_f, or_true, true_or, true_imp_iff, false_imp_iff, not_true_eq_false, not_false_eq_true, gK_uI, gK_uL, gK_uR, gK_uCI, gK_uCL, gN_uI, gN_uL, gN_uR, gN_uCI, gN_uCL, gR_uI, gR_uL, gR_uCI, gR_uCL, gI_uL, gI_uR, gI_uCL, gL_uI, gL_uR, gL_uCI, gz_uI, gz_uL, gz_uR, gz_uCI, gz_uCL, gs_uI, gs_uL, gs_uR, gs_uCI, gs_uCL, rI_at, rL_at, rR_at, rI_ne, rL_ne, rR_ne, rI_nk, rL_nk, rR_nk, rI_eq, rL_eq, rR_eq, Option.toList_some, Option.toList_none, List.cons_append, List.nil_append, List.append_nil, zc_eq, zc_lt, zc_le, zc_ge, zc_gt]
        all_goals exact go_z
  · -- close
    have bad_z : ¬ (p_z = true ∧ pa = 1) → Q (some (a_i 0)) (uI T m 11 0) := fun q_z => hB_z (by rw [ok_45 (Or.inr h_z)]; exact q_z) _ ((Fa.refl _ _).wI 11 _ (by omega))
    rcases hP with ⟨e1_z, e2_z⟩ | ⟨e1_z, e2_z, e3_z, e4_z⟩
    · have go_z := bad_z (fun q_z => pT q_z.1 e2_z)
      subst h_z
      simp (disch := omega) only [E_M_isAllowed, B_180_0, sm_z.u, hc_z, B_180_178, s2', e1_z, B_180_196, B_180_197, inI, inL, isT, kInt, kByt, true_and, and_true, an_t, im_t, im_f, or_true, true_or, true_imp_iff, false_imp_iff, not_true_eq_false, not_false_eq_true, gK_uI, gK_uL, gK_uR, gK_uCI, gK_uCL, gN_uI, gN_uL, gN_uR, gN_uCI, gN_uCL, gR_uI, gR_uL, gR_uCI, gR_uCL, gI_uL, gI_uR, gI_uCL, gL_uI, gL_uR, gL_uCI, gz_uI, gz_uL, gz_uR, gz_uCI, gz_uCL, gs_uI, gs_uL, gs_uR, gs_uCI, gs_uCL, rI_at, rL_at, rR_at, rI_ne, rL_ne, rR_ne, rI_nk, rL_nk, rR_nk, rI_eq, rL_eq, rR_eq, Option.toList_some, Option.toList_none, List.cons_append, List.nil_append, List.append_nil, zc_eq, zc_lt, zc_le, zc_ge, zc_gt]
      all_goals exact go_z
    · rcases pb with pb | pb
      · have go_z := bad_z (fun q_z => by omega)
        subst h_z
        rw [pb] at e3_z
        simp (disch := omega) only [E_M_isAllowed, B_180_0, sm_z.u, hc_z, B_180_178, s2', e1_z, e3_z, B_180_196, B_180_197, inI, inL, isT, kInt, kByt, true_and, and_true, an_t, im_t, im_f, or_true, true_or, true_imp_iff, false_imp_iff, not_true_eq_false, not_false_eq_true, gK_uI, gK_uL, gK_uR, gK_uCI, gK_uCL, gN_uI, gN_uL, gN_uR, gN_uCI, gN_uCL, gR_uI, gR_uL, gR_uCI, gR_uCL, gI_uL, gI_uR, gI_uCL, gL_uI, gL_uR, gL_uCI, gz_uI, gz_uL, gz_uR, gz_uCI, gz_uCL, gs_uI, gs_uL, gs_uR, gs_uCI, gs_uCL, rI_at, rL_at, rR_at, rI_ne, rL_ne, rR_ne, rI_nk, rL_nk, rR_nk, rI_eq, rL_eq, rR_eq, Option.toList_some, Option.toList_none, List.cons_append, List.nil_append, List.append_nil, zc_eq, zc_lt, zc_le, zc_ge, zc_gt]
        all_goals exact go_z
      · have go_z := hG (by rw [ok_45 (Or.inr h_z)]; exact ⟨e2_z, pb⟩) (uI T m 11 0) ((Fa.refl _ _).wI 11 _ (by omega)) (by
          rw [stepF_same (by omega), nmk_id (by omega)]
          refine ⟨by rw [rI_nk (by decide)]; exact s1_z, by rw [rI_nk (by decide)]; exact s2_z, fun q_z => ⟨?_, by rw [rI_nk (by decide)]; exact e4_z⟩, by rw [rI_ne (by omega)]; exact s4_z⟩
          rw [rI_at]
          unfold npa
          rw [if_neg (by omega), if_pos (by omega)])
        subst h_z
        rw [pb] at e3_z
        simp (disch := omega) only [E_M_isAllowed, B_180_0, sm_z.u, hc_z, B_180_178, s2', e1_z, e3_z, B_180_197, inI, inL, isT, kInt, kByt, true_and, and_true, an_t, im_t, im_f, or_true, true_or, true_imp_iff, false_imp_iff, not_true_eq_false, not_false_eq_true, gK_uI, gK_uL, gK_uR, gK_uCI, gK_uCL, gN_uI, gN_uL, gN_uR, gN_uCI, gN_uCL, gR_uI, gR_uL, gR_uCI, gR_uCL, gI_uL, gI_uR, gI_uCL, gL_uI, gL_uR, gL_uCI, gz_uI, gz_uL, gz_uR, gz_uCI, gz_uCL, gs_uI, gs_uL, gs_uR, gs_uCI, gs_uCL, rI_at, rL_at, rR_at, rI_ne, rL_ne, rR_ne, rI_nk, rL_nk, rR_nk, rI_eq, rL_eq, rR_eq, Option.toList_some, Option.toList_none, List.cons_append, List.nil_append, List.append_nil, zc_eq, zc_lt, zc_le, zc_ge, zc_gt]
        all_goals exact go_z
  · -- clip, xclip
    have bad_z : ¬ (p_z = true ∧ mq = 0) → ∀ v_z : Int, Q (some (a_i 0)) (uI T m 12 v_z) := fun q_z v_z => hB_z (by rw [ok_78 h_z]; exact q_z) _ ((Fa.refl _ _).wI 12 _ (by omega))
    have good_z : p_z = true → mq = 0 → Q (some (a_i 1)) (uI T m 12 1) := fun q1_z q2_z => hG (by rw [ok_78 h_z]; exact ⟨q1_z, q2_z⟩) (uI T m 12 1) ((Fa.refl _ _).wI 12 _ (by omega)) (by
      rw [stepF_same (by omega), npa_id (by omega)]
      refine ⟨by rw [rI_nk (by decide)]; exact s1_z, by rw [rI_nk (by decide)]; exact s2_z, fun q_z => ⟨by rw [rI_nk (by decide)]; exact (s3_z q_z).1, ?_⟩, by rw [rI_ne (by omega)]; exact s4_z⟩
      rw [rI_at]
      unfold nmk
      rw [if_pos h_z])
    have at205 : At G 180 205 [a_r m, a_u] [] T Q := by
      rcases hP with ⟨e1_z, e2_z⟩ | ⟨e1_z, e2_z, e3_z, e4_z⟩
      · have g0 := bad_z (fun q_z => pT q_z.1 e2_z)
        by_cases c12_z : gI T m 12 = 0
        · have go_z := g0 0
          simp (disch := omega) only [B_180_205, sm_z.u, E_M_marks, B_184_0, B_184_18, B_184_19, B_184_32, B_184_36, B_184_37, s2', e1_z, c12_z, not_true_eq_false, B_180_209, inI, inL, isT, kInt, kByt, true_and, and_true, an_t, im_t, im_f, or_true, true_or, true_imp_iff, false_imp_iff, not_true_eq_false, not_false_eq_true, gK_uI, gK_uL, gK_uR, gK_uCI, gK_uCL, gN_uI, gN_uL, gN_uR, gN_uCI, gN_uCL, gR_uI, gR_uL, gR_uCI, gR_uCL, gI_uL, gI_uR, gI_uCL, gL_uI, gL_uR, gL_uCI, gz_uI, gz_uL, gz_uR, gz_uCI, gz_uCL, gs_uI, gs_uL, gs_uR, gs_uCI, gs_uCL, rI_at, rL_at, rR_at, rI_ne, rL_ne, rR_ne, rI_nk, rL_nk, rR_nk, rI_eq, rL_eq, rR_eq, Option.toList_some, Option.toList_none, List.cons_append, List.nil_append, List.append_nil, zc_eq, zc_lt, zc_le, zc_ge, zc_gt]
          all_goals exact go_z
        · have go_z := g0 1
          simp (disch := omega) only [B_180_205, sm_z.u, E_M_marks, B_184_0, B_184_18, B_184_19, B_184_32, B_184_36, B_184_37, s2', e1_z, c12_z, not_false_eq_true, B_180_209, inI, inL, isT, kInt, kByt, true_and, and_true, an_t, im_t, im_f, or_true, true_or, true_imp_iff, false_imp_iff, not_true_eq_false, not_false_eq_true, gK_uI, gK_uL, gK_uR, gK_uCI, gK_uCL, gN_uI, gN_uL, gN_uR, gN_uCI, gN_uCL, gR_uI, gR_uL, gR_uCI, gR_uCL, gI_uL, gI_uR, gI_uCL, gL_uI, gL_uR, gL_uCI, gz_uI, gz_uL, gz_uR, gz_uCI, gz_uCL, gs_uI, gs_uL, gs_uR, gs_uCI, gs_uCL, rI_at, rL_at, rR_at, rI_ne, rL_ne, rR_ne, rI_nk, rL_nk, rR_nk, rI_eq, rL_eq, rR_eq, Option.toList_some, Option.toList_none, List.cons_append, List.nil_append, List.append_nil, zc_eq, zc_lt, zc_le, zc_ge, zc_gt]
          all_goals exact go_z
      · rcases mb with mb | mb
        · have go_z := good_z e2_z mb
          rw [mb] at e4_z
          simp (disch := omega) only [B_180_205, sm_z.u, E_M_marks, B_184_0, B_184_18, B_184_19, B_184_32, B_184_36, B_184_37, s2', e1_z, e4_z, not_true_eq_false, B_180_209, inI, inL, isT, kInt, kByt, true_and, and_true, an_t, im_t, im_f, or_true, true_or, true_imp_iff, false_imp_iff, not_true_eq_false, not_false_eq_true, gK_uI, gK_uL, gK_uR, gK_uCI, gK_uCL, gN_uI, gN_uL, gN_uR, gN_uCI, gN_uCL, gR_uI, gR_uL, gR_uCI, gR_uCL, gI_uL, gI_uR, gI_uCL, gL_uI, gL_uR, gL_uCI, gz_uI, gz_uL, gz_uR, gz_uCI, gz_uCL, gs_uI, gs_uL, gs_uR, gs_uCI, gs_uCL, rI_at, rL_at, rR_at, rI_ne, rL_ne, rR_ne, rI_nk, rL_nk, rR_nk, rI_eq, rL_eq, rR_eq, Option.toList_some, Option.toList_none, List.cons_append, List.nil_append, List.append_nil, zc_eq, zc_lt, zc_le, zc_ge, zc_gt]
          all_goals exact go_z
        · have go_z := bad_z (fun q_z => by omega) 1
          rw [mb] at e4_z
          simp (disch := omega) only [B_180_205, sm_z.u, E_M_marks, B_184_0, B_184_18, B_184_19, B_184_32, B_184_36, B_184_37, s2', e1_z, e4_z, B_180_209, inI, inL, isT, kInt, kByt, true_and, and_true, an_t, im_t, im_f, or_true, true_or, true_imp_iff, false_imp_iff, not_true_eq_false, not_false_eq_true, gK_uI, gK_uL, gK_uR, gK_uCI, gK_uCL, gN_uI, gN_uL, gN_uR, gN_uCI, gN_uCL, gR_uI, gR_uL, gR_uCI, gR_uCL, gI_uL, gI_uR, gI_uCL, gL_uI, gL_uR, gL_uCI, gz_uI, gz_uL, gz_uR, gz_uCI, gz_uCL, gs_uI, gs_uL, gs_uR, gs_uCI, gs_uCL, rI_at, rL_at, rR_at, rI_ne, rL_ne, rR_ne, rI_nk, rL_nk, rR_nk, rI_eq, rL_eq, rR_eq, Option.toList_some, Option.toList_none, List.cons_append, List.nil_append, List.append_nil, zc_eq, zc_lt, zc_le, zc_ge, zc_gt]
          all_goals exact go_z
    rcases h_z with h_z | h_z
    · subst h_z
      simp (disch := omega) only [E_M_isAllowed, B_180_0, sm_z.u, hc_z, inI, inL, isT, kInt, kByt, true_and, and_true, an_t, im_t, im_f, or_true, true_or, true_imp_iff, false_imp_iff, not_true_eq_false, not_false_eq_true, gK_uI, gK_uL, gK_uR, gK_uCI, gK_uCL, gN_uI, gN_uL, gN_uR, gN_uCI, gN_uCL, gR_uI, gR_uL, gR_uCI, gR_uCL, gI_uL, gI_uR, gI_uCL, gL_uI, gL_uR, gL_uCI, gz_uI, gz_uL, gz_uR, gz_uCI, gz_uCL, gs_uI, gs_uL, gs_uR, gs_uCI, gs_uCL, rI_at, rL_at, rR_at, rI_ne, rL_ne, rR_ne, rI_nk, rL_nk, rR_nk, rI_eq, rL_eq, rR_eq, Option.toList_some, Option.toList_none, List.cons_append, List.nil_append, List.append_nil, zc_eq, zc_lt, zc_le, zc_ge, zc_gt]
      all_goals exact at205
    · subst h_z
      simp (disch := omega) only [E_M_isAllowed, B_180_0, sm_z.u, hc_z, inI, inL, isT, kInt, kByt, true_and, and_true, an_t, im_t, im_f, or_true, true_or, true_imp_iff, false_imp_iff, not_true_eq_false, not_false_eq_true, gK_uI, gK_uL, gK_uR, gK_uCI, gK_uCL, gN_uI, gN_uL, gN_uR, gN_uCI, gN_uCL, gR_uI, gR_uL, gR_uCI, gR_uCL, gI_uL, gI_uR, gI_uCL, gL_uI, gL_uR, gL_uCI, gz_uI, gz_uL, gz_uR, gz_uCI, gz_uCL, gs_uI, gs_uL, gs_uR, gs_uCI, gs_uCL, rI_at, rL_at, rR_at, rI_ne, rL_ne, rR_ne, rI_nk, rL_nk, rR_nk, rI_eq, rL_eq, rR_eq, Option.toList_some, Option.toList_none, List.cons_append, List.nil_append, List.append_nil, zc_eq, zc_lt, zc_le, zc_ge, zc_gt]
      all_goals exact at205
  · -- fill, xfill, drop
    have at210 : At G 180 210 [a_r m, a_u] [] T Q := by
      rcases hP with ⟨e1_z, e2_z⟩ | ⟨e1_z, e2_z, e3_z, e4_z⟩
      · have go_z := hB_z (by rw [ok_9 h_z]; exact fun q_z => pT q_z e2_z) (uI T m 10 0) ((Fa.refl _ _).wI 10 _ (by omega))
        simp (disch := omega) only [B_180_210, sm_z.u, s2', e1_z, inI, inL, isT, kInt, kByt, true_and, and_true, an_t, im_t, im_f, or_true, true_or, true_imp_iff, false_imp_iff, not_true_eq_false, not_false_eq_true, gK_uI, gK_uL, gK_uR, gK_uCI, gK_uCL, gN_uI, gN_uL, gN_uR, gN_uCI, gN_uCL, gR_uI, gR_uL, gR_uCI, gR_uCL, gI_uL, gI_uR, gI_uCL, gL_uI, gL_uR, gL_uCI, gz_uI, gz_uL, gz_uR, gz_uCI, gz_uCL, gs_uI, gs_uL, gs_uR, gs_uCI, gs_uCL, rI_at, rL_at, rR_at, rI_ne, rL_ne, rR_ne, rI_nk, rL_nk, rR_nk, rI_eq, rL_eq, rR_eq, Option.toList_some, Option.toList_none, List.cons_append, List.nil_append, List.append_nil, zc_eq, zc_lt, zc_le, zc_ge, zc_gt]
        all_goals exact go_z
      · have go_z := hG (by rw [ok_9 h_z]; exact e2_z) (uI T m 10 0) ((Fa.refl _ _).wI 10 _ (by omega)) (by
          rw [stepF_end h_z]
          exact ⟨by rw [rI_nk (by decide)]; exact s1_z, by rw [rI_at]; rfl, fun q_z => absurd (show false = true from q_z) (by decide), by rw [rI_ne (by omega)]; exact s4_z⟩)
        simp (disch := omega) only [B_180_210, sm_z.u, s2', e1_z, inI, inL, isT, kInt, kByt, true_and, and_true, an_t, im_t, im_f, or_true, true_or, true_imp_iff, false_imp_iff, not_true_eq_false, not_false_eq_true, gK_uI, gK_uL, gK_uR, gK_uCI, gK_uCL, gN_uI, gN_uL, gN_uR, gN_uCI, gN_uCL, gR_uI, gR_uL, gR_uCI, gR_uCL, gI_uL, gI_uR, gI_uCL, gL_uI, gL_uR, gL_uCI, gz_uI, gz_uL, gz_uR, gz_uCI, gz_uCL, gs_uI, gs_uL, gs_uR, gs_uCI, gs_uCL, rI_at, rL_at, rR_at, rI_ne, rL_ne, rR_ne, rI_nk, rL_nk, rR_nk, rI_eq, rL_eq, rR_eq, Option.toList_some, Option.toList_none, List.cons_append, List.nil_append, List.append_nil, zc_eq, zc_lt, zc_le, zc_ge, zc_gt]
        all_goals exact go_z
    rcases h_z with h_z | h_z | h_z
    · subst h_z
      simp (disch := omega) only [E_M_isAllowed, B_180_0, sm_z.u, hc_z, inI, inL, isT, kInt, kByt, true_and, and_true, an_t, im_t, im_f, or_true, true_or, true_imp_iff, false_imp_iff, not_true_eq_false, not_false_eq_true, gK_uI, gK_uL, gK_uR, gK_uCI, gK_uCL, gN_uI, gN_uL, gN_uR, gN_uCI, gN_uCL, gR_uI, gR_uL, gR_uCI, gR_uCL, gI_uL, gI_uR, gI_uCL, gL_uI, gL_uR, gL_uCI, gz_uI, gz_uL, gz_uR, gz_uCI, gz_uCL, gs_uI, gs_uL, gs_uR, gs_uCI, gs_uCL, rI_at, rL_at, rR_at, rI_ne, rL_ne, rR_ne, rI_nk, rL_nk, rR_nk, rI_eq, rL_eq, rR_eq, Option.toList_some, Option.toList_none, List.cons_append, List.nil_append, List.append_nil, zc_eq, zc_lt, zc_le, zc_ge, zc_gt]
      all_goals exact at210
    · subst h_z
      simp (disch := omega) only [E_M_isAllowed, B_180_0, sm_z.u, hc_z, inI, inL, isT, kInt, kByt, true_and, and_true, an_t, im_t, im_f, or_true, true_or, true_imp_iff, false_imp_iff, not_true_eq_false, not_false_eq_true, gK_uI, gK_uL, gK_uR, gK_uCI, gK_uCL, gN_uI, gN_uL, gN_uR, gN_uCI, gN_uCL, gR_uI, gR_uL, gR_uCI, gR_uCL, gI_uL, gI_uR, gI_uCL, gL_uI, gL_uR, gL_uCI, gz_uI, gz_uL, gz_uR, gz_uCI, gz_uCL, gs_uI, gs_uL, gs_uR, gs_uCI, gs_uCL, rI_at, rL_at, rR_at, rI_ne, rL_ne, rR_ne, rI_nk, rL_nk, rR_nk, rI_eq, rL_eq, rR_eq, Option.toList_some, Option.toList_none, List.cons_append, List.nil_append, List.append_nil, zc_eq, zc_lt, zc_le, zc_ge, zc_gt]
      all_goals exact at210
    · subst h_z
      simp (disch := omega) only [E_M_isAllowed, B_180_0, sm_z.u, hc_z, inI, inL, isT, kInt, kByt, true_and, and_true, an_t, im_t, im_f, or_true, true_or, true_imp_iff, false_imp_iff, not_true_eq_false, not_false_eq_true, gK_uI, gK_uL, gK_uR, gK_uCI, gK_uCL, gN_uI, gN_uL, gN_uR, gN_uCI, gN_uCL, gR_uI, gR_uL, gR_uCI, gR_uCL, gI_uL, gI_uR, gI_uCL, gL_uI, gL_uR, gL_uCI, gz_uI, gz_uL, gz_uR, gz_uCI, gz_uCL, gs_uI, gs_uL, gs_uR, gs_uCI, gs_uCL, rI_at, rL_at, rR_at, rI_ne, rL_ne, rR_ne, rI_nk, rL_nk, rR_nk, rI_eq, rL_eq, rR_eq, Option.toList_some, Option.toList_none, List.cons_append, List.nil_append, List.append_nil, zc_eq, zc_lt, zc_le, zc_ge, zc_gt]
      all_goals exact at210
  · -- concat, color, draw
    have at222 : At G 180 222 [a_r m, a_u] [] T Q := by
      rcases hP with ⟨e1_z, e2_z⟩ | ⟨e1_z, e2_z, e3_z, e4_z⟩
      · have go_z := hG (by rw [ok_2 h_z]; exact e2_z) T (Fa.refl _ _) (same_z (stepF_same (by omega)) (npa_id (by omega)) (nmk_id (by omega)))
        simp (disch := omega) only [B_180_222, sm_z.u, s2', e1_z, not_true_eq_false, B_180_234, inI, inL, isT, kInt, kByt, true_and, and_true, an_t, im_t, im_f, or_true, true_or, true_imp_iff, false_imp_iff, not_true_eq_false, not_false_eq_true, gK_uI, gK_uL, gK_uR, gK_uCI, gK_uCL, gN_uI, gN_uL, gN_uR, gN_uCI, gN_uCL, gR_uI, gR_uL, gR_uCI, gR_uCL, gI_uL, gI_uR, gI_uCL, gL_uI, gL_uR, gL_uCI, gz_uI, gz_uL, gz_uR, gz_uCI, gz_uCL, gs_uI, gs_uL, gs_uR, gs_uCI, gs_uCL, rI_at, rL_at, rR_at, rI_ne, rL_ne, rR_ne, rI_nk, rL_nk, rR_nk, rI_eq, rL_eq, rR_eq, Option.toList_some, Option.toList_none, List.cons_append, List.nil_append, List.append_nil, zc_eq, zc_lt, zc_le, zc_ge, zc_gt]
        all_goals exact go_z
      · have go_z := hB_z (by rw [ok_2 h_z]; exact pT e2_z) T (Fa.refl _ _)
        simp (disch := omega) only [B_180_222, sm_z.u, s2', e1_z, B_180_233, B_180_234, inI, inL, isT, kInt, kByt, true_and, and_true, an_t, im_t, im_f, or_true, true_or, true_imp_iff, false_imp_iff, not_true_eq_false, not_false_eq_true, gK_uI, gK_uL, gK_uR, gK_uCI, gK_uCL, gN_uI, gN_uL, gN_uR, gN_uCI, gN_uCL, gR_uI, gR_uL, gR_uCI, gR_uCL, gI_uL, gI_uR, gI_uCL, gL_uI, gL_uR, gL_uCI, gz_uI, gz_uL, gz_uR, gz_uCI, gz_uCL, gs_uI, gs_uL, gs_uR, gs_uCI, gs_uCL, rI_at, rL_at, rR_at, rI_ne, rL_ne, rR_ne, rI_nk, rL_nk, rR_nk, rI_eq, rL_eq, rR_eq, Option.toList_some, Option.toList_none, List.cons_append, List.nil_append, List.append_nil, zc_eq, zc_lt, zc_le, zc_ge, zc_gt]
        all_goals exact go_z
    rcases h_z with h_z | h_z | h_z
    · subst h_z
      simp (disch := omega) only [E_M_isAllowed, B_180_0, sm_z.u, hc_z, inI, inL, isT, kInt, kByt, true_and, and_true, an_t, im_t, im_f, or_true, true_or, true_imp_iff, false_imp_iff, not_true_eq_false, not_false_eq_true, gK_uI, gK_uL, gK_uR, gK_uCI, gK_uCL, gN_uI, gN_uL, gN_uR, gN_uCI, gN_uCL, gR_uI, gR_uL, gR_uCI, gR_uCL, gI_uL, gI_uR, gI_uCL, gL_uI, gL_uR, gL_uCI, gz_uI, gz_uL, gz_uR, gz_uCI, gz_uCL, gs_uI, gs_uL, gs_uR, gs_uCI, gs_uCL, rI_at, rL_at, rR_at, rI_ne, rL_ne, rR_ne, rI_nk, rL_nk, rR_nk, rI_eq, rL_eq, rR_eq, Option.toList_some, Option.toList_none, List.cons_append, List.nil_append, List.append_nil, zc_eq, zc_lt, zc_le, zc_ge, zc_gt]
      all_goals exact at222
    · subst h_z
      simp (disch := omega) only [E_M_isAllowed, B_180_0, sm_z.u, hc_z, inI, inL, isT, kInt, kByt, true_and, and_true, an_t, im_t, im_f, or_true, true_or, true_imp_iff, false_imp_iff, not_true_eq_false, not_false_eq_true, gK_uI, gK_uL, gK_uR, gK_uCI, gK_uCL, gN_uI, gN_uL, gN_uR, gN_uCI, gN_uCL, gR_uI, gR_uL, gR_uCI, gR_uCL, gI_uL, gI_uR, gI_uCL, gL_uI, gL_uR, gL_uCI, gz_uI, gz_uL, gz_uR, gz_uCI, gz_uCL, gs_uI, gs_uL, gs_uR, gs_uCI, gs_uCL, rI_at, rL_at, rR_at, rI_ne, rL_ne, rR_ne, rI_nk, rL_nk, rR_nk, rI_eq, rL_eq, rR_eq, Option.toList_some, Option.toList_none, List.cons_append, List.nil_append, List.append_nil, zc_eq, zc_lt, zc_le, zc_ge, zc_gt]
      all_goals exact at222
    · subst h_z
      simp (disch := omega) only [E_M_isAllowed, B_180_0, sm_z.u, hc_z, inI, inL, isT, kInt, kByt, true_and, and_true, an_t, im_t, im_f, or_true, true_or, true_imp_iff, false_imp_iff, not_true_eq_false, not_false_eq_true, gK_uI, gK_uL, gK_uR, gK_uCI, gK_uCL, gN_uI, gN_uL, gN_uR, gN_uCI, gN_uCL, gR_uI, gR_uL, gR_uCI, gR_uCL, gI_uL, gI_uR, gI_uCL, gL_uI, gL_uR, gL_uCI, gz_uI, gz_uL, gz_uR, gz_uCI, gz_uCL, gs_uI, gs_uL, gs_uR, gs_uCI, gs_uCL, rI_at, rL_at, rR_at, rI_ne, rL_ne, rR_ne, rI_nk, rL_nk, rR_nk, rI_eq, rL_eq, rR_eq, Option.toList_some, Option.toList_none, List.cons_append, List.nil_append, List.append_nil, zc_eq, zc_lt, zc_le, zc_ge, zc_gt]
      all_goals exact at222
  · -- names
    rcases hP with ⟨e1_z, e2_z⟩ | ⟨e1_z, e2_z, e3_z, e4_z⟩
    · have go_z := hG (by rw [ok_nm h_z]; exact e2_z) T (Fa.refl _ _) (same_z (stepF_same (by omega)) (npa_id (by omega)) (nmk_id (by omega)))
      simp (disch := omega) only [E_M_isAllowed, B_180_0, sm_z.u, hc_z, B_180_235, s2', e1_z, not_true_eq_false, B_180_270, B_180_275, inI, inL, isT, kInt, kByt, true_and, and_true, an_t, im_t, im_f, or_true, true_or, true_imp_iff, false_imp_iff, not_true_eq_false, not_false_eq_true, gK_uI, gK_uL, gK_uR, gK_uCI, gK_uCL, gN_uI, gN_uL, gN_uR, gN_uCI, gN_uCL, gR_uI, gR_uL, gR_uCI, gR_uCL, gI_uL, gI_uR, gI_uCL, gL_uI, gL_uR, gL_uCI, gz_uI, gz_uL, gz_uR, gz_uCI, gz_uCL, gs_uI, gs_uL, gs_uR, gs_uCI, gs_uCL, rI_at, rL_at, rR_at, rI_ne, rL_ne, rR_ne, rI_nk, rL_nk, rR_nk, rI_eq, rL_eq, rR_eq, Option.toList_some, Option.toList_none, List.cons_append, List.nil_append, List.append_nil, zc_eq, zc_lt, zc_le, zc_ge, zc_gt]
      all_goals exact go_z
    · have go_z := hB_z (by rw [ok_nm h_z]; exact pT e2_z) T (Fa.refl _ _)
      simp (disch := omega) only [E_M_isAllowed, B_180_0, sm_z.u, hc_z, B_180_235, s2', e1_z, B_180_274, B_180_275, inI, inL, isT, kInt, kByt, true_and, and_true, an_t, im_t, im_f, or_true, true_or, true_imp_iff, false_imp_iff, not_true_eq_false, not_false_eq_true, gK_uI, gK_uL, gK_uR, gK_uCI, gK_uCL, gN_uI, gN_uL, gN_uR, gN_uCI, gN_uCL, gR_uI, gR_uL, gR_uCI, gR_uCL, gI_uL, gI_uR, gI_uCL, gL_uI, gL_uR, gL_uCI, gz_uI, gz_uL, gz_uR, gz_uCI, gz_uCL, gs_uI, gs_uL, gs_uR, gs_uCI, gs_uCL, rI_at, rL_at, rR_at, rI_ne, rL_ne, rR_ne, rI_nk, rL_nk, rR_nk, rI_eq, rL_eq, rR_eq, Option.toList_some, Option.toList_none, List.cons_append, List.nil_append, List.append_nil, zc_eq, zc_lt, zc_le, zc_ge, zc_gt]
      all_goals exact go_z
  · -- the rest
    have go_z := hG (ok_hi h_z) T (Fa.refl _ _) (same_z (stepF_same (by omega)) (npa_id (by omega)) (nmk_id (by omega)))
    rcases h_z with h_z | h_z
    · simp (disch := omega) only [E_M_isAllowed, B_180_0, sm_z.u, hc_z, B_180_235, B_180_270, B_180_275, inI, inL, isT, kInt, kByt, true_and, and_true, an_t, im_t, im_f, or_true, true_or, true_imp_iff, false_imp_iff, not_true_eq_false, not_false_eq_true, gK_uI, gK_uL, gK_uR, gK_uCI, gK_uCL, gN_uI, gN_uL, gN_uR, gN_uCI, gN_uCL, gR_uI, gR_uL, gR_uCI, gR_uCL, gI_uL, gI_uR, gI_uCL, gL_uI, gL_uR, gL_uCI, gz_uI, gz_uL, gz_uR, gz_uCI, gz_uCL, gs_uI, gs_uL, gs_uR, gs_uCI, gs_uCL, rI_at, rL_at, rR_at, rI_ne, rL_ne, rR_ne, rI_nk, rL_nk, rR_nk, rI_eq, rL_eq, rR_eq, Option.toList_some, Option.toList_none, List.cons_append, List.nil_append, List.append_nil, zc_eq, zc_lt, zc_le, zc_ge, zc_gt]
      all_goals exact go_z
    · simp (disch := omega) only [E_M_isAllowed, B_180_0, sm_z.u, hc_z, B_180_235, B_180_270, B_180_275, inI, inL, isT, kInt, kByt, true_and, and_true, an_t, im_t, im_f, or_true, true_or, true_imp_iff, false_imp_iff, not_true_eq_false, not_false_eq_true, gK_uI, gK_uL, gK_uR, gK_uCI, gK_uCL, gN_uI, gN_uL, gN_uR, gN_uCI, gN_uCL, gR_uI, gR_uL, gR_uCI, gR_uCL, gI_uL, gI_uR, gI_uCL, gL_uI, gL_uR, gL_uCI, gz_uI, gz_uL, gz_uR, gz_uCI, gz_uCL, gs_uI, gs_uL, gs_uR, gs_uCI, gs_uCL, rI_at, rL_at, rR_at, rI_ne, rL_ne, rR_ne, rI_nk, rL_nk, rR_nk, rI_eq, rL_eq, rR_eq, Option.toList_some, Option.toList_none, List.cons_append, List.nil_append, List.append_nil, zc_eq, zc_lt, zc_le, zc_ge, zc_gt]
      all_goals exact go_z
end EK
