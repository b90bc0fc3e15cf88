/-! THE PURE PART, part 16: undo; run. Own work. -/
section CN
variable {G : Env0} {Q : Option AV → Mem → Prop} {M : Mem} {b : Nat}
theorem un_loop {m_z : Nat} {M0 : Mem} {n_z : Int} (hs0 : ShM M0 m_z) (hn : gI M0 m_z 2 = n_z) (n0_z : 0 ≤ n_z) (n1_z : n_z < 6) (h_z : ∀ M1_z, Ex (fun r_z => r_z = m_z + 1) M0 M1_z → (∀ k_z, 0 ≤ k_z → k_z < 1216 → gI M1_z (m_z + 1) k_z = gI M0 (m_z + 2) (1216 * n_z + k_z)) → Q (some (a_i n_z)) M1_z) : ∀ (k_z : Nat) (i_z : Int) (M1_z : Mem), (1216 - i_z).toNat = k_z → 0 ≤ i_z → i_z ≤ 1216 → Ex (fun r_z => r_z = m_z + 1) M0 M1_z → (∀ k_z, 0 ≤ k_z → k_z < i_z → gI M1_z (m_z + 1) k_z = gI M0 (m_z + 2) (1216 * n_z + k_z)) → At G 196 22 [a_r m_z, a_i i_z] [] M1_z Q := by
  intro k_z
  induction k_z with
  | zero =>
    intro i_z M1_z hk i0_z i1_z hE hx
    have e_z : i_z = 1216 := by omega
    subst e_z
    have hs1 : ShM M1_z m_z := Ex.sh hE hs0
    have hn1 : gI M1_z m_z 2 = n_z := by rw [(hE.2.2.2.2.2 m_z (by omega)).1]; exact hn
    have hh := h_z M1_z hE hx
    rw [B_196_22]
    simp (disch := omega) only [B_196_56, hs1.u, hn1, inI, inL, isT, kInt, kByt, true_and, and_true, an_t, im_t, im_f, or_true, true_or, true_imp_iff, false_imp_iff, not_true_eq_false, not_false_eq_true, gK_uI, gK_uL, gK_uR, gK_uCI, gK_uCL, gN_uI, gN_uL, gN_uR, gN_uCI, gN_uCL, gR_uI, gR_uL, gR_uCI, gR_uCL, gI_uL, gI_uR, gI_uCL, gL_uI, gL_uR, gL_uCI, gz_uI, gz_uL, gz_uR, gz_uCI, gz_uCL, gs_uI, gs_uL, gs_uR, gs_uCI, gs_uCL, rI_at, rL_at, rR_at, rI_ne, rL_ne, rR_ne, rI_nk, rL_nk, rR_nk, rI_eq, rL_eq, rR_eq, Option.toList_some, Option.toList_none, List.cons_append, List.nil_append, List.append_nil, zc_eq, zc_lt, zc_le, zc_ge, zc_gt]
    all_goals exact hh
  | succ k_z ih_z =>
    intro i_z M1_z hk i0_z i1_z hE hx
    have hs1 : ShM M1_z m_z := Ex.sh hE hs0
    have hn1 : gI M1_z m_z 2 = n_z := by rw [(hE.2.2.2.2.2 m_z (by omega)).1]; exact hn
    have r1_z : gI M1_z (m_z + 2) = gI M0 (m_z + 2) := (hE.2.2.2.2.2 _ (by omega)).1
    have hh := ih_z (i_z + 1) (uI M1_z (m_z + 1) i_z (gI M1_z (m_z + 2) (1216 * n_z + i_z))) (by omega) (by omega) (by omega) (hE.uI _ _ rfl) (fun x_z x0_z x1_z => by
      by_cases e_z : x_z = i_z
      · subst e_z
        rw [rI_at, r1_z]
      · rw [rI_nk (by omega)]
        exact hx x_z x0_z (by omega))
    rw [B_196_22]
    simp (disch := omega) only [hs1.u, hn1, inI, inL, isT, kInt, kByt, true_and, and_true, an_t, im_t, im_f, or_true, true_or, true_imp_iff, false_imp_iff, not_true_eq_false, not_false_eq_true, gK_uI, gK_uL, gK_uR, gK_uCI, gK_uCL, gN_uI, gN_uL, gN_uR, gN_uCI, gN_uCL, gR_uI, gR_uL, gR_uCI, gR_uCL, gI_uL, gI_uR, gI_uCL, gL_uI, gL_uR, gL_uCI, gz_uI, gz_uL, gz_uR, gz_uCI, gz_uCL, gs_uI, gs_uL, gs_uR, gs_uCI, gs_uCL, rI_at, rL_at, rR_at, rI_ne, rL_ne, rR_ne, rI_nk, rL_nk, rR_nk, rI_eq, rL_eq, rR_eq, Option.toList_some, Option.toList_none, List.cons_append, List.nil_append, List.append_nil, zc_eq, zc_lt, zc_le, zc_ge, zc_gt]
    all_goals exact hh
theorem X_Mundo {n_z : Nat} {f_z : Int → Int} {ps_z : Nat → Int → Int} {tl : Int} {tx : Int → Int} {m_z : Nat} (hM_z : MoI M m_z (n_z + 1) f_z ps_z tl tx) (n6_z : n_z < 6) (h_z : ∀ M' f', Ex (fun r_z => r_z = m_z ∨ r_z = m_z + 1 ∨ r_z = m_z + 2) M M' → (∀ j_z, j_z ≠ 2 → gI M' m_z j_z = gI M m_z j_z) → (∀ k_z, 0 ≤ k_z → k_z < 1216 → f' k_z = ps_z n_z k_z) → MoI M' m_z n_z f' ps_z tl tx → Q (some (a_i (n_z : Int))) M') : Call G J_M_undo [a_r m_z] M Q := by
  obtain ⟨a1_z, a2, a3, a4, a5, a6⟩ := hM_z
  have hs1 : ShM (uI M m_z 2 (n_z : Int)) m_z := a1_z
  have lp : At G 196 22 [a_r m_z, a_i 0] [] (uI M m_z 2 (n_z : Int)) Q := by
    refine un_loop (n_z := (n_z : Int)) hs1 rI_at (by omega) (by omega) (fun M1_z hE hx => ?_) 1216 0 _ rfl (by decide) (by decide) (Ex.refl _ _) (fun x_z x0_z x1_z => by omega)
    have r2 : ∀ a_z, a_z ≠ m_z → a_z ≠ m_z + 1 → gI M1_z a_z = gI M a_z := fun a_z q0 q1_z => by rw [(hE.2.2.2.2.2 a_z q1_z).1, rI_ne q0]
    have rm : ∀ j_z, j_z ≠ 2 → gI M1_z m_z j_z = gI M m_z j_z := fun j_z q_z => by rw [(hE.2.2.2.2.2 m_z (by omega)).1, rI_nk q_z]
    have oE : Ex (fun r_z => r_z = m_z ∨ r_z = m_z + 1 ∨ r_z = m_z + 2) M M1_z := Ex.trans (Ex.uI (P_z := fun r_z => r_z = m_z ∨ r_z = m_z + 1 ∨ r_z = m_z + 2) (Ex.refl _ M) 2 _ (Or.inl rfl)) (hE.mono (fun a_z q_z => Or.inr (Or.inl q_z)))
    refine h_z M1_z (gI M1_z (m_z + 1)) oE rm (fun k_z k0_z k1_z => ?_) ⟨Ex.sh hE hs1, by rw [(hE.2.2.2.2.2 m_z (by omega)).1, rI_at], rfl, fun i_z hi_z k_z k0_z k1_z => by rw [r2 _ (by omega) (by omega)]; exact a4 i_z (by omega) k_z k0_z k1_z, by rw [rm 4 (by decide)]; exact a5, fun i_z i0_z i1_z => by rw [r2 _ (by omega) (by omega)]; exact a6 i_z i0_z i1_z⟩
    rw [hx k_z k0_z k1_z, rI_ne (by omega)]
    exact a4 n_z (by omega) k_z k0_z k1_z
  have a2' : gI M m_z 2 = (n_z : Int) + 1 := by omega
  have e1_z : (n_z : Int) + 1 - 1 = (n_z : Int) := by omega
  have n0_z : ¬ (n_z : Int) + 1 = 0 := by omega
  simp (disch := omega) only [E_M_undo, B_196_0, a1_z.u, a2', n0_z, B_196_10, e1_z, not_false_eq_true, inI, inL, isT, kInt, kByt, true_and, and_true, an_t, im_t, im_f, or_true, true_or, true_imp_iff, false_imp_iff, not_true_eq_false, not_false_eq_true, gK_uI, gK_uL, gK_uR, gK_uCI, gK_uCL, gN_uI, gN_uL, gN_uR, gN_uCI, gN_uCL, gR_uI, gR_uL, gR_uCI, gR_uCL, gI_uL, gI_uR, gI_uCL, gL_uI, gL_uR, gL_uCI, gz_uI, gz_uL, gz_uR, gz_uCI, gz_uCL, gs_uI, gs_uL, gs_uR, gs_uCI, gs_uCL, rI_at, rL_at, rR_at, rI_ne, rL_ne, rR_ne, rI_nk, rL_nk, rR_nk, rI_eq, rL_eq, rR_eq, Option.toList_some, Option.toList_none, List.cons_append, List.nil_append, List.append_nil]
  all_goals exact lp
theorem X_undo1 {n_z : Nat} {f_z : Int → Int} {ps_z : Nat → Int → Int} (hS_z : ClS G M b) (hE : ClE G M b (n_z + 1) f_z ps_z) (h_z : ∀ M', OutS b M M' → ClS G M' b → ClE G M' b n_z (ps_z n_z) ps_z → Q (some (a_i (n_z : Int))) M') : Call G J_X_undo [a_r (b + 1)] M Q := by
  obtain ⟨s1_z, s2_z, s3_z, s4_z, s5, s6_z, s7, s8, s9, s10⟩ := id hS_z
  obtain ⟨e1_z, e2_z, e3_z, e4_z, e5_z, e6_z, e7_z, e8⟩ := hE
  obtain ⟨j_z, j6_z, hj⟩ := e3_z n_z (by omega)
  have en := e6_z n_z (by omega)
  have pn := e8 n_z (by omega)
  rw [hj] at en pn
  have sv : b + 163 ≤ svA b j_z ∧ svA b j_z + 5 ≤ b + 193 := by unfold svA; omega
  have kT : gK M (svA b j_z) = 4 := (s4_z j_z j6_z).1
  have hX1 : ShX (uI M (b + 1) 4 (n_z : Int)) b := s1_z
  have cp_z : Call G J_Sa_copyFrom [a_r (b + 10), a_r (svA b j_z)] (uI M (b + 1) 4 (n_z : Int)) (fun q_z M2_z => At G 71 46 [a_r (b + 1)] q_z.toList M2_z Q) := by
    have h3 : ShSa (uI M (b + 1) 4 (n_z : Int)) (b + 10) := s3_z
    have h4 : ShSa (uI M (b + 1) 4 (n_z : Int)) (svA b j_z) := s4_z j_z j6_z
    refine X_copyFrom h3 h4 (by omega) pn.kd (fun i_z i0_z i1_z => by rw [rI_ne (by omega)]; exact (en.2.2.1 i_z i0_z i1_z).1) (fun M2_z hC => ?_)
    obtain ⟨⟨c1_z, c2_z, c3_z, c4_z, c5_z⟩, c6_z, c7_z, c8_z, c9_z, c10_z, c11_z, c12_z⟩ := hC
    have r1_z : gI M2_z (b + 1) 4 = (n_z : Int) := by rw [c7_z _ (by omega) (by omega) (by omega) (by omega), rI_at]
    have oS : OutS b M M2_z := ⟨c1_z, c2_z, c3_z, c4_z, fun a_z q0 q1_z q2_z => ⟨by rw [c7_z a_z (by omega) (by omega) (by omega) (by omega), rI_ne q0], c5_z a_z (by omega), by rw [c6_z a_z (by omega)]; rfl⟩⟩
    have eI : ∀ a_z, a_z ≠ b + 1 → a_z ≠ b + 10 → a_z ≠ b + 12 → a_z ≠ b + 13 → a_z ≠ b + 14 → gI M2_z a_z = gI M a_z := fun a_z q0 q1_z q2_z q3_z q4_z => by rw [c7_z a_z q1_z (by omega) (by omega) (by omega), rI_ne q0]
    have eR : ∀ a_z, a_z ≠ b + 11 → gR M2_z a_z = gR M a_z := fun a_z q_z => c6_z a_z (by omega)
    have new_z : EdRow G M2_z (b + 10) (ps_z n_z) ∧ PrB M2_z b (b + 10) := by
      have z_z : ∀ x_z, 0 ≤ x_z → x_z < 7 → gR M2_z (b + 10 + 1) x_z = gR M (svA b j_z + 1) x_z := fun x_z x0_z x1_z => c8_z x_z x0_z x1_z
      refine ⟨EdRow.copy en ?_ z_z (fun p_z n_z cd q_z ⟨x_z, x0_z, x1_z, x2_z⟩ => ?_) (fun i_z i0_z i1_z => ?_) (fun i_z i0_z i1_z => ?_) (fun i_z i0_z i1_z => ?_) (fun j_z hj => ?_), fun x_z x0_z x1_z => ?_⟩
      · show ShSa M2_z (b + 10)
        have q_z := s3_z
        unfold ShSa ShSax at q_z ⊢
        rw [c1_z, c2_z, eR (b + 10) (by omega)]
        exact q_z
      · refine q_z.outS oS ?_
        have q1_z := q_z.1
        rcases pn x_z x0_z x1_z with y_z | y_z
        · omega
        · omega
      · rw [c9_z i_z i0_z i1_z, rI_ne (by omega)]
      · rw [c10_z i_z i0_z i1_z, rI_ne (by omega)]
      · rw [c11_z i_z i0_z i1_z, rI_ne (by omega)]
      · rcases hj with q_z | q_z | q_z <;> subst q_z
        · rw [c12_z.1, rI_ne (by omega)]
        · rw [c12_z.2.1, rI_ne (by omega)]
        · rw [c12_z.2.2, rI_ne (by omega)]
      · rw [z_z x_z x0_z x1_z, c1_z, c3_z]
        exact pn x_z x0_z x1_z
    have kk : ∀ i_z : Nat, i_z < n_z → EdRow G M2_z (gR M (b + 15) (i_z : Int)) (ps_z i_z) ∧ PrB M2_z b (gR M (b + 15) (i_z : Int)) := fun i_z hi_z => by
      obtain ⟨j', q1_z, q2_z⟩ := e3_z i_z (by omega)
      refine EdRow.keep (e6_z i_z (by omega)) oS (e8 i_z (by omega)) (fun a_z a0_z a1_z => ?_)
      rw [q2_z] at a0_z a1_z
      unfold svA at a0_z a1_z
      exact ⟨eI a_z (by omega) (by omega) (by omega) (by omega) (by omega), eR a_z (by omega)⟩
    have r15 : gR M2_z (b + 15) = gR M (b + 15) := eR _ (by omega)
    have hS2 : ClS G M2_z b := by
      refine hS_z.outS oS ?_ new_z.1.1 (fun j' hj' => ?_)
      · unfold ShX ShXx at s1_z ⊢
        rw [c1_z, c2_z, eR (b + 1) (by omega)]
        exact s1_z
      · have y_z := s4_z j' hj'
        unfold ShSa ShSax at y_z ⊢
        rw [c1_z, c2_z, eR (svA b j') (by unfold svA; omega)]
        exact y_z
    have hE2 : ClE G M2_z b n_z (ps_z n_z) ps_z := by
      unfold ClE
      rw [r15]
      exact ⟨r1_z, by omega, e3_z, e4_z, new_z.1, fun i_z hi_z => (kk i_z hi_z).1, new_z.2, fun i_z hi_z => (kk i_z hi_z).2⟩
    have fin_z := h_z M2_z oS hS2 hE2
    have sX2 := hS2.1
    simp (disch := omega) only [B_71_46, sX2.u, r1_z, inI, inL, isT, kInt, kByt, true_and, and_true, an_t, im_t, im_f, or_true, true_or, true_imp_iff, false_imp_iff, not_true_eq_false, not_false_eq_true, gK_uI, gK_uL, gK_uR, gK_uCI, gK_uCL, gN_uI, gN_uL, gN_uR, gN_uCI, gN_uCL, gR_uI, gR_uL, gR_uCI, gR_uCL, gI_uL, gI_uR, gI_uCL, gL_uI, gL_uR, gL_uCI, gz_uI, gz_uL, gz_uR, gz_uCI, gz_uCL, gs_uI, gs_uL, gs_uR, gs_uCI, gs_uCL, rI_at, rL_at, rR_at, rI_ne, rL_ne, rR_ne, rI_nk, rL_nk, rR_nk, rI_eq, rL_eq, rR_eq, Option.toList_some, Option.toList_none, List.cons_append, List.nil_append, List.append_nil, zc_eq, zc_lt, zc_le, zc_ge, zc_gt]
    all_goals exact fin_z
  have e1' : gI M (b + 1) 4 = (n_z : Int) + 1 := by omega
  have e2' : (n_z : Int) + 1 - 1 = (n_z : Int) := by omega
  have hj1 : gR (uI M (b + 1) 4 (n_z : Int)) (b + 15) (n_z : Int) = svA b j_z := hj
  simp (disch := omega) only [E_X_undo, B_71_0, s1_z.u, e1', B_71_20, e2', hX1.u, hj1, rI_at, gK_uI, gN_uI, gR_uI, hj, s3_z.u, inI, inL, isT, kInt, kByt, true_and, and_true, an_t, im_t, im_f, or_true, true_or, true_imp_iff, false_imp_iff, not_true_eq_false, not_false_eq_true, Option.toList_some, Option.toList_none, List.cons_append, List.nil_append, List.append_nil]
  all_goals exact cp_z
theorem s_undo (h_z : Inv G M b) : Same G b J_X_undo J_M_undo [] M := by
  have hI := h_z
  obtain ⟨hS_z, n_z, f_z, ps_z, tl, tx, hE, hT_z, hM_z, hR⟩ := hI
  cases n_z with
  | zero =>
    refine same_pure (v_z := -10000002) h_z (fun Q hq => ?_) (fun Q hq => ?_)
    · have e1_z : gI M (b + 1) 4 = 0 := hE.1
      simp (disch := omega) only [E_X_undo, B_71_0, hS_z.1.u, e1_z, B_71_17, inI, inL, isT, kInt, kByt, true_and, and_true, an_t, im_t, im_f, or_true, true_or, true_imp_iff, false_imp_iff, not_true_eq_false, not_false_eq_true, gK_uI, gK_uL, gK_uR, gK_uCI, gK_uCL, gN_uI, gN_uL, gN_uR, gN_uCI, gN_uCL, gR_uI, gR_uL, gR_uCI, gR_uCL, gI_uL, gI_uR, gI_uCL, gL_uI, gL_uR, gL_uCI, gz_uI, gz_uL, gz_uR, gz_uCI, gz_uCL, gs_uI, gs_uL, gs_uR, gs_uCI, gs_uCL, rI_at, rL_at, rR_at, rI_ne, rL_ne, rR_ne, rI_nk, rL_nk, rR_nk, rI_eq, rL_eq, rR_eq, Option.toList_some, Option.toList_none, List.cons_append, List.nil_append, List.append_nil, zc_eq, zc_lt, zc_le, zc_ge, zc_gt]
      all_goals exact hq
    · have e1_z : gI M (b + 193) 2 = 0 := hM_z.2.1
      simp (disch := omega) only [E_M_undo, B_196_0, hM_z.1.u, e1_z, not_true_eq_false, inI, inL, isT, kInt, kByt, true_and, and_true, an_t, im_t, im_f, or_true, true_or, true_imp_iff, false_imp_iff, not_true_eq_false, not_false_eq_true, gK_uI, gK_uL, gK_uR, gK_uCI, gK_uCL, gN_uI, gN_uL, gN_uR, gN_uCI, gN_uCL, gR_uI, gR_uL, gR_uCI, gR_uCL, gI_uL, gI_uR, gI_uCL, gL_uI, gL_uR, gL_uCI, gz_uI, gz_uL, gz_uR, gz_uCI, gz_uCL, gs_uI, gs_uL, gs_uR, gs_uCI, gs_uCL, rI_at, rL_at, rR_at, rI_ne, rL_ne, rR_ne, rI_nk, rL_nk, rR_nk, rI_eq, rL_eq, rR_eq, Option.toList_some, Option.toList_none, List.cons_append, List.nil_append, List.append_nil, zc_eq, zc_lt, zc_le, zc_ge, zc_gt]
      all_goals exact hq
  | succ n_z =>
    have n6_z : n_z < 6 := by
      have := hE.2.1
      omega
    refine X_undo1 hS_z hE (fun M1_z o1 hS1 hE1 => ⟨(n_z : Int), rfl, ?_⟩)
    refine X_Mundo (hM_z.outS o1) n6_z (fun M2_z f' o2 eF hf hM2 => ?_)
    have hE1' : ClE G M1_z b n_z f' ps_z := by
      obtain ⟨z1, z2, z3, z4, z5, z6⟩ := hE1
      exact ⟨z1, z2, z3, z4, z5.congr hf, z6⟩
    obtain ⟨i1_z, i2_z, i3_z⟩ := inv_edit hT_z hR o1 hS1 hE1' o2 eF hM2
    exact ⟨rfl, i1_z, by omega, by omega, by omega⟩
end CN
