/-! THE PURE PART, part 11: the model's arithmetic. Own work. -/
/-- the model's shape -/
abbrev ShMx (M_z : Mem) (m_z : Nat)  : Prop := gK M_z m_z = 11 ∧ gR M_z m_z 0 = m_z + 1 ∧ gK M_z (m_z + 1) = 100 ∧ gN M_z (m_z + 1) = 1216 ∧ gR M_z m_z 1 = m_z + 2 ∧ gK M_z (m_z + 2) = 100 ∧ gN M_z (m_z + 2) = 7296 ∧ gR M_z m_z 3 = m_z + 3 ∧ gK M_z (m_z + 3) = 100 ∧ gN M_z (m_z + 3) = 160 ∧ gR M_z m_z 8 = m_z + 4 ∧ gK M_z (m_z + 4) = 100 ∧ gN M_z (m_z + 4) = 9 ∧ gR M_z m_z 13 = m_z + 5 ∧ gK M_z (m_z + 5) = 100 ∧ gN M_z (m_z + 5) = 160 ∧ gR M_z m_z 17 = m_z + 6 ∧ gK M_z (m_z + 6) = 100 ∧ gN M_z (m_z + 6) = 20 ∧ gR M_z m_z 18 = m_z + 7 ∧ gK M_z (m_z + 7) = 100 ∧ gN M_z (m_z + 7) = 800 ∧ gR M_z m_z 22 = m_z + 8 ∧ gK M_z (m_z + 8) = 100 ∧ gN M_z (m_z + 8) = 28 ∧ gR M_z m_z 23 = m_z + 9 ∧ gK M_z (m_z + 9) = 100 ∧ gN M_z (m_z + 9) = 28 ∧ gR M_z m_z 24 = m_z + 10 ∧ gK M_z (m_z + 10) = 100 ∧ gN M_z (m_z + 10) = 28 ∧ gR M_z m_z 28 = m_z + 11 ∧ gK M_z (m_z + 11) = 100 ∧ gN M_z (m_z + 11) = 4848 ∧ gR M_z m_z 29 = m_z + 12 ∧ gK M_z (m_z + 12) = 100 ∧ gN M_z (m_z + 12) = 4848 ∧ gR M_z m_z 30 = m_z + 13 ∧ gK M_z (m_z + 13) = 100 ∧ gN M_z (m_z + 13) = 4848 ∧ gR M_z m_z 31 = m_z + 14 ∧ gK M_z (m_z + 14) = 100 ∧ gN M_z (m_z + 14) = 202 ∧ gR M_z m_z 32 = m_z + 15 ∧ gK M_z (m_z + 15) = 100 ∧ gN M_z (m_z + 15) = 202 ∧ gR M_z m_z 34 = m_z + 16 ∧ gK M_z (m_z + 16) = 100 ∧ gN M_z (m_z + 16) = 360 ∧ gR M_z m_z 37 = m_z + 17 ∧ gK M_z (m_z + 17) = 100 ∧ gN M_z (m_z + 17) = 5 ∧ gR M_z m_z 38 = m_z + 18 ∧ gK M_z (m_z + 18) = 100 ∧ gN M_z (m_z + 18) = 5 ∧ gR M_z m_z 39 = m_z + 19 ∧ gK M_z (m_z + 19) = 100 ∧ gN M_z (m_z + 19) = 5 ∧ gR M_z m_z 40 = m_z + 20 ∧ gK M_z (m_z + 20) = 100 ∧ gN M_z (m_z + 20) = 80 ∧ gR M_z m_z 41 = m_z + 21 ∧ gK M_z (m_z + 21) = 100 ∧ gN M_z (m_z + 21) = 80 ∧ gR M_z m_z 42 = m_z + 22 ∧ gK M_z (m_z + 22) = 100 ∧ gN M_z (m_z + 22) = 5 ∧ gR M_z m_z 43 = m_z + 23 ∧ gK M_z (m_z + 23) = 100 ∧ gN M_z (m_z + 23) = 15 ∧ gR M_z m_z 44 = m_z + 24 ∧ gK M_z (m_z + 24) = 100 ∧ gN M_z (m_z + 24) = 15 ∧ gR M_z m_z 51 = m_z + 25 ∧ gK M_z (m_z + 25) = 100 ∧ gN M_z (m_z + 25) = 600 ∧ gR M_z m_z 52 = m_z + 26 ∧ gK M_z (m_z + 26) = 100 ∧ gN M_z (m_z + 26) = 12 ∧ gR M_z m_z 53 = m_z + 27 ∧ gK M_z (m_z + 27) = 100 ∧ gN M_z (m_z + 27) = 4 ∧ gR M_z m_z 54 = m_z + 28 ∧ gK M_z (m_z + 28) = 100 ∧ gN M_z (m_z + 28) = 4
def ShM (M_z : Mem) (m_z : Nat)  : Prop := ShMx M_z m_z
theorem ShM.u {M_z : Mem} {m_z : Nat}  (h_z : ShM M_z m_z) : ShMx M_z m_z := h_z
/-- the same but for what is computed ahead of an operator -/
def Sx (M_z M' : Mem) (m_z : Nat) : Prop := gK M' = gK M_z ∧ gN M' = gN M_z ∧ gR M' = gR M_z ∧ gz M' = gz M_z ∧ gs M' = gs M_z ∧ (∀ (r_z : Nat) (k_z : Int), (r_z = m_z → k_z ≠ 16) → gI M' r_z k_z = gI M_z r_z k_z) ∧ (∀ r_z : Nat, r_z ≠ m_z → gL M' r_z = gL M_z r_z)
theorem Sx.refl (M_z : Mem) (m_z : Nat) : Sx M_z M_z m_z := ⟨rfl, rfl, rfl, rfl, rfl, fun _ _ _ => rfl, fun _ _ => rfl⟩
theorem Sx.trans {M_z M' M'' : Mem} {m_z : Nat} (h_z : Sx M_z M' m_z) (h2 : Sx M' M'' m_z) : Sx M_z M'' m_z := by
  obtain ⟨a1_z, a2, a3, a4, a5, a6, a7⟩ := h_z
  obtain ⟨b1, b2, b3, b4, b5, b6, b7⟩ := h2
  exact ⟨b1.trans a1_z, b2.trans a2, b3.trans a3, b4.trans a4, b5.trans a5, fun r_z k_z q1_z => (b6 r_z k_z q1_z).trans (a6 r_z k_z q1_z), fun r_z q_z => (b7 r_z q_z).trans (a7 r_z q_z)⟩
theorem Sx.uL {M_z M' : Mem} {m_z : Nat} (h_z : Sx M_z M' m_z) (k_z v_z : Int) : Sx M_z (uL M' m_z k_z v_z) m_z := by
  obtain ⟨a1_z, a2, a3, a4, a5, a6, a7⟩ := h_z
  exact ⟨a1_z, a2, a3, a4, a5, a6, fun r_z q_z => by rw [rL_ne q_z]; exact a7 r_z q_z⟩
theorem Sx.uI {M_z M' : Mem} {m_z : Nat} {k_z : Int} (h_z : Sx M_z M' m_z) (v_z : Int) (hr : k_z = 16) : Sx M_z (uI M' m_z k_z v_z) m_z := by
  obtain ⟨a1_z, a2, a3, a4, a5, a6, a7⟩ := h_z
  refine ⟨a1_z, a2, a3, a4, a5, fun a_z j_z q1_z => ?_, a7⟩
  rw [← a6 a_z j_z q1_z, gI_uI]
  refine if_neg (fun c_z => ?_)
  obtain ⟨c1_z, c2_z⟩ := c_z
  have := q1_z c1_z
  omega
theorem Sx.row {M_z M' : Mem} {m_z r_z : Nat} (h_z : Sx M_z M' m_z) (hr : r_z ≠ m_z) : gI M' r_z = gI M_z r_z := by
  funext k
  exact h_z.2.2.2.2.2.1 r_z k (fun q_z => absurd q_z hr)
theorem Sx.fld {M_z M' : Mem} {m_z : Nat} {k_z : Int} (h_z : Sx M_z M' m_z) (hk : k_z ≠ 16) : gI M' m_z k_z = gI M_z m_z k_z := h_z.2.2.2.2.2.1 m_z k_z (fun _ => hk)
theorem Sx.sh {M_z M' : Mem} {m_z : Nat} (h_z : Sx M_z M' m_z) (hs : ShM M_z m_z) : ShM M' m_z := by
  obtain ⟨a1_z, a2, a3, a4, a5, a6, a7⟩ := h_z
  unfold ShM ShMx
  rw [a1_z, a2, a3]
  exact hs
/-- up, down and isBeyond stand for v_z -/
def A3 (M_z : Mem) (m_z : Nat) (v_z : Int) : Prop := (gI M_z m_z 16 = 0 ∧ NV v_z ∧ gL M_z m_z 14 = fu v_z ∧ gL M_z m_z 15 = fd v_z) ∨ (gI M_z m_z 16 = 1 ∧ v_z = -1 ∧ (gL M_z m_z 14).natAbs ≤ 2000000000000 ∧ 0 < gL M_z m_z 15 ∧ gL M_z m_z 15 ≤ 1000000000000)
theorem A3.fl {M_z : Mem} {m_z : Nat} {v_z : Int} (h_z : A3 M_z m_z v_z) : gI M_z m_z 16 = 0 ∨ gI M_z m_z 16 = 1 := h_z.elim (fun q_z => Or.inl q_z.1) (fun q_z => Or.inr q_z.1)
theorem A3.rv {M_z : Mem} {m_z : Nat} {v_z : Int} (h_z : A3 M_z m_z v_z) : RV v_z := h_z.elim (fun q_z => Or.inr q_z.2.1) (fun q_z => Or.inl q_z.2.1)
section MA
variable {G : Env0} {Q : Option AV → Mem → Prop} {M : Mem} {m : Nat}
theorem X_becomes1 {a_z b_z : Int} (hm_z : gK M m = 11) (hf : gI M m 16 = 1) : Call G J_M_becomes [a_r m, a_l a_z, a_l b_z] M Q ↔ Q none M := by
  rw [E_M_becomes, B_219_0]
  have : ¬ gI M m 16 = 0 := by omega
  simp only [hm_z, this, false_imp_iff, true_and, not_false_eq_true, true_imp_iff]
theorem X_becomes0 {a_z b_z : Int} (ha_z : a_z.natAbs ≤ 2000000000000) (hb_z : b_z.natAbs ≤ 1000000000000) (h0 : b_z ≠ 0) (hm_z : gK M m = 11) (hf : gI M m 16 = 0) (h_z : ∀ M', Sx M M' m → A3 M' m (low a_z b_z) → Q none M') : Call G J_M_becomes [a_r m, a_l a_z, a_l b_z] M Q := by
  obtain ⟨g_z, c_z, d_z, hg, hg0, hc_z, hd_z, hu, hw, hw1⟩ := gcd_parts (n_z := a_z) h0
  rw [E_M_becomes, B_219_0]
  simp (disch := omega) only [hm_z, B_219_8, inI, inL, isT, kInt, kByt, true_and, and_true, an_t, im_t, im_f, or_true, true_or, true_imp_iff, false_imp_iff, not_true_eq_false, not_false_eq_true, gK_uI, gK_uL, gK_uR, gK_uCI, gK_uCL, gN_uI, gN_uL, gN_uR, gN_uCI, gN_uCL, gR_uI, gR_uL, gR_uCI, gR_uCL, gI_uL, gI_uR, gI_uCL, gL_uI, gL_uR, gL_uCI, gz_uI, gz_uL, gz_uR, gz_uCI, gz_uCL, gs_uI, gs_uL, gs_uR, gs_uCI, gs_uCL, rI_at, rL_at, rR_at, rI_ne, rL_ne, rR_ne, rI_nk, rL_nk, rR_nk, rI_eq, rL_eq, rR_eq]
  refine X_divisor (by omega) (by omega) ?_
  have e1_z := tdv_bd a_z (Int.gcd a_z b_z : Int)
  have e2_z := tdv_bd b_z (Int.gcd a_z b_z : Int)
  have e3_z := tdv_bd a_z (-(Int.gcd a_z b_z : Int))
  have e4_z := tdv_bd b_z (-(Int.gcd a_z b_z : Int))
  have fin_z : ∀ D_z : Int, D_z ≠ 0 → Int.tdiv a_z D_z = nu a_z b_z → Int.tdiv b_z D_z = nd a_z b_z → (Int.tdiv a_z D_z).natAbs ≤ a_z.natAbs → (Int.tdiv b_z D_z).natAbs ≤ b_z.natAbs → ∀ u4_z u6, At G 219 29 [a_r m, a_l a_z, a_u, a_l b_z, u4_z, a_l (Int.gcd a_z b_z : Int), u6] [a_l D_z] M Q := by
    intro D_z d0_z d1_z d2_z d3_z d4_z u4_z u6
    rw [d1_z] at d3_z
    rw [d2_z] at d4_z
    have hS_z : ∀ v_z, v_z = 0 ∨ v_z = 1 → Sx M (uI (uL (uL M m 14 (nu a_z b_z)) m 15 (nd a_z b_z)) m 16 v_z) m := fun v_z _ => ((Sx.refl M m).uL _ _).uL _ _ |>.uI v_z rfl
    by_cases hk : lok a_z b_z
    · have hv : low a_z b_z = pk (nu a_z b_z) (nd a_z b_z) := if_pos hk
      obtain ⟨k1_z, k2_z, k3_z⟩ := hk
      have hh := h_z _ (hS_z 0 (Or.inl rfl)) (Or.inl ⟨by simp (disch := omega) only [gK_uI, gK_uL, gK_uR, gK_uCI, gK_uCL, gN_uI, gN_uL, gN_uR, gN_uCI, gN_uCL, gR_uI, gR_uL, gR_uCI, gR_uCL, gI_uL, gI_uR, gI_uCL, gL_uI, gL_uR, gL_uCI, gz_uI, gz_uL, gz_uR, gz_uCI, gz_uCL, gs_uI, gs_uL, gs_uR, gs_uCI, gs_uCL, rI_at, rL_at, rR_at, rI_ne, rL_ne, rR_ne, rI_nk, rL_nk, rR_nk, rI_eq, rL_eq, rR_eq], by rw [hv]; exact nv_pk ⟨k1_z, k2_z, hw1, k3_z⟩, by rw [hv, fu_pk (by omega) (by omega)]; simp (disch := omega) only [gK_uI, gK_uL, gK_uR, gK_uCI, gK_uCL, gN_uI, gN_uL, gN_uR, gN_uCI, gN_uCL, gR_uI, gR_uL, gR_uCI, gR_uCL, gI_uL, gI_uR, gI_uCL, gL_uI, gL_uR, gL_uCI, gz_uI, gz_uL, gz_uR, gz_uCI, gz_uCL, gs_uI, gs_uL, gs_uR, gs_uCI, gs_uCL, rI_at, rL_at, rR_at, rI_ne, rL_ne, rR_ne, rI_nk, rL_nk, rR_nk, rI_eq, rL_eq, rR_eq], by rw [hv, fd_pk (by omega) (by omega)]; simp (disch := omega) only [gK_uI, gK_uL, gK_uR, gK_uCI, gK_uCL, gN_uI, gN_uL, gN_uR, gN_uCI, gN_uCL, gR_uI, gR_uL, gR_uCI, gR_uCL, gI_uL, gI_uR, gI_uCL, gL_uI, gL_uR, gL_uCI, gz_uI, gz_uL, gz_uR, gz_uCI, gz_uCL, gs_uI, gs_uL, gs_uR, gs_uCI, gs_uCL, rI_at, rL_at, rR_at, rI_ne, rL_ne, rR_ne, rI_nk, rL_nk, rR_nk, rI_eq, rL_eq, rR_eq]⟩)
      simp (disch := omega) only [B_219_29, B_219_47, B_219_88, B_219_92, B_219_93, d1_z, d2_z, hm_z, hf, inI, inL, isT, kInt, kByt, true_and, and_true, an_t, im_t, im_f, or_true, true_or, true_imp_iff, false_imp_iff, not_true_eq_false, not_false_eq_true, gK_uI, gK_uL, gK_uR, gK_uCI, gK_uCL, gN_uI, gN_uL, gN_uR, gN_uCI, gN_uCL, gR_uI, gR_uL, gR_uCI, gR_uCL, gI_uL, gI_uR, gI_uCL, gL_uI, gL_uR, gL_uCI, gz_uI, gz_uL, gz_uR, gz_uCI, gz_uCL, gs_uI, gs_uL, gs_uR, gs_uCI, gs_uCL, rI_at, rL_at, rR_at, rI_ne, rL_ne, rR_ne, rI_nk, rL_nk, rR_nk, rI_eq, rL_eq, rR_eq, zc_eq, zc_lt, zc_le, zc_ge, zc_gt]
      all_goals exact hh
    · have hv : low a_z b_z = -1 := if_neg hk
      unfold lok at hk
      have hh := h_z _ (hS_z 1 (Or.inr rfl)) (Or.inr ⟨by simp (disch := omega) only [gK_uI, gK_uL, gK_uR, gK_uCI, gK_uCL, gN_uI, gN_uL, gN_uR, gN_uCI, gN_uCL, gR_uI, gR_uL, gR_uCI, gR_uCL, gI_uL, gI_uR, gI_uCL, gL_uI, gL_uR, gL_uCI, gz_uI, gz_uL, gz_uR, gz_uCI, gz_uCL, gs_uI, gs_uL, gs_uR, gs_uCI, gs_uCL, rI_at, rL_at, rR_at, rI_ne, rL_ne, rR_ne, rI_nk, rL_nk, rR_nk, rI_eq, rL_eq, rR_eq], hv, by simp (disch := omega) only [gK_uI, gK_uL, gK_uR, gK_uCI, gK_uCL, gN_uI, gN_uL, gN_uR, gN_uCI, gN_uCL, gR_uI, gR_uL, gR_uCI, gR_uCL, gI_uL, gI_uR, gI_uCL, gL_uI, gL_uR, gL_uCI, gz_uI, gz_uL, gz_uR, gz_uCI, gz_uCL, gs_uI, gs_uL, gs_uR, gs_uCI, gs_uCL, rI_at, rL_at, rR_at, rI_ne, rL_ne, rR_ne, rI_nk, rL_nk, rR_nk, rI_eq, rL_eq, rR_eq]; omega, by simp (disch := omega) only [gK_uI, gK_uL, gK_uR, gK_uCI, gK_uCL, gN_uI, gN_uL, gN_uR, gN_uCI, gN_uCL, gR_uI, gR_uL, gR_uCI, gR_uCL, gI_uL, gI_uR, gI_uCL, gL_uI, gL_uR, gL_uCI, gz_uI, gz_uL, gz_uR, gz_uCI, gz_uCL, gs_uI, gs_uL, gs_uR, gs_uCI, gs_uCL, rI_at, rL_at, rR_at, rI_ne, rL_ne, rR_ne, rI_nk, rL_nk, rR_nk, rI_eq, rL_eq, rR_eq]; omega, by simp (disch := omega) only [gK_uI, gK_uL, gK_uR, gK_uCI, gK_uCL, gN_uI, gN_uL, gN_uR, gN_uCI, gN_uCL, gR_uI, gR_uL, gR_uCI, gR_uCL, gI_uL, gI_uR, gI_uCL, gL_uI, gL_uR, gL_uCI, gz_uI, gz_uL, gz_uR, gz_uCI, gz_uCL, gs_uI, gs_uL, gs_uR, gs_uCI, gs_uCL, rI_at, rL_at, rR_at, rI_ne, rL_ne, rR_ne, rI_nk, rL_nk, rR_nk, rI_eq, rL_eq, rR_eq]; omega⟩)
      by_cases c1_z : 1000000 < nu a_z b_z
      · simp (disch := omega) only [B_219_29, B_219_47, B_219_88, B_219_92, B_219_93, d1_z, d2_z, hm_z, hf, inI, inL, isT, kInt, kByt, true_and, and_true, an_t, im_t, im_f, or_true, true_or, true_imp_iff, false_imp_iff, not_true_eq_false, not_false_eq_true, gK_uI, gK_uL, gK_uR, gK_uCI, gK_uCL, gN_uI, gN_uL, gN_uR, gN_uCI, gN_uCL, gR_uI, gR_uL, gR_uCI, gR_uCL, gI_uL, gI_uR, gI_uCL, gL_uI, gL_uR, gL_uCI, gz_uI, gz_uL, gz_uR, gz_uCI, gz_uCL, gs_uI, gs_uL, gs_uR, gs_uCI, gs_uCL, rI_at, rL_at, rR_at, rI_ne, rL_ne, rR_ne, rI_nk, rL_nk, rR_nk, rI_eq, rL_eq, rR_eq, zc_eq, zc_lt, zc_le, zc_ge, zc_gt]
        all_goals exact hh
      · by_cases c2_z : nu a_z b_z < -1000000
        · simp (disch := omega) only [B_219_29, B_219_47, B_219_88, B_219_92, B_219_93, d1_z, d2_z, hm_z, hf, inI, inL, isT, kInt, kByt, true_and, and_true, an_t, im_t, im_f, or_true, true_or, true_imp_iff, false_imp_iff, not_true_eq_false, not_false_eq_true, gK_uI, gK_uL, gK_uR, gK_uCI, gK_uCL, gN_uI, gN_uL, gN_uR, gN_uCI, gN_uCL, gR_uI, gR_uL, gR_uCI, gR_uCL, gI_uL, gI_uR, gI_uCL, gL_uI, gL_uR, gL_uCI, gz_uI, gz_uL, gz_uR, gz_uCI, gz_uCL, gs_uI, gs_uL, gs_uR, gs_uCI, gs_uCL, rI_at, rL_at, rR_at, rI_ne, rL_ne, rR_ne, rI_nk, rL_nk, rR_nk, rI_eq, rL_eq, rR_eq, zc_eq, zc_lt, zc_le, zc_ge, zc_gt]
          all_goals exact hh
        · simp (disch := omega) only [B_219_29, B_219_47, B_219_88, B_219_92, B_219_93, d1_z, d2_z, hm_z, hf, inI, inL, isT, kInt, kByt, true_and, and_true, an_t, im_t, im_f, or_true, true_or, true_imp_iff, false_imp_iff, not_true_eq_false, not_false_eq_true, gK_uI, gK_uL, gK_uR, gK_uCI, gK_uCL, gN_uI, gN_uL, gN_uR, gN_uCI, gN_uCL, gR_uI, gR_uL, gR_uCI, gR_uCL, gI_uL, gI_uR, gI_uCL, gL_uI, gL_uR, gL_uCI, gz_uI, gz_uL, gz_uR, gz_uCI, gz_uCL, gs_uI, gs_uL, gs_uR, gs_uCI, gs_uCL, rI_at, rL_at, rR_at, rI_ne, rL_ne, rR_ne, rI_nk, rL_nk, rR_nk, rI_eq, rL_eq, rR_eq, zc_eq, zc_lt, zc_le, zc_ge, zc_gt]
          all_goals exact hh
  have hgb : Int.gcd a_z b_z ≤ b_z.natAbs := Nat.gcd_le_right _ (by omega)
  have f1_z : Int.tdiv a_z (Int.gcd a_z b_z : Int) = c_z := by
    rw [hg]
    conv => lhs; arg 1; rw [hc_z]
    exact Int.mul_tdiv_cancel_left _ (by omega)
  have f2_z : Int.tdiv b_z (Int.gcd a_z b_z : Int) = d_z := by
    rw [hg]
    conv => lhs; arg 1; rw [hd_z]
    exact Int.mul_tdiv_cancel_left _ (by omega)
  by_cases c_z : b_z < 0
  · rw [if_pos c_z] at hu hw
    simp (disch := omega) only [B_219_13, B_219_27, inI, inL, isT, kInt, kByt, true_and, and_true, an_t, im_t, im_f, or_true, true_or, true_imp_iff, false_imp_iff, not_true_eq_false, not_false_eq_true, gK_uI, gK_uL, gK_uR, gK_uCI, gK_uCL, gN_uI, gN_uL, gN_uR, gN_uCI, gN_uCL, gR_uI, gR_uL, gR_uCI, gR_uCL, gI_uL, gI_uR, gI_uCL, gL_uI, gL_uR, gL_uCI, gz_uI, gz_uL, gz_uR, gz_uCI, gz_uCL, gs_uI, gs_uL, gs_uR, gs_uCI, gs_uCL, rI_at, rL_at, rR_at, rI_ne, rL_ne, rR_ne, rI_nk, rL_nk, rR_nk, rI_eq, rL_eq, rR_eq, zc_eq, zc_lt, zc_le, zc_ge, zc_gt, Option.toList_some, Option.toList_none, List.cons_append, List.nil_append, List.append_nil]
    refine fin_z _ (by omega) ?_ ?_ e3_z e4_z _ _
    · rw [Int.tdiv_neg, f1_z, hu]
    · rw [Int.tdiv_neg, f2_z, hw]
  · rw [if_neg c_z] at hu hw
    simp (disch := omega) only [B_219_13, B_219_27, inI, inL, isT, kInt, kByt, true_and, and_true, an_t, im_t, im_f, or_true, true_or, true_imp_iff, false_imp_iff, not_true_eq_false, not_false_eq_true, gK_uI, gK_uL, gK_uR, gK_uCI, gK_uCL, gN_uI, gN_uL, gN_uR, gN_uCI, gN_uCL, gR_uI, gR_uL, gR_uCI, gR_uCL, gI_uL, gI_uR, gI_uCL, gL_uI, gL_uR, gL_uCI, gz_uI, gz_uL, gz_uR, gz_uCI, gz_uCL, gs_uI, gs_uL, gs_uR, gs_uCI, gs_uCL, rI_at, rL_at, rR_at, rI_ne, rL_ne, rR_ne, rI_nk, rL_nk, rR_nk, rI_eq, rL_eq, rR_eq, zc_eq, zc_lt, zc_le, zc_ge, zc_gt, Option.toList_some, Option.toList_none, List.cons_append, List.nil_append, List.append_nil]
    refine fin_z _ (by omega) ?_ ?_ e1_z e2_z _ _
    · rw [f1_z, hu]
    · rw [f2_z, hw]
/-- the operation that goesOn does -/
def fop (how : Int) (v_z w_z : Int) : Int := if how = 0 then fS v_z w_z else if how = 1 then fD v_z w_z else if how = 2 then fM v_z w_z else fQ v_z w_z
theorem X_goes0 {how v_z w_z : Int} (h1 : 0 ≤ how) (h2 : how ≤ 3) (hm_z : gK M m = 11) (hf : gI M m 16 = 0) (hv : NV v_z) (hw : NV w_z) (e1_z : gL M m 14 = fu v_z) (e2_z : gL M m 15 = fd v_z) (h0 : how = 3 → fu w_z ≠ 0) (h_z : ∀ M', Sx M M' m → A3 M' m (fop how v_z w_z) → Q none M') : Call G J_M_goesOn [a_r m, a_i how, a_l (fu w_z), a_l (fd w_z)] M Q := by
  have m1_z := mb _ _ (nv_u hv) (nv_d hw)
  have m2_z := mb _ _ (nv_u hw) (nv_d hv)
  have m3_z := mb _ _ (nv_d hv) (nv_d hw)
  have m4_z := mb _ _ (nv_u hv) (nv_u hw)
  have m5_z := mb _ _ (nv_d hv) (nv_u hw)
  have a1_z := nv_u hw
  unfold fop at h_z
  by_cases c0_z : how = 0
  · subst c0_z
    rw [if_pos rfl, fS_nv hv hw] at h_z
    simp (disch := omega) only [E_M_goesOn, B_218_0, B_218_23, hm_z, e1_z, e2_z, inI, inL, isT, kInt, kByt, true_and, and_true, an_t, im_t, im_f, or_true, true_or, true_imp_iff, false_imp_iff, not_true_eq_false, not_false_eq_true, gK_uI, gK_uL, gK_uR, gK_uCI, gK_uCL, gN_uI, gN_uL, gN_uR, gN_uCI, gN_uCL, gR_uI, gR_uL, gR_uCI, gR_uCL, gI_uL, gI_uR, gI_uCL, gL_uI, gL_uR, gL_uCI, gz_uI, gz_uL, gz_uR, gz_uCI, gz_uCL, gs_uI, gs_uL, gs_uR, gs_uCI, gs_uCL, rI_at, rL_at, rR_at, rI_ne, rL_ne, rR_ne, rI_nk, rL_nk, rR_nk, rI_eq, rL_eq, rR_eq, zc_eq, zc_lt, zc_le, zc_ge, zc_gt]
    exact X_becomes0 (by omega) (by omega) (nv_dd hv hw) hm_z hf (fun M' q1_z q2_z => by simp only [Option.toList_some, Option.toList_none, List.cons_append, List.nil_append, List.append_nil, B_218_39, B_218_84]; exact h_z M' q1_z q2_z)
  · by_cases c1_z : how = 1
    · subst c1_z
      rw [if_neg (by decide), if_pos rfl, fD_nv hv hw] at h_z
      have hx : -fu w_z * fd v_z = -(fu w_z * fd v_z) := Int.neg_mul _ _
      have hy : fu v_z * fd w_z + -(fu w_z * fd v_z) = fu v_z * fd w_z - fu w_z * fd v_z := by omega
      simp (disch := omega) only [E_M_goesOn, B_218_0, B_218_21, B_218_23, hm_z, e1_z, e2_z, hx, hy, inI, inL, isT, kInt, kByt, true_and, and_true, an_t, im_t, im_f, or_true, true_or, true_imp_iff, false_imp_iff, not_true_eq_false, not_false_eq_true, gK_uI, gK_uL, gK_uR, gK_uCI, gK_uCL, gN_uI, gN_uL, gN_uR, gN_uCI, gN_uCL, gR_uI, gR_uL, gR_uCI, gR_uCL, gI_uL, gI_uR, gI_uCL, gL_uI, gL_uR, gL_uCI, gz_uI, gz_uL, gz_uR, gz_uCI, gz_uCL, gs_uI, gs_uL, gs_uR, gs_uCI, gs_uCL, rI_at, rL_at, rR_at, rI_ne, rL_ne, rR_ne, rI_nk, rL_nk, rR_nk, rI_eq, rL_eq, rR_eq, zc_eq, zc_lt, zc_le, zc_ge, zc_gt]
      exact X_becomes0 (by omega) (by omega) (nv_dd hv hw) hm_z hf (fun M' q1_z q2_z => by simp only [Option.toList_some, Option.toList_none, List.cons_append, List.nil_append, List.append_nil, B_218_39, B_218_84]; exact h_z M' q1_z q2_z)
    · by_cases c2_z : how = 2
      · subst c2_z
        rw [if_neg (by decide), if_neg (by decide), if_pos rfl, fM_nv hv hw] at h_z
        simp (disch := omega) only [E_M_goesOn, B_218_0, B_218_42, hm_z, e1_z, e2_z, inI, inL, isT, kInt, kByt, true_and, and_true, an_t, im_t, im_f, or_true, true_or, true_imp_iff, false_imp_iff, not_true_eq_false, not_false_eq_true, gK_uI, gK_uL, gK_uR, gK_uCI, gK_uCL, gN_uI, gN_uL, gN_uR, gN_uCI, gN_uCL, gR_uI, gR_uL, gR_uCI, gR_uCL, gI_uL, gI_uR, gI_uCL, gL_uI, gL_uR, gL_uCI, gz_uI, gz_uL, gz_uR, gz_uCI, gz_uCL, gs_uI, gs_uL, gs_uR, gs_uCI, gs_uCL, rI_at, rL_at, rR_at, rI_ne, rL_ne, rR_ne, rI_nk, rL_nk, rR_nk, rI_eq, rL_eq, rR_eq, zc_eq, zc_lt, zc_le, zc_ge, zc_gt]
        exact X_becomes0 (by omega) (by omega) (nv_dd hv hw) hm_z hf (fun M' q1_z q2_z => by simp only [Option.toList_some, Option.toList_none, List.cons_append, List.nil_append, List.append_nil, B_218_64, B_218_84]; exact h_z M' q1_z q2_z)
      · have c3_z : how = 3 := by omega
        subst c3_z
        rw [if_neg (by decide), if_neg (by decide), if_neg (by decide), fQ_nv hv hw] at h_z
        simp (disch := omega) only [E_M_goesOn, B_218_0, B_218_42, B_218_67, hm_z, e1_z, e2_z, inI, inL, isT, kInt, kByt, true_and, and_true, an_t, im_t, im_f, or_true, true_or, true_imp_iff, false_imp_iff, not_true_eq_false, not_false_eq_true, gK_uI, gK_uL, gK_uR, gK_uCI, gK_uCL, gN_uI, gN_uL, gN_uR, gN_uCI, gN_uCL, gR_uI, gR_uL, gR_uCI, gR_uCL, gI_uL, gI_uR, gI_uCL, gL_uI, gL_uR, gL_uCI, gz_uI, gz_uL, gz_uR, gz_uCI, gz_uCL, gs_uI, gs_uL, gs_uR, gs_uCI, gs_uCL, rI_at, rL_at, rR_at, rI_ne, rL_ne, rR_ne, rI_nk, rL_nk, rR_nk, rI_eq, rL_eq, rR_eq, zc_eq, zc_lt, zc_le, zc_ge, zc_gt]
        exact X_becomes0 (by omega) (by omega) (Int.mul_ne_zero (by have := hv.2.2.1; omega) (h0 rfl)) hm_z hf (fun M' q1_z q2_z => by simp only [Option.toList_some, Option.toList_none, List.cons_append, List.nil_append, List.append_nil, B_218_84]; exact h_z M' q1_z q2_z)
theorem X_goes1 {how a_z b_z : Int} {A_z B_z U_z D_z : Nat} (h1 : 0 ≤ how) (h2 : how ≤ 2) (hm_z : gK M m = 11) (hf : gI M m 16 = 1) (ha_z : a_z.natAbs ≤ A_z) (hb_z : b_z.natAbs ≤ B_z) (hU : (gL M m 14).natAbs ≤ U_z) (hD : (gL M m 15).natAbs ≤ D_z) (k1_z : U_z * B_z ≤ 2000000000000000000) (k2_z : A_z * D_z ≤ 2000000000000000000) (k3_z : U_z * A_z ≤ 9000000000000000000) (k4_z : D_z * B_z ≤ 9000000000000000000) (k5_z : A_z ≤ 9000000000000000000) (h_z : Q none M) : Call G J_M_goesOn [a_r m, a_i how, a_l a_z, a_l b_z] M Q := by
  have m1_z := mb _ _ hU hb_z
  have m2_z := mb _ _ ha_z hD
  have m3_z := mb _ _ hU ha_z
  have m4_z := mb _ _ hD hb_z
  have hx : -a_z * gL M m 15 = -(a_z * gL M m 15) := Int.neg_mul _ _
  by_cases c0_z : how = 0
  · subst c0_z
    simp (disch := omega) only [E_M_goesOn, B_218_0, B_218_23, B_218_39, B_218_84, hm_z, X_becomes1 hm_z hf, inI, inL, isT, kInt, kByt, true_and, and_true, an_t, im_t, im_f, or_true, true_or, true_imp_iff, false_imp_iff, not_true_eq_false, not_false_eq_true, gK_uI, gK_uL, gK_uR, gK_uCI, gK_uCL, gN_uI, gN_uL, gN_uR, gN_uCI, gN_uCL, gR_uI, gR_uL, gR_uCI, gR_uCL, gI_uL, gI_uR, gI_uCL, gL_uI, gL_uR, gL_uCI, gz_uI, gz_uL, gz_uR, gz_uCI, gz_uCL, gs_uI, gs_uL, gs_uR, gs_uCI, gs_uCL, rI_at, rL_at, rR_at, rI_ne, rL_ne, rR_ne, rI_nk, rL_nk, rR_nk, rI_eq, rL_eq, rR_eq, zc_eq, zc_lt, zc_le, zc_ge, zc_gt, Option.toList_some, Option.toList_none, List.cons_append, List.nil_append, List.append_nil]
    all_goals exact h_z
  · by_cases c1_z : how = 1
    · subst c1_z
      simp (disch := omega) only [E_M_goesOn, B_218_0, B_218_21, B_218_23, B_218_39, B_218_84, hm_z, hx, X_becomes1 hm_z hf, inI, inL, isT, kInt, kByt, true_and, and_true, an_t, im_t, im_f, or_true, true_or, true_imp_iff, false_imp_iff, not_true_eq_false, not_false_eq_true, gK_uI, gK_uL, gK_uR, gK_uCI, gK_uCL, gN_uI, gN_uL, gN_uR, gN_uCI, gN_uCL, gR_uI, gR_uL, gR_uCI, gR_uCL, gI_uL, gI_uR, gI_uCL, gL_uI, gL_uR, gL_uCI, gz_uI, gz_uL, gz_uR, gz_uCI, gz_uCL, gs_uI, gs_uL, gs_uR, gs_uCI, gs_uCL, rI_at, rL_at, rR_at, rI_ne, rL_ne, rR_ne, rI_nk, rL_nk, rR_nk, rI_eq, rL_eq, rR_eq, zc_eq, zc_lt, zc_le, zc_ge, zc_gt, Option.toList_some, Option.toList_none, List.cons_append, List.nil_append, List.append_nil]
      all_goals exact h_z
    · have c2_z : how = 2 := by omega
      subst c2_z
      simp (disch := omega) only [E_M_goesOn, B_218_0, B_218_42, B_218_64, B_218_84, hm_z, X_becomes1 hm_z hf, inI, inL, isT, kInt, kByt, true_and, and_true, an_t, im_t, im_f, or_true, true_or, true_imp_iff, false_imp_iff, not_true_eq_false, not_false_eq_true, gK_uI, gK_uL, gK_uR, gK_uCI, gK_uCL, gN_uI, gN_uL, gN_uR, gN_uCI, gN_uCL, gR_uI, gR_uL, gR_uCI, gR_uCL, gI_uL, gI_uR, gI_uCL, gL_uI, gL_uR, gL_uCI, gz_uI, gz_uL, gz_uR, gz_uCI, gz_uCL, gs_uI, gs_uL, gs_uR, gs_uCI, gs_uCL, rI_at, rL_at, rR_at, rI_ne, rL_ne, rR_ne, rI_nk, rL_nk, rR_nk, rI_eq, rL_eq, rR_eq, zc_eq, zc_lt, zc_le, zc_ge, zc_gt, Option.toList_some, Option.toList_none, List.cons_append, List.nil_append, List.append_nil]
      all_goals exact h_z
end MA
