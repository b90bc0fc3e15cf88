/-! THE PURE PART, part 14: the model ends its path. Own work. -/
/-- the model kept its path -/
def KpT (T T1 : Mem) (m : Nat) (p_z : Int) : Prop := Ex (fun r => r = m ∨ (m + 11 ≤ r ∧ r ≤ m + 16)) T T1 ∧ (∀ j_z, j_z ≠ 33 → j_z ≠ 35 → gI T1 m j_z = gI T m j_z) ∧ gI T1 m 33 = p_z + 1 ∧ gI T1 (m + 11) = rc (gI T (m + 11)) (24 * p_z) (gI T (m + 8)) 0 (gI T m 25) ∧ gI T1 (m + 12) = rc (gI T (m + 12)) (24 * p_z) (gI T (m + 9)) 0 (gI T m 25) ∧ gI T1 (m + 13) = rc (gI T (m + 13)) (24 * p_z) (gI T (m + 10)) 0 (gI T m 25) ∧ gI T1 (m + 14) = upf (gI T (m + 14)) p_z (gI T m 25) ∧ gI T1 (m + 15) = upf (gI T (m + 15)) p_z (gI T m 26)
section AJ
variable {G : Env0} {Q : Option AV → Mem → Prop} {M T : Mem} {c s m r : Nat}
theorem X_endTail {k_z : Nat} {T1 : Mem} {p_z n_z mk : Int} (hs : ShM T1 m) (hk : k_z ≠ 11) (hm_z : gI T1 m 27 = mk) (hm2 : mk ≤ 2) (h33 : gI T1 m 33 = p_z + 1) (p0_z : 0 ≤ p_z) (p1_z : p_z < 202) (hn : gI T1 (m + 6) 13 = n_z) (n0_z : 0 ≤ n_z) (n1_z : 0 < mk → n_z < 6) (h0 : mk ≤ 0 → Q none (uI (uI (uI T1 m 25 0) m 26 0) m 27 0)) (h1 : 0 < mk → Q none (uI (uI (uI (uI (uI T1 (m + 6) (14 + n_z) (2 * p_z + (mk - 1))) (m + 6) 13 (n_z + 1)) m 25 0) m 26 0) m 27 0)) : At G 233 25 [a_r m, a_i (k_z : Int)] [] T1 Q := by
  by_cases cm : mk ≤ 0
  · have hh := h0 cm
    have em := fun qq => X_empties (G := G) (Q := qq) hs
    simp (disch := omega) only [B_233_25, hs.u, hm_z, B_233_61, em, B_233_65, inI, inL, isT, kInt, kByt, true_and, and_true, an_t, im_t, im_f, or_true, true_or, true_imp_iff, false_imp_iff, not_true_eq_false, not_false_eq_true, gK_uI, gK_uL, gK_uR, gK_uCI, gK_uCL, gN_uI, gN_uL, gN_uR, gN_uCI, gN_uCL, gR_uI, gR_uL, gR_uCI, gR_uCL, gI_uL, gI_uR, gI_uCL, gL_uI, gL_uR, gL_uCI, gz_uI, gz_uL, gz_uR, gz_uCI, gz_uCL, gs_uI, gs_uL, gs_uR, gs_uCI, gs_uCL, rI_at, rL_at, rR_at, rI_ne, rL_ne, rR_ne, rI_nk, rL_nk, rR_nk, rI_eq, rL_eq, rR_eq, Option.toList_some, Option.toList_none, List.cons_append, List.nil_append, List.append_nil, zc_eq, zc_lt, zc_le, zc_ge, zc_gt]
    all_goals exact hh
  · have hh := h1 (by omega)
    have n2_z := n1_z (by omega)
    have cl_z := fun qq => X_clips (G := G) (Q := qq) (p_z := p_z) (r_z := mk - 1) hs (by omega) (by omega) (by omega) (by omega)
    rw [hn] at cl_z
    have hs2 : ShM (uI (uI T1 (m + 6) (14 + n_z) (2 * p_z + (mk - 1))) (m + 6) 13 (n_z + 1)) m := hs
    have em := fun qq => X_empties (G := G) (Q := qq) hs2
    have e1_z : p_z + 1 - 1 = p_z := by omega
    simp (disch := omega) only [B_233_25, hs.u, hm_z, h33, e1_z, B_233_46, B_233_52, cl_z, B_233_61, hs2.u, em, B_233_65, inI, inL, isT, kInt, kByt, true_and, and_true, an_t, im_t, im_f, or_true, true_or, true_imp_iff, false_imp_iff, not_true_eq_false, not_false_eq_true, gK_uI, gK_uL, gK_uR, gK_uCI, gK_uCL, gN_uI, gN_uL, gN_uR, gN_uCI, gN_uCL, gR_uI, gR_uL, gR_uCI, gR_uCL, gI_uL, gI_uR, gI_uCL, gL_uI, gL_uR, gL_uCI, gz_uI, gz_uL, gz_uR, gz_uCI, gz_uCL, gs_uI, gs_uL, gs_uR, gs_uCI, gs_uCL, rI_at, rL_at, rR_at, rI_ne, rL_ne, rR_ne, rI_nk, rL_nk, rR_nk, rI_eq, rL_eq, rR_eq, Option.toList_some, Option.toList_none, List.cons_append, List.nil_append, List.append_nil, zc_eq, zc_lt, zc_le, zc_ge, zc_gt]
    all_goals exact hh
theorem X_ends {k_z : Nat} {p_z it n_z mk d_z : Int} (hs : ShM T m) (hk : k_z = 9 ∨ k_z = 10) (hp : gI T m 33 = p_z) (p0_z : 0 ≤ p_z) (p1_z : p_z < 202) (z0 : 0 ≤ gI T m 25) (z1 : gI T m 25 ≤ 24) (hi_z : gI T m 35 = it) (i0_z : 0 ≤ it) (i1_z : it < 30) (hd_z : gI T m 36 = d_z) (d0_z : 0 ≤ d_z) (d1_z : d_z < 5) (s0_z : 0 ≤ gI T (m + 17) d_z) (s1_z : gI T (m + 17) d_z ≤ 100) (hm_z : gI T m 27 = mk) (hm2 : mk ≤ 2) (hn : gI T (m + 6) 13 = n_z) (n0_z : 0 ≤ n_z) (n1_z : 0 < mk → n_z < 6)
    (h_z : ∀ T1, KpT T T1 m p_z → gI T1 m 35 = it + 1 → gI T1 (m + 16) = rc (upf (upf (upf (upf (upf (gI T (m + 16)) (12 * it) (gI T (m + 6) 12)) (12 * it + 1) (if k_z = 10 then 1 else 0)) (12 * it + 2) p_z) (12 * it + 3) (gI T (m + 17) d_z - 1)) (12 * it + 4) (gI T (m + 18) d_z)) (12 * it + 5) (gI T (m + 6)) 13 7 → (mk ≤ 0 → Q none (uI (uI (uI T1 m 25 0) m 26 0) m 27 0)) ∧ (0 < mk → Q none (uI (uI (uI (uI (uI T1 (m + 6) (14 + n_z) (2 * p_z + (mk - 1))) (m + 6) 13 (n_z + 1)) m 25 0) m 26 0) m 27 0))) : Call G J_M_ends [a_r m, a_i (k_z : Int)] T Q := by
  have pt : Call G J_M_paints [a_r m, a_i (if k_z = 10 then 1 else 0), a_i d_z] T (fun r M2_z => At G 233 25 [a_r m, a_i (k_z : Int)] r.toList M2_z Q) := by
    refine X_paints hs hp p0_z p1_z z0 z1 hi_z i0_z i1_z d0_z d1_z s0_z s1_z (fun T1 hE hj h33 h35 h11 h12 h13 h14 h15 h16_z => ?_)
    have hs1 : ShM T1 m := Ex.sh (hE.mono (fun a_z ha_z => show m ≤ a_z ∧ a_z < m + 29 by omega)) hs
    obtain ⟨q0, q1_z⟩ := h_z T1 ⟨hE.mono (fun a_z ha_z => by omega), hj, h33, h11, h12, h13, h14, h15⟩ h35 h16_z
    exact X_endTail hs1 (by omega) (by rw [hj 27 (by decide) (by decide)]; exact hm_z) hm2 h33 p0_z p1_z (by rw [(hE.2.2.2.2.2 (m + 6) (by omega)).1]; exact hn) n0_z n1_z q0 q1_z
  rw [E_M_ends]
  rcases hk with hk | hk <;> subst hk
  · rw [if_neg (by decide)] at pt
    simp (disch := omega) only [B_233_0, B_233_17, B_233_18, hs.u, hd_z, Int.cast_ofNat_Int, inI, inL, isT, kInt, kByt, true_and, and_true, an_t, im_t, im_f, or_true, true_or, true_imp_iff, false_imp_iff, not_true_eq_false, not_false_eq_true, gK_uI, gK_uL, gK_uR, gK_uCI, gK_uCL, gN_uI, gN_uL, gN_uR, gN_uCI, gN_uCL, gR_uI, gR_uL, gR_uCI, gR_uCL, gI_uL, gI_uR, gI_uCL, gL_uI, gL_uR, gL_uCI, gz_uI, gz_uL, gz_uR, gz_uCI, gz_uCL, gs_uI, gs_uL, gs_uR, gs_uCI, gs_uCL, rI_at, rL_at, rR_at, rI_ne, rL_ne, rR_ne, rI_nk, rL_nk, rR_nk, rI_eq, rL_eq, rR_eq, Option.toList_some, Option.toList_none, List.cons_append, List.nil_append, List.append_nil, zc_eq, zc_lt, zc_le, zc_ge, zc_gt] at pt ⊢
    all_goals exact pt
  · rw [if_pos rfl] at pt
    simp (disch := omega) only [B_233_0, B_233_18, hs.u, hd_z, Int.cast_ofNat_Int, inI, inL, isT, kInt, kByt, true_and, and_true, an_t, im_t, im_f, or_true, true_or, true_imp_iff, false_imp_iff, not_true_eq_false, not_false_eq_true, gK_uI, gK_uL, gK_uR, gK_uCI, gK_uCL, gN_uI, gN_uL, gN_uR, gN_uCI, gN_uCL, gR_uI, gR_uL, gR_uCI, gR_uCL, gI_uL, gI_uR, gI_uCL, gL_uI, gL_uR, gL_uCI, gz_uI, gz_uL, gz_uR, gz_uCI, gz_uCL, gs_uI, gs_uL, gs_uR, gs_uCI, gs_uCL, rI_at, rL_at, rR_at, rI_ne, rL_ne, rR_ne, rI_nk, rL_nk, rR_nk, rI_eq, rL_eq, rR_eq, Option.toList_some, Option.toList_none, List.cons_append, List.nil_append, List.append_nil, zc_eq, zc_lt, zc_le, zc_ge, zc_gt] at pt ⊢
    all_goals exact pt
end AJ
