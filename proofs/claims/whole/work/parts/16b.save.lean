/-! THE PURE PART, part 16: copies of states. Own work. -/
/-- S is a_z copy of s now -/
def CpF (M M' : Mem) (S s : Nat) : Prop := (gK M' = gK M ∧ gN M' = gN M ∧ gz M' = gz M ∧ gs M' = gs M ∧ ∀ a_z, a_z ≠ S + 2 → gL M' a_z = gL M a_z) ∧ (∀ a_z, a_z ≠ S + 1 → gR M' a_z = gR M a_z) ∧ (∀ a_z, a_z ≠ S → a_z ≠ S + 2 → a_z ≠ S + 3 → a_z ≠ S + 4 → gI M' a_z = gI M a_z) ∧ (∀ x_z, 0 ≤ x_z → x_z < 7 → gR M' (S + 1) x_z = gR M (s + 1) x_z) ∧ (∀ i_z, 0 ≤ i_z → i_z < 6 → gI M' (S + 2) i_z = gI M (s + 2) i_z) ∧ (∀ i_z, 0 ≤ i_z → i_z < 24 → gI M' (S + 3) i_z = gI M (s + 3) i_z) ∧ (∀ i_z, 0 ≤ i_z → i_z < 56 → gI M' (S + 4) i_z = gI M (s + 4) i_z) ∧ (gI M' S 4 = gI M s 4 ∧ gI M' S 5 = gI M s 5 ∧ gI M' S 6 = gI M s 6)
section CB
variable {G : Env0} {Q : Option AV → Mem → Prop} {M : Mem} {s S : Nat}
theorem cp_loop1 {M0 : Mem} (hS_z : ShSa M0 S) (hs : ShSa M0 s) (hd_z : S + 5 ≤ s ∨ s + 5 ≤ S) (hp : ∀ x_z, 0 ≤ x_z → x_z < 7 → gR M0 (s + 1) x_z = 0 ∨ gK M0 (gR M0 (s + 1) x_z) = 10) (h_z : ∀ M1_z, (gK M1_z = gK M0 ∧ gN M1_z = gN M0 ∧ gz M1_z = gz M0 ∧ gs M1_z = gs M0 ∧ gL M1_z = gL M0 ∧ gI M1_z = gI M0) → (∀ a_z, a_z ≠ S + 1 → gR M1_z a_z = gR M0 a_z) → (∀ x_z, 0 ≤ x_z → x_z < 7 → gR M1_z (S + 1) x_z = gR M0 (s + 1) x_z) → At G 50 28 [a_r S, a_r s, a_i 0] [] M1_z Q) : ∀ (n_z : Nat) (i_z : Int) (M1_z : Mem), (7 - i_z).toNat = n_z → 0 ≤ i_z → i_z ≤ 7 → (gK M1_z = gK M0 ∧ gN M1_z = gN M0 ∧ gz M1_z = gz M0 ∧ gs M1_z = gs M0 ∧ gL M1_z = gL M0 ∧ gI M1_z = gI M0) → (∀ a_z, a_z ≠ S + 1 → gR M1_z a_z = gR M0 a_z) → (∀ x_z, 0 ≤ x_z → x_z < i_z → gR M1_z (S + 1) x_z = gR M0 (s + 1) x_z) → At G 50 2 [a_r S, a_r s, a_i i_z] [] M1_z Q := by
  intro n_z
  induction n_z with
  | zero =>
    intro i_z M1_z hn i0_z i1_z hK_z hR hx
    have e_z : i_z = 7 := by omega
    subst e_z
    have hh := h_z M1_z hK_z hR hx
    rw [B_50_2]
    simp (disch := omega) only [B_50_26, inI, inL, isT, kInt, kByt, true_and, and_true, an_t, im_t, im_f, or_true, true_or, true_imp_iff, false_imp_iff, not_true_eq_false, not_false_eq_true, gK_uI, gK_uL, gK_uR, gK_uCI, gK_uCL, gN_uI, gN_uL, gN_uR, gN_uCI, gN_uCL, gR_uI, gR_uL, gR_uCI, gR_uCL, gI_uL, gI_uR, gI_uCL, gL_uI, gL_uR, gL_uCI, gz_uI, gz_uL, gz_uR, gz_uCI, gz_uCL, gs_uI, gs_uL, gs_uR, gs_uCI, gs_uCL, rI_at, rL_at, rR_at, rI_ne, rL_ne, rR_ne, rI_nk, rL_nk, rR_nk, rI_eq, rL_eq, rR_eq, Option.toList_some, Option.toList_none, List.cons_append, List.nil_append, List.append_nil, zc_eq, zc_lt, zc_le, zc_ge, zc_gt]
    all_goals exact hh
  | succ n_z ih_z =>
    intro i_z M1_z hn i0_z i1_z hK_z hR hx
    obtain ⟨k1_z, k2_z, k3_z, k4_z, k5_z, k6_z⟩ := hK_z
    have eS : gR M1_z S = gR M0 S := hR S (by omega)
    have es : gR M1_z s = gR M0 s := hR s (by omega)
    have es1 : gR M1_z (s + 1) = gR M0 (s + 1) := hR (s + 1) (by omega)
    have hS1 : ShSa M1_z S := by
      unfold ShSa ShSax
      rw [k1_z, k2_z, eS]
      exact hS_z
    have hs1 : ShSa M1_z s := by
      unfold ShSa ShSax
      rw [k1_z, k2_z, es]
      exact hs
    have hp1 : gR M1_z (s + 1) i_z = 0 ∨ gK M1_z (gR M1_z (s + 1) i_z) = 10 := by
      rw [k1_z, es1]
      exact hp i_z i0_z (by omega)
    have hp2 : (gR M1_z (s + 1) i_z = 0 ∨ gK M1_z (gR M1_z (s + 1) i_z) + 109 = 119) := by omega
    have hh := ih_z (i_z + 1) (uR M1_z (S + 1) i_z (gR M1_z (s + 1) i_z)) (by omega) (by omega) (by omega) ⟨k1_z, k2_z, k3_z, k4_z, k5_z, k6_z⟩ (fun a_z n0_z => by rw [rR_ne n0_z]; exact hR a_z n0_z) (fun x_z x0_z x1_z => by
      by_cases e_z : x_z = i_z
      · subst e_z
        rw [rR_at, es1]
      · rw [rR_nk e_z]
        exact hx x_z x0_z (by omega))
    rw [B_50_2]
    have q7_z : ¬ 7 ≤ i_z := by omega
    refine ⟨fun q_z => absurd q_z q7_z, fun _ => ?_⟩
    simp (disch := omega) only [hS1.u, hs1.u, inI, inL, isT, kInt, kByt, true_and, and_true, an_t, im_t, im_f, or_true, true_or, true_imp_iff, false_imp_iff, not_true_eq_false, not_false_eq_true, gK_uI, gK_uL, gK_uR, gK_uCI, gK_uCL, gN_uI, gN_uL, gN_uR, gN_uCI, gN_uCL, gR_uI, gR_uL, gR_uCI, gR_uCL, gI_uL, gI_uR, gI_uCL, gL_uI, gL_uR, gL_uCI, gz_uI, gz_uL, gz_uR, gz_uCI, gz_uCL, gs_uI, gs_uL, gs_uR, gs_uCI, gs_uCL, rI_at, rL_at, rR_at, rI_ne, rL_ne, rR_ne, rI_nk, rL_nk, rR_nk, rI_eq, rL_eq, rR_eq]
    first | exact hh | exact ⟨hp2, hh⟩
theorem X_copyFrom (hS_z : ShSa M S) (hs : ShSa M s) (hd_z : S + 5 ≤ s ∨ s + 5 ≤ S) (hp : ∀ x_z, 0 ≤ x_z → x_z < 7 → gR M (s + 1) x_z = 0 ∨ gK M (gR M (s + 1) x_z) = 10) (hb_z : ∀ i_z, 0 ≤ i_z → i_z < 6 → isT (gI M (s + 2) i_z)) (h_z : ∀ M', CpF M M' S s → Q none M') : Call G J_Sa_copyFrom [a_r S, a_r s] M Q := by
  rw [E_Sa_copyFrom, B_50_0]
  refine cp_loop1 hS_z hs hd_z hp (fun M1_z hK_z hR hx => ?_) 7 0 M rfl (by decide) (by decide) ⟨rfl, rfl, rfl, rfl, rfl, rfl⟩ (fun _ _ => rfl) (fun x_z x0_z x1_z => by omega)
  obtain ⟨k1_z, k2_z, k3_z, k4_z, k5_z, k6_z⟩ := hK_z
  have eS : gR M1_z S = gR M S := hR S (by omega)
  have es : gR M1_z s = gR M s := hR s (by omega)
  have hS1 : ShSa M1_z S := by
    unfold ShSa ShSax
    rw [k1_z, k2_z, eS]
    exact hS_z
  have hs1 : ShSa M1_z s := by
    unfold ShSa ShSax
    rw [k1_z, k2_z, es]
    exact hs
  -- the second loop
  have lp : ∀ (n_z : Nat) (i_z : Int) (M2_z : Mem), (6 - i_z).toNat = n_z → 0 ≤ i_z → i_z ≤ 6 → Ex (fun r_z => r_z = S + 2) M1_z M2_z → (∀ x_z, 0 ≤ x_z → x_z < i_z → gI M2_z (S + 2) x_z = gI M1_z (s + 2) x_z) → At G 50 28 [a_r S, a_r s, a_i i_z] [] M2_z Q := by
    intro n_z
    induction n_z with
    | zero =>
      intro i_z M2_z hn i0_z i1_z hE hx2
      have e_z : i_z = 6 := by omega
      subst e_z
      obtain ⟨j1, j2_z, j3_z, j4_z, j5_z, j6_z⟩ := id hE
      have hS2 : ShSa M2_z S := by
        unfold ShSa ShSax
        rw [j1, j2_z, j3_z]
        exact hS1
      have hs2 : ShSa M2_z s := by
        unfold ShSa ShSax
        rw [j1, j2_z, j3_z]
        exact hs1
      have e24_z : gN M2_z (S + 3) = 24 := hS2.2.2.2.2.2.2.2.2.2.2.1
      have e56 : gN M2_z (S + 4) = 56 := hS2.2.2.2.2.2.2.2.2.2.2.2.2
      have fin_z := h_z (uI (uI (uI (uCI (uCI M2_z (S + 3) 0 (s + 3) 0 24) (S + 4) 0 (s + 4) 0 56) S 4 (gI M2_z s 4)) S 5 (gI M2_z s 5)) S 6 (gI M2_z s 6)) ?_
      · have n3_z : ¬ s + 3 = S + 3 := by omega
        have n4_z : ¬ s + 4 = S + 4 := by omega
        rw [B_50_28]
        simp (disch := omega) only [B_50_52, B_50_70, B_50_88, B_50_104, hS2.u, hs2.u, n3_z, n4_z, e24_z, e56, Nat.reduceEqDiff, false_and, or_false, false_or, rCI_ne, rCL_ne, inI, inL, isT, kInt, kByt, true_and, and_true, an_t, im_t, im_f, or_true, true_or, true_imp_iff, false_imp_iff, not_true_eq_false, not_false_eq_true, gK_uI, gK_uL, gK_uR, gK_uCI, gK_uCL, gN_uI, gN_uL, gN_uR, gN_uCI, gN_uCL, gR_uI, gR_uL, gR_uCI, gR_uCL, gI_uL, gI_uR, gI_uCL, gL_uI, gL_uR, gL_uCI, gz_uI, gz_uL, gz_uR, gz_uCI, gz_uCL, gs_uI, gs_uL, gs_uR, gs_uCI, gs_uCL, rI_at, rL_at, rR_at, rI_ne, rL_ne, rR_ne, rI_nk, rL_nk, rR_nk, rI_eq, rL_eq, rR_eq, Option.toList_some, Option.toList_none, List.cons_append, List.nil_append, List.append_nil, zc_eq, zc_lt, zc_le, zc_ge, zc_gt]
        all_goals exact fin_z
      · have r2 : ∀ a_z, a_z ≠ S + 2 → gI M2_z a_z = gI M a_z := fun a_z q_z => by rw [(j6_z a_z q_z).1, k6_z]
        generalize hv4 : gI M2_z s 4 = v4_z
        generalize hv5 : gI M2_z s 5 = v5
        generalize hv6 : gI M2_z s 6 = v6
        have rs := r2 s (by omega)
        rw [rs] at hv4 hv5 hv6
        refine ⟨⟨j1.trans k1_z, j2_z.trans k2_z, j4_z.trans k3_z, j5_z.trans k4_z, fun a_z q_z => ?_⟩, fun a_z q_z => ?_, fun a_z q0 q1_z q2_z q3_z => ?_, fun x_z x0_z x1_z => ?_, fun x_z x0_z x1_z => ?_, fun x_z x0_z x1_z => ?_, fun x_z x0_z x1_z => ?_, ⟨?_, ?_, ?_⟩⟩
        · show gL M2_z a_z = gL M a_z
          rw [← k5_z]
          exact (j6_z a_z q_z).2
        · show gR M2_z a_z = gR M a_z
          rw [j3_z]
          exact hR a_z q_z
        · rw [rI_ne q0, rI_ne q0, rI_ne q0, rCI_ne q3_z, rCI_ne q2_z, r2 a_z q1_z]
        · show gR M2_z (S + 1) x_z = gR M (s + 1) x_z
          rw [j3_z]
          exact hx x_z x0_z x1_z
        · rw [rI_ne (by omega), rI_ne (by omega), rI_ne (by omega), rCI_ne (by omega), rCI_ne (by omega), hx2 x_z x0_z x1_z, k6_z]
        · rw [rI_ne (by omega), rI_ne (by omega), rI_ne (by omega), rCI_ne (by omega), rCI_in ⟨rfl, by omega, by omega⟩, show (0 : Int) + (x_z - 0) = x_z from by omega, r2 _ (by omega)]
        · rw [rI_ne (by omega), rI_ne (by omega), rI_ne (by omega), rCI_in ⟨rfl, by omega, by omega⟩, show (0 : Int) + (x_z - 0) = x_z from by omega, rCI_ne (by omega), r2 _ (by omega)]
        · rw [rI_nk (by decide), rI_nk (by decide), rI_at, hv4]
        · rw [rI_nk (by decide), rI_at, hv5]
        · rw [rI_at, hv6]
    | succ n_z ih_z =>
      intro i_z M2_z hn i0_z i1_z hE hx2
      obtain ⟨j1, j2_z, j3_z, j4_z, j5_z, j6_z⟩ := id hE
      have hS2 : ShSa M2_z S := by
        unfold ShSa ShSax
        rw [j1, j2_z, j3_z]
        exact hS1
      have hs2 : ShSa M2_z s := by
        unfold ShSa ShSax
        rw [j1, j2_z, j3_z]
        exact hs1
      have rs : gI M2_z (s + 2) = gI M1_z (s + 2) := (j6_z _ (by omega)).1
      have hv : gI M2_z (s + 2) i_z = 0 ∨ gI M2_z (s + 2) i_z = 1 := by
        rw [rs, k6_z]
        exact hb_z i_z i0_z (by omega)
      have hh := ih_z (i_z + 1) (uI M2_z (S + 2) i_z (gI M2_z (s + 2) i_z)) (by omega) (by omega) (by omega) (hE.uI _ _ rfl) (fun x_z x0_z x1_z => by
        by_cases e_z : x_z = i_z
        · subst e_z
          rw [rI_at, rs]
        · rw [rI_nk e_z]
          exact hx2 x_z x0_z (by omega))
      rw [B_50_28]
      have q6_z : ¬ 6 ≤ i_z := by omega
      refine ⟨fun q_z => absurd q_z q6_z, fun _ => ?_⟩
      simp (disch := omega) only [hS2.u, hs2.u, inI, inL, isT, kInt, kByt, true_and, and_true, an_t, im_t, im_f, or_true, true_or, true_imp_iff, false_imp_iff, not_true_eq_false, not_false_eq_true, gK_uI, gK_uL, gK_uR, gK_uCI, gK_uCL, gN_uI, gN_uL, gN_uR, gN_uCI, gN_uCL, gR_uI, gR_uL, gR_uCI, gR_uCL, gI_uL, gI_uR, gI_uCL, gL_uI, gL_uR, gL_uCI, gz_uI, gz_uL, gz_uR, gz_uCI, gz_uCL, gs_uI, gs_uL, gs_uR, gs_uCI, gs_uCL, rI_at, rL_at, rR_at, rI_ne, rL_ne, rR_ne, rI_nk, rL_nk, rR_nk, rI_eq, rL_eq, rR_eq]
      first | exact hh | exact ⟨hv, hh⟩
  exact lp 6 0 M1_z rfl (by decide) (by decide) (Ex.refl _ _) (fun x_z x0_z x1_z => by omega)
end CB
