/-! THE PURE PART, part 18: letters in the model. Own work. -/
/-- k_z letters from x_z on, as a number -/
def wdL (t : Int → Int) (x_z : Int) : Nat → Int
  | 0 => 0
  | k_z + 1 => wdL t x_z k_z * 256 + t (x_z + k_z)
def wdV (t : Int → Int) (x_z : Int) (k_z : Nat) : Int := if k_z ≤ 7 then wdL t x_z k_z else 0
theorem wdL_bd {t : Int → Int} {x_z : Int} : ∀ (k_z : Nat), (∀ i_z : Nat, i_z < k_z → 0 ≤ t (x_z + i_z) ∧ t (x_z + i_z) ≤ 255) → 0 ≤ wdL t x_z k_z ∧ (k_z ≤ 6 → wdL t x_z k_z < 281474976710656)
  | 0, _ => by
    show (0 : Int) ≤ 0 ∧ (0 ≤ 6 → (0 : Int) < 281474976710656)
    omega
  | k_z + 1, h_z => by
    have hb_z : ∀ j_z : Nat, j_z ≤ k_z + 1 → 0 ≤ wdL t x_z j_z ∧ wdL t x_z j_z < 256 ^ j_z := by
      intro j_z
      induction j_z with
      | zero => exact fun _ => ⟨Int.le_refl _, show (0 : Int) < 256 ^ 0 from by decide⟩
      | succ j_z ih_z =>
        intro hj
        have i1_z := ih_z (by omega)
        have i2_z := h_z j_z (by omega)
        have e_z : wdL t x_z (j_z + 1) = wdL t x_z j_z * 256 + t (x_z + j_z) := rfl
        rw [e_z, Int.pow_succ]
        omega
    have q_z := hb_z (k_z + 1) (Nat.le_refl _)
    refine ⟨q_z.1, fun hk => ?_⟩
    have : k_z = 0 ∨ k_z = 1 ∨ k_z = 2 ∨ k_z = 3 ∨ k_z = 4 ∨ k_z = 5 := by omega
    rcases this with e_z | e_z | e_z | e_z | e_z | e_z <;> subst e_z <;> have q2_z := q_z.2 <;> simp only [Nat.zero_add, Nat.reduceAdd, Int.reducePow] at q2_z ⊢ <;> omega
section EF
variable {G : Env0} {Q : Option AV → Mem → Prop} {T : Mem} {m : Nat} {t : Int → Int} {L : Int}
theorem leM {x_z : Int} (x0_z : 0 ≤ x_z) (ht : ∀ i_z, 0 ≤ i_z → i_z < L → 0 ≤ t i_z ∧ t i_z ≤ 255) : ∀ (d_z : Nat) (T : Mem) (k_z : Nat) (u2_z : AV), RdM T m t L → x_z + k_z + d_z = L → gI T m 5 = x_z → gI T m 6 = x_z + k_z → (∀ T' k' u', Fq m T T' → x_z + (k' : Nat) = rnE (ltI t L) d_z (x_z + k_z) → gI T' m 6 = x_z + (k' : Nat) → gI T' m 5 = x_z → At G 173 176 [a_r m, a_l (wdV t x_z k'), u'] [] T' Q) → At G 173 118 [a_r m, a_l (wdV t x_z k_z), u2_z] [] T Q := by
  intro d_z
  induction d_z with
  | zero =>
    intro T k_z u2_z h_z hy h5 h6 hq
    have hq2 := hq T k_z u2_z (Fq.refl _ _) rfl h6 h5
    have lt := fun qq => X_letM (G := G) (Q := qq) (x_z := x_z + k_z) h_z (by omega)
    rw [ltI_out (by omega)] at lt
    have sm_z := h_z.1
    simp (disch := omega) only [B_173_118, sm_z.u, h6, lt, B_173_126, inI, inL, isT, kInt, kByt, true_and, and_true, an_t, im_t, im_f, or_true, true_or, true_imp_iff, false_imp_iff, not_true_eq_false, not_false_eq_true, gK_uI, gK_uL, gK_uR, gK_uCI, gK_uCL, gN_uI, gN_uL, gN_uR, gN_uCI, gN_uCL, gR_uI, gR_uL, gR_uCI, gR_uCL, gI_uL, gI_uR, gI_uCL, gL_uI, gL_uR, gL_uCI, gz_uI, gz_uL, gz_uR, gz_uCI, gz_uCL, gs_uI, gs_uL, gs_uR, gs_uCI, gs_uCL, rI_at, rL_at, rR_at, rI_ne, rL_ne, rR_ne, rI_nk, rL_nk, rR_nk, rI_eq, rL_eq, rR_eq, Option.toList_some, Option.toList_none, List.cons_append, List.nil_append, List.append_nil, zc_eq, zc_lt, zc_le, zc_ge, zc_gt]
    all_goals exact hq2
  | succ d_z ih_z =>
    intro T k_z u2_z h_z hy h5 h6 hq
    have e_z : rnE (ltI t L) (d_z + 1) (x_z + k_z) = if ltI t L (x_z + k_z) = 0 then x_z + k_z else rnE (ltI t L) d_z (x_z + k_z + 1) := rfl
    rw [e_z] at hq
    have lt := fun qq => X_letM (G := G) (Q := qq) (x_z := x_z + k_z) h_z (by omega)
    obtain ⟨sm_z, h4, l0, l1, hT_z⟩ := id h_z
    rw [B_173_118]
    by_cases c_z : ltI t L (x_z + k_z) = 0
    · rw [if_pos c_z] at hq
      rw [c_z] at lt
      have go_z := hq T k_z u2_z (Fq.refl _ _) rfl h6 h5
      simp (disch := omega) only [sm_z.u, h6, lt, B_173_126, inI, inL, isT, kInt, kByt, true_and, and_true, an_t, im_t, im_f, or_true, true_or, true_imp_iff, false_imp_iff, not_true_eq_false, not_false_eq_true, gK_uI, gK_uL, gK_uR, gK_uCI, gK_uCL, gN_uI, gN_uL, gN_uR, gN_uCI, gN_uCL, gR_uI, gR_uL, gR_uCI, gR_uCL, gI_uL, gI_uR, gI_uCL, gL_uI, gL_uR, gL_uCI, gz_uI, gz_uL, gz_uR, gz_uCI, gz_uCL, gs_uI, gs_uL, gs_uR, gs_uCI, gs_uCL, rI_at, rL_at, rR_at, rI_ne, rL_ne, rR_ne, rI_nk, rL_nk, rR_nk, rI_eq, rL_eq, rR_eq, Option.toList_some, Option.toList_none, List.cons_append, List.nil_append, List.append_nil, zc_eq, zc_lt, zc_le, zc_ge, zc_gt]
      all_goals exact go_z
    · rw [if_neg c_z] at hq
      have tk := hT_z (x_z + k_z) (by omega) (by omega)
      have tb_z := ht (x_z + k_z) (by omega) (by omega)
      have f1_z : Fq m T (uI T m 6 (x_z + k_z + 1)) := (Fq.refl _ _).uI 6 (x_z + k_z + 1) (by omega)
      have go_z := ih_z (uI T m 6 (x_z + k_z + 1)) (k_z + 1) a_u (h_z.fq f1_z) (by omega) (by rw [rI_nk (by decide)]; exact h5) (by rw [rI_at]; omega) (fun T' k' u' f2_z h1 h2 h3 => hq T' k' u' (f1_z.trans f2_z) (by rw [h1, show x_z + ((k_z + 1 : Nat) : Int) = x_z + k_z + 1 from by omega]) h2 h3)
      generalize ltI t L (x_z + k_z) = v_z at *
      by_cases c7_z : k_z < 7
      · have ev_z : wdV t x_z k_z = wdL t x_z k_z := if_pos (by omega)
        have ev2 : wdV t x_z (k_z + 1) = wdL t x_z k_z * 256 + t (x_z + k_z) := if_pos (by omega)
        have bd := wdL_bd (t := t) (x_z := x_z) k_z (fun i_z hi_z => ht _ (by omega) (by omega))
        have bd2 := bd.2 (by omega)
        rw [ev2] at go_z
        rw [ev_z]
        generalize wdL t x_z k_z = w_z at *
        have z1 : zLshl w_z 8 = w_z * 256 := shl8 bd.1 bd2
        have z2 : zLor (w_z * 256) (t (x_z + k_z)) = w_z * 256 + t (x_z + k_z) := or8 bd.1 bd2 tb_z.1 (by omega)
        simp (disch := omega) only [sm_z.u, h5, h6, lt, B_173_126, c_z, tk, z1, z2, B_173_162, inI, inL, isT, kInt, kByt, true_and, and_true, an_t, im_t, im_f, or_true, true_or, true_imp_iff, false_imp_iff, not_true_eq_false, not_false_eq_true, gK_uI, gK_uL, gK_uR, gK_uCI, gK_uCL, gN_uI, gN_uL, gN_uR, gN_uCI, gN_uCL, gR_uI, gR_uL, gR_uCI, gR_uCL, gI_uL, gI_uR, gI_uCL, gL_uI, gL_uR, gL_uCI, gz_uI, gz_uL, gz_uR, gz_uCI, gz_uCL, gs_uI, gs_uL, gs_uR, gs_uCI, gs_uCL, rI_at, rL_at, rR_at, rI_ne, rL_ne, rR_ne, rI_nk, rL_nk, rR_nk, rI_eq, rL_eq, rR_eq, Option.toList_some, Option.toList_none, List.cons_append, List.nil_append, List.append_nil, zc_eq, zc_lt, zc_le, zc_ge, zc_gt]
        all_goals exact go_z
      · have ev2 : wdV t x_z (k_z + 1) = 0 := if_neg (by omega)
        rw [ev2] at go_z
        simp (disch := omega) only [sm_z.u, h5, h6, lt, B_173_126, c_z, B_173_161, B_173_162, inI, inL, isT, kInt, kByt, true_and, and_true, an_t, im_t, im_f, or_true, true_or, true_imp_iff, false_imp_iff, not_true_eq_false, not_false_eq_true, gK_uI, gK_uL, gK_uR, gK_uCI, gK_uCL, gN_uI, gN_uL, gN_uR, gN_uCI, gN_uCL, gR_uI, gR_uL, gR_uCI, gR_uCL, gI_uL, gI_uR, gI_uCL, gL_uI, gL_uR, gL_uCI, gz_uI, gz_uL, gz_uR, gz_uCI, gz_uCL, gs_uI, gs_uL, gs_uR, gs_uCI, gs_uCL, rI_at, rL_at, rR_at, rI_ne, rL_ne, rR_ne, rI_nk, rL_nk, rR_nk, rI_eq, rL_eq, rR_eq, Option.toList_some, Option.toList_none, List.cons_append, List.nil_append, List.append_nil, zc_eq, zc_lt, zc_le, zc_ge, zc_gt]
        all_goals exact go_z
end EF
