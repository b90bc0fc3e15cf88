/-! THE PURE PART, part 18: the code of a number in the model. Own work. -/
theorem nu_small {n_z d_z : Int} (hn : n_z.natAbs ≤ 999) (h0 : 1 ≤ d_z) (h9 : d_z ≤ 9) : (nu n_z d_z).natAbs ≤ 999 ∧ 1 ≤ nd n_z d_z ∧ nd n_z d_z ≤ 9 := by
  have g0 : 0 < (Int.gcd n_z d_z : Int) := by
    have : Int.gcd n_z d_z ≠ 0 := by
      rw [Ne, Int.gcd_eq_zero_iff]
      omega
    omega
  have e1_z : nu n_z d_z = n_z / (Int.gcd n_z d_z : Int) := by
    unfold nu
    rw [if_neg (by omega)]
  have e2_z : nd n_z d_z = d_z / (Int.gcd n_z d_z : Int) := by
    unfold nd
    rw [if_neg (by omega)]
  obtain ⟨a_z, ha_z⟩ := Int.gcd_dvd_left n_z d_z
  obtain ⟨c_z, hc_z⟩ := Int.gcd_dvd_right n_z d_z
  rw [e1_z, e2_z]
  generalize (Int.gcd n_z d_z : Int) = g_z at *
  have ea : n_z / g_z = a_z := by rw [ha_z]; exact Int.mul_ediv_cancel_left _ (by omega)
  have ec : d_z / g_z = c_z := by rw [hc_z]; exact Int.mul_ediv_cancel_left _ (by omega)
  rw [ea, ec]
  have c1_z : 1 ≤ c_z := by
    rcases Int.lt_or_le 0 c_z with q_z | q_z
    · omega
    · have : g_z * c_z ≤ 0 := Int.mul_nonpos_of_nonneg_of_nonpos (by omega) q_z
      omega
  have c9_z : c_z ≤ d_z := by
    have : 1 * c_z ≤ g_z * c_z := Int.mul_le_mul_of_nonneg_right (by omega) (by omega)
    omega
  have an : a_z.natAbs ≤ n_z.natAbs := by
    rw [ha_z, Int.natAbs_mul]
    exact Nat.le_mul_of_pos_left _ (by omega)
  omega
/-- the code of a number -/
def cdN (n_z d_z : Int) : Int := 10000 + 16 * (nu n_z d_z + 1000) + nd n_z d_z
theorem cdN_lit {n_z d_z : Int} (hn : n_z.natAbs ≤ 999) (h0 : 1 ≤ d_z) (h9 : d_z ≤ 9) : litOf (cdN n_z d_z) = low n_z d_z ∧ 10000 ≤ cdN n_z d_z := by
  obtain ⟨a_z, b_z, c_z⟩ := nu_small hn h0 h9
  unfold litOf cdN low lok
  rw [if_neg (by omega), if_pos (by omega)]
  refine ⟨?_, by omega⟩
  rw [show (10000 + 16 * (nu n_z d_z + 1000) + nd n_z d_z - 10000) / 16 - 1000 = nu n_z d_z from by omega, show (10000 + 16 * (nu n_z d_z + 1000) + nd n_z d_z - 10000) % 16 = nd n_z d_z from by omega]
/-- what the model divides -/
theorem cdN_tdiv {n_z v_z d_z : Int} (hv : 0 ≤ v_z) (hn : n_z = v_z ∨ n_z = -v_z) (h0 : 1 ≤ d_z) : (0 < (Int.gcd v_z d_z : Int) ∧ (Int.gcd v_z d_z : Int) ≤ d_z) ∧ Int.tdiv n_z (Int.gcd v_z d_z : Int) = nu n_z d_z ∧ Int.tdiv d_z (Int.gcd v_z d_z : Int) = nd n_z d_z := by
  have eg : Int.gcd n_z d_z = Int.gcd v_z d_z := by
    rcases hn with q_z | q_z <;> rw [q_z]
    simp [Int.gcd]
  have g0 : 0 < (Int.gcd v_z d_z : Int) := by
    have : Int.gcd v_z d_z ≠ 0 := by
      rw [Ne, Int.gcd_eq_zero_iff]
      omega
    omega
  have gd_z : (Int.gcd v_z d_z : Int) ≤ d_z := Int.le_of_dvd (by omega) (Int.gcd_dvd_right v_z d_z)
  refine ⟨⟨g0, gd_z⟩, ?_, ?_⟩
  · unfold nu
    rw [if_neg (by omega), eg]
    have : (Int.gcd v_z d_z : Int) ∣ n_z := by
      rw [← eg]
      exact Int.gcd_dvd_left n_z d_z
    exact Int.tdiv_eq_ediv_of_dvd this
  · unfold nd
    rw [if_neg (by omega), eg]
    exact Int.tdiv_eq_ediv_of_dvd (Int.gcd_dvd_right v_z d_z)
/-- three digits make less than a thousand -/
theorem dgs_v (t : Int → Int) (L e_z : Int) : ∀ (d_z : Nat) (k_z v_z : Int), d_z ≤ 4 → 0 ≤ v_z → v_z ≤ dB d_z → (dgs t L e_z d_z k_z v_z).1 < k_z + d_z → (dgs t L e_z d_z k_z v_z).2 ≤ 999
  | 0, k_z, v_z, _, v0_z, v1_z => by
    show k_z < k_z + ((0 : Nat) : Int) → v_z ≤ 999
    omega
  | d_z + 1, k_z, v_z, hd_z, v0_z, v1_z => by
    intro hk
    have st_z := dB_step (d_z := d_z) (by omega)
    unfold dgs at hk ⊢
    by_cases c_z : k_z < e_z ∧ 48 ≤ sg t L k_z ∧ sg t L k_z ≤ 57
    · rw [if_pos c_z] at hk ⊢
      exact dgs_v t L e_z d_z (k_z + 1) (10 * v_z + sg t L k_z - 48) (by omega) (by omega) (by omega) (by omega)
    · rw [if_neg c_z]
      have : d_z = 0 ∨ d_z = 1 ∨ d_z = 2 ∨ d_z = 3 := by omega
      have b1 : dB 1 = 999 := rfl
      have b2 : dB 2 = 99 := rfl
      have b3 : dB 3 = 9 := rfl
      have b4 : dB 4 = 0 := rfl
      show v_z ≤ 999
      rcases this with q_z | q_z | q_z | q_z <;> subst q_z <;> simp only [Nat.zero_add, Nat.reduceAdd] at v1_z <;> omega
section EE
variable {G : Env0} {Q : Option AV → Mem → Prop} {T : Mem} {m : Nat} {t : Int → Int} {L : Int}
theorem X_numCode {x_z e_z : Int} (h_z : RdM T m t L) (h5 : gI T m 5 = x_z) (h6 : gI T m 6 = e_z) (x0_z : 0 ≤ x_z) (xe : x_z < e_z) (e1_z : e_z ≤ L) (ht : ∀ i_z, 0 ≤ i_z → i_z < L → 0 ≤ t i_z ∧ t i_z ≤ 255) (hQ : Q (some (a_i (if nuD t L x_z e_z = 0 then -1 else cdN (nuN t L x_z e_z) (nuD t L x_z e_z)))) T) : Call G J_M_numberCode [a_r m] T Q := by
  obtain ⟨sm_z, h4, l0, l1, hT_z⟩ := id h_z
  have tx := hT_z x_z x0_z (by omega)
  have sx : sg t L x_z = t x_z := sg_in ⟨x0_z, by omega⟩
  have ff_z : x_z ≤ nuF t L x_z ∧ nuF t L x_z ≤ e_z := by
    unfold nuF
    split <;> omega
  have bd := dgs_bd t L e_z 4 (nuF t L x_z) 0 (by decide) (by decide) (by decide)
  have bv_z := dgs_v t L e_z 4 (nuF t L x_z) 0 (by decide) (by decide) (by decide)
  have tail_z : ∀ ng : Int, (ng = 0 ∧ ¬ sg t L x_z = 45) ∨ (ng = 1 ∧ sg t L x_z = 45) → At G 175 43 [a_r m, a_i ng, a_i (nuF t L x_z), a_i (nuF t L x_z), a_i 0, a_u, a_u, a_u] [] T Q := by
    intro ng hng
    refine X_dgM (ng := ng) h_z h6 e1_z (by omega) 4 (nuF t L x_z) 0 (by decide) (Int.le_refl _) ff_z.2 (by omega) (by decide) (by decide) (fun k' v' hkv => ?_)
    have ek : (dgs t L e_z 4 (nuF t L x_z) 0).1 = k' := by rw [← hkv]
    have ev_z : (dgs t L e_z 4 (nuF t L x_z) 0).2 = v' := by rw [← hkv]
    unfold nuD nuN at hQ
    rw [ek, ev_z] at hQ bd bv_z
    have dg := fun (w_z : Int) (w0_z : 0 ≤ w_z) (w1_z : w_z ≤ 9) (qq : Option AV → Mem → Prop) => X_digM (G := G) (Q := qq) (x_z := k' + 1) (w_z := w_z) h_z h6 e1_z (by omega) w0_z w1_z
    have d2_z := fun qq => dg 2 (by decide) (by decide) qq
    clear dg ek ev_z hkv
    have tf := fun (c_z : nuF t L x_z < e_z) => hT_z (nuF t L x_z) (by omega) (by omega)
    have sf : nuF t L x_z < e_z → sg t L (nuF t L x_z) = t (nuF t L x_z) := fun c_z => sg_in ⟨by omega, by omega⟩
    generalize nuF t L x_z = f_z at *
    have nin := fun qq => Y_in (G := G) (M := T) (Q := qq) (x_z := k' - f_z) (y_z := 1) (w_z := 3)
    -- the code itself
    have fin_z : ∀ k2_z d_z w_z : Int, e_z ≤ k2_z → k2_z ≤ 200 → 1 ≤ d_z → d_z ≤ 9 → v' ≤ 999 → Q (some (a_i (cdN (if sg t L x_z = 45 then -v' else v') d_z))) T → At G 175 165 [a_r m, a_i ng, a_i k2_z, a_i f_z, a_i v', a_i w_z, a_i d_z, a_u] [] T Q := by
      intro k2_z d_z w_z hk2 _ d1_z d9_z hv hq
      have hn : (if sg t L x_z = 45 then -v' else v') = v' ∨ (if sg t L x_z = 45 then -v' else v') = -v' := by
        split
        · exact Or.inr rfl
        · exact Or.inl rfl
      have sm2 := nu_small (n_z := if sg t L x_z = 45 then -v' else v') (d_z := d_z) (by split <;> omega) d1_z d9_z
      obtain ⟨⟨g0, g1⟩, t1_z, t2_z⟩ := cdN_tdiv (n_z := if sg t L x_z = 45 then -v' else v') (v_z := v') (d_z := d_z) (by omega) hn d1_z
      have go_z : Call G J_M_divisor [a_l v', a_l d_z] T (fun r1_z M2_z => At G 175 184 [a_r m, a_i ng, a_i k2_z, a_i f_z, a_i v', a_i w_z, a_i d_z, a_u] r1_z.toList M2_z Q) := by
        refine X_divisor (by omega) (by omega) ?_
        unfold cdN at hq
        generalize (Int.gcd v' d_z : Int) = g_z at *
        have zl : zL2i g_z = g_z := l2i_id ⟨by omega, by omega⟩
        rcases hng with ⟨q1_z, q2_z⟩ | ⟨q1_z, q2_z⟩
        · rw [if_neg q2_z] at hq t1_z t2_z sm2
          generalize nu v' d_z = a1_z at *
          generalize nd v' d_z = a2 at *
          simp (disch := omega) only [B_175_184, zl, q1_z, B_175_202, B_175_204, t1_z, t2_z, inI, inL, isT, kInt, kByt, true_and, and_true, an_t, im_t, im_f, or_true, true_or, true_imp_iff, false_imp_iff, not_true_eq_false, not_false_eq_true, gK_uI, gK_uL, gK_uR, gK_uCI, gK_uCL, gN_uI, gN_uL, gN_uR, gN_uCI, gN_uCL, gR_uI, gR_uL, gR_uCI, gR_uCL, gI_uL, gI_uR, gI_uCL, gL_uI, gL_uR, gL_uCI, gz_uI, gz_uL, gz_uR, gz_uCI, gz_uCL, gs_uI, gs_uL, gs_uR, gs_uCI, gs_uCL, rI_at, rL_at, rR_at, rI_ne, rL_ne, rR_ne, rI_nk, rL_nk, rR_nk, rI_eq, rL_eq, rR_eq, Option.toList_some, Option.toList_none, List.cons_append, List.nil_append, List.append_nil, zc_eq, zc_lt, zc_le, zc_ge, zc_gt]
          all_goals exact hq
        · rw [if_pos q2_z] at hq t1_z t2_z sm2
          generalize nu (-v') d_z = a1_z at *
          generalize nd (-v') d_z = a2 at *
          simp (disch := omega) only [B_175_184, zl, q1_z, B_175_204, t1_z, t2_z, inI, inL, isT, kInt, kByt, true_and, and_true, an_t, im_t, im_f, or_true, true_or, true_imp_iff, false_imp_iff, not_true_eq_false, not_false_eq_true, gK_uI, gK_uL, gK_uR, gK_uCI, gK_uCL, gN_uI, gN_uL, gN_uR, gN_uCI, gN_uCL, gR_uI, gR_uL, gR_uCI, gR_uCL, gI_uL, gI_uR, gI_uCL, gL_uI, gL_uR, gL_uCI, gz_uI, gz_uL, gz_uR, gz_uCI, gz_uCL, gs_uI, gs_uL, gs_uR, gs_uCI, gs_uCL, rI_at, rL_at, rR_at, rI_ne, rL_ne, rR_ne, rI_nk, rL_nk, rR_nk, rI_eq, rL_eq, rR_eq, Option.toList_some, Option.toList_none, List.cons_append, List.nil_append, List.append_nil, zc_eq, zc_lt, zc_le, zc_ge, zc_gt]
          all_goals exact hq
      simp (disch := omega) only [B_175_165, sm_z.u, h6, B_175_175, inI, inL, isT, kInt, kByt, true_and, and_true, an_t, im_t, im_f, or_true, true_or, true_imp_iff, false_imp_iff, not_true_eq_false, not_false_eq_true, gK_uI, gK_uL, gK_uR, gK_uCI, gK_uCL, gN_uI, gN_uL, gN_uR, gN_uCI, gN_uCL, gR_uI, gR_uL, gR_uCI, gR_uCL, gI_uL, gI_uR, gI_uCL, gL_uI, gL_uR, gL_uCI, gz_uI, gz_uL, gz_uR, gz_uCI, gz_uCL, gs_uI, gs_uL, gs_uR, gs_uCI, gs_uCL, rI_at, rL_at, rR_at, rI_ne, rL_ne, rR_ne, rI_nk, rL_nk, rR_nk, rI_eq, rL_eq, rR_eq, Option.toList_some, Option.toList_none, List.cons_append, List.nil_append, List.append_nil, zc_eq, zc_lt, zc_le, zc_ge, zc_gt]
      all_goals exact go_z
    have bad165 : ∀ k2_z d_z w_z : Int, k2_z < e_z → Q (some (a_i (-1))) T → At G 175 165 [a_r m, a_i ng, a_i k2_z, a_i f_z, a_i v', a_i w_z, a_i d_z, a_u] [] T Q := by
      intro k2_z d_z w_z hk2 hq
      simp (disch := omega) only [B_175_165, sm_z.u, h6, inI, inL, isT, kInt, kByt, true_and, and_true, an_t, im_t, im_f, or_true, true_or, true_imp_iff, false_imp_iff, not_true_eq_false, not_false_eq_true, gK_uI, gK_uL, gK_uR, gK_uCI, gK_uCL, gN_uI, gN_uL, gN_uR, gN_uCI, gN_uCL, gR_uI, gR_uL, gR_uCI, gR_uCL, gI_uL, gI_uR, gI_uCL, gL_uI, gL_uR, gL_uCI, gz_uI, gz_uL, gz_uR, gz_uCI, gz_uCL, gs_uI, gs_uL, gs_uR, gs_uCI, gs_uCL, rI_at, rL_at, rR_at, rI_ne, rL_ne, rR_ne, rI_nk, rL_nk, rR_nk, rI_eq, rL_eq, rR_eq, Option.toList_some, Option.toList_none, List.cons_append, List.nil_append, List.append_nil, zc_eq, zc_lt, zc_le, zc_ge, zc_gt]
      all_goals exact hq
    by_cases bad_z : k' - f_z < 1 ∨ 3 < k' - f_z ∨ (1 < k' - f_z ∧ sg t L f_z = 48)
    · rw [if_pos bad_z, if_pos rfl] at hQ
      by_cases c1_z : 1 ≤ k' - f_z ∧ k' - f_z ≤ 3
      · rw [zB_t c1_z] at nin
        have f48 : t f_z = 48 := by
          rw [← sf (by omega)]
          omega
        have tf1 := tf (by omega)
        simp (disch := omega) only [B_175_82, nin, B_175_94, sm_z.u, tf1, f48, not_true_eq_false, B_175_114, inI, inL, isT, kInt, kByt, true_and, and_true, an_t, im_t, im_f, or_true, true_or, true_imp_iff, false_imp_iff, not_true_eq_false, not_false_eq_true, gK_uI, gK_uL, gK_uR, gK_uCI, gK_uCL, gN_uI, gN_uL, gN_uR, gN_uCI, gN_uCL, gR_uI, gR_uL, gR_uCI, gR_uCL, gI_uL, gI_uR, gI_uCL, gL_uI, gL_uR, gL_uCI, gz_uI, gz_uL, gz_uR, gz_uCI, gz_uCL, gs_uI, gs_uL, gs_uR, gs_uCI, gs_uCL, rI_at, rL_at, rR_at, rI_ne, rL_ne, rR_ne, rI_nk, rL_nk, rR_nk, rI_eq, rL_eq, rR_eq, Option.toList_some, Option.toList_none, List.cons_append, List.nil_append, List.append_nil, zc_eq, zc_lt, zc_le, zc_ge, zc_gt]
        all_goals exact hQ
      · rw [zB_f c1_z] at nin
        simp (disch := omega) only [B_175_82, nin, B_175_94, B_175_114, inI, inL, isT, kInt, kByt, true_and, and_true, an_t, im_t, im_f, or_true, true_or, true_imp_iff, false_imp_iff, not_true_eq_false, not_false_eq_true, gK_uI, gK_uL, gK_uR, gK_uCI, gK_uCL, gN_uI, gN_uL, gN_uR, gN_uCI, gN_uCL, gR_uI, gR_uL, gR_uCI, gR_uCL, gI_uL, gI_uR, gI_uCL, gL_uI, gL_uR, gL_uCI, gz_uI, gz_uL, gz_uR, gz_uCI, gz_uCL, gs_uI, gs_uL, gs_uR, gs_uCI, gs_uCL, rI_at, rL_at, rR_at, rI_ne, rL_ne, rR_ne, rI_nk, rL_nk, rR_nk, rI_eq, rL_eq, rR_eq, Option.toList_some, Option.toList_none, List.cons_append, List.nil_append, List.append_nil, zc_eq, zc_lt, zc_le, zc_ge, zc_gt]
        all_goals exact hQ
    · rw [if_neg bad_z] at hQ
      rw [zB_t (by omega)] at nin
      have v999 := bv_z (by omega)
      have at116 : At G 175 116 [a_r m, a_i ng, a_i k', a_i f_z, a_i v', a_i (k' - f_z), a_u, a_u] [] T Q := by
        by_cases ce : k' = e_z
        · rw [if_pos ce, if_neg (by decide)] at hQ
          have go_z := fin_z k' 1 (k' - f_z) (by omega) (by omega) (by decide) (by decide) v999 hQ
          simp (disch := omega) only [B_175_116, sm_z.u, h6, inI, inL, isT, kInt, kByt, true_and, and_true, an_t, im_t, im_f, or_true, true_or, true_imp_iff, false_imp_iff, not_true_eq_false, not_false_eq_true, gK_uI, gK_uL, gK_uR, gK_uCI, gK_uCL, gN_uI, gN_uL, gN_uR, gN_uCI, gN_uCL, gR_uI, gR_uL, gR_uCI, gR_uCL, gI_uL, gI_uR, gI_uCL, gL_uI, gL_uR, gL_uCI, gz_uI, gz_uL, gz_uR, gz_uCI, gz_uCL, gs_uI, gs_uL, gs_uR, gs_uCI, gs_uCL, rI_at, rL_at, rR_at, rI_ne, rL_ne, rR_ne, rI_nk, rL_nk, rR_nk, rI_eq, rL_eq, rR_eq, Option.toList_some, Option.toList_none, List.cons_append, List.nil_append, List.append_nil, zc_eq, zc_lt, zc_le, zc_ge, zc_gt]
          all_goals exact go_z
        · rw [if_neg ce] at hQ
          have sk : sg t L k' = t k' := sg_in ⟨by omega, by omega⟩
          have tk := hT_z k' (by omega) (by omega)
          by_cases c47_z : t k' = 47
          · by_cases cd : k' + 1 < e_z ∧ 48 + 2 ≤ t (k' + 1) ∧ t (k' + 1) ≤ 57
            · have sk1 : sg t L (k' + 1) = t (k' + 1) := sg_in ⟨by omega, by omega⟩
              have tk1 := hT_z (k' + 1) (by omega) (by omega)
              rw [zB_t cd] at d2_z
              rw [sk, sk1] at hQ
              have d9_z : 2 ≤ t (k' + 1) - 48 ∧ t (k' + 1) - 48 ≤ 9 := by omega
              generalize t (k' + 1) = w_z at *
              by_cases c2_z : k' + 2 = e_z
              · have eD : (if t k' = 47 ∧ k' + 2 = e_z ∧ 2 ≤ w_z - 48 ∧ w_z - 48 ≤ 9 then w_z - 48 else 0) = w_z - 48 := if_pos ⟨c47_z, c2_z, d9_z⟩
                rw [eD, if_neg (by omega)] at hQ
                have go_z := fin_z (k' + 2) (w_z - 48) (k' - f_z) (by omega) (by omega) (by omega) (by omega) v999 hQ
                simp (disch := omega) only [B_175_116, sm_z.u, h6, tk, c47_z, not_true_eq_false, d2_z, B_175_146, tk1, inI, inL, isT, kInt, kByt, true_and, and_true, an_t, im_t, im_f, or_true, true_or, true_imp_iff, false_imp_iff, not_true_eq_false, not_false_eq_true, gK_uI, gK_uL, gK_uR, gK_uCI, gK_uCL, gN_uI, gN_uL, gN_uR, gN_uCI, gN_uCL, gR_uI, gR_uL, gR_uCI, gR_uCL, gI_uL, gI_uR, gI_uCL, gL_uI, gL_uR, gL_uCI, gz_uI, gz_uL, gz_uR, gz_uCI, gz_uCL, gs_uI, gs_uL, gs_uR, gs_uCI, gs_uCL, rI_at, rL_at, rR_at, rI_ne, rL_ne, rR_ne, rI_nk, rL_nk, rR_nk, rI_eq, rL_eq, rR_eq, Option.toList_some, Option.toList_none, List.cons_append, List.nil_append, List.append_nil, zc_eq, zc_lt, zc_le, zc_ge, zc_gt]
                all_goals exact go_z
              · have eD : (if t k' = 47 ∧ k' + 2 = e_z ∧ 2 ≤ w_z - 48 ∧ w_z - 48 ≤ 9 then w_z - 48 else 0) = 0 := if_neg (fun q_z => c2_z q_z.2.1)
                rw [eD, if_pos rfl] at hQ
                have go_z := bad165 (k' + 2) (w_z - 48) (k' - f_z) (by omega) hQ
                simp (disch := omega) only [B_175_116, sm_z.u, h6, tk, c47_z, not_true_eq_false, d2_z, B_175_146, tk1, inI, inL, isT, kInt, kByt, true_and, and_true, an_t, im_t, im_f, or_true, true_or, true_imp_iff, false_imp_iff, not_true_eq_false, not_false_eq_true, gK_uI, gK_uL, gK_uR, gK_uCI, gK_uCL, gN_uI, gN_uL, gN_uR, gN_uCI, gN_uCL, gR_uI, gR_uL, gR_uCI, gR_uCL, gI_uL, gI_uR, gI_uCL, gL_uI, gL_uR, gL_uCI, gz_uI, gz_uL, gz_uR, gz_uCI, gz_uCL, gs_uI, gs_uL, gs_uR, gs_uCI, gs_uCL, rI_at, rL_at, rR_at, rI_ne, rL_ne, rR_ne, rI_nk, rL_nk, rR_nk, rI_eq, rL_eq, rR_eq, Option.toList_some, Option.toList_none, List.cons_append, List.nil_append, List.append_nil, zc_eq, zc_lt, zc_le, zc_ge, zc_gt]
                all_goals exact go_z
            · rw [zB_f cd] at d2_z
              have eD : (if sg t L k' = 47 ∧ k' + 2 = e_z ∧ 2 ≤ sg t L (k' + 1) - 48 ∧ sg t L (k' + 1) - 48 ≤ 9 then sg t L (k' + 1) - 48 else 0) = 0 := if_neg (fun q_z => by
                obtain ⟨-, q2_z, q3_z, q4_z⟩ := q_z
                have sk1 : sg t L (k' + 1) = t (k' + 1) := sg_in ⟨by omega, by omega⟩
                rw [sk1] at q3_z q4_z
                exact cd (by omega))
              rw [eD, if_pos rfl] at hQ
              have go_z := bad165 k' 1 (k' - f_z) (by omega) hQ
              simp (disch := omega) only [B_175_116, sm_z.u, h6, tk, c47_z, not_true_eq_false, d2_z, B_175_146, inI, inL, isT, kInt, kByt, true_and, and_true, an_t, im_t, im_f, or_true, true_or, true_imp_iff, false_imp_iff, not_true_eq_false, not_false_eq_true, gK_uI, gK_uL, gK_uR, gK_uCI, gK_uCL, gN_uI, gN_uL, gN_uR, gN_uCI, gN_uCL, gR_uI, gR_uL, gR_uCI, gR_uCL, gI_uL, gI_uR, gI_uCL, gL_uI, gL_uR, gL_uCI, gz_uI, gz_uL, gz_uR, gz_uCI, gz_uCL, gs_uI, gs_uL, gs_uR, gs_uCI, gs_uCL, rI_at, rL_at, rR_at, rI_ne, rL_ne, rR_ne, rI_nk, rL_nk, rR_nk, rI_eq, rL_eq, rR_eq, Option.toList_some, Option.toList_none, List.cons_append, List.nil_append, List.append_nil, zc_eq, zc_lt, zc_le, zc_ge, zc_gt]
              all_goals exact go_z
          · have eD : (if sg t L k' = 47 ∧ k' + 2 = e_z ∧ 2 ≤ sg t L (k' + 1) - 48 ∧ sg t L (k' + 1) - 48 ≤ 9 then sg t L (k' + 1) - 48 else 0) = 0 := if_neg (fun q_z => c47_z (by rw [← sk]; exact q_z.1))
            rw [eD, if_pos rfl] at hQ
            have go_z := bad165 k' 1 (k' - f_z) (by omega) hQ
            simp (disch := omega) only [B_175_116, sm_z.u, h6, tk, c47_z, not_false_eq_true, inI, inL, isT, kInt, kByt, true_and, and_true, an_t, im_t, im_f, or_true, true_or, true_imp_iff, false_imp_iff, not_true_eq_false, not_false_eq_true, gK_uI, gK_uL, gK_uR, gK_uCI, gK_uCL, gN_uI, gN_uL, gN_uR, gN_uCI, gN_uCL, gR_uI, gR_uL, gR_uCI, gR_uCL, gI_uL, gI_uR, gI_uCL, gL_uI, gL_uR, gL_uCI, gz_uI, gz_uL, gz_uR, gz_uCI, gz_uCL, gs_uI, gs_uL, gs_uR, gs_uCI, gs_uCL, rI_at, rL_at, rR_at, rI_ne, rL_ne, rR_ne, rI_nk, rL_nk, rR_nk, rI_eq, rL_eq, rR_eq, Option.toList_some, Option.toList_none, List.cons_append, List.nil_append, List.append_nil, zc_eq, zc_lt, zc_le, zc_ge, zc_gt]
            all_goals exact go_z
      by_cases c1_z : k' - f_z ≤ 1
      · simp (disch := omega) only [B_175_82, nin, B_175_94, inI, inL, isT, kInt, kByt, true_and, and_true, an_t, im_t, im_f, or_true, true_or, true_imp_iff, false_imp_iff, not_true_eq_false, not_false_eq_true, gK_uI, gK_uL, gK_uR, gK_uCI, gK_uCL, gN_uI, gN_uL, gN_uR, gN_uCI, gN_uCL, gR_uI, gR_uL, gR_uCI, gR_uCL, gI_uL, gI_uR, gI_uCL, gL_uI, gL_uR, gL_uCI, gz_uI, gz_uL, gz_uR, gz_uCI, gz_uCL, gs_uI, gs_uL, gs_uR, gs_uCI, gs_uCL, rI_at, rL_at, rR_at, rI_ne, rL_ne, rR_ne, rI_nk, rL_nk, rR_nk, rI_eq, rL_eq, rR_eq, Option.toList_some, Option.toList_none, List.cons_append, List.nil_append, List.append_nil, zc_eq, zc_lt, zc_le, zc_ge, zc_gt]
        all_goals exact at116
      · have f48 : ¬ t f_z = 48 := fun q_z => bad_z (Or.inr (Or.inr ⟨by omega, by rw [sf (by omega)]; exact q_z⟩))
        have tf1 := tf (by omega)
        simp (disch := omega) only [B_175_82, nin, B_175_94, sm_z.u, tf1, f48, not_false_eq_true, inI, inL, isT, kInt, kByt, true_and, and_true, an_t, im_t, im_f, or_true, true_or, true_imp_iff, false_imp_iff, not_true_eq_false, not_false_eq_true, gK_uI, gK_uL, gK_uR, gK_uCI, gK_uCL, gN_uI, gN_uL, gN_uR, gN_uCI, gN_uCL, gR_uI, gR_uL, gR_uCI, gR_uCL, gI_uL, gI_uR, gI_uCL, gL_uI, gL_uR, gL_uCI, gz_uI, gz_uL, gz_uR, gz_uCI, gz_uCL, gs_uI, gs_uL, gs_uR, gs_uCI, gs_uCL, rI_at, rL_at, rR_at, rI_ne, rL_ne, rR_ne, rI_nk, rL_nk, rR_nk, rI_eq, rL_eq, rR_eq, Option.toList_some, Option.toList_none, List.cons_append, List.nil_append, List.append_nil, zc_eq, zc_lt, zc_le, zc_ge, zc_gt]
        all_goals exact at116
  by_cases c_z : sg t L x_z = 45
  · have go_z := tail_z 1 (Or.inr ⟨rfl, c_z⟩)
    rw [show nuF t L x_z = x_z + 1 from if_pos c_z] at go_z
    rw [sx] at c_z
    simp (disch := omega) only [E_M_numberCode, B_175_0, sm_z.u, h5, tx, c_z, not_true_eq_false, B_175_19, B_175_37, inI, inL, isT, kInt, kByt, true_and, and_true, an_t, im_t, im_f, or_true, true_or, true_imp_iff, false_imp_iff, not_true_eq_false, not_false_eq_true, gK_uI, gK_uL, gK_uR, gK_uCI, gK_uCL, gN_uI, gN_uL, gN_uR, gN_uCI, gN_uCL, gR_uI, gR_uL, gR_uCI, gR_uCL, gI_uL, gI_uR, gI_uCL, gL_uI, gL_uR, gL_uCI, gz_uI, gz_uL, gz_uR, gz_uCI, gz_uCL, gs_uI, gs_uL, gs_uR, gs_uCI, gs_uCL, rI_at, rL_at, rR_at, rI_ne, rL_ne, rR_ne, rI_nk, rL_nk, rR_nk, rI_eq, rL_eq, rR_eq, Option.toList_some, Option.toList_none, List.cons_append, List.nil_append, List.append_nil, zc_eq, zc_lt, zc_le, zc_ge, zc_gt]
    all_goals exact go_z
  · have go_z := tail_z 0 (Or.inl ⟨rfl, c_z⟩)
    rw [show nuF t L x_z = x_z from if_neg c_z] at go_z
    rw [sx] at c_z
    simp (disch := omega) only [E_M_numberCode, B_175_0, sm_z.u, h5, tx, c_z, not_false_eq_true, B_175_18, B_175_19, B_175_33, B_175_37, inI, inL, isT, kInt, kByt, true_and, and_true, an_t, im_t, im_f, or_true, true_or, true_imp_iff, false_imp_iff, not_true_eq_false, not_false_eq_true, gK_uI, gK_uL, gK_uR, gK_uCI, gK_uCL, gN_uI, gN_uL, gN_uR, gN_uCI, gN_uCL, gR_uI, gR_uL, gR_uCI, gR_uCL, gI_uL, gI_uR, gI_uCL, gL_uI, gL_uR, gL_uCI, gz_uI, gz_uL, gz_uR, gz_uCI, gz_uCL, gs_uI, gs_uL, gs_uR, gs_uCI, gs_uCL, rI_at, rL_at, rR_at, rI_ne, rL_ne, rR_ne, rI_nk, rL_nk, rR_nk, rI_eq, rL_eq, rR_eq, Option.toList_some, Option.toList_none, List.cons_append, List.nil_append, List.append_nil, zc_eq, zc_lt, zc_le, zc_ge, zc_gt]
    all_goals exact go_z
end EE
