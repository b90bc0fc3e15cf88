/-! THE PURE PART, part 11: fractions. Own work. -/
theorem zc_eq {x_z y_z : Int} : zCmp x_z y_z = 0 ↔ x_z = y_z := by unfold zCmp; split <;> (try split) <;> omega
theorem zc_lt {x_z y_z : Int} : zCmp x_z y_z < 0 ↔ x_z < y_z := by unfold zCmp; split <;> (try split) <;> omega
theorem zc_le {x_z y_z : Int} : zCmp x_z y_z ≤ 0 ↔ x_z ≤ y_z := by unfold zCmp; split <;> (try split) <;> omega
theorem zc_ge {x_z y_z : Int} : 0 ≤ zCmp x_z y_z ↔ y_z ≤ x_z := by unfold zCmp; split <;> (try split) <;> omega
theorem zc_gt {x_z y_z : Int} : 0 < zCmp x_z y_z ↔ y_z < x_z := by unfold zCmp; split <;> (try split) <;> omega
def nu (n_z d_z : Int) : Int := (if d_z < 0 then -n_z else n_z) / (Int.gcd n_z d_z : Int)
def nd (n_z d_z : Int) : Int := (if d_z < 0 then -d_z else d_z) / (Int.gcd n_z d_z : Int)
abbrev lok (n_z d_z : Int) : Prop := -1000000 ≤ nu n_z d_z ∧ nu n_z d_z ≤ 1000000 ∧ nd n_z d_z ≤ 1000000
def low (n_z d_z : Int) : Int := if lok n_z d_z then pk (nu n_z d_z) (nd n_z d_z) else -1
theorem gcd_parts {n_z d_z : Int} (hd_z : d_z ≠ 0) : ∃ g_z a_z c_z : Int, (Int.gcd n_z d_z : Int) = g_z ∧ 0 < g_z ∧ n_z = g_z * a_z ∧ d_z = g_z * c_z ∧ nu n_z d_z = (if d_z < 0 then -a_z else a_z) ∧ nd n_z d_z = (if d_z < 0 then -c_z else c_z) ∧ 1 ≤ nd n_z d_z := by
  obtain ⟨a_z, ha_z⟩ := Int.gcd_dvd_left n_z d_z
  obtain ⟨c_z, hc_z⟩ := Int.gcd_dvd_right n_z d_z
  have hg : 0 < (Int.gcd n_z d_z : Int) := by
    have := Int.gcd_pos_of_ne_zero_right n_z hd_z
    omega
  refine ⟨_, a_z, c_z, rfl, hg, ha_z, hc_z, ?_, ?_, ?_⟩
  · unfold nu
    split
    · conv => lhs; rw [show -n_z = (Int.gcd n_z d_z : Int) * (-a_z) from by rw [Int.mul_neg, ← ha_z]]
      exact Int.mul_ediv_cancel_left _ (by omega)
    · conv => lhs; arg 1; rw [ha_z]
      exact Int.mul_ediv_cancel_left _ (by omega)
  · unfold nd
    split
    · conv => lhs; rw [show -d_z = (Int.gcd n_z d_z : Int) * (-c_z) from by rw [Int.mul_neg, ← hc_z]]
      exact Int.mul_ediv_cancel_left _ (by omega)
    · conv => lhs; arg 1; rw [hc_z]
      exact Int.mul_ediv_cancel_left _ (by omega)
  · unfold nd
    have h1 : (Int.gcd n_z d_z : Int) ≤ (if d_z < 0 then -d_z else d_z) := by
      have h3 : (Int.gcd n_z d_z : Int) ∣ (if d_z < 0 then -d_z else d_z) := by
        split
        · exact Int.dvd_neg.mpr (Int.gcd_dvd_right n_z d_z)
        · exact Int.gcd_dvd_right n_z d_z
      exact Int.le_of_dvd (by split <;> omega) h3
    exact Int.le_ediv_of_mul_le hg (by omega)
theorem tdv_bd (a_z b_z : Int) : (Int.tdiv a_z b_z).natAbs ≤ a_z.natAbs := by
  rw [Int.natAbs_tdiv]
  exact Nat.div_le_self _ _
theorem gcd_step {a_z b_z : Int} : Int.gcd b_z (Int.tmod a_z b_z) = Int.gcd a_z b_z := by
  unfold Int.gcd
  rw [Int.natAbs_tmod, Nat.gcd_comm a_z.natAbs, Nat.gcd_rec b_z.natAbs a_z.natAbs, Nat.gcd_comm]
theorem mod_half {a_z b_z : Nat} (h_z : 0 < b_z) (h2 : b_z ≤ a_z) : 2 * (a_z % b_z) < a_z := by
  have h3 := Nat.mod_lt a_z h_z
  have h4 := Nat.div_add_mod a_z b_z
  have h5 : 1 ≤ a_z / b_z := (Nat.one_le_div_iff h_z).mpr h2
  have h6 : b_z * 1 ≤ b_z * (a_z / b_z) := Nat.mul_le_mul_left b_z h5
  omega
section FS
variable {G : Env0} {Q : Option AV → Mem → Prop} {M : Mem}
theorem low_loop {n_z d_z : Int} : ∀ (k_z : Nat) (a_z b_z i_z : Int) (u1_z u3 u5 u7 u9 u10 u11 : AV), b_z.natAbs < 2 ^ k_z → a_z.natAbs ≤ 9000000000000000000 → b_z.natAbs ≤ 9000000000000000000 → 0 ≤ i_z → i_z + 2 * k_z ≤ 98 → (∀ (D_z i_z : Int) (u3 u5 u7 u9 u10 u11 : AV), D_z.natAbs = Int.gcd a_z b_z → At G 30 44 [a_l n_z, u1_z, a_l d_z, u3, a_l D_z, u5, a_l 0, u7, a_i i_z, u9, u10, u11] [] M Q) → At G 30 9 [a_l n_z, u1_z, a_l d_z, u3, a_l a_z, u5, a_l b_z, u7, a_i i_z, u9, u10, u11] [] M Q := by
  intro k_z
  induction k_z with
  | zero =>
    intro a_z b_z i_z u1_z u3 u5 u7 u9 u10 u11 hb_z h1 h2 h3 h4 hq
    have hb0 : b_z = 0 := by
      have : b_z.natAbs < 1 := hb_z
      omega
    subst hb0
    rw [B_30_9]
    simp (disch := omega) only [inI, inL, isT, kInt, kByt, true_and, and_true, an_t, im_t, im_f, or_true, true_or, true_imp_iff, false_imp_iff, not_true_eq_false, not_false_eq_true, zc_eq, zc_lt, zc_le, zc_ge, zc_gt]
    exact hq a_z i_z u3 u5 u7 u9 u10 u11 (by simp [Int.gcd])
  | succ k_z ih_z =>
    intro a_z b_z i_z u1_z u3 u5 u7 u9 u10 u11 hb_z h1 h2 h3 h4 hq
    by_cases hb0 : b_z = 0
    · subst hb0
      rw [B_30_9]
      simp (disch := omega) only [inI, inL, isT, kInt, kByt, true_and, and_true, an_t, im_t, im_f, or_true, true_or, true_imp_iff, false_imp_iff, not_true_eq_false, not_false_eq_true, zc_eq, zc_lt, zc_le, zc_ge, zc_gt]
      exact hq a_z i_z u3 u5 u7 u9 u10 u11 (by simp [Int.gcd])
    · rw [B_30_9]
      have hd1 := tdv_bd a_z b_z
      have hm_z := Int.natAbs_tmod a_z b_z
      have hm2 := Nat.mod_lt a_z.natAbs (y := b_z.natAbs) (by omega)
      simp (disch := omega) only [inI, inL, isT, kInt, kByt, true_and, and_true, an_t, im_t, im_f, or_true, true_or, true_imp_iff, false_imp_iff, not_true_eq_false, not_false_eq_true, zc_eq, zc_lt, zc_le, zc_ge, zc_gt]
      by_cases hr0 : Int.tmod a_z b_z = 0
      · rw [B_30_9]
        simp (disch := omega) only [inI, inL, isT, kInt, kByt, true_and, and_true, an_t, im_t, im_f, or_true, true_or, true_imp_iff, false_imp_iff, not_true_eq_false, not_false_eq_true, zc_eq, zc_lt, zc_le, zc_ge, zc_gt]
        rw [hr0]
        refine hq b_z _ _ _ _ _ _ _ ?_
        rw [← gcd_step, hr0]
        simp [Int.gcd]
      · rw [B_30_9]
        have hd2 := tdv_bd b_z (Int.tmod a_z b_z)
        simp (disch := omega) only [inI, inL, isT, kInt, kByt, true_and, and_true, an_t, im_t, im_f, or_true, true_or, true_imp_iff, false_imp_iff, not_true_eq_false, not_false_eq_true, zc_eq, zc_lt, zc_le, zc_ge, zc_gt]
        have hp : 2 ^ (k_z + 1) = 2 * 2 ^ k_z := by rw [Nat.pow_succ, Nat.mul_comm]
        have hh := mod_half (a_z := b_z.natAbs) (b_z := (Int.tmod a_z b_z).natAbs) (by omega) (by omega)
        have hn2 := Int.natAbs_tmod b_z (Int.tmod a_z b_z)
        refine ih_z _ _ _ _ _ _ _ _ _ _ (by omega) (by omega) (by omega) (by omega) (by omega) ?_
        intro D_z i' v3 v5 v7 v9 v10 v11 hD
        refine hq D_z i' v3 v5 v7 v9 v10 v11 ?_
        rw [hD, gcd_step, gcd_step]
theorem X_lowest {n_z d_z : Int} (hn : n_z.natAbs ≤ 4000000000000) (hd_z : d_z.natAbs ≤ 4000000000000) (h0 : d_z ≠ 0) (h_z : Q (some (a_l (low n_z d_z))) M) : Call G J_Fc_lowest [a_l n_z, a_l d_z] M Q := by
  obtain ⟨g_z, a_z, c_z, hg, hg0, ha_z, hc_z, hu, hw, hw1⟩ := gcd_parts (n_z := n_z) h0
  rw [E_Fc_lowest, B_30_0]
  refine low_loop 42 _ _ _ _ _ _ _ _ _ _ (by omega) (by omega) (by omega) (by omega) (by omega) ?_
  intro D_z i_z u3 u5 u7 u9 u10 u11 hD
  rw [Int.gcd_comm] at hD
  have hD0 : D_z ≠ 0 := by omega
  have e1_z := tdv_bd n_z D_z
  have e2_z := tdv_bd d_z D_z
  have hcases : (Int.tdiv n_z D_z = a_z ∧ Int.tdiv d_z D_z = c_z) ∨ (Int.tdiv n_z D_z = -a_z ∧ Int.tdiv d_z D_z = -c_z) := by
    rcases Int.natAbs_eq D_z with hh | hh
    · left
      have : D_z = g_z := by omega
      rw [this, ha_z, hc_z]
      exact ⟨Int.mul_tdiv_cancel_left _ (by omega), Int.mul_tdiv_cancel_left _ (by omega)⟩
    · right
      have : D_z = -g_z := by omega
      rw [this, ha_z, hc_z, Int.tdiv_neg, Int.tdiv_neg]
      exact ⟨by rw [Int.mul_tdiv_cancel_left _ (by omega)], by rw [Int.mul_tdiv_cancel_left _ (by omega)]⟩
  have hc0 : c_z ≠ 0 := fun hh => by rw [hh] at hc_z; omega
  have hsg : d_z < 0 ↔ c_z < 0 := by
    rw [hc_z]
    constructor
    · intro hh
      by_cases c1_z : c_z < 0
      · exact c1_z
      · have := Int.mul_nonneg (a := g_z) (b := c_z) (by omega) (by omega)
        omega
    · intro hh
      exact Int.mul_neg_of_pos_of_neg hg0 hh
  have hfin : ∀ (v1_z v3 v5 v7 v9 v11 : AV), At G 30 90 [a_l n_z, v1_z, a_l d_z, v3, a_l D_z, v5, a_l 0, v7, a_l (nu n_z d_z), v9, a_l (nd n_z d_z), v11] [] M Q := by
    intro v1_z v3 v5 v7 v9 v11
    unfold low at h_z
    by_cases hk : lok n_z d_z
    · rw [if_pos hk] at h_z
      obtain ⟨k1_z, k2_z, k3_z⟩ := hk
      simp (disch := omega) only [B_30_90, B_30_117, B_30_121, inI, inL, isT, kInt, kByt, true_and, and_true, an_t, im_t, im_f, or_true, true_or, true_imp_iff, false_imp_iff, not_true_eq_false, not_false_eq_true, zc_eq, zc_lt, zc_le, zc_ge, zc_gt]
      rw [shl32 ⟨by omega, by omega⟩, or32 ⟨by omega, by omega⟩ (by omega) (by omega)]
      exact h_z
    · rw [if_neg hk] at h_z
      unfold lok at hk
      by_cases c1_z : 1000000 < nu n_z d_z
      · simp (disch := omega) only [B_30_90, B_30_117, B_30_121, inI, inL, isT, kInt, kByt, true_and, and_true, an_t, im_t, im_f, or_true, true_or, true_imp_iff, false_imp_iff, not_true_eq_false, not_false_eq_true, zc_eq, zc_lt, zc_le, zc_ge, zc_gt]
        all_goals exact h_z
      · by_cases c2_z : nu n_z d_z < -1000000
        · simp (disch := omega) only [B_30_90, B_30_117, B_30_121, inI, inL, isT, kInt, kByt, true_and, and_true, an_t, im_t, im_f, or_true, true_or, true_imp_iff, false_imp_iff, not_true_eq_false, not_false_eq_true, zc_eq, zc_lt, zc_le, zc_ge, zc_gt]
          all_goals exact h_z
        · simp (disch := omega) only [B_30_90, B_30_117, B_30_121, inI, inL, isT, kInt, kByt, true_and, and_true, an_t, im_t, im_f, or_true, true_or, true_imp_iff, false_imp_iff, not_true_eq_false, not_false_eq_true, zc_eq, zc_lt, zc_le, zc_ge, zc_gt]
          exact h_z
  have hu2 := hu
  have hw2 := hw
  rcases hcases with ⟨q1_z, q2_z⟩ | ⟨q1_z, q2_z⟩
  · by_cases c1_z : d_z < 0
    · rw [if_pos c1_z] at hu2 hw2
      have e3_z : nu n_z d_z = -Int.tdiv n_z D_z := by rw [q1_z, hu2]
      have e4_z : nd n_z d_z = -Int.tdiv d_z D_z := by rw [q2_z, hw2]
      rw [e3_z, e4_z] at hfin
      simp (disch := omega) only [B_30_44, B_30_61, inI, inL, isT, kInt, kByt, true_and, and_true, an_t, im_t, im_f, or_true, true_or, true_imp_iff, false_imp_iff, not_true_eq_false, not_false_eq_true, zc_eq, zc_lt, zc_le, zc_ge, zc_gt]
      all_goals exact hfin _ _ _ _ _ _
    · rw [if_neg c1_z] at hu2 hw2
      have e3_z : nu n_z d_z = Int.tdiv n_z D_z := by rw [q1_z, hu2]
      have e4_z : nd n_z d_z = Int.tdiv d_z D_z := by rw [q2_z, hw2]
      rw [e3_z, e4_z] at hfin
      simp (disch := omega) only [B_30_44, B_30_61, inI, inL, isT, kInt, kByt, true_and, and_true, an_t, im_t, im_f, or_true, true_or, true_imp_iff, false_imp_iff, not_true_eq_false, not_false_eq_true, zc_eq, zc_lt, zc_le, zc_ge, zc_gt]
      all_goals exact hfin _ _ _ _ _ _
  · by_cases c1_z : d_z < 0
    · rw [if_pos c1_z] at hu2 hw2
      have e3_z : nu n_z d_z = Int.tdiv n_z D_z := by rw [q1_z, hu2]
      have e4_z : nd n_z d_z = Int.tdiv d_z D_z := by rw [q2_z, hw2]
      rw [e3_z, e4_z] at hfin
      simp (disch := omega) only [B_30_44, B_30_61, inI, inL, isT, kInt, kByt, true_and, and_true, an_t, im_t, im_f, or_true, true_or, true_imp_iff, false_imp_iff, not_true_eq_false, not_false_eq_true, zc_eq, zc_lt, zc_le, zc_ge, zc_gt]
      all_goals exact hfin _ _ _ _ _ _
    · rw [if_neg c1_z] at hu2 hw2
      have e3_z : nu n_z d_z = -Int.tdiv n_z D_z := by rw [q1_z, hu2]; omega
      have e4_z : nd n_z d_z = -Int.tdiv d_z D_z := by rw [q2_z, hw2]; omega
      rw [e3_z, e4_z] at hfin
      simp (disch := omega) only [B_30_44, B_30_61, inI, inL, isT, kInt, kByt, true_and, and_true, an_t, im_t, im_f, or_true, true_or, true_imp_iff, false_imp_iff, not_true_eq_false, not_false_eq_true, zc_eq, zc_lt, zc_le, zc_ge, zc_gt]
      all_goals exact hfin _ _ _ _ _ _
theorem div_loop {x1_z x3 : Int} : ∀ (k_z : Nat) (a_z b_z : Int) (u1_z u3 u5 u7 u8 u9 : AV), b_z.natAbs ≤ k_z → a_z.natAbs ≤ 9000000000000000000 → b_z.natAbs ≤ 9000000000000000000 → 0 ≤ a_z → 0 ≤ b_z → Q (some (a_l (Int.gcd a_z b_z : Int))) M → At G 177 28 [a_l x1_z, u1_z, a_l x3, u3, a_l a_z, u5, a_l b_z, u7, u8, u9] [] M Q := by
  intro k_z
  induction k_z with
  | zero =>
    intro a_z b_z u1_z u3 u5 u7 u8 u9 hb_z h1 h2 h3 h4 hq
    have hb0 : b_z = 0 := by omega
    subst hb0
    have e_z : (Int.gcd a_z 0 : Int) = a_z := by simp [Int.gcd]; omega
    rw [e_z] at hq
    rw [B_177_28]
    simp (disch := omega) only [B_177_53, inI, inL, isT, kInt, kByt, true_and, and_true, an_t, im_t, im_f, or_true, true_or, true_imp_iff, false_imp_iff, not_true_eq_false, not_false_eq_true, zc_eq, zc_lt, zc_le, zc_ge, zc_gt]
    all_goals exact hq
  | succ k_z ih_z =>
    intro a_z b_z u1_z u3 u5 u7 u8 u9 hb_z h1 h2 h3 h4 hq
    by_cases hb0 : b_z = 0
    · subst hb0
      have e_z : (Int.gcd a_z 0 : Int) = a_z := by simp [Int.gcd]; omega
      rw [e_z] at hq
      rw [B_177_28]
      simp (disch := omega) only [B_177_53, inI, inL, isT, kInt, kByt, true_and, and_true, an_t, im_t, im_f, or_true, true_or, true_imp_iff, false_imp_iff, not_true_eq_false, not_false_eq_true, zc_eq, zc_lt, zc_le, zc_ge, zc_gt]
      all_goals exact hq
    · have hd1 := tdv_bd a_z b_z
      have hm_z := Int.natAbs_tmod a_z b_z
      have hm2 := Nat.mod_lt a_z.natAbs (y := b_z.natAbs) (by omega)
      have hm3 := Int.tmod_nonneg b_z h3
      rw [← gcd_step] at hq
      have hn := ih_z b_z (Int.tmod a_z b_z) (u1_z) (killL u3) a_u a_u (a_l (Int.tmod a_z b_z)) a_u (by omega) (by omega) (by omega) (by omega) (by omega) hq
      rw [B_177_28]
      simp (disch := omega) only [inI, inL, isT, kInt, kByt, true_and, and_true, an_t, im_t, im_f, or_true, true_or, true_imp_iff, false_imp_iff, not_true_eq_false, not_false_eq_true, zc_eq, zc_lt, zc_le, zc_ge, zc_gt]
      all_goals exact hn
theorem X_divisor {a_z b_z : Int} (ha_z : a_z.natAbs ≤ 9000000000000000000) (hb_z : b_z.natAbs ≤ 9000000000000000000) (h_z : Q (some (a_l (Int.gcd a_z b_z : Int))) M) : Call G J_M_divisor [a_l a_z, a_l b_z] M Q := by
  have e1_z : Int.gcd (-a_z) b_z = Int.gcd a_z b_z := by simp [Int.gcd]
  have e2_z : Int.gcd a_z (-b_z) = Int.gcd a_z b_z := by simp [Int.gcd]
  have e3_z : Int.gcd (-a_z) (-b_z) = Int.gcd a_z b_z := by simp [Int.gcd]
  rw [E_M_divisor, B_177_0]
  by_cases c1_z : 0 ≤ a_z <;> by_cases c2_z : 0 ≤ b_z
  · simp (disch := omega) only [B_177_11, B_177_12, B_177_25, B_177_26, inI, inL, isT, kInt, kByt, true_and, and_true, an_t, im_t, im_f, or_true, true_or, true_imp_iff, false_imp_iff, not_true_eq_false, not_false_eq_true, zc_eq, zc_lt, zc_le, zc_ge, zc_gt]
    exact div_loop b_z.natAbs _ _ _ _ _ _ _ _ (by omega) (by omega) (by omega) (by omega) (by omega) h_z
  · simp (disch := omega) only [B_177_11, B_177_12, B_177_25, B_177_26, inI, inL, isT, kInt, kByt, true_and, and_true, an_t, im_t, im_f, or_true, true_or, true_imp_iff, false_imp_iff, not_true_eq_false, not_false_eq_true, zc_eq, zc_lt, zc_le, zc_ge, zc_gt]
    exact div_loop b_z.natAbs _ _ _ _ _ _ _ _ (by omega) (by omega) (by omega) (by omega) (by omega) (by rw [e2_z]; exact h_z)
  · simp (disch := omega) only [B_177_11, B_177_12, B_177_25, B_177_26, inI, inL, isT, kInt, kByt, true_and, and_true, an_t, im_t, im_f, or_true, true_or, true_imp_iff, false_imp_iff, not_true_eq_false, not_false_eq_true, zc_eq, zc_lt, zc_le, zc_ge, zc_gt]
    exact div_loop b_z.natAbs _ _ _ _ _ _ _ _ (by omega) (by omega) (by omega) (by omega) (by omega) (by rw [e1_z]; exact h_z)
  · simp (disch := omega) only [B_177_11, B_177_12, B_177_25, B_177_26, inI, inL, isT, kInt, kByt, true_and, and_true, an_t, im_t, im_f, or_true, true_or, true_imp_iff, false_imp_iff, not_true_eq_false, not_false_eq_true, zc_eq, zc_lt, zc_le, zc_ge, zc_gt]
    exact div_loop b_z.natAbs _ _ _ _ _ _ _ _ (by omega) (by omega) (by omega) (by omega) (by omega) (by rw [e3_z]; exact h_z)
end FS
