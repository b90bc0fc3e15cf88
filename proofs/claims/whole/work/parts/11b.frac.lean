/-! THE PURE PART, part 11: fractions as longs. Own work. -/
def fu (p_z : Int) : Int := p_z / 4294967296
def fd (p_z : Int) : Int := p_z % 4294967296
theorem pk_eta (p_z : Int) : pk (fu p_z) (fd p_z) = p_z := by unfold pk fu fd; omega
theorem fu_pk {u_z d_z : Int} (h_z : 0 ≤ d_z) (h1 : d_z < 4294967296) : fu (pk u_z d_z) = u_z := by unfold pk fu; omega
theorem fd_pk {u_z d_z : Int} (h_z : 0 ≤ d_z) (h1 : d_z < 4294967296) : fd (pk u_z d_z) = d_z := by unfold pk fd; omega
theorem fd_lo (p_z : Int) : 0 ≤ fd p_z := by unfold fd; omega
theorem fd_hi (p_z : Int) : fd p_z < 4294967296 := by unfold fd; omega
theorem fd_m1 : fd (-1) = 4294967295 := by decide
/-- a number -/
abbrev NV (p_z : Int) : Prop := -1000000 ≤ fu p_z ∧ fu p_z ≤ 1000000 ∧ 1 ≤ fd p_z ∧ fd p_z ≤ 1000000
/-- a number, or none -/
abbrev RV (p_z : Int) : Prop := p_z = -1 ∨ NV p_z
theorem nv_ne {p_z : Int} (h_z : NV p_z) : p_z ≠ -1 := fun e_z => by
  have h2 := h_z.2.2.2
  rw [e_z, fd_m1] at h2
  exact absurd h2 (by decide)
theorem nv_pk {u_z d_z : Int} (h_z : -1000000 ≤ u_z ∧ u_z ≤ 1000000 ∧ 1 ≤ d_z ∧ d_z ≤ 1000000) : NV (pk u_z d_z) := by
  unfold NV
  rw [fu_pk (by omega) (by omega), fd_pk (by omega) (by omega)]
  exact h_z
theorem l2i_fd {p_z : Int} (h_z : fd p_z ≤ 2147483647) : zL2i p_z = fd p_z := by
  have h1 := l2i_pk (u_z := fu p_z) (fd_lo p_z) h_z
  rw [pk_eta] at h1
  exact h1
theorem l2i_m1 : zL2i (-1) = -1 := l2i_id ⟨by decide, by decide⟩
theorem num_fu {p_z : Int} (h_z : inI (fu p_z)) : zL2i (zLshr p_z 32) = fu p_z := by
  have h1 := h_z.1
  have h2 := h_z.2
  have h3 : inL p_z := by
    unfold fu at h1 h2
    exact ⟨by omega, by omega⟩
  rw [shr32 h3]
  exact l2i_id h_z
theorem rv_low {n_z d_z : Int} (h0 : d_z ≠ 0) : RV (low n_z d_z) := by
  obtain ⟨g_z, a_z, c_z, hg, hg0, ha_z, hc_z, hu, hw, hw1⟩ := gcd_parts (n_z := n_z) h0
  unfold low
  by_cases hk : lok n_z d_z
  · rw [if_pos hk]
    exact Or.inr (nv_pk ⟨hk.1, hk.2.1, hw1, hk.2.2⟩)
  · rw [if_neg hk]
    exact Or.inl rfl
/-- bounds of products -/
theorem mb {a_z b_z : Int} (A_z B_z : Nat) (h1 : a_z.natAbs ≤ A_z) (h2 : b_z.natAbs ≤ B_z) : (a_z * b_z).natAbs ≤ A_z * B_z := by
  rw [Int.natAbs_mul]
  exact Nat.mul_le_mul h1 h2
theorem nv_u {p_z : Int} (h_z : NV p_z) : (fu p_z).natAbs ≤ 1000000 := by have := h_z.1; have := h_z.2.1; omega
theorem nv_d {p_z : Int} (h_z : NV p_z) : (fd p_z).natAbs ≤ 1000000 := by have := h_z.2.2.1; have := h_z.2.2.2; omega
theorem nv_dd {p_z q_z : Int} (h_z : NV p_z) (h2 : NV q_z) : fd p_z * fd q_z ≠ 0 := by
  have a1_z := h_z.2.2.1
  have a2 := h2.2.2.1
  have := Int.mul_pos (a := fd p_z) (b := fd q_z) (by omega) (by omega)
  omega
def fS (p_z q_z : Int) : Int := if p_z = -1 ∨ q_z = -1 then -1 else low (fu p_z * fd q_z + fu q_z * fd p_z) (fd p_z * fd q_z)
def fM (p_z q_z : Int) : Int := if p_z = -1 ∨ q_z = -1 then -1 else low (fu p_z * fu q_z) (fd p_z * fd q_z)
def fD (p_z q_z : Int) : Int := if p_z = -1 ∨ q_z = -1 then -1 else low (fu p_z * fd q_z - fu q_z * fd p_z) (fd p_z * fd q_z)
def fQ (p_z q_z : Int) : Int := if p_z = -1 ∨ q_z = -1 then -1 else low (fu p_z * fd q_z) (fd p_z * fu q_z)
theorem fS_m1 (q_z : Int) : fS (-1) q_z = -1 := if_pos (Or.inl rfl)
theorem fS_m2 (q_z : Int) : fS q_z (-1) = -1 := if_pos (Or.inr rfl)
theorem fM_m1 (q_z : Int) : fM (-1) q_z = -1 := if_pos (Or.inl rfl)
theorem fM_m2 (q_z : Int) : fM q_z (-1) = -1 := if_pos (Or.inr rfl)
theorem fS_nv {p_z q_z : Int} (h_z : NV p_z) (h2 : NV q_z) : fS p_z q_z = low (fu p_z * fd q_z + fu q_z * fd p_z) (fd p_z * fd q_z) := if_neg (fun c_z => c_z.elim (nv_ne h_z) (nv_ne h2))
theorem fM_nv {p_z q_z : Int} (h_z : NV p_z) (h2 : NV q_z) : fM p_z q_z = low (fu p_z * fu q_z) (fd p_z * fd q_z) := if_neg (fun c_z => c_z.elim (nv_ne h_z) (nv_ne h2))
theorem fD_nv {p_z q_z : Int} (h_z : NV p_z) (h2 : NV q_z) : fD p_z q_z = low (fu p_z * fd q_z - fu q_z * fd p_z) (fd p_z * fd q_z) := if_neg (fun c_z => c_z.elim (nv_ne h_z) (nv_ne h2))
theorem fQ_nv {p_z q_z : Int} (h_z : NV p_z) (h2 : NV q_z) : fQ p_z q_z = low (fu p_z * fd q_z) (fd p_z * fu q_z) := if_neg (fun c_z => c_z.elim (nv_ne h_z) (nv_ne h2))
theorem fM_comm (p_z q_z : Int) : fM p_z q_z = fM q_z p_z := by
  unfold fM
  rw [Int.mul_comm (fu p_z), Int.mul_comm (fd p_z)]
  simp only [Or.comm]
theorem rv_S {p_z q_z : Int} (h_z : RV p_z) (h2 : RV q_z) : RV (fS p_z q_z) := by
  rcases h_z with h_z | h_z
  · rw [h_z, fS_m1]; exact Or.inl rfl
  · rcases h2 with h2 | h2
    · rw [h2, fS_m2]; exact Or.inl rfl
    · rw [fS_nv h_z h2]; exact rv_low (nv_dd h_z h2)
theorem rv_M {p_z q_z : Int} (h_z : RV p_z) (h2 : RV q_z) : RV (fM p_z q_z) := by
  rcases h_z with h_z | h_z
  · rw [h_z, fM_m1]; exact Or.inl rfl
  · rcases h2 with h2 | h2
    · rw [h2, fM_m2]; exact Or.inl rfl
    · rw [fM_nv h_z h2]; exact rv_low (nv_dd h_z h2)
section FT
variable {G : Env0} {Q : Option AV → Mem → Prop} {M : Mem}
theorem X_numerator {p_z : Int} (h_z : inI (fu p_z)) : Call G J_Fc_numerator [a_l p_z] M Q ↔ Q (some (a_i (fu p_z))) M := by
  simp only [E_Fc_numerator, B_93_0, num_fu h_z, true_and]
theorem X_denominator {p_z : Int} (h_z : fd p_z ≤ 2147483647) : Call G J_Fc_denominator [a_l p_z] M Q ↔ Q (some (a_i (fd p_z))) M := by
  simp only [E_Fc_denominator, B_94_0, l2i_fd h_z, true_and]
theorem X_isNum {p_z : Int} (h_z : NV p_z) : Call G J_Fc_isNumber [a_l p_z] M Q ↔ Q (some (a_i 1)) M := by
  have h1 := h_z.2.2.1
  have h2 := h_z.2.2.2
  have e_z := l2i_fd (p_z := p_z) (by omega)
  simp (disch := omega) only [E_Fc_isNumber, B_31_0, B_31_9, B_31_10, e_z, inI, inL, isT, kInt, kByt, true_and, and_true, an_t, im_t, im_f, or_true, true_or, true_imp_iff, false_imp_iff, not_true_eq_false, not_false_eq_true]
theorem X_isNum0 : Call G J_Fc_isNumber [a_l (-1)] M Q ↔ Q (some (a_i 0)) M := by
  simp (disch := omega) only [E_Fc_isNumber, B_31_0, B_31_9, B_31_10, l2i_m1, inI, inL, isT, kInt, kByt, true_and, and_true, an_t, im_t, im_f, or_true, true_or, true_imp_iff, false_imp_iff, not_true_eq_false, not_false_eq_true]
theorem X_isNumN {p_z : Int} (h_z : fd p_z = 0) : Call G J_Fc_isNumber [a_l p_z] M Q ↔ Q (some (a_i 0)) M := by
  have e_z := l2i_fd (p_z := p_z) (by omega)
  rw [h_z] at e_z
  simp (disch := omega) only [E_Fc_isNumber, B_31_0, B_31_9, B_31_10, e_z, inI, inL, isT, kInt, kByt, true_and, and_true, an_t, im_t, im_f, or_true, true_or, true_imp_iff, false_imp_iff, not_true_eq_false, not_false_eq_true]
theorem X_sum {p_z q_z : Int} (hp : RV p_z) (hq : RV q_z) (h_z : Q (some (a_l (fS p_z q_z))) M) : Call G J_Fc_sum [a_l p_z, a_l q_z] M Q := by
  rcases hp with hp | hp
  · rw [hp, fS_m1] at h_z
    rw [hp]
    simp (disch := omega) only [E_Fc_sum, B_95_0, B_95_4, B_95_11, B_95_14, B_95_18, B_95_22, B_95_27, B_95_35, B_95_40, B_95_53, B_95_58, B_95_63, X_isNum0, inI, inL, isT, kInt, kByt, true_and, and_true, an_t, im_t, im_f, or_true, true_or, true_imp_iff, false_imp_iff, not_true_eq_false, not_false_eq_true, Option.toList_some, Option.toList_none, List.cons_append, List.nil_append, List.append_nil]
    all_goals exact h_z
  · rcases hq with hq | hq
    · rw [hq, fS_m2] at h_z
      rw [hq]
      simp (disch := omega) only [E_Fc_sum, B_95_0, B_95_4, B_95_11, B_95_14, B_95_18, B_95_22, B_95_27, B_95_35, B_95_40, B_95_53, B_95_58, B_95_63, X_isNum0, X_isNum hp, inI, inL, isT, kInt, kByt, true_and, and_true, an_t, im_t, im_f, or_true, true_or, true_imp_iff, false_imp_iff, not_true_eq_false, not_false_eq_true, Option.toList_some, Option.toList_none, List.cons_append, List.nil_append, List.append_nil]
      all_goals exact h_z
    · rw [fS_nv hp hq] at h_z
      have m1_z := mb _ _ (nv_u hp) (nv_d hq)
      have m2_z := mb _ _ (nv_u hq) (nv_d hp)
      have m3_z := mb _ _ (nv_d hp) (nv_d hq)
      have i1_z : inI (fu p_z) := ⟨by omega, by omega⟩
      have i2_z : inI (fu q_z) := ⟨by omega, by omega⟩
      have i3_z : fd p_z ≤ 2147483647 := by have := hp.2.2.2; omega
      have i4_z : fd q_z ≤ 2147483647 := by have := hq.2.2.2; omega
      simp (disch := omega) only [E_Fc_sum, B_95_0, B_95_4, B_95_11, B_95_14, B_95_18, B_95_22, B_95_27, B_95_35, B_95_40, B_95_53, B_95_58, B_95_63, X_isNum hp, X_isNum hq, X_numerator i1_z, X_numerator i2_z, X_denominator i3_z, X_denominator i4_z, inI, inL, isT, kInt, kByt, true_and, and_true, an_t, im_t, im_f, or_true, true_or, true_imp_iff, false_imp_iff, not_true_eq_false, not_false_eq_true, Option.toList_some, Option.toList_none, List.cons_append, List.nil_append, List.append_nil]
      refine X_lowest (by omega) (by omega) (nv_dd hp hq) ?_
      simp (disch := omega) only [E_Fc_sum, B_95_0, B_95_4, B_95_11, B_95_14, B_95_18, B_95_22, B_95_27, B_95_35, B_95_40, B_95_53, B_95_58, B_95_63, Option.toList_some, Option.toList_none, List.cons_append, List.nil_append, List.append_nil]
      exact h_z
theorem X_product {p_z q_z : Int} (hp : RV p_z) (hq : RV q_z) (h_z : Q (some (a_l (fM p_z q_z))) M) : Call G J_Fc_product [a_l p_z, a_l q_z] M Q := by
  rcases hp with hp | hp
  · rw [hp, fM_m1] at h_z
    rw [hp]
    simp (disch := omega) only [E_Fc_product, B_92_0, B_92_4, B_92_11, B_92_14, B_92_18, B_92_22, B_92_27, B_92_37, B_92_42, B_92_47, X_isNum0, inI, inL, isT, kInt, kByt, true_and, and_true, an_t, im_t, im_f, or_true, true_or, true_imp_iff, false_imp_iff, not_true_eq_false, not_false_eq_true, Option.toList_some, Option.toList_none, List.cons_append, List.nil_append, List.append_nil]
    all_goals exact h_z
  · rcases hq with hq | hq
    · rw [hq, fM_m2] at h_z
      rw [hq]
      simp (disch := omega) only [E_Fc_product, B_92_0, B_92_4, B_92_11, B_92_14, B_92_18, B_92_22, B_92_27, B_92_37, B_92_42, B_92_47, X_isNum0, X_isNum hp, inI, inL, isT, kInt, kByt, true_and, and_true, an_t, im_t, im_f, or_true, true_or, true_imp_iff, false_imp_iff, not_true_eq_false, not_false_eq_true, Option.toList_some, Option.toList_none, List.cons_append, List.nil_append, List.append_nil]
      all_goals exact h_z
    · rw [fM_nv hp hq] at h_z
      have m1_z := mb _ _ (nv_u hp) (nv_u hq)
      have m3_z := mb _ _ (nv_d hp) (nv_d hq)
      have i1_z : inI (fu p_z) := ⟨by omega, by omega⟩
      have i2_z : inI (fu q_z) := ⟨by omega, by omega⟩
      have i3_z : fd p_z ≤ 2147483647 := by have := hp.2.2.2; omega
      have i4_z : fd q_z ≤ 2147483647 := by have := hq.2.2.2; omega
      simp (disch := omega) only [E_Fc_product, B_92_0, B_92_4, B_92_11, B_92_14, B_92_18, B_92_22, B_92_27, B_92_37, B_92_42, B_92_47, X_isNum hp, X_isNum hq, X_numerator i1_z, X_numerator i2_z, X_denominator i3_z, X_denominator i4_z, inI, inL, isT, kInt, kByt, true_and, and_true, an_t, im_t, im_f, or_true, true_or, true_imp_iff, false_imp_iff, not_true_eq_false, not_false_eq_true, Option.toList_some, Option.toList_none, List.cons_append, List.nil_append, List.append_nil]
      refine X_lowest (by omega) (by omega) (nv_dd hp hq) ?_
      simp (disch := omega) only [E_Fc_product, B_92_0, B_92_4, B_92_11, B_92_14, B_92_18, B_92_22, B_92_27, B_92_37, B_92_42, B_92_47, Option.toList_some, Option.toList_none, List.cons_append, List.nil_append, List.append_nil]
      exact h_z
theorem X_difference {p_z q_z : Int} (hp : NV p_z) (hq : NV q_z) (h_z : Q (some (a_l (fD p_z q_z))) M) : Call G J_Fc_difference [a_l p_z, a_l q_z] M Q := by
  rw [fD_nv hp hq] at h_z
  have m1_z := mb _ _ (nv_u hp) (nv_d hq)
  have m2_z := mb _ _ (nv_u hq) (nv_d hp)
  have m3_z := mb _ _ (nv_d hp) (nv_d hq)
  have i1_z : inI (fu p_z) := ⟨by omega, by omega⟩
  have i2_z : inI (fu q_z) := ⟨by omega, by omega⟩
  have i3_z : fd p_z ≤ 2147483647 := by have := hp.2.2.2; omega
  have i4_z : fd q_z ≤ 2147483647 := by have := hq.2.2.2; omega
  simp (disch := omega) only [E_Fc_difference, B_128_0, B_128_4, B_128_11, B_128_14, B_128_18, B_128_22, B_128_27, B_128_35, B_128_40, B_128_53, B_128_58, B_128_63, X_isNum hp, X_isNum hq, X_numerator i1_z, X_numerator i2_z, X_denominator i3_z, X_denominator i4_z, inI, inL, isT, kInt, kByt, true_and, and_true, an_t, im_t, im_f, or_true, true_or, true_imp_iff, false_imp_iff, not_true_eq_false, not_false_eq_true, Option.toList_some, Option.toList_none, List.cons_append, List.nil_append, List.append_nil]
  refine X_lowest (by omega) (by omega) (nv_dd hp hq) ?_
  simp (disch := omega) only [E_Fc_difference, B_128_0, B_128_4, B_128_11, B_128_14, B_128_18, B_128_22, B_128_27, B_128_35, B_128_40, B_128_53, B_128_58, B_128_63, Option.toList_some, Option.toList_none, List.cons_append, List.nil_append, List.append_nil]
  exact h_z
theorem X_quotient {p_z q_z : Int} (hp : NV p_z) (hq : NV q_z) (h0 : fu q_z ≠ 0) (h_z : Q (some (a_l (fQ p_z q_z))) M) : Call G J_Fc_quotient [a_l p_z, a_l q_z] M Q := by
  rw [fQ_nv hp hq] at h_z
  have m1_z := mb _ _ (nv_u hp) (nv_d hq)
  have m3_z := mb _ _ (nv_d hp) (nv_u hq)
  have i1_z : inI (fu p_z) := ⟨by have := hp.1; omega, by have := hp.2.1; omega⟩
  have i2_z : inI (fu q_z) := ⟨by have := hq.1; omega, by have := hq.2.1; omega⟩
  have i3_z : fd p_z ≤ 2147483647 := by have := hp.2.2.2; omega
  have i4_z : fd q_z ≤ 2147483647 := by have := hq.2.2.2; omega
  simp (disch := omega) only [E_Fc_quotient, B_129_0, B_129_4, B_129_11, B_129_14, B_129_18, B_129_22, B_129_27, B_129_37, B_129_42, B_129_47, X_isNum hp, X_isNum hq, X_numerator i1_z, X_numerator i2_z, X_denominator i3_z, X_denominator i4_z, inI, inL, isT, kInt, kByt, true_and, and_true, an_t, im_t, im_f, or_true, true_or, true_imp_iff, false_imp_iff, not_true_eq_false, not_false_eq_true, Option.toList_some, Option.toList_none, List.cons_append, List.nil_append, List.append_nil]
  refine X_lowest (by omega) (by omega) (Int.mul_ne_zero (by have := hp.2.2.1; omega) h0) ?_
  simp (disch := omega) only [E_Fc_quotient, B_129_0, B_129_4, B_129_11, B_129_14, B_129_18, B_129_22, B_129_27, B_129_37, B_129_42, B_129_47, Option.toList_some, Option.toList_none, List.cons_append, List.nil_append, List.append_nil]
  exact h_z
/-- sixteenths: rounded; 16001 is too far -/
def six (p_z : Int) : Int := if p_z = -1 then 16001 else if -16000 ≤ (32 * fu p_z + fd p_z) / (2 * fd p_z) ∧ (32 * fu p_z + fd p_z) / (2 * fd p_z) ≤ 16000 then (32 * fu p_z + fd p_z) / (2 * fd p_z) else 16001
theorem tdiv_floor {a_z b_z : Int} (hb_z : 0 < b_z) : Int.tdiv a_z b_z = if a_z < 0 ∧ Int.tdiv a_z b_z * b_z ≠ a_z then a_z / b_z + 1 else a_z / b_z := by
  have h_z := Int.tdiv_eq_ediv (a := a_z) (b := b_z)
  have hs : Int.sign b_z = 1 := Int.sign_eq_one_of_pos hb_z
  rw [hs] at h_z
  by_cases c_z : 0 ≤ a_z ∨ b_z ∣ a_z
  · rw [if_pos c_z] at h_z
    have : ¬ (a_z < 0 ∧ Int.tdiv a_z b_z * b_z ≠ a_z) := by
      rcases c_z with c_z | c_z
      · omega
      · rw [Int.tdiv_mul_cancel c_z]; simp
    rw [if_neg this]
    omega
  · rw [if_neg c_z] at h_z
    have h2 : a_z < 0 := by omega
    have h3 : ¬ b_z ∣ a_z := fun q_z => c_z (Or.inr q_z)
    have : a_z < 0 ∧ Int.tdiv a_z b_z * b_z ≠ a_z := ⟨h2, fun q_z => h3 ⟨_, by rw [Int.mul_comm]; exact q_z.symm⟩⟩
    rw [if_pos this]
    omega
theorem X_floorDiv {a_z b_z : Int} (ha_z : a_z.natAbs ≤ 4000000000000000000) (hb_z : 0 < b_z) (hb2 : b_z ≤ 4000000000000000000) (h_z : Q (some (a_l (a_z / b_z))) M) : Call G J_Mt_floorDiv [a_l a_z, a_l b_z] M Q := by
  have e1_z := tdv_bd a_z b_z
  have e2_z := tdiv_floor (a_z := a_z) hb_z
  have e3_z := xor_neg (x_z := a_z) (y_z := b_z) ⟨by omega, by omega⟩ ⟨by omega, by omega⟩
  have e4_z : (Int.tdiv a_z b_z * b_z).natAbs ≤ a_z.natAbs := by
    rw [Int.natAbs_mul, Int.natAbs_tdiv]
    exact Nat.div_mul_le_self _ _
  by_cases c_z : a_z < 0
  · have c2_z : zLxor a_z b_z < 0 := e3_z.mpr (by omega)
    by_cases c3_z : Int.tdiv a_z b_z * b_z = a_z
    · rw [if_neg (by omega)] at e2_z
      rw [← e2_z] at h_z
      simp (disch := omega) only [E_Mt_floorDiv, B_100_0, B_100_27, inI, inL, isT, kInt, kByt, true_and, and_true, an_t, im_t, im_f, or_true, true_or, true_imp_iff, false_imp_iff, not_true_eq_false, not_false_eq_true, zc_eq, zc_lt, zc_le, zc_ge, zc_gt]
      all_goals exact h_z
    · rw [if_pos (by omega)] at e2_z
      rw [show a_z / b_z = Int.tdiv a_z b_z - 1 from by omega] at h_z
      simp (disch := omega) only [E_Mt_floorDiv, B_100_0, B_100_27, inI, inL, isT, kInt, kByt, true_and, and_true, an_t, im_t, im_f, or_true, true_or, true_imp_iff, false_imp_iff, not_true_eq_false, not_false_eq_true, zc_eq, zc_lt, zc_le, zc_ge, zc_gt]
      all_goals exact h_z
  · have c2_z : ¬ zLxor a_z b_z < 0 := fun q_z => absurd (e3_z.mp q_z) (by omega)
    rw [if_neg (by omega)] at e2_z
    rw [← e2_z] at h_z
    simp (disch := omega) only [E_Mt_floorDiv, B_100_0, B_100_27, inI, inL, isT, kInt, kByt, true_and, and_true, an_t, im_t, im_f, or_true, true_or, true_imp_iff, false_imp_iff, not_true_eq_false, not_false_eq_true, zc_eq, zc_lt, zc_le, zc_ge, zc_gt]
    all_goals exact h_z
theorem X_sixteenths {p_z : Int} (hp : RV p_z) (h_z : Q (some (a_i (six p_z))) M) : Call G J_Fc_sixteenths [a_l p_z] M Q := by
  unfold six at h_z
  rcases hp with hp | hp
  · rw [if_pos hp] at h_z
    rw [hp]
    simp (disch := omega) only [E_Fc_sixteenths, B_99_0, B_99_4, B_99_11, B_99_15, B_99_23, B_99_35, B_99_55, B_99_61, B_99_64, X_isNum0, inI, inL, isT, kInt, kByt, true_and, and_true, an_t, im_t, im_f, or_true, true_or, true_imp_iff, false_imp_iff, not_true_eq_false, not_false_eq_true, Option.toList_some, Option.toList_none, List.cons_append, List.nil_append, List.append_nil]
    all_goals exact h_z
  · rw [if_neg (nv_ne hp)] at h_z
    have i1_z : inI (fu p_z) := ⟨by have := hp.1; omega, by have := hp.2.1; omega⟩
    have i3_z : fd p_z ≤ 2147483647 := by have := hp.2.2.2; omega
    obtain ⟨q1_z, q2_z, q3_z, q4_z⟩ := hp
    simp (disch := omega) only [E_Fc_sixteenths, B_99_0, B_99_4, B_99_11, B_99_15, B_99_23, B_99_35, B_99_55, B_99_61, B_99_64, X_isNum ⟨q1_z, q2_z, q3_z, q4_z⟩, X_numerator i1_z, X_denominator i3_z, inI, inL, isT, kInt, kByt, true_and, and_true, an_t, im_t, im_f, or_true, true_or, true_imp_iff, false_imp_iff, not_true_eq_false, not_false_eq_true, Option.toList_some, Option.toList_none, List.cons_append, List.nil_append, List.append_nil]
    refine X_floorDiv (by omega) (by omega) (by omega) ?_
    by_cases c1_z : (32 * fu p_z + fd p_z) / (2 * fd p_z) < -16000
    · rw [if_neg (by omega)] at h_z
      simp (disch := omega) only [E_Fc_sixteenths, B_99_0, B_99_4, B_99_11, B_99_15, B_99_23, B_99_35, B_99_55, B_99_61, B_99_64, inI, inL, isT, kInt, kByt, true_and, and_true, an_t, im_t, im_f, or_true, true_or, true_imp_iff, false_imp_iff, not_true_eq_false, not_false_eq_true, Option.toList_some, Option.toList_none, List.cons_append, List.nil_append, List.append_nil, zc_eq, zc_lt, zc_le, zc_ge, zc_gt]
      all_goals exact h_z
    · by_cases c2_z : (32 * fu p_z + fd p_z) / (2 * fd p_z) ≤ 16000
      · rw [if_pos (by omega)] at h_z
        have e_z := l2i_id (x_z := (32 * fu p_z + fd p_z) / (2 * fd p_z)) ⟨by omega, by omega⟩
        simp (disch := omega) only [E_Fc_sixteenths, B_99_0, B_99_4, B_99_11, B_99_15, B_99_23, B_99_35, B_99_55, B_99_61, B_99_64, inI, inL, isT, kInt, kByt, true_and, and_true, an_t, im_t, im_f, or_true, true_or, true_imp_iff, false_imp_iff, not_true_eq_false, not_false_eq_true, Option.toList_some, Option.toList_none, List.cons_append, List.nil_append, List.append_nil, zc_eq, zc_lt, zc_le, zc_ge, zc_gt, e_z]
        all_goals exact h_z
      · rw [if_neg (by omega)] at h_z
        simp (disch := omega) only [E_Fc_sixteenths, B_99_0, B_99_4, B_99_11, B_99_15, B_99_23, B_99_35, B_99_55, B_99_61, B_99_64, inI, inL, isT, kInt, kByt, true_and, and_true, an_t, im_t, im_f, or_true, true_or, true_imp_iff, false_imp_iff, not_true_eq_false, not_false_eq_true, Option.toList_some, Option.toList_none, List.cons_append, List.nil_append, List.append_nil, zc_eq, zc_lt, zc_le, zc_ge, zc_gt]
        all_goals exact h_z
theorem X_isNameV {p_z : Int} (h_z : fd p_z ≤ 2147483647) : Call G J_Fc_isNameValue [a_l p_z] M Q ↔ Q (some (a_i (zB (fd p_z = 0)))) M := by
  by_cases c_z : fd p_z = 0
  · rw [zB_t c_z]
    simp (disch := omega) only [E_Fc_isNameValue, B_115_0, B_115_4, B_115_11, B_115_12, X_denominator h_z, inI, inL, isT, kInt, kByt, true_and, and_true, an_t, im_t, im_f, or_true, true_or, true_imp_iff, false_imp_iff, not_true_eq_false, not_false_eq_true, Option.toList_some, Option.toList_none, List.cons_append, List.nil_append, List.append_nil]
  · rw [zB_f c_z]
    simp (disch := omega) only [E_Fc_isNameValue, B_115_0, B_115_4, B_115_11, B_115_12, X_denominator h_z, inI, inL, isT, kInt, kByt, true_and, and_true, an_t, im_t, im_f, or_true, true_or, true_imp_iff, false_imp_iff, not_true_eq_false, not_false_eq_true, Option.toList_some, Option.toList_none, List.cons_append, List.nil_append, List.append_nil]
theorem X_isIntUpTo {p_z x_z : Int} (h_z : fd p_z ≤ 2147483647) (h1 : inI (fu p_z)) : Call G J_Fc_isIntegerUpTo [a_l p_z, a_i x_z] M Q ↔ Q (some (a_i (zB (fd p_z = 1 ∧ 0 ≤ fu p_z ∧ fu p_z ≤ x_z)))) M := by
  by_cases c_z : fd p_z = 1
  · by_cases c1_z : fu p_z < 0
    · rw [zB_f (by omega)]
      simp (disch := omega) only [E_Fc_isIntegerUpTo, B_117_0, B_117_4, B_117_12, B_117_19, B_117_27, B_117_28, X_denominator h_z, X_numerator h1, inI, inL, isT, kInt, kByt, true_and, and_true, an_t, im_t, im_f, or_true, true_or, true_imp_iff, false_imp_iff, not_true_eq_false, not_false_eq_true, Option.toList_some, Option.toList_none, List.cons_append, List.nil_append, List.append_nil]
    · by_cases c2_z : x_z < fu p_z
      · rw [zB_f (by omega)]
        simp (disch := omega) only [E_Fc_isIntegerUpTo, B_117_0, B_117_4, B_117_12, B_117_19, B_117_27, B_117_28, X_denominator h_z, X_numerator h1, inI, inL, isT, kInt, kByt, true_and, and_true, an_t, im_t, im_f, or_true, true_or, true_imp_iff, false_imp_iff, not_true_eq_false, not_false_eq_true, Option.toList_some, Option.toList_none, List.cons_append, List.nil_append, List.append_nil]
      · rw [zB_t (by omega)]
        simp (disch := omega) only [E_Fc_isIntegerUpTo, B_117_0, B_117_4, B_117_12, B_117_19, B_117_27, B_117_28, X_denominator h_z, X_numerator h1, inI, inL, isT, kInt, kByt, true_and, and_true, an_t, im_t, im_f, or_true, true_or, true_imp_iff, false_imp_iff, not_true_eq_false, not_false_eq_true, Option.toList_some, Option.toList_none, List.cons_append, List.nil_append, List.append_nil]
  · rw [zB_f (by omega)]
    simp (disch := omega) only [E_Fc_isIntegerUpTo, B_117_0, B_117_4, B_117_12, B_117_19, B_117_27, B_117_28, X_denominator h_z, X_numerator h1, inI, inL, isT, kInt, kByt, true_and, and_true, an_t, im_t, im_f, or_true, true_or, true_imp_iff, false_imp_iff, not_true_eq_false, not_false_eq_true, Option.toList_some, Option.toList_none, List.cons_append, List.nil_append, List.append_nil]
end FT
