/-! THE PURE PART, part 18: where a token ends, in the class. Own work. -/
/-- the sign at a place of a text (0: none) -/
def sg (t : Int → Int) (L x_z : Int) : Int := if 0 ≤ x_z ∧ x_z < L then t x_z else 0
theorem sg_in {t : Int → Int} {L x_z : Int} (h_z : 0 ≤ x_z ∧ x_z < L) : sg t L x_z = t x_z := if_pos h_z
theorem sg_out {t : Int → Int} {L x_z : Int} (h_z : ¬ (0 ≤ x_z ∧ x_z < L)) : sg t L x_z = 0 := if_neg h_z
/-- what kind of sign stands at a place -/
def spI (t : Int → Int) (L x_z : Int) : Int := zB (sg t L x_z = 32)
def nmI (t : Int → Int) (L x_z : Int) : Int := zB ((48 ≤ sg t L x_z ∧ sg t L x_z ≤ 57) ∨ sg t L x_z = 45 ∨ sg t L x_z = 47)
def ltI (t : Int → Int) (L x_z : Int) : Int := zB (97 ≤ sg t L x_z ∧ sg t L x_z ≤ 122)
theorem spI_out {t : Int → Int} {L x_z : Int} (h_z : L ≤ x_z) : spI t L x_z = 0 := by
  unfold spI
  rw [sg_out (by omega), zB_f (by decide)]
theorem nmI_out {t : Int → Int} {L x_z : Int} (h_z : L ≤ x_z) : nmI t L x_z = 0 := by
  unfold nmI
  rw [sg_out (by omega), zB_f (by decide)]
theorem ltI_out {t : Int → Int} {L x_z : Int} (h_z : L ≤ x_z) : ltI t L x_z = 0 := by
  unfold ltI
  rw [sg_out (by omega), zB_f (by decide)]
/-- the first place from x_z on, at most d_z further, where f_z is zero -/
def rnE (f_z : Int → Int) : Nat → Int → Int
  | 0, x_z => x_z
  | d_z + 1, x_z => if f_z x_z = 0 then x_z else rnE f_z d_z (x_z + 1)
theorem rnE_bd (f_z : Int → Int) : ∀ (d_z : Nat) (x_z : Int), x_z ≤ rnE f_z d_z x_z ∧ rnE f_z d_z x_z ≤ x_z + d_z
  | 0, x_z => ⟨Int.le_refl _, by show x_z ≤ x_z + ((0 : Nat) : Int); omega⟩
  | d_z + 1, x_z => by
    have := rnE_bd f_z d_z (x_z + 1)
    unfold rnE
    split <;> omega
theorem rnE_in (f_z : Int → Int) : ∀ (d_z : Nat) (x_z i_z : Int), x_z ≤ i_z → i_z < rnE f_z d_z x_z → f_z i_z ≠ 0
  | 0, x_z, i_z, h1, h2 => absurd h2 (by show ¬ i_z < x_z; omega)
  | d_z + 1, x_z, i_z, h1, h2 => by
    unfold rnE at h2
    by_cases c_z : f_z x_z = 0
    · rw [if_pos c_z] at h2
      omega
    · rw [if_neg c_z] at h2
      by_cases e_z : i_z = x_z
      · rw [e_z]
        exact c_z
      · exact rnE_in f_z d_z (x_z + 1) i_z (by omega) h2
/-- runs of a text -/
def skE (t : Int → Int) (L x_z : Int) : Int := rnE (spI t L) (L - x_z).toNat x_z
def nuE (t : Int → Int) (L x_z : Int) : Int := rnE (nmI t L) (L - x_z).toNat x_z
def leE (t : Int → Int) (L x_z : Int) : Int := rnE (ltI t L) (L - x_z).toNat x_z
/-- the place behind the token at x_z -/
def tkE (t : Int → Int) (L x_z : Int) : Int := if sg t L x_z = 36 then (if x_z + 1 < L then x_z + 2 else L) else if nmI t L x_z ≠ 0 then nuE t L (x_z + 1) else if ltI t L x_z ≠ 0 then leE t L (x_z + 1) else x_z + 1
theorem tkE_bd {t : Int → Int} {L x_z : Int} (h0 : 0 ≤ x_z) (h_z : x_z < L) : x_z < tkE t L x_z ∧ tkE t L x_z ≤ L := by
  unfold tkE nuE leE
  have q1_z := rnE_bd (nmI t L) (L - (x_z + 1)).toNat (x_z + 1)
  have q2_z := rnE_bd (ltI t L) (L - (x_z + 1)).toNat (x_z + 1)
  split
  · split <;> omega
  · split
    · omega
    · split <;> omega
/-- the reader at r holds the text t of length L -/
def TxC (M : Mem) (r : Nat) (t : Int → Int) (L : Int) : Prop := gK M r = 2 ∧ gR M r 0 = r + 1 ∧ gK M (r + 1) = 100 ∧ gN M (r + 1) = 160 ∧ gI M r 5 = L ∧ 0 ≤ L ∧ L ≤ 160 ∧ ∀ i_z : Int, 0 ≤ i_z → i_z < L → gI M (r + 1) i_z = t i_z
section EA
variable {G : Env0} {Q : Option AV → Mem → Prop} {M : Mem} {r : Nat} {t : Int → Int} {L : Int}
theorem X_sgC {x_z : Int} (h_z : TxC M r t L) : Call G J_Rd_signAt [a_r r, a_i x_z] M Q ↔ Q (some (a_i (sg t L x_z))) M := by
  obtain ⟨h1, h2, h3, h4, h5, h6, h7, h8⟩ := h_z
  by_cases c1_z : x_z < 0
  · rw [sg_out (by omega)]
    simp (disch := omega) only [E_Rd_signAt, B_20_0, B_20_28, B_20_29, h1, h2, h3, h4, h5, inI, inL, isT, kInt, kByt, true_and, and_true, an_t, im_t, im_f, or_true, true_or, true_imp_iff, false_imp_iff, not_true_eq_false, not_false_eq_true, gK_uI, gK_uL, gK_uR, gK_uCI, gK_uCL, gN_uI, gN_uL, gN_uR, gN_uCI, gN_uCL, gR_uI, gR_uL, gR_uCI, gR_uCL, gI_uL, gI_uR, gI_uCL, gL_uI, gL_uR, gL_uCI, gz_uI, gz_uL, gz_uR, gz_uCI, gz_uCL, gs_uI, gs_uL, gs_uR, gs_uCI, gs_uCL, rI_at, rL_at, rR_at, rI_ne, rL_ne, rR_ne, rI_nk, rL_nk, rR_nk, rI_eq, rL_eq, rR_eq, Option.toList_some, Option.toList_none, List.cons_append, List.nil_append, List.append_nil, zc_eq, zc_lt, zc_le, zc_ge, zc_gt]
  · by_cases c2_z : L ≤ x_z
    · rw [sg_out (by omega)]
      simp (disch := omega) only [E_Rd_signAt, B_20_0, B_20_28, B_20_29, h1, h2, h3, h4, h5, inI, inL, isT, kInt, kByt, true_and, and_true, an_t, im_t, im_f, or_true, true_or, true_imp_iff, false_imp_iff, not_true_eq_false, not_false_eq_true, gK_uI, gK_uL, gK_uR, gK_uCI, gK_uCL, gN_uI, gN_uL, gN_uR, gN_uCI, gN_uCL, gR_uI, gR_uL, gR_uCI, gR_uCL, gI_uL, gI_uR, gI_uCL, gL_uI, gL_uR, gL_uCI, gz_uI, gz_uL, gz_uR, gz_uCI, gz_uCL, gs_uI, gs_uL, gs_uR, gs_uCI, gs_uCL, rI_at, rL_at, rR_at, rI_ne, rL_ne, rR_ne, rI_nk, rL_nk, rR_nk, rI_eq, rL_eq, rR_eq, Option.toList_some, Option.toList_none, List.cons_append, List.nil_append, List.append_nil, zc_eq, zc_lt, zc_le, zc_ge, zc_gt]
    · rw [sg_in ⟨by omega, by omega⟩, ← h8 x_z (by omega) (by omega)]
      simp (disch := omega) only [E_Rd_signAt, B_20_0, B_20_28, B_20_29, h1, h2, h3, h4, h5, inI, inL, isT, kInt, kByt, true_and, and_true, an_t, im_t, im_f, or_true, true_or, true_imp_iff, false_imp_iff, not_true_eq_false, not_false_eq_true, gK_uI, gK_uL, gK_uR, gK_uCI, gK_uCL, gN_uI, gN_uL, gN_uR, gN_uCI, gN_uCL, gR_uI, gR_uL, gR_uCI, gR_uCL, gI_uL, gI_uR, gI_uCL, gL_uI, gL_uR, gL_uCI, gz_uI, gz_uL, gz_uR, gz_uCI, gz_uCL, gs_uI, gs_uL, gs_uR, gs_uCI, gs_uCL, rI_at, rL_at, rR_at, rI_ne, rL_ne, rR_ne, rI_nk, rL_nk, rR_nk, rI_eq, rL_eq, rR_eq, Option.toList_some, Option.toList_none, List.cons_append, List.nil_append, List.append_nil, zc_eq, zc_lt, zc_le, zc_ge, zc_gt]
theorem X_numS {x_z : Int} : Call G J_Rd_isNumberSign [a_i x_z] M Q ↔ Q (some (a_i (zB ((48 ≤ x_z ∧ x_z ≤ 57) ∨ x_z = 45 ∨ x_z = 47)))) M := by
  by_cases c1_z : 48 ≤ x_z ∧ x_z ≤ 57
  · rw [zB_t (Or.inl c1_z)]
    simp (disch := omega) only [E_Rd_isNumberSign, B_22_0, E_Rd_isDigit, B_23_0, B_23_16, B_23_17, B_22_4, B_22_19, B_22_24, inI, inL, isT, kInt, kByt, true_and, and_true, an_t, im_t, im_f, or_true, true_or, true_imp_iff, false_imp_iff, not_true_eq_false, not_false_eq_true, gK_uI, gK_uL, gK_uR, gK_uCI, gK_uCL, gN_uI, gN_uL, gN_uR, gN_uCI, gN_uCL, gR_uI, gR_uL, gR_uCI, gR_uCL, gI_uL, gI_uR, gI_uCL, gL_uI, gL_uR, gL_uCI, gz_uI, gz_uL, gz_uR, gz_uCI, gz_uCL, gs_uI, gs_uL, gs_uR, gs_uCI, gs_uCL, rI_at, rL_at, rR_at, rI_ne, rL_ne, rR_ne, rI_nk, rL_nk, rR_nk, rI_eq, rL_eq, rR_eq, Option.toList_some, Option.toList_none, List.cons_append, List.nil_append, List.append_nil, zc_eq, zc_lt, zc_le, zc_ge, zc_gt]
  · by_cases c2_z : x_z = 45
    · rw [zB_t (Or.inr (Or.inl c2_z))]
      simp (disch := omega) only [E_Rd_isNumberSign, B_22_0, E_Rd_isDigit, B_23_0, B_23_16, B_23_17, B_22_4, c2_z, B_22_19, B_22_24, inI, inL, isT, kInt, kByt, true_and, and_true, an_t, im_t, im_f, or_true, true_or, true_imp_iff, false_imp_iff, not_true_eq_false, not_false_eq_true, gK_uI, gK_uL, gK_uR, gK_uCI, gK_uCL, gN_uI, gN_uL, gN_uR, gN_uCI, gN_uCL, gR_uI, gR_uL, gR_uCI, gR_uCL, gI_uL, gI_uR, gI_uCL, gL_uI, gL_uR, gL_uCI, gz_uI, gz_uL, gz_uR, gz_uCI, gz_uCL, gs_uI, gs_uL, gs_uR, gs_uCI, gs_uCL, rI_at, rL_at, rR_at, rI_ne, rL_ne, rR_ne, rI_nk, rL_nk, rR_nk, rI_eq, rL_eq, rR_eq, Option.toList_some, Option.toList_none, List.cons_append, List.nil_append, List.append_nil, zc_eq, zc_lt, zc_le, zc_ge, zc_gt]
    · by_cases c3_z : x_z = 47
      · rw [zB_t (Or.inr (Or.inr c3_z))]
        simp (disch := omega) only [E_Rd_isNumberSign, B_22_0, E_Rd_isDigit, B_23_0, B_23_16, B_23_17, B_22_4, c3_z, not_true_eq_false, B_22_19, B_22_24, inI, inL, isT, kInt, kByt, true_and, and_true, an_t, im_t, im_f, or_true, true_or, true_imp_iff, false_imp_iff, not_true_eq_false, not_false_eq_true, gK_uI, gK_uL, gK_uR, gK_uCI, gK_uCL, gN_uI, gN_uL, gN_uR, gN_uCI, gN_uCL, gR_uI, gR_uL, gR_uCI, gR_uCL, gI_uL, gI_uR, gI_uCL, gL_uI, gL_uR, gL_uCI, gz_uI, gz_uL, gz_uR, gz_uCI, gz_uCL, gs_uI, gs_uL, gs_uR, gs_uCI, gs_uCL, rI_at, rL_at, rR_at, rI_ne, rL_ne, rR_ne, rI_nk, rL_nk, rR_nk, rI_eq, rL_eq, rR_eq, Option.toList_some, Option.toList_none, List.cons_append, List.nil_append, List.append_nil, zc_eq, zc_lt, zc_le, zc_ge, zc_gt]
      · rw [zB_f (by omega)]
        by_cases c4_z : x_z < 48
        · simp (disch := omega) only [E_Rd_isNumberSign, B_22_0, E_Rd_isDigit, B_23_0, B_23_16, B_23_17, B_22_4, B_22_23, B_22_24, inI, inL, isT, kInt, kByt, true_and, and_true, an_t, im_t, im_f, or_true, true_or, true_imp_iff, false_imp_iff, not_true_eq_false, not_false_eq_true, gK_uI, gK_uL, gK_uR, gK_uCI, gK_uCL, gN_uI, gN_uL, gN_uR, gN_uCI, gN_uCL, gR_uI, gR_uL, gR_uCI, gR_uCL, gI_uL, gI_uR, gI_uCL, gL_uI, gL_uR, gL_uCI, gz_uI, gz_uL, gz_uR, gz_uCI, gz_uCL, gs_uI, gs_uL, gs_uR, gs_uCI, gs_uCL, rI_at, rL_at, rR_at, rI_ne, rL_ne, rR_ne, rI_nk, rL_nk, rR_nk, rI_eq, rL_eq, rR_eq, Option.toList_some, Option.toList_none, List.cons_append, List.nil_append, List.append_nil, zc_eq, zc_lt, zc_le, zc_ge, zc_gt]
        · have c5_z : 57 < x_z := by omega
          simp (disch := omega) only [E_Rd_isNumberSign, B_22_0, E_Rd_isDigit, B_23_0, B_23_16, B_23_17, B_22_4, B_22_23, B_22_24, inI, inL, isT, kInt, kByt, true_and, and_true, an_t, im_t, im_f, or_true, true_or, true_imp_iff, false_imp_iff, not_true_eq_false, not_false_eq_true, gK_uI, gK_uL, gK_uR, gK_uCI, gK_uCL, gN_uI, gN_uL, gN_uR, gN_uCI, gN_uCL, gR_uI, gR_uL, gR_uCI, gR_uCL, gI_uL, gI_uR, gI_uCL, gL_uI, gL_uR, gL_uCI, gz_uI, gz_uL, gz_uR, gz_uCI, gz_uCL, gs_uI, gs_uL, gs_uR, gs_uCI, gs_uCL, rI_at, rL_at, rR_at, rI_ne, rL_ne, rR_ne, rI_nk, rL_nk, rR_nk, rI_eq, rL_eq, rR_eq, Option.toList_some, Option.toList_none, List.cons_append, List.nil_append, List.append_nil, zc_eq, zc_lt, zc_le, zc_ge, zc_gt]
theorem X_letS {x_z : Int} : Call G J_Rd_isSmallLetter [a_i x_z] M Q ↔ Q (some (a_i (zB (97 ≤ x_z ∧ x_z ≤ 122)))) M := by
  by_cases c1_z : 97 ≤ x_z ∧ x_z ≤ 122
  · rw [zB_t c1_z]
    simp (disch := omega) only [E_Rd_isSmallLetter, B_24_0, B_24_17, inI, inL, isT, kInt, kByt, true_and, and_true, an_t, im_t, im_f, or_true, true_or, true_imp_iff, false_imp_iff, not_true_eq_false, not_false_eq_true, gK_uI, gK_uL, gK_uR, gK_uCI, gK_uCL, gN_uI, gN_uL, gN_uR, gN_uCI, gN_uCL, gR_uI, gR_uL, gR_uCI, gR_uCL, gI_uL, gI_uR, gI_uCL, gL_uI, gL_uR, gL_uCI, gz_uI, gz_uL, gz_uR, gz_uCI, gz_uCL, gs_uI, gs_uL, gs_uR, gs_uCI, gs_uCL, rI_at, rL_at, rR_at, rI_ne, rL_ne, rR_ne, rI_nk, rL_nk, rR_nk, rI_eq, rL_eq, rR_eq, Option.toList_some, Option.toList_none, List.cons_append, List.nil_append, List.append_nil, zc_eq, zc_lt, zc_le, zc_ge, zc_gt]
  · rw [zB_f c1_z]
    by_cases c2_z : x_z < 97
    · simp (disch := omega) only [E_Rd_isSmallLetter, B_24_0, B_24_16, B_24_17, inI, inL, isT, kInt, kByt, true_and, and_true, an_t, im_t, im_f, or_true, true_or, true_imp_iff, false_imp_iff, not_true_eq_false, not_false_eq_true, gK_uI, gK_uL, gK_uR, gK_uCI, gK_uCL, gN_uI, gN_uL, gN_uR, gN_uCI, gN_uCL, gR_uI, gR_uL, gR_uCI, gR_uCL, gI_uL, gI_uR, gI_uCL, gL_uI, gL_uR, gL_uCI, gz_uI, gz_uL, gz_uR, gz_uCI, gz_uCL, gs_uI, gs_uL, gs_uR, gs_uCI, gs_uCL, rI_at, rL_at, rR_at, rI_ne, rL_ne, rR_ne, rI_nk, rL_nk, rR_nk, rI_eq, rL_eq, rR_eq, Option.toList_some, Option.toList_none, List.cons_append, List.nil_append, List.append_nil, zc_eq, zc_lt, zc_le, zc_ge, zc_gt]
    · simp (disch := omega) only [E_Rd_isSmallLetter, B_24_0, B_24_16, B_24_17, inI, inL, isT, kInt, kByt, true_and, and_true, an_t, im_t, im_f, or_true, true_or, true_imp_iff, false_imp_iff, not_true_eq_false, not_false_eq_true, gK_uI, gK_uL, gK_uR, gK_uCI, gK_uCL, gN_uI, gN_uL, gN_uR, gN_uCI, gN_uCL, gR_uI, gR_uL, gR_uCI, gR_uCL, gI_uL, gI_uR, gI_uCL, gL_uI, gL_uR, gL_uCI, gz_uI, gz_uL, gz_uR, gz_uCI, gz_uCL, gs_uI, gs_uL, gs_uR, gs_uCI, gs_uCL, rI_at, rL_at, rR_at, rI_ne, rL_ne, rR_ne, rI_nk, rL_nk, rR_nk, rI_eq, rL_eq, rR_eq, Option.toList_some, Option.toList_none, List.cons_append, List.nil_append, List.append_nil, zc_eq, zc_lt, zc_le, zc_ge, zc_gt]
theorem X_skC {x_z : Int} (h_z : TxC M r t L) (x0_z : 0 ≤ x_z) (x1_z : x_z ≤ L) (hQ : Q (some (a_i (skE t L x_z))) M) : Call G J_Rd_skipSpaces [a_r r, a_i x_z] M Q := by
  have sn := fun (k_z : Int) (qq : Option AV → Mem → Prop) => X_sgC (G := G) (Q := qq) (x_z := k_z) h_z
  obtain ⟨h1, h2, h3, h4, h5, h6, h7, h8⟩ := h_z
  unfold skE at hQ
  have loop_z : ∀ (d_z : Nat) (y_z : Int), y_z + d_z = L → 0 ≤ y_z → Q (some (a_i (rnE (spI t L) d_z y_z))) M → At G 19 2 [a_r r, a_i x_z, a_i y_z] [] M Q := by
    intro d_z
    induction d_z with
    | zero =>
      intro y_z hy _ hq
      have e_z : rnE (spI t L) 0 y_z = y_z := rfl
      rw [e_z] at hq
      simp (disch := omega) only [B_19_2, h1, h5, B_19_26, inI, inL, isT, kInt, kByt, true_and, and_true, an_t, im_t, im_f, or_true, true_or, true_imp_iff, false_imp_iff, not_true_eq_false, not_false_eq_true, gK_uI, gK_uL, gK_uR, gK_uCI, gK_uCL, gN_uI, gN_uL, gN_uR, gN_uCI, gN_uCL, gR_uI, gR_uL, gR_uCI, gR_uCL, gI_uL, gI_uR, gI_uCL, gL_uI, gL_uR, gL_uCI, gz_uI, gz_uL, gz_uR, gz_uCI, gz_uCL, gs_uI, gs_uL, gs_uR, gs_uCI, gs_uCL, rI_at, rL_at, rR_at, rI_ne, rL_ne, rR_ne, rI_nk, rL_nk, rR_nk, rI_eq, rL_eq, rR_eq, Option.toList_some, Option.toList_none, List.cons_append, List.nil_append, List.append_nil, zc_eq, zc_lt, zc_le, zc_ge, zc_gt]
      all_goals exact hq
    | succ d_z ih_z =>
      intro y_z hy y0 hq
      have e_z : rnE (spI t L) (d_z + 1) y_z = if spI t L y_z = 0 then y_z else rnE (spI t L) d_z (y_z + 1) := rfl
      rw [e_z] at hq
      rw [B_19_2]
      refine ⟨h1, fun w_z => absurd w_z (by omega), fun _ => ⟨h1, ?_⟩⟩
      rw [sn]
      unfold spI at hq
      by_cases c_z : sg t L y_z = 32
      · rw [zB_t c_z, if_neg (by decide)] at hq
        have go_z := ih_z (y_z + 1) (by omega) (by omega) hq
        simp (disch := omega) only [B_19_15, c_z, not_true_eq_false, inI, inL, isT, kInt, kByt, true_and, and_true, an_t, im_t, im_f, or_true, true_or, true_imp_iff, false_imp_iff, not_true_eq_false, not_false_eq_true, gK_uI, gK_uL, gK_uR, gK_uCI, gK_uCL, gN_uI, gN_uL, gN_uR, gN_uCI, gN_uCL, gR_uI, gR_uL, gR_uCI, gR_uCL, gI_uL, gI_uR, gI_uCL, gL_uI, gL_uR, gL_uCI, gz_uI, gz_uL, gz_uR, gz_uCI, gz_uCL, gs_uI, gs_uL, gs_uR, gs_uCI, gs_uCL, rI_at, rL_at, rR_at, rI_ne, rL_ne, rR_ne, rI_nk, rL_nk, rR_nk, rI_eq, rL_eq, rR_eq, Option.toList_some, Option.toList_none, List.cons_append, List.nil_append, List.append_nil, zc_eq, zc_lt, zc_le, zc_ge, zc_gt]
        all_goals exact go_z
      · rw [zB_f c_z, if_pos rfl] at hq
        simp (disch := omega) only [B_19_15, c_z, not_false_eq_true, B_19_26, inI, inL, isT, kInt, kByt, true_and, and_true, an_t, im_t, im_f, or_true, true_or, true_imp_iff, false_imp_iff, not_true_eq_false, not_false_eq_true, gK_uI, gK_uL, gK_uR, gK_uCI, gK_uCL, gN_uI, gN_uL, gN_uR, gN_uCI, gN_uCL, gR_uI, gR_uL, gR_uCI, gR_uCL, gI_uL, gI_uR, gI_uCL, gL_uI, gL_uR, gL_uCI, gz_uI, gz_uL, gz_uR, gz_uCI, gz_uCL, gs_uI, gs_uL, gs_uR, gs_uCI, gs_uCL, rI_at, rL_at, rR_at, rI_ne, rL_ne, rR_ne, rI_nk, rL_nk, rR_nk, rI_eq, rL_eq, rR_eq, Option.toList_some, Option.toList_none, List.cons_append, List.nil_append, List.append_nil, zc_eq, zc_lt, zc_le, zc_ge, zc_gt]
        all_goals exact hq
  have l0 := loop_z (L - x_z).toNat x_z (by omega) x0_z hQ
  simp (disch := omega) only [E_Rd_skipSpaces, B_19_0, inI, inL, isT, kInt, kByt, true_and, and_true, an_t, im_t, im_f, or_true, true_or, true_imp_iff, false_imp_iff, not_true_eq_false, not_false_eq_true, gK_uI, gK_uL, gK_uR, gK_uCI, gK_uCL, gN_uI, gN_uL, gN_uR, gN_uCI, gN_uCL, gR_uI, gR_uL, gR_uCI, gR_uCL, gI_uL, gI_uR, gI_uCL, gL_uI, gL_uR, gL_uCI, gz_uI, gz_uL, gz_uR, gz_uCI, gz_uCL, gs_uI, gs_uL, gs_uR, gs_uCI, gs_uCL, rI_at, rL_at, rR_at, rI_ne, rL_ne, rR_ne, rI_nk, rL_nk, rR_nk, rI_eq, rL_eq, rR_eq, Option.toList_some, Option.toList_none, List.cons_append, List.nil_append, List.append_nil, zc_eq, zc_lt, zc_le, zc_ge, zc_gt]
  all_goals exact l0
theorem X_endC {x_z : Int} (h_z : TxC M r t L) (x0_z : 0 ≤ x_z) (x1_z : x_z < L) (hQ : Q (some (a_i (tkE t L x_z))) M) : Call G J_Rd_findEnd [a_r r, a_i x_z] M Q := by
  have sn := fun (k_z : Int) (qq : Option AV → Mem → Prop) => X_sgC (G := G) (Q := qq) (x_z := k_z) h_z
  have nm := fun (k_z : Int) (qq : Option AV → Mem → Prop) => X_numS (G := G) (Q := qq) (M := M) (x_z := k_z)
  have lt := fun (k_z : Int) (qq : Option AV → Mem → Prop) => X_letS (G := G) (Q := qq) (M := M) (x_z := k_z)
  obtain ⟨h1, h2, h3, h4, h5, h6, h7, h8⟩ := h_z
  have l1 : ∀ (d_z : Nat) (f_z y_z : Int), y_z + d_z = L → 0 ≤ y_z → Q (some (a_i (rnE (nmI t L) d_z y_z))) M → At G 21 44 [a_r r, a_i x_z, a_i f_z, a_i y_z] [] M Q := by
    intro d_z
    induction d_z with
    | zero =>
      intro f_z y_z hy _ hq
      have e_z : rnE (nmI t L) 0 y_z = y_z := rfl
      rw [e_z] at hq
      simp (disch := omega) only [B_21_44, h1, h5, B_21_101, inI, inL, isT, kInt, kByt, true_and, and_true, an_t, im_t, im_f, or_true, true_or, true_imp_iff, false_imp_iff, not_true_eq_false, not_false_eq_true, gK_uI, gK_uL, gK_uR, gK_uCI, gK_uCL, gN_uI, gN_uL, gN_uR, gN_uCI, gN_uCL, gR_uI, gR_uL, gR_uCI, gR_uCL, gI_uL, gI_uR, gI_uCL, gL_uI, gL_uR, gL_uCI, gz_uI, gz_uL, gz_uR, gz_uCI, gz_uCL, gs_uI, gs_uL, gs_uR, gs_uCI, gs_uCL, rI_at, rL_at, rR_at, rI_ne, rL_ne, rR_ne, rI_nk, rL_nk, rR_nk, rI_eq, rL_eq, rR_eq, Option.toList_some, Option.toList_none, List.cons_append, List.nil_append, List.append_nil, zc_eq, zc_lt, zc_le, zc_ge, zc_gt]
      all_goals exact hq
    | succ d_z ih_z =>
      intro f_z y_z hy y0 hq
      have e_z : rnE (nmI t L) (d_z + 1) y_z = if nmI t L y_z = 0 then y_z else rnE (nmI t L) d_z (y_z + 1) := rfl
      rw [e_z] at hq
      rw [B_21_44]
      refine ⟨h1, fun w_z => absurd w_z (by omega), fun _ => ⟨h1, ?_⟩⟩
      rw [sn]
      unfold nmI at hq
      have nk := fun qq => nm (sg t L y_z) qq
      generalize sg t L y_z = v_z at *
      by_cases c_z : (48 ≤ v_z ∧ v_z ≤ 57) ∨ v_z = 45 ∨ v_z = 47
      · rw [zB_t c_z, if_neg (by decide)] at hq
        rw [zB_t c_z] at nk
        have go_z := ih_z f_z (y_z + 1) (by omega) (by omega) hq
        simp (disch := omega) only [B_21_57, nk, B_21_60, inI, inL, isT, kInt, kByt, true_and, and_true, an_t, im_t, im_f, or_true, true_or, true_imp_iff, false_imp_iff, not_true_eq_false, not_false_eq_true, gK_uI, gK_uL, gK_uR, gK_uCI, gK_uCL, gN_uI, gN_uL, gN_uR, gN_uCI, gN_uCL, gR_uI, gR_uL, gR_uCI, gR_uCL, gI_uL, gI_uR, gI_uCL, gL_uI, gL_uR, gL_uCI, gz_uI, gz_uL, gz_uR, gz_uCI, gz_uCL, gs_uI, gs_uL, gs_uR, gs_uCI, gs_uCL, rI_at, rL_at, rR_at, rI_ne, rL_ne, rR_ne, rI_nk, rL_nk, rR_nk, rI_eq, rL_eq, rR_eq, Option.toList_some, Option.toList_none, List.cons_append, List.nil_append, List.append_nil, zc_eq, zc_lt, zc_le, zc_ge, zc_gt]
        all_goals exact go_z
      · rw [zB_f c_z, if_pos rfl] at hq
        rw [zB_f c_z] at nk
        simp (disch := omega) only [B_21_57, nk, B_21_60, B_21_101, inI, inL, isT, kInt, kByt, true_and, and_true, an_t, im_t, im_f, or_true, true_or, true_imp_iff, false_imp_iff, not_true_eq_false, not_false_eq_true, gK_uI, gK_uL, gK_uR, gK_uCI, gK_uCL, gN_uI, gN_uL, gN_uR, gN_uCI, gN_uCL, gR_uI, gR_uL, gR_uCI, gR_uCL, gI_uL, gI_uR, gI_uCL, gL_uI, gL_uR, gL_uCI, gz_uI, gz_uL, gz_uR, gz_uCI, gz_uCL, gs_uI, gs_uL, gs_uR, gs_uCI, gs_uCL, rI_at, rL_at, rR_at, rI_ne, rL_ne, rR_ne, rI_nk, rL_nk, rR_nk, rI_eq, rL_eq, rR_eq, Option.toList_some, Option.toList_none, List.cons_append, List.nil_append, List.append_nil, zc_eq, zc_lt, zc_le, zc_ge, zc_gt]
        all_goals exact hq
  have l2 : ∀ (d_z : Nat) (f_z y_z : Int), y_z + d_z = L → 0 ≤ y_z → Q (some (a_i (rnE (ltI t L) d_z y_z))) M → At G 21 76 [a_r r, a_i x_z, a_i f_z, a_i y_z] [] M Q := by
    intro d_z
    induction d_z with
    | zero =>
      intro f_z y_z hy _ hq
      have e_z : rnE (ltI t L) 0 y_z = y_z := rfl
      rw [e_z] at hq
      simp (disch := omega) only [B_21_76, h1, h5, B_21_101, inI, inL, isT, kInt, kByt, true_and, and_true, an_t, im_t, im_f, or_true, true_or, true_imp_iff, false_imp_iff, not_true_eq_false, not_false_eq_true, gK_uI, gK_uL, gK_uR, gK_uCI, gK_uCL, gN_uI, gN_uL, gN_uR, gN_uCI, gN_uCL, gR_uI, gR_uL, gR_uCI, gR_uCL, gI_uL, gI_uR, gI_uCL, gL_uI, gL_uR, gL_uCI, gz_uI, gz_uL, gz_uR, gz_uCI, gz_uCL, gs_uI, gs_uL, gs_uR, gs_uCI, gs_uCL, rI_at, rL_at, rR_at, rI_ne, rL_ne, rR_ne, rI_nk, rL_nk, rR_nk, rI_eq, rL_eq, rR_eq, Option.toList_some, Option.toList_none, List.cons_append, List.nil_append, List.append_nil, zc_eq, zc_lt, zc_le, zc_ge, zc_gt]
      all_goals exact hq
    | succ d_z ih_z =>
      intro f_z y_z hy y0 hq
      have e_z : rnE (ltI t L) (d_z + 1) y_z = if ltI t L y_z = 0 then y_z else rnE (ltI t L) d_z (y_z + 1) := rfl
      rw [e_z] at hq
      rw [B_21_76]
      refine ⟨h1, fun w_z => absurd w_z (by omega), fun _ => ⟨h1, ?_⟩⟩
      rw [sn]
      unfold ltI at hq
      have nk := fun qq => lt (sg t L y_z) qq
      generalize sg t L y_z = v_z at *
      by_cases c_z : 97 ≤ v_z ∧ v_z ≤ 122
      · rw [zB_t c_z, if_neg (by decide)] at hq
        rw [zB_t c_z] at nk
        have go_z := ih_z f_z (y_z + 1) (by omega) (by omega) hq
        simp (disch := omega) only [B_21_89, nk, B_21_92, inI, inL, isT, kInt, kByt, true_and, and_true, an_t, im_t, im_f, or_true, true_or, true_imp_iff, false_imp_iff, not_true_eq_false, not_false_eq_true, gK_uI, gK_uL, gK_uR, gK_uCI, gK_uCL, gN_uI, gN_uL, gN_uR, gN_uCI, gN_uCL, gR_uI, gR_uL, gR_uCI, gR_uCL, gI_uL, gI_uR, gI_uCL, gL_uI, gL_uR, gL_uCI, gz_uI, gz_uL, gz_uR, gz_uCI, gz_uCL, gs_uI, gs_uL, gs_uR, gs_uCI, gs_uCL, rI_at, rL_at, rR_at, rI_ne, rL_ne, rR_ne, rI_nk, rL_nk, rR_nk, rI_eq, rL_eq, rR_eq, Option.toList_some, Option.toList_none, List.cons_append, List.nil_append, List.append_nil, zc_eq, zc_lt, zc_le, zc_ge, zc_gt]
        all_goals exact go_z
      · rw [zB_f c_z, if_pos rfl] at hq
        rw [zB_f c_z] at nk
        simp (disch := omega) only [B_21_89, nk, B_21_92, B_21_101, inI, inL, isT, kInt, kByt, true_and, and_true, an_t, im_t, im_f, or_true, true_or, true_imp_iff, false_imp_iff, not_true_eq_false, not_false_eq_true, gK_uI, gK_uL, gK_uR, gK_uCI, gK_uCL, gN_uI, gN_uL, gN_uR, gN_uCI, gN_uCL, gR_uI, gR_uL, gR_uCI, gR_uCL, gI_uL, gI_uR, gI_uCL, gL_uI, gL_uR, gL_uCI, gz_uI, gz_uL, gz_uR, gz_uCI, gz_uCL, gs_uI, gs_uL, gs_uR, gs_uCI, gs_uCL, rI_at, rL_at, rR_at, rI_ne, rL_ne, rR_ne, rI_nk, rL_nk, rR_nk, rI_eq, rL_eq, rR_eq, Option.toList_some, Option.toList_none, List.cons_append, List.nil_append, List.append_nil, zc_eq, zc_lt, zc_le, zc_ge, zc_gt]
        all_goals exact hq
  unfold tkE nuE leE nmI ltI at hQ
  have s0_z := fun qq => sn x_z qq
  have nk := fun qq => nm (sg t L x_z) qq
  have lk := fun qq => lt (sg t L x_z) qq
  have l1' := fun f_z => l1 (L - (x_z + 1)).toNat f_z (x_z + 1) (by omega) (by omega)
  have l2' := fun f_z => l2 (L - (x_z + 1)).toNat f_z (x_z + 1) (by omega) (by omega)
  unfold nmI at l1'
  unfold ltI at l2'
  clear l1 l2
  generalize hv : sg t L x_z = v_z at *
  by_cases c1_z : v_z = 36
  · rw [if_pos c1_z] at hQ
    by_cases c2_z : x_z + 1 < L
    · rw [if_pos c2_z] at hQ
      simp (disch := omega) only [E_Rd_findEnd, B_21_0, h1, h5, s0_z, B_21_5, c1_z, not_true_eq_false, B_21_32, inI, inL, isT, kInt, kByt, true_and, and_true, an_t, im_t, im_f, or_true, true_or, true_imp_iff, false_imp_iff, not_true_eq_false, not_false_eq_true, gK_uI, gK_uL, gK_uR, gK_uCI, gK_uCL, gN_uI, gN_uL, gN_uR, gN_uCI, gN_uCL, gR_uI, gR_uL, gR_uCI, gR_uCL, gI_uL, gI_uR, gI_uCL, gL_uI, gL_uR, gL_uCI, gz_uI, gz_uL, gz_uR, gz_uCI, gz_uCL, gs_uI, gs_uL, gs_uR, gs_uCI, gs_uCL, rI_at, rL_at, rR_at, rI_ne, rL_ne, rR_ne, rI_nk, rL_nk, rR_nk, rI_eq, rL_eq, rR_eq, Option.toList_some, Option.toList_none, List.cons_append, List.nil_append, List.append_nil, zc_eq, zc_lt, zc_le, zc_ge, zc_gt]
      all_goals exact hQ
    · rw [if_neg c2_z] at hQ
      simp (disch := omega) only [E_Rd_findEnd, B_21_0, h1, h5, s0_z, B_21_5, c1_z, not_true_eq_false, B_21_28, B_21_32, inI, inL, isT, kInt, kByt, true_and, and_true, an_t, im_t, im_f, or_true, true_or, true_imp_iff, false_imp_iff, not_true_eq_false, not_false_eq_true, gK_uI, gK_uL, gK_uR, gK_uCI, gK_uCL, gN_uI, gN_uL, gN_uR, gN_uCI, gN_uCL, gR_uI, gR_uL, gR_uCI, gR_uCL, gI_uL, gI_uR, gI_uCL, gL_uI, gL_uR, gL_uCI, gz_uI, gz_uL, gz_uR, gz_uCI, gz_uCL, gs_uI, gs_uL, gs_uR, gs_uCI, gs_uCL, rI_at, rL_at, rR_at, rI_ne, rL_ne, rR_ne, rI_nk, rL_nk, rR_nk, rI_eq, rL_eq, rR_eq, Option.toList_some, Option.toList_none, List.cons_append, List.nil_append, List.append_nil, zc_eq, zc_lt, zc_le, zc_ge, zc_gt]
      all_goals exact hQ
  · rw [if_neg c1_z] at hQ
    by_cases c2_z : (48 ≤ v_z ∧ v_z ≤ 57) ∨ v_z = 45 ∨ v_z = 47
    · rw [zB_t c2_z, if_pos (by decide)] at hQ
      rw [zB_t c2_z] at nk
      have go_z := l1' v_z hQ
      simp (disch := omega) only [E_Rd_findEnd, B_21_0, h1, s0_z, B_21_5, c1_z, not_false_eq_true, B_21_33, nk, B_21_41, inI, inL, isT, kInt, kByt, true_and, and_true, an_t, im_t, im_f, or_true, true_or, true_imp_iff, false_imp_iff, not_true_eq_false, not_false_eq_true, gK_uI, gK_uL, gK_uR, gK_uCI, gK_uCL, gN_uI, gN_uL, gN_uR, gN_uCI, gN_uCL, gR_uI, gR_uL, gR_uCI, gR_uCL, gI_uL, gI_uR, gI_uCL, gL_uI, gL_uR, gL_uCI, gz_uI, gz_uL, gz_uR, gz_uCI, gz_uCL, gs_uI, gs_uL, gs_uR, gs_uCI, gs_uCL, rI_at, rL_at, rR_at, rI_ne, rL_ne, rR_ne, rI_nk, rL_nk, rR_nk, rI_eq, rL_eq, rR_eq, Option.toList_some, Option.toList_none, List.cons_append, List.nil_append, List.append_nil, zc_eq, zc_lt, zc_le, zc_ge, zc_gt]
      all_goals exact go_z
    · rw [zB_f c2_z, if_neg (by decide)] at hQ
      rw [zB_f c2_z] at nk
      by_cases c3_z : 97 ≤ v_z ∧ v_z ≤ 122
      · rw [zB_t c3_z, if_pos (by decide)] at hQ
        rw [zB_t c3_z] at lk
        have go_z := l2' v_z hQ
        simp (disch := omega) only [E_Rd_findEnd, B_21_0, h1, s0_z, B_21_5, c1_z, not_false_eq_true, B_21_33, nk, B_21_41, B_21_69, lk, B_21_73, inI, inL, isT, kInt, kByt, true_and, and_true, an_t, im_t, im_f, or_true, true_or, true_imp_iff, false_imp_iff, not_true_eq_false, not_false_eq_true, gK_uI, gK_uL, gK_uR, gK_uCI, gK_uCL, gN_uI, gN_uL, gN_uR, gN_uCI, gN_uCL, gR_uI, gR_uL, gR_uCI, gR_uCL, gI_uL, gI_uR, gI_uCL, gL_uI, gL_uR, gL_uCI, gz_uI, gz_uL, gz_uR, gz_uCI, gz_uCL, gs_uI, gs_uL, gs_uR, gs_uCI, gs_uCL, rI_at, rL_at, rR_at, rI_ne, rL_ne, rR_ne, rI_nk, rL_nk, rR_nk, rI_eq, rL_eq, rR_eq, Option.toList_some, Option.toList_none, List.cons_append, List.nil_append, List.append_nil, zc_eq, zc_lt, zc_le, zc_ge, zc_gt]
        all_goals exact go_z
      · rw [zB_f c3_z, if_neg (by decide)] at hQ
        rw [zB_f c3_z] at lk
        simp (disch := omega) only [E_Rd_findEnd, B_21_0, h1, s0_z, B_21_5, c1_z, not_false_eq_true, B_21_33, nk, B_21_41, B_21_69, lk, B_21_73, B_21_101, inI, inL, isT, kInt, kByt, true_and, and_true, an_t, im_t, im_f, or_true, true_or, true_imp_iff, false_imp_iff, not_true_eq_false, not_false_eq_true, gK_uI, gK_uL, gK_uR, gK_uCI, gK_uCL, gN_uI, gN_uL, gN_uR, gN_uCI, gN_uCL, gR_uI, gR_uL, gR_uCI, gR_uCL, gI_uL, gI_uR, gI_uCL, gL_uI, gL_uR, gL_uCI, gz_uI, gz_uL, gz_uR, gz_uCI, gz_uCL, gs_uI, gs_uL, gs_uR, gs_uCI, gs_uCL, rI_at, rL_at, rR_at, rI_ne, rL_ne, rR_ne, rI_nk, rL_nk, rR_nk, rI_eq, rL_eq, rR_eq, Option.toList_some, Option.toList_none, List.cons_append, List.nil_append, List.append_nil, zc_eq, zc_lt, zc_le, zc_ge, zc_gt]
        all_goals exact hQ
end EA
