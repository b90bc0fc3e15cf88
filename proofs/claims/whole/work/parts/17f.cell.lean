/-! THE PURE PART, part 17: the latest item at a cell, both sides. Own work. -/
section DE
variable {G : Env0} {Q : Option AV → Mem → Prop} {M T : Mem} {c m b : Nat}
/-- the latest of the first n_z items at a cell -/
def latC (M : Mem) (c : Nat) (n_z x_z y_z : Int) : Int := latI (fun k_z => cvI M c k_z x_z y_z) n_z.toNat
theorem latC_bd (M : Mem) (c : Nat) {n_z : Int} (x_z y_z : Int) (h_z : 0 ≤ n_z) : -1 ≤ latC M c n_z x_z y_z ∧ latC M c n_z x_z y_z < n_z := by
  have := latI_bd (fun k_z => cvI M c k_z x_z y_z) n_z.toNat
  unfold latC
  omega
theorem X_latC {n_z x_z y_z : Int} (sh_z : ShMa M c) (rs : RsR M T c m) (n0_z : 0 ≤ n_z) (n1_z : n_z ≤ gI M (c + 3) 8) (x0_z : 0 ≤ x_z) (x1_z : x_z < 24) (y0 : 0 ≤ y_z) (y1 : y_z < 24) (hQ : Q (some (a_i (latC M c n_z x_z y_z))) M) : Call G J_It_latestAt [a_r (c + 3), a_i x_z, a_i y_z, a_i n_z] M Q := by
  have t1_z := rs.2.1.2.2.1
  have sI : ShIt M (c + 3) (c + 4) := sh_z.2.2.1
  unfold latC at hQ
  have loop_z : ∀ k_z : Nat, (k_z : Int) ≤ gI M (c + 3) 8 → Q (some (a_i (latI (fun k_z => cvI M c k_z x_z y_z) k_z))) M → At G 142 5 [a_r (c + 3), a_i x_z, a_i y_z, a_i n_z, a_i ((k_z : Int) - 1)] [] M Q := by
    intro k_z
    induction k_z with
    | zero =>
      intro _ hq
      have e_z : ((0 : Nat) : Int) - 1 = -1 := by omega
      rw [e_z]
      have e2_z : latI (fun k_z => cvI M c k_z x_z y_z) 0 = -1 := rfl
      rw [e2_z] at hq
      simp (disch := omega) only [B_142_5, B_142_30, inI, inL, isT, kInt, kByt, true_and, and_true, an_t, im_t, im_f, or_true, true_or, true_imp_iff, false_imp_iff, not_true_eq_false, not_false_eq_true, gK_uI, gK_uL, gK_uR, gK_uCI, gK_uCL, gN_uI, gN_uL, gN_uR, gN_uCI, gN_uCL, gR_uI, gR_uL, gR_uCI, gR_uCL, gI_uL, gI_uR, gI_uCL, gL_uI, gL_uR, gL_uCI, gz_uI, gz_uL, gz_uR, gz_uCI, gz_uCL, gs_uI, gs_uL, gs_uR, gs_uCI, gs_uCL, rI_at, rL_at, rR_at, rI_ne, rL_ne, rR_ne, rI_nk, rL_nk, rR_nk, rI_eq, rL_eq, rR_eq, Option.toList_some, Option.toList_none, List.cons_append, List.nil_append, List.append_nil, zc_eq, zc_lt, zc_le, zc_ge, zc_gt]
      all_goals exact hq
    | succ k_z ih_z =>
      intro hk hq
      have e_z : ((k_z + 1 : Nat) : Int) - 1 = (k_z : Int) := by omega
      rw [e_z]
      have e2_z : latI (fun k_z => cvI M c k_z x_z y_z) (k_z + 1) = if cvI M c k_z x_z y_z = 0 then latI (fun k_z => cvI M c k_z x_z y_z) k_z else (k_z : Int) := rfl
      rw [e2_z] at hq
      rw [B_142_5]
      refine ⟨fun w_z => absurd w_z (by omega), fun _ => ⟨sI.u.1, ?_⟩⟩
      refine X_itCov (T := T) (m := m) sh_z rs (by omega) (by omega) x0_z x1_z y0 y1 ?_
      generalize cvI M c k_z x_z y_z = v_z at *
      by_cases cv : v_z = 0
      · rw [if_pos cv] at hq
        have go_z := ih_z (by omega) hq
        rw [show (k_z : Int) - 1 = (k_z : Int) + -1 from by omega] at go_z
        simp (disch := omega) only [B_142_18, cv, B_142_24, inI, inL, isT, kInt, kByt, true_and, and_true, an_t, im_t, im_f, or_true, true_or, true_imp_iff, false_imp_iff, not_true_eq_false, not_false_eq_true, gK_uI, gK_uL, gK_uR, gK_uCI, gK_uCL, gN_uI, gN_uL, gN_uR, gN_uCI, gN_uCL, gR_uI, gR_uL, gR_uCI, gR_uCL, gI_uL, gI_uR, gI_uCL, gL_uI, gL_uR, gL_uCI, gz_uI, gz_uL, gz_uR, gz_uCI, gz_uCL, gs_uI, gs_uL, gs_uR, gs_uCI, gs_uCL, rI_at, rL_at, rR_at, rI_ne, rL_ne, rR_ne, rI_nk, rL_nk, rR_nk, rI_eq, rL_eq, rR_eq, Option.toList_some, Option.toList_none, List.cons_append, List.nil_append, List.append_nil, zc_eq, zc_lt, zc_le, zc_ge, zc_gt]
        all_goals exact go_z
      · rw [if_neg cv] at hq
        simp (disch := omega) only [B_142_18, cv, inI, inL, isT, kInt, kByt, true_and, and_true, an_t, im_t, im_f, or_true, true_or, true_imp_iff, false_imp_iff, not_true_eq_false, not_false_eq_true, gK_uI, gK_uL, gK_uR, gK_uCI, gK_uCL, gN_uI, gN_uL, gN_uR, gN_uCI, gN_uCL, gR_uI, gR_uL, gR_uCI, gR_uCL, gI_uL, gI_uR, gI_uCL, gL_uI, gL_uR, gL_uCI, gz_uI, gz_uL, gz_uR, gz_uCI, gz_uCL, gs_uI, gs_uL, gs_uR, gs_uCI, gs_uCL, rI_at, rL_at, rR_at, rI_ne, rL_ne, rR_ne, rI_nk, rL_nk, rR_nk, rI_eq, rL_eq, rR_eq, Option.toList_some, Option.toList_none, List.cons_append, List.nil_append, List.append_nil, zc_eq, zc_lt, zc_le, zc_ge, zc_gt]
        all_goals exact hq
  have l0 := loop_z n_z.toNat (by omega) hQ
  rw [show ((n_z.toNat : Nat) : Int) = n_z from by omega] at l0
  simp (disch := omega) only [E_It_latestAt, B_142_0, inI, inL, isT, kInt, kByt, true_and, and_true, an_t, im_t, im_f, or_true, true_or, true_imp_iff, false_imp_iff, not_true_eq_false, not_false_eq_true, gK_uI, gK_uL, gK_uR, gK_uCI, gK_uCL, gN_uI, gN_uL, gN_uR, gN_uCI, gN_uCL, gR_uI, gR_uL, gR_uCI, gR_uCL, gI_uL, gI_uR, gI_uCL, gL_uI, gL_uR, gL_uCI, gz_uI, gz_uL, gz_uR, gz_uCI, gz_uCL, gs_uI, gs_uL, gs_uR, gs_uCI, gs_uCL, rI_at, rL_at, rR_at, rI_ne, rL_ne, rR_ne, rI_nk, rL_nk, rR_nk, rI_eq, rL_eq, rR_eq, Option.toList_some, Option.toList_none, List.cons_append, List.nil_append, List.append_nil, zc_eq, zc_lt, zc_le, zc_ge, zc_gt]
  all_goals exact l0
theorem X_latM {n_z x_z y_z : Int} (sm_z : ShM T m) (rs : RsR M T c m) (n0_z : 0 ≤ n_z) (n1_z : n_z ≤ gI M (c + 3) 8) (x0_z : 0 ≤ x_z) (x1_z : x_z < 24) (y0 : 0 ≤ y_z) (y1 : y_z < 24) (hQ : Q (some (a_i (if latC M c n_z x_z y_z < 0 then -10000009 else latC M c n_z x_z y_z))) T) : Call G J_M_latest [a_r m, a_i n_z, a_i x_z, a_i y_z] T Q := by
  have t1_z := rs.2.1.2.2.1
  unfold latC at hQ
  have loop_z : ∀ k_z : Nat, (k_z : Int) ≤ gI M (c + 3) 8 → Q (some (a_i (if latI (fun k_z => cvI M c k_z x_z y_z) k_z < 0 then -10000009 else latI (fun k_z => cvI M c k_z x_z y_z) k_z))) T → At G 246 5 [a_r m, a_i n_z, a_i x_z, a_i y_z, a_i ((k_z : Int) - 1)] [] T Q := by
    intro k_z
    induction k_z with
    | zero =>
      intro _ hq
      have e_z : ((0 : Nat) : Int) - 1 = -1 := by omega
      rw [e_z]
      have e2_z : latI (fun k_z => cvI M c k_z x_z y_z) 0 = -1 := rfl
      rw [e2_z, if_pos (by decide)] at hq
      simp (disch := omega) only [B_246_5, B_246_27, B_246_39, inI, inL, isT, kInt, kByt, true_and, and_true, an_t, im_t, im_f, or_true, true_or, true_imp_iff, false_imp_iff, not_true_eq_false, not_false_eq_true, gK_uI, gK_uL, gK_uR, gK_uCI, gK_uCL, gN_uI, gN_uL, gN_uR, gN_uCI, gN_uCL, gR_uI, gR_uL, gR_uCI, gR_uCL, gI_uL, gI_uR, gI_uCL, gL_uI, gL_uR, gL_uCI, gz_uI, gz_uL, gz_uR, gz_uCI, gz_uCL, gs_uI, gs_uL, gs_uR, gs_uCI, gs_uCL, rI_at, rL_at, rR_at, rI_ne, rL_ne, rR_ne, rI_nk, rL_nk, rR_nk, rI_eq, rL_eq, rR_eq, Option.toList_some, Option.toList_none, List.cons_append, List.nil_append, List.append_nil, zc_eq, zc_lt, zc_le, zc_ge, zc_gt]
      all_goals exact hq
    | succ k_z ih_z =>
      intro hk hq
      have e_z : ((k_z + 1 : Nat) : Int) - 1 = (k_z : Int) := by omega
      rw [e_z]
      have e2_z : latI (fun k_z => cvI M c k_z x_z y_z) (k_z + 1) = if cvI M c k_z x_z y_z = 0 then latI (fun k_z => cvI M c k_z x_z y_z) k_z else (k_z : Int) := rfl
      rw [e2_z] at hq
      rw [B_246_5]
      refine ⟨fun w_z => absurd w_z (by omega), fun _ => ⟨sm_z.u.1, ?_⟩⟩
      refine X_mCov (M := M) (c := c) sm_z rs (by omega) (by omega) x0_z x1_z y0 y1 ?_
      generalize cvI M c k_z x_z y_z = v_z at *
      by_cases cv : v_z = 0
      · rw [if_pos cv] at hq
        have go_z := ih_z (by omega) hq
        rw [show (k_z : Int) - 1 = (k_z : Int) + -1 from by omega] at go_z
        simp (disch := omega) only [B_246_18, cv, not_true_eq_false, inI, inL, isT, kInt, kByt, true_and, and_true, an_t, im_t, im_f, or_true, true_or, true_imp_iff, false_imp_iff, not_true_eq_false, not_false_eq_true, gK_uI, gK_uL, gK_uR, gK_uCI, gK_uCL, gN_uI, gN_uL, gN_uR, gN_uCI, gN_uCL, gR_uI, gR_uL, gR_uCI, gR_uCL, gI_uL, gI_uR, gI_uCL, gL_uI, gL_uR, gL_uCI, gz_uI, gz_uL, gz_uR, gz_uCI, gz_uCL, gs_uI, gs_uL, gs_uR, gs_uCI, gs_uCL, rI_at, rL_at, rR_at, rI_ne, rL_ne, rR_ne, rI_nk, rL_nk, rR_nk, rI_eq, rL_eq, rR_eq, Option.toList_some, Option.toList_none, List.cons_append, List.nil_append, List.append_nil, zc_eq, zc_lt, zc_le, zc_ge, zc_gt]
        all_goals exact go_z
      · rw [if_neg cv, if_neg (by omega)] at hq
        simp (disch := omega) only [B_246_18, cv, B_246_27, B_246_37, B_246_39, inI, inL, isT, kInt, kByt, true_and, and_true, an_t, im_t, im_f, or_true, true_or, true_imp_iff, false_imp_iff, not_true_eq_false, not_false_eq_true, gK_uI, gK_uL, gK_uR, gK_uCI, gK_uCL, gN_uI, gN_uL, gN_uR, gN_uCI, gN_uCL, gR_uI, gR_uL, gR_uCI, gR_uCL, gI_uL, gI_uR, gI_uCL, gL_uI, gL_uR, gL_uCI, gz_uI, gz_uL, gz_uR, gz_uCI, gz_uCL, gs_uI, gs_uL, gs_uR, gs_uCI, gs_uCL, rI_at, rL_at, rR_at, rI_ne, rL_ne, rR_ne, rI_nk, rL_nk, rR_nk, rI_eq, rL_eq, rR_eq, Option.toList_some, Option.toList_none, List.cons_append, List.nil_append, List.append_nil, zc_eq, zc_lt, zc_le, zc_ge, zc_gt]
        all_goals exact hq
  have l0 := loop_z n_z.toNat (by omega) hQ
  rw [show ((n_z.toNat : Nat) : Int) = n_z from by omega] at l0
  simp (disch := omega) only [E_M_latest, B_246_0, inI, inL, isT, kInt, kByt, true_and, and_true, an_t, im_t, im_f, or_true, true_or, true_imp_iff, false_imp_iff, not_true_eq_false, not_false_eq_true, gK_uI, gK_uL, gK_uR, gK_uCI, gK_uCL, gN_uI, gN_uL, gN_uR, gN_uCI, gN_uCL, gR_uI, gR_uL, gR_uCI, gR_uCL, gI_uL, gI_uR, gI_uCL, gL_uI, gL_uR, gL_uCI, gz_uI, gz_uL, gz_uR, gz_uCI, gz_uCL, gs_uI, gs_uL, gs_uR, gs_uCI, gs_uCL, rI_at, rL_at, rR_at, rI_ne, rL_ne, rR_ne, rI_nk, rL_nk, rR_nk, rI_eq, rL_eq, rR_eq, Option.toList_some, Option.toList_none, List.cons_append, List.nil_append, List.append_nil, zc_eq, zc_lt, zc_le, zc_ge, zc_gt]
  all_goals exact l0
/-- the color of an item, or of the paper -/
def colI (M : Mem) (c : Nat) (v_z : Int) : Int := if v_z < 0 then 0 else gI M (c + 12) v_z
theorem X_colC {v_z : Int} (sh_z : ShMa M c) (rs : RsR M T c m) (v1_z : v_z < gI M (c + 3) 8) : Call G J_It_colorOf [a_r (c + 3), a_i v_z] M Q ↔ Q (some (a_i (colI M c v_z))) M := by
  have t1_z := rs.2.1.2.2.1
  have sI : ShIt M (c + 3) (c + 4) := sh_z.2.2.1
  unfold colI
  by_cases cv : v_z < 0
  · have hs := fun qq => X_hasF (G := G) (Q := qq) sI cv
    rw [if_pos cv]
    simp (disch := omega) only [E_It_colorOf, B_150_0, sI.u, hs, B_150_5, B_150_17, B_150_18, inI, inL, isT, kInt, kByt, true_and, and_true, an_t, im_t, im_f, or_true, true_or, true_imp_iff, false_imp_iff, not_true_eq_false, not_false_eq_true, gK_uI, gK_uL, gK_uR, gK_uCI, gK_uCL, gN_uI, gN_uL, gN_uR, gN_uCI, gN_uCL, gR_uI, gR_uL, gR_uCI, gR_uCL, gI_uL, gI_uR, gI_uCL, gL_uI, gL_uR, gL_uCI, gz_uI, gz_uL, gz_uR, gz_uCI, gz_uCL, gs_uI, gs_uL, gs_uR, gs_uCI, gs_uCL, rI_at, rL_at, rR_at, rI_ne, rL_ne, rR_ne, rI_nk, rL_nk, rR_nk, rI_eq, rL_eq, rR_eq, Option.toList_some, Option.toList_none, List.cons_append, List.nil_append, List.append_nil, zc_eq, zc_lt, zc_le, zc_ge, zc_gt]
  · have hs := fun qq => X_hasT (G := G) (Q := qq) sI (show 0 ≤ v_z from by omega) v1_z t1_z
    rw [if_neg cv]
    simp (disch := omega) only [E_It_colorOf, B_150_0, sI.u, hs, B_150_5, B_150_18, inI, inL, isT, kInt, kByt, true_and, and_true, an_t, im_t, im_f, or_true, true_or, true_imp_iff, false_imp_iff, not_true_eq_false, not_false_eq_true, gK_uI, gK_uL, gK_uR, gK_uCI, gK_uCL, gN_uI, gN_uL, gN_uR, gN_uCI, gN_uCL, gR_uI, gR_uL, gR_uCI, gR_uCL, gI_uL, gI_uR, gI_uCL, gL_uI, gL_uR, gL_uCI, gz_uI, gz_uL, gz_uR, gz_uCI, gz_uCL, gs_uI, gs_uL, gs_uR, gs_uCI, gs_uCL, rI_at, rL_at, rR_at, rI_ne, rL_ne, rR_ne, rI_nk, rL_nk, rR_nk, rI_eq, rL_eq, rR_eq, Option.toList_some, Option.toList_none, List.cons_append, List.nil_append, List.append_nil, zc_eq, zc_lt, zc_le, zc_ge, zc_gt]
theorem X_colM {v_z w_z : Int} (sm_z : ShM T m) (rs : RsR M T c m) (v1_z : v_z < gI M (c + 3) 8) (hw : (v_z < 0 ∧ w_z < 0) ∨ v_z = w_z) : Call G J_M_colorOf [a_r m, a_i w_z] T Q ↔ Q (some (a_i (colI M c v_z))) T := by
  have t1_z := rs.2.1.2.2.1
  unfold colI
  by_cases cv : v_z < 0
  · rw [if_pos cv]
    simp (disch := omega) only [E_M_colorOf, B_250_0, B_250_17, inI, inL, isT, kInt, kByt, true_and, and_true, an_t, im_t, im_f, or_true, true_or, true_imp_iff, false_imp_iff, not_true_eq_false, not_false_eq_true, gK_uI, gK_uL, gK_uR, gK_uCI, gK_uCL, gN_uI, gN_uL, gN_uR, gN_uCI, gN_uCL, gR_uI, gR_uL, gR_uCI, gR_uCL, gI_uL, gI_uR, gI_uCL, gL_uI, gL_uR, gL_uCI, gz_uI, gz_uL, gz_uR, gz_uCI, gz_uCL, gs_uI, gs_uL, gs_uR, gs_uCI, gs_uCL, rI_at, rL_at, rR_at, rI_ne, rL_ne, rR_ne, rI_nk, rL_nk, rR_nk, rI_eq, rL_eq, rR_eq, Option.toList_some, Option.toList_none, List.cons_append, List.nil_append, List.append_nil, zc_eq, zc_lt, zc_le, zc_ge, zc_gt]
  · have e_z := (rs.2.1.2.2.2 v_z (by omega) v1_z).1
    rw [if_neg cv, e_z]
    have vw : v_z = w_z := by omega
    subst vw
    simp (disch := omega) only [E_M_colorOf, B_250_0, B_250_8, sm_z.u, B_250_17, inI, inL, isT, kInt, kByt, true_and, and_true, an_t, im_t, im_f, or_true, true_or, true_imp_iff, false_imp_iff, not_true_eq_false, not_false_eq_true, gK_uI, gK_uL, gK_uR, gK_uCI, gK_uCL, gN_uI, gN_uL, gN_uR, gN_uCI, gN_uCL, gR_uI, gR_uL, gR_uCI, gR_uCL, gI_uL, gI_uR, gI_uCL, gL_uI, gL_uR, gL_uCI, gz_uI, gz_uL, gz_uR, gz_uCI, gz_uCL, gs_uI, gs_uL, gs_uR, gs_uCI, gs_uCL, rI_at, rL_at, rR_at, rI_ne, rL_ne, rR_ne, rI_nk, rL_nk, rR_nk, rI_eq, rL_eq, rR_eq, Option.toList_some, Option.toList_none, List.cons_append, List.nil_append, List.append_nil, zc_eq, zc_lt, zc_le, zc_ge, zc_gt]
theorem Inv.wh (h_z : Inv G M b) : (gI M (b + 10) 4 = gI M (b + 193 + 1) 1213 ∧ 4 ≤ gI M (b + 10) 4 ∧ gI M (b + 10) 4 ≤ 24) ∧ (gI M (b + 10) 5 = gI M (b + 193 + 1) 1214 ∧ 4 ≤ gI M (b + 10) 5 ∧ gI M (b + 10) 5 ≤ 24) := by
  have := h_z.ed
  obtain ⟨-, -, -, -, w_z, v_z, -⟩ := this
  exact ⟨w_z, v_z⟩
theorem Inv.sa (h_z : Inv G M b) : ShSa M (b + 10) := h_z.1.2.2.1
theorem X_hasCell {x_z y_z : Int} (h_z : ShSa M b) : Call G J_Sa_hasCell [a_r b, a_i x_z, a_i y_z] M Q ↔ Q (some (a_i (zB (0 ≤ x_z ∧ x_z < gI M b 4 ∧ 0 ≤ y_z ∧ y_z < gI M b 5)))) M := by
  by_cases c1_z : 0 ≤ x_z ∧ x_z < gI M b 4 ∧ 0 ≤ y_z ∧ y_z < gI M b 5
  · rw [zB_t c1_z]
    obtain ⟨q1_z, q2_z, q3_z, q4_z⟩ := c1_z
    simp (disch := omega) only [E_Sa_hasCell, B_141_0, h_z.u, B_141_29, inI, inL, isT, kInt, kByt, true_and, and_true, an_t, im_t, im_f, or_true, true_or, true_imp_iff, false_imp_iff, not_true_eq_false, not_false_eq_true, gK_uI, gK_uL, gK_uR, gK_uCI, gK_uCL, gN_uI, gN_uL, gN_uR, gN_uCI, gN_uCL, gR_uI, gR_uL, gR_uCI, gR_uCL, gI_uL, gI_uR, gI_uCL, gL_uI, gL_uR, gL_uCI, gz_uI, gz_uL, gz_uR, gz_uCI, gz_uCL, gs_uI, gs_uL, gs_uR, gs_uCI, gs_uCL, rI_at, rL_at, rR_at, rI_ne, rL_ne, rR_ne, rI_nk, rL_nk, rR_nk, rI_eq, rL_eq, rR_eq, Option.toList_some, Option.toList_none, List.cons_append, List.nil_append, List.append_nil, zc_eq, zc_lt, zc_le, zc_ge, zc_gt]
  · rw [zB_f c1_z]
    by_cases q1_z : x_z < 0
    · simp (disch := omega) only [E_Sa_hasCell, B_141_0, q1_z, B_141_28, B_141_29, inI, inL, isT, kInt, kByt, true_and, and_true, an_t, im_t, im_f, or_true, true_or, true_imp_iff, false_imp_iff, not_true_eq_false, not_false_eq_true, gK_uI, gK_uL, gK_uR, gK_uCI, gK_uCL, gN_uI, gN_uL, gN_uR, gN_uCI, gN_uCL, gR_uI, gR_uL, gR_uCI, gR_uCL, gI_uL, gI_uR, gI_uCL, gL_uI, gL_uR, gL_uCI, gz_uI, gz_uL, gz_uR, gz_uCI, gz_uCL, gs_uI, gs_uL, gs_uR, gs_uCI, gs_uCL, rI_at, rL_at, rR_at, rI_ne, rL_ne, rR_ne, rI_nk, rL_nk, rR_nk, rI_eq, rL_eq, rR_eq, Option.toList_some, Option.toList_none, List.cons_append, List.nil_append, List.append_nil, zc_eq, zc_lt, zc_le, zc_ge, zc_gt]
    · by_cases q2_z : gI M b 4 ≤ x_z
      · simp (disch := omega) only [E_Sa_hasCell, B_141_0, h_z.u, q1_z, q2_z, B_141_28, B_141_29, inI, inL, isT, kInt, kByt, true_and, and_true, an_t, im_t, im_f, or_true, true_or, true_imp_iff, false_imp_iff, not_true_eq_false, not_false_eq_true, gK_uI, gK_uL, gK_uR, gK_uCI, gK_uCL, gN_uI, gN_uL, gN_uR, gN_uCI, gN_uCL, gR_uI, gR_uL, gR_uCI, gR_uCL, gI_uL, gI_uR, gI_uCL, gL_uI, gL_uR, gL_uCI, gz_uI, gz_uL, gz_uR, gz_uCI, gz_uCL, gs_uI, gs_uL, gs_uR, gs_uCI, gs_uCL, rI_at, rL_at, rR_at, rI_ne, rL_ne, rR_ne, rI_nk, rL_nk, rR_nk, rI_eq, rL_eq, rR_eq, Option.toList_some, Option.toList_none, List.cons_append, List.nil_append, List.append_nil, zc_eq, zc_lt, zc_le, zc_ge, zc_gt]
      · by_cases q3_z : y_z < 0
        · simp (disch := omega) only [E_Sa_hasCell, B_141_0, h_z.u, q1_z, q2_z, q3_z, B_141_28, B_141_29, inI, inL, isT, kInt, kByt, true_and, and_true, an_t, im_t, im_f, or_true, true_or, true_imp_iff, false_imp_iff, not_true_eq_false, not_false_eq_true, gK_uI, gK_uL, gK_uR, gK_uCI, gK_uCL, gN_uI, gN_uL, gN_uR, gN_uCI, gN_uCL, gR_uI, gR_uL, gR_uCI, gR_uCL, gI_uL, gI_uR, gI_uCL, gL_uI, gL_uR, gL_uCI, gz_uI, gz_uL, gz_uR, gz_uCI, gz_uCL, gs_uI, gs_uL, gs_uR, gs_uCI, gs_uCL, rI_at, rL_at, rR_at, rI_ne, rL_ne, rR_ne, rI_nk, rL_nk, rR_nk, rI_eq, rL_eq, rR_eq, Option.toList_some, Option.toList_none, List.cons_append, List.nil_append, List.append_nil, zc_eq, zc_lt, zc_le, zc_ge, zc_gt]
        · have q4_z : gI M b 5 ≤ y_z := by omega
          simp (disch := omega) only [E_Sa_hasCell, B_141_0, h_z.u, q1_z, q2_z, q3_z, q4_z, B_141_28, B_141_29, inI, inL, isT, kInt, kByt, true_and, and_true, an_t, im_t, im_f, or_true, true_or, true_imp_iff, false_imp_iff, not_true_eq_false, not_false_eq_true, gK_uI, gK_uL, gK_uR, gK_uCI, gK_uCL, gN_uI, gN_uL, gN_uR, gN_uCI, gN_uCL, gR_uI, gR_uL, gR_uCI, gR_uCL, gI_uL, gI_uR, gI_uCL, gL_uI, gL_uR, gL_uCI, gz_uI, gz_uL, gz_uR, gz_uCI, gz_uCL, gs_uI, gs_uL, gs_uR, gs_uCI, gs_uCL, rI_at, rL_at, rR_at, rI_ne, rL_ne, rR_ne, rI_nk, rL_nk, rR_nk, rI_eq, rL_eq, rR_eq, Option.toList_some, Option.toList_none, List.cons_append, List.nil_append, List.append_nil, zc_eq, zc_lt, zc_le, zc_ge, zc_gt]
theorem X_isCell {x_z y_z wd hg : Int} (h_z : ShM M m) (hw : gI M (m + 1) 1213 = wd) (hh : gI M (m + 1) 1214 = hg) (w1_z : 4 ≤ wd ∧ wd ≤ 24) (w2_z : 4 ≤ hg ∧ hg ≤ 24) : Call G J_M_isCell [a_r m, a_i x_z, a_i y_z] M Q ↔ Q (some (a_i (zB (0 ≤ x_z ∧ x_z < wd ∧ 0 ≤ y_z ∧ y_z < hg)))) M := by
  have i1_z := fun qq => Y_in (G := G) (M := M) (Q := qq) (x_z := x_z) (y_z := 0) (w_z := wd - 1)
  have i2_z := fun qq => Y_in (G := G) (M := M) (Q := qq) (x_z := y_z) (y_z := 0) (w_z := hg - 1)
  by_cases c1_z : 0 ≤ x_z ∧ x_z ≤ wd - 1
  · rw [zB_t c1_z] at i1_z
    by_cases c2_z : 0 ≤ y_z ∧ y_z ≤ hg - 1
    · rw [zB_t c2_z] at i2_z
      rw [zB_t (by omega)]
      simp (disch := omega) only [E_M_isCell, B_245_0, h_z.u, hw, hh, i1_z, B_245_15, i2_z, B_245_33, B_245_41, inI, inL, isT, kInt, kByt, true_and, and_true, an_t, im_t, im_f, or_true, true_or, true_imp_iff, false_imp_iff, not_true_eq_false, not_false_eq_true, gK_uI, gK_uL, gK_uR, gK_uCI, gK_uCL, gN_uI, gN_uL, gN_uR, gN_uCI, gN_uCL, gR_uI, gR_uL, gR_uCI, gR_uCL, gI_uL, gI_uR, gI_uCL, gL_uI, gL_uR, gL_uCI, gz_uI, gz_uL, gz_uR, gz_uCI, gz_uCL, gs_uI, gs_uL, gs_uR, gs_uCI, gs_uCL, rI_at, rL_at, rR_at, rI_ne, rL_ne, rR_ne, rI_nk, rL_nk, rR_nk, rI_eq, rL_eq, rR_eq, Option.toList_some, Option.toList_none, List.cons_append, List.nil_append, List.append_nil, zc_eq, zc_lt, zc_le, zc_ge, zc_gt]
    · rw [zB_f c2_z] at i2_z
      rw [zB_f (by omega)]
      simp (disch := omega) only [E_M_isCell, B_245_0, h_z.u, hw, hh, i1_z, B_245_15, i2_z, B_245_33, B_245_40, B_245_41, inI, inL, isT, kInt, kByt, true_and, and_true, an_t, im_t, im_f, or_true, true_or, true_imp_iff, false_imp_iff, not_true_eq_false, not_false_eq_true, gK_uI, gK_uL, gK_uR, gK_uCI, gK_uCL, gN_uI, gN_uL, gN_uR, gN_uCI, gN_uCL, gR_uI, gR_uL, gR_uCI, gR_uCL, gI_uL, gI_uR, gI_uCL, gL_uI, gL_uR, gL_uCI, gz_uI, gz_uL, gz_uR, gz_uCI, gz_uCL, gs_uI, gs_uL, gs_uR, gs_uCI, gs_uCL, rI_at, rL_at, rR_at, rI_ne, rL_ne, rR_ne, rI_nk, rL_nk, rR_nk, rI_eq, rL_eq, rR_eq, Option.toList_some, Option.toList_none, List.cons_append, List.nil_append, List.append_nil, zc_eq, zc_lt, zc_le, zc_ge, zc_gt]
  · rw [zB_f c1_z] at i1_z
    rw [zB_f (by omega)]
    simp (disch := omega) only [E_M_isCell, B_245_0, h_z.u, hw, hh, i1_z, B_245_15, B_245_40, B_245_41, inI, inL, isT, kInt, kByt, true_and, and_true, an_t, im_t, im_f, or_true, true_or, true_imp_iff, false_imp_iff, not_true_eq_false, not_false_eq_true, gK_uI, gK_uL, gK_uR, gK_uCI, gK_uCL, gN_uI, gN_uL, gN_uR, gN_uCI, gN_uCL, gR_uI, gR_uL, gR_uCI, gR_uCL, gI_uL, gI_uR, gI_uCL, gL_uI, gL_uR, gL_uCI, gz_uI, gz_uL, gz_uR, gz_uCI, gz_uCL, gs_uI, gs_uL, gs_uR, gs_uCI, gs_uCL, rI_at, rL_at, rR_at, rI_ne, rL_ne, rR_ne, rI_nk, rL_nk, rR_nk, rI_eq, rL_eq, rR_eq, Option.toList_some, Option.toList_none, List.cons_append, List.nil_append, List.append_nil, zc_eq, zc_lt, zc_le, zc_ge, zc_gt]
theorem s_cell {x_z y_z : Int} (h_z : Inv G M b) : Same G b J_X_cell J_M_cell [a_i x_z, a_i y_z] M := by
  have sX_z := h_z.1.1
  have sM := h_z.ma.1
  have sT := h_z.mo
  have sI : ShIt M (b + 16 + 3) (b + 16 + 4) := h_z.ma.2.2.1
  obtain ⟨⟨w1_z, w2_z, w3_z⟩, ⟨v1_z, v2, v3⟩⟩ := h_z.wh
  have hc_z := fun qq => X_hasCell (G := G) (Q := qq) (x_z := x_z) (y_z := y_z) h_z.sa
  have mc_z := fun qq => X_isCell (G := G) (Q := qq) (x_z := x_z) (y_z := y_z) sT w1_z.symm v1_z.symm ⟨w2_z, w3_z⟩ ⟨v2, v3⟩
  have sS := h_z.sa
  by_cases cc : 0 ≤ x_z ∧ x_z < gI M (b + 10) 4 ∧ 0 ≤ y_z ∧ y_z < gI M (b + 10) 5
  · rw [zB_t cc] at hc_z mc_z
    rcases h_z.rn with ⟨r1_z, r2⟩ | ⟨r1_z, r2, rs⟩
    · refine same_pure (v_z := -10000002) h_z (fun Q hq => ?_) (fun Q hq => ?_)
      · simp (disch := omega) only [E_X_cell, B_140_0, sX_z.u, sS.u, hc_z, B_140_9, B_140_15, sM.u, r1_z, not_true_eq_false, inI, inL, isT, kInt, kByt, true_and, and_true, an_t, im_t, im_f, or_true, true_or, true_imp_iff, false_imp_iff, not_true_eq_false, not_false_eq_true, gK_uI, gK_uL, gK_uR, gK_uCI, gK_uCL, gN_uI, gN_uL, gN_uR, gN_uCI, gN_uCL, gR_uI, gR_uL, gR_uCI, gR_uCL, gI_uL, gI_uR, gI_uCL, gL_uI, gL_uR, gL_uCI, gz_uI, gz_uL, gz_uR, gz_uCI, gz_uCL, gs_uI, gs_uL, gs_uR, gs_uCI, gs_uCL, rI_at, rL_at, rR_at, rI_ne, rL_ne, rR_ne, rI_nk, rL_nk, rR_nk, rI_eq, rL_eq, rR_eq, Option.toList_some, Option.toList_none, List.cons_append, List.nil_append, List.append_nil, zc_eq, zc_lt, zc_le, zc_ge, zc_gt]
        all_goals exact hq
      · simp (disch := omega) only [E_M_cell, B_244_0, sT.u, mc_z, B_244_6, B_244_12, r2, B_244_36, B_244_38, inI, inL, isT, kInt, kByt, true_and, and_true, an_t, im_t, im_f, or_true, true_or, true_imp_iff, false_imp_iff, not_true_eq_false, not_false_eq_true, gK_uI, gK_uL, gK_uR, gK_uCI, gK_uCL, gN_uI, gN_uL, gN_uR, gN_uCI, gN_uCL, gR_uI, gR_uL, gR_uCI, gR_uCL, gI_uL, gI_uR, gI_uCL, gL_uI, gL_uR, gL_uCI, gz_uI, gz_uL, gz_uR, gz_uCI, gz_uCL, gs_uI, gs_uL, gs_uR, gs_uCI, gs_uCL, rI_at, rL_at, rR_at, rI_ne, rL_ne, rR_ne, rI_nk, rL_nk, rR_nk, rI_eq, rL_eq, rR_eq, Option.toList_some, Option.toList_none, List.cons_append, List.nil_append, List.append_nil, zc_eq, zc_lt, zc_le, zc_ge, zc_gt]
        all_goals exact hq
    · have n35 := rs.2.1.1
      have n0_z := rs.2.1.2.1
      have lb := latC_bd M (b + 16) (n_z := gI M (b + 16 + 3) 8) x_z y_z n0_z
      have cl_z := fun qq => X_colC (G := G) (Q := qq) (v_z := latC M (b + 16) (gI M (b + 16 + 3) 8) x_z y_z) h_z.ma rs lb.2
      have cm := fun qq => X_colM (G := G) (Q := qq) (v_z := latC M (b + 16) (gI M (b + 16 + 3) 8) x_z y_z) (w_z := if latC M (b + 16) (gI M (b + 16 + 3) 8) x_z y_z < 0 then -10000009 else latC M (b + 16) (gI M (b + 16 + 3) 8) x_z y_z) sT rs lb.2 (by split <;> omega)
      refine same_pure (v_z := colI M (b + 16) (latC M (b + 16) (gI M (b + 16 + 3) 8) x_z y_z)) h_z (fun Q hq => ?_) (fun Q hq => ?_)
      · have go_z : Call G J_It_latestAt [a_r (b + 16 + 3), a_i x_z, a_i y_z, a_i (gI M (b + 16 + 3) 8)] M (fun r_z M2_z => At G 140 47 [a_r (b + 1), a_i x_z, a_i y_z, a_r (b + 16 + 3)] (r_z.toList ++ [a_r (b + 16 + 3)]) M2_z Q) := by
          refine X_latC (T := M) (m := b + 193) h_z.ma rs n0_z (Int.le_refl _) cc.1 (by omega) cc.2.2.1 (by omega) ?_
          simp (disch := omega) only [B_140_47, sI.u, cl_z, B_140_50, inI, inL, isT, kInt, kByt, true_and, and_true, an_t, im_t, im_f, or_true, true_or, true_imp_iff, false_imp_iff, not_true_eq_false, not_false_eq_true, gK_uI, gK_uL, gK_uR, gK_uCI, gK_uCL, gN_uI, gN_uL, gN_uR, gN_uCI, gN_uCL, gR_uI, gR_uL, gR_uCI, gR_uCL, gI_uL, gI_uR, gI_uCL, gL_uI, gL_uR, gL_uCI, gz_uI, gz_uL, gz_uR, gz_uCI, gz_uCL, gs_uI, gs_uL, gs_uR, gs_uCI, gs_uCL, rI_at, rL_at, rR_at, rI_ne, rL_ne, rR_ne, rI_nk, rL_nk, rR_nk, rI_eq, rL_eq, rR_eq, Option.toList_some, Option.toList_none, List.cons_append, List.nil_append, List.append_nil, zc_eq, zc_lt, zc_le, zc_ge, zc_gt]
          all_goals exact hq
        simp (disch := omega) only [E_X_cell, B_140_0, sX_z.u, sS.u, hc_z, B_140_9, B_140_15, sM.u, r1_z, B_140_28, sI.u, inI, inL, isT, kInt, kByt, true_and, and_true, an_t, im_t, im_f, or_true, true_or, true_imp_iff, false_imp_iff, not_true_eq_false, not_false_eq_true, gK_uI, gK_uL, gK_uR, gK_uCI, gK_uCL, gN_uI, gN_uL, gN_uR, gN_uCI, gN_uCL, gR_uI, gR_uL, gR_uCI, gR_uCL, gI_uL, gI_uR, gI_uCL, gL_uI, gL_uR, gL_uCI, gz_uI, gz_uL, gz_uR, gz_uCI, gz_uCL, gs_uI, gs_uL, gs_uR, gs_uCI, gs_uCL, rI_at, rL_at, rR_at, rI_ne, rL_ne, rR_ne, rI_nk, rL_nk, rR_nk, rI_eq, rL_eq, rR_eq, Option.toList_some, Option.toList_none, List.cons_append, List.nil_append, List.append_nil, zc_eq, zc_lt, zc_le, zc_ge, zc_gt]
        all_goals exact go_z
      · have go_z : Call G J_M_latest [a_r (b + 193), a_i (gI M (b + 16 + 3) 8), a_i x_z, a_i y_z] M (fun r_z M2_z => At G 244 30 [a_r (b + 193), a_i x_z, a_i y_z] (r_z.toList ++ [a_r (b + 193)]) M2_z Q) := by
          refine X_latM (M := M) (c := b + 16) sT rs n0_z (Int.le_refl _) cc.1 (by omega) cc.2.2.1 (by omega) ?_
          simp (disch := omega) only [B_244_30, sT.u, cm, B_244_33, B_244_38, inI, inL, isT, kInt, kByt, true_and, and_true, an_t, im_t, im_f, or_true, true_or, true_imp_iff, false_imp_iff, not_true_eq_false, not_false_eq_true, gK_uI, gK_uL, gK_uR, gK_uCI, gK_uCL, gN_uI, gN_uL, gN_uR, gN_uCI, gN_uCL, gR_uI, gR_uL, gR_uCI, gR_uCL, gI_uL, gI_uR, gI_uCL, gL_uI, gL_uR, gL_uCI, gz_uI, gz_uL, gz_uR, gz_uCI, gz_uCL, gs_uI, gs_uL, gs_uR, gs_uCI, gs_uCL, rI_at, rL_at, rR_at, rI_ne, rL_ne, rR_ne, rI_nk, rL_nk, rR_nk, rI_eq, rL_eq, rR_eq, Option.toList_some, Option.toList_none, List.cons_append, List.nil_append, List.append_nil, zc_eq, zc_lt, zc_le, zc_ge, zc_gt]
          all_goals exact hq
        rw [n35] at go_z
        simp (disch := omega) only [E_M_cell, B_244_0, sT.u, mc_z, B_244_6, B_244_12, r2, inI, inL, isT, kInt, kByt, true_and, and_true, an_t, im_t, im_f, or_true, true_or, true_imp_iff, false_imp_iff, not_true_eq_false, not_false_eq_true, gK_uI, gK_uL, gK_uR, gK_uCI, gK_uCL, gN_uI, gN_uL, gN_uR, gN_uCI, gN_uCL, gR_uI, gR_uL, gR_uCI, gR_uCL, gI_uL, gI_uR, gI_uCL, gL_uI, gL_uR, gL_uCI, gz_uI, gz_uL, gz_uR, gz_uCI, gz_uCL, gs_uI, gs_uL, gs_uR, gs_uCI, gs_uCL, rI_at, rL_at, rR_at, rI_ne, rL_ne, rR_ne, rI_nk, rL_nk, rR_nk, rI_eq, rL_eq, rR_eq, Option.toList_some, Option.toList_none, List.cons_append, List.nil_append, List.append_nil, zc_eq, zc_lt, zc_le, zc_ge, zc_gt]
        all_goals exact go_z
  · rw [zB_f cc] at hc_z mc_z
    refine same_pure (v_z := -10000001) h_z (fun Q hq => ?_) (fun Q hq => ?_)
    · simp (disch := omega) only [E_X_cell, B_140_0, sX_z.u, sS.u, hc_z, B_140_9, not_true_eq_false, inI, inL, isT, kInt, kByt, true_and, and_true, an_t, im_t, im_f, or_true, true_or, true_imp_iff, false_imp_iff, not_true_eq_false, not_false_eq_true, gK_uI, gK_uL, gK_uR, gK_uCI, gK_uCL, gN_uI, gN_uL, gN_uR, gN_uCI, gN_uCL, gR_uI, gR_uL, gR_uCI, gR_uCL, gI_uL, gI_uR, gI_uCL, gL_uI, gL_uR, gL_uCI, gz_uI, gz_uL, gz_uR, gz_uCI, gz_uCL, gs_uI, gs_uL, gs_uR, gs_uCI, gs_uCL, rI_at, rL_at, rR_at, rI_ne, rL_ne, rR_ne, rI_nk, rL_nk, rR_nk, rI_eq, rL_eq, rR_eq, Option.toList_some, Option.toList_none, List.cons_append, List.nil_append, List.append_nil, zc_eq, zc_lt, zc_le, zc_ge, zc_gt]
      all_goals exact hq
    · simp (disch := omega) only [E_M_cell, B_244_0, sT.u, mc_z, B_244_6, not_true_eq_false, inI, inL, isT, kInt, kByt, true_and, and_true, an_t, im_t, im_f, or_true, true_or, true_imp_iff, false_imp_iff, not_true_eq_false, not_false_eq_true, gK_uI, gK_uL, gK_uR, gK_uCI, gK_uCL, gN_uI, gN_uL, gN_uR, gN_uCI, gN_uCL, gR_uI, gR_uL, gR_uCI, gR_uCL, gI_uL, gI_uR, gI_uCL, gL_uI, gL_uR, gL_uCI, gz_uI, gz_uL, gz_uR, gz_uCI, gz_uCL, gs_uI, gs_uL, gs_uR, gs_uCI, gs_uCL, rI_at, rL_at, rR_at, rI_ne, rL_ne, rR_ne, rI_nk, rL_nk, rR_nk, rI_eq, rL_eq, rR_eq, Option.toList_some, Option.toList_none, List.cons_append, List.nil_append, List.append_nil, zc_eq, zc_lt, zc_le, zc_ge, zc_gt]
      all_goals exact hq
theorem s_itemAt {x_z y_z : Int} (h_z : Inv G M b) : Same G b J_X_itemAt J_M_itemAt [a_i x_z, a_i y_z] M := by
  have sX_z := h_z.1.1
  have sM := h_z.ma.1
  have sT := h_z.mo
  have sI : ShIt M (b + 16 + 3) (b + 16 + 4) := h_z.ma.2.2.1
  obtain ⟨⟨w1_z, w2_z, w3_z⟩, ⟨v1_z, v2, v3⟩⟩ := h_z.wh
  have hc_z := fun qq => X_hasCell (G := G) (Q := qq) (x_z := x_z) (y_z := y_z) h_z.sa
  have mc_z := fun qq => X_isCell (G := G) (Q := qq) (x_z := x_z) (y_z := y_z) sT w1_z.symm v1_z.symm ⟨w2_z, w3_z⟩ ⟨v2, v3⟩
  have sS := h_z.sa
  by_cases cc : 0 ≤ x_z ∧ x_z < gI M (b + 10) 4 ∧ 0 ≤ y_z ∧ y_z < gI M (b + 10) 5
  · rw [zB_t cc] at hc_z mc_z
    rcases h_z.rn with ⟨r1_z, r2⟩ | ⟨r1_z, r2, rs⟩
    · refine same_pure (v_z := -10000002) h_z (fun Q hq => ?_) (fun Q hq => ?_)
      · simp (disch := omega) only [E_X_itemAt, B_153_0, sX_z.u, sS.u, hc_z, B_153_9, B_153_15, sM.u, r1_z, not_true_eq_false, inI, inL, isT, kInt, kByt, true_and, and_true, an_t, im_t, im_f, or_true, true_or, true_imp_iff, false_imp_iff, not_true_eq_false, not_false_eq_true, gK_uI, gK_uL, gK_uR, gK_uCI, gK_uCL, gN_uI, gN_uL, gN_uR, gN_uCI, gN_uCL, gR_uI, gR_uL, gR_uCI, gR_uCL, gI_uL, gI_uR, gI_uCL, gL_uI, gL_uR, gL_uCI, gz_uI, gz_uL, gz_uR, gz_uCI, gz_uCL, gs_uI, gs_uL, gs_uR, gs_uCI, gs_uCL, rI_at, rL_at, rR_at, rI_ne, rL_ne, rR_ne, rI_nk, rL_nk, rR_nk, rI_eq, rL_eq, rR_eq, Option.toList_some, Option.toList_none, List.cons_append, List.nil_append, List.append_nil, zc_eq, zc_lt, zc_le, zc_ge, zc_gt]
        all_goals exact hq
      · simp (disch := omega) only [E_M_itemAt, B_252_0, sT.u, mc_z, B_252_6, B_252_12, r2, B_252_32, B_252_34, inI, inL, isT, kInt, kByt, true_and, and_true, an_t, im_t, im_f, or_true, true_or, true_imp_iff, false_imp_iff, not_true_eq_false, not_false_eq_true, gK_uI, gK_uL, gK_uR, gK_uCI, gK_uCL, gN_uI, gN_uL, gN_uR, gN_uCI, gN_uCL, gR_uI, gR_uL, gR_uCI, gR_uCL, gI_uL, gI_uR, gI_uCL, gL_uI, gL_uR, gL_uCI, gz_uI, gz_uL, gz_uR, gz_uCI, gz_uCL, gs_uI, gs_uL, gs_uR, gs_uCI, gs_uCL, rI_at, rL_at, rR_at, rI_ne, rL_ne, rR_ne, rI_nk, rL_nk, rR_nk, rI_eq, rL_eq, rR_eq, Option.toList_some, Option.toList_none, List.cons_append, List.nil_append, List.append_nil, zc_eq, zc_lt, zc_le, zc_ge, zc_gt]
        all_goals exact hq
    · have n35 := rs.2.1.1
      have n0_z := rs.2.1.2.1
      refine same_pure (v_z := if latC M (b + 16) (gI M (b + 16 + 3) 8) x_z y_z < 0 then -10000009 else latC M (b + 16) (gI M (b + 16 + 3) 8) x_z y_z) h_z (fun Q hq => ?_) (fun Q hq => ?_)
      · have go_z : Call G J_It_latestAt [a_r (b + 16 + 3), a_i x_z, a_i y_z, a_i (gI M (b + 16 + 3) 8)] M (fun r_z M2_z => At G 153 50 [a_r (b + 1), a_i x_z, a_i y_z, a_u] r_z.toList M2_z Q) := by
          refine X_latC (T := M) (m := b + 193) h_z.ma rs n0_z (Int.le_refl _) cc.1 (by omega) cc.2.2.1 (by omega) ?_
          generalize latC M (b + 16) (gI M (b + 16 + 3) 8) x_z y_z = v_z at *
          by_cases cv : v_z < 0
          · rw [if_pos cv] at hq
            simp (disch := omega) only [B_153_50, B_153_61, inI, inL, isT, kInt, kByt, true_and, and_true, an_t, im_t, im_f, or_true, true_or, true_imp_iff, false_imp_iff, not_true_eq_false, not_false_eq_true, gK_uI, gK_uL, gK_uR, gK_uCI, gK_uCL, gN_uI, gN_uL, gN_uR, gN_uCI, gN_uCL, gR_uI, gR_uL, gR_uCI, gR_uCL, gI_uL, gI_uR, gI_uCL, gL_uI, gL_uR, gL_uCI, gz_uI, gz_uL, gz_uR, gz_uCI, gz_uCL, gs_uI, gs_uL, gs_uR, gs_uCI, gs_uCL, rI_at, rL_at, rR_at, rI_ne, rL_ne, rR_ne, rI_nk, rL_nk, rR_nk, rI_eq, rL_eq, rR_eq, Option.toList_some, Option.toList_none, List.cons_append, List.nil_append, List.append_nil, zc_eq, zc_lt, zc_le, zc_ge, zc_gt]
            all_goals exact hq
          · rw [if_neg cv] at hq
            simp (disch := omega) only [B_153_50, B_153_60, B_153_61, inI, inL, isT, kInt, kByt, true_and, and_true, an_t, im_t, im_f, or_true, true_or, true_imp_iff, false_imp_iff, not_true_eq_false, not_false_eq_true, gK_uI, gK_uL, gK_uR, gK_uCI, gK_uCL, gN_uI, gN_uL, gN_uR, gN_uCI, gN_uCL, gR_uI, gR_uL, gR_uCI, gR_uCL, gI_uL, gI_uR, gI_uCL, gL_uI, gL_uR, gL_uCI, gz_uI, gz_uL, gz_uR, gz_uCI, gz_uCL, gs_uI, gs_uL, gs_uR, gs_uCI, gs_uCL, rI_at, rL_at, rR_at, rI_ne, rL_ne, rR_ne, rI_nk, rL_nk, rR_nk, rI_eq, rL_eq, rR_eq, Option.toList_some, Option.toList_none, List.cons_append, List.nil_append, List.append_nil, zc_eq, zc_lt, zc_le, zc_ge, zc_gt]
            all_goals exact hq
        simp (disch := omega) only [E_X_itemAt, B_153_0, sX_z.u, sS.u, hc_z, B_153_9, B_153_15, sM.u, r1_z, B_153_28, sI.u, inI, inL, isT, kInt, kByt, true_and, and_true, an_t, im_t, im_f, or_true, true_or, true_imp_iff, false_imp_iff, not_true_eq_false, not_false_eq_true, gK_uI, gK_uL, gK_uR, gK_uCI, gK_uCL, gN_uI, gN_uL, gN_uR, gN_uCI, gN_uCL, gR_uI, gR_uL, gR_uCI, gR_uCL, gI_uL, gI_uR, gI_uCL, gL_uI, gL_uR, gL_uCI, gz_uI, gz_uL, gz_uR, gz_uCI, gz_uCL, gs_uI, gs_uL, gs_uR, gs_uCI, gs_uCL, rI_at, rL_at, rR_at, rI_ne, rL_ne, rR_ne, rI_nk, rL_nk, rR_nk, rI_eq, rL_eq, rR_eq, Option.toList_some, Option.toList_none, List.cons_append, List.nil_append, List.append_nil, zc_eq, zc_lt, zc_le, zc_ge, zc_gt]
        all_goals exact go_z
      · have go_z : Call G J_M_latest [a_r (b + 193), a_i (gI M (b + 16 + 3) 8), a_i x_z, a_i y_z] M (fun r_z M2_z => At G 252 29 [a_r (b + 193), a_i x_z, a_i y_z] r_z.toList M2_z Q) := by
          refine X_latM (M := M) (c := b + 16) sT rs n0_z (Int.le_refl _) cc.1 (by omega) cc.2.2.1 (by omega) ?_
          simp (disch := omega) only [B_252_29, B_252_34, inI, inL, isT, kInt, kByt, true_and, and_true, an_t, im_t, im_f, or_true, true_or, true_imp_iff, false_imp_iff, not_true_eq_false, not_false_eq_true, gK_uI, gK_uL, gK_uR, gK_uCI, gK_uCL, gN_uI, gN_uL, gN_uR, gN_uCI, gN_uCL, gR_uI, gR_uL, gR_uCI, gR_uCL, gI_uL, gI_uR, gI_uCL, gL_uI, gL_uR, gL_uCI, gz_uI, gz_uL, gz_uR, gz_uCI, gz_uCL, gs_uI, gs_uL, gs_uR, gs_uCI, gs_uCL, rI_at, rL_at, rR_at, rI_ne, rL_ne, rR_ne, rI_nk, rL_nk, rR_nk, rI_eq, rL_eq, rR_eq, Option.toList_some, Option.toList_none, List.cons_append, List.nil_append, List.append_nil, zc_eq, zc_lt, zc_le, zc_ge, zc_gt]
          all_goals exact hq
        rw [n35] at go_z
        simp (disch := omega) only [E_M_itemAt, B_252_0, sT.u, mc_z, B_252_6, B_252_12, r2, inI, inL, isT, kInt, kByt, true_and, and_true, an_t, im_t, im_f, or_true, true_or, true_imp_iff, false_imp_iff, not_true_eq_false, not_false_eq_true, gK_uI, gK_uL, gK_uR, gK_uCI, gK_uCL, gN_uI, gN_uL, gN_uR, gN_uCI, gN_uCL, gR_uI, gR_uL, gR_uCI, gR_uCL, gI_uL, gI_uR, gI_uCL, gL_uI, gL_uR, gL_uCI, gz_uI, gz_uL, gz_uR, gz_uCI, gz_uCL, gs_uI, gs_uL, gs_uR, gs_uCI, gs_uCL, rI_at, rL_at, rR_at, rI_ne, rL_ne, rR_ne, rI_nk, rL_nk, rR_nk, rI_eq, rL_eq, rR_eq, Option.toList_some, Option.toList_none, List.cons_append, List.nil_append, List.append_nil, zc_eq, zc_lt, zc_le, zc_ge, zc_gt]
        all_goals exact go_z
  · rw [zB_f cc] at hc_z mc_z
    refine same_pure (v_z := -10000001) h_z (fun Q hq => ?_) (fun Q hq => ?_)
    · simp (disch := omega) only [E_X_itemAt, B_153_0, sX_z.u, sS.u, hc_z, B_153_9, not_true_eq_false, inI, inL, isT, kInt, kByt, true_and, and_true, an_t, im_t, im_f, or_true, true_or, true_imp_iff, false_imp_iff, not_true_eq_false, not_false_eq_true, gK_uI, gK_uL, gK_uR, gK_uCI, gK_uCL, gN_uI, gN_uL, gN_uR, gN_uCI, gN_uCL, gR_uI, gR_uL, gR_uCI, gR_uCL, gI_uL, gI_uR, gI_uCL, gL_uI, gL_uR, gL_uCI, gz_uI, gz_uL, gz_uR, gz_uCI, gz_uCL, gs_uI, gs_uL, gs_uR, gs_uCI, gs_uCL, rI_at, rL_at, rR_at, rI_ne, rL_ne, rR_ne, rI_nk, rL_nk, rR_nk, rI_eq, rL_eq, rR_eq, Option.toList_some, Option.toList_none, List.cons_append, List.nil_append, List.append_nil, zc_eq, zc_lt, zc_le, zc_ge, zc_gt]
      all_goals exact hq
    · simp (disch := omega) only [E_M_itemAt, B_252_0, sT.u, mc_z, B_252_6, not_true_eq_false, inI, inL, isT, kInt, kByt, true_and, and_true, an_t, im_t, im_f, or_true, true_or, true_imp_iff, false_imp_iff, not_true_eq_false, not_false_eq_true, gK_uI, gK_uL, gK_uR, gK_uCI, gK_uCL, gN_uI, gN_uL, gN_uR, gN_uCI, gN_uCL, gR_uI, gR_uL, gR_uCI, gR_uCL, gI_uL, gI_uR, gI_uCL, gL_uI, gL_uR, gL_uCI, gz_uI, gz_uL, gz_uR, gz_uCI, gz_uCL, gs_uI, gs_uL, gs_uR, gs_uCI, gs_uCL, rI_at, rL_at, rR_at, rI_ne, rL_ne, rR_ne, rI_nk, rL_nk, rR_nk, rI_eq, rL_eq, rR_eq, Option.toList_some, Option.toList_none, List.cons_append, List.nil_append, List.append_nil, zc_eq, zc_lt, zc_le, zc_ge, zc_gt]
      all_goals exact hq
end DE
