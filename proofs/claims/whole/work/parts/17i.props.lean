/-! THE PURE PART, part 17: the properties of an item, both sides. Own work. -/
/-- how many parts start before a point -/
def cnF (F_z : Int → Int) : Nat → Int
  | 0 => 0
  | k_z + 1 => cnF F_z k_z + (if F_z k_z = 0 then 0 else 1)
theorem cnF_bd (F_z : Int → Int) (k_z : Nat) : 0 ≤ cnF F_z k_z ∧ cnF F_z k_z ≤ k_z := by
  induction k_z with
  | zero => exact ⟨by simp [cnF], by simp [cnF]⟩
  | succ k_z ih_z =>
    unfold cnF
    split <;> omega
theorem cnF_at {F_z : Int → Int} {n_z : Int} {Bg : Int → Int} {K_z : Int} (h_z : PB F_z n_z Bg K_z) (hF : ∀ i_z, 0 ≤ i_z → i_z < n_z → F_z i_z = 0 ∨ F_z i_z = 1) : ∀ k_z : Nat, (k_z : Int) ≤ n_z → cnF F_z k_z ≤ K_z ∧ ∀ j_z, 0 ≤ j_z → j_z < K_z → (j_z < cnF F_z k_z ↔ Bg j_z < k_z) := by
  have h2 := h_z
  obtain ⟨h0, -, h3, h4, h5, h6⟩ := h2
  intro k_z
  induction k_z with
  | zero =>
    intro _
    refine ⟨h0, fun j_z j0 j1 => ?_⟩
    have := h4 j_z j0 j1
    show j_z < 0 ↔ Bg j_z < 0
    omega
  | succ k_z ih_z =>
    intro hk
    obtain ⟨a_z, b⟩ := ih_z (by omega)
    have c0_z := cnF_bd F_z k_z
    have e_z : cnF F_z (k_z + 1) = cnF F_z k_z + (if F_z k_z = 0 then 0 else 1) := rfl
    rw [e_z]
    rcases hF k_z (by omega) (by omega) with z_z | z_z
    · rw [if_pos z_z, Int.add_zero]
      refine ⟨a_z, fun j_z j0 j1 => ?_⟩
      have b1 := b j_z j0 j1
      have b2 := (h4 j_z j0 j1).2.2
      have : Bg j_z ≠ (k_z : Int) := fun q_z => by
        rw [q_z] at b2
        omega
      omega
    · rw [if_neg (by omega)]
      obtain ⟨i_z, i0_z, i1_z, i2_z⟩ := h6 k_z (by omega) (by omega) z_z
      have ei : cnF F_z k_z = i_z := by
        have b1 := b i_z i0_z i1_z
        by_cases lt : cnF F_z k_z < i_z
        · have b2 := b (cnF F_z k_z) c0_z.1 (by omega)
          have := PB.mono2 h_z c0_z.1 lt i1_z
          omega
        · omega
      rw [ei]
      refine ⟨by omega, fun j_z j0 j1 => ?_⟩
      by_cases c1_z : j_z < i_z
      · have := PB.mono2 h_z j0 c1_z i1_z
        omega
      · by_cases c2_z : j_z = i_z
        · rw [c2_z]
          omega
        · have := PB.mono2 h_z i0_z (show i_z < j_z from by omega) j1
          omega
theorem cnF_all {F_z : Int → Int} {n_z : Int} {Bg : Int → Int} {K_z : Int} (h_z : PB F_z n_z Bg K_z) (hF : ∀ i_z, 0 ≤ i_z → i_z < n_z → F_z i_z = 0 ∨ F_z i_z = 1) (n0_z : 0 ≤ n_z) : cnF F_z n_z.toNat = K_z := by
  obtain ⟨a_z, b⟩ := cnF_at h_z hF n_z.toNat (by omega)
  have c0_z := cnF_bd F_z n_z.toNat
  by_cases lt : cnF F_z n_z.toNat < K_z
  · have b2 := b _ c0_z.1 lt
    have := h_z.2.2.2.1 _ c0_z.1 lt
    omega
  · omega
section DI
variable {G : Env0} {Q : Option AV → Mem → Prop} {M T : Mem} {c m b r : Nat}
/-- the class counts the parts of a_z path -/
theorem X_parts {p_z a_z n_z K_z : Int} {F_z Bg : Int → Int} (h_z : ShPa M r) (p0_z : 0 ≤ p_z) (p1_z : p_z < gI M r 5) (p2_z : gI M r 5 ≤ 200) (ha_z : gI M (r + 4) p_z = a_z) (hb_z : gI M (r + 4) (p_z + 1) = a_z + n_z) (a0_z : 0 ≤ a_z) (an : a_z + n_z ≤ 800) (n0_z : 0 ≤ n_z) (hF : ∀ i_z, 0 ≤ i_z → i_z < n_z → gI M (r + 3) (a_z + i_z) = F_z i_z) (h01 : ∀ i_z, 0 ≤ i_z → i_z < n_z → F_z i_z = 0 ∨ F_z i_z = 1) (hB_z : PB F_z n_z Bg K_z) (hQ : Q (some (a_i K_z)) M) : Call G J_Pa_countParts [a_r r, a_i p_z] M Q := by
  have st_z := fun qq => X_startOf (G := G) (Q := qq) (x_z := p_z) h_z p0_z (by omega)
  have en := fun qq => X_endOf (G := G) (Q := qq) (x_z := p_z) h_z p0_z (by omega) p1_z
  rw [ha_z] at st_z
  rw [hb_z] at en
  rw [← cnF_all hB_z h01 n0_z] at hQ
  have loop_z : ∀ d_z k_z : Nat, (k_z : Int) + d_z = n_z → At G 157 8 [a_r r, a_i p_z, a_i (cnF F_z k_z), a_i (a_z + (k_z : Int))] [] M Q := by
    intro d_z
    induction d_z with
    | zero =>
      intro k_z hk
      have e_z : n_z.toNat = k_z := by omega
      rw [e_z] at hQ
      simp (disch := omega) only [B_157_8, h_z.u, en, B_157_14, B_157_35, inI, inL, isT, kInt, kByt, true_and, and_true, an_t, im_t, im_f, or_true, true_or, true_imp_iff, false_imp_iff, not_true_eq_false, not_false_eq_true, gK_uI, gK_uL, gK_uR, gK_uCI, gK_uCL, gN_uI, gN_uL, gN_uR, gN_uCI, gN_uCL, gR_uI, gR_uL, gR_uCI, gR_uCL, gI_uL, gI_uR, gI_uCL, gL_uI, gL_uR, gL_uCI, gz_uI, gz_uL, gz_uR, gz_uCI, gz_uCL, gs_uI, gs_uL, gs_uR, gs_uCI, gs_uCL, rI_at, rL_at, rR_at, rI_ne, rL_ne, rR_ne, rI_nk, rL_nk, rR_nk, rI_eq, rL_eq, rR_eq, Option.toList_some, Option.toList_none, List.cons_append, List.nil_append, List.append_nil, zc_eq, zc_lt, zc_le, zc_ge, zc_gt]
      all_goals exact hQ
    | succ d_z ih_z =>
      intro k_z hk
      have go_z := ih_z (k_z + 1) (by omega)
      have fk := hF k_z (by omega) (by omega)
      have cb := cnF_bd F_z k_z
      have e1_z : cnF F_z (k_z + 1) = cnF F_z k_z + (if F_z k_z = 0 then 0 else 1) := rfl
      rw [e1_z, show a_z + ((k_z + 1 : Nat) : Int) = a_z + (k_z : Int) + 1 from by omega] at go_z
      generalize cnF F_z k_z = w_z at *
      rw [B_157_8]
      refine ⟨h_z.u.1, ?_⟩
      rw [en]
      by_cases cf_z : F_z k_z = 0
      · rw [if_pos cf_z, Int.add_zero] at go_z
        simp (disch := omega) only [B_157_14, h_z.u, fk, cf_z, B_157_29, inI, inL, isT, kInt, kByt, true_and, and_true, an_t, im_t, im_f, or_true, true_or, true_imp_iff, false_imp_iff, not_true_eq_false, not_false_eq_true, gK_uI, gK_uL, gK_uR, gK_uCI, gK_uCL, gN_uI, gN_uL, gN_uR, gN_uCI, gN_uCL, gR_uI, gR_uL, gR_uCI, gR_uCL, gI_uL, gI_uR, gI_uCL, gL_uI, gL_uR, gL_uCI, gz_uI, gz_uL, gz_uR, gz_uCI, gz_uCL, gs_uI, gs_uL, gs_uR, gs_uCI, gs_uCL, rI_at, rL_at, rR_at, rI_ne, rL_ne, rR_ne, rI_nk, rL_nk, rR_nk, rI_eq, rL_eq, rR_eq, Option.toList_some, Option.toList_none, List.cons_append, List.nil_append, List.append_nil, zc_eq, zc_lt, zc_le, zc_ge, zc_gt]
        all_goals exact go_z
      · rw [if_neg cf_z] at go_z
        simp (disch := omega) only [B_157_14, h_z.u, fk, cf_z, B_157_29, inI, inL, isT, kInt, kByt, true_and, and_true, an_t, im_t, im_f, or_true, true_or, true_imp_iff, false_imp_iff, not_true_eq_false, not_false_eq_true, gK_uI, gK_uL, gK_uR, gK_uCI, gK_uCL, gN_uI, gN_uL, gN_uR, gN_uCI, gN_uCL, gR_uI, gR_uL, gR_uCI, gR_uCL, gI_uL, gI_uR, gI_uCL, gL_uI, gL_uR, gL_uCI, gz_uI, gz_uL, gz_uR, gz_uCI, gz_uCL, gs_uI, gs_uL, gs_uR, gs_uCI, gs_uCL, rI_at, rL_at, rR_at, rI_ne, rL_ne, rR_ne, rI_nk, rL_nk, rR_nk, rI_eq, rL_eq, rR_eq, Option.toList_some, Option.toList_none, List.cons_append, List.nil_append, List.append_nil, zc_eq, zc_lt, zc_le, zc_ge, zc_gt]
        all_goals exact go_z
  have l0 := loop_z n_z.toNat 0 (by omega)
  rw [show cnF F_z 0 = 0 from rfl, show a_z + ((0 : Nat) : Int) = a_z from by omega] at l0
  simp (disch := omega) only [E_Pa_countParts, B_157_0, h_z.u, st_z, B_157_7, inI, inL, isT, kInt, kByt, true_and, and_true, an_t, im_t, im_f, or_true, true_or, true_imp_iff, false_imp_iff, not_true_eq_false, not_false_eq_true, gK_uI, gK_uL, gK_uR, gK_uCI, gK_uCL, gN_uI, gN_uL, gN_uR, gN_uCI, gN_uCL, gR_uI, gR_uL, gR_uCI, gR_uCL, gI_uL, gI_uR, gI_uCL, gL_uI, gL_uR, gL_uCI, gz_uI, gz_uL, gz_uR, gz_uCI, gz_uCL, gs_uI, gs_uL, gs_uR, gs_uCI, gs_uCL, rI_at, rL_at, rR_at, rI_ne, rL_ne, rR_ne, rI_nk, rL_nk, rR_nk, rI_eq, rL_eq, rR_eq, Option.toList_some, Option.toList_none, List.cons_append, List.nil_append, List.append_nil, zc_eq, zc_lt, zc_le, zc_ge, zc_gt]
  all_goals exact l0
/-- the points of an item -/
def npI (M : Mem) (c : Nat) (i_z : Int) : Int := gI M (c + 8) (gI M (c + 10) i_z + 1) - gI M (c + 8) (gI M (c + 10) i_z)
theorem X_points {i_z : Int} (sh_z : ShMa M c) (rs : RsR M T c m) (i0_z : 0 ≤ i_z) (i1_z : i_z < gI M (c + 3) 8) : Call G J_It_countPoints [a_r (c + 3), a_i i_z] M Q ↔ Q (some (a_i (npI M c i_z))) M := by
  obtain ⟨-, ⟨-, t0_z, t1_z, it⟩, -, -, -, -, -, -, ⟨-, -, hE, hL, h33⟩, -⟩ := rs
  have hp := (it i_z i0_z i1_z).2.2.2.2.1
  clear it
  have n0_z := hp.2.2.2.2.2.2.2.1
  have n24_z := hp.2.2.2.2.2.2.2.2.1
  have p0_z := hp.1
  have p1_z := hp.2.1
  have a0_z := hp.2.2.2.2.1
  have a1_z := hp.2.2.2.2.2.1
  have sI : ShIt M (c + 3) (c + 4) := sh_z.2.2.1
  have sP : ShPa M (c + 4) := sh_z.2.1
  have hs := fun qq => X_hasT (G := G) (Q := qq) sI i0_z i1_z t1_z
  unfold npI
  generalize hpp : gI M (c + 10) i_z = p_z at *
  have e10_z : gI M (c + 3 + 7) i_z = p_z := hpp
  have st_z := fun qq => X_startOf (G := G) (Q := qq) (x_z := p_z) sP p0_z (by omega)
  have en := fun qq => X_endOf (G := G) (Q := qq) (x_z := p_z) sP p0_z (by omega) p1_z
  have e1_z : gI M (c + 4 + 4) p_z = gI M (c + 8) p_z := rfl
  have e2_z : gI M (c + 4 + 4) (p_z + 1) = gI M (c + 8) (p_z + 1) := rfl
  rw [e1_z] at st_z
  rw [e2_z] at en
  simp (disch := omega) only [E_It_countPoints, B_158_0, sI.u, hs, B_158_5, e10_z, sP.u, en, B_158_21, st_z, B_158_34, B_158_39, inI, inL, isT, kInt, kByt, true_and, and_true, an_t, im_t, im_f, or_true, true_or, true_imp_iff, false_imp_iff, not_true_eq_false, not_false_eq_true, gK_uI, gK_uL, gK_uR, gK_uCI, gK_uCL, gN_uI, gN_uL, gN_uR, gN_uCI, gN_uCL, gR_uI, gR_uL, gR_uCI, gR_uCL, gI_uL, gI_uR, gI_uCL, gL_uI, gL_uR, gL_uCI, gz_uI, gz_uL, gz_uR, gz_uCI, gz_uCL, gs_uI, gs_uL, gs_uR, gs_uCI, gs_uCL, rI_at, rL_at, rR_at, rI_ne, rL_ne, rR_ne, rI_nk, rL_nk, rR_nk, rI_eq, rL_eq, rR_eq, Option.toList_some, Option.toList_none, List.cons_append, List.nil_append, List.append_nil, zc_eq, zc_lt, zc_le, zc_ge, zc_gt]
theorem X_missT {i_z : Int} (sX_z : ShX M b) (sh_z : ShMa M (b + 16)) (r1_z : gI M (b + 16) 10 = 1) (i1_z : i_z < gI M (b + 16 + 3) 8) : Call G J_X_missingItem [a_r (b + 1), a_i i_z] M Q ↔ Q (some (a_i 0)) M := by
  have sI : ShIt M (b + 16 + 3) (b + 16 + 4) := sh_z.2.2.1
  simp (disch := omega) only [E_X_missingItem, B_155_0, sX_z.u, sh_z.1.u, r1_z, B_155_13, sI.u, B_155_33, inI, inL, isT, kInt, kByt, true_and, and_true, an_t, im_t, im_f, or_true, true_or, true_imp_iff, false_imp_iff, not_true_eq_false, not_false_eq_true, gK_uI, gK_uL, gK_uR, gK_uCI, gK_uCL, gN_uI, gN_uL, gN_uR, gN_uCI, gN_uCL, gR_uI, gR_uL, gR_uCI, gR_uCL, gI_uL, gI_uR, gI_uCL, gL_uI, gL_uR, gL_uCI, gz_uI, gz_uL, gz_uR, gz_uCI, gz_uCL, gs_uI, gs_uL, gs_uR, gs_uCI, gs_uCL, rI_at, rL_at, rR_at, rI_ne, rL_ne, rR_ne, rI_nk, rL_nk, rR_nk, rI_eq, rL_eq, rR_eq, Option.toList_some, Option.toList_none, List.cons_append, List.nil_append, List.append_nil, zc_eq, zc_lt, zc_le, zc_ge, zc_gt]
theorem X_missN {i_z : Int} (sX_z : ShX M b) (sh_z : ShMa M (b + 16)) (r1_z : gI M (b + 16) 10 = 1) (i1_z : gI M (b + 16 + 3) 8 ≤ i_z) : Call G J_X_missingItem [a_r (b + 1), a_i i_z] M Q ↔ Q (some (a_i (-10000009))) M := by
  have sI : ShIt M (b + 16 + 3) (b + 16 + 4) := sh_z.2.2.1
  simp (disch := omega) only [E_X_missingItem, B_155_0, sX_z.u, sh_z.1.u, r1_z, B_155_13, sI.u, B_155_31, B_155_33, inI, inL, isT, kInt, kByt, true_and, and_true, an_t, im_t, im_f, or_true, true_or, true_imp_iff, false_imp_iff, not_true_eq_false, not_false_eq_true, gK_uI, gK_uL, gK_uR, gK_uCI, gK_uCL, gN_uI, gN_uL, gN_uR, gN_uCI, gN_uCL, gR_uI, gR_uL, gR_uCI, gR_uCL, gI_uL, gI_uR, gI_uCL, gL_uI, gL_uR, gL_uCI, gz_uI, gz_uL, gz_uR, gz_uCI, gz_uCL, gs_uI, gs_uL, gs_uR, gs_uCI, gs_uCL, rI_at, rL_at, rR_at, rI_ne, rL_ne, rR_ne, rI_nk, rL_nk, rR_nk, rI_eq, rL_eq, rR_eq, Option.toList_some, Option.toList_none, List.cons_append, List.nil_append, List.append_nil, zc_eq, zc_lt, zc_le, zc_ge, zc_gt]
theorem X_missR {i_z : Int} (sX_z : ShX M b) (sh_z : ShMa M (b + 16)) (r1_z : gI M (b + 16) 10 = 0) : Call G J_X_missingItem [a_r (b + 1), a_i i_z] M Q ↔ Q (some (a_i (-10000002))) M := by
  simp (disch := omega) only [E_X_missingItem, B_155_0, sX_z.u, sh_z.1.u, r1_z, not_true_eq_false, inI, inL, isT, kInt, kByt, true_and, and_true, an_t, im_t, im_f, or_true, true_or, true_imp_iff, false_imp_iff, not_true_eq_false, not_false_eq_true, gK_uI, gK_uL, gK_uR, gK_uCI, gK_uCL, gN_uI, gN_uL, gN_uR, gN_uCI, gN_uCL, gR_uI, gR_uL, gR_uCI, gR_uCL, gI_uL, gI_uR, gI_uCL, gL_uI, gL_uR, gL_uCI, gz_uI, gz_uL, gz_uR, gz_uCI, gz_uCL, gs_uI, gs_uL, gs_uR, gs_uCI, gs_uCL, rI_at, rL_at, rR_at, rI_ne, rL_ne, rR_ne, rI_nk, rL_nk, rR_nk, rI_eq, rL_eq, rR_eq, Option.toList_some, Option.toList_none, List.cons_append, List.nil_append, List.append_nil, zc_eq, zc_lt, zc_le, zc_ge, zc_gt]
/-- the model's refusal: the answer, 0 for none -/
def refI (i_z v_z run n_z : Int) : Int := if i_z < 0 ∨ v_z = 0 then -10000001 else if run = 0 then -10000002 else if i_z < n_z then 0 else -10000009
theorem X_refused {i_z v_z : Int} (sm_z : ShM M m) : Call G J_M_refused [a_r m, a_i i_z, a_i v_z] M Q ↔ Q (some (a_i (refI i_z v_z (gI M m 45) (gI M m 35)))) M := by
  unfold refI
  by_cases c1_z : i_z < 0
  · rw [if_pos (Or.inl c1_z)]
    simp (disch := omega) only [E_M_refused, B_254_0, c1_z, B_254_8, inI, inL, isT, kInt, kByt, true_and, and_true, an_t, im_t, im_f, or_true, true_or, true_imp_iff, false_imp_iff, not_true_eq_false, not_false_eq_true, gK_uI, gK_uL, gK_uR, gK_uCI, gK_uCL, gN_uI, gN_uL, gN_uR, gN_uCI, gN_uCL, gR_uI, gR_uL, gR_uCI, gR_uCL, gI_uL, gI_uR, gI_uCL, gL_uI, gL_uR, gL_uCI, gz_uI, gz_uL, gz_uR, gz_uCI, gz_uCL, gs_uI, gs_uL, gs_uR, gs_uCI, gs_uCL, rI_at, rL_at, rR_at, rI_ne, rL_ne, rR_ne, rI_nk, rL_nk, rR_nk, rI_eq, rL_eq, rR_eq, Option.toList_some, Option.toList_none, List.cons_append, List.nil_append, List.append_nil, zc_eq, zc_lt, zc_le, zc_ge, zc_gt]
  · by_cases c2_z : v_z = 0
    · rw [if_pos (Or.inr c2_z)]
      simp (disch := omega) only [E_M_refused, B_254_0, c1_z, c2_z, not_true_eq_false, B_254_8, inI, inL, isT, kInt, kByt, true_and, and_true, an_t, im_t, im_f, or_true, true_or, true_imp_iff, false_imp_iff, not_true_eq_false, not_false_eq_true, gK_uI, gK_uL, gK_uR, gK_uCI, gK_uCL, gN_uI, gN_uL, gN_uR, gN_uCI, gN_uCL, gR_uI, gR_uL, gR_uCI, gR_uCL, gI_uL, gI_uR, gI_uCL, gL_uI, gL_uR, gL_uCI, gz_uI, gz_uL, gz_uR, gz_uCI, gz_uCL, gs_uI, gs_uL, gs_uR, gs_uCI, gs_uCL, rI_at, rL_at, rR_at, rI_ne, rL_ne, rR_ne, rI_nk, rL_nk, rR_nk, rI_eq, rL_eq, rR_eq, Option.toList_some, Option.toList_none, List.cons_append, List.nil_append, List.append_nil, zc_eq, zc_lt, zc_le, zc_ge, zc_gt]
    · rw [if_neg (by omega)]
      by_cases c3_z : gI M m 45 = 0
      · rw [if_pos c3_z]
        simp (disch := omega) only [E_M_refused, B_254_0, c1_z, c2_z, not_false_eq_true, B_254_11, sm_z.u, c3_z, not_true_eq_false, B_254_37, inI, inL, isT, kInt, kByt, true_and, and_true, an_t, im_t, im_f, or_true, true_or, true_imp_iff, false_imp_iff, not_true_eq_false, not_false_eq_true, gK_uI, gK_uL, gK_uR, gK_uCI, gK_uCL, gN_uI, gN_uL, gN_uR, gN_uCI, gN_uCL, gR_uI, gR_uL, gR_uCI, gR_uCL, gI_uL, gI_uR, gI_uCL, gL_uI, gL_uR, gL_uCI, gz_uI, gz_uL, gz_uR, gz_uCI, gz_uCL, gs_uI, gs_uL, gs_uR, gs_uCI, gs_uCL, rI_at, rL_at, rR_at, rI_ne, rL_ne, rR_ne, rI_nk, rL_nk, rR_nk, rI_eq, rL_eq, rR_eq, Option.toList_some, Option.toList_none, List.cons_append, List.nil_append, List.append_nil, zc_eq, zc_lt, zc_le, zc_ge, zc_gt]
      · rw [if_neg c3_z]
        by_cases c4_z : i_z < gI M m 35
        · rw [if_pos c4_z]
          simp (disch := omega) only [E_M_refused, B_254_0, c1_z, c2_z, not_false_eq_true, B_254_11, sm_z.u, c3_z, B_254_23, B_254_37, inI, inL, isT, kInt, kByt, true_and, and_true, an_t, im_t, im_f, or_true, true_or, true_imp_iff, false_imp_iff, not_true_eq_false, not_false_eq_true, gK_uI, gK_uL, gK_uR, gK_uCI, gK_uCL, gN_uI, gN_uL, gN_uR, gN_uCI, gN_uCL, gR_uI, gR_uL, gR_uCI, gR_uCL, gI_uL, gI_uR, gI_uCL, gL_uI, gL_uR, gL_uCI, gz_uI, gz_uL, gz_uR, gz_uCI, gz_uCL, gs_uI, gs_uL, gs_uR, gs_uCI, gs_uCL, rI_at, rL_at, rR_at, rI_ne, rL_ne, rR_ne, rI_nk, rL_nk, rR_nk, rI_eq, rL_eq, rR_eq, Option.toList_some, Option.toList_none, List.cons_append, List.nil_append, List.append_nil, zc_eq, zc_lt, zc_le, zc_ge, zc_gt]
        · rw [if_neg c4_z]
          simp (disch := omega) only [E_M_refused, B_254_0, c1_z, c2_z, not_false_eq_true, B_254_11, sm_z.u, c3_z, B_254_23, B_254_35, B_254_37, inI, inL, isT, kInt, kByt, true_and, and_true, an_t, im_t, im_f, or_true, true_or, true_imp_iff, false_imp_iff, not_true_eq_false, not_false_eq_true, gK_uI, gK_uL, gK_uR, gK_uCI, gK_uCL, gN_uI, gN_uL, gN_uR, gN_uCI, gN_uCL, gR_uI, gR_uL, gR_uCI, gR_uCL, gI_uL, gI_uR, gI_uCL, gL_uI, gL_uR, gL_uCI, gz_uI, gz_uL, gz_uR, gz_uCI, gz_uCL, gs_uI, gs_uL, gs_uR, gs_uCI, gs_uCL, rI_at, rL_at, rR_at, rI_ne, rL_ne, rR_ne, rI_nk, rL_nk, rR_nk, rI_eq, rL_eq, rR_eq, Option.toList_some, Option.toList_none, List.cons_append, List.nil_append, List.append_nil, zc_eq, zc_lt, zc_le, zc_ge, zc_gt]
theorem s_countColor {x_z : Int} (h_z : Inv G M b) : Same G b J_X_countColor J_M_countColor [a_i x_z] M := by
  have sX_z := h_z.1.1
  have sM := h_z.ma.1
  have sT := h_z.mo
  have sI : ShIt M (b + 16 + 3) (b + 16 + 4) := h_z.ma.2.2.1
  obtain ⟨⟨w1_z, w2_z, w3_z⟩, ⟨v1_z, v2, v3⟩⟩ := h_z.wh
  obtain ⟨W_z, hW⟩ : ∃ W_z : Nat, gI M (b + 10) 4 = (W_z : Int) := ⟨(gI M (b + 10) 4).toNat, by omega⟩
  obtain ⟨H_z, hH⟩ : ∃ H_z : Nat, gI M (b + 10) 5 = (H_z : Int) := ⟨(gI M (b + 10) 5).toNat, by omega⟩
  have m2_z := fun qq => Y_in (G := G) (M := M) (Q := qq) (x_z := x_z) (y_z := 0) (w_z := 15)
  by_cases cx : 0 ≤ x_z ∧ x_z ≤ 15
  · have m1_z := fun qq => Y_isBetweenT (G := G) (Q := qq) (M := M) (x_z := x_z) (y_z := 0) (w_z := 15) cx
    rw [zB_t cx] at m2_z
    rcases h_z.rn with ⟨r1_z, r2⟩ | ⟨r1_z, r2, rs⟩
    · refine same_pure (v_z := -10000002) h_z (fun Q hq => ?_) (fun Q hq => ?_)
      · simp (disch := omega) only [E_X_countColor, B_151_0, m1_z, B_151_7, B_151_13, sX_z.u, sM.u, r1_z, B_151_41, B_151_43, inI, inL, isT, kInt, kByt, true_and, and_true, an_t, im_t, im_f, or_true, true_or, true_imp_iff, false_imp_iff, not_true_eq_false, not_false_eq_true, gK_uI, gK_uL, gK_uR, gK_uCI, gK_uCL, gN_uI, gN_uL, gN_uR, gN_uCI, gN_uCL, gR_uI, gR_uL, gR_uCI, gR_uCL, gI_uL, gI_uR, gI_uCL, gL_uI, gL_uR, gL_uCI, gz_uI, gz_uL, gz_uR, gz_uCI, gz_uCL, gs_uI, gs_uL, gs_uR, gs_uCI, gs_uCL, rI_at, rL_at, rR_at, rI_ne, rL_ne, rR_ne, rI_nk, rL_nk, rR_nk, rI_eq, rL_eq, rR_eq, Option.toList_some, Option.toList_none, List.cons_append, List.nil_append, List.append_nil, zc_eq, zc_lt, zc_le, zc_ge, zc_gt]
        all_goals exact hq
      · simp (disch := omega) only [E_M_countColor, B_251_0, m2_z, B_251_7, B_251_13, sT.u, r2, not_true_eq_false, inI, inL, isT, kInt, kByt, true_and, and_true, an_t, im_t, im_f, or_true, true_or, true_imp_iff, false_imp_iff, not_true_eq_false, not_false_eq_true, gK_uI, gK_uL, gK_uR, gK_uCI, gK_uCL, gN_uI, gN_uL, gN_uR, gN_uCI, gN_uCL, gR_uI, gR_uL, gR_uCI, gR_uCL, gI_uL, gI_uR, gI_uCL, gL_uI, gL_uR, gL_uCI, gz_uI, gz_uL, gz_uR, gz_uCI, gz_uCL, gs_uI, gs_uL, gs_uR, gs_uCI, gs_uCL, rI_at, rL_at, rR_at, rI_ne, rL_ne, rR_ne, rI_nk, rL_nk, rR_nk, rI_eq, rL_eq, rR_eq, Option.toList_some, Option.toList_none, List.cons_append, List.nil_append, List.append_nil, zc_eq, zc_lt, zc_le, zc_ge, zc_gt]
        all_goals exact hq
    · refine same_pure (v_z := gsm (fCol M (b + 16) x_z) W_z (W_z * H_z)) h_z (fun Q hq => ?_) (fun Q hq => ?_)
      · have go_z : Call G J_It_countCells [a_r (b + 16 + 3), a_i x_z, a_r (b + 10)] M (fun r M2_z => At G 151 38 [a_r (b + 1), a_i x_z] r.toList M2_z Q) := by
          refine X_cntCol (T := M) (m := b + 193) h_z.ma rs h_z.sa hW hH (by omega) (by omega) ?_
          simp (disch := omega) only [B_151_38, B_151_43, inI, inL, isT, kInt, kByt, true_and, and_true, an_t, im_t, im_f, or_true, true_or, true_imp_iff, false_imp_iff, not_true_eq_false, not_false_eq_true, gK_uI, gK_uL, gK_uR, gK_uCI, gK_uCL, gN_uI, gN_uL, gN_uR, gN_uCI, gN_uCL, gR_uI, gR_uL, gR_uCI, gR_uCL, gI_uL, gI_uR, gI_uCL, gL_uI, gL_uR, gL_uCI, gz_uI, gz_uL, gz_uR, gz_uCI, gz_uCL, gs_uI, gs_uL, gs_uR, gs_uCI, gs_uCL, rI_at, rL_at, rR_at, rI_ne, rL_ne, rR_ne, rI_nk, rL_nk, rR_nk, rI_eq, rL_eq, rR_eq, Option.toList_some, Option.toList_none, List.cons_append, List.nil_append, List.append_nil, zc_eq, zc_lt, zc_le, zc_ge, zc_gt]
          all_goals exact hq
        simp (disch := omega) only [E_X_countColor, B_151_0, m1_z, B_151_7, B_151_13, sX_z.u, sM.u, r1_z, sI.u, inI, inL, isT, kInt, kByt, true_and, and_true, an_t, im_t, im_f, or_true, true_or, true_imp_iff, false_imp_iff, not_true_eq_false, not_false_eq_true, gK_uI, gK_uL, gK_uR, gK_uCI, gK_uCL, gN_uI, gN_uL, gN_uR, gN_uCI, gN_uCL, gR_uI, gR_uL, gR_uCI, gR_uCL, gI_uL, gI_uR, gI_uCL, gL_uI, gL_uR, gL_uCI, gz_uI, gz_uL, gz_uR, gz_uCI, gz_uCL, gs_uI, gs_uL, gs_uR, gs_uCI, gs_uCL, rI_at, rL_at, rR_at, rI_ne, rL_ne, rR_ne, rI_nk, rL_nk, rR_nk, rI_eq, rL_eq, rR_eq, Option.toList_some, Option.toList_none, List.cons_append, List.nil_append, List.append_nil, zc_eq, zc_lt, zc_le, zc_ge, zc_gt]
        all_goals exact go_z
      · have go_z := X_mCol (G := G) (Q := Q) (M := M) (c := b + 16) (k_z := x_z) sT rs (w1_z.symm.trans hW) (v1_z.symm.trans hH) (by omega) (by omega) hq
        simp (disch := omega) only [E_M_countColor, B_251_0, m2_z, B_251_7, B_251_13, sT.u, r2, B_251_23, inI, inL, isT, kInt, kByt, true_and, and_true, an_t, im_t, im_f, or_true, true_or, true_imp_iff, false_imp_iff, not_true_eq_false, not_false_eq_true, gK_uI, gK_uL, gK_uR, gK_uCI, gK_uCL, gN_uI, gN_uL, gN_uR, gN_uCI, gN_uCL, gR_uI, gR_uL, gR_uCI, gR_uCL, gI_uL, gI_uR, gI_uCL, gL_uI, gL_uR, gL_uCI, gz_uI, gz_uL, gz_uR, gz_uCI, gz_uCL, gs_uI, gs_uL, gs_uR, gs_uCI, gs_uCL, rI_at, rL_at, rR_at, rI_ne, rL_ne, rR_ne, rI_nk, rL_nk, rR_nk, rI_eq, rL_eq, rR_eq, Option.toList_some, Option.toList_none, List.cons_append, List.nil_append, List.append_nil, zc_eq, zc_lt, zc_le, zc_ge, zc_gt]
        all_goals exact go_z
  · have m1_z := fun qq => Y_isBetweenF (G := G) (Q := qq) (M := M) (x_z := x_z) (y_z := 0) (w_z := 15) cx
    rw [zB_f cx] at m2_z
    refine same_pure (v_z := -10000001) h_z (fun Q hq => ?_) (fun Q hq => ?_)
    · simp (disch := omega) only [E_X_countColor, B_151_0, m1_z, B_151_7, not_true_eq_false, inI, inL, isT, kInt, kByt, true_and, and_true, an_t, im_t, im_f, or_true, true_or, true_imp_iff, false_imp_iff, not_true_eq_false, not_false_eq_true, gK_uI, gK_uL, gK_uR, gK_uCI, gK_uCL, gN_uI, gN_uL, gN_uR, gN_uCI, gN_uCL, gR_uI, gR_uL, gR_uCI, gR_uCL, gI_uL, gI_uR, gI_uCL, gL_uI, gL_uR, gL_uCI, gz_uI, gz_uL, gz_uR, gz_uCI, gz_uCL, gs_uI, gs_uL, gs_uR, gs_uCI, gs_uCL, rI_at, rL_at, rR_at, rI_ne, rL_ne, rR_ne, rI_nk, rL_nk, rR_nk, rI_eq, rL_eq, rR_eq, Option.toList_some, Option.toList_none, List.cons_append, List.nil_append, List.append_nil, zc_eq, zc_lt, zc_le, zc_ge, zc_gt]
      all_goals exact hq
    · simp (disch := omega) only [E_M_countColor, B_251_0, m2_z, B_251_7, not_true_eq_false, inI, inL, isT, kInt, kByt, true_and, and_true, an_t, im_t, im_f, or_true, true_or, true_imp_iff, false_imp_iff, not_true_eq_false, not_false_eq_true, gK_uI, gK_uL, gK_uR, gK_uCI, gK_uCL, gN_uI, gN_uL, gN_uR, gN_uCI, gN_uCL, gR_uI, gR_uL, gR_uCI, gR_uCL, gI_uL, gI_uR, gI_uCL, gL_uI, gL_uR, gL_uCI, gz_uI, gz_uL, gz_uR, gz_uCI, gz_uCL, gs_uI, gs_uL, gs_uR, gs_uCI, gs_uCL, rI_at, rL_at, rR_at, rI_ne, rL_ne, rR_ne, rI_nk, rL_nk, rR_nk, rI_eq, rL_eq, rR_eq, Option.toList_some, Option.toList_none, List.cons_append, List.nil_append, List.append_nil, zc_eq, zc_lt, zc_le, zc_ge, zc_gt]
      all_goals exact hq
end DI
