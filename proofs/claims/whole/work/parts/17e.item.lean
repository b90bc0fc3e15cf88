/-! THE PURE PART, part 17: whether an item covers a cell, both sides. Own work. -/
/-- whether path p_z of the class covers a point by rule o -/
def cvP (M : Mem) (c : Nat) (p_z o px py : Int) : Int := covI o (csm (fun i_z => gI M (c + 5) (gI M (c + 8) p_z + i_z)) (fun i_z => gI M (c + 6) (gI M (c + 8) p_z + i_z)) (nxP (fun i_z => gI M (c + 7) (gI M (c + 8) p_z + i_z)) (gI M (c + 8) (p_z + 1) - gI M (c + 8) p_z)) px py (gI M (c + 8) (p_z + 1) - gI M (c + 8) p_z).toNat)
theorem cvP_bit (M : Mem) (c : Nat) (p_z o px py : Int) : cvP M c p_z o px py = 0 ∨ cvP M c p_z o px py = 1 := covI_bit _ _
/-- from k_z on, d_z of them, all are not zero -/
def alI (f_z : Nat → Int) : Nat → Nat → Int
  | _, 0 => 1
  | k_z, d_z + 1 => if f_z k_z = 0 then 0 else alI f_z (k_z + 1) d_z
/-- the latest one below that is not zero -/
def latI (f_z : Nat → Int) : Nat → Int
  | 0 => -1
  | k_z + 1 => if f_z k_z = 0 then latI f_z k_z else (k_z : Int)
theorem latI_bd (f_z : Nat → Int) (k_z : Nat) : -1 ≤ latI f_z k_z ∧ latI f_z k_z < k_z := by
  induction k_z with
  | zero => exact ⟨by simp [latI], by simp [latI]⟩
  | succ k_z ih_z =>
    unfold latI
    split <;> omega
def cvF (M : Mem) (c : Nat) (i_z px py : Int) (j_z : Nat) : Int := cvP M c (gI M (c + 16) (6 * i_z + j_z)) (gI M (c + 9) (gI M (c + 16) (6 * i_z + j_z))) px py
/-- whether item i_z covers a cell -/
def cvI (M : Mem) (c : Nat) (i_z x_z y_z : Int) : Int := if cvP M c (gI M (c + 10) i_z) (gI M (c + 11) i_z) (16 * x_z + 8) (16 * y_z + 8) = 0 then 0 else alI (cvF M c i_z (16 * x_z + 8) (16 * y_z + 8)) 0 (gI M (c + 15) i_z).toNat
section DD
variable {G : Env0} {Q : Option AV → Mem → Prop} {M T : Mem} {c m : Nat}
theorem pth_pol {p_z q_z : Int} (h_z : PthR M T c m p_z q_z) : Pol (fun i_z => gI M (c + 5) (gI M (c + 8) p_z + i_z)) (fun i_z => gI M (c + 6) (gI M (c + 8) p_z + i_z)) (fun i_z => gI M (c + 7) (gI M (c + 8) p_z + i_z)) (gI M (c + 8) (p_z + 1) - gI M (c + 8) p_z) := by
  obtain ⟨-, -, -, -, -, -, -, n0_z, n1_z, hp, -⟩ := h_z
  exact ⟨n0_z, n1_z, fun i_z i0_z i1_z => (hp i_z i0_z i1_z).2.2⟩
theorem cov_C {p_z q_z o px py : Int} (sh_z : ShMa M c) (hE : gI M (c + 4) 5 ≤ 200) (hL : gI M (c + 4) 6 ≤ 800) (hp : PthR M T c m p_z q_z) (bx : px.natAbs ≤ 1000) (bd : py.natAbs ≤ 1000) (hQ : Q (some (a_i (cvP M c p_z o px py))) M) : Call G J_Pa_covers [a_r (c + 4), a_i p_z, a_i o, a_i px, a_i py] M Q := by
  have hp2 := hp
  obtain ⟨p0_z, p1_z, q0, q1_z, a0_z, a1_z, a2, a3⟩ := hp2
  refine X_coversC (a_z := gI M (c + 8) p_z) (n_z := gI M (c + 8) (p_z + 1) - gI M (c + 8) p_z) sh_z.2.1 p0_z p1_z hE rfl ?_ a0_z.1 (by omega) (pth_pol hp) (fun i_z _ _ => rfl) (fun i_z _ _ => rfl) (fun i_z _ _ => rfl) a3.2.2.2 bx bd hQ
  show gI M (c + 8) (p_z + 1) = _
  omega
theorem cov_M {p_z q_z o px py : Int} (sh_z : ShM T m) (hE : gI T m 33 ≤ 200) (hp : PthR M T c m p_z q_z) (bx : px.natAbs ≤ 1000) (bd : py.natAbs ≤ 1000) (hQ : Q (some (a_i (cvP M c p_z o px py))) T) : Call G J_M_isCovered [a_r m, a_i q_z, a_i o, a_i px, a_i py] T Q := by
  have hp2 := hp
  obtain ⟨p0_z, p1_z, q0, q1_z, a0_z, a1_z, a2, a3⟩ := hp2
  exact X_isCov sh_z q0 (by omega) a2 rfl (pth_pol hp) (fun i_z i0_z i1_z => (a3.2.2.1 i_z i0_z i1_z).1.symm) (fun i_z i0_z i1_z => (a3.2.2.1 i_z i0_z i1_z).2.1.symm) a3.2.2.2 bx bd hQ
/-- a clip path covers alike by its own rule and by the entry's -/
theorem clr_rule {p_z e_z px py : Int} (h_z : ClR M T c m p_z e_z) : cvP M c p_z (gI M (c + 9) p_z) px py = cvP M c p_z (e_z % 2) px py := by
  obtain ⟨e0_z, hp, -, h3⟩ := h_z
  rcases h3 with h3 | ⟨h3, h4⟩
  · rw [h3]
  · obtain ⟨n0_z, n1_z, pts⟩ := pth_pol hp
    have hb_z := hp.2.2.2.2.2.2.2.2.2.2
    rw [h4] at hb_z
    unfold cvP
    rw [h3] at hb_z pts ⊢
    exact covI_small (csm4 hb_z (fun i_z i0_z i1_z => (pts i_z i0_z i1_z).2.2))
theorem X_hasT {i_z : Int} {r_z p_z : Nat} (h_z : ShIt M r_z p_z) (i0_z : 0 ≤ i_z) (i1_z : i_z < gI M r_z 8) (i2_z : gI M r_z 8 ≤ 30) : Call G J_It_has [a_r r_z, a_i i_z] M Q ↔ Q (some (a_i 1)) M := by
  simp (disch := omega) only [E_It_has, B_144_0, h_z.u, B_144_23, inI, inL, isT, kInt, kByt, true_and, and_true, an_t, im_t, im_f, or_true, true_or, true_imp_iff, false_imp_iff, not_true_eq_false, not_false_eq_true, gK_uI, gK_uL, gK_uR, gK_uCI, gK_uCL, gN_uI, gN_uL, gN_uR, gN_uCI, gN_uCL, gR_uI, gR_uL, gR_uCI, gR_uCL, gI_uL, gI_uR, gI_uCL, gL_uI, gL_uR, gL_uCI, gz_uI, gz_uL, gz_uR, gz_uCI, gz_uCL, gs_uI, gs_uL, gs_uR, gs_uCI, gs_uCL, rI_at, rL_at, rR_at, rI_ne, rL_ne, rR_ne, rI_nk, rL_nk, rR_nk, rI_eq, rL_eq, rR_eq, Option.toList_some, Option.toList_none, List.cons_append, List.nil_append, List.append_nil, zc_eq, zc_lt, zc_le, zc_ge, zc_gt]
theorem X_hasF {i_z : Int} {r_z p_z : Nat} (h_z : ShIt M r_z p_z) (i0_z : i_z < 0) : Call G J_It_has [a_r r_z, a_i i_z] M Q ↔ Q (some (a_i 0)) M := by
  simp (disch := omega) only [E_It_has, B_144_0, h_z.u, B_144_22, B_144_23, inI, inL, isT, kInt, kByt, true_and, and_true, an_t, im_t, im_f, or_true, true_or, true_imp_iff, false_imp_iff, not_true_eq_false, not_false_eq_true, gK_uI, gK_uL, gK_uR, gK_uCI, gK_uCL, gN_uI, gN_uL, gN_uR, gN_uCI, gN_uCL, gR_uI, gR_uL, gR_uCI, gR_uCL, gI_uL, gI_uR, gI_uCL, gL_uI, gL_uR, gL_uCI, gz_uI, gz_uL, gz_uR, gz_uCI, gz_uCL, gs_uI, gs_uL, gs_uR, gs_uCI, gs_uCL, rI_at, rL_at, rR_at, rI_ne, rL_ne, rR_ne, rI_nk, rL_nk, rR_nk, rI_eq, rL_eq, rR_eq, Option.toList_some, Option.toList_none, List.cons_append, List.nil_append, List.append_nil, zc_eq, zc_lt, zc_le, zc_ge, zc_gt]
theorem covI_zB (o s_z : Int) : covI (zB (o ≠ 0)) s_z = covI o s_z := by
  by_cases h_z : o = 0
  · rw [zB_f (fun q_z => q_z h_z), h_z]
  · rw [zB_t h_z]
    unfold covI
    rw [if_neg h_z, if_neg (by decide)]
/-- the class: an item covers a cell -/
theorem X_itCov {i_z x_z y_z : Int} (sh_z : ShMa M c) (rs : RsR M T c m) (i0_z : 0 ≤ i_z) (i1_z : i_z < gI M (c + 3) 8) (x0_z : 0 ≤ x_z) (x1_z : x_z < 24) (y0 : 0 ≤ y_z) (y1 : y_z < 24) (hQ : Q (some (a_i (cvI M c i_z x_z y_z))) M) : Call G J_It_coversCell [a_r (c + 3), a_i i_z, a_i x_z, a_i y_z] M Q := by
  obtain ⟨-, ⟨-, t0_z, t1_z, it⟩, -, -, -, -, -, -, ⟨-, -, hE, hL, h33⟩, -⟩ := rs
  obtain ⟨-, -, -, o1, hp, -, -, -, n0_z, n1_z, cl_z⟩ := it i_z i0_z i1_z
  have sI : ShIt M (c + 3) (c + 4) := sh_z.2.2.1
  have sP : ShPa M (c + 4) := sh_z.2.1
  have hs := fun qq => X_hasT (G := G) (Q := qq) sI i0_z i1_z t1_z
  unfold cvI at hQ
  generalize hw : gI M (c + 15) i_z = w_z at *
  have loop_z : ∀ d_z k_z : Nat, (k_z : Int) + d_z = w_z → ∀ u7 : AV, Q (some (a_i (alI (cvF M c i_z (16 * x_z + 8) (16 * y_z + 8)) k_z d_z))) M → At G 143 57 [a_r (c + 3), a_i i_z, a_i x_z, a_i y_z, a_i (16 * x_z + 8), a_i (16 * y_z + 8), a_i (k_z : Int), u7] [] M Q := by
    intro d_z
    induction d_z with
    | zero =>
      intro k_z hk u7 hq
      have e0_z : alI (cvF M c i_z (16 * x_z + 8) (16 * y_z + 8)) k_z 0 = 1 := rfl
      rw [e0_z] at hq
      have cw_z : w_z ≤ (k_z : Int) := by omega
      simp (disch := omega) only [B_143_57, sI.u, hw, B_143_122, inI, inL, isT, kInt, kByt, true_and, and_true, an_t, im_t, im_f, or_true, true_or, true_imp_iff, false_imp_iff, not_true_eq_false, not_false_eq_true, gK_uI, gK_uL, gK_uR, gK_uCI, gK_uCL, gN_uI, gN_uL, gN_uR, gN_uCI, gN_uCL, gR_uI, gR_uL, gR_uCI, gR_uCL, gI_uL, gI_uR, gI_uCL, gL_uI, gL_uR, gL_uCI, gz_uI, gz_uL, gz_uR, gz_uCI, gz_uCL, gs_uI, gs_uL, gs_uR, gs_uCI, gs_uCL, rI_at, rL_at, rR_at, rI_ne, rL_ne, rR_ne, rI_nk, rL_nk, rR_nk, rI_eq, rL_eq, rR_eq, Option.toList_some, Option.toList_none, List.cons_append, List.nil_append, List.append_nil, zc_eq, zc_lt, zc_le, zc_ge, zc_gt]
      all_goals exact hq
    | succ d_z ih_z =>
      intro k_z hk u7 hq
      have ck := cl_z k_z (by omega) (by omega)
      have pk := ck.2.1
      have fd : cvF M c i_z (16 * x_z + 8) (16 * y_z + 8) k_z = cvP M c (gI M (c + 16) (6 * i_z + (k_z : Int))) (gI M (c + 9) (gI M (c + 16) (6 * i_z + (k_z : Int)))) (16 * x_z + 8) (16 * y_z + 8) := rfl
      have eq : alI (cvF M c i_z (16 * x_z + 8) (16 * y_z + 8)) k_z (d_z + 1) = if cvF M c i_z (16 * x_z + 8) (16 * y_z + 8) k_z = 0 then 0 else alI (cvF M c i_z (16 * x_z + 8) (16 * y_z + 8)) (k_z + 1) d_z := rfl
      rw [eq, fd] at hq
      have hcl : gI M (c + 3 + 13) (i_z * 6 + (k_z : Int)) = gI M (c + 16) (6 * i_z + (k_z : Int)) := by
        rw [show i_z * 6 + (k_z : Int) = 6 * i_z + (k_z : Int) from by omega]
      generalize hpp : gI M (c + 16) (6 * i_z + (k_z : Int)) = p_z at *
      have od := fun qq => X_isOdd (G := G) (Q := qq) (x_z := p_z) sP pk.1 (by have := pk.2.1; omega)
      have cov := fun (qq : Option AV → Mem → Prop) (hq : qq (some (a_i (cvP M c p_z (zB (gI M (c + 9) p_z ≠ 0)) (16 * x_z + 8) (16 * y_z + 8)))) M) => cov_C (G := G) (Q := qq) (T := T) (m := m) sh_z hE hL pk (by omega) (by omega) hq
      have ez : cvP M c p_z (zB (gI M (c + 9) p_z ≠ 0)) (16 * x_z + 8) (16 * y_z + 8) = cvP M c p_z (gI M (c + 9) p_z) (16 * x_z + 8) (16 * y_z + 8) := covI_zB _ _
      rw [ez] at cov
      generalize cvP M c p_z (gI M (c + 9) p_z) (16 * x_z + 8) (16 * y_z + 8) = v_z at *
      have go_z : Call G J_Pa_covers [a_r (c + 4), a_i p_z, a_i (zB (gI M (c + 9) p_z ≠ 0)), a_i (16 * x_z + 8), a_i (16 * y_z + 8)] M (fun r_z M2_z => At G 143 111 [a_r (c + 3), a_i i_z, a_i x_z, a_i y_z, a_i (16 * x_z + 8), a_i (16 * y_z + 8), a_i (k_z : Int), a_i p_z] r_z.toList M2_z Q) := by
        refine cov _ ?_
        by_cases cv : v_z = 0
        · rw [if_pos cv] at hq
          simp (disch := omega) only [B_143_111, cv, not_true_eq_false, inI, inL, isT, kInt, kByt, true_and, and_true, an_t, im_t, im_f, or_true, true_or, true_imp_iff, false_imp_iff, not_true_eq_false, not_false_eq_true, gK_uI, gK_uL, gK_uR, gK_uCI, gK_uCL, gN_uI, gN_uL, gN_uR, gN_uCI, gN_uCL, gR_uI, gR_uL, gR_uCI, gR_uCL, gI_uL, gI_uR, gI_uCL, gL_uI, gL_uR, gL_uCI, gz_uI, gz_uL, gz_uR, gz_uCI, gz_uCL, gs_uI, gs_uL, gs_uR, gs_uCI, gs_uCL, rI_at, rL_at, rR_at, rI_ne, rL_ne, rR_ne, rI_nk, rL_nk, rR_nk, rI_eq, rL_eq, rR_eq, Option.toList_some, Option.toList_none, List.cons_append, List.nil_append, List.append_nil, zc_eq, zc_lt, zc_le, zc_ge, zc_gt]
          all_goals exact hq
        · rw [if_neg cv] at hq
          have nx := ih_z (k_z + 1) (by omega) (a_i p_z) hq
          rw [show ((k_z + 1 : Nat) : Int) = (k_z : Int) + 1 from by omega] at nx
          simp (disch := omega) only [B_143_111, cv, B_143_116, inI, inL, isT, kInt, kByt, true_and, and_true, an_t, im_t, im_f, or_true, true_or, true_imp_iff, false_imp_iff, not_true_eq_false, not_false_eq_true, gK_uI, gK_uL, gK_uR, gK_uCI, gK_uCL, gN_uI, gN_uL, gN_uR, gN_uCI, gN_uCL, gR_uI, gR_uL, gR_uCI, gR_uCL, gI_uL, gI_uR, gI_uCL, gL_uI, gL_uR, gL_uCI, gz_uI, gz_uL, gz_uR, gz_uCI, gz_uCL, gs_uI, gs_uL, gs_uR, gs_uCI, gs_uCL, rI_at, rL_at, rR_at, rI_ne, rL_ne, rR_ne, rI_nk, rL_nk, rR_nk, rI_eq, rL_eq, rR_eq, Option.toList_some, Option.toList_none, List.cons_append, List.nil_append, List.append_nil, zc_eq, zc_lt, zc_le, zc_ge, zc_gt]
          all_goals exact nx
      simp (disch := omega) only [B_143_57, sI.u, hw, hcl, sP.u, od, B_143_104, inI, inL, isT, kInt, kByt, true_and, and_true, an_t, im_t, im_f, or_true, true_or, true_imp_iff, false_imp_iff, not_true_eq_false, not_false_eq_true, gK_uI, gK_uL, gK_uR, gK_uCI, gK_uCL, gN_uI, gN_uL, gN_uR, gN_uCI, gN_uCL, gR_uI, gR_uL, gR_uCI, gR_uCL, gI_uL, gI_uR, gI_uCL, gL_uI, gL_uR, gL_uCI, gz_uI, gz_uL, gz_uR, gz_uCI, gz_uCL, gs_uI, gs_uL, gs_uR, gs_uCI, gs_uCL, rI_at, rL_at, rR_at, rI_ne, rL_ne, rR_ne, rI_nk, rL_nk, rR_nk, rI_eq, rL_eq, rR_eq, Option.toList_some, Option.toList_none, List.cons_append, List.nil_append, List.append_nil, zc_eq, zc_lt, zc_le, zc_ge, zc_gt]
      all_goals exact go_z
  have go_z : Call G J_Pa_covers [a_r (c + 4), a_i (gI M (c + 10) i_z), a_i (gI M (c + 11) i_z), a_i (16 * x_z + 8), a_i (16 * y_z + 8)] M (fun r_z M2_z => At G 143 49 [a_r (c + 3), a_i i_z, a_i x_z, a_i y_z, a_i (16 * x_z + 8), a_i (16 * y_z + 8), a_u, a_u] r_z.toList M2_z Q) := by
    refine cov_C (T := T) (m := m) sh_z hE hL hp (by omega) (by omega) ?_
    generalize cvP M c (gI M (c + 10) i_z) (gI M (c + 11) i_z) (16 * x_z + 8) (16 * y_z + 8) = v_z at *
    by_cases cv : v_z = 0
    · rw [if_pos cv] at hQ
      simp (disch := omega) only [B_143_49, cv, not_true_eq_false, B_143_52, inI, inL, isT, kInt, kByt, true_and, and_true, an_t, im_t, im_f, or_true, true_or, true_imp_iff, false_imp_iff, not_true_eq_false, not_false_eq_true, gK_uI, gK_uL, gK_uR, gK_uCI, gK_uCL, gN_uI, gN_uL, gN_uR, gN_uCI, gN_uCL, gR_uI, gR_uL, gR_uCI, gR_uCL, gI_uL, gI_uR, gI_uCL, gL_uI, gL_uR, gL_uCI, gz_uI, gz_uL, gz_uR, gz_uCI, gz_uCL, gs_uI, gs_uL, gs_uR, gs_uCI, gs_uCL, rI_at, rL_at, rR_at, rI_ne, rL_ne, rR_ne, rI_nk, rL_nk, rR_nk, rI_eq, rL_eq, rR_eq, Option.toList_some, Option.toList_none, List.cons_append, List.nil_append, List.append_nil, zc_eq, zc_lt, zc_le, zc_ge, zc_gt]
      all_goals exact hQ
    · rw [if_neg cv] at hQ
      have l0 := loop_z w_z.toNat 0 (by omega) a_u hQ
      simp (disch := omega) only [B_143_49, cv, B_143_54, inI, inL, isT, kInt, kByt, true_and, and_true, an_t, im_t, im_f, or_true, true_or, true_imp_iff, false_imp_iff, not_true_eq_false, not_false_eq_true, gK_uI, gK_uL, gK_uR, gK_uCI, gK_uCL, gN_uI, gN_uL, gN_uR, gN_uCI, gN_uCL, gR_uI, gR_uL, gR_uCI, gR_uCL, gI_uL, gI_uR, gI_uCL, gL_uI, gL_uR, gL_uCI, gz_uI, gz_uL, gz_uR, gz_uCI, gz_uCL, gs_uI, gs_uL, gs_uR, gs_uCI, gs_uCL, rI_at, rL_at, rR_at, rI_ne, rL_ne, rR_ne, rI_nk, rL_nk, rR_nk, rI_eq, rL_eq, rR_eq, Option.toList_some, Option.toList_none, List.cons_append, List.nil_append, List.append_nil, zc_eq, zc_lt, zc_le, zc_ge, zc_gt]
      all_goals exact l0
  simp (disch := omega) only [E_It_coversCell, B_143_0, sI.u, sP.u, hs, B_143_23, inI, inL, isT, kInt, kByt, true_and, and_true, an_t, im_t, im_f, or_true, true_or, true_imp_iff, false_imp_iff, not_true_eq_false, not_false_eq_true, gK_uI, gK_uL, gK_uR, gK_uCI, gK_uCL, gN_uI, gN_uL, gN_uR, gN_uCI, gN_uCL, gR_uI, gR_uL, gR_uCI, gR_uCL, gI_uL, gI_uR, gI_uCL, gL_uI, gL_uR, gL_uCI, gz_uI, gz_uL, gz_uR, gz_uCI, gz_uCL, gs_uI, gs_uL, gs_uR, gs_uCI, gs_uCL, rI_at, rL_at, rR_at, rI_ne, rL_ne, rR_ne, rI_nk, rL_nk, rR_nk, rI_eq, rL_eq, rR_eq, Option.toList_some, Option.toList_none, List.cons_append, List.nil_append, List.append_nil, zc_eq, zc_lt, zc_le, zc_ge, zc_gt]
  all_goals exact go_z
/-- the model: an item covers a cell -/
theorem X_mCov {i_z x_z y_z : Int} (sm_z : ShM T m) (rs : RsR M T c m) (i0_z : 0 ≤ i_z) (i1_z : i_z < gI M (c + 3) 8) (x0_z : 0 ≤ x_z) (x1_z : x_z < 24) (y0 : 0 ≤ y_z) (y1 : y_z < 24) (hQ : Q (some (a_i (cvI M c i_z x_z y_z))) T) : Call G J_M_covers [a_r m, a_i i_z, a_i x_z, a_i y_z] T Q := by
  obtain ⟨-, ⟨-, t0_z, t1_z, it⟩, -, -, -, -, -, -, ⟨-, -, hE, hL, h33⟩, -⟩ := rs
  obtain ⟨-, -, e1_z, o1, hp, -, -, e5_z, n0_z, n1_z, cl_z⟩ := it i_z i0_z i1_z
  unfold cvI at hQ
  rw [e1_z] at hQ
  have hw : gI T (m + 16) (12 * i_z + 5) = gI M (c + 15) i_z := e5_z.symm
  generalize gI M (c + 15) i_z = w_z at *
  have no_z : ∀ k_z : Int, ∀ i_z : Int, Q (some (a_i 0)) T → At G 247 120 [a_r m, a_i i_z, a_i x_z, a_i y_z, a_i (12 * i_z), a_i (16 * x_z + 8), a_i (16 * y_z + 8), a_i 0, a_i k_z] [] T Q := by
    intro k_z i_z hq
    simp (disch := omega) only [B_247_120, inI, inL, isT, kInt, kByt, true_and, and_true, an_t, im_t, im_f, or_true, true_or, true_imp_iff, false_imp_iff, not_true_eq_false, not_false_eq_true, gK_uI, gK_uL, gK_uR, gK_uCI, gK_uCL, gN_uI, gN_uL, gN_uR, gN_uCI, gN_uCL, gR_uI, gR_uL, gR_uCI, gR_uCL, gI_uL, gI_uR, gI_uCL, gL_uI, gL_uR, gL_uCI, gz_uI, gz_uL, gz_uR, gz_uCI, gz_uCL, gs_uI, gs_uL, gs_uR, gs_uCI, gs_uCL, rI_at, rL_at, rR_at, rI_ne, rL_ne, rR_ne, rI_nk, rL_nk, rR_nk, rI_eq, rL_eq, rR_eq, Option.toList_some, Option.toList_none, List.cons_append, List.nil_append, List.append_nil, zc_eq, zc_lt, zc_le, zc_ge, zc_gt]
    all_goals exact hq
  have loop_z : ∀ d_z k_z : Nat, (k_z : Int) + d_z = w_z → Q (some (a_i (alI (cvF M c i_z (16 * x_z + 8) (16 * y_z + 8)) k_z d_z))) T → At G 247 55 [a_r m, a_i i_z, a_i x_z, a_i y_z, a_i (12 * i_z), a_i (16 * x_z + 8), a_i (16 * y_z + 8), a_i 1, a_i (k_z : Int)] [] T Q := by
    intro d_z
    induction d_z with
    | zero =>
      intro k_z hk hq
      have e0_z : alI (cvF M c i_z (16 * x_z + 8) (16 * y_z + 8)) k_z 0 = 1 := rfl
      rw [e0_z] at hq
      have cw_z : w_z ≤ (k_z : Int) := by omega
      simp (disch := omega) only [B_247_55, sm_z.u, hw, B_247_120, inI, inL, isT, kInt, kByt, true_and, and_true, an_t, im_t, im_f, or_true, true_or, true_imp_iff, false_imp_iff, not_true_eq_false, not_false_eq_true, gK_uI, gK_uL, gK_uR, gK_uCI, gK_uCL, gN_uI, gN_uL, gN_uR, gN_uCI, gN_uCL, gR_uI, gR_uL, gR_uCI, gR_uCL, gI_uL, gI_uR, gI_uCL, gL_uI, gL_uR, gL_uCI, gz_uI, gz_uL, gz_uR, gz_uCI, gz_uCL, gs_uI, gs_uL, gs_uR, gs_uCI, gs_uCL, rI_at, rL_at, rR_at, rI_ne, rL_ne, rR_ne, rI_nk, rL_nk, rR_nk, rI_eq, rL_eq, rR_eq, Option.toList_some, Option.toList_none, List.cons_append, List.nil_append, List.append_nil, zc_eq, zc_lt, zc_le, zc_ge, zc_gt]
      all_goals exact hq
    | succ d_z ih_z =>
      intro k_z hk hq
      have ck := cl_z k_z (by omega) (by omega)
      have pk := ck.2.1
      have e0_z := ck.1
      have fd : cvF M c i_z (16 * x_z + 8) (16 * y_z + 8) k_z = cvP M c (gI M (c + 16) (6 * i_z + (k_z : Int))) (gI M (c + 9) (gI M (c + 16) (6 * i_z + (k_z : Int)))) (16 * x_z + 8) (16 * y_z + 8) := rfl
      have eq : alI (cvF M c i_z (16 * x_z + 8) (16 * y_z + 8)) k_z (d_z + 1) = if cvF M c i_z (16 * x_z + 8) (16 * y_z + 8) k_z = 0 then 0 else alI (cvF M c i_z (16 * x_z + 8) (16 * y_z + 8)) (k_z + 1) d_z := rfl
      rw [eq, fd, clr_rule ck] at hq
      generalize hpp : gI M (c + 16) (6 * i_z + (k_z : Int)) = p_z at *
      generalize he : gI T (m + 16) (12 * i_z + 6 + (k_z : Int)) = e_z at *
      have d1_z : Int.tdiv e_z 2 = e_z / 2 := Int.tdiv_eq_ediv_of_nonneg e0_z
      have d2_z : Int.tmod e_z 2 = e_z % 2 := Int.tmod_eq_emod_of_nonneg e0_z
      have q1_z := pk.2.2.2.1
      have q0 := pk.2.2.1
      have go_z : Call G J_M_isCovered [a_r m, a_i (e_z / 2), a_i (e_z % 2), a_i (16 * x_z + 8), a_i (16 * y_z + 8)] T (fun r_z M2_z => At G 247 112 [a_r m, a_i i_z, a_i x_z, a_i y_z, a_i (12 * i_z), a_i (16 * x_z + 8), a_i (16 * y_z + 8), a_i 1, a_i (k_z : Int)] r_z.toList M2_z Q) := by
        refine cov_M (M := M) (c := c) sm_z h33 pk (by omega) (by omega) ?_
        have bt_z := cvP_bit M c p_z (e_z % 2) (16 * x_z + 8) (16 * y_z + 8)
        generalize cvP M c p_z (e_z % 2) (16 * x_z + 8) (16 * y_z + 8) = v_z at *
        by_cases cv : v_z = 0
        · rw [if_pos cv] at hq
          have nn := no_z ((k_z : Int) + 1) i_z hq
          subst cv
          have w5 : gI T (m + 16) (12 * i_z + 5) = w_z := hw
          by_cases cw_z : w_z ≤ (k_z : Int) + 1
          · simp (disch := omega) only [B_247_112, B_247_55, sm_z.u, w5, cw_z, inI, inL, isT, kInt, kByt, true_and, and_true, an_t, im_t, im_f, or_true, true_or, true_imp_iff, false_imp_iff, not_true_eq_false, not_false_eq_true, gK_uI, gK_uL, gK_uR, gK_uCI, gK_uCL, gN_uI, gN_uL, gN_uR, gN_uCI, gN_uCL, gR_uI, gR_uL, gR_uCI, gR_uCL, gI_uL, gI_uR, gI_uCL, gL_uI, gL_uR, gL_uCI, gz_uI, gz_uL, gz_uR, gz_uCI, gz_uCL, gs_uI, gs_uL, gs_uR, gs_uCI, gs_uCL, rI_at, rL_at, rR_at, rI_ne, rL_ne, rR_ne, rI_nk, rL_nk, rR_nk, rI_eq, rL_eq, rR_eq, Option.toList_some, Option.toList_none, List.cons_append, List.nil_append, List.append_nil, zc_eq, zc_lt, zc_le, zc_ge, zc_gt]
            all_goals exact nn
          · simp (disch := omega) only [B_247_112, B_247_55, sm_z.u, w5, cw_z, inI, inL, isT, kInt, kByt, true_and, and_true, an_t, im_t, im_f, or_true, true_or, true_imp_iff, false_imp_iff, not_true_eq_false, not_false_eq_true, gK_uI, gK_uL, gK_uR, gK_uCI, gK_uCL, gN_uI, gN_uL, gN_uR, gN_uCI, gN_uCL, gR_uI, gR_uL, gR_uCI, gR_uCL, gI_uL, gI_uR, gI_uCL, gL_uI, gL_uR, gL_uCI, gz_uI, gz_uL, gz_uR, gz_uCI, gz_uCL, gs_uI, gs_uL, gs_uR, gs_uCI, gs_uCL, rI_at, rL_at, rR_at, rI_ne, rL_ne, rR_ne, rI_nk, rL_nk, rR_nk, rI_eq, rL_eq, rR_eq, Option.toList_some, Option.toList_none, List.cons_append, List.nil_append, List.append_nil, zc_eq, zc_lt, zc_le, zc_ge, zc_gt]
            all_goals exact nn
        · rw [if_neg cv] at hq
          have v1_z : v_z = 1 := by omega
          subst v1_z
          have nx := ih_z (k_z + 1) (by omega) hq
          rw [show ((k_z + 1 : Nat) : Int) = (k_z : Int) + 1 from by omega] at nx
          simp (disch := omega) only [B_247_112, inI, inL, isT, kInt, kByt, true_and, and_true, an_t, im_t, im_f, or_true, true_or, true_imp_iff, false_imp_iff, not_true_eq_false, not_false_eq_true, gK_uI, gK_uL, gK_uR, gK_uCI, gK_uCL, gN_uI, gN_uL, gN_uR, gN_uCI, gN_uCL, gR_uI, gR_uL, gR_uCI, gR_uCL, gI_uL, gI_uR, gI_uCL, gL_uI, gL_uR, gL_uCI, gz_uI, gz_uL, gz_uR, gz_uCI, gz_uCL, gs_uI, gs_uL, gs_uR, gs_uCI, gs_uCL, rI_at, rL_at, rR_at, rI_ne, rL_ne, rR_ne, rI_nk, rL_nk, rR_nk, rI_eq, rL_eq, rR_eq, Option.toList_some, Option.toList_none, List.cons_append, List.nil_append, List.append_nil, zc_eq, zc_lt, zc_le, zc_ge, zc_gt]
          all_goals exact nx
      simp (disch := omega) only [B_247_55, sm_z.u, hw, he, d1_z, d2_z, inI, inL, isT, kInt, kByt, true_and, and_true, an_t, im_t, im_f, or_true, true_or, true_imp_iff, false_imp_iff, not_true_eq_false, not_false_eq_true, gK_uI, gK_uL, gK_uR, gK_uCI, gK_uCL, gN_uI, gN_uL, gN_uR, gN_uCI, gN_uCL, gR_uI, gR_uL, gR_uCI, gR_uCL, gI_uL, gI_uR, gI_uCL, gL_uI, gL_uR, gL_uCI, gz_uI, gz_uL, gz_uR, gz_uCI, gz_uCL, gs_uI, gs_uL, gs_uR, gs_uCI, gs_uCL, rI_at, rL_at, rR_at, rI_ne, rL_ne, rR_ne, rI_nk, rL_nk, rR_nk, rI_eq, rL_eq, rR_eq, Option.toList_some, Option.toList_none, List.cons_append, List.nil_append, List.append_nil, zc_eq, zc_lt, zc_le, zc_ge, zc_gt]
      all_goals exact go_z
  have go_z : Call G J_M_isCovered [a_r m, a_i (gI T (m + 16) (12 * i_z + 2)), a_i (gI T (m + 16) (12 * i_z + 1)), a_i (16 * x_z + 8), a_i (16 * y_z + 8)] T (fun r_z M2_z => At G 247 50 [a_r m, a_i i_z, a_i x_z, a_i y_z, a_i (12 * i_z), a_i (16 * x_z + 8), a_i (16 * y_z + 8), a_u, a_u] r_z.toList M2_z Q) := by
    refine cov_M (M := M) (c := c) sm_z h33 hp (by omega) (by omega) ?_
    have bt_z := cvP_bit M c (gI M (c + 10) i_z) (gI T (m + 16) (12 * i_z + 1)) (16 * x_z + 8) (16 * y_z + 8)
    generalize cvP M c (gI M (c + 10) i_z) (gI T (m + 16) (12 * i_z + 1)) (16 * x_z + 8) (16 * y_z + 8) = v_z at *
    by_cases cv : v_z = 0
    · rw [if_pos cv] at hQ
      have nn := no_z 0 i_z hQ
      subst cv
      by_cases cw_z : w_z ≤ 0
      · simp (disch := omega) only [B_247_50, B_247_55, sm_z.u, hw, cw_z, inI, inL, isT, kInt, kByt, true_and, and_true, an_t, im_t, im_f, or_true, true_or, true_imp_iff, false_imp_iff, not_true_eq_false, not_false_eq_true, gK_uI, gK_uL, gK_uR, gK_uCI, gK_uCL, gN_uI, gN_uL, gN_uR, gN_uCI, gN_uCL, gR_uI, gR_uL, gR_uCI, gR_uCL, gI_uL, gI_uR, gI_uCL, gL_uI, gL_uR, gL_uCI, gz_uI, gz_uL, gz_uR, gz_uCI, gz_uCL, gs_uI, gs_uL, gs_uR, gs_uCI, gs_uCL, rI_at, rL_at, rR_at, rI_ne, rL_ne, rR_ne, rI_nk, rL_nk, rR_nk, rI_eq, rL_eq, rR_eq, Option.toList_some, Option.toList_none, List.cons_append, List.nil_append, List.append_nil, zc_eq, zc_lt, zc_le, zc_ge, zc_gt]
        all_goals exact nn
      · simp (disch := omega) only [B_247_50, B_247_55, sm_z.u, hw, cw_z, inI, inL, isT, kInt, kByt, true_and, and_true, an_t, im_t, im_f, or_true, true_or, true_imp_iff, false_imp_iff, not_true_eq_false, not_false_eq_true, gK_uI, gK_uL, gK_uR, gK_uCI, gK_uCL, gN_uI, gN_uL, gN_uR, gN_uCI, gN_uCL, gR_uI, gR_uL, gR_uCI, gR_uCL, gI_uL, gI_uR, gI_uCL, gL_uI, gL_uR, gL_uCI, gz_uI, gz_uL, gz_uR, gz_uCI, gz_uCL, gs_uI, gs_uL, gs_uR, gs_uCI, gs_uCL, rI_at, rL_at, rR_at, rI_ne, rL_ne, rR_ne, rI_nk, rL_nk, rR_nk, rI_eq, rL_eq, rR_eq, Option.toList_some, Option.toList_none, List.cons_append, List.nil_append, List.append_nil, zc_eq, zc_lt, zc_le, zc_ge, zc_gt]
        all_goals exact nn
    · rw [if_neg cv] at hQ
      have v1_z : v_z = 1 := by omega
      subst v1_z
      have l0 := loop_z w_z.toNat 0 (by omega) hQ
      simp (disch := omega) only [B_247_50, inI, inL, isT, kInt, kByt, true_and, and_true, an_t, im_t, im_f, or_true, true_or, true_imp_iff, false_imp_iff, not_true_eq_false, not_false_eq_true, gK_uI, gK_uL, gK_uR, gK_uCI, gK_uCL, gN_uI, gN_uL, gN_uR, gN_uCI, gN_uCL, gR_uI, gR_uL, gR_uCI, gR_uCL, gI_uL, gI_uR, gI_uCL, gL_uI, gL_uR, gL_uCI, gz_uI, gz_uL, gz_uR, gz_uCI, gz_uCL, gs_uI, gs_uL, gs_uR, gs_uCI, gs_uCL, rI_at, rL_at, rR_at, rI_ne, rL_ne, rR_ne, rI_nk, rL_nk, rR_nk, rI_eq, rL_eq, rR_eq, Option.toList_some, Option.toList_none, List.cons_append, List.nil_append, List.append_nil, zc_eq, zc_lt, zc_le, zc_ge, zc_gt]
      all_goals exact l0
  simp (disch := omega) only [E_M_covers, B_247_0, sm_z.u, inI, inL, isT, kInt, kByt, true_and, and_true, an_t, im_t, im_f, or_true, true_or, true_imp_iff, false_imp_iff, not_true_eq_false, not_false_eq_true, gK_uI, gK_uL, gK_uR, gK_uCI, gK_uCL, gN_uI, gN_uL, gN_uR, gN_uCI, gN_uCL, gR_uI, gR_uL, gR_uCI, gR_uCL, gI_uL, gI_uR, gI_uCL, gL_uI, gL_uR, gL_uCI, gz_uI, gz_uL, gz_uR, gz_uCI, gz_uCL, gs_uI, gs_uL, gs_uR, gs_uCI, gs_uCL, rI_at, rL_at, rR_at, rI_ne, rL_ne, rR_ne, rI_nk, rL_nk, rR_nk, rI_eq, rL_eq, rR_eq, Option.toList_some, Option.toList_none, List.cons_append, List.nil_append, List.append_nil, zc_eq, zc_lt, zc_le, zc_ge, zc_gt]
  all_goals exact go_z
end DD
