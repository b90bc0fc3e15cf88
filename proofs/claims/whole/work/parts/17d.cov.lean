/-! THE PURE PART, part 17: whether a path covers a point, both sides. Own work. -/
/-- a rule (0: not zero, otherwise: odd), of a sum -/
def covI (o s_z : Int) : Int := if o = 0 then (if s_z = 0 then 0 else 1) else s_z % 2
theorem covI_bit (o s_z : Int) : covI o s_z = 0 ∨ covI o s_z = 1 := by
  unfold covI
  split
  · split <;> omega
  · omega
/-- of a small sum the rule doesn't matter -/
theorem covI_small {o o' s_z : Int} (h_z : -1 ≤ s_z ∧ s_z ≤ 1) : covI o s_z = covI o' s_z := by
  unfold covI
  split <;> split <;> (try split) <;> omega
/-- the points of a path -/
def Pol (X_z Y F_z : Int → Int) (n_z : Int) : Prop := 0 ≤ n_z ∧ n_z ≤ 24 ∧ ∀ i_z, 0 ≤ i_z → i_z < n_z → (X_z i_z).natAbs ≤ 16000 ∧ (Y i_z).natAbs ≤ 16000 ∧ (F_z i_z = 0 ∨ F_z i_z = 1)
theorem tm2 (s_z : Int) : Int.tmod s_z 2 = 0 ↔ s_z % 2 = 0 := by
  rw [← Int.dvd_iff_tmod_eq_zero, ← Int.dvd_iff_emod_eq_zero]
section DC
variable {G : Env0} {Q : Option AV → Mem → Prop} {M T : Mem} {r m : Nat}
theorem X_coversC {p_z o px py a_z n_z K_z : Int} {X_z Y F_z Bg : Int → Int} (h_z : ShPa M r) (p0_z : 0 ≤ p_z) (p1_z : p_z < gI M r 5) (p2_z : gI M r 5 ≤ 200) (ha_z : gI M (r + 4) p_z = a_z) (hb_z : gI M (r + 4) (p_z + 1) = a_z + n_z) (a0_z : 0 ≤ a_z) (an : a_z + n_z ≤ 800) (hP : Pol X_z Y F_z n_z) (hX : ∀ i_z, 0 ≤ i_z → i_z < n_z → gI M (r + 1) (a_z + i_z) = X_z i_z) (hY : ∀ i_z, 0 ≤ i_z → i_z < n_z → gI M (r + 2) (a_z + i_z) = Y i_z) (hF : ∀ i_z, 0 ≤ i_z → i_z < n_z → gI M (r + 3) (a_z + i_z) = F_z i_z) (hB_z : PB F_z n_z Bg K_z) (bx : px.natAbs ≤ 1000) (bd : py.natAbs ≤ 1000) (hQ : Q (some (a_i (covI o (csm X_z Y (nxP F_z n_z) px py n_z.toNat)))) M) : Call G J_Pa_covers [a_r r, a_i p_z, a_i o, a_i px, a_i py] M Q := by
  obtain ⟨n0_z, n24_z, hpt⟩ := hP
  have st_z := fun qq => X_startOf (G := G) (Q := qq) (x_z := p_z) h_z p0_z (by omega)
  have en := fun qq => X_endOf (G := G) (Q := qq) (x_z := p_z) h_z p0_z (by omega) p1_z
  rw [ha_z] at st_z
  rw [hb_z] at en
  have loop_z : ∀ d_z k_z : Nat, (k_z : Int) + d_z = n_z → ∀ f_z : Int, (k_z = 0 → f_z = a_z) → (∀ j_z, k_z = j_z + 1 → f_z = a_z + fsP F_z j_z) → At G 145 21 [a_r r, a_i p_z, a_i o, a_i px, a_i py, a_i (csm X_z Y (nxP F_z n_z) px py k_z), a_i (a_z + n_z), a_i f_z, a_i (a_z + (k_z : Int))] [] M Q := by
    intro d_z
    induction d_z with
    | zero =>
      intro k_z hk f_z _ _
      have e_z : n_z.toNat = k_z := by omega
      rw [e_z] at hQ
      generalize csm X_z Y (nxP F_z n_z) px py k_z = s_z at *
      unfold covI at hQ
      rw [B_145_21]
      refine ⟨fun _ => ?_, fun q_z => absurd (show a_z + n_z ≤ a_z + (k_z : Int) from by omega) q_z⟩
      by_cases co : o = 0
      · rw [if_pos co] at hQ
        by_cases cs : s_z = 0
        · rw [if_pos cs] at hQ
          simp (disch := omega) only [B_145_72, co, B_145_91, cs, B_145_100, B_145_101, inI, inL, isT, kInt, kByt, true_and, and_true, an_t, im_t, im_f, or_true, true_or, true_imp_iff, false_imp_iff, not_true_eq_false, not_false_eq_true, gK_uI, gK_uL, gK_uR, gK_uCI, gK_uCL, gN_uI, gN_uL, gN_uR, gN_uCI, gN_uCL, gR_uI, gR_uL, gR_uCI, gR_uCL, gI_uL, gI_uR, gI_uCL, gL_uI, gL_uR, gL_uCI, gz_uI, gz_uL, gz_uR, gz_uCI, gz_uCL, gs_uI, gs_uL, gs_uR, gs_uCI, gs_uCL, rI_at, rL_at, rR_at, rI_ne, rL_ne, rR_ne, rI_nk, rL_nk, rR_nk, rI_eq, rL_eq, rR_eq, Option.toList_some, Option.toList_none, List.cons_append, List.nil_append, List.append_nil, zc_eq, zc_lt, zc_le, zc_ge, zc_gt]
          all_goals exact hQ
        · rw [if_neg cs] at hQ
          simp (disch := omega) only [B_145_72, co, B_145_91, cs, B_145_101, inI, inL, isT, kInt, kByt, true_and, and_true, an_t, im_t, im_f, or_true, true_or, true_imp_iff, false_imp_iff, not_true_eq_false, not_false_eq_true, gK_uI, gK_uL, gK_uR, gK_uCI, gK_uCL, gN_uI, gN_uL, gN_uR, gN_uCI, gN_uCL, gR_uI, gR_uL, gR_uCI, gR_uCL, gI_uL, gI_uR, gI_uCL, gL_uI, gL_uR, gL_uCI, gz_uI, gz_uL, gz_uR, gz_uCI, gz_uCL, gs_uI, gs_uL, gs_uR, gs_uCI, gs_uCL, rI_at, rL_at, rR_at, rI_ne, rL_ne, rR_ne, rI_nk, rL_nk, rR_nk, rI_eq, rL_eq, rR_eq, Option.toList_some, Option.toList_none, List.cons_append, List.nil_append, List.append_nil, zc_eq, zc_lt, zc_le, zc_ge, zc_gt]
          all_goals exact hQ
      · rw [if_neg co] at hQ
        by_cases cs : s_z % 2 = 0
        · rw [cs] at hQ
          simp (disch := omega) only [B_145_72, co, and1, cs, B_145_87, B_145_101, inI, inL, isT, kInt, kByt, true_and, and_true, an_t, im_t, im_f, or_true, true_or, true_imp_iff, false_imp_iff, not_true_eq_false, not_false_eq_true, gK_uI, gK_uL, gK_uR, gK_uCI, gK_uCL, gN_uI, gN_uL, gN_uR, gN_uCI, gN_uCL, gR_uI, gR_uL, gR_uCI, gR_uCL, gI_uL, gI_uR, gI_uCL, gL_uI, gL_uR, gL_uCI, gz_uI, gz_uL, gz_uR, gz_uCI, gz_uCL, gs_uI, gs_uL, gs_uR, gs_uCI, gs_uCL, rI_at, rL_at, rR_at, rI_ne, rL_ne, rR_ne, rI_nk, rL_nk, rR_nk, rI_eq, rL_eq, rR_eq, Option.toList_some, Option.toList_none, List.cons_append, List.nil_append, List.append_nil, zc_eq, zc_lt, zc_le, zc_ge, zc_gt]
          all_goals exact hQ
        · rw [show s_z % 2 = 1 from by omega] at hQ
          simp (disch := omega) only [B_145_72, co, and1, cs, B_145_101, inI, inL, isT, kInt, kByt, true_and, and_true, an_t, im_t, im_f, or_true, true_or, true_imp_iff, false_imp_iff, not_true_eq_false, not_false_eq_true, gK_uI, gK_uL, gK_uR, gK_uCI, gK_uCL, gN_uI, gN_uL, gN_uR, gN_uCI, gN_uCL, gR_uI, gR_uL, gR_uCI, gR_uCL, gI_uL, gI_uR, gI_uCL, gL_uI, gL_uR, gL_uCI, gz_uI, gz_uL, gz_uR, gz_uCI, gz_uCL, gs_uI, gs_uL, gs_uR, gs_uCI, gs_uCL, rI_at, rL_at, rR_at, rI_ne, rL_ne, rR_ne, rI_nk, rL_nk, rR_nk, rI_eq, rL_eq, rR_eq, Option.toList_some, Option.toList_none, List.cons_append, List.nil_append, List.append_nil, zc_eq, zc_lt, zc_le, zc_ge, zc_gt]
          all_goals exact hQ
    | succ d_z ih_z =>
      intro k_z hk f_z hf0 hf1
      have kn_z : (k_z : Int) < n_z := by omega
      obtain ⟨q1_z, q2_z, q3_z⟩ := hpt k_z (by omega) kn_z
      have nb := nxP_bd (F_z := F_z) kn_z
      obtain ⟨w1_z, w2_z, -⟩ := hpt (nxP F_z n_z k_z) nb.1 nb.2
      have fk := hF k_z (by omega) kn_z
      have cb := csm_bd X_z Y (nxP F_z n_z) px py k_z
      have nx := fun qq => X_nextC (G := G) (Q := qq) (i_z := a_z + (k_z : Int)) (f_z := a_z + fsP F_z k_z) (e_z := a_z + n_z) h_z rfl rfl rfl a0_z an kn_z hF
      have cr := fun qq => X_crossC (G := G) (Q := qq) (px := px) (py := py) h_z (show 0 ≤ a_z + (k_z : Int) from by omega) (by omega) (show 0 ≤ a_z + nxP F_z n_z k_z from by omega) (by omega) (hX k_z (by omega) kn_z) (hY k_z (by omega) kn_z) (hX _ nb.1 nb.2) (hY _ nb.1 nb.2) q1_z q2_z w1_z w2_z bx bd
      have nd := crs_bd (X_z k_z) (Y k_z) (X_z (nxP F_z n_z k_z)) (Y (nxP F_z n_z k_z)) px py
      have go_z := ih_z (k_z + 1) (by omega) (a_z + fsP F_z k_z) (fun q_z => by omega) (fun j_z hj => by
        have : j_z = k_z := by omega
        rw [this])
      rw [show csm X_z Y (nxP F_z n_z) px py (k_z + 1) = csm X_z Y (nxP F_z n_z) px py k_z + crs (X_z k_z) (Y k_z) (X_z (nxP F_z n_z k_z)) (Y (nxP F_z n_z k_z)) px py from rfl, show a_z + ((k_z + 1 : Nat) : Int) = a_z + (k_z : Int) + 1 from by omega] at go_z
      generalize csm X_z Y (nxP F_z n_z) px py k_z = s_z at *
      generalize crs (X_z k_z) (Y k_z) (X_z (nxP F_z n_z k_z)) (Y (nxP F_z n_z k_z)) px py = v_z at *
      have at42 : At G 145 42 [a_r r, a_i p_z, a_i o, a_i px, a_i py, a_i s_z, a_i (a_z + n_z), a_i (a_z + fsP F_z k_z), a_i (a_z + (k_z : Int))] [] M Q := by
        simp (disch := omega) only [B_145_42, h_z.u, nx, B_145_57, cr, B_145_63, inI, inL, isT, kInt, kByt, true_and, and_true, an_t, im_t, im_f, or_true, true_or, true_imp_iff, false_imp_iff, not_true_eq_false, not_false_eq_true, gK_uI, gK_uL, gK_uR, gK_uCI, gK_uCL, gN_uI, gN_uL, gN_uR, gN_uCI, gN_uCL, gR_uI, gR_uL, gR_uCI, gR_uCL, gI_uL, gI_uR, gI_uCL, gL_uI, gL_uR, gL_uCI, gz_uI, gz_uL, gz_uR, gz_uCI, gz_uCL, gs_uI, gs_uL, gs_uR, gs_uCI, gs_uCL, rI_at, rL_at, rR_at, rI_ne, rL_ne, rR_ne, rI_nk, rL_nk, rR_nk, rI_eq, rL_eq, rR_eq, Option.toList_some, Option.toList_none, List.cons_append, List.nil_append, List.append_nil, zc_eq, zc_lt, zc_le, zc_ge, zc_gt]
        all_goals exact go_z
      have fs : (F_z k_z = 0 → f_z = a_z + fsP F_z k_z) ∧ (¬ F_z k_z = 0 → a_z + (k_z : Int) = a_z + fsP F_z k_z) := by
        cases k_z with
        | zero =>
          have b0 := hB_z.2.2.1 (by omega)
          have b1 := (hB_z.2.2.2.1 0 (by decide) (by omega)).2.2
          rw [b0.2] at b1
          exact ⟨fun q_z => by
            have : F_z ((0 : Nat) : Int) = F_z 0 := rfl
            omega, fun _ => rfl⟩
        | succ j_z =>
          have hj := hf1 j_z rfl
          have c1_z : (((j_z + 1 : Nat)) : Int) = (j_z : Int) + 1 := by omega
          rw [c1_z]
          have eqn : fsP F_z (j_z + 1) = if F_z ((j_z : Int) + 1) = 0 then fsP F_z j_z else (j_z : Int) + 1 := rfl
          exact ⟨fun q_z => by rw [hj, eqn, if_pos q_z], fun q_z => by rw [eqn, if_neg q_z]⟩
      by_cases cf_z : F_z k_z = 0
      · have ff_z := fs.1 cf_z
        rw [ff_z]
        simp (disch := omega) only [B_145_21, h_z.u, fk, cf_z, inI, inL, isT, kInt, kByt, true_and, and_true, an_t, im_t, im_f, or_true, true_or, true_imp_iff, false_imp_iff, not_true_eq_false, not_false_eq_true, gK_uI, gK_uL, gK_uR, gK_uCI, gK_uCL, gN_uI, gN_uL, gN_uR, gN_uCI, gN_uCL, gR_uI, gR_uL, gR_uCI, gR_uCL, gI_uL, gI_uR, gI_uCL, gL_uI, gL_uR, gL_uCI, gz_uI, gz_uL, gz_uR, gz_uCI, gz_uCL, gs_uI, gs_uL, gs_uR, gs_uCI, gs_uCL, rI_at, rL_at, rR_at, rI_ne, rL_ne, rR_ne, rI_nk, rL_nk, rR_nk, rI_eq, rL_eq, rR_eq, Option.toList_some, Option.toList_none, List.cons_append, List.nil_append, List.append_nil, zc_eq, zc_lt, zc_le, zc_ge, zc_gt]
        all_goals exact at42
      · have ff_z := fs.2 cf_z
        rw [← ff_z] at at42
        simp (disch := omega) only [B_145_21, h_z.u, fk, cf_z, inI, inL, isT, kInt, kByt, true_and, and_true, an_t, im_t, im_f, or_true, true_or, true_imp_iff, false_imp_iff, not_true_eq_false, not_false_eq_true, gK_uI, gK_uL, gK_uR, gK_uCI, gK_uCL, gN_uI, gN_uL, gN_uR, gN_uCI, gN_uCL, gR_uI, gR_uL, gR_uCI, gR_uCL, gI_uL, gI_uR, gI_uCL, gL_uI, gL_uR, gL_uCI, gz_uI, gz_uL, gz_uR, gz_uCI, gz_uCL, gs_uI, gs_uL, gs_uR, gs_uCI, gs_uCL, rI_at, rL_at, rR_at, rI_ne, rL_ne, rR_ne, rI_nk, rL_nk, rR_nk, rI_eq, rL_eq, rR_eq, Option.toList_some, Option.toList_none, List.cons_append, List.nil_append, List.append_nil, zc_eq, zc_lt, zc_le, zc_ge, zc_gt]
        all_goals exact at42
  have l0 := loop_z n_z.toNat 0 (by omega) a_z (fun _ => rfl) (fun j_z hj => by omega)
  rw [show csm X_z Y (nxP F_z n_z) px py 0 = 0 from rfl, show a_z + ((0 : Nat) : Int) = a_z from by omega] at l0
  simp (disch := omega) only [E_Pa_covers, B_145_0, h_z.u, en, B_145_8, st_z, B_145_15, inI, inL, isT, kInt, kByt, true_and, and_true, an_t, im_t, im_f, or_true, true_or, true_imp_iff, false_imp_iff, not_true_eq_false, not_false_eq_true, gK_uI, gK_uL, gK_uR, gK_uCI, gK_uCL, gN_uI, gN_uL, gN_uR, gN_uCI, gN_uCL, gR_uI, gR_uL, gR_uCI, gR_uCL, gI_uL, gI_uR, gI_uCL, gL_uI, gL_uR, gL_uCI, gz_uI, gz_uL, gz_uR, gz_uCI, gz_uCL, gs_uI, gs_uL, gs_uR, gs_uCI, gs_uCL, rI_at, rL_at, rR_at, rI_ne, rL_ne, rR_ne, rI_nk, rL_nk, rR_nk, rI_eq, rL_eq, rR_eq, Option.toList_some, Option.toList_none, List.cons_append, List.nil_append, List.append_nil, zc_eq, zc_lt, zc_le, zc_ge, zc_gt]
  all_goals exact l0
theorem X_isCov {q_z o px py n_z K_z : Int} {X_z Y F_z : Int → Int} (h_z : ShM T m) (q0 : 0 ≤ q_z) (q1_z : q_z < 202) (hn : gI T (m + 14) q_z = n_z) (hK_z : gI T (m + 15) q_z = K_z) (hP : Pol X_z Y F_z n_z) (hX : ∀ i_z, 0 ≤ i_z → i_z < n_z → gI T (m + 11) (24 * q_z + i_z) = X_z i_z) (hY : ∀ i_z, 0 ≤ i_z → i_z < n_z → gI T (m + 12) (24 * q_z + i_z) = Y i_z) (hB_z : PB F_z n_z (fun j_z => gI T (m + 13) (24 * q_z + j_z)) K_z) (bx : px.natAbs ≤ 1000) (bd : py.natAbs ≤ 1000) (hQ : Q (some (a_i (covI o (csm X_z Y (nxP F_z n_z) px py n_z.toNat)))) T) : Call G J_M_isCovered [a_r m, a_i q_z, a_i o, a_i px, a_i py] T Q := by
  obtain ⟨n0_z, n24_z, hpt⟩ := hP
  have kn_z := PB.le hB_z n0_z
  have hB2 := hB_z
  obtain ⟨k0_z, b1, b2, b3, b4, b5⟩ := hB2
  obtain ⟨Bg, eBg⟩ : ∃ Bg : Int → Int, Bg = fun j_z => gI T (m + 13) (24 * q_z + j_z) := ⟨_, rfl⟩
  have hBg : ∀ j_z, gI T (m + 13) (24 * q_z + j_z) = Bg j_z := fun j_z => by rw [eBg]
  rw [← eBg] at hB_z
  simp only [hBg] at b2 b3 b4 b5
  -- the edges of a part
  have inner_z : ∀ j_z : Int, 0 ≤ j_z → j_z < K_z → ∀ e_z : Int, (j_z + 1 < K_z → e_z = Bg (j_z + 1)) → (¬ j_z + 1 < K_z → e_z = n_z) → ∀ d_z k_z : Nat, (k_z : Int) + d_z = e_z → Bg j_z ≤ k_z →
      At G 248 128 [a_r m, a_i q_z, a_i o, a_i px, a_i py, a_i (csm X_z Y (nxP F_z n_z) px py e_z.toNat), a_i j_z, a_i (Bg j_z), a_i e_z, a_i e_z] [] T Q →
      At G 248 73 [a_r m, a_i q_z, a_i o, a_i px, a_i py, a_i (csm X_z Y (nxP F_z n_z) px py k_z), a_i j_z, a_i (Bg j_z), a_i e_z, a_i (k_z : Int)] [] T Q := by
    intro j_z j0 j1 e_z e1_z e2_z d_z
    have en : e_z ≤ n_z ∧ Bg j_z < e_z := by
      by_cases c_z : j_z + 1 < K_z
      · have := b3 (j_z + 1) (by omega) c_z
        have := b4 j_z j0 c_z
        have := e1_z c_z
        omega
      · have := b3 j_z j0 j1
        have := e2_z c_z
        omega
    induction d_z with
    | zero =>
      intro k_z hk _ go_z
      have ek : e_z.toNat = k_z := by omega
      rw [ek, show e_z = (k_z : Int) from by omega] at go_z
      rw [show e_z = (k_z : Int) from by omega, B_248_73]
      exact ⟨fun _ => go_z, fun w_z => absurd (Int.le_refl _) w_z⟩
    | succ d_z ih_z =>
      intro k_z hk bk go_z
      have kn_z : (k_z : Int) < n_z := by omega
      have fe := fsP_eq hB_z (fun i_z i0_z i1_z => (hpt i_z i0_z i1_z).2.2) j0 j1 k_z bk (fun w_z => by have := e1_z w_z; omega) kn_z
      obtain ⟨q1', q2', q3'⟩ := hpt k_z (by omega) kn_z
      have nb := nxP_bd (F_z := F_z) kn_z
      obtain ⟨w1_z, w2_z, -⟩ := hpt (nxP F_z n_z k_z) nb.1 nb.2
      have cb := csm_bd X_z Y (nxP F_z n_z) px py k_z
      have cr := fun qq => X_crossM (G := G) (Q := qq) (px := px) (py := py) h_z (show 0 ≤ 24 * q_z + (k_z : Int) from by omega) (by omega) (show 0 ≤ 24 * q_z + nxP F_z n_z k_z from by omega) (by omega) (hX k_z (by omega) kn_z) (hY k_z (by omega) kn_z) (hX _ nb.1 nb.2) (hY _ nb.1 nb.2) q1' q2' w1_z w2_z bx bd
      have nd := crs_bd (X_z k_z) (Y k_z) (X_z (nxP F_z n_z k_z)) (Y (nxP F_z n_z k_z)) px py
      have go2 := ih_z (k_z + 1) (by omega) (by omega) go_z
      rw [show csm X_z Y (nxP F_z n_z) px py (k_z + 1) = csm X_z Y (nxP F_z n_z) px py k_z + crs (X_z k_z) (Y k_z) (X_z (nxP F_z n_z k_z)) (Y (nxP F_z n_z k_z)) px py from rfl, show ((k_z + 1 : Nat) : Int) = (k_z : Int) + 1 from by omega] at go2
      have nxe : ((k_z : Int) + 1 < e_z → nxP F_z n_z k_z = (k_z : Int) + 1) ∧ (¬ (k_z : Int) + 1 < e_z → nxP F_z n_z k_z = Bg j_z) := by
        constructor
        · intro w_z
          have fz : F_z ((k_z : Int) + 1) = 0 := by
            rcases (hpt ((k_z : Int) + 1) (by omega) (by omega)).2.2 with z_z | z_z
            · exact z_z
            · obtain ⟨i_z, i0_z, i1_z, i2_z⟩ := b5 ((k_z : Int) + 1) (by omega) (by omega) z_z
              by_cases c_z : i_z ≤ j_z
              · by_cases c2_z : i_z = j_z
                · rw [c2_z] at i2_z
                  omega
                · have := PB.mono2 hB_z i0_z (show i_z < j_z from by omega) j1
                  omega
              · by_cases c2_z : i_z = j_z + 1
                · have := e1_z (by omega)
                  rw [c2_z] at i2_z
                  omega
                · have := PB.mono2 hB_z (show 0 ≤ j_z + 1 from by omega) (show j_z + 1 < i_z from by omega) i1_z
                  have := e1_z (by omega)
                  omega
          exact if_pos ⟨by omega, fz⟩
        · intro w_z
          unfold nxP
          rw [← fe]
          refine if_neg (fun z_z => ?_)
          have ek : e_z = (k_z : Int) + 1 := by omega
          by_cases c_z : j_z + 1 < K_z
          · have f1_z := (b3 (j_z + 1) (by omega) c_z).2.2
            rw [← e1_z c_z, ek] at f1_z
            omega
          · have := e2_z c_z
            omega
      generalize csm X_z Y (nxP F_z n_z) px py k_z = s_z at *
      generalize crs (X_z k_z) (Y k_z) (X_z (nxP F_z n_z k_z)) (Y (nxP F_z n_z k_z)) px py = v_z at *
      rw [B_248_73]
      by_cases c_z : (k_z : Int) + 1 < e_z
      · rw [nxe.1 c_z] at cr
        simp (disch := omega) only [B_248_112, h_z.u, cr, B_248_119, inI, inL, isT, kInt, kByt, true_and, and_true, an_t, im_t, im_f, or_true, true_or, true_imp_iff, false_imp_iff, not_true_eq_false, not_false_eq_true, gK_uI, gK_uL, gK_uR, gK_uCI, gK_uCL, gN_uI, gN_uL, gN_uR, gN_uCI, gN_uCL, gR_uI, gR_uL, gR_uCI, gR_uCL, gI_uL, gI_uR, gI_uCL, gL_uI, gL_uR, gL_uCI, gz_uI, gz_uL, gz_uR, gz_uCI, gz_uCL, gs_uI, gs_uL, gs_uR, gs_uCI, gs_uCL, rI_at, rL_at, rR_at, rI_ne, rL_ne, rR_ne, rI_nk, rL_nk, rR_nk, rI_eq, rL_eq, rR_eq, Option.toList_some, Option.toList_none, List.cons_append, List.nil_append, List.append_nil, zc_eq, zc_lt, zc_le, zc_ge, zc_gt]
        all_goals exact go2
      · rw [nxe.2 c_z] at cr
        simp (disch := omega) only [B_248_110, B_248_112, h_z.u, cr, B_248_119, inI, inL, isT, kInt, kByt, true_and, and_true, an_t, im_t, im_f, or_true, true_or, true_imp_iff, false_imp_iff, not_true_eq_false, not_false_eq_true, gK_uI, gK_uL, gK_uR, gK_uCI, gK_uCL, gN_uI, gN_uL, gN_uR, gN_uCI, gN_uCL, gR_uI, gR_uL, gR_uCI, gR_uCL, gI_uL, gI_uR, gI_uCL, gL_uI, gL_uR, gL_uCI, gz_uI, gz_uL, gz_uR, gz_uCI, gz_uCL, gs_uI, gs_uL, gs_uR, gs_uCI, gs_uCL, rI_at, rL_at, rR_at, rI_ne, rL_ne, rR_ne, rI_nk, rL_nk, rR_nk, rI_eq, rL_eq, rR_eq, Option.toList_some, Option.toList_none, List.cons_append, List.nil_append, List.append_nil, zc_eq, zc_lt, zc_le, zc_ge, zc_gt]
        all_goals exact go2
  -- the parts
  have outer_z : ∀ d_z : Nat, ∀ j_z : Int, 0 ≤ j_z → j_z + d_z = K_z → ∀ u7 u8 u9 : AV, ∀ sm_z : Int, (j_z < K_z → sm_z = csm X_z Y (nxP F_z n_z) px py (Bg j_z).toNat) → (j_z = K_z → sm_z = csm X_z Y (nxP F_z n_z) px py n_z.toNat) → At G 248 6 [a_r m, a_i q_z, a_i o, a_i px, a_i py, a_i sm_z, a_i j_z, u7, u8, u9] [] T Q := by
    intro d_z
    induction d_z with
    | zero =>
      intro j_z j0 jK u7 u8 u9 sm_z _ h2
      have es := h2 (by omega)
      have jk : j_z = K_z := by omega
      subst jk
      rw [← es] at hQ
      have fin_z : At G 248 134 [a_r m, a_i q_z, a_i o, a_i px, a_i py, a_i sm_z, a_i j_z, u7, u8, u9] [] T Q := by
        have sb_z := csm_bd X_z Y (nxP F_z n_z) px py n_z.toNat
        rw [← es] at sb_z
        clear h2 es inner_z
        unfold covI at hQ
        by_cases co : o = 0
        · rw [if_pos co] at hQ
          by_cases cs : sm_z = 0
          · rw [if_pos cs] at hQ
            simp (disch := omega) only [B_248_134, co, cs, B_248_147, B_248_163, not_true_eq_false, inI, inL, isT, kInt, kByt, true_and, and_true, an_t, im_t, im_f, or_true, true_or, true_imp_iff, false_imp_iff, not_true_eq_false, not_false_eq_true, gK_uI, gK_uL, gK_uR, gK_uCI, gK_uCL, gN_uI, gN_uL, gN_uR, gN_uCI, gN_uCL, gR_uI, gR_uL, gR_uCI, gR_uCL, gI_uL, gI_uR, gI_uCL, gL_uI, gL_uR, gL_uCI, gz_uI, gz_uL, gz_uR, gz_uCI, gz_uCL, gs_uI, gs_uL, gs_uR, gs_uCI, gs_uCL, rI_at, rL_at, rR_at, rI_ne, rL_ne, rR_ne, rI_nk, rL_nk, rR_nk, rI_eq, rL_eq, rR_eq, Option.toList_some, Option.toList_none, List.cons_append, List.nil_append, List.append_nil, zc_eq, zc_lt, zc_le, zc_ge, zc_gt]
            all_goals exact hQ
          · rw [if_neg cs] at hQ
            simp (disch := omega) only [B_248_134, co, cs, B_248_163, not_true_eq_false, inI, inL, isT, kInt, kByt, true_and, and_true, an_t, im_t, im_f, or_true, true_or, true_imp_iff, false_imp_iff, not_true_eq_false, not_false_eq_true, gK_uI, gK_uL, gK_uR, gK_uCI, gK_uCL, gN_uI, gN_uL, gN_uR, gN_uCI, gN_uCL, gR_uI, gR_uL, gR_uCI, gR_uCL, gI_uL, gI_uR, gI_uCL, gL_uI, gL_uR, gL_uCI, gz_uI, gz_uL, gz_uR, gz_uCI, gz_uCL, gs_uI, gs_uL, gs_uR, gs_uCI, gs_uCL, rI_at, rL_at, rR_at, rI_ne, rL_ne, rR_ne, rI_nk, rL_nk, rR_nk, rI_eq, rL_eq, rR_eq, Option.toList_some, Option.toList_none, List.cons_append, List.nil_append, List.append_nil, zc_eq, zc_lt, zc_le, zc_ge, zc_gt]
            all_goals exact hQ
        · rw [if_neg co] at hQ
          have td : inI (Int.tdiv sm_z 2) := by
            have := tdv_bd sm_z 2
            exact ⟨by omega, by omega⟩
          by_cases cs : sm_z % 2 = 0
          · rw [cs] at hQ
            rw [B_248_134]
            refine ⟨fun _ => ?_, fun w_z => absurd co w_z⟩
            rw [B_248_151]
            refine ⟨by decide, td, fun _ => ?_, fun w_z => absurd ((tm2 sm_z).mpr cs) w_z⟩
            simp (disch := omega) only [B_248_162, B_248_163, inI, inL, isT, kInt, kByt, true_and, and_true, an_t, im_t, im_f, or_true, true_or, true_imp_iff, false_imp_iff, not_true_eq_false, not_false_eq_true, gK_uI, gK_uL, gK_uR, gK_uCI, gK_uCL, gN_uI, gN_uL, gN_uR, gN_uCI, gN_uCL, gR_uI, gR_uL, gR_uCI, gR_uCL, gI_uL, gI_uR, gI_uCL, gL_uI, gL_uR, gL_uCI, gz_uI, gz_uL, gz_uR, gz_uCI, gz_uCL, gs_uI, gs_uL, gs_uR, gs_uCI, gs_uCL, rI_at, rL_at, rR_at, rI_ne, rL_ne, rR_ne, rI_nk, rL_nk, rR_nk, rI_eq, rL_eq, rR_eq, Option.toList_some, Option.toList_none, List.cons_append, List.nil_append, List.append_nil, zc_eq, zc_lt, zc_le, zc_ge, zc_gt]
            all_goals exact hQ
          · rw [show sm_z % 2 = 1 from by omega] at hQ
            rw [B_248_134]
            refine ⟨fun _ => ?_, fun w_z => absurd co w_z⟩
            rw [B_248_151]
            refine ⟨by decide, td, fun w_z => absurd ((tm2 sm_z).mp w_z) cs, fun _ => ?_⟩
            simp (disch := omega) only [B_248_163, inI, inL, isT, kInt, kByt, true_and, and_true, an_t, im_t, im_f, or_true, true_or, true_imp_iff, false_imp_iff, not_true_eq_false, not_false_eq_true, gK_uI, gK_uL, gK_uR, gK_uCI, gK_uCL, gN_uI, gN_uL, gN_uR, gN_uCI, gN_uCL, gR_uI, gR_uL, gR_uCI, gR_uCL, gI_uL, gI_uR, gI_uCL, gL_uI, gL_uR, gL_uCI, gz_uI, gz_uL, gz_uR, gz_uCI, gz_uCL, gs_uI, gs_uL, gs_uR, gs_uCI, gs_uCL, rI_at, rL_at, rR_at, rI_ne, rL_ne, rR_ne, rI_nk, rL_nk, rR_nk, rI_eq, rL_eq, rR_eq, Option.toList_some, Option.toList_none, List.cons_append, List.nil_append, List.append_nil, zc_eq, zc_lt, zc_le, zc_ge, zc_gt]
            all_goals exact hQ
      simp (disch := omega) only [B_248_6, h_z.u, hK_z, inI, inL, isT, kInt, kByt, true_and, and_true, an_t, im_t, im_f, or_true, true_or, true_imp_iff, false_imp_iff, not_true_eq_false, not_false_eq_true, gK_uI, gK_uL, gK_uR, gK_uCI, gK_uCL, gN_uI, gN_uL, gN_uR, gN_uCI, gN_uCL, gR_uI, gR_uL, gR_uCI, gR_uCL, gI_uL, gI_uR, gI_uCL, gL_uI, gL_uR, gL_uCI, gz_uI, gz_uL, gz_uR, gz_uCI, gz_uCL, gs_uI, gs_uL, gs_uR, gs_uCI, gs_uCL, rI_at, rL_at, rR_at, rI_ne, rL_ne, rR_ne, rI_nk, rL_nk, rR_nk, rI_eq, rL_eq, rR_eq, Option.toList_some, Option.toList_none, List.cons_append, List.nil_append, List.append_nil, zc_eq, zc_lt, zc_le, zc_ge, zc_gt]
      all_goals exact fin_z
    | succ d_z ih_z =>
      intro j_z j0 jK u7 u8 u9 sm_z h1 _
      have es := h1 (by omega)
      have bj := b3 j_z j0 (by omega)
      rw [es]
      have bk : ((Bg j_z).toNat : Int) = Bg j_z := by omega
      by_cases c_z : j_z + 1 < K_z
      · have bj2 := b3 (j_z + 1) (by omega) c_z
        have bl := b4 j_z j0 c_z
        have n1_z := ih_z (j_z + 1) (by omega) (by omega) (a_i (Bg j_z)) (a_i (Bg (j_z + 1))) (a_i (Bg (j_z + 1))) _ (fun _ => rfl) (fun w_z => by omega)
        have go_z := inner_z j_z j0 (by omega) (Bg (j_z + 1)) (fun _ => rfl) (fun w_z => absurd c_z w_z) (Bg (j_z + 1) - Bg j_z).toNat (Bg j_z).toNat (by omega) (by omega) (by
          simp (disch := omega) only [B_248_128, inI, inL, isT, kInt, kByt, true_and, and_true, an_t, im_t, im_f, or_true, true_or, true_imp_iff, false_imp_iff, not_true_eq_false, not_false_eq_true, gK_uI, gK_uL, gK_uR, gK_uCI, gK_uCL, gN_uI, gN_uL, gN_uR, gN_uCI, gN_uCL, gR_uI, gR_uL, gR_uCI, gR_uCL, gI_uL, gI_uR, gI_uCL, gL_uI, gL_uR, gL_uCI, gz_uI, gz_uL, gz_uR, gz_uCI, gz_uCL, gs_uI, gs_uL, gs_uR, gs_uCI, gs_uCL, rI_at, rL_at, rR_at, rI_ne, rL_ne, rR_ne, rI_nk, rL_nk, rR_nk, rI_eq, rL_eq, rR_eq, Option.toList_some, Option.toList_none, List.cons_append, List.nil_append, List.append_nil, zc_eq, zc_lt, zc_le, zc_ge, zc_gt]
          all_goals exact n1_z)
        rw [bk] at go_z
        have g1 := hBg j_z
        have g2 := hBg (j_z + 1)
        rw [show 24 * q_z + (j_z + 1) = 24 * q_z + j_z + 1 from by omega] at g2
        simp (disch := omega) only [B_248_6, h_z.u, hK_z, g1, g2, B_248_67, inI, inL, isT, kInt, kByt, true_and, and_true, an_t, im_t, im_f, or_true, true_or, true_imp_iff, false_imp_iff, not_true_eq_false, not_false_eq_true, gK_uI, gK_uL, gK_uR, gK_uCI, gK_uCL, gN_uI, gN_uL, gN_uR, gN_uCI, gN_uCL, gR_uI, gR_uL, gR_uCI, gR_uCL, gI_uL, gI_uR, gI_uCL, gL_uI, gL_uR, gL_uCI, gz_uI, gz_uL, gz_uR, gz_uCI, gz_uCL, gs_uI, gs_uL, gs_uR, gs_uCI, gs_uCL, rI_at, rL_at, rR_at, rI_ne, rL_ne, rR_ne, rI_nk, rL_nk, rR_nk, rI_eq, rL_eq, rR_eq, Option.toList_some, Option.toList_none, List.cons_append, List.nil_append, List.append_nil, zc_eq, zc_lt, zc_le, zc_ge, zc_gt]
        all_goals exact go_z
      · have n1_z := ih_z (j_z + 1) (by omega) (by omega) (a_i (Bg j_z)) (a_i n_z) (a_i n_z) (csm X_z Y (nxP F_z n_z) px py n_z.toNat) (fun w_z => absurd w_z c_z) (fun _ => rfl)
        have go_z := inner_z j_z j0 (by omega) n_z (fun w_z => absurd w_z c_z) (fun _ => rfl) (n_z - Bg j_z).toNat (Bg j_z).toNat (by omega) (by omega) (by
          simp (disch := omega) only [B_248_128, inI, inL, isT, kInt, kByt, true_and, and_true, an_t, im_t, im_f, or_true, true_or, true_imp_iff, false_imp_iff, not_true_eq_false, not_false_eq_true, gK_uI, gK_uL, gK_uR, gK_uCI, gK_uCL, gN_uI, gN_uL, gN_uR, gN_uCI, gN_uCL, gR_uI, gR_uL, gR_uCI, gR_uCL, gI_uL, gI_uR, gI_uCL, gL_uI, gL_uR, gL_uCI, gz_uI, gz_uL, gz_uR, gz_uCI, gz_uCL, gs_uI, gs_uL, gs_uR, gs_uCI, gs_uCL, rI_at, rL_at, rR_at, rI_ne, rL_ne, rR_ne, rI_nk, rL_nk, rR_nk, rI_eq, rL_eq, rR_eq, Option.toList_some, Option.toList_none, List.cons_append, List.nil_append, List.append_nil, zc_eq, zc_lt, zc_le, zc_ge, zc_gt]
          all_goals exact n1_z)
        rw [bk] at go_z
        have g1 := hBg j_z
        simp (disch := omega) only [B_248_6, h_z.u, hK_z, hn, g1, B_248_61, B_248_67, inI, inL, isT, kInt, kByt, true_and, and_true, an_t, im_t, im_f, or_true, true_or, true_imp_iff, false_imp_iff, not_true_eq_false, not_false_eq_true, gK_uI, gK_uL, gK_uR, gK_uCI, gK_uCL, gN_uI, gN_uL, gN_uR, gN_uCI, gN_uCL, gR_uI, gR_uL, gR_uCI, gR_uCL, gI_uL, gI_uR, gI_uCL, gL_uI, gL_uR, gL_uCI, gz_uI, gz_uL, gz_uR, gz_uCI, gz_uCL, gs_uI, gs_uL, gs_uR, gs_uCI, gs_uCL, rI_at, rL_at, rR_at, rI_ne, rL_ne, rR_ne, rI_nk, rL_nk, rR_nk, rI_eq, rL_eq, rR_eq, Option.toList_some, Option.toList_none, List.cons_append, List.nil_append, List.append_nil, zc_eq, zc_lt, zc_le, zc_ge, zc_gt]
        all_goals exact go_z
  have o0_z := outer_z K_z.toNat 0 (Int.le_refl _) (by omega) a_u a_u a_u 0 (fun w_z => by
    have := (b2 (by omega)).2
    rw [this]
    rfl) (fun w_z => by
    have : n_z = 0 := by
      by_cases c_z : 0 < n_z
      · have := (b2 c_z).1
        omega
      · omega
    rw [this]
    rfl)
  simp (disch := omega) only [E_M_isCovered, B_248_0, inI, inL, isT, kInt, kByt, true_and, and_true, an_t, im_t, im_f, or_true, true_or, true_imp_iff, false_imp_iff, not_true_eq_false, not_false_eq_true, gK_uI, gK_uL, gK_uR, gK_uCI, gK_uCL, gN_uI, gN_uL, gN_uR, gN_uCI, gN_uCL, gR_uI, gR_uL, gR_uCI, gR_uCL, gI_uL, gI_uR, gI_uCL, gL_uI, gL_uR, gL_uCI, gz_uI, gz_uL, gz_uR, gz_uCI, gz_uCL, gs_uI, gs_uL, gs_uR, gs_uCI, gs_uCL, rI_at, rL_at, rR_at, rI_ne, rL_ne, rR_ne, rI_nk, rL_nk, rR_nk, rI_eq, rL_eq, rR_eq, Option.toList_some, Option.toList_none, List.cons_append, List.nil_append, List.append_nil, zc_eq, zc_lt, zc_le, zc_ge, zc_gt]
  all_goals exact o0_z
end DC
